theorem dX16_readsFunctions_0 : decode cX16_readsFunctions 0 = .ok (.aload_n 0, 1) := by decide +kernel
theorem dX16_readsFunctions_1 : decode cX16_readsFunctions 1 = .ok (.invokevirtual 277, 3) := by decide +kernel
theorem dX16_readsFunctions_4 : decode cX16_readsFunctions 4 = .ok (.lstore_n 1, 1) := by decide +kernel
theorem dX16_readsFunctions_5 : decode cX16_readsFunctions 5 = .ok (.aload_n 0, 1) := by decide +kernel
theorem dX16_readsFunctions_6 : decode cX16_readsFunctions 6 = .ok (.getfield 221, 3) := by decide +kernel
theorem dX16_readsFunctions_9 : decode cX16_readsFunctions 9 = .ok (.lload_n 1, 1) := by decide +kernel
theorem dX16_readsFunctions_10 : decode cX16_readsFunctions 10 = .ok (.putfield 311, 3) := by decide +kernel
theorem dX16_readsFunctions_13 : decode cX16_readsFunctions 13 = .ok (.aload_n 0, 1) := by decide +kernel
theorem dX16_readsFunctions_14 : decode cX16_readsFunctions 14 = .ok (.getfield 221, 3) := by decide +kernel
theorem dX16_readsFunctions_17 : decode cX16_readsFunctions 17 = .ok (.aload_n 0, 1) := by decide +kernel
theorem dX16_readsFunctions_18 : decode cX16_readsFunctions 18 = .ok (.lload_n 1, 1) := by decide +kernel
theorem dX16_readsFunctions_19 : decode cX16_readsFunctions 19 = .ok (.invokevirtual 377, 3) := by decide +kernel
theorem dX16_readsFunctions_22 : decode cX16_readsFunctions 22 = .ok (.putfield 426, 3) := by decide +kernel
theorem dX16_readsFunctions_25 : decode cX16_readsFunctions 25 = .ok (.lconst 0, 1) := by decide +kernel
theorem dX16_readsFunctions_26 : decode cX16_readsFunctions 26 = .ok (.lstore_n 3, 1) := by decide +kernel
theorem dX16_readsFunctions_27 : decode cX16_readsFunctions 27 = .ok (.lload_n 3, 1) := by decide +kernel
theorem dX16_readsFunctions_28 : decode cX16_readsFunctions 28 = .ok (.lload_n 1, 1) := by decide +kernel
theorem dX16_readsFunctions_29 : decode cX16_readsFunctions 29 = .ok (.lcmp, 1) := by decide +kernel
theorem dX16_readsFunctions_30 : decode cX16_readsFunctions 30 = .ok (.ifCond .ge 36, 3) := by decide +kernel
theorem dX16_readsFunctions_33 : decode cX16_readsFunctions 33 = .ok (.aload_n 0, 1) := by decide +kernel
theorem dX16_readsFunctions_34 : decode cX16_readsFunctions 34 = .ok (.invokevirtual 277, 3) := by decide +kernel
theorem dX16_readsFunctions_37 : decode cX16_readsFunctions 37 = .ok (.lstore 5, 2) := by decide +kernel
theorem dX16_readsFunctions_39 : decode cX16_readsFunctions 39 = .ok (.lload_n 3, 1) := by decide +kernel
theorem dX16_readsFunctions_40 : decode cX16_readsFunctions 40 = .ok (.ldc2_w 363, 3) := by decide +kernel
theorem dX16_readsFunctions_43 : decode cX16_readsFunctions 43 = .ok (.lcmp, 1) := by decide +kernel
theorem dX16_readsFunctions_44 : decode cX16_readsFunctions 44 = .ok (.ifCond .ge 15, 3) := by decide +kernel
theorem dX16_readsFunctions_47 : decode cX16_readsFunctions 47 = .ok (.aload_n 0, 1) := by decide +kernel
theorem dX16_readsFunctions_48 : decode cX16_readsFunctions 48 = .ok (.getfield 221, 3) := by decide +kernel
theorem dX16_readsFunctions_51 : decode cX16_readsFunctions 51 = .ok (.getfield 429, 3) := by decide +kernel
theorem dX16_readsFunctions_54 : decode cX16_readsFunctions 54 = .ok (.lload_n 3, 1) := by decide +kernel
theorem dX16_readsFunctions_55 : decode cX16_readsFunctions 55 = .ok (.l2i, 1) := by decide +kernel
theorem dX16_readsFunctions_56 : decode cX16_readsFunctions 56 = .ok (.lload 5, 2) := by decide +kernel
theorem dX16_readsFunctions_58 : decode cX16_readsFunctions 58 = .ok (.lastore, 1) := by decide +kernel
theorem dX16_readsFunctions_59 : decode cX16_readsFunctions 59 = .ok (.lload_n 3, 1) := by decide +kernel
theorem dX16_readsFunctions_60 : decode cX16_readsFunctions 60 = .ok (.lconst 1, 1) := by decide +kernel
theorem dX16_readsFunctions_61 : decode cX16_readsFunctions 61 = .ok (.ladd, 1) := by decide +kernel
theorem dX16_readsFunctions_62 : decode cX16_readsFunctions 62 = .ok (.lstore_n 3, 1) := by decide +kernel
theorem dX16_readsFunctions_63 : decode cX16_readsFunctions 63 = .ok (.goto (-36), 3) := by decide +kernel
theorem dX16_readsFunctions_66 : decode cX16_readsFunctions 66 = .ok (.return_, 1) := by decide +kernel
noncomputable def tX16_readsFunctions_27 (x0 : Nat) (x1 : Int64) (x3 : Int64) (h : pm_H) : Option (((Nat × Int64 × Int64 × pm_H)) ⊕ ((Nat × pm_H) ⊕ pm_H)) := if x1 ≤ x3 then (some (.inr (.inr (h)))) else (if pm_kd h x0 = 16 then (fX16_number h x0).bind fun v15 => pt_s v15 fun w17 => if 64 ≤ x3 then (pm_let (x3 + 1) fun y20 => some (.inl ((x0, x1, y20, w17.2)))) else (if pm_kd w17.2 x0 = 16 then (pm_R w17.2 x0 10).bind fun v23 => if pm_kd w17.2 v23 = 14 then (pm_R w17.2 v23 16).bind fun v26 => if pm_kd w17.2 v26 = 35 then if pm_in x3.toInt32 (pm_ln w17.2 v26) then pm_let (x3 + 1) fun y30 => some (.inl ((x0, x1, y30, pm_setL w17.2 v26 x3.toInt32.toNatClampNeg w17.1))) else none else none else none else none) else none)
noncomputable def sX16_readsFunctions : ((Nat × Int64 × Int64 × pm_H)) → Option (((Nat × Int64 × Int64 × pm_H)) ⊕ ((Nat × pm_H) ⊕ pm_H)) := fun z => match z with
  | (x0, x1, x3, h) => tX16_readsFunctions_27 x0 x1 x3 h
noncomputable def fX16_readsFunctions (h : pm_H) (a0 : Nat) : Option ((Nat × pm_H) ⊕ pm_H) := if pm_kd h a0 = 16 then (fX16_number h a0).bind fun v2 => pt_k v2 fun w4 => if pm_kd w4.2 a0 = 16 then (pm_R w4.2 a0 10).bind fun v7 => if pm_kd w4.2 v7 = 14 then (fX16_kept (pm_setL w4.2 v7 14 w4.1) a0 w4.1).bind fun v10 => if pm_kd v10.2 v7 = 14 then pm_lim sX16_readsFunctions ((a0, w4.1, 0, pm_setI v10.2 v7 15 v10.1)) else none else none else none else none
set_option maxHeartbeats 4000000 in
set_option maxRecDepth 100000 in
theorem lpX16_readsFunctions {g : pm_Gm} {l : Launch} {G : pm_Gl} {Qr : Option Value → pm_H → Prop} {Qt : Nat → pm_H → Prop} (C : pm_C g cX16_readsFunctions RX16) (X : pm_XT g l G mX16_readsFunctions 0 0 Qr Qt) {r : ((Nat × pm_H) ⊕ pm_H)} (q : pt_eV Qr Qt r) : ∀ n : Nat, (∀ (x0 : Nat) (x1 : Int64) (x3 : Int64) (h : pm_H), pm_iter sX16_readsFunctions n (x0, x1, x3, h) = some r → pm_G g 27 [(0, .ref x0), (1, .long x1), (3, .long x3)] [] h 0 0) := by
  intro n
  induction n with
  | zero => exact fun _ _ _ _ hf => (by cases hf)
  | succ n ih =>
    refine fun x0 x1 x3 h hf => ?_
    obtain ⟨y, hf, hi⟩ := pm_iter_s hf
    have hf : tX16_readsFunctions_27 x0 x1 x3 h = some y := hf
    unfold tX16_readsFunctions_27 at hf
    refine pm_lload_n C dX16_readsFunctions_27 rfl rfl ?_
    refine pm_lload_n C dX16_readsFunctions_28 rfl rfl ?_
    refine pm_lcmp C dX16_readsFunctions_29 ?_
    refine pm_if_ge (tgt := 66) C dX16_readsFunctions_30 (by decide) (fun c13 => ?_) (fun c13 => ?_)
    · have hf := pm_it hf ((pm_lg_ge _ _).mp c13)
      cases hf
      cases hi
      exact pt_vret C X dX16_readsFunctions_66 rfl (Nat.le_refl _) (Nat.le_refl _) q
    · have hf := pm_ie hf ((fun z => c13 ((pm_lg_ge _ _).mpr z)))
      refine pm_aload_n C dX16_readsFunctions_33 rfl rfl ?_
      obtain ⟨k14, hf⟩ := pm_if hf
      obtain ⟨v15, e16, hf⟩ := pm_bd hf
      refine pt_callVT (as := []) (st := []) C X dX16_readsFunctions_34 ltX16_277 myX16_number viX16_number ⟨by decide, by decide⟩ rfl rfl k14 (Nat.le_of_ble_eq_true rfl) (Nat.le_refl _) (Nat.le_refl _) (ctX16_number e16 ?_)
      rcases v15 with z18 | w17
      · have hf := pt_sl hf
        cases hf
        cases hi
        exact q
      have hf := pt_sr hf
      show pm_G g 37 [(0, .ref x0), (1, .long x1), (3, .long x3)] [.long w17.1] w17.2 0 0
      refine pm_lstore (lv' := [(5, .long w17.1), (0, .ref x0), (1, .long x1), (3, .long x3)]) C dX16_readsFunctions_37 (pt_nl X (by decide)) rfl ?_
      refine pm_lload_n C dX16_readsFunctions_39 rfl rfl ?_
      refine pm_ldc2 C dX16_readsFunctions_40 cnX16_363 ?_
      refine pm_lcmp C dX16_readsFunctions_43 ?_
      refine pm_if_ge (tgt := 59) C dX16_readsFunctions_44 (by decide) (fun c19 => ?_) (fun c19 => ?_)
      · have hf := pm_it hf ((pm_lg_ge _ _).mp c19)
        refine pm_lload_n C dX16_readsFunctions_59 rfl rfl ?_
        refine pm_lconst (v := 1) C dX16_readsFunctions_60 (by decide) ?_
        refine pm_ladd C dX16_readsFunctions_61 ?_
        obtain ⟨y20, e21, hf⟩ := pm_lt hf
        refine pm_topL e21 ?_
        refine pm_lstore_n (lv' := [(3, .long y20), (5, .long w17.1), (0, .ref x0), (1, .long x1)]) C dX16_readsFunctions_62 rfl (pt_nl X (by decide)) rfl ?_
        refine pm_goto (tgt := 27) C dX16_readsFunctions_63 (by decide) ?_
        cases hf
        exact pm_sub [2, 3, 0] rfl (ih x0 x1 y20 w17.2 hi)
      · have hf := pm_ie hf ((fun z => c19 ((pm_lg_ge _ _).mpr z)))
        refine pm_aload_n C dX16_readsFunctions_47 rfl rfl ?_
        obtain ⟨k22, hf⟩ := pm_if hf
        obtain ⟨v23, e24, hf⟩ := pm_bd hf
        refine pm_getR C dX16_readsFunctions_48 flX16_221 rfl k22 e24 ?_
        obtain ⟨k25, hf⟩ := pm_if hf
        obtain ⟨v26, e27, hf⟩ := pm_bd hf
        refine pm_getR C dX16_readsFunctions_51 flX16_429 rfl k25 e27 ?_
        refine pm_lload_n C dX16_readsFunctions_54 rfl rfl ?_
        refine pm_l2i C dX16_readsFunctions_55 ?_
        refine pm_lload C dX16_readsFunctions_56 rfl ?_
        obtain ⟨k28, hf⟩ := pm_if hf
        obtain ⟨u29, hf⟩ := pm_if hf
        refine pm_last C dX16_readsFunctions_58 k28 u29 ?_
        refine pm_lload_n C dX16_readsFunctions_59 rfl rfl ?_
        refine pm_lconst (v := 1) C dX16_readsFunctions_60 (by decide) ?_
        refine pm_ladd C dX16_readsFunctions_61 ?_
        obtain ⟨y30, e31, hf⟩ := pm_lt hf
        refine pm_topL e31 ?_
        refine pm_lstore_n (lv' := [(3, .long y30), (5, .long w17.1), (0, .ref x0), (1, .long x1)]) C dX16_readsFunctions_62 rfl (pt_nl X (by decide)) rfl ?_
        refine pm_goto (tgt := 27) C dX16_readsFunctions_63 (by decide) ?_
        cases hf
        exact pm_sub [2, 3, 0] rfl (ih x0 x1 y30 (pm_setL w17.2 v26 x3.toInt32.toNatClampNeg w17.1) hi)
set_option maxHeartbeats 4000000 in
set_option maxRecDepth 100000 in
theorem ctX16_readsFunctions {l : Launch} {G : pm_Gl} {h : pm_H} {a0 : Nat} {r : ((Nat × pm_H) ⊕ pm_H)} {Qr : Option Value → pm_H → Prop} {Qt : Nat → pm_H → Prop} (hf : fX16_readsFunctions h a0 = some r) (q : pt_eV Qr Qt r) : pm_Ctt l G mX16_readsFunctions [.ref a0] h 0 0 Qr Qt := by
  refine pm_bodyT pnX16 (Nat.le_of_ble_eq_true rfl) (fun g C X => ?_)
  have C : pm_C g cX16_readsFunctions RX16 := C
  show pm_G g 0 [(0, .ref a0)] [] h 0 0
  unfold fX16_readsFunctions at hf
  refine pm_aload_n C dX16_readsFunctions_0 rfl rfl ?_
  obtain ⟨k1, hf⟩ := pm_if hf
  obtain ⟨v2, e3, hf⟩ := pm_bd hf
  refine pt_callVT (as := []) (st := []) C X dX16_readsFunctions_1 ltX16_277 myX16_number viX16_number ⟨by decide, by decide⟩ rfl rfl k1 (Nat.le_of_ble_eq_true rfl) (Nat.le_refl _) (Nat.le_refl _) (ctX16_number e3 ?_)
  rcases v2 with z5 | w4
  · have hf := pt_kl hf
    cases hf
    exact q
  have hf := pt_kr hf
  show pm_G g 4 [(0, .ref a0)] [.long w4.1] w4.2 0 0
  refine pm_lstore_n (lv' := [(1, .long w4.1), (0, .ref a0)]) C dX16_readsFunctions_4 rfl (pt_nl X (by decide)) rfl ?_
  refine pm_aload_n C dX16_readsFunctions_5 rfl rfl ?_
  obtain ⟨k6, hf⟩ := pm_if hf
  obtain ⟨v7, e8, hf⟩ := pm_bd hf
  refine pm_getR C dX16_readsFunctions_6 flX16_221 rfl k6 e8 ?_
  refine pm_lload_n C dX16_readsFunctions_9 rfl rfl ?_
  obtain ⟨k9, hf⟩ := pm_if hf
  refine pm_putL C dX16_readsFunctions_10 flX16_311 rfl rfl k9 ?_
  refine pm_aload_n C dX16_readsFunctions_13 rfl rfl ?_
  refine pm_getR C dX16_readsFunctions_14 flX16_221 rfl k6 e8 ?_
  refine pm_aload_n C dX16_readsFunctions_17 rfl rfl ?_
  refine pm_lload_n C dX16_readsFunctions_18 rfl rfl ?_
  obtain ⟨v10, e11, hf⟩ := pm_bd hf
  refine pt_callV (as := [.long w4.1]) (st := [.ref v7]) C X dX16_readsFunctions_19 lnX16_377 myX16_kept viX16_kept ⟨by decide, by decide⟩ rfl rfl k6 (Nat.le_of_ble_eq_true rfl) (Nat.le_refl _) (Nat.le_refl _) (ctX16_kept e11 ?_)
  show pm_G g 22 [(1, .long w4.1), (0, .ref a0)] [.int v10.1, .ref v7] v10.2 0 0
  obtain ⟨k12, hf⟩ := pm_if hf
  refine pm_putI C dX16_readsFunctions_22 flX16_426 rfl rfl k12 rfl rfl ?_
  refine pm_lconst (v := 0) C dX16_readsFunctions_25 (by decide) ?_
  refine pm_lstore_n (lv' := [(3, .long 0), (1, .long w4.1), (0, .ref a0)]) C dX16_readsFunctions_26 rfl (pt_nl X (by decide)) rfl ?_
  obtain ⟨n, hn⟩ := pm_lim_iter hf
  exact pm_sub [2, 1, 0] rfl ((lpX16_readsFunctions C X q n) a0 w4.1 0 (pm_setI v10.2 v7 15 v10.1) hn)
theorem dX16_referenceType_0 : decode cX16_referenceType 0 = .ok (.aload_n 0, 1) := by decide +kernel
theorem dX16_referenceType_1 : decode cX16_referenceType 1 = .ok (.invokevirtual 264, 3) := by decide +kernel
theorem dX16_referenceType_4 : decode cX16_referenceType 4 = .ok (.istore_n 1, 1) := by decide +kernel
theorem dX16_referenceType_5 : decode cX16_referenceType 5 = .ok (.iload_n 1, 1) := by decide +kernel
theorem dX16_referenceType_6 : decode cX16_referenceType 6 = .ok (.invokestatic 270, 3) := by decide +kernel
theorem dX16_referenceType_9 : decode cX16_referenceType 9 = .ok (.ifCond .ne 15, 3) := by decide +kernel
theorem dX16_referenceType_12 : decode cX16_referenceType 12 = .ok (.aload_n 0, 1) := by decide +kernel
theorem dX16_referenceType_13 : decode cX16_referenceType 13 = .ok (.bipush 8, 2) := by decide +kernel
theorem dX16_referenceType_15 : decode cX16_referenceType 15 = .ok (.aload_n 0, 1) := by decide +kernel
theorem dX16_referenceType_16 : decode cX16_referenceType 16 = .ok (.getfield 251, 3) := by decide +kernel
theorem dX16_referenceType_19 : decode cX16_referenceType 19 = .ok (.iconst 1, 1) := by decide +kernel
theorem dX16_referenceType_20 : decode cX16_referenceType 20 = .ok (.isub, 1) := by decide +kernel
theorem dX16_referenceType_21 : decode cX16_referenceType 21 = .ok (.invokevirtual 257, 3) := by decide +kernel
theorem dX16_referenceType_24 : decode cX16_referenceType 24 = .ok (.iload_n 1, 1) := by decide +kernel
theorem dX16_referenceType_25 : decode cX16_referenceType 25 = .ok (.ireturn, 1) := by decide +kernel
def fX16_referenceType (h : pm_H) (a0 : Nat) : Option ((Nat × pm_H) ⊕ (Int32 × pm_H)) := if pm_kd h a0 = 16 then (fX16_next h a0).bind fun v2 => pt_k v2 fun w4 => pm_let (fX16_isReference w4.1) fun v6 => if v6 = 0 then (if pm_kd w4.2 a0 = 16 then (fX16_stops w4.2 a0 8 ((pm_I w4.2 a0 11) - 1)).bind fun v10 => pt_k v10 fun w12 => some (.inr (w4.1, w12)) else none) else (some (.inr (w4.1, w4.2))) else none
set_option maxHeartbeats 4000000 in
set_option maxRecDepth 100000 in
theorem ctX16_referenceType {l : Launch} {G : pm_Gl} {h : pm_H} {a0 : Nat} {r : ((Nat × pm_H) ⊕ (Int32 × pm_H))} {Qr : Option Value → pm_H → Prop} {Qt : Nat → pm_H → Prop} (hf : fX16_referenceType h a0 = some r) (q : pt_eI Qr Qt r) : pm_Ctt l G mX16_referenceType [.ref a0] h 0 0 Qr Qt := by
  refine pm_bodyT pnX16 (Nat.le_of_ble_eq_true rfl) (fun g C X => ?_)
  have C : pm_C g cX16_referenceType RX16 := C
  show pm_G g 0 [(0, .ref a0)] [] h 0 0
  unfold fX16_referenceType at hf
  refine pm_aload_n C dX16_referenceType_0 rfl rfl ?_
  obtain ⟨k1, hf⟩ := pm_if hf
  obtain ⟨v2, e3, hf⟩ := pm_bd hf
  refine pt_callVT (as := []) (st := []) C X dX16_referenceType_1 ltX16_264 myX16_next viX16_next ⟨by decide, by decide⟩ rfl rfl k1 (Nat.le_of_ble_eq_true rfl) (Nat.le_refl _) (Nat.le_refl _) (ctX16_next e3 ?_)
  rcases v2 with z5 | w4
  · have hf := pt_kl hf
    cases hf
    exact q
  have hf := pt_kr hf
  show pm_G g 4 [(0, .ref a0)] [.int w4.1] w4.2 0 0
  refine pm_istore_n (lv' := [(1, .int w4.1), (0, .ref a0)]) C dX16_referenceType_4 rfl (pt_nl X (by decide)) rfl ?_
  refine pm_iload_n C dX16_referenceType_5 rfl rfl ?_
  obtain ⟨v6, e7, hf⟩ := pm_lt hf
  refine pt_callS (as := [.int w4.1]) (st := []) C X dX16_referenceType_6 lnX16_270 myX16_isReference stX16_isReference ⟨by decide, by decide⟩ rfl rfl (Nat.le_of_ble_eq_true rfl) (Nat.le_refl _) (Nat.le_refl _) (ctX16_isReference e7 ?_)
  show pm_G g 9 [(1, .int w4.1), (0, .ref a0)] [.int v6] w4.2 0 0
  refine pm_if_ne (tgt := 24) C dX16_referenceType_9 (by decide) (fun c8 => ?_) (fun c8 => ?_)
  · have hf := pm_ie hf c8
    refine pm_iload_n C dX16_referenceType_24 rfl rfl ?_
    cases hf
    exact pt_iret C X dX16_referenceType_25 rfl (Nat.le_refl _) (Nat.le_refl _) q
  · have hf := pm_it hf c8
    refine pm_aload_n C dX16_referenceType_12 rfl rfl ?_
    refine pm_bipush (v := 8) C dX16_referenceType_13 (by decide) ?_
    refine pm_aload_n C dX16_referenceType_15 rfl rfl ?_
    obtain ⟨k9, hf⟩ := pm_if hf
    refine pm_getI C dX16_referenceType_16 flX16_251 rfl k9 rfl ?_
    refine pm_iconst (v := 1) C dX16_referenceType_19 (by decide) ?_
    refine pm_isub C dX16_referenceType_20 ?_
    obtain ⟨v10, e11, hf⟩ := pm_bd hf
    refine pt_callVT (as := [.int 8, .int ((pm_I w4.2 a0 11) - 1)]) (st := []) C X dX16_referenceType_21 ltX16_257 myX16_stops viX16_stops ⟨by decide, by decide⟩ rfl rfl k9 (Nat.le_of_ble_eq_true rfl) (Nat.le_refl _) (Nat.le_refl _) (ctX16_stops e11 ?_)
    rcases v10 with z13 | w12
    · have hf := pt_kl hf
      cases hf
      exact q
    have hf := pt_kr hf
    show pm_G g 24 [(1, .int w4.1), (0, .ref a0)] [] w12 0 0
    refine pm_iload_n C dX16_referenceType_24 rfl rfl ?_
    cases hf
    exact pt_iret C X dX16_referenceType_25 rfl (Nat.le_refl _) (Nat.le_refl _) q
theorem dX16_selects_0 : decode cX16_selects 0 = .ok (.aload_n 0, 1) := by decide +kernel
theorem dX16_selects_1 : decode cX16_selects 1 = .ok (.bipush 127, 2) := by decide +kernel
theorem dX16_selects_3 : decode cX16_selects 3 = .ok (.iconst 1, 1) := by decide +kernel
theorem dX16_selects_4 : decode cX16_selects 4 = .ok (.invokevirtual 750, 3) := by decide +kernel
theorem dX16_selects_7 : decode cX16_selects 7 = .ok (.aload_n 0, 1) := by decide +kernel
theorem dX16_selects_8 : decode cX16_selects 8 = .ok (.iconst 0, 1) := by decide +kernel
theorem dX16_selects_9 : decode cX16_selects 9 = .ok (.invokevirtual 692, 3) := by decide +kernel
theorem dX16_selects_12 : decode cX16_selects 12 = .ok (.istore_n 1, 1) := by decide +kernel
theorem dX16_selects_13 : decode cX16_selects 13 = .ok (.aload_n 0, 1) := by decide +kernel
theorem dX16_selects_14 : decode cX16_selects 14 = .ok (.iconst 0, 1) := by decide +kernel
theorem dX16_selects_15 : decode cX16_selects 15 = .ok (.invokevirtual 692, 3) := by decide +kernel
theorem dX16_selects_18 : decode cX16_selects 18 = .ok (.istore_n 2, 1) := by decide +kernel
theorem dX16_selects_19 : decode cX16_selects 19 = .ok (.iload_n 1, 1) := by decide +kernel
theorem dX16_selects_20 : decode cX16_selects 20 = .ok (.invokestatic 270, 3) := by decide +kernel
theorem dX16_selects_23 : decode cX16_selects 23 = .ok (.ifCond .ne 29, 3) := by decide +kernel
theorem dX16_selects_26 : decode cX16_selects 26 = .ok (.iload_n 2, 1) := by decide +kernel
theorem dX16_selects_27 : decode cX16_selects 27 = .ok (.invokestatic 270, 3) := by decide +kernel
theorem dX16_selects_30 : decode cX16_selects 30 = .ok (.ifCond .ne 22, 3) := by decide +kernel
theorem dX16_selects_33 : decode cX16_selects 33 = .ok (.iload_n 1, 1) := by decide +kernel
theorem dX16_selects_34 : decode cX16_selects 34 = .ok (.iconst (-1), 1) := by decide +kernel
theorem dX16_selects_35 : decode cX16_selects 35 = .ok (.if_icmp .eq 13, 3) := by decide +kernel
theorem dX16_selects_38 : decode cX16_selects 38 = .ok (.iload_n 2, 1) := by decide +kernel
theorem dX16_selects_39 : decode cX16_selects 39 = .ok (.iconst (-1), 1) := by decide +kernel
theorem dX16_selects_40 : decode cX16_selects 40 = .ok (.if_icmp .eq 8, 3) := by decide +kernel
theorem dX16_selects_43 : decode cX16_selects 43 = .ok (.iload_n 1, 1) := by decide +kernel
theorem dX16_selects_44 : decode cX16_selects 44 = .ok (.iload_n 2, 1) := by decide +kernel
theorem dX16_selects_45 : decode cX16_selects 45 = .ok (.if_icmp .ne 7, 3) := by decide +kernel
theorem dX16_selects_48 : decode cX16_selects 48 = .ok (.iconst 1, 1) := by decide +kernel
theorem dX16_selects_49 : decode cX16_selects 49 = .ok (.goto 4, 3) := by decide +kernel
theorem dX16_selects_52 : decode cX16_selects 52 = .ok (.iconst 0, 1) := by decide +kernel
theorem dX16_selects_53 : decode cX16_selects 53 = .ok (.istore_n 3, 1) := by decide +kernel
theorem dX16_selects_54 : decode cX16_selects 54 = .ok (.iload_n 3, 1) := by decide +kernel
theorem dX16_selects_55 : decode cX16_selects 55 = .ok (.ifCond .ne 13, 3) := by decide +kernel
theorem dX16_selects_58 : decode cX16_selects 58 = .ok (.aload_n 0, 1) := by decide +kernel
theorem dX16_selects_59 : decode cX16_selects 59 = .ok (.bipush 29, 2) := by decide +kernel
theorem dX16_selects_61 : decode cX16_selects 61 = .ok (.aload_n 0, 1) := by decide +kernel
theorem dX16_selects_62 : decode cX16_selects 62 = .ok (.getfield 686, 3) := by decide +kernel
theorem dX16_selects_65 : decode cX16_selects 65 = .ok (.invokevirtual 257, 3) := by decide +kernel
theorem dX16_selects_68 : decode cX16_selects 68 = .ok (.aload_n 0, 1) := by decide +kernel
theorem dX16_selects_69 : decode cX16_selects 69 = .ok (.iload_n 1, 1) := by decide +kernel
theorem dX16_selects_70 : decode cX16_selects 70 = .ok (.iconst (-1), 1) := by decide +kernel
theorem dX16_selects_71 : decode cX16_selects 71 = .ok (.if_icmp .ne 7, 3) := by decide +kernel
theorem dX16_selects_74 : decode cX16_selects 74 = .ok (.iload_n 2, 1) := by decide +kernel
theorem dX16_selects_75 : decode cX16_selects 75 = .ok (.goto 4, 3) := by decide +kernel
theorem dX16_selects_78 : decode cX16_selects 78 = .ok (.iload_n 1, 1) := by decide +kernel
theorem dX16_selects_79 : decode cX16_selects 79 = .ok (.invokevirtual 695, 3) := by decide +kernel
theorem dX16_selects_82 : decode cX16_selects 82 = .ok (.return_, 1) := by decide +kernel
noncomputable def fX16_selects_b53 (h : pm_H) (x0 : Nat) (x1 : Int32) (x2 : Int32) (s0 : Int32) : Option ((Nat × pm_H) ⊕ pm_H) := if s0 = 0 then (if pm_kd h x0 = 16 then (fX16_stops h x0 29 (pm_I h x0 31)).bind fun v38 => pt_k v38 fun w40 => if x1 = (-1) then (if pm_kd w40 x0 = 16 then (fX16_put w40 x0 x2).bind fun v49 => pt_k v49 fun w51 => some (.inr (w51)) else none) else (if pm_kd w40 x0 = 16 then (fX16_put w40 x0 x1).bind fun v44 => pt_k v44 fun w46 => some (.inr (w46)) else none) else none) else (if x1 = (-1) then (if pm_kd h x0 = 16 then (fX16_put h x0 x2).bind fun v33 => pt_k v33 fun w35 => some (.inr (w35)) else none) else (if pm_kd h x0 = 16 then (fX16_put h x0 x1).bind fun v28 => pt_k v28 fun w30 => some (.inr (w30)) else none))
noncomputable def fX16_selects_b48 (h : pm_H) (x0 : Nat) (x1 : Int32) (x2 : Int32) : Option ((Nat × pm_H) ⊕ pm_H) := fX16_selects_b53 h x0 x1 x2 1
noncomputable def fX16_selects_b52 (h : pm_H) (x0 : Nat) (x1 : Int32) (x2 : Int32) : Option ((Nat × pm_H) ⊕ pm_H) := fX16_selects_b53 h x0 x1 x2 0
noncomputable def fX16_selects (h : pm_H) (a0 : Nat) : Option ((Nat × pm_H) ⊕ pm_H) := if pm_kd h a0 = 16 then (fX16_takes h a0 127 1).bind fun v2 => pt_k v2 fun w4 => if pm_kd w4 a0 = 16 then (fX16_take w4 a0 0).bind fun v7 => pt_k v7 fun w9 => if pm_kd w9.2 a0 = 16 then (fX16_take w9.2 a0 0).bind fun v12 => pt_k v12 fun w14 => pm_let (fX16_isReference w9.1) fun v16 => if v16 = 0 then (pm_let (fX16_isReference w14.1) fun v19 => if v19 = 0 then (if w9.1 = (-1) then (fX16_selects_b48 w14.2 a0 w9.1 w14.1) else (if w14.1 = (-1) then (fX16_selects_b48 w14.2 a0 w9.1 w14.1) else (if w9.1 = w14.1 then (fX16_selects_b48 w14.2 a0 w9.1 w14.1) else (fX16_selects_b52 w14.2 a0 w9.1 w14.1)))) else (fX16_selects_b52 w14.2 a0 w9.1 w14.1)) else (fX16_selects_b52 w14.2 a0 w9.1 w14.1) else none else none else none
set_option maxHeartbeats 4000000 in
set_option maxRecDepth 100000 in
theorem bX16_selects_53 {g : pm_Gm} {l : Launch} {G : pm_Gl} {Qr : Option Value → pm_H → Prop} {Qt : Nat → pm_H → Prop} (C : pm_C g cX16_selects RX16) (X : pm_XT g l G mX16_selects 0 0 Qr Qt) {h : pm_H} {x0 : Nat} {x1 : Int32} {x2 : Int32} {s0 : Int32} {r : ((Nat × pm_H) ⊕ pm_H)} (hf : fX16_selects_b53 h x0 x1 x2 s0 = some r) (q : pt_eV Qr Qt r) : pm_G g 53 [(0, .ref x0), (1, .int x1), (2, .int x2)] [.int s0] h 0 0 := by
  unfold fX16_selects_b53 at hf
  refine pm_istore_n (lv' := [(3, .int s0), (0, .ref x0), (1, .int x1), (2, .int x2)]) C dX16_selects_53 rfl (pt_nl X (by decide)) rfl ?_
  refine pm_iload_n C dX16_selects_54 rfl rfl ?_
  refine pm_if_ne (tgt := 68) C dX16_selects_55 (by decide) (fun c25 => ?_) (fun c25 => ?_)
  · have hf := pm_ie hf c25
    refine pm_aload_n C dX16_selects_68 rfl rfl ?_
    refine pm_iload_n C dX16_selects_69 rfl rfl ?_
    refine pm_iconst (v := (-1)) C dX16_selects_70 (by decide) ?_
    refine pm_icmp_ne (tgt := 78) C dX16_selects_71 (by decide) (fun c26 => ?_) (fun c26 => ?_)
    · have hf := pm_ie hf c26
      refine pm_iload_n C dX16_selects_78 rfl rfl ?_
      obtain ⟨k27, hf⟩ := pm_if hf
      obtain ⟨v28, e29, hf⟩ := pm_bd hf
      refine pt_callVT (as := [.int x1]) (st := []) C X dX16_selects_79 ltX16_695 myX16_put viX16_put ⟨by decide, by decide⟩ rfl rfl k27 (Nat.le_of_ble_eq_true rfl) (Nat.le_refl _) (Nat.le_refl _) (ctX16_put e29 ?_)
      rcases v28 with z31 | w30
      · have hf := pt_kl hf
        cases hf
        exact q
      have hf := pt_kr hf
      show pm_G g 82 [(3, .int s0), (0, .ref x0), (1, .int x1), (2, .int x2)] [] w30 0 0
      cases hf
      exact pt_vret C X dX16_selects_82 rfl (Nat.le_refl _) (Nat.le_refl _) q
    · have hf := pm_it hf c26
      refine pm_iload_n C dX16_selects_74 rfl rfl ?_
      refine pm_goto (tgt := 79) C dX16_selects_75 (by decide) ?_
      obtain ⟨k32, hf⟩ := pm_if hf
      obtain ⟨v33, e34, hf⟩ := pm_bd hf
      refine pt_callVT (as := [.int x2]) (st := []) C X dX16_selects_79 ltX16_695 myX16_put viX16_put ⟨by decide, by decide⟩ rfl rfl k32 (Nat.le_of_ble_eq_true rfl) (Nat.le_refl _) (Nat.le_refl _) (ctX16_put e34 ?_)
      rcases v33 with z36 | w35
      · have hf := pt_kl hf
        cases hf
        exact q
      have hf := pt_kr hf
      show pm_G g 82 [(3, .int s0), (0, .ref x0), (1, .int x1), (2, .int x2)] [] w35 0 0
      cases hf
      exact pt_vret C X dX16_selects_82 rfl (Nat.le_refl _) (Nat.le_refl _) q
  · have hf := pm_it hf c25
    refine pm_aload_n C dX16_selects_58 rfl rfl ?_
    refine pm_bipush (v := 29) C dX16_selects_59 (by decide) ?_
    refine pm_aload_n C dX16_selects_61 rfl rfl ?_
    obtain ⟨k37, hf⟩ := pm_if hf
    refine pm_getI C dX16_selects_62 flX16_686 rfl k37 rfl ?_
    obtain ⟨v38, e39, hf⟩ := pm_bd hf
    refine pt_callVT (as := [.int 29, .int (pm_I h x0 31)]) (st := []) C X dX16_selects_65 ltX16_257 myX16_stops viX16_stops ⟨by decide, by decide⟩ rfl rfl k37 (Nat.le_of_ble_eq_true rfl) (Nat.le_refl _) (Nat.le_refl _) (ctX16_stops e39 ?_)
    rcases v38 with z41 | w40
    · have hf := pt_kl hf
      cases hf
      exact q
    have hf := pt_kr hf
    show pm_G g 68 [(3, .int s0), (0, .ref x0), (1, .int x1), (2, .int x2)] [] w40 0 0
    refine pm_aload_n C dX16_selects_68 rfl rfl ?_
    refine pm_iload_n C dX16_selects_69 rfl rfl ?_
    refine pm_iconst (v := (-1)) C dX16_selects_70 (by decide) ?_
    refine pm_icmp_ne (tgt := 78) C dX16_selects_71 (by decide) (fun c42 => ?_) (fun c42 => ?_)
    · have hf := pm_ie hf c42
      refine pm_iload_n C dX16_selects_78 rfl rfl ?_
      obtain ⟨k43, hf⟩ := pm_if hf
      obtain ⟨v44, e45, hf⟩ := pm_bd hf
      refine pt_callVT (as := [.int x1]) (st := []) C X dX16_selects_79 ltX16_695 myX16_put viX16_put ⟨by decide, by decide⟩ rfl rfl k43 (Nat.le_of_ble_eq_true rfl) (Nat.le_refl _) (Nat.le_refl _) (ctX16_put e45 ?_)
      rcases v44 with z47 | w46
      · have hf := pt_kl hf
        cases hf
        exact q
      have hf := pt_kr hf
      show pm_G g 82 [(3, .int s0), (0, .ref x0), (1, .int x1), (2, .int x2)] [] w46 0 0
      cases hf
      exact pt_vret C X dX16_selects_82 rfl (Nat.le_refl _) (Nat.le_refl _) q
    · have hf := pm_it hf c42
      refine pm_iload_n C dX16_selects_74 rfl rfl ?_
      refine pm_goto (tgt := 79) C dX16_selects_75 (by decide) ?_
      obtain ⟨k48, hf⟩ := pm_if hf
      obtain ⟨v49, e50, hf⟩ := pm_bd hf
      refine pt_callVT (as := [.int x2]) (st := []) C X dX16_selects_79 ltX16_695 myX16_put viX16_put ⟨by decide, by decide⟩ rfl rfl k48 (Nat.le_of_ble_eq_true rfl) (Nat.le_refl _) (Nat.le_refl _) (ctX16_put e50 ?_)
      rcases v49 with z52 | w51
      · have hf := pt_kl hf
        cases hf
        exact q
      have hf := pt_kr hf
      show pm_G g 82 [(3, .int s0), (0, .ref x0), (1, .int x1), (2, .int x2)] [] w51 0 0
      cases hf
      exact pt_vret C X dX16_selects_82 rfl (Nat.le_refl _) (Nat.le_refl _) q
set_option maxHeartbeats 4000000 in
set_option maxRecDepth 100000 in
theorem bX16_selects_48 {g : pm_Gm} {l : Launch} {G : pm_Gl} {Qr : Option Value → pm_H → Prop} {Qt : Nat → pm_H → Prop} (C : pm_C g cX16_selects RX16) (X : pm_XT g l G mX16_selects 0 0 Qr Qt) {h : pm_H} {x0 : Nat} {x1 : Int32} {x2 : Int32} {r : ((Nat × pm_H) ⊕ pm_H)} (hf : fX16_selects_b48 h x0 x1 x2 = some r) (q : pt_eV Qr Qt r) : pm_G g 48 [(0, .ref x0), (1, .int x1), (2, .int x2)] [] h 0 0 := by
  unfold fX16_selects_b48 at hf
  refine pm_iconst (v := 1) C dX16_selects_48 (by decide) ?_
  refine pm_goto (tgt := 53) C dX16_selects_49 (by decide) ?_
  exact pm_sub [0, 1, 2] rfl (bX16_selects_53 C X hf q)
set_option maxHeartbeats 4000000 in
set_option maxRecDepth 100000 in
theorem bX16_selects_52 {g : pm_Gm} {l : Launch} {G : pm_Gl} {Qr : Option Value → pm_H → Prop} {Qt : Nat → pm_H → Prop} (C : pm_C g cX16_selects RX16) (X : pm_XT g l G mX16_selects 0 0 Qr Qt) {h : pm_H} {x0 : Nat} {x1 : Int32} {x2 : Int32} {r : ((Nat × pm_H) ⊕ pm_H)} (hf : fX16_selects_b52 h x0 x1 x2 = some r) (q : pt_eV Qr Qt r) : pm_G g 52 [(0, .ref x0), (1, .int x1), (2, .int x2)] [] h 0 0 := by
  unfold fX16_selects_b52 at hf
  refine pm_iconst (v := 0) C dX16_selects_52 (by decide) ?_
  exact pm_sub [0, 1, 2] rfl (bX16_selects_53 C X hf q)
set_option maxHeartbeats 4000000 in
set_option maxRecDepth 100000 in
theorem ctX16_selects {l : Launch} {G : pm_Gl} {h : pm_H} {a0 : Nat} {r : ((Nat × pm_H) ⊕ pm_H)} {Qr : Option Value → pm_H → Prop} {Qt : Nat → pm_H → Prop} (hf : fX16_selects h a0 = some r) (q : pt_eV Qr Qt r) : pm_Ctt l G mX16_selects [.ref a0] h 0 0 Qr Qt := by
  refine pm_bodyT pnX16 (Nat.le_of_ble_eq_true rfl) (fun g C X => ?_)
  have C : pm_C g cX16_selects RX16 := C
  show pm_G g 0 [(0, .ref a0)] [] h 0 0
  unfold fX16_selects at hf
  refine pm_aload_n C dX16_selects_0 rfl rfl ?_
  refine pm_bipush (v := 127) C dX16_selects_1 (by decide) ?_
  refine pm_iconst (v := 1) C dX16_selects_3 (by decide) ?_
  obtain ⟨k1, hf⟩ := pm_if hf
  obtain ⟨v2, e3, hf⟩ := pm_bd hf
  refine pt_callVT (as := [.int 127, .int 1]) (st := []) C X dX16_selects_4 ltX16_750 myX16_takes viX16_takes ⟨by decide, by decide⟩ rfl rfl k1 (Nat.le_of_ble_eq_true rfl) (Nat.le_refl _) (Nat.le_refl _) (ctX16_takes e3 ?_)
  rcases v2 with z5 | w4
  · have hf := pt_kl hf
    cases hf
    exact q
  have hf := pt_kr hf
  show pm_G g 7 [(0, .ref a0)] [] w4 0 0
  refine pm_aload_n C dX16_selects_7 rfl rfl ?_
  refine pm_iconst (v := 0) C dX16_selects_8 (by decide) ?_
  obtain ⟨k6, hf⟩ := pm_if hf
  obtain ⟨v7, e8, hf⟩ := pm_bd hf
  refine pt_callVT (as := [.int 0]) (st := []) C X dX16_selects_9 ltX16_692 myX16_take viX16_take ⟨by decide, by decide⟩ rfl rfl k6 (Nat.le_of_ble_eq_true rfl) (Nat.le_refl _) (Nat.le_refl _) (ctX16_take e8 ?_)
  rcases v7 with z10 | w9
  · have hf := pt_kl hf
    cases hf
    exact q
  have hf := pt_kr hf
  show pm_G g 12 [(0, .ref a0)] [.int w9.1] w9.2 0 0
  refine pm_istore_n (lv' := [(1, .int w9.1), (0, .ref a0)]) C dX16_selects_12 rfl (pt_nl X (by decide)) rfl ?_
  refine pm_aload_n C dX16_selects_13 rfl rfl ?_
  refine pm_iconst (v := 0) C dX16_selects_14 (by decide) ?_
  obtain ⟨k11, hf⟩ := pm_if hf
  obtain ⟨v12, e13, hf⟩ := pm_bd hf
  refine pt_callVT (as := [.int 0]) (st := []) C X dX16_selects_15 ltX16_692 myX16_take viX16_take ⟨by decide, by decide⟩ rfl rfl k11 (Nat.le_of_ble_eq_true rfl) (Nat.le_refl _) (Nat.le_refl _) (ctX16_take e13 ?_)
  rcases v12 with z15 | w14
  · have hf := pt_kl hf
    cases hf
    exact q
  have hf := pt_kr hf
  show pm_G g 18 [(1, .int w9.1), (0, .ref a0)] [.int w14.1] w14.2 0 0
  refine pm_istore_n (lv' := [(2, .int w14.1), (1, .int w9.1), (0, .ref a0)]) C dX16_selects_18 rfl (pt_nl X (by decide)) rfl ?_
  refine pm_iload_n C dX16_selects_19 rfl rfl ?_
  obtain ⟨v16, e17, hf⟩ := pm_lt hf
  refine pt_callS (as := [.int w9.1]) (st := []) C X dX16_selects_20 lnX16_270 myX16_isReference stX16_isReference ⟨by decide, by decide⟩ rfl rfl (Nat.le_of_ble_eq_true rfl) (Nat.le_refl _) (Nat.le_refl _) (ctX16_isReference e17 ?_)
  show pm_G g 23 [(2, .int w14.1), (1, .int w9.1), (0, .ref a0)] [.int v16] w14.2 0 0
  refine pm_if_ne (tgt := 52) C dX16_selects_23 (by decide) (fun c18 => ?_) (fun c18 => ?_)
  · have hf := pm_ie hf c18
    exact pm_sub [2, 1, 0] rfl (bX16_selects_52 C X hf q)
  · have hf := pm_it hf c18
    refine pm_iload_n C dX16_selects_26 rfl rfl ?_
    obtain ⟨v19, e20, hf⟩ := pm_lt hf
    refine pt_callS (as := [.int w14.1]) (st := []) C X dX16_selects_27 lnX16_270 myX16_isReference stX16_isReference ⟨by decide, by decide⟩ rfl rfl (Nat.le_of_ble_eq_true rfl) (Nat.le_refl _) (Nat.le_refl _) (ctX16_isReference e20 ?_)
    show pm_G g 30 [(2, .int w14.1), (1, .int w9.1), (0, .ref a0)] [.int v19] w14.2 0 0
    refine pm_if_ne (tgt := 52) C dX16_selects_30 (by decide) (fun c21 => ?_) (fun c21 => ?_)
    · have hf := pm_ie hf c21
      exact pm_sub [2, 1, 0] rfl (bX16_selects_52 C X hf q)
    · have hf := pm_it hf c21
      refine pm_iload_n C dX16_selects_33 rfl rfl ?_
      refine pm_iconst (v := (-1)) C dX16_selects_34 (by decide) ?_
      refine pm_icmp_eq (tgt := 48) C dX16_selects_35 (by decide) (fun c22 => ?_) (fun c22 => ?_)
      · have hf := pm_it hf c22
        exact pm_sub [2, 1, 0] rfl (bX16_selects_48 C X hf q)
      · have hf := pm_ie hf c22
        refine pm_iload_n C dX16_selects_38 rfl rfl ?_
        refine pm_iconst (v := (-1)) C dX16_selects_39 (by decide) ?_
        refine pm_icmp_eq (tgt := 48) C dX16_selects_40 (by decide) (fun c23 => ?_) (fun c23 => ?_)
        · have hf := pm_it hf c23
          exact pm_sub [2, 1, 0] rfl (bX16_selects_48 C X hf q)
        · have hf := pm_ie hf c23
          refine pm_iload_n C dX16_selects_43 rfl rfl ?_
          refine pm_iload_n C dX16_selects_44 rfl rfl ?_
          refine pm_icmp_ne (tgt := 52) C dX16_selects_45 (by decide) (fun c24 => ?_) (fun c24 => ?_)
          · have hf := pm_ie hf c24
            exact pm_sub [2, 1, 0] rfl (bX16_selects_52 C X hf q)
          · have hf := pm_it hf c24
            exact pm_sub [2, 1, 0] rfl (bX16_selects_48 C X hf q)
theorem dX16_signed_0 : decode cX16_signed 0 = .ok (.iload_n 1, 1) := by decide +kernel
theorem dX16_signed_1 : decode cX16_signed 1 = .ok (.bipush 64, 2) := by decide +kernel
theorem dX16_signed_3 : decode cX16_signed 3 = .ok (.if_icmp .ne 8, 3) := by decide +kernel
theorem dX16_signed_6 : decode cX16_signed 6 = .ok (.bipush 10, 2) := by decide +kernel
theorem dX16_signed_8 : decode cX16_signed 8 = .ok (.goto 4, 3) := by decide +kernel
theorem dX16_signed_11 : decode cX16_signed 11 = .ok (.iconst 5, 1) := by decide +kernel
theorem dX16_signed_12 : decode cX16_signed 12 = .ok (.istore_n 2, 1) := by decide +kernel
theorem dX16_signed_13 : decode cX16_signed 13 = .ok (.lconst 0, 1) := by decide +kernel
theorem dX16_signed_14 : decode cX16_signed 14 = .ok (.lstore_n 3, 1) := by decide +kernel
theorem dX16_signed_15 : decode cX16_signed 15 = .ok (.iconst 0, 1) := by decide +kernel
theorem dX16_signed_16 : decode cX16_signed 16 = .ok (.istore 5, 2) := by decide +kernel
theorem dX16_signed_18 : decode cX16_signed 18 = .ok (.iload 5, 2) := by decide +kernel
theorem dX16_signed_20 : decode cX16_signed 20 = .ok (.iload_n 2, 1) := by decide +kernel
theorem dX16_signed_21 : decode cX16_signed 21 = .ok (.if_icmp .ge 158, 3) := by decide +kernel
theorem dX16_signed_24 : decode cX16_signed 24 = .ok (.aload_n 0, 1) := by decide +kernel
theorem dX16_signed_25 : decode cX16_signed 25 = .ok (.invokevirtual 264, 3) := by decide +kernel
theorem dX16_signed_28 : decode cX16_signed 28 = .ok (.istore 6, 2) := by decide +kernel
theorem dX16_signed_30 : decode cX16_signed 30 = .ok (.iload 5, 2) := by decide +kernel
theorem dX16_signed_32 : decode cX16_signed 32 = .ok (.iload_n 2, 1) := by decide +kernel
theorem dX16_signed_33 : decode cX16_signed 33 = .ok (.iconst 1, 1) := by decide +kernel
theorem dX16_signed_34 : decode cX16_signed 34 = .ok (.isub, 1) := by decide +kernel
theorem dX16_signed_35 : decode cX16_signed 35 = .ok (.if_icmp .ne 75, 3) := by decide +kernel
theorem dX16_signed_38 : decode cX16_signed 38 = .ok (.iload_n 1, 1) := by decide +kernel
theorem dX16_signed_39 : decode cX16_signed 39 = .ok (.bipush 7, 2) := by decide +kernel
theorem dX16_signed_41 : decode cX16_signed 41 = .ok (.iload 5, 2) := by decide +kernel
theorem dX16_signed_43 : decode cX16_signed 43 = .ok (.imul, 1) := by decide +kernel
theorem dX16_signed_44 : decode cX16_signed 44 = .ok (.isub, 1) := by decide +kernel
theorem dX16_signed_45 : decode cX16_signed 45 = .ok (.istore 7, 2) := by decide +kernel
theorem dX16_signed_47 : decode cX16_signed 47 = .ok (.iload 6, 2) := by decide +kernel
theorem dX16_signed_49 : decode cX16_signed 49 = .ok (.bipush 127, 2) := by decide +kernel
theorem dX16_signed_51 : decode cX16_signed 51 = .ok (.iand, 1) := by decide +kernel
theorem dX16_signed_52 : decode cX16_signed 52 = .ok (.iload 7, 2) := by decide +kernel
theorem dX16_signed_54 : decode cX16_signed 54 = .ok (.ishr, 1) := by decide +kernel
theorem dX16_signed_55 : decode cX16_signed 55 = .ok (.istore 8, 2) := by decide +kernel
theorem dX16_signed_57 : decode cX16_signed 57 = .ok (.iload 6, 2) := by decide +kernel
theorem dX16_signed_59 : decode cX16_signed 59 = .ok (.iload 7, 2) := by decide +kernel
theorem dX16_signed_61 : decode cX16_signed 61 = .ok (.iconst 1, 1) := by decide +kernel
theorem dX16_signed_62 : decode cX16_signed 62 = .ok (.isub, 1) := by decide +kernel
theorem dX16_signed_63 : decode cX16_signed 63 = .ok (.ishr, 1) := by decide +kernel
theorem dX16_signed_64 : decode cX16_signed 64 = .ok (.iconst 1, 1) := by decide +kernel
theorem dX16_signed_65 : decode cX16_signed 65 = .ok (.iand, 1) := by decide +kernel
theorem dX16_signed_66 : decode cX16_signed 66 = .ok (.istore 9, 2) := by decide +kernel
theorem dX16_signed_68 : decode cX16_signed 68 = .ok (.iload 6, 2) := by decide +kernel
theorem dX16_signed_70 : decode cX16_signed 70 = .ok (.bipush 127, 2) := by decide +kernel
theorem dX16_signed_72 : decode cX16_signed 72 = .ok (.if_icmp .gt 27, 3) := by decide +kernel
theorem dX16_signed_75 : decode cX16_signed 75 = .ok (.iload 8, 2) := by decide +kernel
theorem dX16_signed_77 : decode cX16_signed 77 = .ok (.iload 9, 2) := by decide +kernel
theorem dX16_signed_79 : decode cX16_signed 79 = .ok (.iconst 1, 1) := by decide +kernel
theorem dX16_signed_80 : decode cX16_signed 80 = .ok (.if_icmp .ne 15, 3) := by decide +kernel
theorem dX16_signed_83 : decode cX16_signed 83 = .ok (.iconst 1, 1) := by decide +kernel
theorem dX16_signed_84 : decode cX16_signed 84 = .ok (.bipush 7, 2) := by decide +kernel
theorem dX16_signed_86 : decode cX16_signed 86 = .ok (.iload 7, 2) := by decide +kernel
theorem dX16_signed_88 : decode cX16_signed 88 = .ok (.isub, 1) := by decide +kernel
theorem dX16_signed_89 : decode cX16_signed 89 = .ok (.ishl, 1) := by decide +kernel
theorem dX16_signed_90 : decode cX16_signed 90 = .ok (.iconst 1, 1) := by decide +kernel
theorem dX16_signed_91 : decode cX16_signed 91 = .ok (.isub, 1) := by decide +kernel
theorem dX16_signed_92 : decode cX16_signed 92 = .ok (.goto 4, 3) := by decide +kernel
theorem dX16_signed_95 : decode cX16_signed 95 = .ok (.iconst 0, 1) := by decide +kernel
theorem dX16_signed_96 : decode cX16_signed 96 = .ok (.if_icmp .eq 14, 3) := by decide +kernel
theorem dX16_signed_99 : decode cX16_signed 99 = .ok (.aload_n 0, 1) := by decide +kernel
theorem dX16_signed_100 : decode cX16_signed 100 = .ok (.iconst 4, 1) := by decide +kernel
theorem dX16_signed_101 : decode cX16_signed 101 = .ok (.aload_n 0, 1) := by decide +kernel
theorem dX16_signed_102 : decode cX16_signed 102 = .ok (.getfield 251, 3) := by decide +kernel
theorem dX16_signed_105 : decode cX16_signed 105 = .ok (.iconst 1, 1) := by decide +kernel
theorem dX16_signed_106 : decode cX16_signed 106 = .ok (.isub, 1) := by decide +kernel
theorem dX16_signed_107 : decode cX16_signed 107 = .ok (.invokevirtual 257, 3) := by decide +kernel
theorem dX16_signed_110 : decode cX16_signed 110 = .ok (.lload_n 3, 1) := by decide +kernel
theorem dX16_signed_111 : decode cX16_signed 111 = .ok (.iload 6, 2) := by decide +kernel
theorem dX16_signed_113 : decode cX16_signed 113 = .ok (.bipush 127, 2) := by decide +kernel
theorem dX16_signed_115 : decode cX16_signed 115 = .ok (.iand, 1) := by decide +kernel
theorem dX16_signed_116 : decode cX16_signed 116 = .ok (.i2l, 1) := by decide +kernel
theorem dX16_signed_117 : decode cX16_signed 117 = .ok (.bipush 7, 2) := by decide +kernel
theorem dX16_signed_119 : decode cX16_signed 119 = .ok (.iload 5, 2) := by decide +kernel
theorem dX16_signed_121 : decode cX16_signed 121 = .ok (.imul, 1) := by decide +kernel
theorem dX16_signed_122 : decode cX16_signed 122 = .ok (.lshl, 1) := by decide +kernel
theorem dX16_signed_123 : decode cX16_signed 123 = .ok (.lor, 1) := by decide +kernel
theorem dX16_signed_124 : decode cX16_signed 124 = .ok (.lstore_n 3, 1) := by decide +kernel
theorem dX16_signed_125 : decode cX16_signed 125 = .ok (.iload 6, 2) := by decide +kernel
theorem dX16_signed_127 : decode cX16_signed 127 = .ok (.sipush 128, 3) := by decide +kernel
theorem dX16_signed_130 : decode cX16_signed 130 = .ok (.if_icmp .ge 43, 3) := by decide +kernel
theorem dX16_signed_133 : decode cX16_signed 133 = .ok (.bipush 7, 2) := by decide +kernel
theorem dX16_signed_135 : decode cX16_signed 135 = .ok (.iload 5, 2) := by decide +kernel
theorem dX16_signed_137 : decode cX16_signed 137 = .ok (.imul, 1) := by decide +kernel
theorem dX16_signed_138 : decode cX16_signed 138 = .ok (.bipush 7, 2) := by decide +kernel
theorem dX16_signed_140 : decode cX16_signed 140 = .ok (.iadd, 1) := by decide +kernel
theorem dX16_signed_141 : decode cX16_signed 141 = .ok (.bipush 64, 2) := by decide +kernel
theorem dX16_signed_143 : decode cX16_signed 143 = .ok (.if_icmp .ge 28, 3) := by decide +kernel
theorem dX16_signed_146 : decode cX16_signed 146 = .ok (.iload 6, 2) := by decide +kernel
theorem dX16_signed_148 : decode cX16_signed 148 = .ok (.bipush 64, 2) := by decide +kernel
theorem dX16_signed_150 : decode cX16_signed 150 = .ok (.iand, 1) := by decide +kernel
theorem dX16_signed_151 : decode cX16_signed 151 = .ok (.ifCond .eq 20, 3) := by decide +kernel
theorem dX16_signed_154 : decode cX16_signed 154 = .ok (.lload_n 3, 1) := by decide +kernel
theorem dX16_signed_155 : decode cX16_signed 155 = .ok (.ldc2_w 268, 3) := by decide +kernel
theorem dX16_signed_158 : decode cX16_signed 158 = .ok (.bipush 7, 2) := by decide +kernel
theorem dX16_signed_160 : decode cX16_signed 160 = .ok (.iload 5, 2) := by decide +kernel
theorem dX16_signed_162 : decode cX16_signed 162 = .ok (.imul, 1) := by decide +kernel
theorem dX16_signed_163 : decode cX16_signed 163 = .ok (.bipush 7, 2) := by decide +kernel
theorem dX16_signed_165 : decode cX16_signed 165 = .ok (.iadd, 1) := by decide +kernel
theorem dX16_signed_166 : decode cX16_signed 166 = .ok (.lshl, 1) := by decide +kernel
theorem dX16_signed_167 : decode cX16_signed 167 = .ok (.lor, 1) := by decide +kernel
theorem dX16_signed_168 : decode cX16_signed 168 = .ok (.goto 4, 3) := by decide +kernel
theorem dX16_signed_171 : decode cX16_signed 171 = .ok (.lload_n 3, 1) := by decide +kernel
theorem dX16_signed_172 : decode cX16_signed 172 = .ok (.lreturn, 1) := by decide +kernel
theorem dX16_signed_173 : decode cX16_signed 173 = .ok (.iinc 5 1, 3) := by decide +kernel
theorem dX16_signed_176 : decode cX16_signed 176 = .ok (.goto (-158), 3) := by decide +kernel
theorem dX16_signed_179 : decode cX16_signed 179 = .ok (.lload_n 3, 1) := by decide +kernel
theorem dX16_signed_180 : decode cX16_signed 180 = .ok (.lreturn, 1) := by decide +kernel
def tX16_signed_18 (x0 : Nat) (x1 : Int32) (x2 : Int32) (x3 : Int64) (x5 : Int32) (h : pm_H) : Option (((Nat × Int32 × Int32 × Int64 × Int32 × pm_H) ⊕ (Nat × Int32 × Int32 × Int64 × Int32 × Int32 × pm_H) ⊕ (Nat × Int32 × Int32 × Int64 × Int32 × Int32 × Int32 × Int32 × pm_H)) ⊕ ((Nat × pm_H) ⊕ (Int64 × pm_H))) := if x2 ≤ x5 then (some (.inr (.inr (x3, h)))) else (if pm_kd h x0 = 16 then (fX16_next h x0).bind fun v4 => pt_s v4 fun w6 => if x5 = (x2 - 1) then (pm_let (x1 - (7 * x5)) fun y9 => pm_let ((w6.1 &&& 127) >>> (y9 &&& 31)) fun y11 => pm_let ((w6.1 >>> ((y9 - 1) &&& 31)) &&& 1) fun y13 => if 127 < w6.1 then (if pm_kd w6.2 x0 = 16 then (fX16_stops w6.2 x0 4 ((pm_I w6.2 x0 11) - 1)).bind fun v17 => pt_s v17 fun w19 => some (.inl (.inr (.inl ((x0, x1, x2, x3, x5, w6.1, w19))))) else none) else (if y13 = 1 then (some (.inl (.inr (.inr ((x0, x1, x2, x3, x5, w6.1, ((1 : Int32) <<< ((7 - y9) &&& 31)) - 1, y11, w6.2)))))) else (some (.inl (.inr (.inr ((x0, x1, x2, x3, x5, w6.1, 0, y11, w6.2)))))))) else (some (.inl (.inr (.inl ((x0, x1, x2, x3, x5, w6.1, w6.2)))))) else none)
def tX16_signed_110 (x0 : Nat) (x1 : Int32) (x2 : Int32) (x3 : Int64) (x5 : Int32) (x6 : Int32) (h : pm_H) : Option (((Nat × Int32 × Int32 × Int64 × Int32 × pm_H) ⊕ (Nat × Int32 × Int32 × Int64 × Int32 × Int32 × pm_H) ⊕ (Nat × Int32 × Int32 × Int64 × Int32 × Int32 × Int32 × Int32 × pm_H)) ⊕ ((Nat × pm_H) ⊕ (Int64 × pm_H))) := pm_let (x3 ||| (((x6 &&& 127).toInt64) <<< ((7 * x5).toInt64 &&& 63))) fun y22 => if 128 ≤ x6 then (pm_let (x5 + 1) fun y25 => some (.inl (.inl ((x0, x1, x2, y22, y25, h))))) else (if 64 ≤ ((7 * x5) + 7) then (some (.inr (.inr (y22, h)))) else (if (x6 &&& 64) = 0 then (some (.inr (.inr (y22, h)))) else (some (.inr (.inr (y22 ||| (((-1) : Int64) <<< (((7 * x5) + 7).toInt64 &&& 63)), h))))))
def tX16_signed_96 (x0 : Nat) (x1 : Int32) (x2 : Int32) (x3 : Int64) (x5 : Int32) (x6 : Int32) (s0 : Int32) (s1 : Int32) (h : pm_H) : Option (((Nat × Int32 × Int32 × Int64 × Int32 × pm_H) ⊕ (Nat × Int32 × Int32 × Int64 × Int32 × Int32 × pm_H) ⊕ (Nat × Int32 × Int32 × Int64 × Int32 × Int32 × Int32 × Int32 × pm_H)) ⊕ ((Nat × pm_H) ⊕ (Int64 × pm_H))) := if s1 = s0 then (some (.inl (.inr (.inl ((x0, x1, x2, x3, x5, x6, h)))))) else (if pm_kd h x0 = 16 then (fX16_stops h x0 4 ((pm_I h x0 11) - 1)).bind fun v31 => pt_s v31 fun w33 => some (.inl (.inr (.inl ((x0, x1, x2, x3, x5, x6, w33))))) else none)
def sX16_signed : ((Nat × Int32 × Int32 × Int64 × Int32 × pm_H) ⊕ (Nat × Int32 × Int32 × Int64 × Int32 × Int32 × pm_H) ⊕ (Nat × Int32 × Int32 × Int64 × Int32 × Int32 × Int32 × Int32 × pm_H)) → Option (((Nat × Int32 × Int32 × Int64 × Int32 × pm_H) ⊕ (Nat × Int32 × Int32 × Int64 × Int32 × Int32 × pm_H) ⊕ (Nat × Int32 × Int32 × Int64 × Int32 × Int32 × Int32 × Int32 × pm_H)) ⊕ ((Nat × pm_H) ⊕ (Int64 × pm_H))) := fun z => match z with
  | .inl (x0, x1, x2, x3, x5, h) => tX16_signed_18 x0 x1 x2 x3 x5 h
  | .inr (.inl (x0, x1, x2, x3, x5, x6, h)) => tX16_signed_110 x0 x1 x2 x3 x5 x6 h
  | .inr (.inr (x0, x1, x2, x3, x5, x6, s0, s1, h)) => tX16_signed_96 x0 x1 x2 x3 x5 x6 s0 s1 h
noncomputable def fX16_signed (h : pm_H) (a0 : Nat) (p1 : Int32) : Option ((Nat × pm_H) ⊕ (Int64 × pm_H)) := if p1 = 64 then (pm_lim sX16_signed (.inl ((a0, p1, 10, 0, 0, h)))) else (pm_lim sX16_signed (.inl ((a0, p1, 5, 0, 0, h))))
set_option maxHeartbeats 4000000 in
set_option maxRecDepth 100000 in
theorem lpX16_signed {g : pm_Gm} {l : Launch} {G : pm_Gl} {Qr : Option Value → pm_H → Prop} {Qt : Nat → pm_H → Prop} (C : pm_C g cX16_signed RX16) (X : pm_XT g l G mX16_signed 0 0 Qr Qt) {r : ((Nat × pm_H) ⊕ (Int64 × pm_H))} (q : pt_eJ Qr Qt r) : ∀ n : Nat, (∀ (x0 : Nat) (x1 : Int32) (x2 : Int32) (x3 : Int64) (x5 : Int32) (h : pm_H), pm_iter sX16_signed n (.inl (x0, x1, x2, x3, x5, h)) = some r → pm_G g 18 [(0, .ref x0), (1, .int x1), (2, .int x2), (3, .long x3), (5, .int x5)] [] h 0 0) ∧ (∀ (x0 : Nat) (x1 : Int32) (x2 : Int32) (x3 : Int64) (x5 : Int32) (x6 : Int32) (h : pm_H), pm_iter sX16_signed n (.inr (.inl (x0, x1, x2, x3, x5, x6, h))) = some r → pm_G g 110 [(0, .ref x0), (1, .int x1), (2, .int x2), (3, .long x3), (5, .int x5), (6, .int x6)] [] h 0 0) ∧ (∀ (x0 : Nat) (x1 : Int32) (x2 : Int32) (x3 : Int64) (x5 : Int32) (x6 : Int32) (s0 : Int32) (s1 : Int32) (h : pm_H), pm_iter sX16_signed n (.inr (.inr (x0, x1, x2, x3, x5, x6, s0, s1, h))) = some r → pm_G g 96 [(0, .ref x0), (1, .int x1), (2, .int x2), (3, .long x3), (5, .int x5), (6, .int x6)] [.int s0, .int s1] h 0 0) := by
  intro n
  induction n with
  | zero => exact ⟨fun _ _ _ _ _ _ hf => (by cases hf), fun _ _ _ _ _ _ _ hf => (by cases hf), fun _ _ _ _ _ _ _ _ _ hf => (by cases hf)⟩
  | succ n ih =>
    refine ⟨fun x0 x1 x2 x3 x5 h hf => ?_, ?_⟩
    · obtain ⟨y, hf, hi⟩ := pm_iter_s hf
      have hf : tX16_signed_18 x0 x1 x2 x3 x5 h = some y := hf
      unfold tX16_signed_18 at hf
      refine pm_iload C dX16_signed_18 rfl ?_
      refine pm_iload_n C dX16_signed_20 rfl rfl ?_
      refine pm_icmp_ge (tgt := 179) C dX16_signed_21 (by decide) (fun c2 => ?_) (fun c2 => ?_)
      · have hf := pm_it hf c2
        refine pm_lload_n C dX16_signed_179 rfl rfl ?_
        cases hf
        cases hi
        exact pt_lret C X dX16_signed_180 rfl (Nat.le_refl _) (Nat.le_refl _) q
      · have hf := pm_ie hf c2
        refine pm_aload_n C dX16_signed_24 rfl rfl ?_
        obtain ⟨k3, hf⟩ := pm_if hf
        obtain ⟨v4, e5, hf⟩ := pm_bd hf
        refine pt_callVT (as := []) (st := []) C X dX16_signed_25 ltX16_264 myX16_next viX16_next ⟨by decide, by decide⟩ rfl rfl k3 (Nat.le_of_ble_eq_true rfl) (Nat.le_refl _) (Nat.le_refl _) (ctX16_next e5 ?_)
        rcases v4 with z7 | w6
        · have hf := pt_sl hf
          cases hf
          cases hi
          exact q
        have hf := pt_sr hf
        show pm_G g 28 [(0, .ref x0), (1, .int x1), (2, .int x2), (3, .long x3), (5, .int x5)] [.int w6.1] w6.2 0 0
        refine pm_istore (lv' := [(6, .int w6.1), (0, .ref x0), (1, .int x1), (2, .int x2), (3, .long x3), (5, .int x5)]) C dX16_signed_28 (pt_nl X (by decide)) rfl ?_
        refine pm_iload C dX16_signed_30 rfl ?_
        refine pm_iload_n C dX16_signed_32 rfl rfl ?_
        refine pm_iconst (v := 1) C dX16_signed_33 (by decide) ?_
        refine pm_isub C dX16_signed_34 ?_
        refine pm_icmp_ne (tgt := 110) C dX16_signed_35 (by decide) (fun c8 => ?_) (fun c8 => ?_)
        · have hf := pm_ie hf c8
          cases hf
          exact pm_sub [1, 2, 3, 4, 5, 0] rfl (ih.2.1 x0 x1 x2 x3 x5 w6.1 w6.2 hi)
        · have hf := pm_it hf c8
          refine pm_iload_n C dX16_signed_38 rfl rfl ?_
          refine pm_bipush (v := 7) C dX16_signed_39 (by decide) ?_
          refine pm_iload C dX16_signed_41 rfl ?_
          refine pm_imul C dX16_signed_43 ?_
          refine pm_isub C dX16_signed_44 ?_
          obtain ⟨y9, e10, hf⟩ := pm_lt hf
          refine pm_topI e10 ?_
          refine pm_istore (lv' := [(7, .int y9), (6, .int w6.1), (0, .ref x0), (1, .int x1), (2, .int x2), (3, .long x3), (5, .int x5)]) C dX16_signed_45 (pt_nl X (by decide)) rfl ?_
          refine pm_iload C dX16_signed_47 rfl ?_
          refine pm_bipush (v := 127) C dX16_signed_49 (by decide) ?_
          refine pm_iand C dX16_signed_51 ?_
          refine pm_iload C dX16_signed_52 rfl ?_
          refine pm_ishr C dX16_signed_54 ?_
          obtain ⟨y11, e12, hf⟩ := pm_lt hf
          refine pm_topI e12 ?_
          refine pm_istore (lv' := [(8, .int y11), (7, .int y9), (6, .int w6.1), (0, .ref x0), (1, .int x1), (2, .int x2), (3, .long x3), (5, .int x5)]) C dX16_signed_55 (pt_nl X (by decide)) rfl ?_
          refine pm_iload C dX16_signed_57 rfl ?_
          refine pm_iload C dX16_signed_59 rfl ?_
          refine pm_iconst (v := 1) C dX16_signed_61 (by decide) ?_
          refine pm_isub C dX16_signed_62 ?_
          refine pm_ishr C dX16_signed_63 ?_
          refine pm_iconst (v := 1) C dX16_signed_64 (by decide) ?_
          refine pm_iand C dX16_signed_65 ?_
          obtain ⟨y13, e14, hf⟩ := pm_lt hf
          refine pm_topI e14 ?_
          refine pm_istore (lv' := [(9, .int y13), (8, .int y11), (7, .int y9), (6, .int w6.1), (0, .ref x0), (1, .int x1), (2, .int x2), (3, .long x3), (5, .int x5)]) C dX16_signed_66 (pt_nl X (by decide)) rfl ?_
          refine pm_iload C dX16_signed_68 rfl ?_
          refine pm_bipush (v := 127) C dX16_signed_70 (by decide) ?_
          refine pm_icmp_gt (tgt := 99) C dX16_signed_72 (by decide) (fun c15 => ?_) (fun c15 => ?_)
          · have hf := pm_it hf c15
            refine pm_aload_n C dX16_signed_99 rfl rfl ?_
            refine pm_iconst (v := 4) C dX16_signed_100 (by decide) ?_
            refine pm_aload_n C dX16_signed_101 rfl rfl ?_
            obtain ⟨k16, hf⟩ := pm_if hf
            refine pm_getI C dX16_signed_102 flX16_251 rfl k16 rfl ?_
            refine pm_iconst (v := 1) C dX16_signed_105 (by decide) ?_
            refine pm_isub C dX16_signed_106 ?_
            obtain ⟨v17, e18, hf⟩ := pm_bd hf
            refine pt_callVT (as := [.int 4, .int ((pm_I w6.2 x0 11) - 1)]) (st := []) C X dX16_signed_107 ltX16_257 myX16_stops viX16_stops ⟨by decide, by decide⟩ rfl rfl k16 (Nat.le_of_ble_eq_true rfl) (Nat.le_refl _) (Nat.le_refl _) (ctX16_stops e18 ?_)
            rcases v17 with z20 | w19
            · have hf := pt_sl hf
              cases hf
              cases hi
              exact q
            have hf := pt_sr hf
            show pm_G g 110 [(9, .int y13), (8, .int y11), (7, .int y9), (6, .int w6.1), (0, .ref x0), (1, .int x1), (2, .int x2), (3, .long x3), (5, .int x5)] [] w19 0 0
            cases hf
            exact pm_sub [4, 5, 6, 7, 8, 3] rfl (ih.2.1 x0 x1 x2 x3 x5 w6.1 w19 hi)
          · have hf := pm_ie hf c15
            refine pm_iload C dX16_signed_75 rfl ?_
            refine pm_iload C dX16_signed_77 rfl ?_
            refine pm_iconst (v := 1) C dX16_signed_79 (by decide) ?_
            refine pm_icmp_ne (tgt := 95) C dX16_signed_80 (by decide) (fun c21 => ?_) (fun c21 => ?_)
            · have hf := pm_ie hf c21
              refine pm_iconst (v := 0) C dX16_signed_95 (by decide) ?_
              cases hf
              exact pm_sub [4, 5, 6, 7, 8, 3] rfl (ih.2.2 x0 x1 x2 x3 x5 w6.1 0 y11 w6.2 hi)
            · have hf := pm_it hf c21
              refine pm_iconst (v := 1) C dX16_signed_83 (by decide) ?_
              refine pm_bipush (v := 7) C dX16_signed_84 (by decide) ?_
              refine pm_iload C dX16_signed_86 rfl ?_
              refine pm_isub C dX16_signed_88 ?_
              refine pm_ishl C dX16_signed_89 ?_
              refine pm_iconst (v := 1) C dX16_signed_90 (by decide) ?_
              refine pm_isub C dX16_signed_91 ?_
              refine pm_goto (tgt := 96) C dX16_signed_92 (by decide) ?_
              cases hf
              exact pm_sub [4, 5, 6, 7, 8, 3] rfl (ih.2.2 x0 x1 x2 x3 x5 w6.1 (((1 : Int32) <<< ((7 - y9) &&& 31)) - 1) y11 w6.2 hi)
    refine ⟨fun x0 x1 x2 x3 x5 x6 h hf => ?_, ?_⟩
    · obtain ⟨y, hf, hi⟩ := pm_iter_s hf
      have hf : tX16_signed_110 x0 x1 x2 x3 x5 x6 h = some y := hf
      unfold tX16_signed_110 at hf
      refine pm_lload_n C dX16_signed_110 rfl rfl ?_
      refine pm_iload C dX16_signed_111 rfl ?_
      refine pm_bipush (v := 127) C dX16_signed_113 (by decide) ?_
      refine pm_iand C dX16_signed_115 ?_
      refine pm_i2l C dX16_signed_116 ?_
      refine pm_bipush (v := 7) C dX16_signed_117 (by decide) ?_
      refine pm_iload C dX16_signed_119 rfl ?_
      refine pm_imul C dX16_signed_121 ?_
      refine pm_lshl C dX16_signed_122 ?_
      refine pm_lor C dX16_signed_123 ?_
      obtain ⟨y22, e23, hf⟩ := pm_lt hf
      refine pm_topL e23 ?_
      refine pm_lstore_n (lv' := [(3, .long y22), (0, .ref x0), (1, .int x1), (2, .int x2), (5, .int x5), (6, .int x6)]) C dX16_signed_124 rfl (pt_nl X (by decide)) rfl ?_
      refine pm_iload C dX16_signed_125 rfl ?_
      refine pm_sipush (v := 128) C dX16_signed_127 (by decide) ?_
      refine pm_icmp_ge (tgt := 173) C dX16_signed_130 (by decide) (fun c24 => ?_) (fun c24 => ?_)
      · have hf := pm_it hf c24
        obtain ⟨y25, e26, hf⟩ := pm_lt hf
        refine pm_iinc (v := y25) (lv' := [(5, .int y25), (3, .long y22), (0, .ref x0), (1, .int x1), (2, .int x2), (6, .int x6)]) C dX16_signed_173 rfl ((congrArg (x5 + ·) (by decide : Int32.ofInt 1 = 1)).trans e26) (pt_nl X (by decide)) rfl ?_
        refine pm_goto (tgt := 18) C dX16_signed_176 (by decide) ?_
        cases hf
        exact pm_sub [2, 3, 4, 1, 0] rfl (ih.1 x0 x1 x2 y22 y25 h hi)
      · have hf := pm_ie hf c24
        refine pm_bipush (v := 7) C dX16_signed_133 (by decide) ?_
        refine pm_iload C dX16_signed_135 rfl ?_
        refine pm_imul C dX16_signed_137 ?_
        refine pm_bipush (v := 7) C dX16_signed_138 (by decide) ?_
        refine pm_iadd C dX16_signed_140 ?_
        refine pm_bipush (v := 64) C dX16_signed_141 (by decide) ?_
        refine pm_icmp_ge (tgt := 171) C dX16_signed_143 (by decide) (fun c27 => ?_) (fun c27 => ?_)
        · have hf := pm_it hf c27
          refine pm_lload_n C dX16_signed_171 rfl rfl ?_
          cases hf
          cases hi
          exact pt_lret C X dX16_signed_172 rfl (Nat.le_refl _) (Nat.le_refl _) q
        · have hf := pm_ie hf c27
          refine pm_iload C dX16_signed_146 rfl ?_
          refine pm_bipush (v := 64) C dX16_signed_148 (by decide) ?_
          refine pm_iand C dX16_signed_150 ?_
          refine pm_if_eq (tgt := 171) C dX16_signed_151 (by decide) (fun c28 => ?_) (fun c28 => ?_)
          · have hf := pm_it hf c28
            refine pm_lload_n C dX16_signed_171 rfl rfl ?_
            cases hf
            cases hi
            exact pt_lret C X dX16_signed_172 rfl (Nat.le_refl _) (Nat.le_refl _) q
          · have hf := pm_ie hf c28
            refine pm_lload_n C dX16_signed_154 rfl rfl ?_
            refine pm_ldc2 C dX16_signed_155 cnX16_268 ?_
            refine pm_bipush (v := 7) C dX16_signed_158 (by decide) ?_
            refine pm_iload C dX16_signed_160 rfl ?_
            refine pm_imul C dX16_signed_162 ?_
            refine pm_bipush (v := 7) C dX16_signed_163 (by decide) ?_
            refine pm_iadd C dX16_signed_165 ?_
            refine pm_lshl C dX16_signed_166 ?_
            refine pm_lor C dX16_signed_167 ?_
            refine pm_goto (tgt := 172) C dX16_signed_168 (by decide) ?_
            cases hf
            cases hi
            exact pt_lret C X dX16_signed_172 rfl (Nat.le_refl _) (Nat.le_refl _) q
    refine fun x0 x1 x2 x3 x5 x6 s0 s1 h hf => ?_
    obtain ⟨y, hf, hi⟩ := pm_iter_s hf
    have hf : tX16_signed_96 x0 x1 x2 x3 x5 x6 s0 s1 h = some y := hf
    unfold tX16_signed_96 at hf
    refine pm_icmp_eq (tgt := 110) C dX16_signed_96 (by decide) (fun c29 => ?_) (fun c29 => ?_)
    · have hf := pm_it hf c29
      cases hf
      exact pm_sub [0, 1, 2, 3, 4, 5] rfl (ih.2.1 x0 x1 x2 x3 x5 x6 h hi)
    · have hf := pm_ie hf c29
      refine pm_aload_n C dX16_signed_99 rfl rfl ?_
      refine pm_iconst (v := 4) C dX16_signed_100 (by decide) ?_
      refine pm_aload_n C dX16_signed_101 rfl rfl ?_
      obtain ⟨k30, hf⟩ := pm_if hf
      refine pm_getI C dX16_signed_102 flX16_251 rfl k30 rfl ?_
      refine pm_iconst (v := 1) C dX16_signed_105 (by decide) ?_
      refine pm_isub C dX16_signed_106 ?_
      obtain ⟨v31, e32, hf⟩ := pm_bd hf
      refine pt_callVT (as := [.int 4, .int ((pm_I h x0 11) - 1)]) (st := []) C X dX16_signed_107 ltX16_257 myX16_stops viX16_stops ⟨by decide, by decide⟩ rfl rfl k30 (Nat.le_of_ble_eq_true rfl) (Nat.le_refl _) (Nat.le_refl _) (ctX16_stops e32 ?_)
      rcases v31 with z34 | w33
      · have hf := pt_sl hf
        cases hf
        cases hi
        exact q
      have hf := pt_sr hf
      show pm_G g 110 [(0, .ref x0), (1, .int x1), (2, .int x2), (3, .long x3), (5, .int x5), (6, .int x6)] [] w33 0 0
      cases hf
      exact pm_sub [0, 1, 2, 3, 4, 5] rfl (ih.2.1 x0 x1 x2 x3 x5 x6 w33 hi)
set_option maxHeartbeats 4000000 in
set_option maxRecDepth 100000 in
theorem ctX16_signed {l : Launch} {G : pm_Gl} {h : pm_H} {a0 : Nat} {p1 : Int32} {r : ((Nat × pm_H) ⊕ (Int64 × pm_H))} {Qr : Option Value → pm_H → Prop} {Qt : Nat → pm_H → Prop} (hf : fX16_signed h a0 p1 = some r) (q : pt_eJ Qr Qt r) : pm_Ctt l G mX16_signed [.ref a0, .int p1] h 0 0 Qr Qt := by
  refine pm_bodyT pnX16 (Nat.le_of_ble_eq_true rfl) (fun g C X => ?_)
  have C : pm_C g cX16_signed RX16 := C
  show pm_G g 0 [(0, .ref a0), (1, .int p1)] [] h 0 0
  unfold fX16_signed at hf
  refine pm_iload_n C dX16_signed_0 rfl rfl ?_
  refine pm_bipush (v := 64) C dX16_signed_1 (by decide) ?_
  refine pm_icmp_ne (tgt := 11) C dX16_signed_3 (by decide) (fun c1 => ?_) (fun c1 => ?_)
  · have hf := pm_ie hf c1
    refine pm_iconst (v := 5) C dX16_signed_11 (by decide) ?_
    refine pm_istore_n (lv' := [(2, .int 5), (0, .ref a0), (1, .int p1)]) C dX16_signed_12 rfl (pt_nl X (by decide)) rfl ?_
    refine pm_lconst (v := 0) C dX16_signed_13 (by decide) ?_
    refine pm_lstore_n (lv' := [(3, .long 0), (2, .int 5), (0, .ref a0), (1, .int p1)]) C dX16_signed_14 rfl (pt_nl X (by decide)) rfl ?_
    refine pm_iconst (v := 0) C dX16_signed_15 (by decide) ?_
    refine pm_istore (lv' := [(5, .int 0), (3, .long 0), (2, .int 5), (0, .ref a0), (1, .int p1)]) C dX16_signed_16 (pt_nl X (by decide)) rfl ?_
    obtain ⟨n, hn⟩ := pm_lim_iter hf
    exact pm_sub [3, 4, 2, 1, 0] rfl ((lpX16_signed C X q n).1 a0 p1 5 0 0 h hn)
  · have hf := pm_it hf c1
    refine pm_bipush (v := 10) C dX16_signed_6 (by decide) ?_
    refine pm_goto (tgt := 12) C dX16_signed_8 (by decide) ?_
    refine pm_istore_n (lv' := [(2, .int 10), (0, .ref a0), (1, .int p1)]) C dX16_signed_12 rfl (pt_nl X (by decide)) rfl ?_
    refine pm_lconst (v := 0) C dX16_signed_13 (by decide) ?_
    refine pm_lstore_n (lv' := [(3, .long 0), (2, .int 10), (0, .ref a0), (1, .int p1)]) C dX16_signed_14 rfl (pt_nl X (by decide)) rfl ?_
    refine pm_iconst (v := 0) C dX16_signed_15 (by decide) ?_
    refine pm_istore (lv' := [(5, .int 0), (3, .long 0), (2, .int 10), (0, .ref a0), (1, .int p1)]) C dX16_signed_16 (pt_nl X (by decide)) rfl ?_
    obtain ⟨n, hn⟩ := pm_lim_iter hf
    exact pm_sub [3, 4, 2, 1, 0] rfl ((lpX16_signed C X q n).1 a0 p1 10 0 0 h hn)
theorem dX16_small_0 : decode cX16_small 0 = .ok (.aload_n 0, 1) := by decide +kernel
theorem dX16_small_1 : decode cX16_small 1 = .ok (.invokevirtual 264, 3) := by decide +kernel
theorem dX16_small_4 : decode cX16_small 4 = .ok (.istore_n 2, 1) := by decide +kernel
theorem dX16_small_5 : decode cX16_small 5 = .ok (.iload_n 2, 1) := by decide +kernel
theorem dX16_small_6 : decode cX16_small 6 = .ok (.iload_n 1, 1) := by decide +kernel
theorem dX16_small_7 : decode cX16_small 7 = .ok (.if_icmp .le 15, 3) := by decide +kernel
theorem dX16_small_10 : decode cX16_small 10 = .ok (.aload_n 0, 1) := by decide +kernel
theorem dX16_small_11 : decode cX16_small 11 = .ok (.bipush 7, 2) := by decide +kernel
theorem dX16_small_13 : decode cX16_small 13 = .ok (.aload_n 0, 1) := by decide +kernel
theorem dX16_small_14 : decode cX16_small 14 = .ok (.getfield 251, 3) := by decide +kernel
theorem dX16_small_17 : decode cX16_small 17 = .ok (.iconst 1, 1) := by decide +kernel
theorem dX16_small_18 : decode cX16_small 18 = .ok (.isub, 1) := by decide +kernel
theorem dX16_small_19 : decode cX16_small 19 = .ok (.invokevirtual 257, 3) := by decide +kernel
theorem dX16_small_22 : decode cX16_small 22 = .ok (.iload_n 2, 1) := by decide +kernel
theorem dX16_small_23 : decode cX16_small 23 = .ok (.ireturn, 1) := by decide +kernel
def fX16_small (h : pm_H) (a0 : Nat) (p1 : Int32) : Option ((Nat × pm_H) ⊕ (Int32 × pm_H)) := if pm_kd h a0 = 16 then (fX16_next h a0).bind fun v2 => pt_k v2 fun w4 => if w4.1 ≤ p1 then (some (.inr (w4.1, w4.2))) else (if pm_kd w4.2 a0 = 16 then (fX16_stops w4.2 a0 7 ((pm_I w4.2 a0 11) - 1)).bind fun v8 => pt_k v8 fun w10 => some (.inr (w4.1, w10)) else none) else none
set_option maxHeartbeats 4000000 in
set_option maxRecDepth 100000 in
theorem ctX16_small {l : Launch} {G : pm_Gl} {h : pm_H} {a0 : Nat} {p1 : Int32} {r : ((Nat × pm_H) ⊕ (Int32 × pm_H))} {Qr : Option Value → pm_H → Prop} {Qt : Nat → pm_H → Prop} (hf : fX16_small h a0 p1 = some r) (q : pt_eI Qr Qt r) : pm_Ctt l G mX16_small [.ref a0, .int p1] h 0 0 Qr Qt := by
  refine pm_bodyT pnX16 (Nat.le_of_ble_eq_true rfl) (fun g C X => ?_)
  have C : pm_C g cX16_small RX16 := C
  show pm_G g 0 [(0, .ref a0), (1, .int p1)] [] h 0 0
  unfold fX16_small at hf
  refine pm_aload_n C dX16_small_0 rfl rfl ?_
  obtain ⟨k1, hf⟩ := pm_if hf
  obtain ⟨v2, e3, hf⟩ := pm_bd hf
  refine pt_callVT (as := []) (st := []) C X dX16_small_1 ltX16_264 myX16_next viX16_next ⟨by decide, by decide⟩ rfl rfl k1 (Nat.le_of_ble_eq_true rfl) (Nat.le_refl _) (Nat.le_refl _) (ctX16_next e3 ?_)
  rcases v2 with z5 | w4
  · have hf := pt_kl hf
    cases hf
    exact q
  have hf := pt_kr hf
  show pm_G g 4 [(0, .ref a0), (1, .int p1)] [.int w4.1] w4.2 0 0
  refine pm_istore_n (lv' := [(2, .int w4.1), (0, .ref a0), (1, .int p1)]) C dX16_small_4 rfl (pt_nl X (by decide)) rfl ?_
  refine pm_iload_n C dX16_small_5 rfl rfl ?_
  refine pm_iload_n C dX16_small_6 rfl rfl ?_
  refine pm_icmp_le (tgt := 22) C dX16_small_7 (by decide) (fun c6 => ?_) (fun c6 => ?_)
  · have hf := pm_it hf c6
    refine pm_iload_n C dX16_small_22 rfl rfl ?_
    cases hf
    exact pt_iret C X dX16_small_23 rfl (Nat.le_refl _) (Nat.le_refl _) q
  · have hf := pm_ie hf c6
    refine pm_aload_n C dX16_small_10 rfl rfl ?_
    refine pm_bipush (v := 7) C dX16_small_11 (by decide) ?_
    refine pm_aload_n C dX16_small_13 rfl rfl ?_
    obtain ⟨k7, hf⟩ := pm_if hf
    refine pm_getI C dX16_small_14 flX16_251 rfl k7 rfl ?_
    refine pm_iconst (v := 1) C dX16_small_17 (by decide) ?_
    refine pm_isub C dX16_small_18 ?_
    obtain ⟨v8, e9, hf⟩ := pm_bd hf
    refine pt_callVT (as := [.int 7, .int ((pm_I w4.2 a0 11) - 1)]) (st := []) C X dX16_small_19 ltX16_257 myX16_stops viX16_stops ⟨by decide, by decide⟩ rfl rfl k7 (Nat.le_of_ble_eq_true rfl) (Nat.le_refl _) (Nat.le_refl _) (ctX16_stops e9 ?_)
    rcases v8 with z11 | w10
    · have hf := pt_kl hf
      cases hf
      exact q
    have hf := pt_kr hf
    show pm_G g 22 [(2, .int w4.1), (0, .ref a0), (1, .int p1)] [] w10 0 0
    refine pm_iload_n C dX16_small_22 rfl rfl ?_
    cases hf
    exact pt_iret C X dX16_small_23 rfl (Nat.le_refl _) (Nat.le_refl _) q
theorem dX16_type_0 : decode cX16_type 0 = .ok (.aload_n 0, 1) := by decide +kernel
theorem dX16_type_1 : decode cX16_type 1 = .ok (.invokevirtual 264, 3) := by decide +kernel
theorem dX16_type_4 : decode cX16_type 4 = .ok (.istore_n 1, 1) := by decide +kernel
theorem dX16_type_5 : decode cX16_type 5 = .ok (.iload_n 1, 1) := by decide +kernel
theorem dX16_type_6 : decode cX16_type 6 = .ok (.invokestatic 274, 3) := by decide +kernel
theorem dX16_type_9 : decode cX16_type 9 = .ok (.ifCond .ne 15, 3) := by decide +kernel
theorem dX16_type_12 : decode cX16_type 12 = .ok (.aload_n 0, 1) := by decide +kernel
theorem dX16_type_13 : decode cX16_type 13 = .ok (.bipush 8, 2) := by decide +kernel
theorem dX16_type_15 : decode cX16_type 15 = .ok (.aload_n 0, 1) := by decide +kernel
theorem dX16_type_16 : decode cX16_type 16 = .ok (.getfield 251, 3) := by decide +kernel
theorem dX16_type_19 : decode cX16_type 19 = .ok (.iconst 1, 1) := by decide +kernel
theorem dX16_type_20 : decode cX16_type 20 = .ok (.isub, 1) := by decide +kernel
theorem dX16_type_21 : decode cX16_type 21 = .ok (.invokevirtual 257, 3) := by decide +kernel
theorem dX16_type_24 : decode cX16_type 24 = .ok (.iload_n 1, 1) := by decide +kernel
theorem dX16_type_25 : decode cX16_type 25 = .ok (.ireturn, 1) := by decide +kernel
def fX16_type (h : pm_H) (a0 : Nat) : Option ((Nat × pm_H) ⊕ (Int32 × pm_H)) := if pm_kd h a0 = 16 then (fX16_next h a0).bind fun v2 => pt_k v2 fun w4 => pm_let (fX16_isType w4.1) fun v6 => if v6 = 0 then (if pm_kd w4.2 a0 = 16 then (fX16_stops w4.2 a0 8 ((pm_I w4.2 a0 11) - 1)).bind fun v10 => pt_k v10 fun w12 => some (.inr (w4.1, w12)) else none) else (some (.inr (w4.1, w4.2))) else none
set_option maxHeartbeats 4000000 in
set_option maxRecDepth 100000 in
theorem ctX16_type {l : Launch} {G : pm_Gl} {h : pm_H} {a0 : Nat} {r : ((Nat × pm_H) ⊕ (Int32 × pm_H))} {Qr : Option Value → pm_H → Prop} {Qt : Nat → pm_H → Prop} (hf : fX16_type h a0 = some r) (q : pt_eI Qr Qt r) : pm_Ctt l G mX16_type [.ref a0] h 0 0 Qr Qt := by
  refine pm_bodyT pnX16 (Nat.le_of_ble_eq_true rfl) (fun g C X => ?_)
  have C : pm_C g cX16_type RX16 := C
  show pm_G g 0 [(0, .ref a0)] [] h 0 0
  unfold fX16_type at hf
  refine pm_aload_n C dX16_type_0 rfl rfl ?_
  obtain ⟨k1, hf⟩ := pm_if hf
  obtain ⟨v2, e3, hf⟩ := pm_bd hf
  refine pt_callVT (as := []) (st := []) C X dX16_type_1 ltX16_264 myX16_next viX16_next ⟨by decide, by decide⟩ rfl rfl k1 (Nat.le_of_ble_eq_true rfl) (Nat.le_refl _) (Nat.le_refl _) (ctX16_next e3 ?_)
  rcases v2 with z5 | w4
  · have hf := pt_kl hf
    cases hf
    exact q
  have hf := pt_kr hf
  show pm_G g 4 [(0, .ref a0)] [.int w4.1] w4.2 0 0
  refine pm_istore_n (lv' := [(1, .int w4.1), (0, .ref a0)]) C dX16_type_4 rfl (pt_nl X (by decide)) rfl ?_
  refine pm_iload_n C dX16_type_5 rfl rfl ?_
  obtain ⟨v6, e7, hf⟩ := pm_lt hf
  refine pt_callS (as := [.int w4.1]) (st := []) C X dX16_type_6 lnX16_274 myX16_isType stX16_isType ⟨by decide, by decide⟩ rfl rfl (Nat.le_of_ble_eq_true rfl) (Nat.le_refl _) (Nat.le_refl _) (ctX16_isType e7 ?_)
  show pm_G g 9 [(1, .int w4.1), (0, .ref a0)] [.int v6] w4.2 0 0
  refine pm_if_ne (tgt := 24) C dX16_type_9 (by decide) (fun c8 => ?_) (fun c8 => ?_)
  · have hf := pm_ie hf c8
    refine pm_iload_n C dX16_type_24 rfl rfl ?_
    cases hf
    exact pt_iret C X dX16_type_25 rfl (Nat.le_refl _) (Nat.le_refl _) q
  · have hf := pm_it hf c8
    refine pm_aload_n C dX16_type_12 rfl rfl ?_
    refine pm_bipush (v := 8) C dX16_type_13 (by decide) ?_
    refine pm_aload_n C dX16_type_15 rfl rfl ?_
    obtain ⟨k9, hf⟩ := pm_if hf
    refine pm_getI C dX16_type_16 flX16_251 rfl k9 rfl ?_
    refine pm_iconst (v := 1) C dX16_type_19 (by decide) ?_
    refine pm_isub C dX16_type_20 ?_
    obtain ⟨v10, e11, hf⟩ := pm_bd hf
    refine pt_callVT (as := [.int 8, .int ((pm_I w4.2 a0 11) - 1)]) (st := []) C X dX16_type_21 ltX16_257 myX16_stops viX16_stops ⟨by decide, by decide⟩ rfl rfl k9 (Nat.le_of_ble_eq_true rfl) (Nat.le_refl _) (Nat.le_refl _) (ctX16_stops e11 ?_)
    rcases v10 with z13 | w12
    · have hf := pt_kl hf
      cases hf
      exact q
    have hf := pt_kr hf
    show pm_G g 24 [(1, .int w4.1), (0, .ref a0)] [] w12 0 0
    refine pm_iload_n C dX16_type_24 rfl rfl ?_
    cases hf
    exact pt_iret C X dX16_type_25 rfl (Nat.le_refl _) (Nat.le_refl _) q
theorem dX16_typeRow_0 : decode cX16_typeRow 0 = .ok (.aload_n 0, 1) := by decide +kernel
theorem dX16_typeRow_1 : decode cX16_typeRow 1 = .ok (.invokevirtual 277, 3) := by decide +kernel
theorem dX16_typeRow_4 : decode cX16_typeRow 4 = .ok (.lstore_n 2, 1) := by decide +kernel
theorem dX16_typeRow_5 : decode cX16_typeRow 5 = .ok (.aload_n 0, 1) := by decide +kernel
theorem dX16_typeRow_6 : decode cX16_typeRow 6 = .ok (.lload_n 2, 1) := by decide +kernel
theorem dX16_typeRow_7 : decode cX16_typeRow 7 = .ok (.ldc2_w 369, 3) := by decide +kernel
theorem dX16_typeRow_10 : decode cX16_typeRow 10 = .ok (.lcmp, 1) := by decide +kernel
theorem dX16_typeRow_11 : decode cX16_typeRow 11 = .ok (.ifCond .le 7, 3) := by decide +kernel
theorem dX16_typeRow_14 : decode cX16_typeRow 14 = .ok (.iconst 1, 1) := by decide +kernel
theorem dX16_typeRow_15 : decode cX16_typeRow 15 = .ok (.goto 4, 3) := by decide +kernel
theorem dX16_typeRow_18 : decode cX16_typeRow 18 = .ok (.iconst 0, 1) := by decide +kernel
theorem dX16_typeRow_19 : decode cX16_typeRow 19 = .ok (.invokevirtual 365, 3) := by decide +kernel
theorem dX16_typeRow_22 : decode cX16_typeRow 22 = .ok (.lconst 0, 1) := by decide +kernel
theorem dX16_typeRow_23 : decode cX16_typeRow 23 = .ok (.lstore 4, 2) := by decide +kernel
theorem dX16_typeRow_25 : decode cX16_typeRow 25 = .ok (.lload 4, 2) := by decide +kernel
theorem dX16_typeRow_27 : decode cX16_typeRow 27 = .ok (.lload_n 2, 1) := by decide +kernel
theorem dX16_typeRow_28 : decode cX16_typeRow 28 = .ok (.lcmp, 1) := by decide +kernel
theorem dX16_typeRow_29 : decode cX16_typeRow 29 = .ok (.ifCond .ge 46, 3) := by decide +kernel
theorem dX16_typeRow_32 : decode cX16_typeRow 32 = .ok (.aload_n 0, 1) := by decide +kernel
theorem dX16_typeRow_33 : decode cX16_typeRow 33 = .ok (.invokevirtual 371, 3) := by decide +kernel
theorem dX16_typeRow_36 : decode cX16_typeRow 36 = .ok (.istore 6, 2) := by decide +kernel
theorem dX16_typeRow_38 : decode cX16_typeRow 38 = .ok (.iload_n 1, 1) := by decide +kernel
theorem dX16_typeRow_39 : decode cX16_typeRow 39 = .ok (.ifCond .lt 27, 3) := by decide +kernel
theorem dX16_typeRow_42 : decode cX16_typeRow 42 = .ok (.lload 4, 2) := by decide +kernel
theorem dX16_typeRow_44 : decode cX16_typeRow 44 = .ok (.ldc2_w 369, 3) := by decide +kernel
theorem dX16_typeRow_47 : decode cX16_typeRow 47 = .ok (.lcmp, 1) := by decide +kernel
theorem dX16_typeRow_48 : decode cX16_typeRow 48 = .ok (.ifCond .ge 18, 3) := by decide +kernel
theorem dX16_typeRow_51 : decode cX16_typeRow 51 = .ok (.aload_n 0, 1) := by decide +kernel
theorem dX16_typeRow_52 : decode cX16_typeRow 52 = .ok (.getfield 221, 3) := by decide +kernel
theorem dX16_typeRow_55 : decode cX16_typeRow 55 = .ok (.getfield 374, 3) := by decide +kernel
theorem dX16_typeRow_58 : decode cX16_typeRow 58 = .ok (.iload_n 1, 1) := by decide +kernel
theorem dX16_typeRow_59 : decode cX16_typeRow 59 = .ok (.lload 4, 2) := by decide +kernel
theorem dX16_typeRow_61 : decode cX16_typeRow 61 = .ok (.l2i, 1) := by decide +kernel
theorem dX16_typeRow_62 : decode cX16_typeRow 62 = .ok (.iadd, 1) := by decide +kernel
theorem dX16_typeRow_63 : decode cX16_typeRow 63 = .ok (.iload 6, 2) := by decide +kernel
theorem dX16_typeRow_65 : decode cX16_typeRow 65 = .ok (.iastore, 1) := by decide +kernel
theorem dX16_typeRow_66 : decode cX16_typeRow 66 = .ok (.lload 4, 2) := by decide +kernel
theorem dX16_typeRow_68 : decode cX16_typeRow 68 = .ok (.lconst 1, 1) := by decide +kernel
theorem dX16_typeRow_69 : decode cX16_typeRow 69 = .ok (.ladd, 1) := by decide +kernel
theorem dX16_typeRow_70 : decode cX16_typeRow 70 = .ok (.lstore 4, 2) := by decide +kernel
theorem dX16_typeRow_72 : decode cX16_typeRow 72 = .ok (.goto (-47), 3) := by decide +kernel
theorem dX16_typeRow_75 : decode cX16_typeRow 75 = .ok (.lload_n 2, 1) := by decide +kernel
theorem dX16_typeRow_76 : decode cX16_typeRow 76 = .ok (.ldc2_w 369, 3) := by decide +kernel
theorem dX16_typeRow_79 : decode cX16_typeRow 79 = .ok (.lcmp, 1) := by decide +kernel
theorem dX16_typeRow_80 : decode cX16_typeRow 80 = .ok (.ifCond .le 8, 3) := by decide +kernel
theorem dX16_typeRow_83 : decode cX16_typeRow 83 = .ok (.bipush 16, 2) := by decide +kernel
theorem dX16_typeRow_85 : decode cX16_typeRow 85 = .ok (.goto 5, 3) := by decide +kernel
theorem dX16_typeRow_88 : decode cX16_typeRow 88 = .ok (.lload_n 2, 1) := by decide +kernel
theorem dX16_typeRow_89 : decode cX16_typeRow 89 = .ok (.l2i, 1) := by decide +kernel
theorem dX16_typeRow_90 : decode cX16_typeRow 90 = .ok (.ireturn, 1) := by decide +kernel
noncomputable def tX16_typeRow_25 (x0 : Nat) (x1 : Int32) (x2 : Int64) (x4 : Int64) (h : pm_H) : Option (((Nat × Int32 × Int64 × Int64 × pm_H)) ⊕ ((Nat × pm_H) ⊕ (Int32 × pm_H))) := if x2 ≤ x4 then (if x2 ≤ 16 then (some (.inr (.inr (x2.toInt32, h)))) else (some (.inr (.inr (16, h))))) else (if pm_kd h x0 = 16 then (fX16_type h x0).bind fun v16 => pt_s v16 fun w18 => if x1 < 0 then (pm_let (x4 + 1) fun y21 => some (.inl ((x0, x1, x2, y21, w18.2)))) else (if 16 ≤ x4 then (pm_let (x4 + 1) fun y24 => some (.inl ((x0, x1, x2, y24, w18.2)))) else (if pm_kd w18.2 x0 = 16 then (pm_R w18.2 x0 10).bind fun v27 => if pm_kd w18.2 v27 = 14 then (pm_R w18.2 v27 7).bind fun v30 => if pm_kd w18.2 v30 = 34 then if pm_in (x1 + x4.toInt32) (pm_ln w18.2 v30) then pm_let (x4 + 1) fun y34 => some (.inl ((x0, x1, x2, y34, pm_setI w18.2 v30 ((x1 + x4.toInt32).toNatClampNeg) w18.1))) else none else none else none else none)) else none)
noncomputable def sX16_typeRow : ((Nat × Int32 × Int64 × Int64 × pm_H)) → Option (((Nat × Int32 × Int64 × Int64 × pm_H)) ⊕ ((Nat × pm_H) ⊕ (Int32 × pm_H))) := fun z => match z with
  | (x0, x1, x2, x4, h) => tX16_typeRow_25 x0 x1 x2 x4 h
noncomputable def fX16_typeRow (h : pm_H) (a0 : Nat) (p1 : Int32) : Option ((Nat × pm_H) ⊕ (Int32 × pm_H)) := if pm_kd h a0 = 16 then (fX16_number h a0).bind fun v2 => pt_k v2 fun w4 => if w4.1 ≤ 16 then (if pm_kd w4.2 a0 = 16 then (fX16_exceeds w4.2 a0 0).bind fun v8 => pm_lim sX16_typeRow ((a0, p1, w4.1, 0, v8)) else none) else (if pm_kd w4.2 a0 = 16 then (fX16_exceeds w4.2 a0 1).bind fun v11 => pm_lim sX16_typeRow ((a0, p1, w4.1, 0, v11)) else none) else none
set_option maxHeartbeats 4000000 in
set_option maxRecDepth 100000 in
theorem lpX16_typeRow {g : pm_Gm} {l : Launch} {G : pm_Gl} {Qr : Option Value → pm_H → Prop} {Qt : Nat → pm_H → Prop} (C : pm_C g cX16_typeRow RX16) (X : pm_XT g l G mX16_typeRow 0 0 Qr Qt) {r : ((Nat × pm_H) ⊕ (Int32 × pm_H))} (q : pt_eI Qr Qt r) : ∀ n : Nat, (∀ (x0 : Nat) (x1 : Int32) (x2 : Int64) (x4 : Int64) (h : pm_H), pm_iter sX16_typeRow n (x0, x1, x2, x4, h) = some r → pm_G g 25 [(0, .ref x0), (1, .int x1), (2, .long x2), (4, .long x4)] [] h 0 0) := by
  intro n
  induction n with
  | zero => exact fun _ _ _ _ _ hf => (by cases hf)
  | succ n ih =>
    refine fun x0 x1 x2 x4 h hf => ?_
    obtain ⟨y, hf, hi⟩ := pm_iter_s hf
    have hf : tX16_typeRow_25 x0 x1 x2 x4 h = some y := hf
    unfold tX16_typeRow_25 at hf
    refine pm_lload C dX16_typeRow_25 rfl ?_
    refine pm_lload_n C dX16_typeRow_27 rfl rfl ?_
    refine pm_lcmp C dX16_typeRow_28 ?_
    refine pm_if_ge (tgt := 75) C dX16_typeRow_29 (by decide) (fun c13 => ?_) (fun c13 => ?_)
    · have hf := pm_it hf ((pm_lg_ge _ _).mp c13)
      refine pm_lload_n C dX16_typeRow_75 rfl rfl ?_
      refine pm_ldc2 C dX16_typeRow_76 cnX16_369 ?_
      refine pm_lcmp C dX16_typeRow_79 ?_
      refine pm_if_le (tgt := 88) C dX16_typeRow_80 (by decide) (fun c14 => ?_) (fun c14 => ?_)
      · have hf := pm_it hf ((pm_lg_le _ _).mp c14)
        refine pm_lload_n C dX16_typeRow_88 rfl rfl ?_
        refine pm_l2i C dX16_typeRow_89 ?_
        cases hf
        cases hi
        exact pt_iret C X dX16_typeRow_90 rfl (Nat.le_refl _) (Nat.le_refl _) q
      · have hf := pm_ie hf ((fun z => c14 ((pm_lg_le _ _).mpr z)))
        refine pm_bipush (v := 16) C dX16_typeRow_83 (by decide) ?_
        refine pm_goto (tgt := 90) C dX16_typeRow_85 (by decide) ?_
        cases hf
        cases hi
        exact pt_iret C X dX16_typeRow_90 rfl (Nat.le_refl _) (Nat.le_refl _) q
    · have hf := pm_ie hf ((fun z => c13 ((pm_lg_ge _ _).mpr z)))
      refine pm_aload_n C dX16_typeRow_32 rfl rfl ?_
      obtain ⟨k15, hf⟩ := pm_if hf
      obtain ⟨v16, e17, hf⟩ := pm_bd hf
      refine pt_callVT (as := []) (st := []) C X dX16_typeRow_33 ltX16_371 myX16_type viX16_type ⟨by decide, by decide⟩ rfl rfl k15 (Nat.le_of_ble_eq_true rfl) (Nat.le_refl _) (Nat.le_refl _) (ctX16_type e17 ?_)
      rcases v16 with z19 | w18
      · have hf := pt_sl hf
        cases hf
        cases hi
        exact q
      have hf := pt_sr hf
      show pm_G g 36 [(0, .ref x0), (1, .int x1), (2, .long x2), (4, .long x4)] [.int w18.1] w18.2 0 0
      refine pm_istore (lv' := [(6, .int w18.1), (0, .ref x0), (1, .int x1), (2, .long x2), (4, .long x4)]) C dX16_typeRow_36 (pt_nl X (by decide)) rfl ?_
      refine pm_iload_n C dX16_typeRow_38 rfl rfl ?_
      refine pm_if_lt (tgt := 66) C dX16_typeRow_39 (by decide) (fun c20 => ?_) (fun c20 => ?_)
      · have hf := pm_it hf c20
        refine pm_lload C dX16_typeRow_66 rfl ?_
        refine pm_lconst (v := 1) C dX16_typeRow_68 (by decide) ?_
        refine pm_ladd C dX16_typeRow_69 ?_
        obtain ⟨y21, e22, hf⟩ := pm_lt hf
        refine pm_topL e22 ?_
        refine pm_lstore (lv' := [(4, .long y21), (6, .int w18.1), (0, .ref x0), (1, .int x1), (2, .long x2)]) C dX16_typeRow_70 (pt_nl X (by decide)) rfl ?_
        refine pm_goto (tgt := 25) C dX16_typeRow_72 (by decide) ?_
        cases hf
        exact pm_sub [2, 3, 4, 0] rfl (ih x0 x1 x2 y21 w18.2 hi)
      · have hf := pm_ie hf c20
        refine pm_lload C dX16_typeRow_42 rfl ?_
        refine pm_ldc2 C dX16_typeRow_44 cnX16_369 ?_
        refine pm_lcmp C dX16_typeRow_47 ?_
        refine pm_if_ge (tgt := 66) C dX16_typeRow_48 (by decide) (fun c23 => ?_) (fun c23 => ?_)
        · have hf := pm_it hf ((pm_lg_ge _ _).mp c23)
          refine pm_lload C dX16_typeRow_66 rfl ?_
          refine pm_lconst (v := 1) C dX16_typeRow_68 (by decide) ?_
          refine pm_ladd C dX16_typeRow_69 ?_
          obtain ⟨y24, e25, hf⟩ := pm_lt hf
          refine pm_topL e25 ?_
          refine pm_lstore (lv' := [(4, .long y24), (6, .int w18.1), (0, .ref x0), (1, .int x1), (2, .long x2)]) C dX16_typeRow_70 (pt_nl X (by decide)) rfl ?_
          refine pm_goto (tgt := 25) C dX16_typeRow_72 (by decide) ?_
          cases hf
          exact pm_sub [2, 3, 4, 0] rfl (ih x0 x1 x2 y24 w18.2 hi)
        · have hf := pm_ie hf ((fun z => c23 ((pm_lg_ge _ _).mpr z)))
          refine pm_aload_n C dX16_typeRow_51 rfl rfl ?_
          obtain ⟨k26, hf⟩ := pm_if hf
          obtain ⟨v27, e28, hf⟩ := pm_bd hf
          refine pm_getR C dX16_typeRow_52 flX16_221 rfl k26 e28 ?_
          obtain ⟨k29, hf⟩ := pm_if hf
          obtain ⟨v30, e31, hf⟩ := pm_bd hf
          refine pm_getR C dX16_typeRow_55 flX16_374 rfl k29 e31 ?_
          refine pm_iload_n C dX16_typeRow_58 rfl rfl ?_
          refine pm_lload C dX16_typeRow_59 rfl ?_
          refine pm_l2i C dX16_typeRow_61 ?_
          refine pm_iadd C dX16_typeRow_62 ?_
          refine pm_iload C dX16_typeRow_63 rfl ?_
          obtain ⟨k32, hf⟩ := pm_if hf
          obtain ⟨u33, hf⟩ := pm_if hf
          refine pm_iast C dX16_typeRow_65 k32 u33 ?_
          refine pm_lload C dX16_typeRow_66 rfl ?_
          refine pm_lconst (v := 1) C dX16_typeRow_68 (by decide) ?_
          refine pm_ladd C dX16_typeRow_69 ?_
          obtain ⟨y34, e35, hf⟩ := pm_lt hf
          refine pm_topL e35 ?_
          refine pm_lstore (lv' := [(4, .long y34), (6, .int w18.1), (0, .ref x0), (1, .int x1), (2, .long x2)]) C dX16_typeRow_70 (pt_nl X (by decide)) rfl ?_
          refine pm_goto (tgt := 25) C dX16_typeRow_72 (by decide) ?_
          cases hf
          exact pm_sub [2, 3, 4, 0] rfl (ih x0 x1 x2 y34 (pm_setI w18.2 v30 ((x1 + x4.toInt32).toNatClampNeg) w18.1) hi)
set_option maxHeartbeats 4000000 in
set_option maxRecDepth 100000 in
theorem ctX16_typeRow {l : Launch} {G : pm_Gl} {h : pm_H} {a0 : Nat} {p1 : Int32} {r : ((Nat × pm_H) ⊕ (Int32 × pm_H))} {Qr : Option Value → pm_H → Prop} {Qt : Nat → pm_H → Prop} (hf : fX16_typeRow h a0 p1 = some r) (q : pt_eI Qr Qt r) : pm_Ctt l G mX16_typeRow [.ref a0, .int p1] h 0 0 Qr Qt := by
  refine pm_bodyT pnX16 (Nat.le_of_ble_eq_true rfl) (fun g C X => ?_)
  have C : pm_C g cX16_typeRow RX16 := C
  show pm_G g 0 [(0, .ref a0), (1, .int p1)] [] h 0 0
  unfold fX16_typeRow at hf
  refine pm_aload_n C dX16_typeRow_0 rfl rfl ?_
  obtain ⟨k1, hf⟩ := pm_if hf
  obtain ⟨v2, e3, hf⟩ := pm_bd hf
  refine pt_callVT (as := []) (st := []) C X dX16_typeRow_1 ltX16_277 myX16_number viX16_number ⟨by decide, by decide⟩ rfl rfl k1 (Nat.le_of_ble_eq_true rfl) (Nat.le_refl _) (Nat.le_refl _) (ctX16_number e3 ?_)
  rcases v2 with z5 | w4
  · have hf := pt_kl hf
    cases hf
    exact q
  have hf := pt_kr hf
  show pm_G g 4 [(0, .ref a0), (1, .int p1)] [.long w4.1] w4.2 0 0
  refine pm_lstore_n (lv' := [(2, .long w4.1), (0, .ref a0), (1, .int p1)]) C dX16_typeRow_4 rfl (pt_nl X (by decide)) rfl ?_
  refine pm_aload_n C dX16_typeRow_5 rfl rfl ?_
  refine pm_lload_n C dX16_typeRow_6 rfl rfl ?_
  refine pm_ldc2 C dX16_typeRow_7 cnX16_369 ?_
  refine pm_lcmp C dX16_typeRow_10 ?_
  refine pm_if_le (tgt := 18) C dX16_typeRow_11 (by decide) (fun c6 => ?_) (fun c6 => ?_)
  · have hf := pm_it hf ((pm_lg_le _ _).mp c6)
    refine pm_iconst (v := 0) C dX16_typeRow_18 (by decide) ?_
    obtain ⟨k7, hf⟩ := pm_if hf
    obtain ⟨v8, e9, hf⟩ := pm_bd hf
    refine pt_callV (as := [.int 0]) (st := []) C X dX16_typeRow_19 lnX16_365 myX16_exceeds viX16_exceeds ⟨by decide, by decide⟩ rfl rfl k7 (Nat.le_of_ble_eq_true rfl) (Nat.le_refl _) (Nat.le_refl _) (ctX16_exceeds e9 ?_)
    show pm_G g 22 [(2, .long w4.1), (0, .ref a0), (1, .int p1)] [] v8 0 0
    refine pm_lconst (v := 0) C dX16_typeRow_22 (by decide) ?_
    refine pm_lstore (lv' := [(4, .long 0), (2, .long w4.1), (0, .ref a0), (1, .int p1)]) C dX16_typeRow_23 (pt_nl X (by decide)) rfl ?_
    obtain ⟨n, hn⟩ := pm_lim_iter hf
    exact pm_sub [2, 3, 1, 0] rfl ((lpX16_typeRow C X q n) a0 p1 w4.1 0 v8 hn)
  · have hf := pm_ie hf ((fun z => c6 ((pm_lg_le _ _).mpr z)))
    refine pm_iconst (v := 1) C dX16_typeRow_14 (by decide) ?_
    refine pm_goto (tgt := 19) C dX16_typeRow_15 (by decide) ?_
    obtain ⟨k10, hf⟩ := pm_if hf
    obtain ⟨v11, e12, hf⟩ := pm_bd hf
    refine pt_callV (as := [.int 1]) (st := []) C X dX16_typeRow_19 lnX16_365 myX16_exceeds viX16_exceeds ⟨by decide, by decide⟩ rfl rfl k10 (Nat.le_of_ble_eq_true rfl) (Nat.le_refl _) (Nat.le_refl _) (ctX16_exceeds e12 ?_)
    show pm_G g 22 [(2, .long w4.1), (0, .ref a0), (1, .int p1)] [] v11 0 0
    refine pm_lconst (v := 0) C dX16_typeRow_22 (by decide) ?_
    refine pm_lstore (lv' := [(4, .long 0), (2, .long w4.1), (0, .ref a0), (1, .int p1)]) C dX16_typeRow_23 (pt_nl X (by decide)) rfl ?_
    obtain ⟨n, hn⟩ := pm_lim_iter hf
    exact pm_sub [2, 3, 1, 0] rfl ((lpX16_typeRow C X q n) a0 p1 w4.1 0 v11 hn)
theorem dX16_accesses_0 : decode cX16_accesses 0 = .ok (.iload_n 1, 1) := by decide +kernel
theorem dX16_accesses_1 : decode cX16_accesses 1 = .ok (.invokestatic 793, 3) := by decide +kernel
theorem dX16_accesses_4 : decode cX16_accesses 4 = .ok (.istore_n 2, 1) := by decide +kernel
theorem dX16_accesses_5 : decode cX16_accesses 5 = .ok (.iload_n 1, 1) := by decide +kernel
theorem dX16_accesses_6 : decode cX16_accesses 6 = .ok (.bipush 53, 2) := by decide +kernel
theorem dX16_accesses_8 : decode cX16_accesses 8 = .ok (.if_icmp .le 9, 3) := by decide +kernel
theorem dX16_accesses_11 : decode cX16_accesses 11 = .ok (.aload_n 0, 1) := by decide +kernel
theorem dX16_accesses_12 : decode cX16_accesses 12 = .ok (.iload_n 2, 1) := by decide +kernel
theorem dX16_accesses_13 : decode cX16_accesses 13 = .ok (.iconst 1, 1) := by decide +kernel
theorem dX16_accesses_14 : decode cX16_accesses 14 = .ok (.invokevirtual 750, 3) := by decide +kernel
theorem dX16_accesses_17 : decode cX16_accesses 17 = .ok (.aload_n 0, 1) := by decide +kernel
theorem dX16_accesses_18 : decode cX16_accesses 18 = .ok (.bipush 127, 2) := by decide +kernel
theorem dX16_accesses_20 : decode cX16_accesses 20 = .ok (.iconst 1, 1) := by decide +kernel
theorem dX16_accesses_21 : decode cX16_accesses 21 = .ok (.invokevirtual 750, 3) := by decide +kernel
theorem dX16_accesses_24 : decode cX16_accesses 24 = .ok (.iload_n 1, 1) := by decide +kernel
theorem dX16_accesses_25 : decode cX16_accesses 25 = .ok (.bipush 54, 2) := by decide +kernel
theorem dX16_accesses_27 : decode cX16_accesses 27 = .ok (.if_icmp .ge 8, 3) := by decide +kernel
theorem dX16_accesses_30 : decode cX16_accesses 30 = .ok (.aload_n 0, 1) := by decide +kernel
theorem dX16_accesses_31 : decode cX16_accesses 31 = .ok (.iload_n 2, 1) := by decide +kernel
theorem dX16_accesses_32 : decode cX16_accesses 32 = .ok (.invokevirtual 695, 3) := by decide +kernel
theorem dX16_accesses_35 : decode cX16_accesses 35 = .ok (.return_, 1) := by decide +kernel
noncomputable def fX16_accesses (h : pm_H) (a0 : Nat) (p1 : Int32) : Option ((Nat × pm_H) ⊕ pm_H) := pm_let (fX16_accessType p1) fun v1 => if p1 ≤ 53 then (if pm_kd h a0 = 16 then (fX16_takes h a0 127 1).bind fun v5 => pt_k v5 fun w7 => if 54 ≤ p1 then (some (.inr (w7))) else (if pm_kd w7 a0 = 16 then (fX16_put w7 a0 v1).bind fun v11 => pt_k v11 fun w13 => some (.inr (w13)) else none) else none) else (if pm_kd h a0 = 16 then (fX16_takes h a0 v1 1).bind fun v16 => pt_k v16 fun w18 => if pm_kd w18 a0 = 16 then (fX16_takes w18 a0 127 1).bind fun v21 => pt_k v21 fun w23 => if 54 ≤ p1 then (some (.inr (w23))) else (if pm_kd w23 a0 = 16 then (fX16_put w23 a0 v1).bind fun v27 => pt_k v27 fun w29 => some (.inr (w29)) else none) else none else none)
set_option maxHeartbeats 4000000 in
set_option maxRecDepth 100000 in
theorem ctX16_accesses {l : Launch} {G : pm_Gl} {h : pm_H} {a0 : Nat} {p1 : Int32} {r : ((Nat × pm_H) ⊕ pm_H)} {Qr : Option Value → pm_H → Prop} {Qt : Nat → pm_H → Prop} (hf : fX16_accesses h a0 p1 = some r) (q : pt_eV Qr Qt r) : pm_Ctt l G mX16_accesses [.ref a0, .int p1] h 0 0 Qr Qt := by
  refine pm_bodyT pnX16 (Nat.le_of_ble_eq_true rfl) (fun g C X => ?_)
  have C : pm_C g cX16_accesses RX16 := C
  show pm_G g 0 [(0, .ref a0), (1, .int p1)] [] h 0 0
  unfold fX16_accesses at hf
  refine pm_iload_n C dX16_accesses_0 rfl rfl ?_
  obtain ⟨v1, e2, hf⟩ := pm_lt hf
  refine pt_callS (as := [.int p1]) (st := []) C X dX16_accesses_1 lnX16_793 myX16_accessType stX16_accessType ⟨by decide, by decide⟩ rfl rfl (Nat.le_of_ble_eq_true rfl) (Nat.le_refl _) (Nat.le_refl _) (ctX16_accessType e2 ?_)
  show pm_G g 4 [(0, .ref a0), (1, .int p1)] [.int v1] h 0 0
  refine pm_istore_n (lv' := [(2, .int v1), (0, .ref a0), (1, .int p1)]) C dX16_accesses_4 rfl (pt_nl X (by decide)) rfl ?_
  refine pm_iload_n C dX16_accesses_5 rfl rfl ?_
  refine pm_bipush (v := 53) C dX16_accesses_6 (by decide) ?_
  refine pm_icmp_le (tgt := 17) C dX16_accesses_8 (by decide) (fun c3 => ?_) (fun c3 => ?_)
  · have hf := pm_it hf c3
    refine pm_aload_n C dX16_accesses_17 rfl rfl ?_
    refine pm_bipush (v := 127) C dX16_accesses_18 (by decide) ?_
    refine pm_iconst (v := 1) C dX16_accesses_20 (by decide) ?_
    obtain ⟨k4, hf⟩ := pm_if hf
    obtain ⟨v5, e6, hf⟩ := pm_bd hf
    refine pt_callVT (as := [.int 127, .int 1]) (st := []) C X dX16_accesses_21 ltX16_750 myX16_takes viX16_takes ⟨by decide, by decide⟩ rfl rfl k4 (Nat.le_of_ble_eq_true rfl) (Nat.le_refl _) (Nat.le_refl _) (ctX16_takes e6 ?_)
    rcases v5 with z8 | w7
    · have hf := pt_kl hf
      cases hf
      exact q
    have hf := pt_kr hf
    show pm_G g 24 [(2, .int v1), (0, .ref a0), (1, .int p1)] [] w7 0 0
    refine pm_iload_n C dX16_accesses_24 rfl rfl ?_
    refine pm_bipush (v := 54) C dX16_accesses_25 (by decide) ?_
    refine pm_icmp_ge (tgt := 35) C dX16_accesses_27 (by decide) (fun c9 => ?_) (fun c9 => ?_)
    · have hf := pm_it hf c9
      cases hf
      exact pt_vret C X dX16_accesses_35 rfl (Nat.le_refl _) (Nat.le_refl _) q
    · have hf := pm_ie hf c9
      refine pm_aload_n C dX16_accesses_30 rfl rfl ?_
      refine pm_iload_n C dX16_accesses_31 rfl rfl ?_
      obtain ⟨k10, hf⟩ := pm_if hf
      obtain ⟨v11, e12, hf⟩ := pm_bd hf
      refine pt_callVT (as := [.int v1]) (st := []) C X dX16_accesses_32 ltX16_695 myX16_put viX16_put ⟨by decide, by decide⟩ rfl rfl k10 (Nat.le_of_ble_eq_true rfl) (Nat.le_refl _) (Nat.le_refl _) (ctX16_put e12 ?_)
      rcases v11 with z14 | w13
      · have hf := pt_kl hf
        cases hf
        exact q
      have hf := pt_kr hf
      show pm_G g 35 [(2, .int v1), (0, .ref a0), (1, .int p1)] [] w13 0 0
      cases hf
      exact pt_vret C X dX16_accesses_35 rfl (Nat.le_refl _) (Nat.le_refl _) q
  · have hf := pm_ie hf c3
    refine pm_aload_n C dX16_accesses_11 rfl rfl ?_
    refine pm_iload_n C dX16_accesses_12 rfl rfl ?_
    refine pm_iconst (v := 1) C dX16_accesses_13 (by decide) ?_
    obtain ⟨k15, hf⟩ := pm_if hf
    obtain ⟨v16, e17, hf⟩ := pm_bd hf
    refine pt_callVT (as := [.int v1, .int 1]) (st := []) C X dX16_accesses_14 ltX16_750 myX16_takes viX16_takes ⟨by decide, by decide⟩ rfl rfl k15 (Nat.le_of_ble_eq_true rfl) (Nat.le_refl _) (Nat.le_refl _) (ctX16_takes e17 ?_)
    rcases v16 with z19 | w18
    · have hf := pt_kl hf
      cases hf
      exact q
    have hf := pt_kr hf
    show pm_G g 17 [(2, .int v1), (0, .ref a0), (1, .int p1)] [] w18 0 0
    refine pm_aload_n C dX16_accesses_17 rfl rfl ?_
    refine pm_bipush (v := 127) C dX16_accesses_18 (by decide) ?_
    refine pm_iconst (v := 1) C dX16_accesses_20 (by decide) ?_
    obtain ⟨k20, hf⟩ := pm_if hf
    obtain ⟨v21, e22, hf⟩ := pm_bd hf
    refine pt_callVT (as := [.int 127, .int 1]) (st := []) C X dX16_accesses_21 ltX16_750 myX16_takes viX16_takes ⟨by decide, by decide⟩ rfl rfl k20 (Nat.le_of_ble_eq_true rfl) (Nat.le_refl _) (Nat.le_refl _) (ctX16_takes e22 ?_)
    rcases v21 with z24 | w23
    · have hf := pt_kl hf
      cases hf
      exact q
    have hf := pt_kr hf
    show pm_G g 24 [(2, .int v1), (0, .ref a0), (1, .int p1)] [] w23 0 0
    refine pm_iload_n C dX16_accesses_24 rfl rfl ?_
    refine pm_bipush (v := 54) C dX16_accesses_25 (by decide) ?_
    refine pm_icmp_ge (tgt := 35) C dX16_accesses_27 (by decide) (fun c25 => ?_) (fun c25 => ?_)
    · have hf := pm_it hf c25
      cases hf
      exact pt_vret C X dX16_accesses_35 rfl (Nat.le_refl _) (Nat.le_refl _) q
    · have hf := pm_ie hf c25
      refine pm_aload_n C dX16_accesses_30 rfl rfl ?_
      refine pm_iload_n C dX16_accesses_31 rfl rfl ?_
      obtain ⟨k26, hf⟩ := pm_if hf
      obtain ⟨v27, e28, hf⟩ := pm_bd hf
      refine pt_callVT (as := [.int v1]) (st := []) C X dX16_accesses_32 ltX16_695 myX16_put viX16_put ⟨by decide, by decide⟩ rfl rfl k26 (Nat.le_of_ble_eq_true rfl) (Nat.le_refl _) (Nat.le_refl _) (ctX16_put e28 ?_)
      rcases v27 with z30 | w29
      · have hf := pt_kl hf
        cases hf
        exact q
      have hf := pt_kr hf
      show pm_G g 35 [(2, .int v1), (0, .ref a0), (1, .int p1)] [] w29 0 0
      cases hf
      exact pt_vret C X dX16_accesses_35 rfl (Nat.le_refl _) (Nat.le_refl _) q
theorem dX16_blockType_0 : decode cX16_blockType 0 = .ok (.aload_n 0, 1) := by decide +kernel
theorem dX16_blockType_1 : decode cX16_blockType 1 = .ok (.getfield 251, 3) := by decide +kernel
theorem dX16_blockType_4 : decode cX16_blockType 4 = .ok (.istore_n 1, 1) := by decide +kernel
theorem dX16_blockType_5 : decode cX16_blockType 5 = .ok (.aload_n 0, 1) := by decide +kernel
theorem dX16_blockType_6 : decode cX16_blockType 6 = .ok (.invokevirtual 264, 3) := by decide +kernel
theorem dX16_blockType_9 : decode cX16_blockType 9 = .ok (.istore_n 2, 1) := by decide +kernel
theorem dX16_blockType_10 : decode cX16_blockType 10 = .ok (.iload_n 2, 1) := by decide +kernel
theorem dX16_blockType_11 : decode cX16_blockType 11 = .ok (.bipush 64, 2) := by decide +kernel
theorem dX16_blockType_13 : decode cX16_blockType 13 = .ok (.if_icmp .eq 10, 3) := by decide +kernel
theorem dX16_blockType_16 : decode cX16_blockType 16 = .ok (.iload_n 2, 1) := by decide +kernel
theorem dX16_blockType_17 : decode cX16_blockType 17 = .ok (.invokestatic 274, 3) := by decide +kernel
theorem dX16_blockType_20 : decode cX16_blockType 20 = .ok (.ifCond .eq 4, 3) := by decide +kernel
theorem dX16_blockType_23 : decode cX16_blockType 23 = .ok (.return_, 1) := by decide +kernel
theorem dX16_blockType_24 : decode cX16_blockType 24 = .ok (.aload_n 0, 1) := by decide +kernel
theorem dX16_blockType_25 : decode cX16_blockType 25 = .ok (.iload_n 1, 1) := by decide +kernel
theorem dX16_blockType_26 : decode cX16_blockType 26 = .ok (.putfield 251, 3) := by decide +kernel
theorem dX16_blockType_29 : decode cX16_blockType 29 = .ok (.aload_n 0, 1) := by decide +kernel
theorem dX16_blockType_30 : decode cX16_blockType 30 = .ok (.bipush 33, 2) := by decide +kernel
theorem dX16_blockType_32 : decode cX16_blockType 32 = .ok (.invokevirtual 562, 3) := by decide +kernel
theorem dX16_blockType_35 : decode cX16_blockType 35 = .ok (.lconst 0, 1) := by decide +kernel
theorem dX16_blockType_36 : decode cX16_blockType 36 = .ok (.lcmp, 1) := by decide +kernel
theorem dX16_blockType_37 : decode cX16_blockType 37 = .ok (.ifCond .ge 10, 3) := by decide +kernel
theorem dX16_blockType_40 : decode cX16_blockType 40 = .ok (.aload_n 0, 1) := by decide +kernel
theorem dX16_blockType_41 : decode cX16_blockType 41 = .ok (.bipush 8, 2) := by decide +kernel
theorem dX16_blockType_43 : decode cX16_blockType 43 = .ok (.iload_n 1, 1) := by decide +kernel
theorem dX16_blockType_44 : decode cX16_blockType 44 = .ok (.invokevirtual 257, 3) := by decide +kernel
theorem dX16_blockType_47 : decode cX16_blockType 47 = .ok (.return_, 1) := by decide +kernel
noncomputable def fX16_blockType (h : pm_H) (a0 : Nat) : Option ((Nat × pm_H) ⊕ pm_H) := if pm_kd h a0 = 16 then pm_let (pm_I h a0 11) fun y2 => (fX16_next h a0).bind fun v4 => pt_k v4 fun w6 => if w6.1 = 64 then (some (.inr (w6.2))) else (pm_let (fX16_isType w6.1) fun v9 => if v9 = 0 then (if pm_kd w6.2 a0 = 16 then (fX16_signed (pm_setI w6.2 a0 11 y2) a0 33).bind fun v13 => pt_k v13 fun w15 => if 0 ≤ w15.1 then (some (.inr (w15.2))) else (if pm_kd w15.2 a0 = 16 then (fX16_stops w15.2 a0 8 y2).bind fun v19 => pt_k v19 fun w21 => some (.inr (w21)) else none) else none) else (some (.inr (w6.2)))) else none
set_option maxHeartbeats 4000000 in
set_option maxRecDepth 100000 in
theorem ctX16_blockType {l : Launch} {G : pm_Gl} {h : pm_H} {a0 : Nat} {r : ((Nat × pm_H) ⊕ pm_H)} {Qr : Option Value → pm_H → Prop} {Qt : Nat → pm_H → Prop} (hf : fX16_blockType h a0 = some r) (q : pt_eV Qr Qt r) : pm_Ctt l G mX16_blockType [.ref a0] h 0 0 Qr Qt := by
  refine pm_bodyT pnX16 (Nat.le_of_ble_eq_true rfl) (fun g C X => ?_)
  have C : pm_C g cX16_blockType RX16 := C
  show pm_G g 0 [(0, .ref a0)] [] h 0 0
  unfold fX16_blockType at hf
  refine pm_aload_n C dX16_blockType_0 rfl rfl ?_
  obtain ⟨k1, hf⟩ := pm_if hf
  refine pm_getI C dX16_blockType_1 flX16_251 rfl k1 rfl ?_
  obtain ⟨y2, e3, hf⟩ := pm_lt hf
  refine pm_topI e3 ?_
  refine pm_istore_n (lv' := [(1, .int y2), (0, .ref a0)]) C dX16_blockType_4 rfl (pt_nl X (by decide)) rfl ?_
  refine pm_aload_n C dX16_blockType_5 rfl rfl ?_
  obtain ⟨v4, e5, hf⟩ := pm_bd hf
  refine pt_callVT (as := []) (st := []) C X dX16_blockType_6 ltX16_264 myX16_next viX16_next ⟨by decide, by decide⟩ rfl rfl k1 (Nat.le_of_ble_eq_true rfl) (Nat.le_refl _) (Nat.le_refl _) (ctX16_next e5 ?_)
  rcases v4 with z7 | w6
  · have hf := pt_kl hf
    cases hf
    exact q
  have hf := pt_kr hf
  show pm_G g 9 [(1, .int y2), (0, .ref a0)] [.int w6.1] w6.2 0 0
  refine pm_istore_n (lv' := [(2, .int w6.1), (1, .int y2), (0, .ref a0)]) C dX16_blockType_9 rfl (pt_nl X (by decide)) rfl ?_
  refine pm_iload_n C dX16_blockType_10 rfl rfl ?_
  refine pm_bipush (v := 64) C dX16_blockType_11 (by decide) ?_
  refine pm_icmp_eq (tgt := 23) C dX16_blockType_13 (by decide) (fun c8 => ?_) (fun c8 => ?_)
  · have hf := pm_it hf c8
    cases hf
    exact pt_vret C X dX16_blockType_23 rfl (Nat.le_refl _) (Nat.le_refl _) q
  · have hf := pm_ie hf c8
    refine pm_iload_n C dX16_blockType_16 rfl rfl ?_
    obtain ⟨v9, e10, hf⟩ := pm_lt hf
    refine pt_callS (as := [.int w6.1]) (st := []) C X dX16_blockType_17 lnX16_274 myX16_isType stX16_isType ⟨by decide, by decide⟩ rfl rfl (Nat.le_of_ble_eq_true rfl) (Nat.le_refl _) (Nat.le_refl _) (ctX16_isType e10 ?_)
    show pm_G g 20 [(2, .int w6.1), (1, .int y2), (0, .ref a0)] [.int v9] w6.2 0 0
    refine pm_if_eq (tgt := 24) C dX16_blockType_20 (by decide) (fun c11 => ?_) (fun c11 => ?_)
    · have hf := pm_it hf c11
      refine pm_aload_n C dX16_blockType_24 rfl rfl ?_
      refine pm_iload_n C dX16_blockType_25 rfl rfl ?_
      obtain ⟨k12, hf⟩ := pm_if hf
      refine pm_putI C dX16_blockType_26 flX16_251 rfl rfl k12 rfl rfl ?_
      refine pm_aload_n C dX16_blockType_29 rfl rfl ?_
      refine pm_bipush (v := 33) C dX16_blockType_30 (by decide) ?_
      obtain ⟨v13, e14, hf⟩ := pm_bd hf
      refine pt_callVT (as := [.int 33]) (st := []) C X dX16_blockType_32 ltX16_562 myX16_signed viX16_signed ⟨by decide, by decide⟩ rfl rfl k12 (Nat.le_of_ble_eq_true rfl) (Nat.le_refl _) (Nat.le_refl _) (ctX16_signed e14 ?_)
      rcases v13 with z16 | w15
      · have hf := pt_kl hf
        cases hf
        exact q
      have hf := pt_kr hf
      show pm_G g 35 [(2, .int w6.1), (1, .int y2), (0, .ref a0)] [.long w15.1] w15.2 0 0
      refine pm_lconst (v := 0) C dX16_blockType_35 (by decide) ?_
      refine pm_lcmp C dX16_blockType_36 ?_
      refine pm_if_ge (tgt := 47) C dX16_blockType_37 (by decide) (fun c17 => ?_) (fun c17 => ?_)
      · have hf := pm_it hf ((pm_lg_ge _ _).mp c17)
        cases hf
        exact pt_vret C X dX16_blockType_47 rfl (Nat.le_refl _) (Nat.le_refl _) q
      · have hf := pm_ie hf ((fun z => c17 ((pm_lg_ge _ _).mpr z)))
        refine pm_aload_n C dX16_blockType_40 rfl rfl ?_
        refine pm_bipush (v := 8) C dX16_blockType_41 (by decide) ?_
        refine pm_iload_n C dX16_blockType_43 rfl rfl ?_
        obtain ⟨k18, hf⟩ := pm_if hf
        obtain ⟨v19, e20, hf⟩ := pm_bd hf
        refine pt_callVT (as := [.int 8, .int y2]) (st := []) C X dX16_blockType_44 ltX16_257 myX16_stops viX16_stops ⟨by decide, by decide⟩ rfl rfl k18 (Nat.le_of_ble_eq_true rfl) (Nat.le_refl _) (Nat.le_refl _) (ctX16_stops e20 ?_)
        rcases v19 with z22 | w21
        · have hf := pt_kl hf
          cases hf
          exact q
        have hf := pt_kr hf
        show pm_G g 47 [(2, .int w6.1), (1, .int y2), (0, .ref a0)] [] w21 0 0
        cases hf
        exact pt_vret C X dX16_blockType_47 rfl (Nat.le_refl _) (Nat.le_refl _) q
    · have hf := pm_ie hf c11
      cases hf
      exact pt_vret C X dX16_blockType_23 rfl (Nat.le_refl _) (Nat.le_refl _) q
