theorem dX16_readsMemories_0 : decode cX16_readsMemories 0 = .ok (.aload_n 0, 1) := by decide +kernel
theorem dX16_readsMemories_1 : decode cX16_readsMemories 1 = .ok (.invokevirtual 277, 3) := by decide +kernel
theorem dX16_readsMemories_4 : decode cX16_readsMemories 4 = .ok (.lstore_n 1, 1) := by decide +kernel
theorem dX16_readsMemories_5 : decode cX16_readsMemories 5 = .ok (.aload_n 0, 1) := by decide +kernel
theorem dX16_readsMemories_6 : decode cX16_readsMemories 6 = .ok (.getfield 221, 3) := by decide +kernel
theorem dX16_readsMemories_9 : decode cX16_readsMemories 9 = .ok (.aload_n 0, 1) := by decide +kernel
theorem dX16_readsMemories_10 : decode cX16_readsMemories 10 = .ok (.lload_n 1, 1) := by decide +kernel
theorem dX16_readsMemories_11 : decode cX16_readsMemories 11 = .ok (.invokevirtual 377, 3) := by decide +kernel
theorem dX16_readsMemories_14 : decode cX16_readsMemories 14 = .ok (.putfield 444, 3) := by decide +kernel
theorem dX16_readsMemories_17 : decode cX16_readsMemories 17 = .ok (.lconst 0, 1) := by decide +kernel
theorem dX16_readsMemories_18 : decode cX16_readsMemories 18 = .ok (.lstore_n 3, 1) := by decide +kernel
theorem dX16_readsMemories_19 : decode cX16_readsMemories 19 = .ok (.lload_n 3, 1) := by decide +kernel
theorem dX16_readsMemories_20 : decode cX16_readsMemories 20 = .ok (.lload_n 1, 1) := by decide +kernel
theorem dX16_readsMemories_21 : decode cX16_readsMemories 21 = .ok (.lcmp, 1) := by decide +kernel
theorem dX16_readsMemories_22 : decode cX16_readsMemories 22 = .ok (.ifCond .ge 50, 3) := by decide +kernel
theorem dX16_readsMemories_25 : decode cX16_readsMemories 25 = .ok (.aload_n 0, 1) := by decide +kernel
theorem dX16_readsMemories_26 : decode cX16_readsMemories 26 = .ok (.invokevirtual 408, 3) := by decide +kernel
theorem dX16_readsMemories_29 : decode cX16_readsMemories 29 = .ok (.lload_n 3, 1) := by decide +kernel
theorem dX16_readsMemories_30 : decode cX16_readsMemories 30 = .ok (.ldc2_w 363, 3) := by decide +kernel
theorem dX16_readsMemories_33 : decode cX16_readsMemories 33 = .ok (.lcmp, 1) := by decide +kernel
theorem dX16_readsMemories_34 : decode cX16_readsMemories 34 = .ok (.ifCond .ge 31, 3) := by decide +kernel
theorem dX16_readsMemories_37 : decode cX16_readsMemories 37 = .ok (.aload_n 0, 1) := by decide +kernel
theorem dX16_readsMemories_38 : decode cX16_readsMemories 38 = .ok (.getfield 221, 3) := by decide +kernel
theorem dX16_readsMemories_41 : decode cX16_readsMemories 41 = .ok (.getfield 447, 3) := by decide +kernel
theorem dX16_readsMemories_44 : decode cX16_readsMemories 44 = .ok (.lload_n 3, 1) := by decide +kernel
theorem dX16_readsMemories_45 : decode cX16_readsMemories 45 = .ok (.l2i, 1) := by decide +kernel
theorem dX16_readsMemories_46 : decode cX16_readsMemories 46 = .ok (.aload_n 0, 1) := by decide +kernel
theorem dX16_readsMemories_47 : decode cX16_readsMemories 47 = .ok (.getfield 396, 3) := by decide +kernel
theorem dX16_readsMemories_50 : decode cX16_readsMemories 50 = .ok (.lastore, 1) := by decide +kernel
theorem dX16_readsMemories_51 : decode cX16_readsMemories 51 = .ok (.aload_n 0, 1) := by decide +kernel
theorem dX16_readsMemories_52 : decode cX16_readsMemories 52 = .ok (.getfield 221, 3) := by decide +kernel
theorem dX16_readsMemories_55 : decode cX16_readsMemories 55 = .ok (.getfield 450, 3) := by decide +kernel
theorem dX16_readsMemories_58 : decode cX16_readsMemories 58 = .ok (.lload_n 3, 1) := by decide +kernel
theorem dX16_readsMemories_59 : decode cX16_readsMemories 59 = .ok (.l2i, 1) := by decide +kernel
theorem dX16_readsMemories_60 : decode cX16_readsMemories 60 = .ok (.aload_n 0, 1) := by decide +kernel
theorem dX16_readsMemories_61 : decode cX16_readsMemories 61 = .ok (.getfield 399, 3) := by decide +kernel
theorem dX16_readsMemories_64 : decode cX16_readsMemories 64 = .ok (.lastore, 1) := by decide +kernel
theorem dX16_readsMemories_65 : decode cX16_readsMemories 65 = .ok (.lload_n 3, 1) := by decide +kernel
theorem dX16_readsMemories_66 : decode cX16_readsMemories 66 = .ok (.lconst 1, 1) := by decide +kernel
theorem dX16_readsMemories_67 : decode cX16_readsMemories 67 = .ok (.ladd, 1) := by decide +kernel
theorem dX16_readsMemories_68 : decode cX16_readsMemories 68 = .ok (.lstore_n 3, 1) := by decide +kernel
theorem dX16_readsMemories_69 : decode cX16_readsMemories 69 = .ok (.goto (-50), 3) := by decide +kernel
theorem dX16_readsMemories_72 : decode cX16_readsMemories 72 = .ok (.return_, 1) := by decide +kernel
noncomputable def tX16_readsMemories_19 (x0 : Nat) (x1 : Int64) (x3 : Int64) (h : pm_H) : Option (((Nat × Int64 × Int64 × pm_H)) ⊕ ((Nat × pm_H) ⊕ pm_H)) := if x1 ≤ x3 then (some (.inr (.inr (h)))) else (if pm_kd h x0 = 16 then (fX16_limits h x0).bind fun v14 => pt_s v14 fun w16 => if 64 ≤ x3 then (pm_let (x3 + 1) fun y19 => some (.inl ((x0, x1, y19, w16)))) else (if pm_kd w16 x0 = 16 then (pm_R w16 x0 10).bind fun v22 => if pm_kd w16 v22 = 14 then (pm_R w16 v22 22).bind fun v25 => pm_let (pm_L w16 x0 17) fun y27 => if pm_kd w16 v25 = 35 then if pm_in x3.toInt32 (pm_ln w16 v25) then (pm_R (pm_setL w16 v25 x3.toInt32.toNatClampNeg y27) v22 23).bind fun v31 => pm_let (pm_L (pm_setL w16 v25 x3.toInt32.toNatClampNeg y27) x0 18) fun y33 => if pm_kd (pm_setL w16 v25 x3.toInt32.toNatClampNeg y27) v31 = 35 then if pm_in x3.toInt32 (pm_ln (pm_setL w16 v25 x3.toInt32.toNatClampNeg y27) v31) then pm_let (x3 + 1) fun y37 => some (.inl ((x0, x1, y37, pm_setL (pm_setL w16 v25 x3.toInt32.toNatClampNeg y27) v31 x3.toInt32.toNatClampNeg y33))) else none else none else none else none else none else none) else none)
noncomputable def sX16_readsMemories : ((Nat × Int64 × Int64 × pm_H)) → Option (((Nat × Int64 × Int64 × pm_H)) ⊕ ((Nat × pm_H) ⊕ pm_H)) := fun z => match z with
  | (x0, x1, x3, h) => tX16_readsMemories_19 x0 x1 x3 h
noncomputable def fX16_readsMemories (h : pm_H) (a0 : Nat) : Option ((Nat × pm_H) ⊕ pm_H) := if pm_kd h a0 = 16 then (fX16_number h a0).bind fun v2 => pt_k v2 fun w4 => if pm_kd w4.2 a0 = 16 then (pm_R w4.2 a0 10).bind fun v7 => (fX16_kept w4.2 a0 w4.1).bind fun v9 => if pm_kd v9.2 v7 = 14 then pm_lim sX16_readsMemories ((a0, w4.1, 0, pm_setI v9.2 v7 21 v9.1)) else none else none else none
set_option maxHeartbeats 4000000 in
set_option maxRecDepth 100000 in
theorem lpX16_readsMemories {g : pm_Gm} {l : Launch} {G : pm_Gl} {Qr : Option Value → pm_H → Prop} {Qt : Nat → pm_H → Prop} (C : pm_C g cX16_readsMemories RX16) (X : pm_XT g l G mX16_readsMemories 0 0 Qr Qt) {r : ((Nat × pm_H) ⊕ pm_H)} (q : pt_eV Qr Qt r) : ∀ n : Nat, (∀ (x0 : Nat) (x1 : Int64) (x3 : Int64) (h : pm_H), pm_iter sX16_readsMemories n (x0, x1, x3, h) = some r → pm_G g 19 [(0, .ref x0), (1, .long x1), (3, .long x3)] [] h 0 0) := by
  intro n
  induction n with
  | zero => exact fun _ _ _ _ hf => (by cases hf)
  | succ n ih =>
    refine fun x0 x1 x3 h hf => ?_
    obtain ⟨y, hf, hi⟩ := pm_iter_s hf
    have hf : tX16_readsMemories_19 x0 x1 x3 h = some y := hf
    unfold tX16_readsMemories_19 at hf
    refine pm_lload_n C dX16_readsMemories_19 rfl rfl ?_
    refine pm_lload_n C dX16_readsMemories_20 rfl rfl ?_
    refine pm_lcmp C dX16_readsMemories_21 ?_
    refine pm_if_ge (tgt := 72) C dX16_readsMemories_22 (by decide) (fun c12 => ?_) (fun c12 => ?_)
    · have hf := pm_it hf ((pm_lg_ge _ _).mp c12)
      cases hf
      cases hi
      exact pt_vret C X dX16_readsMemories_72 rfl (Nat.le_refl _) (Nat.le_refl _) q
    · have hf := pm_ie hf ((fun z => c12 ((pm_lg_ge _ _).mpr z)))
      refine pm_aload_n C dX16_readsMemories_25 rfl rfl ?_
      obtain ⟨k13, hf⟩ := pm_if hf
      obtain ⟨v14, e15, hf⟩ := pm_bd hf
      refine pt_callVT (as := []) (st := []) C X dX16_readsMemories_26 ltX16_408 myX16_limits viX16_limits ⟨by decide, by decide⟩ rfl rfl k13 (Nat.le_of_ble_eq_true rfl) (Nat.le_refl _) (Nat.le_refl _) (ctX16_limits e15 ?_)
      rcases v14 with z17 | w16
      · have hf := pt_sl hf
        cases hf
        cases hi
        exact q
      have hf := pt_sr hf
      show pm_G g 29 [(0, .ref x0), (1, .long x1), (3, .long x3)] [] w16 0 0
      refine pm_lload_n C dX16_readsMemories_29 rfl rfl ?_
      refine pm_ldc2 C dX16_readsMemories_30 cnX16_363 ?_
      refine pm_lcmp C dX16_readsMemories_33 ?_
      refine pm_if_ge (tgt := 65) C dX16_readsMemories_34 (by decide) (fun c18 => ?_) (fun c18 => ?_)
      · have hf := pm_it hf ((pm_lg_ge _ _).mp c18)
        refine pm_lload_n C dX16_readsMemories_65 rfl rfl ?_
        refine pm_lconst (v := 1) C dX16_readsMemories_66 (by decide) ?_
        refine pm_ladd C dX16_readsMemories_67 ?_
        obtain ⟨y19, e20, hf⟩ := pm_lt hf
        refine pm_topL e20 ?_
        refine pm_lstore_n (lv' := [(3, .long y19), (0, .ref x0), (1, .long x1)]) C dX16_readsMemories_68 rfl (pt_nl X (by decide)) rfl ?_
        refine pm_goto (tgt := 19) C dX16_readsMemories_69 (by decide) ?_
        cases hf
        exact pm_sub [1, 2, 0] rfl (ih x0 x1 y19 w16 hi)
      · have hf := pm_ie hf ((fun z => c18 ((pm_lg_ge _ _).mpr z)))
        refine pm_aload_n C dX16_readsMemories_37 rfl rfl ?_
        obtain ⟨k21, hf⟩ := pm_if hf
        obtain ⟨v22, e23, hf⟩ := pm_bd hf
        refine pm_getR C dX16_readsMemories_38 flX16_221 rfl k21 e23 ?_
        obtain ⟨k24, hf⟩ := pm_if hf
        obtain ⟨v25, e26, hf⟩ := pm_bd hf
        refine pm_getR C dX16_readsMemories_41 flX16_447 rfl k24 e26 ?_
        refine pm_lload_n C dX16_readsMemories_44 rfl rfl ?_
        refine pm_l2i C dX16_readsMemories_45 ?_
        refine pm_aload_n C dX16_readsMemories_46 rfl rfl ?_
        refine pm_getL C dX16_readsMemories_47 flX16_396 rfl k21 rfl ?_
        obtain ⟨y27, e28, hf⟩ := pm_lt hf
        refine pm_topL e28 ?_
        obtain ⟨k29, hf⟩ := pm_if hf
        obtain ⟨u30, hf⟩ := pm_if hf
        refine pm_last C dX16_readsMemories_50 k29 u30 ?_
        refine pm_aload_n C dX16_readsMemories_51 rfl rfl ?_
        refine pm_getR C dX16_readsMemories_52 flX16_221 rfl k21 e23 ?_
        obtain ⟨v31, e32, hf⟩ := pm_bd hf
        refine pm_getR C dX16_readsMemories_55 flX16_450 rfl k24 e32 ?_
        refine pm_lload_n C dX16_readsMemories_58 rfl rfl ?_
        refine pm_l2i C dX16_readsMemories_59 ?_
        refine pm_aload_n C dX16_readsMemories_60 rfl rfl ?_
        refine pm_getL C dX16_readsMemories_61 flX16_399 rfl k21 rfl ?_
        obtain ⟨y33, e34, hf⟩ := pm_lt hf
        refine pm_topL e34 ?_
        obtain ⟨k35, hf⟩ := pm_if hf
        obtain ⟨u36, hf⟩ := pm_if hf
        refine pm_last C dX16_readsMemories_64 k35 u36 ?_
        refine pm_lload_n C dX16_readsMemories_65 rfl rfl ?_
        refine pm_lconst (v := 1) C dX16_readsMemories_66 (by decide) ?_
        refine pm_ladd C dX16_readsMemories_67 ?_
        obtain ⟨y37, e38, hf⟩ := pm_lt hf
        refine pm_topL e38 ?_
        refine pm_lstore_n (lv' := [(3, .long y37), (0, .ref x0), (1, .long x1)]) C dX16_readsMemories_68 rfl (pt_nl X (by decide)) rfl ?_
        refine pm_goto (tgt := 19) C dX16_readsMemories_69 (by decide) ?_
        cases hf
        exact pm_sub [1, 2, 0] rfl (ih x0 x1 y37 (pm_setL (pm_setL w16 v25 x3.toInt32.toNatClampNeg y27) v31 x3.toInt32.toNatClampNeg y33) hi)
set_option maxHeartbeats 4000000 in
set_option maxRecDepth 100000 in
theorem ctX16_readsMemories {l : Launch} {G : pm_Gl} {h : pm_H} {a0 : Nat} {r : ((Nat × pm_H) ⊕ pm_H)} {Qr : Option Value → pm_H → Prop} {Qt : Nat → pm_H → Prop} (hf : fX16_readsMemories h a0 = some r) (q : pt_eV Qr Qt r) : pm_Ctt l G mX16_readsMemories [.ref a0] h 0 0 Qr Qt := by
  refine pm_bodyT pnX16 (Nat.le_of_ble_eq_true rfl) (fun g C X => ?_)
  have C : pm_C g cX16_readsMemories RX16 := C
  show pm_G g 0 [(0, .ref a0)] [] h 0 0
  unfold fX16_readsMemories at hf
  refine pm_aload_n C dX16_readsMemories_0 rfl rfl ?_
  obtain ⟨k1, hf⟩ := pm_if hf
  obtain ⟨v2, e3, hf⟩ := pm_bd hf
  refine pt_callVT (as := []) (st := []) C X dX16_readsMemories_1 ltX16_277 myX16_number viX16_number ⟨by decide, by decide⟩ rfl rfl k1 (Nat.le_of_ble_eq_true rfl) (Nat.le_refl _) (Nat.le_refl _) (ctX16_number e3 ?_)
  rcases v2 with z5 | w4
  · have hf := pt_kl hf
    cases hf
    exact q
  have hf := pt_kr hf
  show pm_G g 4 [(0, .ref a0)] [.long w4.1] w4.2 0 0
  refine pm_lstore_n (lv' := [(1, .long w4.1), (0, .ref a0)]) C dX16_readsMemories_4 rfl (pt_nl X (by decide)) rfl ?_
  refine pm_aload_n C dX16_readsMemories_5 rfl rfl ?_
  obtain ⟨k6, hf⟩ := pm_if hf
  obtain ⟨v7, e8, hf⟩ := pm_bd hf
  refine pm_getR C dX16_readsMemories_6 flX16_221 rfl k6 e8 ?_
  refine pm_aload_n C dX16_readsMemories_9 rfl rfl ?_
  refine pm_lload_n C dX16_readsMemories_10 rfl rfl ?_
  obtain ⟨v9, e10, hf⟩ := pm_bd hf
  refine pt_callV (as := [.long w4.1]) (st := [.ref v7]) C X dX16_readsMemories_11 lnX16_377 myX16_kept viX16_kept ⟨by decide, by decide⟩ rfl rfl k6 (Nat.le_of_ble_eq_true rfl) (Nat.le_refl _) (Nat.le_refl _) (ctX16_kept e10 ?_)
  show pm_G g 14 [(1, .long w4.1), (0, .ref a0)] [.int v9.1, .ref v7] v9.2 0 0
  obtain ⟨k11, hf⟩ := pm_if hf
  refine pm_putI C dX16_readsMemories_14 flX16_444 rfl rfl k11 rfl rfl ?_
  refine pm_lconst (v := 0) C dX16_readsMemories_17 (by decide) ?_
  refine pm_lstore_n (lv' := [(3, .long 0), (1, .long w4.1), (0, .ref a0)]) C dX16_readsMemories_18 rfl (pt_nl X (by decide)) rfl ?_
  obtain ⟨n, hn⟩ := pm_lim_iter hf
  exact pm_sub [2, 1, 0] rfl ((lpX16_readsMemories C X q n) a0 w4.1 0 (pm_setI v9.2 v7 21 v9.1) hn)
theorem dX16_readsTables_0 : decode cX16_readsTables 0 = .ok (.aload_n 0, 1) := by decide +kernel
theorem dX16_readsTables_1 : decode cX16_readsTables 1 = .ok (.invokevirtual 277, 3) := by decide +kernel
theorem dX16_readsTables_4 : decode cX16_readsTables 4 = .ok (.lstore_n 1, 1) := by decide +kernel
theorem dX16_readsTables_5 : decode cX16_readsTables 5 = .ok (.aload_n 0, 1) := by decide +kernel
theorem dX16_readsTables_6 : decode cX16_readsTables 6 = .ok (.getfield 221, 3) := by decide +kernel
theorem dX16_readsTables_9 : decode cX16_readsTables 9 = .ok (.aload_n 0, 1) := by decide +kernel
theorem dX16_readsTables_10 : decode cX16_readsTables 10 = .ok (.lload_n 1, 1) := by decide +kernel
theorem dX16_readsTables_11 : decode cX16_readsTables 11 = .ok (.invokevirtual 377, 3) := by decide +kernel
theorem dX16_readsTables_14 : decode cX16_readsTables 14 = .ok (.putfield 432, 3) := by decide +kernel
theorem dX16_readsTables_17 : decode cX16_readsTables 17 = .ok (.lconst 0, 1) := by decide +kernel
theorem dX16_readsTables_18 : decode cX16_readsTables 18 = .ok (.lstore_n 3, 1) := by decide +kernel
theorem dX16_readsTables_19 : decode cX16_readsTables 19 = .ok (.lload_n 3, 1) := by decide +kernel
theorem dX16_readsTables_20 : decode cX16_readsTables 20 = .ok (.lload_n 1, 1) := by decide +kernel
theorem dX16_readsTables_21 : decode cX16_readsTables 21 = .ok (.lcmp, 1) := by decide +kernel
theorem dX16_readsTables_22 : decode cX16_readsTables 22 = .ok (.ifCond .ge 68, 3) := by decide +kernel
theorem dX16_readsTables_25 : decode cX16_readsTables 25 = .ok (.aload_n 0, 1) := by decide +kernel
theorem dX16_readsTables_26 : decode cX16_readsTables 26 = .ok (.invokevirtual 405, 3) := by decide +kernel
theorem dX16_readsTables_29 : decode cX16_readsTables 29 = .ok (.istore 5, 2) := by decide +kernel
theorem dX16_readsTables_31 : decode cX16_readsTables 31 = .ok (.aload_n 0, 1) := by decide +kernel
theorem dX16_readsTables_32 : decode cX16_readsTables 32 = .ok (.invokevirtual 408, 3) := by decide +kernel
theorem dX16_readsTables_35 : decode cX16_readsTables 35 = .ok (.lload_n 3, 1) := by decide +kernel
theorem dX16_readsTables_36 : decode cX16_readsTables 36 = .ok (.ldc2_w 363, 3) := by decide +kernel
theorem dX16_readsTables_39 : decode cX16_readsTables 39 = .ok (.lcmp, 1) := by decide +kernel
theorem dX16_readsTables_40 : decode cX16_readsTables 40 = .ok (.ifCond .ge 43, 3) := by decide +kernel
theorem dX16_readsTables_43 : decode cX16_readsTables 43 = .ok (.aload_n 0, 1) := by decide +kernel
theorem dX16_readsTables_44 : decode cX16_readsTables 44 = .ok (.getfield 221, 3) := by decide +kernel
theorem dX16_readsTables_47 : decode cX16_readsTables 47 = .ok (.getfield 435, 3) := by decide +kernel
theorem dX16_readsTables_50 : decode cX16_readsTables 50 = .ok (.lload_n 3, 1) := by decide +kernel
theorem dX16_readsTables_51 : decode cX16_readsTables 51 = .ok (.l2i, 1) := by decide +kernel
theorem dX16_readsTables_52 : decode cX16_readsTables 52 = .ok (.iload 5, 2) := by decide +kernel
theorem dX16_readsTables_54 : decode cX16_readsTables 54 = .ok (.iastore, 1) := by decide +kernel
theorem dX16_readsTables_55 : decode cX16_readsTables 55 = .ok (.aload_n 0, 1) := by decide +kernel
theorem dX16_readsTables_56 : decode cX16_readsTables 56 = .ok (.getfield 221, 3) := by decide +kernel
theorem dX16_readsTables_59 : decode cX16_readsTables 59 = .ok (.getfield 438, 3) := by decide +kernel
theorem dX16_readsTables_62 : decode cX16_readsTables 62 = .ok (.lload_n 3, 1) := by decide +kernel
theorem dX16_readsTables_63 : decode cX16_readsTables 63 = .ok (.l2i, 1) := by decide +kernel
theorem dX16_readsTables_64 : decode cX16_readsTables 64 = .ok (.aload_n 0, 1) := by decide +kernel
theorem dX16_readsTables_65 : decode cX16_readsTables 65 = .ok (.getfield 396, 3) := by decide +kernel
theorem dX16_readsTables_68 : decode cX16_readsTables 68 = .ok (.lastore, 1) := by decide +kernel
theorem dX16_readsTables_69 : decode cX16_readsTables 69 = .ok (.aload_n 0, 1) := by decide +kernel
theorem dX16_readsTables_70 : decode cX16_readsTables 70 = .ok (.getfield 221, 3) := by decide +kernel
theorem dX16_readsTables_73 : decode cX16_readsTables 73 = .ok (.getfield 441, 3) := by decide +kernel
theorem dX16_readsTables_76 : decode cX16_readsTables 76 = .ok (.lload_n 3, 1) := by decide +kernel
theorem dX16_readsTables_77 : decode cX16_readsTables 77 = .ok (.l2i, 1) := by decide +kernel
theorem dX16_readsTables_78 : decode cX16_readsTables 78 = .ok (.aload_n 0, 1) := by decide +kernel
theorem dX16_readsTables_79 : decode cX16_readsTables 79 = .ok (.getfield 399, 3) := by decide +kernel
theorem dX16_readsTables_82 : decode cX16_readsTables 82 = .ok (.lastore, 1) := by decide +kernel
theorem dX16_readsTables_83 : decode cX16_readsTables 83 = .ok (.lload_n 3, 1) := by decide +kernel
theorem dX16_readsTables_84 : decode cX16_readsTables 84 = .ok (.lconst 1, 1) := by decide +kernel
theorem dX16_readsTables_85 : decode cX16_readsTables 85 = .ok (.ladd, 1) := by decide +kernel
theorem dX16_readsTables_86 : decode cX16_readsTables 86 = .ok (.lstore_n 3, 1) := by decide +kernel
theorem dX16_readsTables_87 : decode cX16_readsTables 87 = .ok (.goto (-68), 3) := by decide +kernel
theorem dX16_readsTables_90 : decode cX16_readsTables 90 = .ok (.return_, 1) := by decide +kernel
noncomputable def tX16_readsTables_19 (x0 : Nat) (x1 : Int64) (x3 : Int64) (h : pm_H) : Option (((Nat × Int64 × Int64 × pm_H)) ⊕ ((Nat × pm_H) ⊕ pm_H)) := if x1 ≤ x3 then (some (.inr (.inr (h)))) else (if pm_kd h x0 = 16 then (fX16_referenceType h x0).bind fun v14 => pt_s v14 fun w16 => if pm_kd w16.2 x0 = 16 then (fX16_limits w16.2 x0).bind fun v19 => pt_s v19 fun w21 => if 64 ≤ x3 then (pm_let (x3 + 1) fun y24 => some (.inl ((x0, x1, y24, w21)))) else (if pm_kd w21 x0 = 16 then (pm_R w21 x0 10).bind fun v27 => if pm_kd w21 v27 = 14 then (pm_R w21 v27 18).bind fun v30 => if pm_kd w21 v30 = 34 then if pm_in x3.toInt32 (pm_ln w21 v30) then (pm_R (pm_setI w21 v30 x3.toInt32.toNatClampNeg w16.1) v27 19).bind fun v34 => pm_let (pm_L (pm_setI w21 v30 x3.toInt32.toNatClampNeg w16.1) x0 17) fun y36 => if pm_kd (pm_setI w21 v30 x3.toInt32.toNatClampNeg w16.1) v34 = 35 then if pm_in x3.toInt32 (pm_ln (pm_setI w21 v30 x3.toInt32.toNatClampNeg w16.1) v34) then (pm_R (pm_setL (pm_setI w21 v30 x3.toInt32.toNatClampNeg w16.1) v34 x3.toInt32.toNatClampNeg y36) v27 20).bind fun v40 => pm_let (pm_L (pm_setL (pm_setI w21 v30 x3.toInt32.toNatClampNeg w16.1) v34 x3.toInt32.toNatClampNeg y36) x0 18) fun y42 => if pm_kd (pm_setL (pm_setI w21 v30 x3.toInt32.toNatClampNeg w16.1) v34 x3.toInt32.toNatClampNeg y36) v40 = 35 then if pm_in x3.toInt32 (pm_ln (pm_setL (pm_setI w21 v30 x3.toInt32.toNatClampNeg w16.1) v34 x3.toInt32.toNatClampNeg y36) v40) then pm_let (x3 + 1) fun y46 => some (.inl ((x0, x1, y46, pm_setL (pm_setL (pm_setI w21 v30 x3.toInt32.toNatClampNeg w16.1) v34 x3.toInt32.toNatClampNeg y36) v40 x3.toInt32.toNatClampNeg y42))) else none else none else none else none else none else none else none else none) else none else none)
noncomputable def sX16_readsTables : ((Nat × Int64 × Int64 × pm_H)) → Option (((Nat × Int64 × Int64 × pm_H)) ⊕ ((Nat × pm_H) ⊕ pm_H)) := fun z => match z with
  | (x0, x1, x3, h) => tX16_readsTables_19 x0 x1 x3 h
noncomputable def fX16_readsTables (h : pm_H) (a0 : Nat) : Option ((Nat × pm_H) ⊕ pm_H) := if pm_kd h a0 = 16 then (fX16_number h a0).bind fun v2 => pt_k v2 fun w4 => if pm_kd w4.2 a0 = 16 then (pm_R w4.2 a0 10).bind fun v7 => (fX16_kept w4.2 a0 w4.1).bind fun v9 => if pm_kd v9.2 v7 = 14 then pm_lim sX16_readsTables ((a0, w4.1, 0, pm_setI v9.2 v7 17 v9.1)) else none else none else none
set_option maxHeartbeats 4000000 in
set_option maxRecDepth 100000 in
theorem lpX16_readsTables {g : pm_Gm} {l : Launch} {G : pm_Gl} {Qr : Option Value → pm_H → Prop} {Qt : Nat → pm_H → Prop} (C : pm_C g cX16_readsTables RX16) (X : pm_XT g l G mX16_readsTables 0 0 Qr Qt) {r : ((Nat × pm_H) ⊕ pm_H)} (q : pt_eV Qr Qt r) : ∀ n : Nat, (∀ (x0 : Nat) (x1 : Int64) (x3 : Int64) (h : pm_H), pm_iter sX16_readsTables n (x0, x1, x3, h) = some r → pm_G g 19 [(0, .ref x0), (1, .long x1), (3, .long x3)] [] h 0 0) := by
  intro n
  induction n with
  | zero => exact fun _ _ _ _ hf => (by cases hf)
  | succ n ih =>
    refine fun x0 x1 x3 h hf => ?_
    obtain ⟨y, hf, hi⟩ := pm_iter_s hf
    have hf : tX16_readsTables_19 x0 x1 x3 h = some y := hf
    unfold tX16_readsTables_19 at hf
    refine pm_lload_n C dX16_readsTables_19 rfl rfl ?_
    refine pm_lload_n C dX16_readsTables_20 rfl rfl ?_
    refine pm_lcmp C dX16_readsTables_21 ?_
    refine pm_if_ge (tgt := 90) C dX16_readsTables_22 (by decide) (fun c12 => ?_) (fun c12 => ?_)
    · have hf := pm_it hf ((pm_lg_ge _ _).mp c12)
      cases hf
      cases hi
      exact pt_vret C X dX16_readsTables_90 rfl (Nat.le_refl _) (Nat.le_refl _) q
    · have hf := pm_ie hf ((fun z => c12 ((pm_lg_ge _ _).mpr z)))
      refine pm_aload_n C dX16_readsTables_25 rfl rfl ?_
      obtain ⟨k13, hf⟩ := pm_if hf
      obtain ⟨v14, e15, hf⟩ := pm_bd hf
      refine pt_callVT (as := []) (st := []) C X dX16_readsTables_26 ltX16_405 myX16_referenceType viX16_referenceType ⟨by decide, by decide⟩ rfl rfl k13 (Nat.le_of_ble_eq_true rfl) (Nat.le_refl _) (Nat.le_refl _) (ctX16_referenceType e15 ?_)
      rcases v14 with z17 | w16
      · have hf := pt_sl hf
        cases hf
        cases hi
        exact q
      have hf := pt_sr hf
      show pm_G g 29 [(0, .ref x0), (1, .long x1), (3, .long x3)] [.int w16.1] w16.2 0 0
      refine pm_istore (lv' := [(5, .int w16.1), (0, .ref x0), (1, .long x1), (3, .long x3)]) C dX16_readsTables_29 (pt_nl X (by decide)) rfl ?_
      refine pm_aload_n C dX16_readsTables_31 rfl rfl ?_
      obtain ⟨k18, hf⟩ := pm_if hf
      obtain ⟨v19, e20, hf⟩ := pm_bd hf
      refine pt_callVT (as := []) (st := []) C X dX16_readsTables_32 ltX16_408 myX16_limits viX16_limits ⟨by decide, by decide⟩ rfl rfl k18 (Nat.le_of_ble_eq_true rfl) (Nat.le_refl _) (Nat.le_refl _) (ctX16_limits e20 ?_)
      rcases v19 with z22 | w21
      · have hf := pt_sl hf
        cases hf
        cases hi
        exact q
      have hf := pt_sr hf
      show pm_G g 35 [(5, .int w16.1), (0, .ref x0), (1, .long x1), (3, .long x3)] [] w21 0 0
      refine pm_lload_n C dX16_readsTables_35 rfl rfl ?_
      refine pm_ldc2 C dX16_readsTables_36 cnX16_363 ?_
      refine pm_lcmp C dX16_readsTables_39 ?_
      refine pm_if_ge (tgt := 83) C dX16_readsTables_40 (by decide) (fun c23 => ?_) (fun c23 => ?_)
      · have hf := pm_it hf ((pm_lg_ge _ _).mp c23)
        refine pm_lload_n C dX16_readsTables_83 rfl rfl ?_
        refine pm_lconst (v := 1) C dX16_readsTables_84 (by decide) ?_
        refine pm_ladd C dX16_readsTables_85 ?_
        obtain ⟨y24, e25, hf⟩ := pm_lt hf
        refine pm_topL e25 ?_
        refine pm_lstore_n (lv' := [(3, .long y24), (5, .int w16.1), (0, .ref x0), (1, .long x1)]) C dX16_readsTables_86 rfl (pt_nl X (by decide)) rfl ?_
        refine pm_goto (tgt := 19) C dX16_readsTables_87 (by decide) ?_
        cases hf
        exact pm_sub [2, 3, 0] rfl (ih x0 x1 y24 w21 hi)
      · have hf := pm_ie hf ((fun z => c23 ((pm_lg_ge _ _).mpr z)))
        refine pm_aload_n C dX16_readsTables_43 rfl rfl ?_
        obtain ⟨k26, hf⟩ := pm_if hf
        obtain ⟨v27, e28, hf⟩ := pm_bd hf
        refine pm_getR C dX16_readsTables_44 flX16_221 rfl k26 e28 ?_
        obtain ⟨k29, hf⟩ := pm_if hf
        obtain ⟨v30, e31, hf⟩ := pm_bd hf
        refine pm_getR C dX16_readsTables_47 flX16_435 rfl k29 e31 ?_
        refine pm_lload_n C dX16_readsTables_50 rfl rfl ?_
        refine pm_l2i C dX16_readsTables_51 ?_
        refine pm_iload C dX16_readsTables_52 rfl ?_
        obtain ⟨k32, hf⟩ := pm_if hf
        obtain ⟨u33, hf⟩ := pm_if hf
        refine pm_iast C dX16_readsTables_54 k32 u33 ?_
        refine pm_aload_n C dX16_readsTables_55 rfl rfl ?_
        refine pm_getR C dX16_readsTables_56 flX16_221 rfl k26 e28 ?_
        obtain ⟨v34, e35, hf⟩ := pm_bd hf
        refine pm_getR C dX16_readsTables_59 flX16_438 rfl k29 e35 ?_
        refine pm_lload_n C dX16_readsTables_62 rfl rfl ?_
        refine pm_l2i C dX16_readsTables_63 ?_
        refine pm_aload_n C dX16_readsTables_64 rfl rfl ?_
        refine pm_getL C dX16_readsTables_65 flX16_396 rfl k26 rfl ?_
        obtain ⟨y36, e37, hf⟩ := pm_lt hf
        refine pm_topL e37 ?_
        obtain ⟨k38, hf⟩ := pm_if hf
        obtain ⟨u39, hf⟩ := pm_if hf
        refine pm_last C dX16_readsTables_68 k38 u39 ?_
        refine pm_aload_n C dX16_readsTables_69 rfl rfl ?_
        refine pm_getR C dX16_readsTables_70 flX16_221 rfl k26 e28 ?_
        obtain ⟨v40, e41, hf⟩ := pm_bd hf
        refine pm_getR C dX16_readsTables_73 flX16_441 rfl k29 e41 ?_
        refine pm_lload_n C dX16_readsTables_76 rfl rfl ?_
        refine pm_l2i C dX16_readsTables_77 ?_
        refine pm_aload_n C dX16_readsTables_78 rfl rfl ?_
        refine pm_getL C dX16_readsTables_79 flX16_399 rfl k26 rfl ?_
        obtain ⟨y42, e43, hf⟩ := pm_lt hf
        refine pm_topL e43 ?_
        obtain ⟨k44, hf⟩ := pm_if hf
        obtain ⟨u45, hf⟩ := pm_if hf
        refine pm_last C dX16_readsTables_82 k44 u45 ?_
        refine pm_lload_n C dX16_readsTables_83 rfl rfl ?_
        refine pm_lconst (v := 1) C dX16_readsTables_84 (by decide) ?_
        refine pm_ladd C dX16_readsTables_85 ?_
        obtain ⟨y46, e47, hf⟩ := pm_lt hf
        refine pm_topL e47 ?_
        refine pm_lstore_n (lv' := [(3, .long y46), (5, .int w16.1), (0, .ref x0), (1, .long x1)]) C dX16_readsTables_86 rfl (pt_nl X (by decide)) rfl ?_
        refine pm_goto (tgt := 19) C dX16_readsTables_87 (by decide) ?_
        cases hf
        exact pm_sub [2, 3, 0] rfl (ih x0 x1 y46 (pm_setL (pm_setL (pm_setI w21 v30 x3.toInt32.toNatClampNeg w16.1) v34 x3.toInt32.toNatClampNeg y36) v40 x3.toInt32.toNatClampNeg y42) hi)
set_option maxHeartbeats 4000000 in
set_option maxRecDepth 100000 in
theorem ctX16_readsTables {l : Launch} {G : pm_Gl} {h : pm_H} {a0 : Nat} {r : ((Nat × pm_H) ⊕ pm_H)} {Qr : Option Value → pm_H → Prop} {Qt : Nat → pm_H → Prop} (hf : fX16_readsTables h a0 = some r) (q : pt_eV Qr Qt r) : pm_Ctt l G mX16_readsTables [.ref a0] h 0 0 Qr Qt := by
  refine pm_bodyT pnX16 (Nat.le_of_ble_eq_true rfl) (fun g C X => ?_)
  have C : pm_C g cX16_readsTables RX16 := C
  show pm_G g 0 [(0, .ref a0)] [] h 0 0
  unfold fX16_readsTables at hf
  refine pm_aload_n C dX16_readsTables_0 rfl rfl ?_
  obtain ⟨k1, hf⟩ := pm_if hf
  obtain ⟨v2, e3, hf⟩ := pm_bd hf
  refine pt_callVT (as := []) (st := []) C X dX16_readsTables_1 ltX16_277 myX16_number viX16_number ⟨by decide, by decide⟩ rfl rfl k1 (Nat.le_of_ble_eq_true rfl) (Nat.le_refl _) (Nat.le_refl _) (ctX16_number e3 ?_)
  rcases v2 with z5 | w4
  · have hf := pt_kl hf
    cases hf
    exact q
  have hf := pt_kr hf
  show pm_G g 4 [(0, .ref a0)] [.long w4.1] w4.2 0 0
  refine pm_lstore_n (lv' := [(1, .long w4.1), (0, .ref a0)]) C dX16_readsTables_4 rfl (pt_nl X (by decide)) rfl ?_
  refine pm_aload_n C dX16_readsTables_5 rfl rfl ?_
  obtain ⟨k6, hf⟩ := pm_if hf
  obtain ⟨v7, e8, hf⟩ := pm_bd hf
  refine pm_getR C dX16_readsTables_6 flX16_221 rfl k6 e8 ?_
  refine pm_aload_n C dX16_readsTables_9 rfl rfl ?_
  refine pm_lload_n C dX16_readsTables_10 rfl rfl ?_
  obtain ⟨v9, e10, hf⟩ := pm_bd hf
  refine pt_callV (as := [.long w4.1]) (st := [.ref v7]) C X dX16_readsTables_11 lnX16_377 myX16_kept viX16_kept ⟨by decide, by decide⟩ rfl rfl k6 (Nat.le_of_ble_eq_true rfl) (Nat.le_refl _) (Nat.le_refl _) (ctX16_kept e10 ?_)
  show pm_G g 14 [(1, .long w4.1), (0, .ref a0)] [.int v9.1, .ref v7] v9.2 0 0
  obtain ⟨k11, hf⟩ := pm_if hf
  refine pm_putI C dX16_readsTables_14 flX16_432 rfl rfl k11 rfl rfl ?_
  refine pm_lconst (v := 0) C dX16_readsTables_17 (by decide) ?_
  refine pm_lstore_n (lv' := [(3, .long 0), (1, .long w4.1), (0, .ref a0)]) C dX16_readsTables_18 rfl (pt_nl X (by decide)) rfl ?_
  obtain ⟨n, hn⟩ := pm_lim_iter hf
  exact pm_sub [2, 1, 0] rfl ((lpX16_readsTables C X q n) a0 w4.1 0 (pm_setI v9.2 v7 17 v9.1) hn)
theorem dX16_readsTypes_0 : decode cX16_readsTypes 0 = .ok (.aload_n 0, 1) := by decide +kernel
theorem dX16_readsTypes_1 : decode cX16_readsTypes 1 = .ok (.invokevirtual 277, 3) := by decide +kernel
theorem dX16_readsTypes_4 : decode cX16_readsTypes 4 = .ok (.lstore_n 1, 1) := by decide +kernel
theorem dX16_readsTypes_5 : decode cX16_readsTypes 5 = .ok (.aload_n 0, 1) := by decide +kernel
theorem dX16_readsTypes_6 : decode cX16_readsTypes 6 = .ok (.getfield 221, 3) := by decide +kernel
theorem dX16_readsTypes_9 : decode cX16_readsTypes 9 = .ok (.aload_n 0, 1) := by decide +kernel
theorem dX16_readsTypes_10 : decode cX16_readsTypes 10 = .ok (.lload_n 1, 1) := by decide +kernel
theorem dX16_readsTypes_11 : decode cX16_readsTypes 11 = .ok (.invokevirtual 377, 3) := by decide +kernel
theorem dX16_readsTypes_14 : decode cX16_readsTypes 14 = .ok (.putfield 381, 3) := by decide +kernel
theorem dX16_readsTypes_17 : decode cX16_readsTypes 17 = .ok (.lconst 0, 1) := by decide +kernel
theorem dX16_readsTypes_18 : decode cX16_readsTypes 18 = .ok (.lstore_n 3, 1) := by decide +kernel
theorem dX16_readsTypes_19 : decode cX16_readsTypes 19 = .ok (.lload_n 3, 1) := by decide +kernel
theorem dX16_readsTypes_20 : decode cX16_readsTypes 20 = .ok (.lload_n 1, 1) := by decide +kernel
theorem dX16_readsTypes_21 : decode cX16_readsTypes 21 = .ok (.lcmp, 1) := by decide +kernel
theorem dX16_readsTypes_22 : decode cX16_readsTypes 22 = .ok (.ifCond .ge 123, 3) := by decide +kernel
theorem dX16_readsTypes_25 : decode cX16_readsTypes 25 = .ok (.aload_n 0, 1) := by decide +kernel
theorem dX16_readsTypes_26 : decode cX16_readsTypes 26 = .ok (.invokevirtual 264, 3) := by decide +kernel
theorem dX16_readsTypes_29 : decode cX16_readsTypes 29 = .ok (.istore 5, 2) := by decide +kernel
theorem dX16_readsTypes_31 : decode cX16_readsTypes 31 = .ok (.iload 5, 2) := by decide +kernel
theorem dX16_readsTypes_33 : decode cX16_readsTypes 33 = .ok (.bipush 96, 2) := by decide +kernel
theorem dX16_readsTypes_35 : decode cX16_readsTypes 35 = .ok (.if_icmp .eq 15, 3) := by decide +kernel
theorem dX16_readsTypes_38 : decode cX16_readsTypes 38 = .ok (.aload_n 0, 1) := by decide +kernel
theorem dX16_readsTypes_39 : decode cX16_readsTypes 39 = .ok (.bipush 8, 2) := by decide +kernel
theorem dX16_readsTypes_41 : decode cX16_readsTypes 41 = .ok (.aload_n 0, 1) := by decide +kernel
theorem dX16_readsTypes_42 : decode cX16_readsTypes 42 = .ok (.getfield 251, 3) := by decide +kernel
theorem dX16_readsTypes_45 : decode cX16_readsTypes 45 = .ok (.iconst 1, 1) := by decide +kernel
theorem dX16_readsTypes_46 : decode cX16_readsTypes 46 = .ok (.isub, 1) := by decide +kernel
theorem dX16_readsTypes_47 : decode cX16_readsTypes 47 = .ok (.invokevirtual 257, 3) := by decide +kernel
theorem dX16_readsTypes_50 : decode cX16_readsTypes 50 = .ok (.lload_n 3, 1) := by decide +kernel
theorem dX16_readsTypes_51 : decode cX16_readsTypes 51 = .ok (.ldc2_w 363, 3) := by decide +kernel
theorem dX16_readsTypes_54 : decode cX16_readsTypes 54 = .ok (.lcmp, 1) := by decide +kernel
theorem dX16_readsTypes_55 : decode cX16_readsTypes 55 = .ok (.ifCond .ge 8, 3) := by decide +kernel
theorem dX16_readsTypes_58 : decode cX16_readsTypes 58 = .ok (.lload_n 3, 1) := by decide +kernel
theorem dX16_readsTypes_59 : decode cX16_readsTypes 59 = .ok (.l2i, 1) := by decide +kernel
theorem dX16_readsTypes_60 : decode cX16_readsTypes 60 = .ok (.goto 4, 3) := by decide +kernel
theorem dX16_readsTypes_63 : decode cX16_readsTypes 63 = .ok (.iconst (-1), 1) := by decide +kernel
theorem dX16_readsTypes_64 : decode cX16_readsTypes 64 = .ok (.istore 6, 2) := by decide +kernel
theorem dX16_readsTypes_66 : decode cX16_readsTypes 66 = .ok (.aload_n 0, 1) := by decide +kernel
theorem dX16_readsTypes_67 : decode cX16_readsTypes 67 = .ok (.iload 6, 2) := by decide +kernel
theorem dX16_readsTypes_69 : decode cX16_readsTypes 69 = .ok (.ifCond .ge 7, 3) := by decide +kernel
theorem dX16_readsTypes_72 : decode cX16_readsTypes 72 = .ok (.iconst (-1), 1) := by decide +kernel
theorem dX16_readsTypes_73 : decode cX16_readsTypes 73 = .ok (.goto 8, 3) := by decide +kernel
theorem dX16_readsTypes_76 : decode cX16_readsTypes 76 = .ok (.bipush 32, 2) := by decide +kernel
theorem dX16_readsTypes_78 : decode cX16_readsTypes 78 = .ok (.iload 6, 2) := by decide +kernel
theorem dX16_readsTypes_80 : decode cX16_readsTypes 80 = .ok (.imul, 1) := by decide +kernel
theorem dX16_readsTypes_81 : decode cX16_readsTypes 81 = .ok (.invokevirtual 384, 3) := by decide +kernel
theorem dX16_readsTypes_84 : decode cX16_readsTypes 84 = .ok (.istore 7, 2) := by decide +kernel
theorem dX16_readsTypes_86 : decode cX16_readsTypes 86 = .ok (.aload_n 0, 1) := by decide +kernel
theorem dX16_readsTypes_87 : decode cX16_readsTypes 87 = .ok (.iload 6, 2) := by decide +kernel
theorem dX16_readsTypes_89 : decode cX16_readsTypes 89 = .ok (.ifCond .ge 7, 3) := by decide +kernel
theorem dX16_readsTypes_92 : decode cX16_readsTypes 92 = .ok (.iconst (-1), 1) := by decide +kernel
theorem dX16_readsTypes_93 : decode cX16_readsTypes 93 = .ok (.goto 11, 3) := by decide +kernel
theorem dX16_readsTypes_96 : decode cX16_readsTypes 96 = .ok (.bipush 32, 2) := by decide +kernel
theorem dX16_readsTypes_98 : decode cX16_readsTypes 98 = .ok (.iload 6, 2) := by decide +kernel
theorem dX16_readsTypes_100 : decode cX16_readsTypes 100 = .ok (.imul, 1) := by decide +kernel
theorem dX16_readsTypes_101 : decode cX16_readsTypes 101 = .ok (.bipush 16, 2) := by decide +kernel
theorem dX16_readsTypes_103 : decode cX16_readsTypes 103 = .ok (.iadd, 1) := by decide +kernel
theorem dX16_readsTypes_104 : decode cX16_readsTypes 104 = .ok (.invokevirtual 384, 3) := by decide +kernel
theorem dX16_readsTypes_107 : decode cX16_readsTypes 107 = .ok (.istore 8, 2) := by decide +kernel
theorem dX16_readsTypes_109 : decode cX16_readsTypes 109 = .ok (.iload 6, 2) := by decide +kernel
theorem dX16_readsTypes_111 : decode cX16_readsTypes 111 = .ok (.ifCond .lt 27, 3) := by decide +kernel
theorem dX16_readsTypes_114 : decode cX16_readsTypes 114 = .ok (.aload_n 0, 1) := by decide +kernel
theorem dX16_readsTypes_115 : decode cX16_readsTypes 115 = .ok (.getfield 221, 3) := by decide +kernel
theorem dX16_readsTypes_118 : decode cX16_readsTypes 118 = .ok (.getfield 387, 3) := by decide +kernel
theorem dX16_readsTypes_121 : decode cX16_readsTypes 121 = .ok (.iload 6, 2) := by decide +kernel
theorem dX16_readsTypes_123 : decode cX16_readsTypes 123 = .ok (.iload 7, 2) := by decide +kernel
theorem dX16_readsTypes_125 : decode cX16_readsTypes 125 = .ok (.iastore, 1) := by decide +kernel
theorem dX16_readsTypes_126 : decode cX16_readsTypes 126 = .ok (.aload_n 0, 1) := by decide +kernel
theorem dX16_readsTypes_127 : decode cX16_readsTypes 127 = .ok (.getfield 221, 3) := by decide +kernel
theorem dX16_readsTypes_130 : decode cX16_readsTypes 130 = .ok (.getfield 390, 3) := by decide +kernel
theorem dX16_readsTypes_133 : decode cX16_readsTypes 133 = .ok (.iload 6, 2) := by decide +kernel
theorem dX16_readsTypes_135 : decode cX16_readsTypes 135 = .ok (.iload 8, 2) := by decide +kernel
theorem dX16_readsTypes_137 : decode cX16_readsTypes 137 = .ok (.iastore, 1) := by decide +kernel
theorem dX16_readsTypes_138 : decode cX16_readsTypes 138 = .ok (.lload_n 3, 1) := by decide +kernel
theorem dX16_readsTypes_139 : decode cX16_readsTypes 139 = .ok (.lconst 1, 1) := by decide +kernel
theorem dX16_readsTypes_140 : decode cX16_readsTypes 140 = .ok (.ladd, 1) := by decide +kernel
theorem dX16_readsTypes_141 : decode cX16_readsTypes 141 = .ok (.lstore_n 3, 1) := by decide +kernel
theorem dX16_readsTypes_142 : decode cX16_readsTypes 142 = .ok (.goto (-123), 3) := by decide +kernel
theorem dX16_readsTypes_145 : decode cX16_readsTypes 145 = .ok (.return_, 1) := by decide +kernel
noncomputable def tX16_readsTypes_19 (x0 : Nat) (x1 : Int64) (x3 : Int64) (h : pm_H) : Option (((Nat × Int64 × Int64 × pm_H) ⊕ (Nat × Int64 × Int64 × pm_H) ⊕ (Nat × Int64 × Int64 × Int32 × pm_H) ⊕ (Nat × Int64 × Int64 × Int32 × Int32 × Nat × pm_H)) ⊕ ((Nat × pm_H) ⊕ pm_H)) := if x1 ≤ x3 then (some (.inr (.inr (h)))) else (if pm_kd h x0 = 16 then (fX16_next h x0).bind fun v14 => pt_s v14 fun w16 => if w16.1 = 96 then (some (.inl (.inr (.inl ((x0, x1, x3, w16.2)))))) else (if pm_kd w16.2 x0 = 16 then (fX16_stops w16.2 x0 8 ((pm_I w16.2 x0 11) - 1)).bind fun v20 => pt_s v20 fun w22 => some (.inl (.inr (.inl ((x0, x1, x3, w22))))) else none) else none)
noncomputable def tX16_readsTypes_50 (x0 : Nat) (x1 : Int64) (x3 : Int64) (h : pm_H) : Option (((Nat × Int64 × Int64 × pm_H) ⊕ (Nat × Int64 × Int64 × pm_H) ⊕ (Nat × Int64 × Int64 × Int32 × pm_H) ⊕ (Nat × Int64 × Int64 × Int32 × Int32 × Nat × pm_H)) ⊕ ((Nat × pm_H) ⊕ pm_H)) := if 64 ≤ x3 then (some (.inl (.inr (.inr (.inl ((x0, x1, x3, (-1), h))))))) else (some (.inl (.inr (.inr (.inl ((x0, x1, x3, x3.toInt32, h)))))))
noncomputable def tX16_readsTypes_64 (x0 : Nat) (x1 : Int64) (x3 : Int64) (s0 : Int32) (h : pm_H) : Option (((Nat × Int64 × Int64 × pm_H) ⊕ (Nat × Int64 × Int64 × pm_H) ⊕ (Nat × Int64 × Int64 × Int32 × pm_H) ⊕ (Nat × Int64 × Int64 × Int32 × Int32 × Nat × pm_H)) ⊕ ((Nat × pm_H) ⊕ pm_H)) := if 0 ≤ s0 then (some (.inl (.inr (.inr (.inr ((x0, x1, x3, s0, 32 * s0, x0, h))))))) else (some (.inl (.inr (.inr (.inr ((x0, x1, x3, s0, (-1), x0, h)))))))
noncomputable def tX16_readsTypes_81 (x0 : Nat) (x1 : Int64) (x3 : Int64) (x6 : Int32) (s0 : Int32) (s1 : Nat) (h : pm_H) : Option (((Nat × Int64 × Int64 × pm_H) ⊕ (Nat × Int64 × Int64 × pm_H) ⊕ (Nat × Int64 × Int64 × Int32 × pm_H) ⊕ (Nat × Int64 × Int64 × Int32 × Int32 × Nat × pm_H)) ⊕ ((Nat × pm_H) ⊕ pm_H)) := if pm_kd h s1 = 16 then (fX16_typeRow h s1 s0).bind fun v27 => pt_s v27 fun w29 => if 0 ≤ x6 then (if pm_kd w29.2 x0 = 16 then (fX16_typeRow w29.2 x0 ((32 * x6) + 16)).bind fun v33 => pt_s v33 fun w35 => if x6 < 0 then (pm_let (x3 + 1) fun y38 => some (.inl (.inl ((x0, x1, y38, w35.2))))) else (if pm_kd w35.2 x0 = 16 then (pm_R w35.2 x0 10).bind fun v41 => if pm_kd w35.2 v41 = 14 then (pm_R w35.2 v41 5).bind fun v44 => if pm_kd w35.2 v44 = 34 then if pm_in x6 (pm_ln w35.2 v44) then (pm_R (pm_setI w35.2 v44 x6.toNatClampNeg w29.1) v41 6).bind fun v48 => if pm_kd (pm_setI w35.2 v44 x6.toNatClampNeg w29.1) v48 = 34 then if pm_in x6 (pm_ln (pm_setI w35.2 v44 x6.toNatClampNeg w29.1) v48) then pm_let (x3 + 1) fun y52 => some (.inl (.inl ((x0, x1, y52, pm_setI (pm_setI w35.2 v44 x6.toNatClampNeg w29.1) v48 x6.toNatClampNeg w35.1)))) else none else none else none else none else none else none) else none) else (if pm_kd w29.2 x0 = 16 then (fX16_typeRow w29.2 x0 (-1)).bind fun v55 => pt_s v55 fun w57 => if x6 < 0 then (pm_let (x3 + 1) fun y60 => some (.inl (.inl ((x0, x1, y60, w57.2))))) else (if pm_kd w57.2 x0 = 16 then (pm_R w57.2 x0 10).bind fun v63 => if pm_kd w57.2 v63 = 14 then (pm_R w57.2 v63 5).bind fun v66 => if pm_kd w57.2 v66 = 34 then if pm_in x6 (pm_ln w57.2 v66) then (pm_R (pm_setI w57.2 v66 x6.toNatClampNeg w29.1) v63 6).bind fun v70 => if pm_kd (pm_setI w57.2 v66 x6.toNatClampNeg w29.1) v70 = 34 then if pm_in x6 (pm_ln (pm_setI w57.2 v66 x6.toNatClampNeg w29.1) v70) then pm_let (x3 + 1) fun y74 => some (.inl (.inl ((x0, x1, y74, pm_setI (pm_setI w57.2 v66 x6.toNatClampNeg w29.1) v70 x6.toNatClampNeg w57.1)))) else none else none else none else none else none else none) else none) else none
noncomputable def sX16_readsTypes : ((Nat × Int64 × Int64 × pm_H) ⊕ (Nat × Int64 × Int64 × pm_H) ⊕ (Nat × Int64 × Int64 × Int32 × pm_H) ⊕ (Nat × Int64 × Int64 × Int32 × Int32 × Nat × pm_H)) → Option (((Nat × Int64 × Int64 × pm_H) ⊕ (Nat × Int64 × Int64 × pm_H) ⊕ (Nat × Int64 × Int64 × Int32 × pm_H) ⊕ (Nat × Int64 × Int64 × Int32 × Int32 × Nat × pm_H)) ⊕ ((Nat × pm_H) ⊕ pm_H)) := fun z => match z with
  | .inl (x0, x1, x3, h) => tX16_readsTypes_19 x0 x1 x3 h
  | .inr (.inl (x0, x1, x3, h)) => tX16_readsTypes_50 x0 x1 x3 h
  | .inr (.inr (.inl (x0, x1, x3, s0, h))) => tX16_readsTypes_64 x0 x1 x3 s0 h
  | .inr (.inr (.inr (x0, x1, x3, x6, s0, s1, h))) => tX16_readsTypes_81 x0 x1 x3 x6 s0 s1 h
noncomputable def fX16_readsTypes (h : pm_H) (a0 : Nat) : Option ((Nat × pm_H) ⊕ pm_H) := if pm_kd h a0 = 16 then (fX16_number h a0).bind fun v2 => pt_k v2 fun w4 => if pm_kd w4.2 a0 = 16 then (pm_R w4.2 a0 10).bind fun v7 => (fX16_kept w4.2 a0 w4.1).bind fun v9 => if pm_kd v9.2 v7 = 14 then pm_lim sX16_readsTypes (.inl ((a0, w4.1, 0, pm_setI v9.2 v7 4 v9.1))) else none else none else none
set_option maxHeartbeats 4000000 in
set_option maxRecDepth 100000 in
theorem lpX16_readsTypes {g : pm_Gm} {l : Launch} {G : pm_Gl} {Qr : Option Value → pm_H → Prop} {Qt : Nat → pm_H → Prop} (C : pm_C g cX16_readsTypes RX16) (X : pm_XT g l G mX16_readsTypes 0 0 Qr Qt) {r : ((Nat × pm_H) ⊕ pm_H)} (q : pt_eV Qr Qt r) : ∀ n : Nat, (∀ (x0 : Nat) (x1 : Int64) (x3 : Int64) (h : pm_H), pm_iter sX16_readsTypes n (.inl (x0, x1, x3, h)) = some r → pm_G g 19 [(0, .ref x0), (1, .long x1), (3, .long x3)] [] h 0 0) ∧ (∀ (x0 : Nat) (x1 : Int64) (x3 : Int64) (h : pm_H), pm_iter sX16_readsTypes n (.inr (.inl (x0, x1, x3, h))) = some r → pm_G g 50 [(0, .ref x0), (1, .long x1), (3, .long x3)] [] h 0 0) ∧ (∀ (x0 : Nat) (x1 : Int64) (x3 : Int64) (s0 : Int32) (h : pm_H), pm_iter sX16_readsTypes n (.inr (.inr (.inl (x0, x1, x3, s0, h)))) = some r → pm_G g 64 [(0, .ref x0), (1, .long x1), (3, .long x3)] [.int s0] h 0 0) ∧ (∀ (x0 : Nat) (x1 : Int64) (x3 : Int64) (x6 : Int32) (s0 : Int32) (s1 : Nat) (h : pm_H), pm_iter sX16_readsTypes n (.inr (.inr (.inr (x0, x1, x3, x6, s0, s1, h)))) = some r → pm_G g 81 [(0, .ref x0), (1, .long x1), (3, .long x3), (6, .int x6)] [.int s0, .ref s1] h 0 0) := by
  intro n
  induction n with
  | zero => exact ⟨fun _ _ _ _ hf => (by cases hf), fun _ _ _ _ hf => (by cases hf), fun _ _ _ _ _ hf => (by cases hf), fun _ _ _ _ _ _ _ hf => (by cases hf)⟩
  | succ n ih =>
    refine ⟨fun x0 x1 x3 h hf => ?_, ?_⟩
    · obtain ⟨y, hf, hi⟩ := pm_iter_s hf
      have hf : tX16_readsTypes_19 x0 x1 x3 h = some y := hf
      unfold tX16_readsTypes_19 at hf
      refine pm_lload_n C dX16_readsTypes_19 rfl rfl ?_
      refine pm_lload_n C dX16_readsTypes_20 rfl rfl ?_
      refine pm_lcmp C dX16_readsTypes_21 ?_
      refine pm_if_ge (tgt := 145) C dX16_readsTypes_22 (by decide) (fun c12 => ?_) (fun c12 => ?_)
      · have hf := pm_it hf ((pm_lg_ge _ _).mp c12)
        cases hf
        cases hi
        exact pt_vret C X dX16_readsTypes_145 rfl (Nat.le_refl _) (Nat.le_refl _) q
      · have hf := pm_ie hf ((fun z => c12 ((pm_lg_ge _ _).mpr z)))
        refine pm_aload_n C dX16_readsTypes_25 rfl rfl ?_
        obtain ⟨k13, hf⟩ := pm_if hf
        obtain ⟨v14, e15, hf⟩ := pm_bd hf
        refine pt_callVT (as := []) (st := []) C X dX16_readsTypes_26 ltX16_264 myX16_next viX16_next ⟨by decide, by decide⟩ rfl rfl k13 (Nat.le_of_ble_eq_true rfl) (Nat.le_refl _) (Nat.le_refl _) (ctX16_next e15 ?_)
        rcases v14 with z17 | w16
        · have hf := pt_sl hf
          cases hf
          cases hi
          exact q
        have hf := pt_sr hf
        show pm_G g 29 [(0, .ref x0), (1, .long x1), (3, .long x3)] [.int w16.1] w16.2 0 0
        refine pm_istore (lv' := [(5, .int w16.1), (0, .ref x0), (1, .long x1), (3, .long x3)]) C dX16_readsTypes_29 (pt_nl X (by decide)) rfl ?_
        refine pm_iload C dX16_readsTypes_31 rfl ?_
        refine pm_bipush (v := 96) C dX16_readsTypes_33 (by decide) ?_
        refine pm_icmp_eq (tgt := 50) C dX16_readsTypes_35 (by decide) (fun c18 => ?_) (fun c18 => ?_)
        · have hf := pm_it hf c18
          cases hf
          exact pm_sub [1, 2, 3] rfl (ih.2.1 x0 x1 x3 w16.2 hi)
        · have hf := pm_ie hf c18
          refine pm_aload_n C dX16_readsTypes_38 rfl rfl ?_
          refine pm_bipush (v := 8) C dX16_readsTypes_39 (by decide) ?_
          refine pm_aload_n C dX16_readsTypes_41 rfl rfl ?_
          obtain ⟨k19, hf⟩ := pm_if hf
          refine pm_getI C dX16_readsTypes_42 flX16_251 rfl k19 rfl ?_
          refine pm_iconst (v := 1) C dX16_readsTypes_45 (by decide) ?_
          refine pm_isub C dX16_readsTypes_46 ?_
          obtain ⟨v20, e21, hf⟩ := pm_bd hf
          refine pt_callVT (as := [.int 8, .int ((pm_I w16.2 x0 11) - 1)]) (st := []) C X dX16_readsTypes_47 ltX16_257 myX16_stops viX16_stops ⟨by decide, by decide⟩ rfl rfl k19 (Nat.le_of_ble_eq_true rfl) (Nat.le_refl _) (Nat.le_refl _) (ctX16_stops e21 ?_)
          rcases v20 with z23 | w22
          · have hf := pt_sl hf
            cases hf
            cases hi
            exact q
          have hf := pt_sr hf
          show pm_G g 50 [(5, .int w16.1), (0, .ref x0), (1, .long x1), (3, .long x3)] [] w22 0 0
          cases hf
          exact pm_sub [1, 2, 3] rfl (ih.2.1 x0 x1 x3 w22 hi)
    refine ⟨fun x0 x1 x3 h hf => ?_, ?_⟩
    · obtain ⟨y, hf, hi⟩ := pm_iter_s hf
      have hf : tX16_readsTypes_50 x0 x1 x3 h = some y := hf
      unfold tX16_readsTypes_50 at hf
      refine pm_lload_n C dX16_readsTypes_50 rfl rfl ?_
      refine pm_ldc2 C dX16_readsTypes_51 cnX16_363 ?_
      refine pm_lcmp C dX16_readsTypes_54 ?_
      refine pm_if_ge (tgt := 63) C dX16_readsTypes_55 (by decide) (fun c24 => ?_) (fun c24 => ?_)
      · have hf := pm_it hf ((pm_lg_ge _ _).mp c24)
        refine pm_iconst (v := (-1)) C dX16_readsTypes_63 (by decide) ?_
        cases hf
        exact pm_sub [0, 1, 2] rfl (ih.2.2.1 x0 x1 x3 (-1) h hi)
      · have hf := pm_ie hf ((fun z => c24 ((pm_lg_ge _ _).mpr z)))
        refine pm_lload_n C dX16_readsTypes_58 rfl rfl ?_
        refine pm_l2i C dX16_readsTypes_59 ?_
        refine pm_goto (tgt := 64) C dX16_readsTypes_60 (by decide) ?_
        cases hf
        exact pm_sub [0, 1, 2] rfl (ih.2.2.1 x0 x1 x3 x3.toInt32 h hi)
    refine ⟨fun x0 x1 x3 s0 h hf => ?_, ?_⟩
    · obtain ⟨y, hf, hi⟩ := pm_iter_s hf
      have hf : tX16_readsTypes_64 x0 x1 x3 s0 h = some y := hf
      unfold tX16_readsTypes_64 at hf
      refine pm_istore (lv' := [(6, .int s0), (0, .ref x0), (1, .long x1), (3, .long x3)]) C dX16_readsTypes_64 (pt_nl X (by decide)) rfl ?_
      refine pm_aload_n C dX16_readsTypes_66 rfl rfl ?_
      refine pm_iload C dX16_readsTypes_67 rfl ?_
      refine pm_if_ge (tgt := 76) C dX16_readsTypes_69 (by decide) (fun c25 => ?_) (fun c25 => ?_)
      · have hf := pm_it hf c25
        refine pm_bipush (v := 32) C dX16_readsTypes_76 (by decide) ?_
        refine pm_iload C dX16_readsTypes_78 rfl ?_
        refine pm_imul C dX16_readsTypes_80 ?_
        cases hf
        exact pm_sub [1, 2, 3, 0] rfl (ih.2.2.2 x0 x1 x3 s0 (32 * s0) x0 h hi)
      · have hf := pm_ie hf c25
        refine pm_iconst (v := (-1)) C dX16_readsTypes_72 (by decide) ?_
        refine pm_goto (tgt := 81) C dX16_readsTypes_73 (by decide) ?_
        cases hf
        exact pm_sub [1, 2, 3, 0] rfl (ih.2.2.2 x0 x1 x3 s0 (-1) x0 h hi)
    refine fun x0 x1 x3 x6 s0 s1 h hf => ?_
    obtain ⟨y, hf, hi⟩ := pm_iter_s hf
    have hf : tX16_readsTypes_81 x0 x1 x3 x6 s0 s1 h = some y := hf
    unfold tX16_readsTypes_81 at hf
    obtain ⟨k26, hf⟩ := pm_if hf
    obtain ⟨v27, e28, hf⟩ := pm_bd hf
    refine pt_callVT (as := [.int s0]) (st := []) C X dX16_readsTypes_81 ltX16_384 myX16_typeRow viX16_typeRow ⟨by decide, by decide⟩ rfl rfl k26 (Nat.le_of_ble_eq_true rfl) (Nat.le_refl _) (Nat.le_refl _) (ctX16_typeRow e28 ?_)
    rcases v27 with z30 | w29
    · have hf := pt_sl hf
      cases hf
      cases hi
      exact q
    have hf := pt_sr hf
    show pm_G g 84 [(0, .ref x0), (1, .long x1), (3, .long x3), (6, .int x6)] [.int w29.1] w29.2 0 0
    refine pm_istore (lv' := [(7, .int w29.1), (0, .ref x0), (1, .long x1), (3, .long x3), (6, .int x6)]) C dX16_readsTypes_84 (pt_nl X (by decide)) rfl ?_
    refine pm_aload_n C dX16_readsTypes_86 rfl rfl ?_
    refine pm_iload C dX16_readsTypes_87 rfl ?_
    refine pm_if_ge (tgt := 96) C dX16_readsTypes_89 (by decide) (fun c31 => ?_) (fun c31 => ?_)
    · have hf := pm_it hf c31
      refine pm_bipush (v := 32) C dX16_readsTypes_96 (by decide) ?_
      refine pm_iload C dX16_readsTypes_98 rfl ?_
      refine pm_imul C dX16_readsTypes_100 ?_
      refine pm_bipush (v := 16) C dX16_readsTypes_101 (by decide) ?_
      refine pm_iadd C dX16_readsTypes_103 ?_
      obtain ⟨k32, hf⟩ := pm_if hf
      obtain ⟨v33, e34, hf⟩ := pm_bd hf
      refine pt_callVT (as := [.int ((32 * x6) + 16)]) (st := []) C X dX16_readsTypes_104 ltX16_384 myX16_typeRow viX16_typeRow ⟨by decide, by decide⟩ rfl rfl k32 (Nat.le_of_ble_eq_true rfl) (Nat.le_refl _) (Nat.le_refl _) (ctX16_typeRow e34 ?_)
      rcases v33 with z36 | w35
      · have hf := pt_sl hf
        cases hf
        cases hi
        exact q
      have hf := pt_sr hf
      show pm_G g 107 [(7, .int w29.1), (0, .ref x0), (1, .long x1), (3, .long x3), (6, .int x6)] [.int w35.1] w35.2 0 0
      refine pm_istore (lv' := [(8, .int w35.1), (7, .int w29.1), (0, .ref x0), (1, .long x1), (3, .long x3), (6, .int x6)]) C dX16_readsTypes_107 (pt_nl X (by decide)) rfl ?_
      refine pm_iload C dX16_readsTypes_109 rfl ?_
      refine pm_if_lt (tgt := 138) C dX16_readsTypes_111 (by decide) (fun c37 => ?_) (fun c37 => ?_)
      · have hf := pm_it hf c37
        refine pm_lload_n C dX16_readsTypes_138 rfl rfl ?_
        refine pm_lconst (v := 1) C dX16_readsTypes_139 (by decide) ?_
        refine pm_ladd C dX16_readsTypes_140 ?_
        obtain ⟨y38, e39, hf⟩ := pm_lt hf
        refine pm_topL e39 ?_
        refine pm_lstore_n (lv' := [(3, .long y38), (8, .int w35.1), (7, .int w29.1), (0, .ref x0), (1, .long x1), (6, .int x6)]) C dX16_readsTypes_141 rfl (pt_nl X (by decide)) rfl ?_
        refine pm_goto (tgt := 19) C dX16_readsTypes_142 (by decide) ?_
        cases hf
        exact pm_sub [3, 4, 0] rfl (ih.1 x0 x1 y38 w35.2 hi)
      · have hf := pm_ie hf c37
        refine pm_aload_n C dX16_readsTypes_114 rfl rfl ?_
        obtain ⟨k40, hf⟩ := pm_if hf
        obtain ⟨v41, e42, hf⟩ := pm_bd hf
        refine pm_getR C dX16_readsTypes_115 flX16_221 rfl k40 e42 ?_
        obtain ⟨k43, hf⟩ := pm_if hf
        obtain ⟨v44, e45, hf⟩ := pm_bd hf
        refine pm_getR C dX16_readsTypes_118 flX16_387 rfl k43 e45 ?_
        refine pm_iload C dX16_readsTypes_121 rfl ?_
        refine pm_iload C dX16_readsTypes_123 rfl ?_
        obtain ⟨k46, hf⟩ := pm_if hf
        obtain ⟨u47, hf⟩ := pm_if hf
        refine pm_iast C dX16_readsTypes_125 k46 u47 ?_
        refine pm_aload_n C dX16_readsTypes_126 rfl rfl ?_
        refine pm_getR C dX16_readsTypes_127 flX16_221 rfl k40 e42 ?_
        obtain ⟨v48, e49, hf⟩ := pm_bd hf
        refine pm_getR C dX16_readsTypes_130 flX16_390 rfl k43 e49 ?_
        refine pm_iload C dX16_readsTypes_133 rfl ?_
        refine pm_iload C dX16_readsTypes_135 rfl ?_
        obtain ⟨k50, hf⟩ := pm_if hf
        obtain ⟨u51, hf⟩ := pm_if hf
        refine pm_iast C dX16_readsTypes_137 k50 u51 ?_
        refine pm_lload_n C dX16_readsTypes_138 rfl rfl ?_
        refine pm_lconst (v := 1) C dX16_readsTypes_139 (by decide) ?_
        refine pm_ladd C dX16_readsTypes_140 ?_
        obtain ⟨y52, e53, hf⟩ := pm_lt hf
        refine pm_topL e53 ?_
        refine pm_lstore_n (lv' := [(3, .long y52), (8, .int w35.1), (7, .int w29.1), (0, .ref x0), (1, .long x1), (6, .int x6)]) C dX16_readsTypes_141 rfl (pt_nl X (by decide)) rfl ?_
        refine pm_goto (tgt := 19) C dX16_readsTypes_142 (by decide) ?_
        cases hf
        exact pm_sub [3, 4, 0] rfl (ih.1 x0 x1 y52 (pm_setI (pm_setI w35.2 v44 x6.toNatClampNeg w29.1) v48 x6.toNatClampNeg w35.1) hi)
    · have hf := pm_ie hf c31
      refine pm_iconst (v := (-1)) C dX16_readsTypes_92 (by decide) ?_
      refine pm_goto (tgt := 104) C dX16_readsTypes_93 (by decide) ?_
      obtain ⟨k54, hf⟩ := pm_if hf
      obtain ⟨v55, e56, hf⟩ := pm_bd hf
      refine pt_callVT (as := [.int (-1)]) (st := []) C X dX16_readsTypes_104 ltX16_384 myX16_typeRow viX16_typeRow ⟨by decide, by decide⟩ rfl rfl k54 (Nat.le_of_ble_eq_true rfl) (Nat.le_refl _) (Nat.le_refl _) (ctX16_typeRow e56 ?_)
      rcases v55 with z58 | w57
      · have hf := pt_sl hf
        cases hf
        cases hi
        exact q
      have hf := pt_sr hf
      show pm_G g 107 [(7, .int w29.1), (0, .ref x0), (1, .long x1), (3, .long x3), (6, .int x6)] [.int w57.1] w57.2 0 0
      refine pm_istore (lv' := [(8, .int w57.1), (7, .int w29.1), (0, .ref x0), (1, .long x1), (3, .long x3), (6, .int x6)]) C dX16_readsTypes_107 (pt_nl X (by decide)) rfl ?_
      refine pm_iload C dX16_readsTypes_109 rfl ?_
      refine pm_if_lt (tgt := 138) C dX16_readsTypes_111 (by decide) (fun c59 => ?_) (fun c59 => ?_)
      · have hf := pm_it hf c59
        refine pm_lload_n C dX16_readsTypes_138 rfl rfl ?_
        refine pm_lconst (v := 1) C dX16_readsTypes_139 (by decide) ?_
        refine pm_ladd C dX16_readsTypes_140 ?_
        obtain ⟨y60, e61, hf⟩ := pm_lt hf
        refine pm_topL e61 ?_
        refine pm_lstore_n (lv' := [(3, .long y60), (8, .int w57.1), (7, .int w29.1), (0, .ref x0), (1, .long x1), (6, .int x6)]) C dX16_readsTypes_141 rfl (pt_nl X (by decide)) rfl ?_
        refine pm_goto (tgt := 19) C dX16_readsTypes_142 (by decide) ?_
        cases hf
        exact pm_sub [3, 4, 0] rfl (ih.1 x0 x1 y60 w57.2 hi)
      · have hf := pm_ie hf c59
        refine pm_aload_n C dX16_readsTypes_114 rfl rfl ?_
        obtain ⟨k62, hf⟩ := pm_if hf
        obtain ⟨v63, e64, hf⟩ := pm_bd hf
        refine pm_getR C dX16_readsTypes_115 flX16_221 rfl k62 e64 ?_
        obtain ⟨k65, hf⟩ := pm_if hf
        obtain ⟨v66, e67, hf⟩ := pm_bd hf
        refine pm_getR C dX16_readsTypes_118 flX16_387 rfl k65 e67 ?_
        refine pm_iload C dX16_readsTypes_121 rfl ?_
        refine pm_iload C dX16_readsTypes_123 rfl ?_
        obtain ⟨k68, hf⟩ := pm_if hf
        obtain ⟨u69, hf⟩ := pm_if hf
        refine pm_iast C dX16_readsTypes_125 k68 u69 ?_
        refine pm_aload_n C dX16_readsTypes_126 rfl rfl ?_
        refine pm_getR C dX16_readsTypes_127 flX16_221 rfl k62 e64 ?_
        obtain ⟨v70, e71, hf⟩ := pm_bd hf
        refine pm_getR C dX16_readsTypes_130 flX16_390 rfl k65 e71 ?_
        refine pm_iload C dX16_readsTypes_133 rfl ?_
        refine pm_iload C dX16_readsTypes_135 rfl ?_
        obtain ⟨k72, hf⟩ := pm_if hf
        obtain ⟨u73, hf⟩ := pm_if hf
        refine pm_iast C dX16_readsTypes_137 k72 u73 ?_
        refine pm_lload_n C dX16_readsTypes_138 rfl rfl ?_
        refine pm_lconst (v := 1) C dX16_readsTypes_139 (by decide) ?_
        refine pm_ladd C dX16_readsTypes_140 ?_
        obtain ⟨y74, e75, hf⟩ := pm_lt hf
        refine pm_topL e75 ?_
        refine pm_lstore_n (lv' := [(3, .long y74), (8, .int w57.1), (7, .int w29.1), (0, .ref x0), (1, .long x1), (6, .int x6)]) C dX16_readsTypes_141 rfl (pt_nl X (by decide)) rfl ?_
        refine pm_goto (tgt := 19) C dX16_readsTypes_142 (by decide) ?_
        cases hf
        exact pm_sub [3, 4, 0] rfl (ih.1 x0 x1 y74 (pm_setI (pm_setI w57.2 v66 x6.toNatClampNeg w29.1) v70 x6.toNatClampNeg w57.1) hi)
set_option maxHeartbeats 4000000 in
set_option maxRecDepth 100000 in
theorem ctX16_readsTypes {l : Launch} {G : pm_Gl} {h : pm_H} {a0 : Nat} {r : ((Nat × pm_H) ⊕ pm_H)} {Qr : Option Value → pm_H → Prop} {Qt : Nat → pm_H → Prop} (hf : fX16_readsTypes h a0 = some r) (q : pt_eV Qr Qt r) : pm_Ctt l G mX16_readsTypes [.ref a0] h 0 0 Qr Qt := by
  refine pm_bodyT pnX16 (Nat.le_of_ble_eq_true rfl) (fun g C X => ?_)
  have C : pm_C g cX16_readsTypes RX16 := C
  show pm_G g 0 [(0, .ref a0)] [] h 0 0
  unfold fX16_readsTypes at hf
  refine pm_aload_n C dX16_readsTypes_0 rfl rfl ?_
  obtain ⟨k1, hf⟩ := pm_if hf
  obtain ⟨v2, e3, hf⟩ := pm_bd hf
  refine pt_callVT (as := []) (st := []) C X dX16_readsTypes_1 ltX16_277 myX16_number viX16_number ⟨by decide, by decide⟩ rfl rfl k1 (Nat.le_of_ble_eq_true rfl) (Nat.le_refl _) (Nat.le_refl _) (ctX16_number e3 ?_)
  rcases v2 with z5 | w4
  · have hf := pt_kl hf
    cases hf
    exact q
  have hf := pt_kr hf
  show pm_G g 4 [(0, .ref a0)] [.long w4.1] w4.2 0 0
  refine pm_lstore_n (lv' := [(1, .long w4.1), (0, .ref a0)]) C dX16_readsTypes_4 rfl (pt_nl X (by decide)) rfl ?_
  refine pm_aload_n C dX16_readsTypes_5 rfl rfl ?_
  obtain ⟨k6, hf⟩ := pm_if hf
  obtain ⟨v7, e8, hf⟩ := pm_bd hf
  refine pm_getR C dX16_readsTypes_6 flX16_221 rfl k6 e8 ?_
  refine pm_aload_n C dX16_readsTypes_9 rfl rfl ?_
  refine pm_lload_n C dX16_readsTypes_10 rfl rfl ?_
  obtain ⟨v9, e10, hf⟩ := pm_bd hf
  refine pt_callV (as := [.long w4.1]) (st := [.ref v7]) C X dX16_readsTypes_11 lnX16_377 myX16_kept viX16_kept ⟨by decide, by decide⟩ rfl rfl k6 (Nat.le_of_ble_eq_true rfl) (Nat.le_refl _) (Nat.le_refl _) (ctX16_kept e10 ?_)
  show pm_G g 14 [(1, .long w4.1), (0, .ref a0)] [.int v9.1, .ref v7] v9.2 0 0
  obtain ⟨k11, hf⟩ := pm_if hf
  refine pm_putI C dX16_readsTypes_14 flX16_381 rfl rfl k11 rfl rfl ?_
  refine pm_lconst (v := 0) C dX16_readsTypes_17 (by decide) ?_
  refine pm_lstore_n (lv' := [(3, .long 0), (1, .long w4.1), (0, .ref a0)]) C dX16_readsTypes_18 rfl (pt_nl X (by decide)) rfl ?_
  obtain ⟨n, hn⟩ := pm_lim_iter hf
  exact pm_sub [2, 1, 0] rfl ((lpX16_readsTypes C X q n).1 a0 w4.1 0 (pm_setI v9.2 v7 4 v9.1) hn)
