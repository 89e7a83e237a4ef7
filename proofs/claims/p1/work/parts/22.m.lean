theorem dX1_resultsAreParameters_0 : decode cX1_resultsAreParameters 0 = .ok (.aload_n 0, 1) := by decide +kernel
theorem dX1_resultsAreParameters_1 : decode cX1_resultsAreParameters 1 = .ok (.iconst 0, 1) := by decide +kernel
theorem dX1_resultsAreParameters_2 : decode cX1_resultsAreParameters 2 = .ok (.invokestatic 105, 3) := by decide +kernel
theorem dX1_resultsAreParameters_5 : decode cX1_resultsAreParameters 5 = .ok (.istore_n 1, 1) := by decide +kernel
theorem dX1_resultsAreParameters_6 : decode cX1_resultsAreParameters 6 = .ok (.iload_n 1, 1) := by decide +kernel
theorem dX1_resultsAreParameters_7 : decode cX1_resultsAreParameters 7 = .ok (.aload_n 0, 1) := by decide +kernel
theorem dX1_resultsAreParameters_8 : decode cX1_resultsAreParameters 8 = .ok (.iconst 1, 1) := by decide +kernel
theorem dX1_resultsAreParameters_9 : decode cX1_resultsAreParameters 9 = .ok (.invokestatic 105, 3) := by decide +kernel
theorem dX1_resultsAreParameters_12 : decode cX1_resultsAreParameters 12 = .ok (.if_icmp .eq 5, 3) := by decide +kernel
theorem dX1_resultsAreParameters_15 : decode cX1_resultsAreParameters 15 = .ok (.iconst 0, 1) := by decide +kernel
theorem dX1_resultsAreParameters_16 : decode cX1_resultsAreParameters 16 = .ok (.ireturn, 1) := by decide +kernel
theorem dX1_resultsAreParameters_17 : decode cX1_resultsAreParameters 17 = .ok (.iconst 0, 1) := by decide +kernel
theorem dX1_resultsAreParameters_18 : decode cX1_resultsAreParameters 18 = .ok (.istore_n 2, 1) := by decide +kernel
theorem dX1_resultsAreParameters_19 : decode cX1_resultsAreParameters 19 = .ok (.iload_n 2, 1) := by decide +kernel
theorem dX1_resultsAreParameters_20 : decode cX1_resultsAreParameters 20 = .ok (.iload_n 1, 1) := by decide +kernel
theorem dX1_resultsAreParameters_21 : decode cX1_resultsAreParameters 21 = .ok (.if_icmp .ge 30, 3) := by decide +kernel
theorem dX1_resultsAreParameters_24 : decode cX1_resultsAreParameters 24 = .ok (.aload_n 0, 1) := by decide +kernel
theorem dX1_resultsAreParameters_25 : decode cX1_resultsAreParameters 25 = .ok (.iconst 2, 1) := by decide +kernel
theorem dX1_resultsAreParameters_26 : decode cX1_resultsAreParameters 26 = .ok (.iload_n 2, 1) := by decide +kernel
theorem dX1_resultsAreParameters_27 : decode cX1_resultsAreParameters 27 = .ok (.iadd, 1) := by decide +kernel
theorem dX1_resultsAreParameters_28 : decode cX1_resultsAreParameters 28 = .ok (.invokestatic 105, 3) := by decide +kernel
theorem dX1_resultsAreParameters_31 : decode cX1_resultsAreParameters 31 = .ok (.aload_n 0, 1) := by decide +kernel
theorem dX1_resultsAreParameters_32 : decode cX1_resultsAreParameters 32 = .ok (.iconst 2, 1) := by decide +kernel
theorem dX1_resultsAreParameters_33 : decode cX1_resultsAreParameters 33 = .ok (.iload_n 1, 1) := by decide +kernel
theorem dX1_resultsAreParameters_34 : decode cX1_resultsAreParameters 34 = .ok (.iadd, 1) := by decide +kernel
theorem dX1_resultsAreParameters_35 : decode cX1_resultsAreParameters 35 = .ok (.iload_n 2, 1) := by decide +kernel
theorem dX1_resultsAreParameters_36 : decode cX1_resultsAreParameters 36 = .ok (.iadd, 1) := by decide +kernel
theorem dX1_resultsAreParameters_37 : decode cX1_resultsAreParameters 37 = .ok (.invokestatic 105, 3) := by decide +kernel
theorem dX1_resultsAreParameters_40 : decode cX1_resultsAreParameters 40 = .ok (.if_icmp .eq 5, 3) := by decide +kernel
theorem dX1_resultsAreParameters_43 : decode cX1_resultsAreParameters 43 = .ok (.iconst 0, 1) := by decide +kernel
theorem dX1_resultsAreParameters_44 : decode cX1_resultsAreParameters 44 = .ok (.ireturn, 1) := by decide +kernel
theorem dX1_resultsAreParameters_45 : decode cX1_resultsAreParameters 45 = .ok (.iinc 2 1, 3) := by decide +kernel
theorem dX1_resultsAreParameters_48 : decode cX1_resultsAreParameters 48 = .ok (.goto (-29), 3) := by decide +kernel
theorem dX1_resultsAreParameters_51 : decode cX1_resultsAreParameters 51 = .ok (.iconst 1, 1) := by decide +kernel
theorem dX1_resultsAreParameters_52 : decode cX1_resultsAreParameters 52 = .ok (.ireturn, 1) := by decide +kernel
def tX1_resultsAreParameters_19 (h : pm_H) (x0 : Nat) (x1 : Int32) (x2 : Int32) : Option (((Nat × Int32 × Int32)) ⊕ Int32) := if x1 ≤ x2 then (some (.inr (1))) else ((fX12_item h x0 (2 + x2)).bind fun v7 => (fX12_item h x0 ((2 + x1) + x2)).bind fun v9 => if v7 = v9 then (pm_let (x2 + 1) fun y12 => some (.inl ((x0, x1, y12)))) else (some (.inr (0))))
def sX1_resultsAreParameters (h : pm_H) : ((Nat × Int32 × Int32)) → Option (((Nat × Int32 × Int32)) ⊕ Int32) := fun z => match z with
  | (x0, x1, x2) => tX1_resultsAreParameters_19 h x0 x1 x2
noncomputable def fX1_resultsAreParameters (h : pm_H) (p1 : Nat) : Option Int32 := (fX12_item h p1 0).bind fun v1 => (fX12_item h p1 1).bind fun v3 => if v1 = v3 then (pm_lim (sX1_resultsAreParameters h) ((p1, v1, 0))) else (some 0)
set_option maxHeartbeats 4000000 in
set_option maxRecDepth 100000 in
theorem lpX1_resultsAreParameters {g : pm_Gm} {l : Launch} {G : pm_Gl} {Qr : Option Value → pm_H → Prop} (C : pm_C g cX1_resultsAreParameters RX1) (X : pm_X g l G mX1_resultsAreParameters 0 0 Qr) {h : pm_H} {r : Int32} (q : Qr (some (.int r)) h) : ∀ n : Nat, (∀ (x0 : Nat) (x1 : Int32) (x2 : Int32), pm_iter (sX1_resultsAreParameters h) n (x0, x1, x2) = some r → pm_G g 19 [(0, .ref x0), (1, .int x1), (2, .int x2)] [] h 0 0) := by
  intro n
  induction n with
  | zero => exact fun _ _ _ hf => (by cases hf)
  | succ n ih =>
    refine fun x0 x1 x2 hf => ?_
    obtain ⟨y, hf, hi⟩ := pm_iter_s hf
    have hf : tX1_resultsAreParameters_19 h x0 x1 x2 = some y := hf
    unfold tX1_resultsAreParameters_19 at hf
    refine pm_iload_n C dX1_resultsAreParameters_19 rfl rfl ?_
    refine pm_iload_n C dX1_resultsAreParameters_20 rfl rfl ?_
    refine pm_icmp_ge (tgt := 51) C dX1_resultsAreParameters_21 (by decide) (fun c6 => ?_) (fun c6 => ?_)
    · have hf := pm_it hf c6
      refine pm_iconst (v := 1) C dX1_resultsAreParameters_51 (by decide) ?_
      cases hf
      cases hi
      exact pm_zret C X dX1_resultsAreParameters_52 rfl (by decide) (Nat.le_refl _) (Nat.le_refl _) q
    · have hf := pm_ie hf c6
      refine pm_aload_n C dX1_resultsAreParameters_24 rfl rfl ?_
      refine pm_iconst (v := 2) C dX1_resultsAreParameters_25 (by decide) ?_
      refine pm_iload_n C dX1_resultsAreParameters_26 rfl rfl ?_
      refine pm_iadd C dX1_resultsAreParameters_27 ?_
      obtain ⟨v7, e8, hf⟩ := pm_bd hf
      refine pm_callS (as := [.ref x0, .int (2 + x2)]) (st := []) C X dX1_resultsAreParameters_28 lnX1_105 myX12_item stX12_item ⟨by decide, by decide⟩ rfl rfl (Nat.le_of_ble_eq_true rfl) (Nat.le_refl _) (Nat.le_refl _) (ctX12_item e8 ?_)
      show pm_G g 31 [(0, .ref x0), (1, .int x1), (2, .int x2)] [.int v7] h 0 0
      refine pm_aload_n C dX1_resultsAreParameters_31 rfl rfl ?_
      refine pm_iconst (v := 2) C dX1_resultsAreParameters_32 (by decide) ?_
      refine pm_iload_n C dX1_resultsAreParameters_33 rfl rfl ?_
      refine pm_iadd C dX1_resultsAreParameters_34 ?_
      refine pm_iload_n C dX1_resultsAreParameters_35 rfl rfl ?_
      refine pm_iadd C dX1_resultsAreParameters_36 ?_
      obtain ⟨v9, e10, hf⟩ := pm_bd hf
      refine pm_callS (as := [.ref x0, .int ((2 + x1) + x2)]) (st := [.int v7]) C X dX1_resultsAreParameters_37 lnX1_105 myX12_item stX12_item ⟨by decide, by decide⟩ rfl rfl (Nat.le_of_ble_eq_true rfl) (Nat.le_refl _) (Nat.le_refl _) (ctX12_item e10 ?_)
      show pm_G g 40 [(0, .ref x0), (1, .int x1), (2, .int x2)] [.int v9, .int v7] h 0 0
      refine pm_icmp_eq (tgt := 45) C dX1_resultsAreParameters_40 (by decide) (fun c11 => ?_) (fun c11 => ?_)
      · have hf := pm_it hf c11
        obtain ⟨y12, e13, hf⟩ := pm_lt hf
        refine pm_iinc (v := y12) (lv' := [(2, .int y12), (0, .ref x0), (1, .int x1)]) C dX1_resultsAreParameters_45 rfl ((congrArg (x2 + ·) (by decide : Int32.ofInt 1 = 1)).trans e13) (pm_nl X (by decide)) rfl ?_
        refine pm_goto (tgt := 19) C dX1_resultsAreParameters_48 (by decide) ?_
        cases hf
        exact pm_sub [1, 2, 0] rfl (ih x0 x1 y12 hi)
      · have hf := pm_ie hf c11
        refine pm_iconst (v := 0) C dX1_resultsAreParameters_43 (by decide) ?_
        cases hf
        cases hi
        exact pm_zret C X dX1_resultsAreParameters_44 rfl (by decide) (Nat.le_refl _) (Nat.le_refl _) q
set_option maxHeartbeats 4000000 in
set_option maxRecDepth 100000 in
theorem ctX1_resultsAreParameters {l : Launch} {G : pm_Gl} {h : pm_H} {p1 : Nat} {r : Int32} {Qr : Option Value → pm_H → Prop} (hf : fX1_resultsAreParameters h p1 = some r) (q : Qr (some (.int r)) h) : pm_Ct l G mX1_resultsAreParameters [.ref p1] h 0 0 Qr := by
  refine pm_body pnX1 (Nat.le_of_ble_eq_true rfl) (fun g C X => ?_)
  have C : pm_C g cX1_resultsAreParameters RX1 := C
  show pm_G g 0 [(0, .ref p1)] [] h 0 0
  unfold fX1_resultsAreParameters at hf
  refine pm_aload_n C dX1_resultsAreParameters_0 rfl rfl ?_
  refine pm_iconst (v := 0) C dX1_resultsAreParameters_1 (by decide) ?_
  obtain ⟨v1, e2, hf⟩ := pm_bd hf
  refine pm_callS (as := [.ref p1, .int 0]) (st := []) C X dX1_resultsAreParameters_2 lnX1_105 myX12_item stX12_item ⟨by decide, by decide⟩ rfl rfl (Nat.le_of_ble_eq_true rfl) (Nat.le_refl _) (Nat.le_refl _) (ctX12_item e2 ?_)
  show pm_G g 5 [(0, .ref p1)] [.int v1] h 0 0
  refine pm_istore_n (lv' := [(1, .int v1), (0, .ref p1)]) C dX1_resultsAreParameters_5 rfl (pm_nl X (by decide)) rfl ?_
  refine pm_iload_n C dX1_resultsAreParameters_6 rfl rfl ?_
  refine pm_aload_n C dX1_resultsAreParameters_7 rfl rfl ?_
  refine pm_iconst (v := 1) C dX1_resultsAreParameters_8 (by decide) ?_
  obtain ⟨v3, e4, hf⟩ := pm_bd hf
  refine pm_callS (as := [.ref p1, .int 1]) (st := [.int v1]) C X dX1_resultsAreParameters_9 lnX1_105 myX12_item stX12_item ⟨by decide, by decide⟩ rfl rfl (Nat.le_of_ble_eq_true rfl) (Nat.le_refl _) (Nat.le_refl _) (ctX12_item e4 ?_)
  show pm_G g 12 [(1, .int v1), (0, .ref p1)] [.int v3, .int v1] h 0 0
  refine pm_icmp_eq (tgt := 17) C dX1_resultsAreParameters_12 (by decide) (fun c5 => ?_) (fun c5 => ?_)
  · have hf := pm_it hf c5
    refine pm_iconst (v := 0) C dX1_resultsAreParameters_17 (by decide) ?_
    refine pm_istore_n (lv' := [(2, .int 0), (1, .int v1), (0, .ref p1)]) C dX1_resultsAreParameters_18 rfl (pm_nl X (by decide)) rfl ?_
    obtain ⟨n, hn⟩ := pm_lim_iter hf
    exact pm_sub [2, 1, 0] rfl ((lpX1_resultsAreParameters C X q n) p1 v1 0 hn)
  · have hf := pm_ie hf c5
    refine pm_iconst (v := 0) C dX1_resultsAreParameters_15 (by decide) ?_
    cases hf
    exact pm_zret C X dX1_resultsAreParameters_16 rfl (by decide) (Nat.le_refl _) (Nat.le_refl _) q
theorem dX1_setLabel_0 : decode cX1_setLabel 0 = .ok (.aload_n 0, 1) := by decide +kernel
theorem dX1_setLabel_1 : decode cX1_setLabel 1 = .ok (.getfield 19, 3) := by decide +kernel
theorem dX1_setLabel_4 : decode cX1_setLabel 4 = .ok (.iload_n 1, 1) := by decide +kernel
theorem dX1_setLabel_5 : decode cX1_setLabel 5 = .ok (.bipush 7, 2) := by decide +kernel
theorem dX1_setLabel_7 : decode cX1_setLabel 7 = .ok (.imul, 1) := by decide +kernel
theorem dX1_setLabel_8 : decode cX1_setLabel 8 = .ok (.iload_n 2, 1) := by decide +kernel
theorem dX1_setLabel_9 : decode cX1_setLabel 9 = .ok (.iadd, 1) := by decide +kernel
theorem dX1_setLabel_10 : decode cX1_setLabel 10 = .ok (.iload_n 3, 1) := by decide +kernel
theorem dX1_setLabel_11 : decode cX1_setLabel 11 = .ok (.invokestatic 266, 3) := by decide +kernel
theorem dX1_setLabel_14 : decode cX1_setLabel 14 = .ok (.return_, 1) := by decide +kernel
def fX1_setLabel (h : pm_H) (a0 : Nat) (p1 : Int32) (p2 : Int32) (p3 : Int32) : Option pm_H := if pm_kd h a0 = 1 then (pm_R h a0 9).bind fun v2 => (fX12_setItem h v2 ((p1 * 7) + p2) p3).bind fun v4 => some v4 else none
set_option maxHeartbeats 4000000 in
set_option maxRecDepth 100000 in
theorem ctX1_setLabel {l : Launch} {G : pm_Gl} {h : pm_H} {a0 : Nat} {p1 : Int32} {p2 : Int32} {p3 : Int32} {r : pm_H} {Qr : Option Value → pm_H → Prop} (hf : fX1_setLabel h a0 p1 p2 p3 = some r) (q : Qr none r) : pm_Ct l G mX1_setLabel [.ref a0, .int p1, .int p2, .int p3] h 0 0 Qr := by
  refine pm_body pnX1 (Nat.le_of_ble_eq_true rfl) (fun g C X => ?_)
  have C : pm_C g cX1_setLabel RX1 := C
  show pm_G g 0 [(0, .ref a0), (1, .int p1), (2, .int p2), (3, .int p3)] [] h 0 0
  unfold fX1_setLabel at hf
  refine pm_aload_n C dX1_setLabel_0 rfl rfl ?_
  obtain ⟨k1, hf⟩ := pm_if hf
  obtain ⟨v2, e3, hf⟩ := pm_bd hf
  refine pm_getR C dX1_setLabel_1 flX1_19 rfl k1 e3 ?_
  refine pm_iload_n C dX1_setLabel_4 rfl rfl ?_
  refine pm_bipush (v := 7) C dX1_setLabel_5 (by decide) ?_
  refine pm_imul C dX1_setLabel_7 ?_
  refine pm_iload_n C dX1_setLabel_8 rfl rfl ?_
  refine pm_iadd C dX1_setLabel_9 ?_
  refine pm_iload_n C dX1_setLabel_10 rfl rfl ?_
  obtain ⟨v4, e5, hf⟩ := pm_bd hf
  refine pm_callS (as := [.ref v2, .int ((p1 * 7) + p2), .int p3]) (st := []) C X dX1_setLabel_11 lnX1_266 myX12_setItem stX12_setItem ⟨by decide, by decide⟩ rfl rfl (Nat.le_of_ble_eq_true rfl) (Nat.le_refl _) (Nat.le_refl _) (ctX12_setItem e5 ?_)
  show pm_G g 14 [(0, .ref a0), (1, .int p1), (2, .int p2), (3, .int p3)] [] v4 0 0
  cases hf
  exact pm_vret C X dX1_setLabel_14 rfl (Nat.le_refl _) (Nat.le_refl _) q
theorem dX1_take_0 : decode cX1_take 0 = .ok (.aload_n 0, 1) := by decide +kernel
theorem dX1_take_1 : decode cX1_take 1 = .ok (.getfield 220, 3) := by decide +kernel
theorem dX1_take_4 : decode cX1_take 4 = .ok (.iconst 1, 1) := by decide +kernel
theorem dX1_take_5 : decode cX1_take 5 = .ok (.isub, 1) := by decide +kernel
theorem dX1_take_6 : decode cX1_take 6 = .ok (.istore_n 2, 1) := by decide +kernel
theorem dX1_take_7 : decode cX1_take 7 = .ok (.aload_n 0, 1) := by decide +kernel
theorem dX1_take_8 : decode cX1_take 8 = .ok (.getfield 214, 3) := by decide +kernel
theorem dX1_take_11 : decode cX1_take 11 = .ok (.aload_n 0, 1) := by decide +kernel
theorem dX1_take_12 : decode cX1_take 12 = .ok (.iload_n 2, 1) := by decide +kernel
theorem dX1_take_13 : decode cX1_take 13 = .ok (.iconst 2, 1) := by decide +kernel
theorem dX1_take_14 : decode cX1_take 14 = .ok (.invokevirtual 284, 3) := by decide +kernel
theorem dX1_take_17 : decode cX1_take 17 = .ok (.if_icmp .gt 20, 3) := by decide +kernel
theorem dX1_take_20 : decode cX1_take 20 = .ok (.aload_n 0, 1) := by decide +kernel
theorem dX1_take_21 : decode cX1_take 21 = .ok (.iload_n 2, 1) := by decide +kernel
theorem dX1_take_22 : decode cX1_take 22 = .ok (.iconst 3, 1) := by decide +kernel
theorem dX1_take_23 : decode cX1_take 23 = .ok (.invokevirtual 284, 3) := by decide +kernel
theorem dX1_take_26 : decode cX1_take 26 = .ok (.ifCond .ne 9, 3) := by decide +kernel
theorem dX1_take_29 : decode cX1_take 29 = .ok (.aload_n 0, 1) := by decide +kernel
theorem dX1_take_30 : decode cX1_take 30 = .ok (.bipush 29, 2) := by decide +kernel
theorem dX1_take_32 : decode cX1_take 32 = .ok (.invokevirtual 198, 3) := by decide +kernel
theorem dX1_take_35 : decode cX1_take 35 = .ok (.iconst 0, 1) := by decide +kernel
theorem dX1_take_36 : decode cX1_take 36 = .ok (.ireturn, 1) := by decide +kernel
theorem dX1_take_37 : decode cX1_take 37 = .ok (.aload_n 0, 1) := by decide +kernel
theorem dX1_take_38 : decode cX1_take 38 = .ok (.dup, 1) := by decide +kernel
theorem dX1_take_39 : decode cX1_take 39 = .ok (.getfield 214, 3) := by decide +kernel
theorem dX1_take_42 : decode cX1_take 42 = .ok (.iconst 1, 1) := by decide +kernel
theorem dX1_take_43 : decode cX1_take 43 = .ok (.isub, 1) := by decide +kernel
theorem dX1_take_44 : decode cX1_take 44 = .ok (.putfield 214, 3) := by decide +kernel
theorem dX1_take_47 : decode cX1_take 47 = .ok (.aload_n 0, 1) := by decide +kernel
theorem dX1_take_48 : decode cX1_take 48 = .ok (.getfield 15, 3) := by decide +kernel
theorem dX1_take_51 : decode cX1_take 51 = .ok (.aload_n 0, 1) := by decide +kernel
theorem dX1_take_52 : decode cX1_take 52 = .ok (.getfield 214, 3) := by decide +kernel
theorem dX1_take_55 : decode cX1_take 55 = .ok (.invokestatic 105, 3) := by decide +kernel
theorem dX1_take_58 : decode cX1_take 58 = .ok (.istore_n 3, 1) := by decide +kernel
theorem dX1_take_59 : decode cX1_take 59 = .ok (.iload_n 3, 1) := by decide +kernel
theorem dX1_take_60 : decode cX1_take 60 = .ok (.ifCond .eq 18, 3) := by decide +kernel
theorem dX1_take_63 : decode cX1_take 63 = .ok (.iload_n 1, 1) := by decide +kernel
theorem dX1_take_64 : decode cX1_take 64 = .ok (.ifCond .eq 14, 3) := by decide +kernel
theorem dX1_take_67 : decode cX1_take 67 = .ok (.iload_n 3, 1) := by decide +kernel
theorem dX1_take_68 : decode cX1_take 68 = .ok (.iload_n 1, 1) := by decide +kernel
theorem dX1_take_69 : decode cX1_take 69 = .ok (.if_icmp .eq 9, 3) := by decide +kernel
theorem dX1_take_72 : decode cX1_take 72 = .ok (.aload_n 0, 1) := by decide +kernel
theorem dX1_take_73 : decode cX1_take 73 = .ok (.bipush 29, 2) := by decide +kernel
theorem dX1_take_75 : decode cX1_take 75 = .ok (.invokevirtual 198, 3) := by decide +kernel
theorem dX1_take_78 : decode cX1_take 78 = .ok (.iload_n 3, 1) := by decide +kernel
theorem dX1_take_79 : decode cX1_take 79 = .ok (.ireturn, 1) := by decide +kernel
def fX1_take (h : pm_H) (a0 : Nat) (p1 : Int32) : Option (Int32 × pm_H) := if pm_kd h a0 = 1 then pm_let ((pm_I h a0 10) - 1) fun y2 => (fX1_label h a0 y2 2).bind fun v4 => if v4 < (pm_I h a0 6) then (pm_let ((pm_I h a0 6) - 1) fun y7 => (pm_R (pm_setI h a0 6 y7) a0 5).bind fun v9 => (fX12_item (pm_setI h a0 6 y7) v9 (pm_I (pm_setI h a0 6 y7) a0 6)).bind fun v11 => if v11 = 0 then (some ((v11, pm_setI h a0 6 y7))) else (if p1 = 0 then (some ((v11, pm_setI h a0 6 y7))) else (if v11 = p1 then (some ((v11, pm_setI h a0 6 y7))) else ((fX1_fail (pm_setI h a0 6 y7) a0 29).bind fun v16 => some ((v11, v16)))))) else ((fX1_label h a0 y2 3).bind fun v18 => if v18 = 0 then ((fX1_fail h a0 29).bind fun v21 => some ((0, v21))) else (some ((0, h)))) else none
set_option maxHeartbeats 4000000 in
set_option maxRecDepth 100000 in
theorem ctX1_take {l : Launch} {G : pm_Gl} {h : pm_H} {a0 : Nat} {p1 : Int32} {r : (Int32 × pm_H)} {Qr : Option Value → pm_H → Prop} (hf : fX1_take h a0 p1 = some r) (q : Qr (some (.int r.1)) r.2) : pm_Ct l G mX1_take [.ref a0, .int p1] h 0 0 Qr := by
  refine pm_body pnX1 (Nat.le_of_ble_eq_true rfl) (fun g C X => ?_)
  have C : pm_C g cX1_take RX1 := C
  show pm_G g 0 [(0, .ref a0), (1, .int p1)] [] h 0 0
  unfold fX1_take at hf
  refine pm_aload_n C dX1_take_0 rfl rfl ?_
  obtain ⟨k1, hf⟩ := pm_if hf
  refine pm_getI C dX1_take_1 flX1_220 rfl k1 rfl ?_
  refine pm_iconst (v := 1) C dX1_take_4 (by decide) ?_
  refine pm_isub C dX1_take_5 ?_
  obtain ⟨y2, e3, hf⟩ := pm_lt hf
  refine pm_topI e3 ?_
  refine pm_istore_n (lv' := [(2, .int y2), (0, .ref a0), (1, .int p1)]) C dX1_take_6 rfl (pm_nl X (by decide)) rfl ?_
  refine pm_aload_n C dX1_take_7 rfl rfl ?_
  refine pm_getI C dX1_take_8 flX1_214 rfl k1 rfl ?_
  refine pm_aload_n C dX1_take_11 rfl rfl ?_
  refine pm_iload_n C dX1_take_12 rfl rfl ?_
  refine pm_iconst (v := 2) C dX1_take_13 (by decide) ?_
  obtain ⟨v4, e5, hf⟩ := pm_bd hf
  refine pm_callV (as := [.int y2, .int 2]) (st := [.int (pm_I h a0 6)]) C X dX1_take_14 lnX1_284 myX1_label viX1_label ⟨by decide, by decide⟩ rfl rfl k1 (Nat.le_of_ble_eq_true rfl) (Nat.le_refl _) (Nat.le_refl _) (ctX1_label e5 ?_)
  show pm_G g 17 [(2, .int y2), (0, .ref a0), (1, .int p1)] [.int v4, .int (pm_I h a0 6)] h 0 0
  refine pm_icmp_gt (tgt := 37) C dX1_take_17 (by decide) (fun c6 => ?_) (fun c6 => ?_)
  · have hf := pm_it hf c6
    refine pm_aload_n C dX1_take_37 rfl rfl ?_
    refine pm_dup C dX1_take_38 rfl ?_
    refine pm_getI C dX1_take_39 flX1_214 rfl k1 rfl ?_
    refine pm_iconst (v := 1) C dX1_take_42 (by decide) ?_
    refine pm_isub C dX1_take_43 ?_
    obtain ⟨y7, e8, hf⟩ := pm_lt hf
    refine pm_topI e8 ?_
    refine pm_putI C dX1_take_44 flX1_214 rfl rfl k1 rfl rfl ?_
    refine pm_aload_n C dX1_take_47 rfl rfl ?_
    obtain ⟨v9, e10, hf⟩ := pm_bd hf
    refine pm_getR C dX1_take_48 flX1_15 rfl k1 e10 ?_
    refine pm_aload_n C dX1_take_51 rfl rfl ?_
    refine pm_getI C dX1_take_52 flX1_214 rfl k1 rfl ?_
    obtain ⟨v11, e12, hf⟩ := pm_bd hf
    refine pm_callS (as := [.ref v9, .int (pm_I (pm_setI h a0 6 y7) a0 6)]) (st := []) C X dX1_take_55 lnX1_105 myX12_item stX12_item ⟨by decide, by decide⟩ rfl rfl (Nat.le_of_ble_eq_true rfl) (Nat.le_refl _) (Nat.le_refl _) (ctX12_item e12 ?_)
    show pm_G g 58 [(2, .int y2), (0, .ref a0), (1, .int p1)] [.int v11] (pm_setI h a0 6 y7) 0 0
    refine pm_istore_n (lv' := [(3, .int v11), (2, .int y2), (0, .ref a0), (1, .int p1)]) C dX1_take_58 rfl (pm_nl X (by decide)) rfl ?_
    refine pm_iload_n C dX1_take_59 rfl rfl ?_
    refine pm_if_eq (tgt := 78) C dX1_take_60 (by decide) (fun c13 => ?_) (fun c13 => ?_)
    · have hf := pm_it hf c13
      refine pm_iload_n C dX1_take_78 rfl rfl ?_
      cases hf
      exact pm_iret C X dX1_take_79 rfl (Nat.le_refl _) (Nat.le_refl _) q
    · have hf := pm_ie hf c13
      refine pm_iload_n C dX1_take_63 rfl rfl ?_
      refine pm_if_eq (tgt := 78) C dX1_take_64 (by decide) (fun c14 => ?_) (fun c14 => ?_)
      · have hf := pm_it hf c14
        refine pm_iload_n C dX1_take_78 rfl rfl ?_
        cases hf
        exact pm_iret C X dX1_take_79 rfl (Nat.le_refl _) (Nat.le_refl _) q
      · have hf := pm_ie hf c14
        refine pm_iload_n C dX1_take_67 rfl rfl ?_
        refine pm_iload_n C dX1_take_68 rfl rfl ?_
        refine pm_icmp_eq (tgt := 78) C dX1_take_69 (by decide) (fun c15 => ?_) (fun c15 => ?_)
        · have hf := pm_it hf c15
          refine pm_iload_n C dX1_take_78 rfl rfl ?_
          cases hf
          exact pm_iret C X dX1_take_79 rfl (Nat.le_refl _) (Nat.le_refl _) q
        · have hf := pm_ie hf c15
          refine pm_aload_n C dX1_take_72 rfl rfl ?_
          refine pm_bipush (v := 29) C dX1_take_73 (by decide) ?_
          obtain ⟨v16, e17, hf⟩ := pm_bd hf
          refine pm_callV (as := [.int 29]) (st := []) C X dX1_take_75 lnX1_198 myX1_fail viX1_fail ⟨by decide, by decide⟩ rfl rfl k1 (Nat.le_of_ble_eq_true rfl) (Nat.le_refl _) (Nat.le_refl _) (ctX1_fail e17 ?_)
          show pm_G g 78 [(3, .int v11), (2, .int y2), (0, .ref a0), (1, .int p1)] [] v16 0 0
          refine pm_iload_n C dX1_take_78 rfl rfl ?_
          cases hf
          exact pm_iret C X dX1_take_79 rfl (Nat.le_refl _) (Nat.le_refl _) q
  · have hf := pm_ie hf c6
    refine pm_aload_n C dX1_take_20 rfl rfl ?_
    refine pm_iload_n C dX1_take_21 rfl rfl ?_
    refine pm_iconst (v := 3) C dX1_take_22 (by decide) ?_
    obtain ⟨v18, e19, hf⟩ := pm_bd hf
    refine pm_callV (as := [.int y2, .int 3]) (st := []) C X dX1_take_23 lnX1_284 myX1_label viX1_label ⟨by decide, by decide⟩ rfl rfl k1 (Nat.le_of_ble_eq_true rfl) (Nat.le_refl _) (Nat.le_refl _) (ctX1_label e19 ?_)
    show pm_G g 26 [(2, .int y2), (0, .ref a0), (1, .int p1)] [.int v18] h 0 0
    refine pm_if_ne (tgt := 35) C dX1_take_26 (by decide) (fun c20 => ?_) (fun c20 => ?_)
    · have hf := pm_ie hf c20
      refine pm_iconst (v := 0) C dX1_take_35 (by decide) ?_
      cases hf
      exact pm_iret C X dX1_take_36 rfl (Nat.le_refl _) (Nat.le_refl _) q
    · have hf := pm_it hf c20
      refine pm_aload_n C dX1_take_29 rfl rfl ?_
      refine pm_bipush (v := 29) C dX1_take_30 (by decide) ?_
      obtain ⟨v21, e22, hf⟩ := pm_bd hf
      refine pm_callV (as := [.int 29]) (st := []) C X dX1_take_32 lnX1_198 myX1_fail viX1_fail ⟨by decide, by decide⟩ rfl rfl k1 (Nat.le_of_ble_eq_true rfl) (Nat.le_refl _) (Nat.le_refl _) (ctX1_fail e22 ?_)
      show pm_G g 35 [(2, .int y2), (0, .ref a0), (1, .int p1)] [] v21 0 0
      refine pm_iconst (v := 0) C dX1_take_35 (by decide) ?_
      cases hf
      exact pm_iret C X dX1_take_36 rfl (Nat.le_refl _) (Nat.le_refl _) q
theorem dX1_takeTypes_0 : decode cX1_takeTypes 0 = .ok (.iload_n 3, 1) := by decide +kernel
theorem dX1_takeTypes_1 : decode cX1_takeTypes 1 = .ok (.iconst 1, 1) := by decide +kernel
theorem dX1_takeTypes_2 : decode cX1_takeTypes 2 = .ok (.isub, 1) := by decide +kernel
theorem dX1_takeTypes_3 : decode cX1_takeTypes 3 = .ok (.istore 4, 2) := by decide +kernel
theorem dX1_takeTypes_5 : decode cX1_takeTypes 5 = .ok (.iload 4, 2) := by decide +kernel
theorem dX1_takeTypes_7 : decode cX1_takeTypes 7 = .ok (.ifCond .lt 22, 3) := by decide +kernel
theorem dX1_takeTypes_10 : decode cX1_takeTypes 10 = .ok (.aload_n 0, 1) := by decide +kernel
theorem dX1_takeTypes_11 : decode cX1_takeTypes 11 = .ok (.aload_n 1, 1) := by decide +kernel
theorem dX1_takeTypes_12 : decode cX1_takeTypes 12 = .ok (.iload_n 2, 1) := by decide +kernel
theorem dX1_takeTypes_13 : decode cX1_takeTypes 13 = .ok (.iload 4, 2) := by decide +kernel
theorem dX1_takeTypes_15 : decode cX1_takeTypes 15 = .ok (.iadd, 1) := by decide +kernel
theorem dX1_takeTypes_16 : decode cX1_takeTypes 16 = .ok (.invokestatic 105, 3) := by decide +kernel
theorem dX1_takeTypes_19 : decode cX1_takeTypes 19 = .ok (.invokevirtual 289, 3) := by decide +kernel
theorem dX1_takeTypes_22 : decode cX1_takeTypes 22 = .ok (.pop, 1) := by decide +kernel
theorem dX1_takeTypes_23 : decode cX1_takeTypes 23 = .ok (.iinc 4 (-1), 3) := by decide +kernel
theorem dX1_takeTypes_26 : decode cX1_takeTypes 26 = .ok (.goto (-21), 3) := by decide +kernel
theorem dX1_takeTypes_29 : decode cX1_takeTypes 29 = .ok (.return_, 1) := by decide +kernel
def tX1_takeTypes_5 (x0 : Nat) (x1 : Nat) (x2 : Int32) (x4 : Int32) (h : pm_H) : Option (((Nat × Nat × Int32 × Int32 × pm_H)) ⊕ pm_H) := if x4 < 0 then (some (.inr (h))) else ((fX12_item h x1 (x2 + x4)).bind fun v4 => if pm_kd h x0 = 1 then (fX1_take h x0 v4).bind fun v7 => pm_let (x4 + (-1)) fun y9 => some (.inl ((x0, x1, x2, y9, v7.2))) else none)
def sX1_takeTypes : ((Nat × Nat × Int32 × Int32 × pm_H)) → Option (((Nat × Nat × Int32 × Int32 × pm_H)) ⊕ pm_H) := fun z => match z with
  | (x0, x1, x2, x4, h) => tX1_takeTypes_5 x0 x1 x2 x4 h
noncomputable def fX1_takeTypes (h : pm_H) (a0 : Nat) (p1 : Nat) (p2 : Int32) (p3 : Int32) : Option pm_H := pm_let (p3 - 1) fun y1 => pm_lim sX1_takeTypes ((a0, p1, p2, y1, h))
set_option maxHeartbeats 4000000 in
set_option maxRecDepth 100000 in
theorem lpX1_takeTypes {g : pm_Gm} {l : Launch} {G : pm_Gl} {Qr : Option Value → pm_H → Prop} (C : pm_C g cX1_takeTypes RX1) (X : pm_X g l G mX1_takeTypes 0 0 Qr) {r : pm_H} (q : Qr none r) : ∀ n : Nat, (∀ (x0 : Nat) (x1 : Nat) (x2 : Int32) (x4 : Int32) (h : pm_H), pm_iter sX1_takeTypes n (x0, x1, x2, x4, h) = some r → pm_G g 5 [(0, .ref x0), (1, .ref x1), (2, .int x2), (4, .int x4)] [] h 0 0) := by
  intro n
  induction n with
  | zero => exact fun _ _ _ _ _ hf => (by cases hf)
  | succ n ih =>
    refine fun x0 x1 x2 x4 h hf => ?_
    obtain ⟨y, hf, hi⟩ := pm_iter_s hf
    have hf : tX1_takeTypes_5 x0 x1 x2 x4 h = some y := hf
    unfold tX1_takeTypes_5 at hf
    refine pm_iload C dX1_takeTypes_5 rfl ?_
    refine pm_if_lt (tgt := 29) C dX1_takeTypes_7 (by decide) (fun c3 => ?_) (fun c3 => ?_)
    · have hf := pm_it hf c3
      cases hf
      cases hi
      exact pm_vret C X dX1_takeTypes_29 rfl (Nat.le_refl _) (Nat.le_refl _) q
    · have hf := pm_ie hf c3
      refine pm_aload_n C dX1_takeTypes_10 rfl rfl ?_
      refine pm_aload_n C dX1_takeTypes_11 rfl rfl ?_
      refine pm_iload_n C dX1_takeTypes_12 rfl rfl ?_
      refine pm_iload C dX1_takeTypes_13 rfl ?_
      refine pm_iadd C dX1_takeTypes_15 ?_
      obtain ⟨v4, e5, hf⟩ := pm_bd hf
      refine pm_callS (as := [.ref x1, .int (x2 + x4)]) (st := [.ref x0]) C X dX1_takeTypes_16 lnX1_105 myX12_item stX12_item ⟨by decide, by decide⟩ rfl rfl (Nat.le_of_ble_eq_true rfl) (Nat.le_refl _) (Nat.le_refl _) (ctX12_item e5 ?_)
      show pm_G g 19 [(0, .ref x0), (1, .ref x1), (2, .int x2), (4, .int x4)] [.int v4, .ref x0] h 0 0
      obtain ⟨k6, hf⟩ := pm_if hf
      obtain ⟨v7, e8, hf⟩ := pm_bd hf
      refine pm_callV (as := [.int v4]) (st := []) C X dX1_takeTypes_19 lnX1_289 myX1_take viX1_take ⟨by decide, by decide⟩ rfl rfl k6 (Nat.le_of_ble_eq_true rfl) (Nat.le_refl _) (Nat.le_refl _) (ctX1_take e8 ?_)
      show pm_G g 22 [(0, .ref x0), (1, .ref x1), (2, .int x2), (4, .int x4)] [.int v7.1] v7.2 0 0
      refine pm_pop C dX1_takeTypes_22 rfl ?_
      obtain ⟨y9, e10, hf⟩ := pm_lt hf
      refine pm_iinc (v := y9) (lv' := [(4, .int y9), (0, .ref x0), (1, .ref x1), (2, .int x2)]) C dX1_takeTypes_23 rfl ((congrArg (x4 + ·) (by decide : Int32.ofInt (-1) = (-1))).trans e10) (pm_nl X (by decide)) rfl ?_
      refine pm_goto (tgt := 5) C dX1_takeTypes_26 (by decide) ?_
      cases hf
      exact pm_sub [1, 2, 3, 0] rfl (ih x0 x1 x2 y9 v7.2 hi)
set_option maxHeartbeats 4000000 in
set_option maxRecDepth 100000 in
theorem ctX1_takeTypes {l : Launch} {G : pm_Gl} {h : pm_H} {a0 : Nat} {p1 : Nat} {p2 : Int32} {p3 : Int32} {r : pm_H} {Qr : Option Value → pm_H → Prop} (hf : fX1_takeTypes h a0 p1 p2 p3 = some r) (q : Qr none r) : pm_Ct l G mX1_takeTypes [.ref a0, .ref p1, .int p2, .int p3] h 0 0 Qr := by
  refine pm_body pnX1 (Nat.le_of_ble_eq_true rfl) (fun g C X => ?_)
  have C : pm_C g cX1_takeTypes RX1 := C
  show pm_G g 0 [(0, .ref a0), (1, .ref p1), (2, .int p2), (3, .int p3)] [] h 0 0
  unfold fX1_takeTypes at hf
  refine pm_iload_n C dX1_takeTypes_0 rfl rfl ?_
  refine pm_iconst (v := 1) C dX1_takeTypes_1 (by decide) ?_
  refine pm_isub C dX1_takeTypes_2 ?_
  obtain ⟨y1, e2, hf⟩ := pm_lt hf
  refine pm_topI e2 ?_
  refine pm_istore (lv' := [(4, .int y1), (0, .ref a0), (1, .ref p1), (2, .int p2), (3, .int p3)]) C dX1_takeTypes_3 (pm_nl X (by decide)) rfl ?_
  obtain ⟨n, hn⟩ := pm_lim_iter hf
  exact pm_sub [1, 2, 3, 0] rfl ((lpX1_takeTypes C X q n) a0 p1 p2 y1 h hn)
theorem dX2_aimBranches_0 : decode cX2_aimBranches 0 = .ok (.iconst 0, 1) := by decide +kernel
theorem dX2_aimBranches_1 : decode cX2_aimBranches 1 = .ok (.istore_n 1, 1) := by decide +kernel
theorem dX2_aimBranches_2 : decode cX2_aimBranches 2 = .ok (.iload_n 1, 1) := by decide +kernel
theorem dX2_aimBranches_3 : decode cX2_aimBranches 3 = .ok (.aload_n 0, 1) := by decide +kernel
theorem dX2_aimBranches_4 : decode cX2_aimBranches 4 = .ok (.getfield 51, 3) := by decide +kernel
theorem dX2_aimBranches_7 : decode cX2_aimBranches 7 = .ok (.bipush 8, 2) := by decide +kernel
theorem dX2_aimBranches_9 : decode cX2_aimBranches 9 = .ok (.imul, 1) := by decide +kernel
theorem dX2_aimBranches_10 : decode cX2_aimBranches 10 = .ok (.if_icmp .ge 54, 3) := by decide +kernel
theorem dX2_aimBranches_13 : decode cX2_aimBranches 13 = .ok (.aload_n 0, 1) := by decide +kernel
theorem dX2_aimBranches_14 : decode cX2_aimBranches 14 = .ok (.getfield 16, 3) := by decide +kernel
theorem dX2_aimBranches_17 : decode cX2_aimBranches 17 = .ok (.iload_n 1, 1) := by decide +kernel
theorem dX2_aimBranches_18 : decode cX2_aimBranches 18 = .ok (.iconst 0, 1) := by decide +kernel
theorem dX2_aimBranches_19 : decode cX2_aimBranches 19 = .ok (.iadd, 1) := by decide +kernel
theorem dX2_aimBranches_20 : decode cX2_aimBranches 20 = .ok (.invokestatic 97, 3) := by decide +kernel
theorem dX2_aimBranches_23 : decode cX2_aimBranches 23 = .ok (.invokestatic 93, 3) := by decide +kernel
theorem dX2_aimBranches_26 : decode cX2_aimBranches 26 = .ok (.ifCond .eq 32, 3) := by decide +kernel
theorem dX2_aimBranches_29 : decode cX2_aimBranches 29 = .ok (.aload_n 0, 1) := by decide +kernel
theorem dX2_aimBranches_30 : decode cX2_aimBranches 30 = .ok (.getfield 16, 3) := by decide +kernel
theorem dX2_aimBranches_33 : decode cX2_aimBranches 33 = .ok (.iload_n 1, 1) := by decide +kernel
theorem dX2_aimBranches_34 : decode cX2_aimBranches 34 = .ok (.bipush 6, 2) := by decide +kernel
theorem dX2_aimBranches_36 : decode cX2_aimBranches 36 = .ok (.iadd, 1) := by decide +kernel
theorem dX2_aimBranches_37 : decode cX2_aimBranches 37 = .ok (.aload_n 0, 1) := by decide +kernel
theorem dX2_aimBranches_38 : decode cX2_aimBranches 38 = .ok (.getfield 24, 3) := by decide +kernel
theorem dX2_aimBranches_41 : decode cX2_aimBranches 41 = .ok (.aload_n 0, 1) := by decide +kernel
theorem dX2_aimBranches_42 : decode cX2_aimBranches 42 = .ok (.getfield 16, 3) := by decide +kernel
theorem dX2_aimBranches_45 : decode cX2_aimBranches 45 = .ok (.iload_n 1, 1) := by decide +kernel
theorem dX2_aimBranches_46 : decode cX2_aimBranches 46 = .ok (.bipush 6, 2) := by decide +kernel
theorem dX2_aimBranches_48 : decode cX2_aimBranches 48 = .ok (.iadd, 1) := by decide +kernel
theorem dX2_aimBranches_49 : decode cX2_aimBranches 49 = .ok (.invokestatic 97, 3) := by decide +kernel
theorem dX2_aimBranches_52 : decode cX2_aimBranches 52 = .ok (.invokestatic 97, 3) := by decide +kernel
theorem dX2_aimBranches_55 : decode cX2_aimBranches 55 = .ok (.invokestatic 101, 3) := by decide +kernel
theorem dX2_aimBranches_58 : decode cX2_aimBranches 58 = .ok (.iinc 1 8, 3) := by decide +kernel
theorem dX2_aimBranches_61 : decode cX2_aimBranches 61 = .ok (.goto (-59), 3) := by decide +kernel
theorem dX2_aimBranches_64 : decode cX2_aimBranches 64 = .ok (.return_, 1) := by decide +kernel
def tX2_aimBranches_2 (x0 : Nat) (x1 : Int32) (h : pm_H) : Option (((Nat × Int32 × pm_H)) ⊕ pm_H) := if pm_kd h x0 = 2 then if ((pm_I h x0 4) * 8) ≤ x1 then (some (.inr (h))) else ((pm_R h x0 3).bind fun v3 => (fX12_item h v3 (x1 + 0)).bind fun v5 => pm_let (fX2_isBranch v5) fun v7 => if v7 = 0 then (pm_let (x1 + 8) fun y10 => some (.inl ((x0, y10, h)))) else ((pm_R h x0 8).bind fun v12 => (fX12_item h v3 (x1 + 6)).bind fun v14 => (fX12_item h v12 v14).bind fun v16 => (fX12_setItem h v3 (x1 + 6) v16).bind fun v18 => pm_let (x1 + 8) fun y20 => some (.inl ((x0, y20, v18))))) else none
def sX2_aimBranches : ((Nat × Int32 × pm_H)) → Option (((Nat × Int32 × pm_H)) ⊕ pm_H) := fun z => match z with
  | (x0, x1, h) => tX2_aimBranches_2 x0 x1 h
noncomputable def fX2_aimBranches (h : pm_H) (a0 : Nat) : Option pm_H := pm_lim sX2_aimBranches ((a0, 0, h))
set_option maxHeartbeats 4000000 in
set_option maxRecDepth 100000 in
theorem lpX2_aimBranches {g : pm_Gm} {l : Launch} {G : pm_Gl} {Qr : Option Value → pm_H → Prop} (C : pm_C g cX2_aimBranches RX2) (X : pm_X g l G mX2_aimBranches 0 0 Qr) {r : pm_H} (q : Qr none r) : ∀ n : Nat, (∀ (x0 : Nat) (x1 : Int32) (h : pm_H), pm_iter sX2_aimBranches n (x0, x1, h) = some r → pm_G g 2 [(0, .ref x0), (1, .int x1)] [] h 0 0) := by
  intro n
  induction n with
  | zero => exact fun _ _ _ hf => (by cases hf)
  | succ n ih =>
    refine fun x0 x1 h hf => ?_
    obtain ⟨y, hf, hi⟩ := pm_iter_s hf
    have hf : tX2_aimBranches_2 x0 x1 h = some y := hf
    unfold tX2_aimBranches_2 at hf
    refine pm_iload_n C dX2_aimBranches_2 rfl rfl ?_
    refine pm_aload_n C dX2_aimBranches_3 rfl rfl ?_
    obtain ⟨k1, hf⟩ := pm_if hf
    refine pm_getI C dX2_aimBranches_4 flX2_51 rfl k1 rfl ?_
    refine pm_bipush (v := 8) C dX2_aimBranches_7 (by decide) ?_
    refine pm_imul C dX2_aimBranches_9 ?_
    refine pm_icmp_ge (tgt := 64) C dX2_aimBranches_10 (by decide) (fun c2 => ?_) (fun c2 => ?_)
    · have hf := pm_it hf c2
      cases hf
      cases hi
      exact pm_vret C X dX2_aimBranches_64 rfl (Nat.le_refl _) (Nat.le_refl _) q
    · have hf := pm_ie hf c2
      refine pm_aload_n C dX2_aimBranches_13 rfl rfl ?_
      obtain ⟨v3, e4, hf⟩ := pm_bd hf
      refine pm_getR C dX2_aimBranches_14 flX2_16 rfl k1 e4 ?_
      refine pm_iload_n C dX2_aimBranches_17 rfl rfl ?_
      refine pm_iconst (v := 0) C dX2_aimBranches_18 (by decide) ?_
      refine pm_iadd C dX2_aimBranches_19 ?_
      obtain ⟨v5, e6, hf⟩ := pm_bd hf
      refine pm_callS (as := [.ref v3, .int (x1 + 0)]) (st := []) C X dX2_aimBranches_20 lnX2_97 myX12_item stX12_item ⟨by decide, by decide⟩ rfl rfl (Nat.le_of_ble_eq_true rfl) (Nat.le_refl _) (Nat.le_refl _) (ctX12_item e6 ?_)
      show pm_G g 23 [(0, .ref x0), (1, .int x1)] [.int v5] h 0 0
      obtain ⟨v7, e8, hf⟩ := pm_lt hf
      refine pm_callS (as := [.int v5]) (st := []) C X dX2_aimBranches_23 lnX2_93 myX2_isBranch stX2_isBranch ⟨by decide, by decide⟩ rfl rfl (Nat.le_of_ble_eq_true rfl) (Nat.le_refl _) (Nat.le_refl _) (ctX2_isBranch e8 ?_)
      show pm_G g 26 [(0, .ref x0), (1, .int x1)] [.int v7] h 0 0
      refine pm_if_eq (tgt := 58) C dX2_aimBranches_26 (by decide) (fun c9 => ?_) (fun c9 => ?_)
      · have hf := pm_it hf c9
        obtain ⟨y10, e11, hf⟩ := pm_lt hf
        refine pm_iinc (v := y10) (lv' := [(1, .int y10), (0, .ref x0)]) C dX2_aimBranches_58 rfl ((congrArg (x1 + ·) (by decide : Int32.ofInt 8 = 8)).trans e11) (pm_nl X (by decide)) rfl ?_
        refine pm_goto (tgt := 2) C dX2_aimBranches_61 (by decide) ?_
        cases hf
        exact pm_sub [1, 0] rfl (ih x0 y10 h hi)
      · have hf := pm_ie hf c9
        refine pm_aload_n C dX2_aimBranches_29 rfl rfl ?_
        refine pm_getR C dX2_aimBranches_30 flX2_16 rfl k1 e4 ?_
        refine pm_iload_n C dX2_aimBranches_33 rfl rfl ?_
        refine pm_bipush (v := 6) C dX2_aimBranches_34 (by decide) ?_
        refine pm_iadd C dX2_aimBranches_36 ?_
        refine pm_aload_n C dX2_aimBranches_37 rfl rfl ?_
        obtain ⟨v12, e13, hf⟩ := pm_bd hf
        refine pm_getR C dX2_aimBranches_38 flX2_24 rfl k1 e13 ?_
        refine pm_aload_n C dX2_aimBranches_41 rfl rfl ?_
        refine pm_getR C dX2_aimBranches_42 flX2_16 rfl k1 e4 ?_
        refine pm_iload_n C dX2_aimBranches_45 rfl rfl ?_
        refine pm_bipush (v := 6) C dX2_aimBranches_46 (by decide) ?_
        refine pm_iadd C dX2_aimBranches_48 ?_
        obtain ⟨v14, e15, hf⟩ := pm_bd hf
        refine pm_callS (as := [.ref v3, .int (x1 + 6)]) (st := [.ref v12, .int (x1 + 6), .ref v3]) C X dX2_aimBranches_49 lnX2_97 myX12_item stX12_item ⟨by decide, by decide⟩ rfl rfl (Nat.le_of_ble_eq_true rfl) (Nat.le_refl _) (Nat.le_refl _) (ctX12_item e15 ?_)
        show pm_G g 52 [(0, .ref x0), (1, .int x1)] [.int v14, .ref v12, .int (x1 + 6), .ref v3] h 0 0
        obtain ⟨v16, e17, hf⟩ := pm_bd hf
        refine pm_callS (as := [.ref v12, .int v14]) (st := [.int (x1 + 6), .ref v3]) C X dX2_aimBranches_52 lnX2_97 myX12_item stX12_item ⟨by decide, by decide⟩ rfl rfl (Nat.le_of_ble_eq_true rfl) (Nat.le_refl _) (Nat.le_refl _) (ctX12_item e17 ?_)
        show pm_G g 55 [(0, .ref x0), (1, .int x1)] [.int v16, .int (x1 + 6), .ref v3] h 0 0
        obtain ⟨v18, e19, hf⟩ := pm_bd hf
        refine pm_callS (as := [.ref v3, .int (x1 + 6), .int v16]) (st := []) C X dX2_aimBranches_55 lnX2_101 myX12_setItem stX12_setItem ⟨by decide, by decide⟩ rfl rfl (Nat.le_of_ble_eq_true rfl) (Nat.le_refl _) (Nat.le_refl _) (ctX12_setItem e19 ?_)
        show pm_G g 58 [(0, .ref x0), (1, .int x1)] [] v18 0 0
        obtain ⟨y20, e21, hf⟩ := pm_lt hf
        refine pm_iinc (v := y20) (lv' := [(1, .int y20), (0, .ref x0)]) C dX2_aimBranches_58 rfl ((congrArg (x1 + ·) (by decide : Int32.ofInt 8 = 8)).trans e21) (pm_nl X (by decide)) rfl ?_
        refine pm_goto (tgt := 2) C dX2_aimBranches_61 (by decide) ?_
        cases hf
        exact pm_sub [1, 0] rfl (ih x0 y20 v18 hi)
set_option maxHeartbeats 4000000 in
set_option maxRecDepth 100000 in
theorem ctX2_aimBranches {l : Launch} {G : pm_Gl} {h : pm_H} {a0 : Nat} {r : pm_H} {Qr : Option Value → pm_H → Prop} (hf : fX2_aimBranches h a0 = some r) (q : Qr none r) : pm_Ct l G mX2_aimBranches [.ref a0] h 0 0 Qr := by
  refine pm_body pnX2 (Nat.le_of_ble_eq_true rfl) (fun g C X => ?_)
  have C : pm_C g cX2_aimBranches RX2 := C
  show pm_G g 0 [(0, .ref a0)] [] h 0 0
  unfold fX2_aimBranches at hf
  refine pm_iconst (v := 0) C dX2_aimBranches_0 (by decide) ?_
  refine pm_istore_n (lv' := [(1, .int 0), (0, .ref a0)]) C dX2_aimBranches_1 rfl (pm_nl X (by decide)) rfl ?_
  obtain ⟨n, hn⟩ := pm_lim_iter hf
  exact pm_sub [1, 0] rfl ((lpX2_aimBranches C X q n) a0 0 h hn)
theorem dX2_branch_0 : decode cX2_branch 0 = .ok (.aload_n 0, 1) := by decide +kernel
theorem dX2_branch_1 : decode cX2_branch 1 = .ok (.aload_n 0, 1) := by decide +kernel
theorem dX2_branch_2 : decode cX2_branch 2 = .ok (.getfield 34, 3) := by decide +kernel
theorem dX2_branch_5 : decode cX2_branch 5 = .ok (.iload_n 1, 1) := by decide +kernel
theorem dX2_branch_6 : decode cX2_branch 6 = .ok (.iconst 0, 1) := by decide +kernel
theorem dX2_branch_7 : decode cX2_branch 7 = .ok (.invokevirtual 89, 3) := by decide +kernel
theorem dX2_branch_10 : decode cX2_branch 10 = .ok (.iload_n 2, 1) := by decide +kernel
theorem dX2_branch_11 : decode cX2_branch 11 = .ok (.invokevirtual 105, 3) := by decide +kernel
theorem dX2_branch_14 : decode cX2_branch 14 = .ok (.istore 4, 2) := by decide +kernel
theorem dX2_branch_16 : decode cX2_branch 16 = .ok (.aload_n 0, 1) := by decide +kernel
theorem dX2_branch_17 : decode cX2_branch 17 = .ok (.getfield 34, 3) := by decide +kernel
theorem dX2_branch_20 : decode cX2_branch 20 = .ok (.iload_n 1, 1) := by decide +kernel
theorem dX2_branch_21 : decode cX2_branch 21 = .ok (.iconst 2, 1) := by decide +kernel
theorem dX2_branch_22 : decode cX2_branch 22 = .ok (.invokevirtual 89, 3) := by decide +kernel
theorem dX2_branch_25 : decode cX2_branch 25 = .ok (.istore 5, 2) := by decide +kernel
theorem dX2_branch_27 : decode cX2_branch 27 = .ok (.aload_n 0, 1) := by decide +kernel
theorem dX2_branch_28 : decode cX2_branch 28 = .ok (.getfield 16, 3) := by decide +kernel
theorem dX2_branch_31 : decode cX2_branch 31 = .ok (.iload 4, 2) := by decide +kernel
theorem dX2_branch_33 : decode cX2_branch 33 = .ok (.iconst 2, 1) := by decide +kernel
theorem dX2_branch_34 : decode cX2_branch 34 = .ok (.iadd, 1) := by decide +kernel
theorem dX2_branch_35 : decode cX2_branch 35 = .ok (.aload_n 0, 1) := by decide +kernel
theorem dX2_branch_36 : decode cX2_branch 36 = .ok (.getfield 50, 3) := by decide +kernel
theorem dX2_branch_39 : decode cX2_branch 39 = .ok (.aload_n 0, 1) := by decide +kernel
theorem dX2_branch_40 : decode cX2_branch 40 = .ok (.getfield 34, 3) := by decide +kernel
theorem dX2_branch_43 : decode cX2_branch 43 = .ok (.iload_n 1, 1) := by decide +kernel
theorem dX2_branch_44 : decode cX2_branch 44 = .ok (.iconst 3, 1) := by decide +kernel
theorem dX2_branch_45 : decode cX2_branch 45 = .ok (.invokevirtual 89, 3) := by decide +kernel
theorem dX2_branch_48 : decode cX2_branch 48 = .ok (.iadd, 1) := by decide +kernel
theorem dX2_branch_49 : decode cX2_branch 49 = .ok (.invokestatic 101, 3) := by decide +kernel
theorem dX2_branch_52 : decode cX2_branch 52 = .ok (.aload_n 0, 1) := by decide +kernel
theorem dX2_branch_53 : decode cX2_branch 53 = .ok (.getfield 16, 3) := by decide +kernel
theorem dX2_branch_56 : decode cX2_branch 56 = .ok (.iload 4, 2) := by decide +kernel
theorem dX2_branch_58 : decode cX2_branch 58 = .ok (.iconst 3, 1) := by decide +kernel
theorem dX2_branch_59 : decode cX2_branch 59 = .ok (.iadd, 1) := by decide +kernel
theorem dX2_branch_60 : decode cX2_branch 60 = .ok (.aload_n 0, 1) := by decide +kernel
theorem dX2_branch_61 : decode cX2_branch 61 = .ok (.getfield 50, 3) := by decide +kernel
theorem dX2_branch_64 : decode cX2_branch 64 = .ok (.iload_n 3, 1) := by decide +kernel
theorem dX2_branch_65 : decode cX2_branch 65 = .ok (.iadd, 1) := by decide +kernel
theorem dX2_branch_66 : decode cX2_branch 66 = .ok (.iload 5, 2) := by decide +kernel
theorem dX2_branch_68 : decode cX2_branch 68 = .ok (.isub, 1) := by decide +kernel
theorem dX2_branch_69 : decode cX2_branch 69 = .ok (.invokestatic 101, 3) := by decide +kernel
theorem dX2_branch_72 : decode cX2_branch 72 = .ok (.aload_n 0, 1) := by decide +kernel
theorem dX2_branch_73 : decode cX2_branch 73 = .ok (.getfield 16, 3) := by decide +kernel
theorem dX2_branch_76 : decode cX2_branch 76 = .ok (.iload 4, 2) := by decide +kernel
theorem dX2_branch_78 : decode cX2_branch 78 = .ok (.bipush 6, 2) := by decide +kernel
theorem dX2_branch_80 : decode cX2_branch 80 = .ok (.iadd, 1) := by decide +kernel
theorem dX2_branch_81 : decode cX2_branch 81 = .ok (.aload_n 0, 1) := by decide +kernel
theorem dX2_branch_82 : decode cX2_branch 82 = .ok (.getfield 34, 3) := by decide +kernel
theorem dX2_branch_85 : decode cX2_branch 85 = .ok (.iload_n 1, 1) := by decide +kernel
theorem dX2_branch_86 : decode cX2_branch 86 = .ok (.iconst 1, 1) := by decide +kernel
theorem dX2_branch_87 : decode cX2_branch 87 = .ok (.invokevirtual 89, 3) := by decide +kernel
theorem dX2_branch_90 : decode cX2_branch 90 = .ok (.invokestatic 101, 3) := by decide +kernel
theorem dX2_branch_93 : decode cX2_branch 93 = .ok (.aload_n 0, 1) := by decide +kernel
theorem dX2_branch_94 : decode cX2_branch 94 = .ok (.getfield 16, 3) := by decide +kernel
theorem dX2_branch_97 : decode cX2_branch 97 = .ok (.iload 4, 2) := by decide +kernel
theorem dX2_branch_99 : decode cX2_branch 99 = .ok (.bipush 7, 2) := by decide +kernel
theorem dX2_branch_101 : decode cX2_branch 101 = .ok (.iadd, 1) := by decide +kernel
theorem dX2_branch_102 : decode cX2_branch 102 = .ok (.iload 5, 2) := by decide +kernel
theorem dX2_branch_104 : decode cX2_branch 104 = .ok (.invokestatic 101, 3) := by decide +kernel
theorem dX2_branch_107 : decode cX2_branch 107 = .ok (.iload 4, 2) := by decide +kernel
theorem dX2_branch_109 : decode cX2_branch 109 = .ok (.ireturn, 1) := by decide +kernel
def fX2_branch (h : pm_H) (a0 : Nat) (p1 : Int32) (p2 : Int32) (p3 : Int32) : Option (Int32 × pm_H) := if pm_kd h a0 = 2 then (pm_R h a0 1).bind fun v2 => if pm_kd h v2 = 0 then (fX0_of h v2 p1 0).bind fun v5 => (fX2_emit h a0 v5 p2).bind fun v7 => if pm_kd v7.2 a0 = 2 then (pm_R v7.2 a0 1).bind fun v10 => if pm_kd v7.2 v10 = 0 then (fX0_of v7.2 v10 p1 2).bind fun v13 => (pm_R v7.2 a0 3).bind fun v15 => (fX0_of v7.2 v10 p1 3).bind fun v17 => (fX12_setItem v7.2 v15 (v7.1 + 2) ((pm_I v7.2 a0 2) + v17)).bind fun v19 => if pm_kd v19 a0 = 2 then (pm_R v19 a0 3).bind fun v22 => (fX12_setItem v19 v22 (v7.1 + 3) (((pm_I v19 a0 2) + p3) - v13)).bind fun v24 => if pm_kd v24 a0 = 2 then (pm_R v24 a0 3).bind fun v27 => (pm_R v24 a0 1).bind fun v29 => if pm_kd v24 v29 = 0 then (fX0_of v24 v29 p1 1).bind fun v32 => (fX12_setItem v24 v27 (v7.1 + 6) v32).bind fun v34 => if pm_kd v34 a0 = 2 then (pm_R v34 a0 3).bind fun v37 => (fX12_setItem v34 v37 (v7.1 + 7) v13).bind fun v39 => some ((v7.1, v39)) else none else none else none else none else none else none else none else none
set_option maxHeartbeats 4000000 in
set_option maxRecDepth 100000 in
theorem ctX2_branch {l : Launch} {G : pm_Gl} {h : pm_H} {a0 : Nat} {p1 : Int32} {p2 : Int32} {p3 : Int32} {r : (Int32 × pm_H)} {Qr : Option Value → pm_H → Prop} (hf : fX2_branch h a0 p1 p2 p3 = some r) (q : Qr (some (.int r.1)) r.2) : pm_Ct l G mX2_branch [.ref a0, .int p1, .int p2, .int p3] h 0 0 Qr := by
  refine pm_body pnX2 (Nat.le_of_ble_eq_true rfl) (fun g C X => ?_)
  have C : pm_C g cX2_branch RX2 := C
  show pm_G g 0 [(0, .ref a0), (1, .int p1), (2, .int p2), (3, .int p3)] [] h 0 0
  unfold fX2_branch at hf
  refine pm_aload_n C dX2_branch_0 rfl rfl ?_
  refine pm_aload_n C dX2_branch_1 rfl rfl ?_
  obtain ⟨k1, hf⟩ := pm_if hf
  obtain ⟨v2, e3, hf⟩ := pm_bd hf
  refine pm_getR C dX2_branch_2 flX2_34 rfl k1 e3 ?_
  refine pm_iload_n C dX2_branch_5 rfl rfl ?_
  refine pm_iconst (v := 0) C dX2_branch_6 (by decide) ?_
  obtain ⟨k4, hf⟩ := pm_if hf
  obtain ⟨v5, e6, hf⟩ := pm_bd hf
  refine pm_callV (as := [.int p1, .int 0]) (st := [.ref a0]) C X dX2_branch_7 lnX2_89 myX0_of viX0_of ⟨by decide, by decide⟩ rfl rfl k4 (Nat.le_of_ble_eq_true rfl) (Nat.le_refl _) (Nat.le_refl _) (ctX0_of e6 ?_)
  show pm_G g 10 [(0, .ref a0), (1, .int p1), (2, .int p2), (3, .int p3)] [.int v5, .ref a0] h 0 0
  refine pm_iload_n C dX2_branch_10 rfl rfl ?_
  obtain ⟨v7, e8, hf⟩ := pm_bd hf
  refine pm_callV (as := [.int v5, .int p2]) (st := []) C X dX2_branch_11 lnX2_105 myX2_emit viX2_emit ⟨by decide, by decide⟩ rfl rfl k1 (Nat.le_of_ble_eq_true rfl) (Nat.le_refl _) (Nat.le_refl _) (ctX2_emit e8 ?_)
  show pm_G g 14 [(0, .ref a0), (1, .int p1), (2, .int p2), (3, .int p3)] [.int v7.1] v7.2 0 0
  refine pm_istore (lv' := [(4, .int v7.1), (0, .ref a0), (1, .int p1), (2, .int p2), (3, .int p3)]) C dX2_branch_14 (pm_nl X (by decide)) rfl ?_
  refine pm_aload_n C dX2_branch_16 rfl rfl ?_
  obtain ⟨k9, hf⟩ := pm_if hf
  obtain ⟨v10, e11, hf⟩ := pm_bd hf
  refine pm_getR C dX2_branch_17 flX2_34 rfl k9 e11 ?_
  refine pm_iload_n C dX2_branch_20 rfl rfl ?_
  refine pm_iconst (v := 2) C dX2_branch_21 (by decide) ?_
  obtain ⟨k12, hf⟩ := pm_if hf
  obtain ⟨v13, e14, hf⟩ := pm_bd hf
  refine pm_callV (as := [.int p1, .int 2]) (st := []) C X dX2_branch_22 lnX2_89 myX0_of viX0_of ⟨by decide, by decide⟩ rfl rfl k12 (Nat.le_of_ble_eq_true rfl) (Nat.le_refl _) (Nat.le_refl _) (ctX0_of e14 ?_)
  show pm_G g 25 [(4, .int v7.1), (0, .ref a0), (1, .int p1), (2, .int p2), (3, .int p3)] [.int v13] v7.2 0 0
  refine pm_istore (lv' := [(5, .int v13), (4, .int v7.1), (0, .ref a0), (1, .int p1), (2, .int p2), (3, .int p3)]) C dX2_branch_25 (pm_nl X (by decide)) rfl ?_
  refine pm_aload_n C dX2_branch_27 rfl rfl ?_
  obtain ⟨v15, e16, hf⟩ := pm_bd hf
  refine pm_getR C dX2_branch_28 flX2_16 rfl k9 e16 ?_
  refine pm_iload C dX2_branch_31 rfl ?_
  refine pm_iconst (v := 2) C dX2_branch_33 (by decide) ?_
  refine pm_iadd C dX2_branch_34 ?_
  refine pm_aload_n C dX2_branch_35 rfl rfl ?_
  refine pm_getI C dX2_branch_36 flX2_50 rfl k9 rfl ?_
  refine pm_aload_n C dX2_branch_39 rfl rfl ?_
  refine pm_getR C dX2_branch_40 flX2_34 rfl k9 e11 ?_
  refine pm_iload_n C dX2_branch_43 rfl rfl ?_
  refine pm_iconst (v := 3) C dX2_branch_44 (by decide) ?_
  obtain ⟨v17, e18, hf⟩ := pm_bd hf
  refine pm_callV (as := [.int p1, .int 3]) (st := [.int (pm_I v7.2 a0 2), .int (v7.1 + 2), .ref v15]) C X dX2_branch_45 lnX2_89 myX0_of viX0_of ⟨by decide, by decide⟩ rfl rfl k12 (Nat.le_of_ble_eq_true rfl) (Nat.le_refl _) (Nat.le_refl _) (ctX0_of e18 ?_)
  show pm_G g 48 [(5, .int v13), (4, .int v7.1), (0, .ref a0), (1, .int p1), (2, .int p2), (3, .int p3)] [.int v17, .int (pm_I v7.2 a0 2), .int (v7.1 + 2), .ref v15] v7.2 0 0
  refine pm_iadd C dX2_branch_48 ?_
  obtain ⟨v19, e20, hf⟩ := pm_bd hf
  refine pm_callS (as := [.ref v15, .int (v7.1 + 2), .int ((pm_I v7.2 a0 2) + v17)]) (st := []) C X dX2_branch_49 lnX2_101 myX12_setItem stX12_setItem ⟨by decide, by decide⟩ rfl rfl (Nat.le_of_ble_eq_true rfl) (Nat.le_refl _) (Nat.le_refl _) (ctX12_setItem e20 ?_)
  show pm_G g 52 [(5, .int v13), (4, .int v7.1), (0, .ref a0), (1, .int p1), (2, .int p2), (3, .int p3)] [] v19 0 0
  refine pm_aload_n C dX2_branch_52 rfl rfl ?_
  obtain ⟨k21, hf⟩ := pm_if hf
  obtain ⟨v22, e23, hf⟩ := pm_bd hf
  refine pm_getR C dX2_branch_53 flX2_16 rfl k21 e23 ?_
  refine pm_iload C dX2_branch_56 rfl ?_
  refine pm_iconst (v := 3) C dX2_branch_58 (by decide) ?_
  refine pm_iadd C dX2_branch_59 ?_
  refine pm_aload_n C dX2_branch_60 rfl rfl ?_
  refine pm_getI C dX2_branch_61 flX2_50 rfl k21 rfl ?_
  refine pm_iload_n C dX2_branch_64 rfl rfl ?_
  refine pm_iadd C dX2_branch_65 ?_
  refine pm_iload C dX2_branch_66 rfl ?_
  refine pm_isub C dX2_branch_68 ?_
  obtain ⟨v24, e25, hf⟩ := pm_bd hf
  refine pm_callS (as := [.ref v22, .int (v7.1 + 3), .int (((pm_I v19 a0 2) + p3) - v13)]) (st := []) C X dX2_branch_69 lnX2_101 myX12_setItem stX12_setItem ⟨by decide, by decide⟩ rfl rfl (Nat.le_of_ble_eq_true rfl) (Nat.le_refl _) (Nat.le_refl _) (ctX12_setItem e25 ?_)
  show pm_G g 72 [(5, .int v13), (4, .int v7.1), (0, .ref a0), (1, .int p1), (2, .int p2), (3, .int p3)] [] v24 0 0
  refine pm_aload_n C dX2_branch_72 rfl rfl ?_
  obtain ⟨k26, hf⟩ := pm_if hf
  obtain ⟨v27, e28, hf⟩ := pm_bd hf
  refine pm_getR C dX2_branch_73 flX2_16 rfl k26 e28 ?_
  refine pm_iload C dX2_branch_76 rfl ?_
  refine pm_bipush (v := 6) C dX2_branch_78 (by decide) ?_
  refine pm_iadd C dX2_branch_80 ?_
  refine pm_aload_n C dX2_branch_81 rfl rfl ?_
  obtain ⟨v29, e30, hf⟩ := pm_bd hf
  refine pm_getR C dX2_branch_82 flX2_34 rfl k26 e30 ?_
  refine pm_iload_n C dX2_branch_85 rfl rfl ?_
  refine pm_iconst (v := 1) C dX2_branch_86 (by decide) ?_
  obtain ⟨k31, hf⟩ := pm_if hf
  obtain ⟨v32, e33, hf⟩ := pm_bd hf
  refine pm_callV (as := [.int p1, .int 1]) (st := [.int (v7.1 + 6), .ref v27]) C X dX2_branch_87 lnX2_89 myX0_of viX0_of ⟨by decide, by decide⟩ rfl rfl k31 (Nat.le_of_ble_eq_true rfl) (Nat.le_refl _) (Nat.le_refl _) (ctX0_of e33 ?_)
  show pm_G g 90 [(5, .int v13), (4, .int v7.1), (0, .ref a0), (1, .int p1), (2, .int p2), (3, .int p3)] [.int v32, .int (v7.1 + 6), .ref v27] v24 0 0
  obtain ⟨v34, e35, hf⟩ := pm_bd hf
  refine pm_callS (as := [.ref v27, .int (v7.1 + 6), .int v32]) (st := []) C X dX2_branch_90 lnX2_101 myX12_setItem stX12_setItem ⟨by decide, by decide⟩ rfl rfl (Nat.le_of_ble_eq_true rfl) (Nat.le_refl _) (Nat.le_refl _) (ctX12_setItem e35 ?_)
  show pm_G g 93 [(5, .int v13), (4, .int v7.1), (0, .ref a0), (1, .int p1), (2, .int p2), (3, .int p3)] [] v34 0 0
  refine pm_aload_n C dX2_branch_93 rfl rfl ?_
  obtain ⟨k36, hf⟩ := pm_if hf
  obtain ⟨v37, e38, hf⟩ := pm_bd hf
  refine pm_getR C dX2_branch_94 flX2_16 rfl k36 e38 ?_
  refine pm_iload C dX2_branch_97 rfl ?_
  refine pm_bipush (v := 7) C dX2_branch_99 (by decide) ?_
  refine pm_iadd C dX2_branch_101 ?_
  refine pm_iload C dX2_branch_102 rfl ?_
  obtain ⟨v39, e40, hf⟩ := pm_bd hf
  refine pm_callS (as := [.ref v37, .int (v7.1 + 7), .int v13]) (st := []) C X dX2_branch_104 lnX2_101 myX12_setItem stX12_setItem ⟨by decide, by decide⟩ rfl rfl (Nat.le_of_ble_eq_true rfl) (Nat.le_refl _) (Nat.le_refl _) (ctX12_setItem e40 ?_)
  show pm_G g 107 [(5, .int v13), (4, .int v7.1), (0, .ref a0), (1, .int p1), (2, .int p2), (3, .int p3)] [] v39 0 0
  refine pm_iload C dX2_branch_107 rfl ?_
  cases hf
  exact pm_iret C X dX2_branch_109 rfl (Nat.le_refl _) (Nat.le_refl _) q
theorem dX2_emitMove_0 : decode cX2_emitMove 0 = .ok (.aload_n 0, 1) := by decide +kernel
theorem dX2_emitMove_1 : decode cX2_emitMove 1 = .ok (.sipush 500, 3) := by decide +kernel
theorem dX2_emitMove_4 : decode cX2_emitMove 4 = .ok (.iload_n 3, 1) := by decide +kernel
theorem dX2_emitMove_5 : decode cX2_emitMove 5 = .ok (.invokevirtual 105, 3) := by decide +kernel
theorem dX2_emitMove_8 : decode cX2_emitMove 8 = .ok (.istore 4, 2) := by decide +kernel
theorem dX2_emitMove_10 : decode cX2_emitMove 10 = .ok (.aload_n 0, 1) := by decide +kernel
theorem dX2_emitMove_11 : decode cX2_emitMove 11 = .ok (.getfield 16, 3) := by decide +kernel
theorem dX2_emitMove_14 : decode cX2_emitMove 14 = .ok (.iload 4, 2) := by decide +kernel
theorem dX2_emitMove_16 : decode cX2_emitMove 16 = .ok (.iconst 2, 1) := by decide +kernel
theorem dX2_emitMove_17 : decode cX2_emitMove 17 = .ok (.iadd, 1) := by decide +kernel
theorem dX2_emitMove_18 : decode cX2_emitMove 18 = .ok (.iload_n 1, 1) := by decide +kernel
theorem dX2_emitMove_19 : decode cX2_emitMove 19 = .ok (.invokestatic 101, 3) := by decide +kernel
theorem dX2_emitMove_22 : decode cX2_emitMove 22 = .ok (.aload_n 0, 1) := by decide +kernel
theorem dX2_emitMove_23 : decode cX2_emitMove 23 = .ok (.getfield 16, 3) := by decide +kernel
theorem dX2_emitMove_26 : decode cX2_emitMove 26 = .ok (.iload 4, 2) := by decide +kernel
theorem dX2_emitMove_28 : decode cX2_emitMove 28 = .ok (.iconst 3, 1) := by decide +kernel
theorem dX2_emitMove_29 : decode cX2_emitMove 29 = .ok (.iadd, 1) := by decide +kernel
theorem dX2_emitMove_30 : decode cX2_emitMove 30 = .ok (.iload_n 2, 1) := by decide +kernel
theorem dX2_emitMove_31 : decode cX2_emitMove 31 = .ok (.invokestatic 101, 3) := by decide +kernel
theorem dX2_emitMove_34 : decode cX2_emitMove 34 = .ok (.return_, 1) := by decide +kernel
def fX2_emitMove (h : pm_H) (a0 : Nat) (p1 : Int32) (p2 : Int32) (p3 : Int32) : Option pm_H := if pm_kd h a0 = 2 then (fX2_emit h a0 500 p3).bind fun v2 => if pm_kd v2.2 a0 = 2 then (pm_R v2.2 a0 3).bind fun v5 => (fX12_setItem v2.2 v5 (v2.1 + 2) p1).bind fun v7 => if pm_kd v7 a0 = 2 then (pm_R v7 a0 3).bind fun v10 => (fX12_setItem v7 v10 (v2.1 + 3) p2).bind fun v12 => some v12 else none else none else none
set_option maxHeartbeats 4000000 in
set_option maxRecDepth 100000 in
theorem ctX2_emitMove {l : Launch} {G : pm_Gl} {h : pm_H} {a0 : Nat} {p1 : Int32} {p2 : Int32} {p3 : Int32} {r : pm_H} {Qr : Option Value → pm_H → Prop} (hf : fX2_emitMove h a0 p1 p2 p3 = some r) (q : Qr none r) : pm_Ct l G mX2_emitMove [.ref a0, .int p1, .int p2, .int p3] h 0 0 Qr := by
  refine pm_body pnX2 (Nat.le_of_ble_eq_true rfl) (fun g C X => ?_)
  have C : pm_C g cX2_emitMove RX2 := C
  show pm_G g 0 [(0, .ref a0), (1, .int p1), (2, .int p2), (3, .int p3)] [] h 0 0
  unfold fX2_emitMove at hf
  refine pm_aload_n C dX2_emitMove_0 rfl rfl ?_
  refine pm_sipush (v := 500) C dX2_emitMove_1 (by decide) ?_
  refine pm_iload_n C dX2_emitMove_4 rfl rfl ?_
  obtain ⟨k1, hf⟩ := pm_if hf
  obtain ⟨v2, e3, hf⟩ := pm_bd hf
  refine pm_callV (as := [.int 500, .int p3]) (st := []) C X dX2_emitMove_5 lnX2_105 myX2_emit viX2_emit ⟨by decide, by decide⟩ rfl rfl k1 (Nat.le_of_ble_eq_true rfl) (Nat.le_refl _) (Nat.le_refl _) (ctX2_emit e3 ?_)
  show pm_G g 8 [(0, .ref a0), (1, .int p1), (2, .int p2), (3, .int p3)] [.int v2.1] v2.2 0 0
  refine pm_istore (lv' := [(4, .int v2.1), (0, .ref a0), (1, .int p1), (2, .int p2), (3, .int p3)]) C dX2_emitMove_8 (pm_nl X (by decide)) rfl ?_
  refine pm_aload_n C dX2_emitMove_10 rfl rfl ?_
  obtain ⟨k4, hf⟩ := pm_if hf
  obtain ⟨v5, e6, hf⟩ := pm_bd hf
  refine pm_getR C dX2_emitMove_11 flX2_16 rfl k4 e6 ?_
  refine pm_iload C dX2_emitMove_14 rfl ?_
  refine pm_iconst (v := 2) C dX2_emitMove_16 (by decide) ?_
  refine pm_iadd C dX2_emitMove_17 ?_
  refine pm_iload_n C dX2_emitMove_18 rfl rfl ?_
  obtain ⟨v7, e8, hf⟩ := pm_bd hf
  refine pm_callS (as := [.ref v5, .int (v2.1 + 2), .int p1]) (st := []) C X dX2_emitMove_19 lnX2_101 myX12_setItem stX12_setItem ⟨by decide, by decide⟩ rfl rfl (Nat.le_of_ble_eq_true rfl) (Nat.le_refl _) (Nat.le_refl _) (ctX12_setItem e8 ?_)
  show pm_G g 22 [(4, .int v2.1), (0, .ref a0), (1, .int p1), (2, .int p2), (3, .int p3)] [] v7 0 0
  refine pm_aload_n C dX2_emitMove_22 rfl rfl ?_
  obtain ⟨k9, hf⟩ := pm_if hf
  obtain ⟨v10, e11, hf⟩ := pm_bd hf
  refine pm_getR C dX2_emitMove_23 flX2_16 rfl k9 e11 ?_
  refine pm_iload C dX2_emitMove_26 rfl ?_
  refine pm_iconst (v := 3) C dX2_emitMove_28 (by decide) ?_
  refine pm_iadd C dX2_emitMove_29 ?_
  refine pm_iload_n C dX2_emitMove_30 rfl rfl ?_
  obtain ⟨v12, e13, hf⟩ := pm_bd hf
  refine pm_callS (as := [.ref v10, .int (v2.1 + 3), .int p2]) (st := []) C X dX2_emitMove_31 lnX2_101 myX12_setItem stX12_setItem ⟨by decide, by decide⟩ rfl rfl (Nat.le_of_ble_eq_true rfl) (Nat.le_refl _) (Nat.le_refl _) (ctX12_setItem e13 ?_)
  show pm_G g 34 [(4, .int v2.1), (0, .ref a0), (1, .int p1), (2, .int p2), (3, .int p3)] [] v12 0 0
  cases hf
  exact pm_vret C X dX2_emitMove_34 rfl (Nat.le_refl _) (Nat.le_refl _) q
theorem dX2_heldAt_0 : decode cX2_heldAt 0 = .ok (.aload_n 0, 1) := by decide +kernel
theorem dX2_heldAt_1 : decode cX2_heldAt 1 = .ok (.getfield 31, 3) := by decide +kernel
theorem dX2_heldAt_4 : decode cX2_heldAt 4 = .ok (.iload_n 1, 1) := by decide +kernel
theorem dX2_heldAt_5 : decode cX2_heldAt 5 = .ok (.invokestatic 97, 3) := by decide +kernel
theorem dX2_heldAt_8 : decode cX2_heldAt 8 = .ok (.ireturn, 1) := by decide +kernel
def fX2_heldAt (h : pm_H) (a0 : Nat) (p1 : Int32) : Option Int32 := if pm_kd h a0 = 2 then (pm_R h a0 10).bind fun v2 => (fX12_item h v2 p1).bind fun v4 => some v4 else none
set_option maxHeartbeats 4000000 in
set_option maxRecDepth 100000 in
theorem ctX2_heldAt {l : Launch} {G : pm_Gl} {h : pm_H} {a0 : Nat} {p1 : Int32} {r : Int32} {Qr : Option Value → pm_H → Prop} (hf : fX2_heldAt h a0 p1 = some r) (q : Qr (some (.int r)) h) : pm_Ct l G mX2_heldAt [.ref a0, .int p1] h 0 0 Qr := by
  refine pm_body pnX2 (Nat.le_of_ble_eq_true rfl) (fun g C X => ?_)
  have C : pm_C g cX2_heldAt RX2 := C
  show pm_G g 0 [(0, .ref a0), (1, .int p1)] [] h 0 0
  unfold fX2_heldAt at hf
  refine pm_aload_n C dX2_heldAt_0 rfl rfl ?_
  obtain ⟨k1, hf⟩ := pm_if hf
  obtain ⟨v2, e3, hf⟩ := pm_bd hf
  refine pm_getR C dX2_heldAt_1 flX2_31 rfl k1 e3 ?_
  refine pm_iload_n C dX2_heldAt_4 rfl rfl ?_
  obtain ⟨v4, e5, hf⟩ := pm_bd hf
  refine pm_callS (as := [.ref v2, .int p1]) (st := []) C X dX2_heldAt_5 lnX2_97 myX12_item stX12_item ⟨by decide, by decide⟩ rfl rfl (Nat.le_of_ble_eq_true rfl) (Nat.le_refl _) (Nat.le_refl _) (ctX12_item e5 ?_)
  show pm_G g 8 [(0, .ref a0), (1, .int p1)] [.int v4] h 0 0
  cases hf
  exact pm_iret C X dX2_heldAt_8 rfl (Nat.le_refl _) (Nat.le_refl _) q
theorem dX2_hold_0 : decode cX2_hold 0 = .ok (.aload_n 0, 1) := by decide +kernel
theorem dX2_hold_1 : decode cX2_hold 1 = .ok (.getfield 31, 3) := by decide +kernel
theorem dX2_hold_4 : decode cX2_hold 4 = .ok (.iload_n 1, 1) := by decide +kernel
theorem dX2_hold_5 : decode cX2_hold 5 = .ok (.iload_n 2, 1) := by decide +kernel
theorem dX2_hold_6 : decode cX2_hold 6 = .ok (.invokestatic 101, 3) := by decide +kernel
theorem dX2_hold_9 : decode cX2_hold 9 = .ok (.aload_n 0, 1) := by decide +kernel
theorem dX2_hold_10 : decode cX2_hold 10 = .ok (.dup, 1) := by decide +kernel
theorem dX2_hold_11 : decode cX2_hold 11 = .ok (.getfield 57, 3) := by decide +kernel
theorem dX2_hold_14 : decode cX2_hold 14 = .ok (.iconst 1, 1) := by decide +kernel
theorem dX2_hold_15 : decode cX2_hold 15 = .ok (.iadd, 1) := by decide +kernel
theorem dX2_hold_16 : decode cX2_hold 16 = .ok (.putfield 57, 3) := by decide +kernel
theorem dX2_hold_19 : decode cX2_hold 19 = .ok (.return_, 1) := by decide +kernel
def fX2_hold (h : pm_H) (a0 : Nat) (p1 : Int32) (p2 : Int32) : Option pm_H := if pm_kd h a0 = 2 then (pm_R h a0 10).bind fun v2 => (fX12_setItem h v2 p1 p2).bind fun v4 => if pm_kd v4 a0 = 2 then pm_let ((pm_I v4 a0 11) + 1) fun y7 => some (pm_setI v4 a0 11 y7) else none else none
set_option maxHeartbeats 4000000 in
set_option maxRecDepth 100000 in
theorem ctX2_hold {l : Launch} {G : pm_Gl} {h : pm_H} {a0 : Nat} {p1 : Int32} {p2 : Int32} {r : pm_H} {Qr : Option Value → pm_H → Prop} (hf : fX2_hold h a0 p1 p2 = some r) (q : Qr none r) : pm_Ct l G mX2_hold [.ref a0, .int p1, .int p2] h 0 0 Qr := by
  refine pm_body pnX2 (Nat.le_of_ble_eq_true rfl) (fun g C X => ?_)
  have C : pm_C g cX2_hold RX2 := C
  show pm_G g 0 [(0, .ref a0), (1, .int p1), (2, .int p2)] [] h 0 0
  unfold fX2_hold at hf
  refine pm_aload_n C dX2_hold_0 rfl rfl ?_
  obtain ⟨k1, hf⟩ := pm_if hf
  obtain ⟨v2, e3, hf⟩ := pm_bd hf
  refine pm_getR C dX2_hold_1 flX2_31 rfl k1 e3 ?_
  refine pm_iload_n C dX2_hold_4 rfl rfl ?_
  refine pm_iload_n C dX2_hold_5 rfl rfl ?_
  obtain ⟨v4, e5, hf⟩ := pm_bd hf
  refine pm_callS (as := [.ref v2, .int p1, .int p2]) (st := []) C X dX2_hold_6 lnX2_101 myX12_setItem stX12_setItem ⟨by decide, by decide⟩ rfl rfl (Nat.le_of_ble_eq_true rfl) (Nat.le_refl _) (Nat.le_refl _) (ctX12_setItem e5 ?_)
  show pm_G g 9 [(0, .ref a0), (1, .int p1), (2, .int p2)] [] v4 0 0
  refine pm_aload_n C dX2_hold_9 rfl rfl ?_
  refine pm_dup C dX2_hold_10 rfl ?_
  obtain ⟨k6, hf⟩ := pm_if hf
  refine pm_getI C dX2_hold_11 flX2_57 rfl k6 rfl ?_
  refine pm_iconst (v := 1) C dX2_hold_14 (by decide) ?_
  refine pm_iadd C dX2_hold_15 ?_
  obtain ⟨y7, e8, hf⟩ := pm_lt hf
  refine pm_topI e8 ?_
  refine pm_putI C dX2_hold_16 flX2_57 rfl rfl k6 rfl rfl ?_
  cases hf
  exact pm_vret C X dX2_hold_19 rfl (Nat.le_refl _) (Nat.le_refl _) q
theorem dX2_holdConstant_0 : decode cX2_holdConstant 0 = .ok (.aload_n 0, 1) := by decide +kernel
theorem dX2_holdConstant_1 : decode cX2_holdConstant 1 = .ok (.getfield 20, 3) := by decide +kernel
theorem dX2_holdConstant_4 : decode cX2_holdConstant 4 = .ok (.aload_n 0, 1) := by decide +kernel
theorem dX2_holdConstant_5 : decode cX2_holdConstant 5 = .ok (.getfield 54, 3) := by decide +kernel
theorem dX2_holdConstant_8 : decode cX2_holdConstant 8 = .ok (.aload_n 0, 1) := by decide +kernel
theorem dX2_holdConstant_9 : decode cX2_holdConstant 9 = .ok (.getfield 34, 3) := by decide +kernel
theorem dX2_holdConstant_12 : decode cX2_holdConstant 12 = .ok (.iload_n 1, 1) := by decide +kernel
theorem dX2_holdConstant_13 : decode cX2_holdConstant 13 = .ok (.iconst 1, 1) := by decide +kernel
theorem dX2_holdConstant_14 : decode cX2_holdConstant 14 = .ok (.invokevirtual 89, 3) := by decide +kernel
theorem dX2_holdConstant_17 : decode cX2_holdConstant 17 = .ok (.i2l, 1) := by decide +kernel
theorem dX2_holdConstant_18 : decode cX2_holdConstant 18 = .ok (.ldc2_w 151, 3) := by decide +kernel
theorem dX2_holdConstant_21 : decode cX2_holdConstant 21 = .ok (.land, 1) := by decide +kernel
theorem dX2_holdConstant_22 : decode cX2_holdConstant 22 = .ok (.aload_n 0, 1) := by decide +kernel
theorem dX2_holdConstant_23 : decode cX2_holdConstant 23 = .ok (.getfield 34, 3) := by decide +kernel
theorem dX2_holdConstant_26 : decode cX2_holdConstant 26 = .ok (.iload_n 1, 1) := by decide +kernel
theorem dX2_holdConstant_27 : decode cX2_holdConstant 27 = .ok (.iconst 2, 1) := by decide +kernel
theorem dX2_holdConstant_28 : decode cX2_holdConstant 28 = .ok (.invokevirtual 89, 3) := by decide +kernel
theorem dX2_holdConstant_31 : decode cX2_holdConstant 31 = .ok (.i2l, 1) := by decide +kernel
theorem dX2_holdConstant_32 : decode cX2_holdConstant 32 = .ok (.bipush 32, 2) := by decide +kernel
theorem dX2_holdConstant_34 : decode cX2_holdConstant 34 = .ok (.lshl, 1) := by decide +kernel
theorem dX2_holdConstant_35 : decode cX2_holdConstant 35 = .ok (.lor, 1) := by decide +kernel
theorem dX2_holdConstant_36 : decode cX2_holdConstant 36 = .ok (.invokestatic 153, 3) := by decide +kernel
theorem dX2_holdConstant_39 : decode cX2_holdConstant 39 = .ok (.aload_n 0, 1) := by decide +kernel
theorem dX2_holdConstant_40 : decode cX2_holdConstant 40 = .ok (.dup, 1) := by decide +kernel
theorem dX2_holdConstant_41 : decode cX2_holdConstant 41 = .ok (.getfield 54, 3) := by decide +kernel
theorem dX2_holdConstant_44 : decode cX2_holdConstant 44 = .ok (.iconst 1, 1) := by decide +kernel
theorem dX2_holdConstant_45 : decode cX2_holdConstant 45 = .ok (.iadd, 1) := by decide +kernel
theorem dX2_holdConstant_46 : decode cX2_holdConstant 46 = .ok (.putfield 54, 3) := by decide +kernel
theorem dX2_holdConstant_49 : decode cX2_holdConstant 49 = .ok (.aload_n 0, 1) := by decide +kernel
theorem dX2_holdConstant_50 : decode cX2_holdConstant 50 = .ok (.iload_n 2, 1) := by decide +kernel
theorem dX2_holdConstant_51 : decode cX2_holdConstant 51 = .ok (.aload_n 0, 1) := by decide +kernel
theorem dX2_holdConstant_52 : decode cX2_holdConstant 52 = .ok (.getfield 54, 3) := by decide +kernel
theorem dX2_holdConstant_55 : decode cX2_holdConstant 55 = .ok (.ineg, 1) := by decide +kernel
theorem dX2_holdConstant_56 : decode cX2_holdConstant 56 = .ok (.invokevirtual 139, 3) := by decide +kernel
theorem dX2_holdConstant_59 : decode cX2_holdConstant 59 = .ok (.return_, 1) := by decide +kernel
def fX2_holdConstant (h : pm_H) (a0 : Nat) (p1 : Int32) (p2 : Int32) : Option pm_H := if pm_kd h a0 = 2 then (pm_R h a0 6).bind fun v2 => (pm_R h a0 1).bind fun v4 => if pm_kd h v4 = 0 then (fX0_of h v4 p1 1).bind fun v7 => (fX0_of h v4 p1 2).bind fun v9 => (fX12_setItem_ h v2 (pm_I h a0 7) ((v7.toInt64 &&& 4294967295) ||| (v9.toInt64 <<< ((32 : Int32).toInt64 &&& 63)))).bind fun v11 => if pm_kd v11 a0 = 2 then pm_let ((pm_I v11 a0 7) + 1) fun y14 => (fX2_hold (pm_setI v11 a0 7 y14) a0 p2 (-(pm_I (pm_setI v11 a0 7 y14) a0 7))).bind fun v16 => some v16 else none else none else none
set_option maxHeartbeats 4000000 in
set_option maxRecDepth 100000 in
theorem ctX2_holdConstant {l : Launch} {G : pm_Gl} {h : pm_H} {a0 : Nat} {p1 : Int32} {p2 : Int32} {r : pm_H} {Qr : Option Value → pm_H → Prop} (hf : fX2_holdConstant h a0 p1 p2 = some r) (q : Qr none r) : pm_Ct l G mX2_holdConstant [.ref a0, .int p1, .int p2] h 0 0 Qr := by
  refine pm_body pnX2 (Nat.le_of_ble_eq_true rfl) (fun g C X => ?_)
  have C : pm_C g cX2_holdConstant RX2 := C
  show pm_G g 0 [(0, .ref a0), (1, .int p1), (2, .int p2)] [] h 0 0
  unfold fX2_holdConstant at hf
  refine pm_aload_n C dX2_holdConstant_0 rfl rfl ?_
  obtain ⟨k1, hf⟩ := pm_if hf
  obtain ⟨v2, e3, hf⟩ := pm_bd hf
  refine pm_getR C dX2_holdConstant_1 flX2_20 rfl k1 e3 ?_
  refine pm_aload_n C dX2_holdConstant_4 rfl rfl ?_
  refine pm_getI C dX2_holdConstant_5 flX2_54 rfl k1 rfl ?_
  refine pm_aload_n C dX2_holdConstant_8 rfl rfl ?_
  obtain ⟨v4, e5, hf⟩ := pm_bd hf
  refine pm_getR C dX2_holdConstant_9 flX2_34 rfl k1 e5 ?_
  refine pm_iload_n C dX2_holdConstant_12 rfl rfl ?_
  refine pm_iconst (v := 1) C dX2_holdConstant_13 (by decide) ?_
  obtain ⟨k6, hf⟩ := pm_if hf
  obtain ⟨v7, e8, hf⟩ := pm_bd hf
  refine pm_callV (as := [.int p1, .int 1]) (st := [.int (pm_I h a0 7), .ref v2]) C X dX2_holdConstant_14 lnX2_89 myX0_of viX0_of ⟨by decide, by decide⟩ rfl rfl k6 (Nat.le_of_ble_eq_true rfl) (Nat.le_refl _) (Nat.le_refl _) (ctX0_of e8 ?_)
  show pm_G g 17 [(0, .ref a0), (1, .int p1), (2, .int p2)] [.int v7, .int (pm_I h a0 7), .ref v2] h 0 0
  refine pm_i2l C dX2_holdConstant_17 ?_
  refine pm_ldc2 C dX2_holdConstant_18 cnX2_151 ?_
  refine pm_land C dX2_holdConstant_21 ?_
  refine pm_aload_n C dX2_holdConstant_22 rfl rfl ?_
  refine pm_getR C dX2_holdConstant_23 flX2_34 rfl k1 e5 ?_
  refine pm_iload_n C dX2_holdConstant_26 rfl rfl ?_
  refine pm_iconst (v := 2) C dX2_holdConstant_27 (by decide) ?_
  obtain ⟨v9, e10, hf⟩ := pm_bd hf
  refine pm_callV (as := [.int p1, .int 2]) (st := [.long (v7.toInt64 &&& 4294967295), .int (pm_I h a0 7), .ref v2]) C X dX2_holdConstant_28 lnX2_89 myX0_of viX0_of ⟨by decide, by decide⟩ rfl rfl k6 (Nat.le_of_ble_eq_true rfl) (Nat.le_refl _) (Nat.le_refl _) (ctX0_of e10 ?_)
  show pm_G g 31 [(0, .ref a0), (1, .int p1), (2, .int p2)] [.int v9, .long (v7.toInt64 &&& 4294967295), .int (pm_I h a0 7), .ref v2] h 0 0
  refine pm_i2l C dX2_holdConstant_31 ?_
  refine pm_bipush (v := 32) C dX2_holdConstant_32 (by decide) ?_
  refine pm_lshl C dX2_holdConstant_34 ?_
  refine pm_lor C dX2_holdConstant_35 ?_
  obtain ⟨v11, e12, hf⟩ := pm_bd hf
  refine pm_callS (as := [.ref v2, .int (pm_I h a0 7), .long ((v7.toInt64 &&& 4294967295) ||| (v9.toInt64 <<< ((32 : Int32).toInt64 &&& 63)))]) (st := []) C X dX2_holdConstant_36 lnX2_153 myX12_setItem_ stX12_setItem_ ⟨by decide, by decide⟩ rfl rfl (Nat.le_of_ble_eq_true rfl) (Nat.le_refl _) (Nat.le_refl _) (ctX12_setItem_ e12 ?_)
  show pm_G g 39 [(0, .ref a0), (1, .int p1), (2, .int p2)] [] v11 0 0
  refine pm_aload_n C dX2_holdConstant_39 rfl rfl ?_
  refine pm_dup C dX2_holdConstant_40 rfl ?_
  obtain ⟨k13, hf⟩ := pm_if hf
  refine pm_getI C dX2_holdConstant_41 flX2_54 rfl k13 rfl ?_
  refine pm_iconst (v := 1) C dX2_holdConstant_44 (by decide) ?_
  refine pm_iadd C dX2_holdConstant_45 ?_
  obtain ⟨y14, e15, hf⟩ := pm_lt hf
  refine pm_topI e15 ?_
  refine pm_putI C dX2_holdConstant_46 flX2_54 rfl rfl k13 rfl rfl ?_
  refine pm_aload_n C dX2_holdConstant_49 rfl rfl ?_
  refine pm_iload_n C dX2_holdConstant_50 rfl rfl ?_
  refine pm_aload_n C dX2_holdConstant_51 rfl rfl ?_
  refine pm_getI C dX2_holdConstant_52 flX2_54 rfl k13 rfl ?_
  refine pm_ineg C dX2_holdConstant_55 ?_
  obtain ⟨v16, e17, hf⟩ := pm_bd hf
  refine pm_callV (as := [.int p2, .int (-(pm_I (pm_setI v11 a0 7 y14) a0 7))]) (st := []) C X dX2_holdConstant_56 lnX2_139 myX2_hold viX2_hold ⟨by decide, by decide⟩ rfl rfl k13 (Nat.le_of_ble_eq_true rfl) (Nat.le_refl _) (Nat.le_refl _) (ctX2_hold e17 ?_)
  show pm_G g 59 [(0, .ref a0), (1, .int p1), (2, .int p2)] [] v16 0 0
  cases hf
  exact pm_vret C X dX2_holdConstant_59 rfl (Nat.le_refl _) (Nat.le_refl _) q
theorem dX2_own_0 : decode cX2_own 0 = .ok (.iconst 0, 1) := by decide +kernel
theorem dX2_own_1 : decode cX2_own 1 = .ok (.istore_n 2, 1) := by decide +kernel
theorem dX2_own_2 : decode cX2_own 2 = .ok (.iload_n 2, 1) := by decide +kernel
theorem dX2_own_3 : decode cX2_own 3 = .ok (.iload_n 1, 1) := by decide +kernel
theorem dX2_own_4 : decode cX2_own 4 = .ok (.if_icmp .ge 62, 3) := by decide +kernel
theorem dX2_own_7 : decode cX2_own 7 = .ok (.iload_n 2, 1) := by decide +kernel
theorem dX2_own_8 : decode cX2_own 8 = .ok (.aload_n 0, 1) := by decide +kernel
theorem dX2_own_9 : decode cX2_own 9 = .ok (.getfield 31, 3) := by decide +kernel
theorem dX2_own_12 : decode cX2_own 12 = .ok (.arraylength, 1) := by decide +kernel
theorem dX2_own_13 : decode cX2_own 13 = .ok (.if_icmp .ge 53, 3) := by decide +kernel
theorem dX2_own_16 : decode cX2_own 16 = .ok (.aload_n 0, 1) := by decide +kernel
theorem dX2_own_17 : decode cX2_own 17 = .ok (.getfield 31, 3) := by decide +kernel
theorem dX2_own_20 : decode cX2_own 20 = .ok (.iload_n 2, 1) := by decide +kernel
theorem dX2_own_21 : decode cX2_own 21 = .ok (.iaload, 1) := by decide +kernel
theorem dX2_own_22 : decode cX2_own 22 = .ok (.aload_n 0, 1) := by decide +kernel
theorem dX2_own_23 : decode cX2_own 23 = .ok (.getfield 50, 3) := by decide +kernel
theorem dX2_own_26 : decode cX2_own 26 = .ok (.iload_n 2, 1) := by decide +kernel
theorem dX2_own_27 : decode cX2_own 27 = .ok (.iadd, 1) := by decide +kernel
theorem dX2_own_28 : decode cX2_own 28 = .ok (.if_icmp .eq 20, 3) := by decide +kernel
theorem dX2_own_31 : decode cX2_own 31 = .ok (.aload_n 0, 1) := by decide +kernel
theorem dX2_own_32 : decode cX2_own 32 = .ok (.aload_n 0, 1) := by decide +kernel
theorem dX2_own_33 : decode cX2_own 33 = .ok (.getfield 50, 3) := by decide +kernel
theorem dX2_own_36 : decode cX2_own 36 = .ok (.iload_n 2, 1) := by decide +kernel
theorem dX2_own_37 : decode cX2_own 37 = .ok (.iadd, 1) := by decide +kernel
theorem dX2_own_38 : decode cX2_own 38 = .ok (.aload_n 0, 1) := by decide +kernel
theorem dX2_own_39 : decode cX2_own 39 = .ok (.getfield 31, 3) := by decide +kernel
theorem dX2_own_42 : decode cX2_own 42 = .ok (.iload_n 2, 1) := by decide +kernel
theorem dX2_own_43 : decode cX2_own 43 = .ok (.iaload, 1) := by decide +kernel
theorem dX2_own_44 : decode cX2_own 44 = .ok (.iconst 0, 1) := by decide +kernel
theorem dX2_own_45 : decode cX2_own 45 = .ok (.invokevirtual 108, 3) := by decide +kernel
theorem dX2_own_48 : decode cX2_own 48 = .ok (.aload_n 0, 1) := by decide +kernel
theorem dX2_own_49 : decode cX2_own 49 = .ok (.getfield 31, 3) := by decide +kernel
theorem dX2_own_52 : decode cX2_own 52 = .ok (.iload_n 2, 1) := by decide +kernel
theorem dX2_own_53 : decode cX2_own 53 = .ok (.aload_n 0, 1) := by decide +kernel
theorem dX2_own_54 : decode cX2_own 54 = .ok (.getfield 50, 3) := by decide +kernel
theorem dX2_own_57 : decode cX2_own 57 = .ok (.iload_n 2, 1) := by decide +kernel
theorem dX2_own_58 : decode cX2_own 58 = .ok (.iadd, 1) := by decide +kernel
theorem dX2_own_59 : decode cX2_own 59 = .ok (.iastore, 1) := by decide +kernel
theorem dX2_own_60 : decode cX2_own 60 = .ok (.iinc 2 1, 3) := by decide +kernel
theorem dX2_own_63 : decode cX2_own 63 = .ok (.goto (-61), 3) := by decide +kernel
theorem dX2_own_66 : decode cX2_own 66 = .ok (.return_, 1) := by decide +kernel
def tX2_own_2 (x0 : Nat) (x1 : Int32) (x2 : Int32) (h : pm_H) : Option (((Nat × Int32 × Int32 × pm_H)) ⊕ pm_H) := if x1 ≤ x2 then (some (.inr (h))) else (if pm_kd h x0 = 2 then (pm_R h x0 10).bind fun v3 => if pm_kd h v3 = 34 then if (Int32.ofNat (pm_ln h v3)) ≤ x2 then (some (.inr (h))) else (if pm_in x2 (pm_ln h v3) then if (pm_I h v3 x2.toNatClampNeg) = ((pm_I h x0 2) + x2) then (pm_let ((pm_I h x0 2) + x2) fun y9 => if pm_in x2 (pm_ln h v3) then pm_let (x2 + 1) fun y12 => some (.inl ((x0, x1, y12, pm_setI h v3 x2.toNatClampNeg y9))) else none) else (if pm_in x2 (pm_ln h v3) then (fX2_emitMove h x0 ((pm_I h x0 2) + x2) (pm_I h v3 x2.toNatClampNeg) 0).bind fun v15 => if pm_kd v15 x0 = 2 then (pm_R v15 x0 10).bind fun v18 => pm_let ((pm_I v15 x0 2) + x2) fun y20 => if pm_kd v15 v18 = 34 then if pm_in x2 (pm_ln v15 v18) then pm_let (x2 + 1) fun y24 => some (.inl ((x0, x1, y24, pm_setI v15 v18 x2.toNatClampNeg y20))) else none else none else none else none) else none) else none else none)
def sX2_own : ((Nat × Int32 × Int32 × pm_H)) → Option (((Nat × Int32 × Int32 × pm_H)) ⊕ pm_H) := fun z => match z with
  | (x0, x1, x2, h) => tX2_own_2 x0 x1 x2 h
noncomputable def fX2_own (h : pm_H) (a0 : Nat) (p1 : Int32) : Option pm_H := pm_lim sX2_own ((a0, p1, 0, h))
set_option maxHeartbeats 4000000 in
set_option maxRecDepth 100000 in
theorem lpX2_own {g : pm_Gm} {l : Launch} {G : pm_Gl} {Qr : Option Value → pm_H → Prop} (C : pm_C g cX2_own RX2) (X : pm_X g l G mX2_own 0 0 Qr) {r : pm_H} (q : Qr none r) : ∀ n : Nat, (∀ (x0 : Nat) (x1 : Int32) (x2 : Int32) (h : pm_H), pm_iter sX2_own n (x0, x1, x2, h) = some r → pm_G g 2 [(0, .ref x0), (1, .int x1), (2, .int x2)] [] h 0 0) := by
  intro n
  induction n with
  | zero => exact fun _ _ _ _ hf => (by cases hf)
  | succ n ih =>
    refine fun x0 x1 x2 h hf => ?_
    obtain ⟨y, hf, hi⟩ := pm_iter_s hf
    have hf : tX2_own_2 x0 x1 x2 h = some y := hf
    unfold tX2_own_2 at hf
    refine pm_iload_n C dX2_own_2 rfl rfl ?_
    refine pm_iload_n C dX2_own_3 rfl rfl ?_
    refine pm_icmp_ge (tgt := 66) C dX2_own_4 (by decide) (fun c1 => ?_) (fun c1 => ?_)
    · have hf := pm_it hf c1
      cases hf
      cases hi
      exact pm_vret C X dX2_own_66 rfl (Nat.le_refl _) (Nat.le_refl _) q
    · have hf := pm_ie hf c1
      refine pm_iload_n C dX2_own_7 rfl rfl ?_
      refine pm_aload_n C dX2_own_8 rfl rfl ?_
      obtain ⟨k2, hf⟩ := pm_if hf
      obtain ⟨v3, e4, hf⟩ := pm_bd hf
      refine pm_getR C dX2_own_9 flX2_31 rfl k2 e4 ?_
      obtain ⟨k5, hf⟩ := pm_if hf
      refine pm_alen (t := 2) C dX2_own_12 (by decide) k5 rfl ?_
      refine pm_icmp_ge (tgt := 66) C dX2_own_13 (by decide) (fun c6 => ?_) (fun c6 => ?_)
      · have hf := pm_it hf c6
        cases hf
        cases hi
        exact pm_vret C X dX2_own_66 rfl (Nat.le_refl _) (Nat.le_refl _) q
      · have hf := pm_ie hf c6
        refine pm_aload_n C dX2_own_16 rfl rfl ?_
        refine pm_getR C dX2_own_17 flX2_31 rfl k2 e4 ?_
        refine pm_iload_n C dX2_own_20 rfl rfl ?_
        obtain ⟨u7, hf⟩ := pm_if hf
        refine pm_iald C dX2_own_21 k5 u7 rfl ?_
        refine pm_aload_n C dX2_own_22 rfl rfl ?_
        refine pm_getI C dX2_own_23 flX2_50 rfl k2 rfl ?_
        refine pm_iload_n C dX2_own_26 rfl rfl ?_
        refine pm_iadd C dX2_own_27 ?_
        refine pm_icmp_eq (tgt := 48) C dX2_own_28 (by decide) (fun c8 => ?_) (fun c8 => ?_)
        · have hf := pm_it hf c8
          refine pm_aload_n C dX2_own_48 rfl rfl ?_
          refine pm_getR C dX2_own_49 flX2_31 rfl k2 e4 ?_
          refine pm_iload_n C dX2_own_52 rfl rfl ?_
          refine pm_aload_n C dX2_own_53 rfl rfl ?_
          refine pm_getI C dX2_own_54 flX2_50 rfl k2 rfl ?_
          refine pm_iload_n C dX2_own_57 rfl rfl ?_
          refine pm_iadd C dX2_own_58 ?_
          obtain ⟨y9, e10, hf⟩ := pm_lt hf
          refine pm_topI e10 ?_
          obtain ⟨u11, hf⟩ := pm_if hf
          refine pm_iast C dX2_own_59 k5 u11 ?_
          obtain ⟨y12, e13, hf⟩ := pm_lt hf
          refine pm_iinc (v := y12) (lv' := [(2, .int y12), (0, .ref x0), (1, .int x1)]) C dX2_own_60 rfl ((congrArg (x2 + ·) (by decide : Int32.ofInt 1 = 1)).trans e13) (pm_nl X (by decide)) rfl ?_
          refine pm_goto (tgt := 2) C dX2_own_63 (by decide) ?_
          cases hf
          exact pm_sub [1, 2, 0] rfl (ih x0 x1 y12 (pm_setI h v3 x2.toNatClampNeg y9) hi)
        · have hf := pm_ie hf c8
          refine pm_aload_n C dX2_own_31 rfl rfl ?_
          refine pm_aload_n C dX2_own_32 rfl rfl ?_
          refine pm_getI C dX2_own_33 flX2_50 rfl k2 rfl ?_
          refine pm_iload_n C dX2_own_36 rfl rfl ?_
          refine pm_iadd C dX2_own_37 ?_
          refine pm_aload_n C dX2_own_38 rfl rfl ?_
          refine pm_getR C dX2_own_39 flX2_31 rfl k2 e4 ?_
          refine pm_iload_n C dX2_own_42 rfl rfl ?_
          obtain ⟨u14, hf⟩ := pm_if hf
          refine pm_iald C dX2_own_43 k5 u14 rfl ?_
          refine pm_iconst (v := 0) C dX2_own_44 (by decide) ?_
          obtain ⟨v15, e16, hf⟩ := pm_bd hf
          refine pm_callV (as := [.int ((pm_I h x0 2) + x2), .int (pm_I h v3 x2.toNatClampNeg), .int 0]) (st := []) C X dX2_own_45 lnX2_108 myX2_emitMove viX2_emitMove ⟨by decide, by decide⟩ rfl rfl k2 (Nat.le_of_ble_eq_true rfl) (Nat.le_refl _) (Nat.le_refl _) (ctX2_emitMove e16 ?_)
          show pm_G g 48 [(0, .ref x0), (1, .int x1), (2, .int x2)] [] v15 0 0
          refine pm_aload_n C dX2_own_48 rfl rfl ?_
          obtain ⟨k17, hf⟩ := pm_if hf
          obtain ⟨v18, e19, hf⟩ := pm_bd hf
          refine pm_getR C dX2_own_49 flX2_31 rfl k17 e19 ?_
          refine pm_iload_n C dX2_own_52 rfl rfl ?_
          refine pm_aload_n C dX2_own_53 rfl rfl ?_
          refine pm_getI C dX2_own_54 flX2_50 rfl k17 rfl ?_
          refine pm_iload_n C dX2_own_57 rfl rfl ?_
          refine pm_iadd C dX2_own_58 ?_
          obtain ⟨y20, e21, hf⟩ := pm_lt hf
          refine pm_topI e21 ?_
          obtain ⟨k22, hf⟩ := pm_if hf
          obtain ⟨u23, hf⟩ := pm_if hf
          refine pm_iast C dX2_own_59 k22 u23 ?_
          obtain ⟨y24, e25, hf⟩ := pm_lt hf
          refine pm_iinc (v := y24) (lv' := [(2, .int y24), (0, .ref x0), (1, .int x1)]) C dX2_own_60 rfl ((congrArg (x2 + ·) (by decide : Int32.ofInt 1 = 1)).trans e25) (pm_nl X (by decide)) rfl ?_
          refine pm_goto (tgt := 2) C dX2_own_63 (by decide) ?_
          cases hf
          exact pm_sub [1, 2, 0] rfl (ih x0 x1 y24 (pm_setI v15 v18 x2.toNatClampNeg y20) hi)
set_option maxHeartbeats 4000000 in
set_option maxRecDepth 100000 in
theorem ctX2_own {l : Launch} {G : pm_Gl} {h : pm_H} {a0 : Nat} {p1 : Int32} {r : pm_H} {Qr : Option Value → pm_H → Prop} (hf : fX2_own h a0 p1 = some r) (q : Qr none r) : pm_Ct l G mX2_own [.ref a0, .int p1] h 0 0 Qr := by
  refine pm_body pnX2 (Nat.le_of_ble_eq_true rfl) (fun g C X => ?_)
  have C : pm_C g cX2_own RX2 := C
  show pm_G g 0 [(0, .ref a0), (1, .int p1)] [] h 0 0
  unfold fX2_own at hf
  refine pm_iconst (v := 0) C dX2_own_0 (by decide) ?_
  refine pm_istore_n (lv' := [(2, .int 0), (0, .ref a0), (1, .int p1)]) C dX2_own_1 rfl (pm_nl X (by decide)) rfl ?_
  obtain ⟨n, hn⟩ := pm_lim_iter hf
  exact pm_sub [1, 2, 0] rfl ((lpX2_own C X q n) a0 p1 0 h hn)
theorem dX2_plain_0 : decode cX2_plain 0 = .ok (.aload_n 0, 1) := by decide +kernel
theorem dX2_plain_1 : decode cX2_plain 1 = .ok (.getfield 34, 3) := by decide +kernel
theorem dX2_plain_4 : decode cX2_plain 4 = .ok (.iload_n 1, 1) := by decide +kernel
theorem dX2_plain_5 : decode cX2_plain 5 = .ok (.iconst 3, 1) := by decide +kernel
theorem dX2_plain_6 : decode cX2_plain 6 = .ok (.invokevirtual 89, 3) := by decide +kernel
theorem dX2_plain_9 : decode cX2_plain 9 = .ok (.istore 4, 2) := by decide +kernel
theorem dX2_plain_11 : decode cX2_plain 11 = .ok (.iload_n 3, 1) := by decide +kernel
theorem dX2_plain_12 : decode cX2_plain 12 = .ok (.iload 4, 2) := by decide +kernel
theorem dX2_plain_14 : decode cX2_plain 14 = .ok (.iconst 1, 1) := by decide +kernel
theorem dX2_plain_15 : decode cX2_plain 15 = .ok (.ishr, 1) := by decide +kernel
theorem dX2_plain_16 : decode cX2_plain 16 = .ok (.isub, 1) := by decide +kernel
theorem dX2_plain_17 : decode cX2_plain 17 = .ok (.istore 5, 2) := by decide +kernel
theorem dX2_plain_19 : decode cX2_plain 19 = .ok (.aload_n 0, 1) := by decide +kernel
theorem dX2_plain_20 : decode cX2_plain 20 = .ok (.iload_n 2, 1) := by decide +kernel
theorem dX2_plain_21 : decode cX2_plain 21 = .ok (.iconst 1, 1) := by decide +kernel
theorem dX2_plain_22 : decode cX2_plain 22 = .ok (.invokevirtual 105, 3) := by decide +kernel
theorem dX2_plain_25 : decode cX2_plain 25 = .ok (.istore 6, 2) := by decide +kernel
theorem dX2_plain_27 : decode cX2_plain 27 = .ok (.iload 4, 2) := by decide +kernel
theorem dX2_plain_29 : decode cX2_plain 29 = .ok (.iconst 1, 1) := by decide +kernel
theorem dX2_plain_30 : decode cX2_plain 30 = .ok (.iand, 1) := by decide +kernel
theorem dX2_plain_31 : decode cX2_plain 31 = .ok (.ifCond .eq 7, 3) := by decide +kernel
theorem dX2_plain_34 : decode cX2_plain 34 = .ok (.iconst 1, 1) := by decide +kernel
theorem dX2_plain_35 : decode cX2_plain 35 = .ok (.goto 4, 3) := by decide +kernel
theorem dX2_plain_38 : decode cX2_plain 38 = .ok (.iconst 0, 1) := by decide +kernel
theorem dX2_plain_39 : decode cX2_plain 39 = .ok (.istore 7, 2) := by decide +kernel
theorem dX2_plain_41 : decode cX2_plain 41 = .ok (.aload_n 0, 1) := by decide +kernel
theorem dX2_plain_42 : decode cX2_plain 42 = .ok (.getfield 16, 3) := by decide +kernel
theorem dX2_plain_45 : decode cX2_plain 45 = .ok (.iload 6, 2) := by decide +kernel
theorem dX2_plain_47 : decode cX2_plain 47 = .ok (.iconst 2, 1) := by decide +kernel
theorem dX2_plain_48 : decode cX2_plain 48 = .ok (.iadd, 1) := by decide +kernel
theorem dX2_plain_49 : decode cX2_plain 49 = .ok (.iload 7, 2) := by decide +kernel
theorem dX2_plain_51 : decode cX2_plain 51 = .ok (.ifCond .eq 13, 3) := by decide +kernel
theorem dX2_plain_54 : decode cX2_plain 54 = .ok (.aload_n 0, 1) := by decide +kernel
theorem dX2_plain_55 : decode cX2_plain 55 = .ok (.getfield 50, 3) := by decide +kernel
theorem dX2_plain_58 : decode cX2_plain 58 = .ok (.iload 5, 2) := by decide +kernel
theorem dX2_plain_60 : decode cX2_plain 60 = .ok (.iadd, 1) := by decide +kernel
theorem dX2_plain_61 : decode cX2_plain 61 = .ok (.goto 4, 3) := by decide +kernel
theorem dX2_plain_64 : decode cX2_plain 64 = .ok (.iconst (-1), 1) := by decide +kernel
theorem dX2_plain_65 : decode cX2_plain 65 = .ok (.invokestatic 101, 3) := by decide +kernel
theorem dX2_plain_68 : decode cX2_plain 68 = .ok (.iconst 0, 1) := by decide +kernel
theorem dX2_plain_69 : decode cX2_plain 69 = .ok (.istore 8, 2) := by decide +kernel
theorem dX2_plain_71 : decode cX2_plain 71 = .ok (.iload 8, 2) := by decide +kernel
theorem dX2_plain_73 : decode cX2_plain 73 = .ok (.iload 4, 2) := by decide +kernel
theorem dX2_plain_75 : decode cX2_plain 75 = .ok (.iconst 1, 1) := by decide +kernel
theorem dX2_plain_76 : decode cX2_plain 76 = .ok (.ishr, 1) := by decide +kernel
theorem dX2_plain_77 : decode cX2_plain 77 = .ok (.if_icmp .ge 32, 3) := by decide +kernel
theorem dX2_plain_80 : decode cX2_plain 80 = .ok (.aload_n 0, 1) := by decide +kernel
theorem dX2_plain_81 : decode cX2_plain 81 = .ok (.getfield 16, 3) := by decide +kernel
theorem dX2_plain_84 : decode cX2_plain 84 = .ok (.iload 6, 2) := by decide +kernel
theorem dX2_plain_86 : decode cX2_plain 86 = .ok (.iconst 3, 1) := by decide +kernel
theorem dX2_plain_87 : decode cX2_plain 87 = .ok (.iadd, 1) := by decide +kernel
theorem dX2_plain_88 : decode cX2_plain 88 = .ok (.iload 8, 2) := by decide +kernel
theorem dX2_plain_90 : decode cX2_plain 90 = .ok (.iadd, 1) := by decide +kernel
theorem dX2_plain_91 : decode cX2_plain 91 = .ok (.aload_n 0, 1) := by decide +kernel
theorem dX2_plain_92 : decode cX2_plain 92 = .ok (.iload 5, 2) := by decide +kernel
theorem dX2_plain_94 : decode cX2_plain 94 = .ok (.iload 8, 2) := by decide +kernel
theorem dX2_plain_96 : decode cX2_plain 96 = .ok (.iadd, 1) := by decide +kernel
theorem dX2_plain_97 : decode cX2_plain 97 = .ok (.invokevirtual 130, 3) := by decide +kernel
theorem dX2_plain_100 : decode cX2_plain 100 = .ok (.invokestatic 101, 3) := by decide +kernel
theorem dX2_plain_103 : decode cX2_plain 103 = .ok (.iinc 8 1, 3) := by decide +kernel
theorem dX2_plain_106 : decode cX2_plain 106 = .ok (.goto (-35), 3) := by decide +kernel
theorem dX2_plain_109 : decode cX2_plain 109 = .ok (.aload_n 0, 1) := by decide +kernel
theorem dX2_plain_110 : decode cX2_plain 110 = .ok (.getfield 16, 3) := by decide +kernel
theorem dX2_plain_113 : decode cX2_plain 113 = .ok (.iload 6, 2) := by decide +kernel
theorem dX2_plain_115 : decode cX2_plain 115 = .ok (.bipush 6, 2) := by decide +kernel
theorem dX2_plain_117 : decode cX2_plain 117 = .ok (.iadd, 1) := by decide +kernel
theorem dX2_plain_118 : decode cX2_plain 118 = .ok (.aload_n 0, 1) := by decide +kernel
theorem dX2_plain_119 : decode cX2_plain 119 = .ok (.getfield 34, 3) := by decide +kernel
theorem dX2_plain_122 : decode cX2_plain 122 = .ok (.iload_n 1, 1) := by decide +kernel
theorem dX2_plain_123 : decode cX2_plain 123 = .ok (.iconst 1, 1) := by decide +kernel
theorem dX2_plain_124 : decode cX2_plain 124 = .ok (.invokevirtual 89, 3) := by decide +kernel
theorem dX2_plain_127 : decode cX2_plain 127 = .ok (.invokestatic 101, 3) := by decide +kernel
theorem dX2_plain_130 : decode cX2_plain 130 = .ok (.aload_n 0, 1) := by decide +kernel
theorem dX2_plain_131 : decode cX2_plain 131 = .ok (.getfield 16, 3) := by decide +kernel
theorem dX2_plain_134 : decode cX2_plain 134 = .ok (.iload 6, 2) := by decide +kernel
theorem dX2_plain_136 : decode cX2_plain 136 = .ok (.bipush 7, 2) := by decide +kernel
theorem dX2_plain_138 : decode cX2_plain 138 = .ok (.iadd, 1) := by decide +kernel
theorem dX2_plain_139 : decode cX2_plain 139 = .ok (.aload_n 0, 1) := by decide +kernel
theorem dX2_plain_140 : decode cX2_plain 140 = .ok (.getfield 34, 3) := by decide +kernel
theorem dX2_plain_143 : decode cX2_plain 143 = .ok (.iload_n 1, 1) := by decide +kernel
theorem dX2_plain_144 : decode cX2_plain 144 = .ok (.iconst 2, 1) := by decide +kernel
theorem dX2_plain_145 : decode cX2_plain 145 = .ok (.invokevirtual 89, 3) := by decide +kernel
theorem dX2_plain_148 : decode cX2_plain 148 = .ok (.invokestatic 101, 3) := by decide +kernel
theorem dX2_plain_151 : decode cX2_plain 151 = .ok (.iload 7, 2) := by decide +kernel
theorem dX2_plain_153 : decode cX2_plain 153 = .ok (.ifCond .eq 19, 3) := by decide +kernel
theorem dX2_plain_156 : decode cX2_plain 156 = .ok (.aload_n 0, 1) := by decide +kernel
theorem dX2_plain_157 : decode cX2_plain 157 = .ok (.getfield 31, 3) := by decide +kernel
theorem dX2_plain_160 : decode cX2_plain 160 = .ok (.iload 5, 2) := by decide +kernel
theorem dX2_plain_162 : decode cX2_plain 162 = .ok (.aload_n 0, 1) := by decide +kernel
theorem dX2_plain_163 : decode cX2_plain 163 = .ok (.getfield 50, 3) := by decide +kernel
theorem dX2_plain_166 : decode cX2_plain 166 = .ok (.iload 5, 2) := by decide +kernel
theorem dX2_plain_168 : decode cX2_plain 168 = .ok (.iadd, 1) := by decide +kernel
theorem dX2_plain_169 : decode cX2_plain 169 = .ok (.invokestatic 101, 3) := by decide +kernel
theorem dX2_plain_172 : decode cX2_plain 172 = .ok (.iload_n 2, 1) := by decide +kernel
theorem dX2_plain_173 : decode cX2_plain 173 = .ok (.ifCond .ne 8, 3) := by decide +kernel
theorem dX2_plain_176 : decode cX2_plain 176 = .ok (.aload_n 0, 1) := by decide +kernel
theorem dX2_plain_177 : decode cX2_plain 177 = .ok (.iconst 0, 1) := by decide +kernel
theorem dX2_plain_178 : decode cX2_plain 178 = .ok (.putfield 63, 3) := by decide +kernel
theorem dX2_plain_181 : decode cX2_plain 181 = .ok (.return_, 1) := by decide +kernel
def tX2_plain_71 (x0 : Nat) (x1 : Int32) (x2 : Int32) (x4 : Int32) (x5 : Int32) (x6 : Int32) (x7 : Int32) (x8 : Int32) (h : pm_H) : Option (((Nat × Int32 × Int32 × Int32 × Int32 × Int32 × Int32 × Int32 × pm_H)) ⊕ pm_H) := if (x4 >>> ((1 : Int32) &&& 31)) ≤ x8 then (if pm_kd h x0 = 2 then (pm_R h x0 3).bind fun v30 => (pm_R h x0 1).bind fun v32 => if pm_kd h v32 = 0 then (fX0_of h v32 x1 1).bind fun v35 => (fX12_setItem h v30 (x6 + 6) v35).bind fun v37 => if pm_kd v37 x0 = 2 then (pm_R v37 x0 3).bind fun v40 => (pm_R v37 x0 1).bind fun v42 => if pm_kd v37 v42 = 0 then (fX0_of v37 v42 x1 2).bind fun v45 => (fX12_setItem v37 v40 (x6 + 7) v45).bind fun v47 => if x7 = 0 then (if x2 = 0 then (if pm_kd v47 x0 = 2 then some (.inr (pm_setI v47 x0 12 0)) else none) else (some (.inr (v47)))) else (if pm_kd v47 x0 = 2 then (pm_R v47 x0 10).bind fun v53 => (fX12_setItem v47 v53 x5 ((pm_I v47 x0 2) + x5)).bind fun v55 => if x2 = 0 then (if pm_kd v55 x0 = 2 then some (.inr (pm_setI v55 x0 12 0)) else none) else (some (.inr (v55))) else none) else none else none else none else none) else (if pm_kd h x0 = 2 then (pm_R h x0 3).bind fun v60 => (fX2_heldAt h x0 (x5 + x8)).bind fun v62 => (fX12_setItem h v60 ((x6 + 3) + x8) v62).bind fun v64 => pm_let (x8 + 1) fun y66 => some (.inl ((x0, x1, x2, x4, x5, x6, x7, y66, v64))) else none)
def sX2_plain : ((Nat × Int32 × Int32 × Int32 × Int32 × Int32 × Int32 × Int32 × pm_H)) → Option (((Nat × Int32 × Int32 × Int32 × Int32 × Int32 × Int32 × Int32 × pm_H)) ⊕ pm_H) := fun z => match z with
  | (x0, x1, x2, x4, x5, x6, x7, x8, h) => tX2_plain_71 x0 x1 x2 x4 x5 x6 x7 x8 h
noncomputable def fX2_plain (h : pm_H) (a0 : Nat) (p1 : Int32) (p2 : Int32) (p3 : Int32) : Option pm_H := if pm_kd h a0 = 2 then (pm_R h a0 1).bind fun v2 => if pm_kd h v2 = 0 then (fX0_of h v2 p1 3).bind fun v5 => pm_let (p3 - (v5 >>> ((1 : Int32) &&& 31))) fun y7 => (fX2_emit h a0 p2 1).bind fun v9 => if (v5 &&& 1) = 0 then (if pm_kd v9.2 a0 = 2 then (pm_R v9.2 a0 3).bind fun v13 => if (0 : Int32) = (0 : Int32) then ((fX12_setItem v9.2 v13 (v9.1 + 2) (-1)).bind fun v16 => pm_lim sX2_plain ((a0, p1, p2, v5, y7, v9.1, 0, 0, v16))) else ((fX12_setItem v9.2 v13 (v9.1 + 2) ((pm_I v9.2 a0 2) + y7)).bind fun v18 => pm_lim sX2_plain ((a0, p1, p2, v5, y7, v9.1, 0, 0, v18))) else none) else (if pm_kd v9.2 a0 = 2 then (pm_R v9.2 a0 3).bind fun v21 => if (1 : Int32) = (0 : Int32) then ((fX12_setItem v9.2 v21 (v9.1 + 2) (-1)).bind fun v24 => pm_lim sX2_plain ((a0, p1, p2, v5, y7, v9.1, 1, 0, v24))) else ((fX12_setItem v9.2 v21 (v9.1 + 2) ((pm_I v9.2 a0 2) + y7)).bind fun v26 => pm_lim sX2_plain ((a0, p1, p2, v5, y7, v9.1, 1, 0, v26))) else none) else none else none
set_option maxHeartbeats 4000000 in
set_option maxRecDepth 100000 in
theorem lpX2_plain {g : pm_Gm} {l : Launch} {G : pm_Gl} {Qr : Option Value → pm_H → Prop} (C : pm_C g cX2_plain RX2) (X : pm_X g l G mX2_plain 0 0 Qr) {r : pm_H} (q : Qr none r) : ∀ n : Nat, (∀ (x0 : Nat) (x1 : Int32) (x2 : Int32) (x4 : Int32) (x5 : Int32) (x6 : Int32) (x7 : Int32) (x8 : Int32) (h : pm_H), pm_iter sX2_plain n (x0, x1, x2, x4, x5, x6, x7, x8, h) = some r → pm_G g 71 [(0, .ref x0), (1, .int x1), (2, .int x2), (4, .int x4), (5, .int x5), (6, .int x6), (7, .int x7), (8, .int x8)] [] h 0 0) := by
  intro n
  induction n with
  | zero => exact fun _ _ _ _ _ _ _ _ _ hf => (by cases hf)
  | succ n ih =>
    refine fun x0 x1 x2 x4 x5 x6 x7 x8 h hf => ?_
    obtain ⟨y, hf, hi⟩ := pm_iter_s hf
    have hf : tX2_plain_71 x0 x1 x2 x4 x5 x6 x7 x8 h = some y := hf
    unfold tX2_plain_71 at hf
    refine pm_iload C dX2_plain_71 rfl ?_
    refine pm_iload C dX2_plain_73 rfl ?_
    refine pm_iconst (v := 1) C dX2_plain_75 (by decide) ?_
    refine pm_ishr C dX2_plain_76 ?_
    refine pm_icmp_ge (tgt := 109) C dX2_plain_77 (by decide) (fun c28 => ?_) (fun c28 => ?_)
    · have hf := pm_it hf c28
      refine pm_aload_n C dX2_plain_109 rfl rfl ?_
      obtain ⟨k29, hf⟩ := pm_if hf
      obtain ⟨v30, e31, hf⟩ := pm_bd hf
      refine pm_getR C dX2_plain_110 flX2_16 rfl k29 e31 ?_
      refine pm_iload C dX2_plain_113 rfl ?_
      refine pm_bipush (v := 6) C dX2_plain_115 (by decide) ?_
      refine pm_iadd C dX2_plain_117 ?_
      refine pm_aload_n C dX2_plain_118 rfl rfl ?_
      obtain ⟨v32, e33, hf⟩ := pm_bd hf
      refine pm_getR C dX2_plain_119 flX2_34 rfl k29 e33 ?_
      refine pm_iload_n C dX2_plain_122 rfl rfl ?_
      refine pm_iconst (v := 1) C dX2_plain_123 (by decide) ?_
      obtain ⟨k34, hf⟩ := pm_if hf
      obtain ⟨v35, e36, hf⟩ := pm_bd hf
      refine pm_callV (as := [.int x1, .int 1]) (st := [.int (x6 + 6), .ref v30]) C X dX2_plain_124 lnX2_89 myX0_of viX0_of ⟨by decide, by decide⟩ rfl rfl k34 (Nat.le_of_ble_eq_true rfl) (Nat.le_refl _) (Nat.le_refl _) (ctX0_of e36 ?_)
      show pm_G g 127 [(0, .ref x0), (1, .int x1), (2, .int x2), (4, .int x4), (5, .int x5), (6, .int x6), (7, .int x7), (8, .int x8)] [.int v35, .int (x6 + 6), .ref v30] h 0 0
      obtain ⟨v37, e38, hf⟩ := pm_bd hf
      refine pm_callS (as := [.ref v30, .int (x6 + 6), .int v35]) (st := []) C X dX2_plain_127 lnX2_101 myX12_setItem stX12_setItem ⟨by decide, by decide⟩ rfl rfl (Nat.le_of_ble_eq_true rfl) (Nat.le_refl _) (Nat.le_refl _) (ctX12_setItem e38 ?_)
      show pm_G g 130 [(0, .ref x0), (1, .int x1), (2, .int x2), (4, .int x4), (5, .int x5), (6, .int x6), (7, .int x7), (8, .int x8)] [] v37 0 0
      refine pm_aload_n C dX2_plain_130 rfl rfl ?_
      obtain ⟨k39, hf⟩ := pm_if hf
      obtain ⟨v40, e41, hf⟩ := pm_bd hf
      refine pm_getR C dX2_plain_131 flX2_16 rfl k39 e41 ?_
      refine pm_iload C dX2_plain_134 rfl ?_
      refine pm_bipush (v := 7) C dX2_plain_136 (by decide) ?_
      refine pm_iadd C dX2_plain_138 ?_
      refine pm_aload_n C dX2_plain_139 rfl rfl ?_
      obtain ⟨v42, e43, hf⟩ := pm_bd hf
      refine pm_getR C dX2_plain_140 flX2_34 rfl k39 e43 ?_
      refine pm_iload_n C dX2_plain_143 rfl rfl ?_
      refine pm_iconst (v := 2) C dX2_plain_144 (by decide) ?_
      obtain ⟨k44, hf⟩ := pm_if hf
      obtain ⟨v45, e46, hf⟩ := pm_bd hf
      refine pm_callV (as := [.int x1, .int 2]) (st := [.int (x6 + 7), .ref v40]) C X dX2_plain_145 lnX2_89 myX0_of viX0_of ⟨by decide, by decide⟩ rfl rfl k44 (Nat.le_of_ble_eq_true rfl) (Nat.le_refl _) (Nat.le_refl _) (ctX0_of e46 ?_)
      show pm_G g 148 [(0, .ref x0), (1, .int x1), (2, .int x2), (4, .int x4), (5, .int x5), (6, .int x6), (7, .int x7), (8, .int x8)] [.int v45, .int (x6 + 7), .ref v40] v37 0 0
      obtain ⟨v47, e48, hf⟩ := pm_bd hf
      refine pm_callS (as := [.ref v40, .int (x6 + 7), .int v45]) (st := []) C X dX2_plain_148 lnX2_101 myX12_setItem stX12_setItem ⟨by decide, by decide⟩ rfl rfl (Nat.le_of_ble_eq_true rfl) (Nat.le_refl _) (Nat.le_refl _) (ctX12_setItem e48 ?_)
      show pm_G g 151 [(0, .ref x0), (1, .int x1), (2, .int x2), (4, .int x4), (5, .int x5), (6, .int x6), (7, .int x7), (8, .int x8)] [] v47 0 0
      refine pm_iload C dX2_plain_151 rfl ?_
      refine pm_if_eq (tgt := 172) C dX2_plain_153 (by decide) (fun c49 => ?_) (fun c49 => ?_)
      · have hf := pm_it hf c49
        refine pm_iload_n C dX2_plain_172 rfl rfl ?_
        refine pm_if_ne (tgt := 181) C dX2_plain_173 (by decide) (fun c50 => ?_) (fun c50 => ?_)
        · have hf := pm_ie hf c50
          cases hf
          cases hi
          exact pm_vret C X dX2_plain_181 rfl (Nat.le_refl _) (Nat.le_refl _) q
        · have hf := pm_it hf c50
          refine pm_aload_n C dX2_plain_176 rfl rfl ?_
          refine pm_iconst (v := 0) C dX2_plain_177 (by decide) ?_
          obtain ⟨k51, hf⟩ := pm_if hf
          refine pm_putI C dX2_plain_178 flX2_63 rfl rfl k51 (by decide) (by decide) ?_
          cases hf
          cases hi
          exact pm_vret C X dX2_plain_181 rfl (Nat.le_refl _) (Nat.le_refl _) q
      · have hf := pm_ie hf c49
        refine pm_aload_n C dX2_plain_156 rfl rfl ?_
        obtain ⟨k52, hf⟩ := pm_if hf
        obtain ⟨v53, e54, hf⟩ := pm_bd hf
        refine pm_getR C dX2_plain_157 flX2_31 rfl k52 e54 ?_
        refine pm_iload C dX2_plain_160 rfl ?_
        refine pm_aload_n C dX2_plain_162 rfl rfl ?_
        refine pm_getI C dX2_plain_163 flX2_50 rfl k52 rfl ?_
        refine pm_iload C dX2_plain_166 rfl ?_
        refine pm_iadd C dX2_plain_168 ?_
        obtain ⟨v55, e56, hf⟩ := pm_bd hf
        refine pm_callS (as := [.ref v53, .int x5, .int ((pm_I v47 x0 2) + x5)]) (st := []) C X dX2_plain_169 lnX2_101 myX12_setItem stX12_setItem ⟨by decide, by decide⟩ rfl rfl (Nat.le_of_ble_eq_true rfl) (Nat.le_refl _) (Nat.le_refl _) (ctX12_setItem e56 ?_)
        show pm_G g 172 [(0, .ref x0), (1, .int x1), (2, .int x2), (4, .int x4), (5, .int x5), (6, .int x6), (7, .int x7), (8, .int x8)] [] v55 0 0
        refine pm_iload_n C dX2_plain_172 rfl rfl ?_
        refine pm_if_ne (tgt := 181) C dX2_plain_173 (by decide) (fun c57 => ?_) (fun c57 => ?_)
        · have hf := pm_ie hf c57
          cases hf
          cases hi
          exact pm_vret C X dX2_plain_181 rfl (Nat.le_refl _) (Nat.le_refl _) q
        · have hf := pm_it hf c57
          refine pm_aload_n C dX2_plain_176 rfl rfl ?_
          refine pm_iconst (v := 0) C dX2_plain_177 (by decide) ?_
          obtain ⟨k58, hf⟩ := pm_if hf
          refine pm_putI C dX2_plain_178 flX2_63 rfl rfl k58 (by decide) (by decide) ?_
          cases hf
          cases hi
          exact pm_vret C X dX2_plain_181 rfl (Nat.le_refl _) (Nat.le_refl _) q
    · have hf := pm_ie hf c28
      refine pm_aload_n C dX2_plain_80 rfl rfl ?_
      obtain ⟨k59, hf⟩ := pm_if hf
      obtain ⟨v60, e61, hf⟩ := pm_bd hf
      refine pm_getR C dX2_plain_81 flX2_16 rfl k59 e61 ?_
      refine pm_iload C dX2_plain_84 rfl ?_
      refine pm_iconst (v := 3) C dX2_plain_86 (by decide) ?_
      refine pm_iadd C dX2_plain_87 ?_
      refine pm_iload C dX2_plain_88 rfl ?_
      refine pm_iadd C dX2_plain_90 ?_
      refine pm_aload_n C dX2_plain_91 rfl rfl ?_
      refine pm_iload C dX2_plain_92 rfl ?_
      refine pm_iload C dX2_plain_94 rfl ?_
      refine pm_iadd C dX2_plain_96 ?_
      obtain ⟨v62, e63, hf⟩ := pm_bd hf
      refine pm_callV (as := [.int (x5 + x8)]) (st := [.int ((x6 + 3) + x8), .ref v60]) C X dX2_plain_97 lnX2_130 myX2_heldAt viX2_heldAt ⟨by decide, by decide⟩ rfl rfl k59 (Nat.le_of_ble_eq_true rfl) (Nat.le_refl _) (Nat.le_refl _) (ctX2_heldAt e63 ?_)
      show pm_G g 100 [(0, .ref x0), (1, .int x1), (2, .int x2), (4, .int x4), (5, .int x5), (6, .int x6), (7, .int x7), (8, .int x8)] [.int v62, .int ((x6 + 3) + x8), .ref v60] h 0 0
      obtain ⟨v64, e65, hf⟩ := pm_bd hf
      refine pm_callS (as := [.ref v60, .int ((x6 + 3) + x8), .int v62]) (st := []) C X dX2_plain_100 lnX2_101 myX12_setItem stX12_setItem ⟨by decide, by decide⟩ rfl rfl (Nat.le_of_ble_eq_true rfl) (Nat.le_refl _) (Nat.le_refl _) (ctX12_setItem e65 ?_)
      show pm_G g 103 [(0, .ref x0), (1, .int x1), (2, .int x2), (4, .int x4), (5, .int x5), (6, .int x6), (7, .int x7), (8, .int x8)] [] v64 0 0
      obtain ⟨y66, e67, hf⟩ := pm_lt hf
      refine pm_iinc (v := y66) (lv' := [(8, .int y66), (0, .ref x0), (1, .int x1), (2, .int x2), (4, .int x4), (5, .int x5), (6, .int x6), (7, .int x7)]) C dX2_plain_103 rfl ((congrArg (x8 + ·) (by decide : Int32.ofInt 1 = 1)).trans e67) (pm_nl X (by decide)) rfl ?_
      refine pm_goto (tgt := 71) C dX2_plain_106 (by decide) ?_
      cases hf
      exact pm_sub [1, 2, 3, 4, 5, 6, 7, 0] rfl (ih x0 x1 x2 x4 x5 x6 x7 y66 v64 hi)
set_option maxHeartbeats 4000000 in
set_option maxRecDepth 100000 in
theorem ctX2_plain {l : Launch} {G : pm_Gl} {h : pm_H} {a0 : Nat} {p1 : Int32} {p2 : Int32} {p3 : Int32} {r : pm_H} {Qr : Option Value → pm_H → Prop} (hf : fX2_plain h a0 p1 p2 p3 = some r) (q : Qr none r) : pm_Ct l G mX2_plain [.ref a0, .int p1, .int p2, .int p3] h 0 0 Qr := by
  refine pm_body pnX2 (Nat.le_of_ble_eq_true rfl) (fun g C X => ?_)
  have C : pm_C g cX2_plain RX2 := C
  show pm_G g 0 [(0, .ref a0), (1, .int p1), (2, .int p2), (3, .int p3)] [] h 0 0
  unfold fX2_plain at hf
  refine pm_aload_n C dX2_plain_0 rfl rfl ?_
  obtain ⟨k1, hf⟩ := pm_if hf
  obtain ⟨v2, e3, hf⟩ := pm_bd hf
  refine pm_getR C dX2_plain_1 flX2_34 rfl k1 e3 ?_
  refine pm_iload_n C dX2_plain_4 rfl rfl ?_
  refine pm_iconst (v := 3) C dX2_plain_5 (by decide) ?_
  obtain ⟨k4, hf⟩ := pm_if hf
  obtain ⟨v5, e6, hf⟩ := pm_bd hf
  refine pm_callV (as := [.int p1, .int 3]) (st := []) C X dX2_plain_6 lnX2_89 myX0_of viX0_of ⟨by decide, by decide⟩ rfl rfl k4 (Nat.le_of_ble_eq_true rfl) (Nat.le_refl _) (Nat.le_refl _) (ctX0_of e6 ?_)
  show pm_G g 9 [(0, .ref a0), (1, .int p1), (2, .int p2), (3, .int p3)] [.int v5] h 0 0
  refine pm_istore (lv' := [(4, .int v5), (0, .ref a0), (1, .int p1), (2, .int p2), (3, .int p3)]) C dX2_plain_9 (pm_nl X (by decide)) rfl ?_
  refine pm_iload_n C dX2_plain_11 rfl rfl ?_
  refine pm_iload C dX2_plain_12 rfl ?_
  refine pm_iconst (v := 1) C dX2_plain_14 (by decide) ?_
  refine pm_ishr C dX2_plain_15 ?_
  refine pm_isub C dX2_plain_16 ?_
  obtain ⟨y7, e8, hf⟩ := pm_lt hf
  refine pm_topI e8 ?_
  refine pm_istore (lv' := [(5, .int y7), (4, .int v5), (0, .ref a0), (1, .int p1), (2, .int p2), (3, .int p3)]) C dX2_plain_17 (pm_nl X (by decide)) rfl ?_
  refine pm_aload_n C dX2_plain_19 rfl rfl ?_
  refine pm_iload_n C dX2_plain_20 rfl rfl ?_
  refine pm_iconst (v := 1) C dX2_plain_21 (by decide) ?_
  obtain ⟨v9, e10, hf⟩ := pm_bd hf
  refine pm_callV (as := [.int p2, .int 1]) (st := []) C X dX2_plain_22 lnX2_105 myX2_emit viX2_emit ⟨by decide, by decide⟩ rfl rfl k1 (Nat.le_of_ble_eq_true rfl) (Nat.le_refl _) (Nat.le_refl _) (ctX2_emit e10 ?_)
  show pm_G g 25 [(5, .int y7), (4, .int v5), (0, .ref a0), (1, .int p1), (2, .int p2), (3, .int p3)] [.int v9.1] v9.2 0 0
  refine pm_istore (lv' := [(6, .int v9.1), (5, .int y7), (4, .int v5), (0, .ref a0), (1, .int p1), (2, .int p2), (3, .int p3)]) C dX2_plain_25 (pm_nl X (by decide)) rfl ?_
  refine pm_iload C dX2_plain_27 rfl ?_
  refine pm_iconst (v := 1) C dX2_plain_29 (by decide) ?_
  refine pm_iand C dX2_plain_30 ?_
  refine pm_if_eq (tgt := 38) C dX2_plain_31 (by decide) (fun c11 => ?_) (fun c11 => ?_)
  · have hf := pm_it hf c11
    refine pm_iconst (v := 0) C dX2_plain_38 (by decide) ?_
    refine pm_istore (lv' := [(7, .int 0), (6, .int v9.1), (5, .int y7), (4, .int v5), (0, .ref a0), (1, .int p1), (2, .int p2), (3, .int p3)]) C dX2_plain_39 (pm_nl X (by decide)) rfl ?_
    refine pm_aload_n C dX2_plain_41 rfl rfl ?_
    obtain ⟨k12, hf⟩ := pm_if hf
    obtain ⟨v13, e14, hf⟩ := pm_bd hf
    refine pm_getR C dX2_plain_42 flX2_16 rfl k12 e14 ?_
    refine pm_iload C dX2_plain_45 rfl ?_
    refine pm_iconst (v := 2) C dX2_plain_47 (by decide) ?_
    refine pm_iadd C dX2_plain_48 ?_
    refine pm_iload C dX2_plain_49 rfl ?_
    refine pm_if_eq (tgt := 64) C dX2_plain_51 (by decide) (fun c15 => ?_) (fun c15 => ?_)
    · have hf := pm_it hf c15
      refine pm_iconst (v := (-1)) C dX2_plain_64 (by decide) ?_
      obtain ⟨v16, e17, hf⟩ := pm_bd hf
      refine pm_callS (as := [.ref v13, .int (v9.1 + 2), .int (-1)]) (st := []) C X dX2_plain_65 lnX2_101 myX12_setItem stX12_setItem ⟨by decide, by decide⟩ rfl rfl (Nat.le_of_ble_eq_true rfl) (Nat.le_refl _) (Nat.le_refl _) (ctX12_setItem e17 ?_)
      show pm_G g 68 [(7, .int 0), (6, .int v9.1), (5, .int y7), (4, .int v5), (0, .ref a0), (1, .int p1), (2, .int p2), (3, .int p3)] [] v16 0 0
      refine pm_iconst (v := 0) C dX2_plain_68 (by decide) ?_
      refine pm_istore (lv' := [(8, .int 0), (7, .int 0), (6, .int v9.1), (5, .int y7), (4, .int v5), (0, .ref a0), (1, .int p1), (2, .int p2), (3, .int p3)]) C dX2_plain_69 (pm_nl X (by decide)) rfl ?_
      obtain ⟨n, hn⟩ := pm_lim_iter hf
      exact pm_sub [5, 6, 7, 4, 3, 2, 1, 0] rfl ((lpX2_plain C X q n) a0 p1 p2 v5 y7 v9.1 0 0 v16 hn)
    · have hf := pm_ie hf c15
      refine pm_aload_n C dX2_plain_54 rfl rfl ?_
      refine pm_getI C dX2_plain_55 flX2_50 rfl k12 rfl ?_
      refine pm_iload C dX2_plain_58 rfl ?_
      refine pm_iadd C dX2_plain_60 ?_
      refine pm_goto (tgt := 65) C dX2_plain_61 (by decide) ?_
      obtain ⟨v18, e19, hf⟩ := pm_bd hf
      refine pm_callS (as := [.ref v13, .int (v9.1 + 2), .int ((pm_I v9.2 a0 2) + y7)]) (st := []) C X dX2_plain_65 lnX2_101 myX12_setItem stX12_setItem ⟨by decide, by decide⟩ rfl rfl (Nat.le_of_ble_eq_true rfl) (Nat.le_refl _) (Nat.le_refl _) (ctX12_setItem e19 ?_)
      show pm_G g 68 [(7, .int 0), (6, .int v9.1), (5, .int y7), (4, .int v5), (0, .ref a0), (1, .int p1), (2, .int p2), (3, .int p3)] [] v18 0 0
      refine pm_iconst (v := 0) C dX2_plain_68 (by decide) ?_
      refine pm_istore (lv' := [(8, .int 0), (7, .int 0), (6, .int v9.1), (5, .int y7), (4, .int v5), (0, .ref a0), (1, .int p1), (2, .int p2), (3, .int p3)]) C dX2_plain_69 (pm_nl X (by decide)) rfl ?_
      obtain ⟨n, hn⟩ := pm_lim_iter hf
      exact pm_sub [5, 6, 7, 4, 3, 2, 1, 0] rfl ((lpX2_plain C X q n) a0 p1 p2 v5 y7 v9.1 0 0 v18 hn)
  · have hf := pm_ie hf c11
    refine pm_iconst (v := 1) C dX2_plain_34 (by decide) ?_
    refine pm_goto (tgt := 39) C dX2_plain_35 (by decide) ?_
    refine pm_istore (lv' := [(7, .int 1), (6, .int v9.1), (5, .int y7), (4, .int v5), (0, .ref a0), (1, .int p1), (2, .int p2), (3, .int p3)]) C dX2_plain_39 (pm_nl X (by decide)) rfl ?_
    refine pm_aload_n C dX2_plain_41 rfl rfl ?_
    obtain ⟨k20, hf⟩ := pm_if hf
    obtain ⟨v21, e22, hf⟩ := pm_bd hf
    refine pm_getR C dX2_plain_42 flX2_16 rfl k20 e22 ?_
    refine pm_iload C dX2_plain_45 rfl ?_
    refine pm_iconst (v := 2) C dX2_plain_47 (by decide) ?_
    refine pm_iadd C dX2_plain_48 ?_
    refine pm_iload C dX2_plain_49 rfl ?_
    refine pm_if_eq (tgt := 64) C dX2_plain_51 (by decide) (fun c23 => ?_) (fun c23 => ?_)
    · have hf := pm_it hf c23
      refine pm_iconst (v := (-1)) C dX2_plain_64 (by decide) ?_
      obtain ⟨v24, e25, hf⟩ := pm_bd hf
      refine pm_callS (as := [.ref v21, .int (v9.1 + 2), .int (-1)]) (st := []) C X dX2_plain_65 lnX2_101 myX12_setItem stX12_setItem ⟨by decide, by decide⟩ rfl rfl (Nat.le_of_ble_eq_true rfl) (Nat.le_refl _) (Nat.le_refl _) (ctX12_setItem e25 ?_)
      show pm_G g 68 [(7, .int 1), (6, .int v9.1), (5, .int y7), (4, .int v5), (0, .ref a0), (1, .int p1), (2, .int p2), (3, .int p3)] [] v24 0 0
      refine pm_iconst (v := 0) C dX2_plain_68 (by decide) ?_
      refine pm_istore (lv' := [(8, .int 0), (7, .int 1), (6, .int v9.1), (5, .int y7), (4, .int v5), (0, .ref a0), (1, .int p1), (2, .int p2), (3, .int p3)]) C dX2_plain_69 (pm_nl X (by decide)) rfl ?_
      obtain ⟨n, hn⟩ := pm_lim_iter hf
      exact pm_sub [5, 6, 7, 4, 3, 2, 1, 0] rfl ((lpX2_plain C X q n) a0 p1 p2 v5 y7 v9.1 1 0 v24 hn)
    · have hf := pm_ie hf c23
      refine pm_aload_n C dX2_plain_54 rfl rfl ?_
      refine pm_getI C dX2_plain_55 flX2_50 rfl k20 rfl ?_
      refine pm_iload C dX2_plain_58 rfl ?_
      refine pm_iadd C dX2_plain_60 ?_
      refine pm_goto (tgt := 65) C dX2_plain_61 (by decide) ?_
      obtain ⟨v26, e27, hf⟩ := pm_bd hf
      refine pm_callS (as := [.ref v21, .int (v9.1 + 2), .int ((pm_I v9.2 a0 2) + y7)]) (st := []) C X dX2_plain_65 lnX2_101 myX12_setItem stX12_setItem ⟨by decide, by decide⟩ rfl rfl (Nat.le_of_ble_eq_true rfl) (Nat.le_refl _) (Nat.le_refl _) (ctX12_setItem e27 ?_)
      show pm_G g 68 [(7, .int 1), (6, .int v9.1), (5, .int y7), (4, .int v5), (0, .ref a0), (1, .int p1), (2, .int p2), (3, .int p3)] [] v26 0 0
      refine pm_iconst (v := 0) C dX2_plain_68 (by decide) ?_
      refine pm_istore (lv' := [(8, .int 0), (7, .int 1), (6, .int v9.1), (5, .int y7), (4, .int v5), (0, .ref a0), (1, .int p1), (2, .int p2), (3, .int p3)]) C dX2_plain_69 (pm_nl X (by decide)) rfl ?_
      obtain ⟨n, hn⟩ := pm_lim_iter hf
      exact pm_sub [5, 6, 7, 4, 3, 2, 1, 0] rfl ((lpX2_plain C X q n) a0 p1 p2 v5 y7 v9.1 1 0 v26 hn)
