theorem dX10_countFrame_0 : decode cX10_countFrame 0 = .ok (.iload_n 1, 1) := by decide +kernel
theorem dX10_countFrame_1 : decode cX10_countFrame 1 = .ok (.ifCond .lt 10, 3) := by decide +kernel
theorem dX10_countFrame_4 : decode cX10_countFrame 4 = .ok (.iload_n 1, 1) := by decide +kernel
theorem dX10_countFrame_5 : decode cX10_countFrame 5 = .ok (.sipush 512, 3) := by decide +kernel
theorem dX10_countFrame_8 : decode cX10_countFrame 8 = .ok (.if_icmp .lt 5, 3) := by decide +kernel
theorem dX10_countFrame_11 : decode cX10_countFrame 11 = .ok (.iconst 0, 1) := by decide +kernel
theorem dX10_countFrame_12 : decode cX10_countFrame 12 = .ok (.ireturn, 1) := by decide +kernel
theorem dX10_countFrame_13 : decode cX10_countFrame 13 = .ok (.aload_n 0, 1) := by decide +kernel
theorem dX10_countFrame_14 : decode cX10_countFrame 14 = .ok (.getfield 52, 3) := by decide +kernel
theorem dX10_countFrame_17 : decode cX10_countFrame 17 = .ok (.iload_n 1, 1) := by decide +kernel
theorem dX10_countFrame_18 : decode cX10_countFrame 18 = .ok (.dup2, 1) := by decide +kernel
theorem dX10_countFrame_19 : decode cX10_countFrame 19 = .ok (.iaload, 1) := by decide +kernel
theorem dX10_countFrame_20 : decode cX10_countFrame 20 = .ok (.iconst 1, 1) := by decide +kernel
theorem dX10_countFrame_21 : decode cX10_countFrame 21 = .ok (.iadd, 1) := by decide +kernel
theorem dX10_countFrame_22 : decode cX10_countFrame 22 = .ok (.iastore, 1) := by decide +kernel
theorem dX10_countFrame_23 : decode cX10_countFrame 23 = .ok (.aload_n 0, 1) := by decide +kernel
theorem dX10_countFrame_24 : decode cX10_countFrame 24 = .ok (.getfield 55, 3) := by decide +kernel
theorem dX10_countFrame_27 : decode cX10_countFrame 27 = .ok (.iload_n 1, 1) := by decide +kernel
theorem dX10_countFrame_28 : decode cX10_countFrame 28 = .ok (.baload, 1) := by decide +kernel
theorem dX10_countFrame_29 : decode cX10_countFrame 29 = .ok (.ifCond .ne 34, 3) := by decide +kernel
theorem dX10_countFrame_32 : decode cX10_countFrame 32 = .ok (.iload_n 2, 1) := by decide +kernel
theorem dX10_countFrame_33 : decode cX10_countFrame 33 = .ok (.ifCond .le 30, 3) := by decide +kernel
theorem dX10_countFrame_36 : decode cX10_countFrame 36 = .ok (.aload_n 0, 1) := by decide +kernel
theorem dX10_countFrame_37 : decode cX10_countFrame 37 = .ok (.getfield 52, 3) := by decide +kernel
theorem dX10_countFrame_40 : decode cX10_countFrame 40 = .ok (.iload_n 1, 1) := by decide +kernel
theorem dX10_countFrame_41 : decode cX10_countFrame 41 = .ok (.iaload, 1) := by decide +kernel
theorem dX10_countFrame_42 : decode cX10_countFrame 42 = .ok (.iload_n 2, 1) := by decide +kernel
theorem dX10_countFrame_43 : decode cX10_countFrame 43 = .ok (.if_icmp .lt 20, 3) := by decide +kernel
theorem dX10_countFrame_46 : decode cX10_countFrame 46 = .ok (.aload_n 0, 1) := by decide +kernel
theorem dX10_countFrame_47 : decode cX10_countFrame 47 = .ok (.getfield 55, 3) := by decide +kernel
theorem dX10_countFrame_50 : decode cX10_countFrame 50 = .ok (.iload_n 1, 1) := by decide +kernel
theorem dX10_countFrame_51 : decode cX10_countFrame 51 = .ok (.iconst 1, 1) := by decide +kernel
theorem dX10_countFrame_52 : decode cX10_countFrame 52 = .ok (.bastore, 1) := by decide +kernel
theorem dX10_countFrame_53 : decode cX10_countFrame 53 = .ok (.aload_n 0, 1) := by decide +kernel
theorem dX10_countFrame_54 : decode cX10_countFrame 54 = .ok (.dup, 1) := by decide +kernel
theorem dX10_countFrame_55 : decode cX10_countFrame 55 = .ok (.getfield 96, 3) := by decide +kernel
theorem dX10_countFrame_58 : decode cX10_countFrame 58 = .ok (.iconst 1, 1) := by decide +kernel
theorem dX10_countFrame_59 : decode cX10_countFrame 59 = .ok (.iadd, 1) := by decide +kernel
theorem dX10_countFrame_60 : decode cX10_countFrame 60 = .ok (.putfield 96, 3) := by decide +kernel
theorem dX10_countFrame_63 : decode cX10_countFrame 63 = .ok (.aload_n 0, 1) := by decide +kernel
theorem dX10_countFrame_64 : decode cX10_countFrame 64 = .ok (.getfield 55, 3) := by decide +kernel
theorem dX10_countFrame_67 : decode cX10_countFrame 67 = .ok (.iload_n 1, 1) := by decide +kernel
theorem dX10_countFrame_68 : decode cX10_countFrame 68 = .ok (.baload, 1) := by decide +kernel
theorem dX10_countFrame_69 : decode cX10_countFrame 69 = .ok (.ireturn, 1) := by decide +kernel
def fX10_countFrame (h : pm_H) (a0 : Nat) (p1 : Int32) (p2 : Int32) : Option (Int32 × pm_H) := if p1 < 0 then (some ((0, h))) else (if p1 < 512 then (if pm_kd h a0 = 10 then (pm_R h a0 13).bind fun v4 => if pm_kd h v4 = 34 then if pm_in p1 (pm_ln h v4) then pm_let ((pm_I h v4 p1.toNatClampNeg) + 1) fun y8 => if pm_in p1 (pm_ln h v4) then (pm_R (pm_setI h v4 p1.toNatClampNeg y8) a0 14).bind fun v11 => if pm_kd (pm_setI h v4 p1.toNatClampNeg y8) v11 = 32 then if pm_in p1 (pm_ln (pm_setI h v4 p1.toNatClampNeg y8) v11) then if (pm_I (pm_setI h v4 p1.toNatClampNeg y8) v11 p1.toNatClampNeg) = 0 then (if p2 ≤ 0 then (if pm_in p1 (pm_ln (pm_setI h v4 p1.toNatClampNeg y8) v11) then if (pm_I (pm_setI h v4 p1.toNatClampNeg y8) v11 p1.toNatClampNeg) = 0 ∨ (pm_I (pm_setI h v4 p1.toNatClampNeg y8) v11 p1.toNatClampNeg) = 1 then some ((pm_I (pm_setI h v4 p1.toNatClampNeg y8) v11 p1.toNatClampNeg, pm_setI h v4 p1.toNatClampNeg y8)) else none else none) else (if pm_in p1 (pm_ln (pm_setI h v4 p1.toNatClampNeg y8) v4) then if (pm_I (pm_setI h v4 p1.toNatClampNeg y8) v4 p1.toNatClampNeg) < p2 then (if pm_in p1 (pm_ln (pm_setI h v4 p1.toNatClampNeg y8) v11) then if (pm_I (pm_setI h v4 p1.toNatClampNeg y8) v11 p1.toNatClampNeg) = 0 ∨ (pm_I (pm_setI h v4 p1.toNatClampNeg y8) v11 p1.toNatClampNeg) = 1 then some ((pm_I (pm_setI h v4 p1.toNatClampNeg y8) v11 p1.toNatClampNeg, pm_setI h v4 p1.toNatClampNeg y8)) else none else none) else (if pm_in p1 (pm_ln (pm_setI h v4 p1.toNatClampNeg y8) v11) then pm_let ((pm_I (pm_setI (pm_setI h v4 p1.toNatClampNeg y8) v11 p1.toNatClampNeg (vp_nar .boolean 1)) a0 2) + 1) fun y26 => if pm_in p1 (pm_ln (pm_setI (pm_setI (pm_setI h v4 p1.toNatClampNeg y8) v11 p1.toNatClampNeg (vp_nar .boolean 1)) a0 2 y26) v11) then if (pm_I (pm_setI (pm_setI (pm_setI h v4 p1.toNatClampNeg y8) v11 p1.toNatClampNeg (vp_nar .boolean 1)) a0 2 y26) v11 p1.toNatClampNeg) = 0 ∨ (pm_I (pm_setI (pm_setI (pm_setI h v4 p1.toNatClampNeg y8) v11 p1.toNatClampNeg (vp_nar .boolean 1)) a0 2 y26) v11 p1.toNatClampNeg) = 1 then some ((pm_I (pm_setI (pm_setI (pm_setI h v4 p1.toNatClampNeg y8) v11 p1.toNatClampNeg (vp_nar .boolean 1)) a0 2 y26) v11 p1.toNatClampNeg, pm_setI (pm_setI (pm_setI h v4 p1.toNatClampNeg y8) v11 p1.toNatClampNeg (vp_nar .boolean 1)) a0 2 y26)) else none else none else none) else none)) else (if pm_in p1 (pm_ln (pm_setI h v4 p1.toNatClampNeg y8) v11) then if (pm_I (pm_setI h v4 p1.toNatClampNeg y8) v11 p1.toNatClampNeg) = 0 ∨ (pm_I (pm_setI h v4 p1.toNatClampNeg y8) v11 p1.toNatClampNeg) = 1 then some ((pm_I (pm_setI h v4 p1.toNatClampNeg y8) v11 p1.toNatClampNeg, pm_setI h v4 p1.toNatClampNeg y8)) else none else none) else none else none else none else none else none else none) else (some ((0, h))))
set_option maxHeartbeats 4000000 in
set_option maxRecDepth 100000 in
theorem ctX10_countFrame {l : Launch} {G : pm_Gl} {h : pm_H} {a0 : Nat} {p1 : Int32} {p2 : Int32} {r : (Int32 × pm_H)} {Qr : Option Value → pm_H → Prop} (hf : fX10_countFrame h a0 p1 p2 = some r) (q : Qr (some (.int r.1)) r.2) : pm_Ct l G mX10_countFrame [.ref a0, .int p1, .int p2] h 0 0 Qr := by
  refine pm_body pnX10 (Nat.le_of_ble_eq_true rfl) (fun g C X => ?_)
  have C : pm_C g cX10_countFrame RX10 := C
  show pm_G g 0 [(0, .ref a0), (1, .int p1), (2, .int p2)] [] h 0 0
  unfold fX10_countFrame at hf
  refine pm_iload_n C dX10_countFrame_0 rfl rfl ?_
  refine pm_if_lt (tgt := 11) C dX10_countFrame_1 (by decide) (fun c1 => ?_) (fun c1 => ?_)
  · have hf := pm_it hf c1
    refine pm_iconst (v := 0) C dX10_countFrame_11 (by decide) ?_
    cases hf
    exact pm_zret C X dX10_countFrame_12 rfl (by decide) (Nat.le_refl _) (Nat.le_refl _) q
  · have hf := pm_ie hf c1
    refine pm_iload_n C dX10_countFrame_4 rfl rfl ?_
    refine pm_sipush (v := 512) C dX10_countFrame_5 (by decide) ?_
    refine pm_icmp_lt (tgt := 13) C dX10_countFrame_8 (by decide) (fun c2 => ?_) (fun c2 => ?_)
    · have hf := pm_it hf c2
      refine pm_aload_n C dX10_countFrame_13 rfl rfl ?_
      obtain ⟨k3, hf⟩ := pm_if hf
      obtain ⟨v4, e5, hf⟩ := pm_bd hf
      refine pm_getR C dX10_countFrame_14 flX10_52 rfl k3 e5 ?_
      refine pm_iload_n C dX10_countFrame_17 rfl rfl ?_
      refine pm_dup2_11 C dX10_countFrame_18 rfl rfl ?_
      obtain ⟨k6, hf⟩ := pm_if hf
      obtain ⟨u7, hf⟩ := pm_if hf
      refine pm_iald C dX10_countFrame_19 k6 u7 rfl ?_
      refine pm_iconst (v := 1) C dX10_countFrame_20 (by decide) ?_
      refine pm_iadd C dX10_countFrame_21 ?_
      obtain ⟨y8, e9, hf⟩ := pm_lt hf
      refine pm_topI e9 ?_
      obtain ⟨u10, hf⟩ := pm_if hf
      refine pm_iast C dX10_countFrame_22 k6 u10 ?_
      refine pm_aload_n C dX10_countFrame_23 rfl rfl ?_
      obtain ⟨v11, e12, hf⟩ := pm_bd hf
      refine pm_getR C dX10_countFrame_24 flX10_55 rfl k3 e12 ?_
      refine pm_iload_n C dX10_countFrame_27 rfl rfl ?_
      obtain ⟨k13, hf⟩ := pm_if hf
      obtain ⟨u14, hf⟩ := pm_if hf
      refine pm_zald C dX10_countFrame_28 k13 u14 rfl ?_
      refine pm_if_ne (tgt := 63) C dX10_countFrame_29 (by decide) (fun c15 => ?_) (fun c15 => ?_)
      · have hf := pm_ie hf c15
        refine pm_aload_n C dX10_countFrame_63 rfl rfl ?_
        refine pm_getR C dX10_countFrame_64 flX10_55 rfl k3 e12 ?_
        refine pm_iload_n C dX10_countFrame_67 rfl rfl ?_
        obtain ⟨u16, hf⟩ := pm_if hf
        refine pm_zald C dX10_countFrame_68 k13 u16 rfl ?_
        obtain ⟨u17, hf⟩ := pm_if hf
        cases hf
        exact pm_zret C X dX10_countFrame_69 rfl (pm_b01 u17).1 (Nat.le_refl _) (Nat.le_refl _) q
      · have hf := pm_it hf c15
        refine pm_iload_n C dX10_countFrame_32 rfl rfl ?_
        refine pm_if_le (tgt := 63) C dX10_countFrame_33 (by decide) (fun c18 => ?_) (fun c18 => ?_)
        · have hf := pm_it hf c18
          refine pm_aload_n C dX10_countFrame_63 rfl rfl ?_
          refine pm_getR C dX10_countFrame_64 flX10_55 rfl k3 e12 ?_
          refine pm_iload_n C dX10_countFrame_67 rfl rfl ?_
          obtain ⟨u19, hf⟩ := pm_if hf
          refine pm_zald C dX10_countFrame_68 k13 u19 rfl ?_
          obtain ⟨u20, hf⟩ := pm_if hf
          cases hf
          exact pm_zret C X dX10_countFrame_69 rfl (pm_b01 u20).1 (Nat.le_refl _) (Nat.le_refl _) q
        · have hf := pm_ie hf c18
          refine pm_aload_n C dX10_countFrame_36 rfl rfl ?_
          refine pm_getR C dX10_countFrame_37 flX10_52 rfl k3 e5 ?_
          refine pm_iload_n C dX10_countFrame_40 rfl rfl ?_
          obtain ⟨u21, hf⟩ := pm_if hf
          refine pm_iald C dX10_countFrame_41 k6 u21 rfl ?_
          refine pm_iload_n C dX10_countFrame_42 rfl rfl ?_
          refine pm_icmp_lt (tgt := 63) C dX10_countFrame_43 (by decide) (fun c22 => ?_) (fun c22 => ?_)
          · have hf := pm_it hf c22
            refine pm_aload_n C dX10_countFrame_63 rfl rfl ?_
            refine pm_getR C dX10_countFrame_64 flX10_55 rfl k3 e12 ?_
            refine pm_iload_n C dX10_countFrame_67 rfl rfl ?_
            obtain ⟨u23, hf⟩ := pm_if hf
            refine pm_zald C dX10_countFrame_68 k13 u23 rfl ?_
            obtain ⟨u24, hf⟩ := pm_if hf
            cases hf
            exact pm_zret C X dX10_countFrame_69 rfl (pm_b01 u24).1 (Nat.le_refl _) (Nat.le_refl _) q
          · have hf := pm_ie hf c22
            refine pm_aload_n C dX10_countFrame_46 rfl rfl ?_
            refine pm_getR C dX10_countFrame_47 flX10_55 rfl k3 e12 ?_
            refine pm_iload_n C dX10_countFrame_50 rfl rfl ?_
            refine pm_iconst (v := 1) C dX10_countFrame_51 (by decide) ?_
            obtain ⟨u25, hf⟩ := pm_if hf
            refine pm_zast C dX10_countFrame_52 k13 u25 ?_
            refine pm_aload_n C dX10_countFrame_53 rfl rfl ?_
            refine pm_dup C dX10_countFrame_54 rfl ?_
            refine pm_getI C dX10_countFrame_55 flX10_96 rfl k3 rfl ?_
            refine pm_iconst (v := 1) C dX10_countFrame_58 (by decide) ?_
            refine pm_iadd C dX10_countFrame_59 ?_
            obtain ⟨y26, e27, hf⟩ := pm_lt hf
            refine pm_topI e27 ?_
            refine pm_putI C dX10_countFrame_60 flX10_96 rfl rfl k3 rfl rfl ?_
            refine pm_aload_n C dX10_countFrame_63 rfl rfl ?_
            refine pm_getR C dX10_countFrame_64 flX10_55 rfl k3 e12 ?_
            refine pm_iload_n C dX10_countFrame_67 rfl rfl ?_
            obtain ⟨u28, hf⟩ := pm_if hf
            refine pm_zald C dX10_countFrame_68 k13 u28 rfl ?_
            obtain ⟨u29, hf⟩ := pm_if hf
            cases hf
            exact pm_zret C X dX10_countFrame_69 rfl (pm_b01 u29).1 (Nat.le_refl _) (Nat.le_refl _) q
    · have hf := pm_ie hf c2
      refine pm_iconst (v := 0) C dX10_countFrame_11 (by decide) ?_
      cases hf
      exact pm_zret C X dX10_countFrame_12 rfl (by decide) (Nat.le_refl _) (Nat.le_refl _) q
theorem dX10_homeOf_0 : decode cX10_homeOf 0 = .ok (.aload_n 0, 1) := by decide +kernel
theorem dX10_homeOf_1 : decode cX10_homeOf 1 = .ok (.getfield 45, 3) := by decide +kernel
theorem dX10_homeOf_4 : decode cX10_homeOf 4 = .ok (.iload_n 1, 1) := by decide +kernel
theorem dX10_homeOf_5 : decode cX10_homeOf 5 = .ok (.ifCond .lt 16, 3) := by decide +kernel
theorem dX10_homeOf_8 : decode cX10_homeOf 8 = .ok (.iload_n 1, 1) := by decide +kernel
theorem dX10_homeOf_9 : decode cX10_homeOf 9 = .ok (.aload_n 0, 1) := by decide +kernel
theorem dX10_homeOf_10 : decode cX10_homeOf 10 = .ok (.getfield 45, 3) := by decide +kernel
theorem dX10_homeOf_13 : decode cX10_homeOf 13 = .ok (.arraylength, 1) := by decide +kernel
theorem dX10_homeOf_14 : decode cX10_homeOf 14 = .ok (.if_icmp .ge 7, 3) := by decide +kernel
theorem dX10_homeOf_17 : decode cX10_homeOf 17 = .ok (.iload_n 1, 1) := by decide +kernel
theorem dX10_homeOf_18 : decode cX10_homeOf 18 = .ok (.goto 4, 3) := by decide +kernel
theorem dX10_homeOf_21 : decode cX10_homeOf 21 = .ok (.iconst 0, 1) := by decide +kernel
theorem dX10_homeOf_22 : decode cX10_homeOf 22 = .ok (.aaload, 1) := by decide +kernel
theorem dX10_homeOf_23 : decode cX10_homeOf 23 = .ok (.areturn, 1) := by decide +kernel
def fX10_homeOf (h : pm_H) (a0 : Nat) (p1 : Int32) : Option Nat := if pm_kd h a0 = 10 then (pm_R h a0 11).bind fun v2 => if p1 < 0 then (if pm_kd h v2 = 40 then if pm_in 0 (pm_ln h v2) then (pm_R h v2 (0 : Int32).toNatClampNeg).bind fun v7 => some v7 else none else none) else (if pm_kd h v2 = 40 then if (Int32.ofNat (pm_ln h v2)) ≤ p1 then (if pm_in 0 (pm_ln h v2) then (pm_R h v2 (0 : Int32).toNatClampNeg).bind fun v12 => some v12 else none) else (if pm_in p1 (pm_ln h v2) then (pm_R h v2 p1.toNatClampNeg).bind fun v15 => some v15 else none) else none) else none
set_option maxHeartbeats 4000000 in
set_option maxRecDepth 100000 in
theorem ctX10_homeOf {l : Launch} {G : pm_Gl} {h : pm_H} {a0 : Nat} {p1 : Int32} {r : Nat} {Qr : Option Value → pm_H → Prop} (hf : fX10_homeOf h a0 p1 = some r) (q : Qr (some (.ref r)) h) : pm_Ct l G mX10_homeOf [.ref a0, .int p1] h 0 0 Qr := by
  refine pm_body pnX10 (Nat.le_of_ble_eq_true rfl) (fun g C X => ?_)
  have C : pm_C g cX10_homeOf RX10 := C
  show pm_G g 0 [(0, .ref a0), (1, .int p1)] [] h 0 0
  unfold fX10_homeOf at hf
  refine pm_aload_n C dX10_homeOf_0 rfl rfl ?_
  obtain ⟨k1, hf⟩ := pm_if hf
  obtain ⟨v2, e3, hf⟩ := pm_bd hf
  refine pm_getR C dX10_homeOf_1 flX10_45 rfl k1 e3 ?_
  refine pm_iload_n C dX10_homeOf_4 rfl rfl ?_
  refine pm_if_lt (tgt := 21) C dX10_homeOf_5 (by decide) (fun c4 => ?_) (fun c4 => ?_)
  · have hf := pm_it hf c4
    refine pm_iconst (v := 0) C dX10_homeOf_21 (by decide) ?_
    obtain ⟨k5, hf⟩ := pm_if hf
    obtain ⟨u6, hf⟩ := pm_if hf
    obtain ⟨v7, e8, hf⟩ := pm_bd hf
    refine pm_ald (t := 8) C dX10_homeOf_22 (by decide) rfl k5 u6 e8 ?_
    cases hf
    exact pm_aret C X dX10_homeOf_23 rfl (Or.inl ⟨_, rfl⟩) (Nat.le_refl _) (Nat.le_refl _) q
  · have hf := pm_ie hf c4
    refine pm_iload_n C dX10_homeOf_8 rfl rfl ?_
    refine pm_aload_n C dX10_homeOf_9 rfl rfl ?_
    refine pm_getR C dX10_homeOf_10 flX10_45 rfl k1 e3 ?_
    obtain ⟨k9, hf⟩ := pm_if hf
    refine pm_alen (t := 8) C dX10_homeOf_13 (by decide) k9 rfl ?_
    refine pm_icmp_ge (tgt := 21) C dX10_homeOf_14 (by decide) (fun c10 => ?_) (fun c10 => ?_)
    · have hf := pm_it hf c10
      refine pm_iconst (v := 0) C dX10_homeOf_21 (by decide) ?_
      obtain ⟨u11, hf⟩ := pm_if hf
      obtain ⟨v12, e13, hf⟩ := pm_bd hf
      refine pm_ald (t := 8) C dX10_homeOf_22 (by decide) rfl k9 u11 e13 ?_
      cases hf
      exact pm_aret C X dX10_homeOf_23 rfl (Or.inl ⟨_, rfl⟩) (Nat.le_refl _) (Nat.le_refl _) q
    · have hf := pm_ie hf c10
      refine pm_iload_n C dX10_homeOf_17 rfl rfl ?_
      refine pm_goto (tgt := 22) C dX10_homeOf_18 (by decide) ?_
      obtain ⟨u14, hf⟩ := pm_if hf
      obtain ⟨v15, e16, hf⟩ := pm_bd hf
      refine pm_ald (t := 8) C dX10_homeOf_22 (by decide) rfl k9 u14 e16 ?_
      cases hf
      exact pm_aret C X dX10_homeOf_23 rfl (Or.inl ⟨_, rfl⟩) (Nat.le_refl _) (Nat.le_refl _) q
theorem dX10_hostNumber_0 : decode cX10_hostNumber 0 = .ok (.iload_n 1, 1) := by decide +kernel
theorem dX10_hostNumber_1 : decode cX10_hostNumber 1 = .ok (.ifCond .lt 21, 3) := by decide +kernel
theorem dX10_hostNumber_4 : decode cX10_hostNumber 4 = .ok (.iload_n 1, 1) := by decide +kernel
theorem dX10_hostNumber_5 : decode cX10_hostNumber 5 = .ok (.aload_n 0, 1) := by decide +kernel
theorem dX10_hostNumber_6 : decode cX10_hostNumber 6 = .ok (.getfield 49, 3) := by decide +kernel
theorem dX10_hostNumber_9 : decode cX10_hostNumber 9 = .ok (.arraylength, 1) := by decide +kernel
theorem dX10_hostNumber_10 : decode cX10_hostNumber 10 = .ok (.if_icmp .ge 12, 3) := by decide +kernel
theorem dX10_hostNumber_13 : decode cX10_hostNumber 13 = .ok (.aload_n 0, 1) := by decide +kernel
theorem dX10_hostNumber_14 : decode cX10_hostNumber 14 = .ok (.getfield 49, 3) := by decide +kernel
theorem dX10_hostNumber_17 : decode cX10_hostNumber 17 = .ok (.iload_n 1, 1) := by decide +kernel
theorem dX10_hostNumber_18 : decode cX10_hostNumber 18 = .ok (.iaload, 1) := by decide +kernel
theorem dX10_hostNumber_19 : decode cX10_hostNumber 19 = .ok (.goto 4, 3) := by decide +kernel
theorem dX10_hostNumber_22 : decode cX10_hostNumber 22 = .ok (.iconst (-1), 1) := by decide +kernel
theorem dX10_hostNumber_23 : decode cX10_hostNumber 23 = .ok (.ireturn, 1) := by decide +kernel
def fX10_hostNumber (h : pm_H) (a0 : Nat) (p1 : Int32) : Option Int32 := if p1 < 0 then (some ((-1))) else (if pm_kd h a0 = 10 then (pm_R h a0 12).bind fun v3 => if pm_kd h v3 = 34 then if (Int32.ofNat (pm_ln h v3)) ≤ p1 then (some ((-1))) else (if pm_in p1 (pm_ln h v3) then some (pm_I h v3 p1.toNatClampNeg) else none) else none else none)
set_option maxHeartbeats 4000000 in
set_option maxRecDepth 100000 in
theorem ctX10_hostNumber {l : Launch} {G : pm_Gl} {h : pm_H} {a0 : Nat} {p1 : Int32} {r : Int32} {Qr : Option Value → pm_H → Prop} (hf : fX10_hostNumber h a0 p1 = some r) (q : Qr (some (.int r)) h) : pm_Ct l G mX10_hostNumber [.ref a0, .int p1] h 0 0 Qr := by
  refine pm_body pnX10 (Nat.le_of_ble_eq_true rfl) (fun g C X => ?_)
  have C : pm_C g cX10_hostNumber RX10 := C
  show pm_G g 0 [(0, .ref a0), (1, .int p1)] [] h 0 0
  unfold fX10_hostNumber at hf
  refine pm_iload_n C dX10_hostNumber_0 rfl rfl ?_
  refine pm_if_lt (tgt := 22) C dX10_hostNumber_1 (by decide) (fun c1 => ?_) (fun c1 => ?_)
  · have hf := pm_it hf c1
    refine pm_iconst (v := (-1)) C dX10_hostNumber_22 (by decide) ?_
    cases hf
    exact pm_iret C X dX10_hostNumber_23 rfl (Nat.le_refl _) (Nat.le_refl _) q
  · have hf := pm_ie hf c1
    refine pm_iload_n C dX10_hostNumber_4 rfl rfl ?_
    refine pm_aload_n C dX10_hostNumber_5 rfl rfl ?_
    obtain ⟨k2, hf⟩ := pm_if hf
    obtain ⟨v3, e4, hf⟩ := pm_bd hf
    refine pm_getR C dX10_hostNumber_6 flX10_49 rfl k2 e4 ?_
    obtain ⟨k5, hf⟩ := pm_if hf
    refine pm_alen (t := 2) C dX10_hostNumber_9 (by decide) k5 rfl ?_
    refine pm_icmp_ge (tgt := 22) C dX10_hostNumber_10 (by decide) (fun c6 => ?_) (fun c6 => ?_)
    · have hf := pm_it hf c6
      refine pm_iconst (v := (-1)) C dX10_hostNumber_22 (by decide) ?_
      cases hf
      exact pm_iret C X dX10_hostNumber_23 rfl (Nat.le_refl _) (Nat.le_refl _) q
    · have hf := pm_ie hf c6
      refine pm_aload_n C dX10_hostNumber_13 rfl rfl ?_
      refine pm_getR C dX10_hostNumber_14 flX10_49 rfl k2 e4 ?_
      refine pm_iload_n C dX10_hostNumber_17 rfl rfl ?_
      obtain ⟨u7, hf⟩ := pm_if hf
      refine pm_iald C dX10_hostNumber_18 k5 u7 rfl ?_
      refine pm_goto (tgt := 23) C dX10_hostNumber_19 (by decide) ?_
      cases hf
      exact pm_iret C X dX10_hostNumber_23 rfl (Nat.le_refl _) (Nat.le_refl _) q
theorem dX10_instanceAt_0 : decode cX10_instanceAt 0 = .ok (.iload_n 1, 1) := by decide +kernel
theorem dX10_instanceAt_1 : decode cX10_instanceAt 1 = .ok (.ifCond .lt 29, 3) := by decide +kernel
theorem dX10_instanceAt_4 : decode cX10_instanceAt 4 = .ok (.iload_n 1, 1) := by decide +kernel
theorem dX10_instanceAt_5 : decode cX10_instanceAt 5 = .ok (.aload_n 0, 1) := by decide +kernel
theorem dX10_instanceAt_6 : decode cX10_instanceAt 6 = .ok (.getfield 86, 3) := by decide +kernel
theorem dX10_instanceAt_9 : decode cX10_instanceAt 9 = .ok (.if_icmp .ge 21, 3) := by decide +kernel
theorem dX10_instanceAt_12 : decode cX10_instanceAt 12 = .ok (.iload_n 1, 1) := by decide +kernel
theorem dX10_instanceAt_13 : decode cX10_instanceAt 13 = .ok (.aload_n 0, 1) := by decide +kernel
theorem dX10_instanceAt_14 : decode cX10_instanceAt 14 = .ok (.getfield 58, 3) := by decide +kernel
theorem dX10_instanceAt_17 : decode cX10_instanceAt 17 = .ok (.arraylength, 1) := by decide +kernel
theorem dX10_instanceAt_18 : decode cX10_instanceAt 18 = .ok (.if_icmp .ge 12, 3) := by decide +kernel
theorem dX10_instanceAt_21 : decode cX10_instanceAt 21 = .ok (.aload_n 0, 1) := by decide +kernel
theorem dX10_instanceAt_22 : decode cX10_instanceAt 22 = .ok (.getfield 58, 3) := by decide +kernel
theorem dX10_instanceAt_25 : decode cX10_instanceAt 25 = .ok (.iload_n 1, 1) := by decide +kernel
theorem dX10_instanceAt_26 : decode cX10_instanceAt 26 = .ok (.aaload, 1) := by decide +kernel
theorem dX10_instanceAt_27 : decode cX10_instanceAt 27 = .ok (.goto 7, 3) := by decide +kernel
theorem dX10_instanceAt_30 : decode cX10_instanceAt 30 = .ok (.aload_n 0, 1) := by decide +kernel
theorem dX10_instanceAt_31 : decode cX10_instanceAt 31 = .ok (.getfield 79, 3) := by decide +kernel
theorem dX10_instanceAt_34 : decode cX10_instanceAt 34 = .ok (.areturn, 1) := by decide +kernel
def fX10_instanceAt (h : pm_H) (a0 : Nat) (p1 : Int32) : Option Nat := if p1 < 0 then (if pm_kd h a0 = 10 then (pm_R h a0 16).bind fun v3 => some v3 else none) else (if pm_kd h a0 = 10 then if (pm_I h a0 3) ≤ p1 then ((pm_R h a0 16).bind fun v7 => some v7) else ((pm_R h a0 15).bind fun v9 => if pm_kd h v9 = 40 then if (Int32.ofNat (pm_ln h v9)) ≤ p1 then ((pm_R h a0 16).bind fun v13 => some v13) else (if pm_in p1 (pm_ln h v9) then (pm_R h v9 p1.toNatClampNeg).bind fun v16 => some v16 else none) else none) else none)
set_option maxHeartbeats 4000000 in
set_option maxRecDepth 100000 in
theorem ctX10_instanceAt {l : Launch} {G : pm_Gl} {h : pm_H} {a0 : Nat} {p1 : Int32} {r : Nat} {Qr : Option Value → pm_H → Prop} (hf : fX10_instanceAt h a0 p1 = some r) (q : Qr (some (.ref r)) h) : pm_Ct l G mX10_instanceAt [.ref a0, .int p1] h 0 0 Qr := by
  refine pm_body pnX10 (Nat.le_of_ble_eq_true rfl) (fun g C X => ?_)
  have C : pm_C g cX10_instanceAt RX10 := C
  show pm_G g 0 [(0, .ref a0), (1, .int p1)] [] h 0 0
  unfold fX10_instanceAt at hf
  refine pm_iload_n C dX10_instanceAt_0 rfl rfl ?_
  refine pm_if_lt (tgt := 30) C dX10_instanceAt_1 (by decide) (fun c1 => ?_) (fun c1 => ?_)
  · have hf := pm_it hf c1
    refine pm_aload_n C dX10_instanceAt_30 rfl rfl ?_
    obtain ⟨k2, hf⟩ := pm_if hf
    obtain ⟨v3, e4, hf⟩ := pm_bd hf
    refine pm_getR C dX10_instanceAt_31 flX10_79 rfl k2 e4 ?_
    cases hf
    exact pm_aret C X dX10_instanceAt_34 rfl (Or.inl ⟨_, rfl⟩) (Nat.le_refl _) (Nat.le_refl _) q
  · have hf := pm_ie hf c1
    refine pm_iload_n C dX10_instanceAt_4 rfl rfl ?_
    refine pm_aload_n C dX10_instanceAt_5 rfl rfl ?_
    obtain ⟨k5, hf⟩ := pm_if hf
    refine pm_getI C dX10_instanceAt_6 flX10_86 rfl k5 rfl ?_
    refine pm_icmp_ge (tgt := 30) C dX10_instanceAt_9 (by decide) (fun c6 => ?_) (fun c6 => ?_)
    · have hf := pm_it hf c6
      refine pm_aload_n C dX10_instanceAt_30 rfl rfl ?_
      obtain ⟨v7, e8, hf⟩ := pm_bd hf
      refine pm_getR C dX10_instanceAt_31 flX10_79 rfl k5 e8 ?_
      cases hf
      exact pm_aret C X dX10_instanceAt_34 rfl (Or.inl ⟨_, rfl⟩) (Nat.le_refl _) (Nat.le_refl _) q
    · have hf := pm_ie hf c6
      refine pm_iload_n C dX10_instanceAt_12 rfl rfl ?_
      refine pm_aload_n C dX10_instanceAt_13 rfl rfl ?_
      obtain ⟨v9, e10, hf⟩ := pm_bd hf
      refine pm_getR C dX10_instanceAt_14 flX10_58 rfl k5 e10 ?_
      obtain ⟨k11, hf⟩ := pm_if hf
      refine pm_alen (t := 8) C dX10_instanceAt_17 (by decide) k11 rfl ?_
      refine pm_icmp_ge (tgt := 30) C dX10_instanceAt_18 (by decide) (fun c12 => ?_) (fun c12 => ?_)
      · have hf := pm_it hf c12
        refine pm_aload_n C dX10_instanceAt_30 rfl rfl ?_
        obtain ⟨v13, e14, hf⟩ := pm_bd hf
        refine pm_getR C dX10_instanceAt_31 flX10_79 rfl k5 e14 ?_
        cases hf
        exact pm_aret C X dX10_instanceAt_34 rfl (Or.inl ⟨_, rfl⟩) (Nat.le_refl _) (Nat.le_refl _) q
      · have hf := pm_ie hf c12
        refine pm_aload_n C dX10_instanceAt_21 rfl rfl ?_
        refine pm_getR C dX10_instanceAt_22 flX10_58 rfl k5 e10 ?_
        refine pm_iload_n C dX10_instanceAt_25 rfl rfl ?_
        obtain ⟨u15, hf⟩ := pm_if hf
        obtain ⟨v16, e17, hf⟩ := pm_bd hf
        refine pm_ald (t := 8) C dX10_instanceAt_26 (by decide) rfl k11 u15 e17 ?_
        refine pm_goto (tgt := 34) C dX10_instanceAt_27 (by decide) ?_
        cases hf
        exact pm_aret C X dX10_instanceAt_34 rfl (Or.inl ⟨_, rfl⟩) (Nat.le_refl _) (Nat.le_refl _) q
theorem dX10_isSameShape_0 : decode cX10_isSameShape 0 = .ok (.aload_n 0, 1) := by decide +kernel
theorem dX10_isSameShape_1 : decode cX10_isSameShape 1 = .ok (.arraylength, 1) := by decide +kernel
theorem dX10_isSameShape_2 : decode cX10_isSameShape 2 = .ok (.aload_n 1, 1) := by decide +kernel
theorem dX10_isSameShape_3 : decode cX10_isSameShape 3 = .ok (.arraylength, 1) := by decide +kernel
theorem dX10_isSameShape_4 : decode cX10_isSameShape 4 = .ok (.if_icmp .eq 5, 3) := by decide +kernel
theorem dX10_isSameShape_7 : decode cX10_isSameShape 7 = .ok (.iconst 0, 1) := by decide +kernel
theorem dX10_isSameShape_8 : decode cX10_isSameShape 8 = .ok (.ireturn, 1) := by decide +kernel
theorem dX10_isSameShape_9 : decode cX10_isSameShape 9 = .ok (.iconst 0, 1) := by decide +kernel
theorem dX10_isSameShape_10 : decode cX10_isSameShape 10 = .ok (.istore_n 2, 1) := by decide +kernel
theorem dX10_isSameShape_11 : decode cX10_isSameShape 11 = .ok (.iload_n 2, 1) := by decide +kernel
theorem dX10_isSameShape_12 : decode cX10_isSameShape 12 = .ok (.aload_n 0, 1) := by decide +kernel
theorem dX10_isSameShape_13 : decode cX10_isSameShape 13 = .ok (.arraylength, 1) := by decide +kernel
theorem dX10_isSameShape_14 : decode cX10_isSameShape 14 = .ok (.if_icmp .ge 20, 3) := by decide +kernel
theorem dX10_isSameShape_17 : decode cX10_isSameShape 17 = .ok (.aload_n 0, 1) := by decide +kernel
theorem dX10_isSameShape_18 : decode cX10_isSameShape 18 = .ok (.iload_n 2, 1) := by decide +kernel
theorem dX10_isSameShape_19 : decode cX10_isSameShape 19 = .ok (.iaload, 1) := by decide +kernel
theorem dX10_isSameShape_20 : decode cX10_isSameShape 20 = .ok (.aload_n 1, 1) := by decide +kernel
theorem dX10_isSameShape_21 : decode cX10_isSameShape 21 = .ok (.iload_n 2, 1) := by decide +kernel
theorem dX10_isSameShape_22 : decode cX10_isSameShape 22 = .ok (.iaload, 1) := by decide +kernel
theorem dX10_isSameShape_23 : decode cX10_isSameShape 23 = .ok (.if_icmp .eq 5, 3) := by decide +kernel
theorem dX10_isSameShape_26 : decode cX10_isSameShape 26 = .ok (.iconst 0, 1) := by decide +kernel
theorem dX10_isSameShape_27 : decode cX10_isSameShape 27 = .ok (.ireturn, 1) := by decide +kernel
theorem dX10_isSameShape_28 : decode cX10_isSameShape 28 = .ok (.iinc 2 1, 3) := by decide +kernel
theorem dX10_isSameShape_31 : decode cX10_isSameShape 31 = .ok (.goto (-20), 3) := by decide +kernel
theorem dX10_isSameShape_34 : decode cX10_isSameShape 34 = .ok (.iconst 1, 1) := by decide +kernel
theorem dX10_isSameShape_35 : decode cX10_isSameShape 35 = .ok (.ireturn, 1) := by decide +kernel
def tX10_isSameShape_11 (h : pm_H) (x0 : Nat) (x1 : Nat) (x2 : Int32) : Option (((Nat × Nat × Int32)) ⊕ Int32) := if pm_kd h x0 = 34 then if (Int32.ofNat (pm_ln h x0)) ≤ x2 then (some (.inr (1))) else (if pm_in x2 (pm_ln h x0) then if pm_kd h x1 = 34 then if pm_in x2 (pm_ln h x1) then if (pm_I h x0 x2.toNatClampNeg) = (pm_I h x1 x2.toNatClampNeg) then (pm_let (x2 + 1) fun y10 => some (.inl ((x0, x1, y10)))) else (some (.inr (0))) else none else none else none) else none
def sX10_isSameShape (h : pm_H) : ((Nat × Nat × Int32)) → Option (((Nat × Nat × Int32)) ⊕ Int32) := fun z => match z with
  | (x0, x1, x2) => tX10_isSameShape_11 h x0 x1 x2
noncomputable def fX10_isSameShape (h : pm_H) (p1 : Nat) (p2 : Nat) : Option Int32 := if pm_kd h p1 = 34 then if pm_kd h p2 = 34 then if (Int32.ofNat (pm_ln h p1)) = (Int32.ofNat (pm_ln h p2)) then (pm_lim (sX10_isSameShape h) ((p1, p2, 0))) else (some 0) else none else none
set_option maxHeartbeats 4000000 in
set_option maxRecDepth 100000 in
theorem lpX10_isSameShape {g : pm_Gm} {l : Launch} {G : pm_Gl} {Qr : Option Value → pm_H → Prop} (C : pm_C g cX10_isSameShape RX10) (X : pm_X g l G mX10_isSameShape 0 0 Qr) {h : pm_H} {r : Int32} (q : Qr (some (.int r)) h) : ∀ n : Nat, (∀ (x0 : Nat) (x1 : Nat) (x2 : Int32), pm_iter (sX10_isSameShape h) n (x0, x1, x2) = some r → pm_G g 11 [(0, .ref x0), (1, .ref x1), (2, .int x2)] [] h 0 0) := by
  intro n
  induction n with
  | zero => exact fun _ _ _ hf => (by cases hf)
  | succ n ih =>
    refine fun x0 x1 x2 hf => ?_
    obtain ⟨y, hf, hi⟩ := pm_iter_s hf
    have hf : tX10_isSameShape_11 h x0 x1 x2 = some y := hf
    unfold tX10_isSameShape_11 at hf
    refine pm_iload_n C dX10_isSameShape_11 rfl rfl ?_
    refine pm_aload_n C dX10_isSameShape_12 rfl rfl ?_
    obtain ⟨k4, hf⟩ := pm_if hf
    refine pm_alen (t := 2) C dX10_isSameShape_13 (by decide) k4 rfl ?_
    refine pm_icmp_ge (tgt := 34) C dX10_isSameShape_14 (by decide) (fun c5 => ?_) (fun c5 => ?_)
    · have hf := pm_it hf c5
      refine pm_iconst (v := 1) C dX10_isSameShape_34 (by decide) ?_
      cases hf
      cases hi
      exact pm_zret C X dX10_isSameShape_35 rfl (by decide) (Nat.le_refl _) (Nat.le_refl _) q
    · have hf := pm_ie hf c5
      refine pm_aload_n C dX10_isSameShape_17 rfl rfl ?_
      refine pm_iload_n C dX10_isSameShape_18 rfl rfl ?_
      obtain ⟨u6, hf⟩ := pm_if hf
      refine pm_iald C dX10_isSameShape_19 k4 u6 rfl ?_
      refine pm_aload_n C dX10_isSameShape_20 rfl rfl ?_
      refine pm_iload_n C dX10_isSameShape_21 rfl rfl ?_
      obtain ⟨k7, hf⟩ := pm_if hf
      obtain ⟨u8, hf⟩ := pm_if hf
      refine pm_iald C dX10_isSameShape_22 k7 u8 rfl ?_
      refine pm_icmp_eq (tgt := 28) C dX10_isSameShape_23 (by decide) (fun c9 => ?_) (fun c9 => ?_)
      · have hf := pm_it hf c9
        obtain ⟨y10, e11, hf⟩ := pm_lt hf
        refine pm_iinc (v := y10) (lv' := [(2, .int y10), (0, .ref x0), (1, .ref x1)]) C dX10_isSameShape_28 rfl ((congrArg (x2 + ·) (by decide : Int32.ofInt 1 = 1)).trans e11) (pm_nl X (by decide)) rfl ?_
        refine pm_goto (tgt := 11) C dX10_isSameShape_31 (by decide) ?_
        cases hf
        exact pm_sub [1, 2, 0] rfl (ih x0 x1 y10 hi)
      · have hf := pm_ie hf c9
        refine pm_iconst (v := 0) C dX10_isSameShape_26 (by decide) ?_
        cases hf
        cases hi
        exact pm_zret C X dX10_isSameShape_27 rfl (by decide) (Nat.le_refl _) (Nat.le_refl _) q
set_option maxHeartbeats 4000000 in
set_option maxRecDepth 100000 in
theorem ctX10_isSameShape {l : Launch} {G : pm_Gl} {h : pm_H} {p1 : Nat} {p2 : Nat} {r : Int32} {Qr : Option Value → pm_H → Prop} (hf : fX10_isSameShape h p1 p2 = some r) (q : Qr (some (.int r)) h) : pm_Ct l G mX10_isSameShape [.ref p1, .ref p2] h 0 0 Qr := by
  refine pm_body pnX10 (Nat.le_of_ble_eq_true rfl) (fun g C X => ?_)
  have C : pm_C g cX10_isSameShape RX10 := C
  show pm_G g 0 [(0, .ref p1), (1, .ref p2)] [] h 0 0
  unfold fX10_isSameShape at hf
  refine pm_aload_n C dX10_isSameShape_0 rfl rfl ?_
  obtain ⟨k1, hf⟩ := pm_if hf
  refine pm_alen (t := 2) C dX10_isSameShape_1 (by decide) k1 rfl ?_
  refine pm_aload_n C dX10_isSameShape_2 rfl rfl ?_
  obtain ⟨k2, hf⟩ := pm_if hf
  refine pm_alen (t := 2) C dX10_isSameShape_3 (by decide) k2 rfl ?_
  refine pm_icmp_eq (tgt := 9) C dX10_isSameShape_4 (by decide) (fun c3 => ?_) (fun c3 => ?_)
  · have hf := pm_it hf c3
    refine pm_iconst (v := 0) C dX10_isSameShape_9 (by decide) ?_
    refine pm_istore_n (lv' := [(2, .int 0), (0, .ref p1), (1, .ref p2)]) C dX10_isSameShape_10 rfl (pm_nl X (by decide)) rfl ?_
    obtain ⟨n, hn⟩ := pm_lim_iter hf
    exact pm_sub [1, 2, 0] rfl ((lpX10_isSameShape C X q n) p1 p2 0 hn)
  · have hf := pm_ie hf c3
    refine pm_iconst (v := 0) C dX10_isSameShape_7 (by decide) ?_
    cases hf
    exact pm_zret C X dX10_isSameShape_8 rfl (by decide) (Nat.le_refl _) (Nat.le_refl _) q
theorem dX10_shapeOf_0 : decode cX10_shapeOf 0 = .ok (.aload_n 0, 1) := by decide +kernel
theorem dX10_shapeOf_1 : decode cX10_shapeOf 1 = .ok (.iload_n 1, 1) := by decide +kernel
theorem dX10_shapeOf_2 : decode cX10_shapeOf 2 = .ok (.invokevirtual 89, 3) := by decide +kernel
theorem dX10_shapeOf_5 : decode cX10_shapeOf 5 = .ok (.getfield 93, 3) := by decide +kernel
theorem dX10_shapeOf_8 : decode cX10_shapeOf 8 = .ok (.areturn, 1) := by decide +kernel
def fX10_shapeOf (h : pm_H) (a0 : Nat) (p1 : Int32) : Option Nat := if pm_kd h a0 = 10 then (fX10_bodyOf h a0 p1).bind fun v2 => if pm_kd h v2 = 0 then (pm_R h v2 0).bind fun v5 => some v5 else none else none
set_option maxHeartbeats 4000000 in
set_option maxRecDepth 100000 in
theorem ctX10_shapeOf {l : Launch} {G : pm_Gl} {h : pm_H} {a0 : Nat} {p1 : Int32} {r : Nat} {Qr : Option Value → pm_H → Prop} (hf : fX10_shapeOf h a0 p1 = some r) (q : Qr (some (.ref r)) h) : pm_Ct l G mX10_shapeOf [.ref a0, .int p1] h 0 0 Qr := by
  refine pm_body pnX10 (Nat.le_of_ble_eq_true rfl) (fun g C X => ?_)
  have C : pm_C g cX10_shapeOf RX10 := C
  show pm_G g 0 [(0, .ref a0), (1, .int p1)] [] h 0 0
  unfold fX10_shapeOf at hf
  refine pm_aload_n C dX10_shapeOf_0 rfl rfl ?_
  refine pm_iload_n C dX10_shapeOf_1 rfl rfl ?_
  obtain ⟨k1, hf⟩ := pm_if hf
  obtain ⟨v2, e3, hf⟩ := pm_bd hf
  refine pm_callV (as := [.int p1]) (st := []) C X dX10_shapeOf_2 lnX10_89 myX10_bodyOf viX10_bodyOf ⟨by decide, by decide⟩ rfl rfl k1 (Nat.le_of_ble_eq_true rfl) (Nat.le_refl _) (Nat.le_refl _) (ctX10_bodyOf e3 ?_)
  show pm_G g 5 [(0, .ref a0), (1, .int p1)] [.ref v2] h 0 0
  obtain ⟨k4, hf⟩ := pm_if hf
  obtain ⟨v5, e6, hf⟩ := pm_bd hf
  refine pm_getR C dX10_shapeOf_5 flX10_93 rfl k4 e6 ?_
  cases hf
  exact pm_aret C X dX10_shapeOf_8 rfl (Or.inr ⟨_, rfl⟩) (Nat.le_refl _) (Nat.le_refl _) q
theorem dX11_entry_0 : decode cX11_entry 0 = .ok (.iload_n 1, 1) := by decide +kernel
theorem dX11_entry_1 : decode cX11_entry 1 = .ok (.ifCond .lt 35, 3) := by decide +kernel
theorem dX11_entry_4 : decode cX11_entry 4 = .ok (.iload_n 1, 1) := by decide +kernel
theorem dX11_entry_5 : decode cX11_entry 5 = .ok (.aload_n 0, 1) := by decide +kernel
theorem dX11_entry_6 : decode cX11_entry 6 = .ok (.getfield 26, 3) := by decide +kernel
theorem dX11_entry_9 : decode cX11_entry 9 = .ok (.arraylength, 1) := by decide +kernel
theorem dX11_entry_10 : decode cX11_entry 10 = .ok (.if_icmp .ge 26, 3) := by decide +kernel
theorem dX11_entry_13 : decode cX11_entry 13 = .ok (.lload_n 2, 1) := by decide +kernel
theorem dX11_entry_14 : decode cX11_entry 14 = .ok (.lconst 0, 1) := by decide +kernel
theorem dX11_entry_15 : decode cX11_entry 15 = .ok (.lcmp, 1) := by decide +kernel
theorem dX11_entry_16 : decode cX11_entry 16 = .ok (.ifCond .lt 20, 3) := by decide +kernel
theorem dX11_entry_19 : decode cX11_entry 19 = .ok (.lload_n 2, 1) := by decide +kernel
theorem dX11_entry_20 : decode cX11_entry 20 = .ok (.aload_n 0, 1) := by decide +kernel
theorem dX11_entry_21 : decode cX11_entry 21 = .ok (.getfield 26, 3) := by decide +kernel
theorem dX11_entry_24 : decode cX11_entry 24 = .ok (.iload_n 1, 1) := by decide +kernel
theorem dX11_entry_25 : decode cX11_entry 25 = .ok (.aaload, 1) := by decide +kernel
theorem dX11_entry_26 : decode cX11_entry 26 = .ok (.arraylength, 1) := by decide +kernel
theorem dX11_entry_27 : decode cX11_entry 27 = .ok (.i2l, 1) := by decide +kernel
theorem dX11_entry_28 : decode cX11_entry 28 = .ok (.lcmp, 1) := by decide +kernel
theorem dX11_entry_29 : decode cX11_entry 29 = .ok (.ifCond .ge 7, 3) := by decide +kernel
theorem dX11_entry_32 : decode cX11_entry 32 = .ok (.iconst 1, 1) := by decide +kernel
theorem dX11_entry_33 : decode cX11_entry 33 = .ok (.goto 4, 3) := by decide +kernel
theorem dX11_entry_36 : decode cX11_entry 36 = .ok (.iconst 0, 1) := by decide +kernel
theorem dX11_entry_37 : decode cX11_entry 37 = .ok (.istore 4, 2) := by decide +kernel
theorem dX11_entry_39 : decode cX11_entry 39 = .ok (.iload 4, 2) := by decide +kernel
theorem dX11_entry_41 : decode cX11_entry 41 = .ok (.ifCond .eq 15, 3) := by decide +kernel
theorem dX11_entry_44 : decode cX11_entry 44 = .ok (.aload_n 0, 1) := by decide +kernel
theorem dX11_entry_45 : decode cX11_entry 45 = .ok (.getfield 26, 3) := by decide +kernel
theorem dX11_entry_48 : decode cX11_entry 48 = .ok (.iload_n 1, 1) := by decide +kernel
theorem dX11_entry_49 : decode cX11_entry 49 = .ok (.aaload, 1) := by decide +kernel
theorem dX11_entry_50 : decode cX11_entry 50 = .ok (.lload_n 2, 1) := by decide +kernel
theorem dX11_entry_51 : decode cX11_entry 51 = .ok (.l2i, 1) := by decide +kernel
theorem dX11_entry_52 : decode cX11_entry 52 = .ok (.iaload, 1) := by decide +kernel
theorem dX11_entry_53 : decode cX11_entry 53 = .ok (.goto 4, 3) := by decide +kernel
theorem dX11_entry_56 : decode cX11_entry 56 = .ok (.iconst (-1), 1) := by decide +kernel
theorem dX11_entry_57 : decode cX11_entry 57 = .ok (.ireturn, 1) := by decide +kernel
def fX11_entry_b36 (h : pm_H) (x0 : Nat) (x1 : Int32) (x2 : Int64) : Option Int32 := if (0 : Int32) = (0 : Int32) then (some ((-1))) else (if pm_kd h x0 = 11 then (pm_R h x0 5).bind fun v21 => if pm_kd h v21 = 36 then if pm_in x1 (pm_ln h v21) then (pm_R h v21 x1.toNatClampNeg).bind fun v25 => if pm_kd h v25 = 34 then if pm_in x2.toInt32 (pm_ln h v25) then some (pm_I h v25 x2.toInt32.toNatClampNeg) else none else none else none else none else none)
def fX11_entry (h : pm_H) (a0 : Nat) (p1 : Int32) (p2 : Int64) : Option Int32 := if p1 < 0 then (fX11_entry_b36 h a0 p1 p2) else (if pm_kd h a0 = 11 then (pm_R h a0 5).bind fun v3 => if pm_kd h v3 = 36 then if (Int32.ofNat (pm_ln h v3)) ≤ p1 then (fX11_entry_b36 h a0 p1 p2) else (if p2 < 0 then (fX11_entry_b36 h a0 p1 p2) else (if pm_in p1 (pm_ln h v3) then (pm_R h v3 p1.toNatClampNeg).bind fun v9 => if pm_kd h v9 = 34 then if ((Int32.ofNat (pm_ln h v9)).toInt64) ≤ p2 then (fX11_entry_b36 h a0 p1 p2) else (if (1 : Int32) = (0 : Int32) then (some ((-1))) else (if pm_in p1 (pm_ln h v3) then (pm_R h v3 p1.toNatClampNeg).bind fun v15 => if pm_kd h v15 = 34 then if pm_in p2.toInt32 (pm_ln h v15) then some (pm_I h v15 p2.toInt32.toNatClampNeg) else none else none else none)) else none else none)) else none else none)
set_option maxHeartbeats 4000000 in
set_option maxRecDepth 100000 in
theorem bX11_entry_36 {g : pm_Gm} {l : Launch} {G : pm_Gl} {Qr : Option Value → pm_H → Prop} (C : pm_C g cX11_entry RX11) (X : pm_X g l G mX11_entry 0 0 Qr) {h : pm_H} {x0 : Nat} {x1 : Int32} {x2 : Int64} {r : Int32} (hf : fX11_entry_b36 h x0 x1 x2 = some r) (q : Qr (some (.int r)) h) : pm_G g 36 [(0, .ref x0), (1, .int x1), (2, .long x2)] [] h 0 0 := by
  unfold fX11_entry_b36 at hf
  refine pm_iconst (v := 0) C dX11_entry_36 (by decide) ?_
  refine pm_istore (lv' := [(4, .int 0), (0, .ref x0), (1, .int x1), (2, .long x2)]) C dX11_entry_37 (pm_nl X (by decide)) rfl ?_
  refine pm_iload C dX11_entry_39 rfl ?_
  refine pm_if_eq (tgt := 56) C dX11_entry_41 (by decide) (fun c19 => ?_) (fun c19 => ?_)
  · have hf := pm_it hf c19
    refine pm_iconst (v := (-1)) C dX11_entry_56 (by decide) ?_
    cases hf
    exact pm_iret C X dX11_entry_57 rfl (Nat.le_refl _) (Nat.le_refl _) q
  · have hf := pm_ie hf c19
    refine pm_aload_n C dX11_entry_44 rfl rfl ?_
    obtain ⟨k20, hf⟩ := pm_if hf
    obtain ⟨v21, e22, hf⟩ := pm_bd hf
    refine pm_getR C dX11_entry_45 flX11_26 rfl k20 e22 ?_
    refine pm_iload_n C dX11_entry_48 rfl rfl ?_
    obtain ⟨k23, hf⟩ := pm_if hf
    obtain ⟨u24, hf⟩ := pm_if hf
    obtain ⟨v25, e26, hf⟩ := pm_bd hf
    refine pm_ald (t := 4) C dX11_entry_49 (by decide) rfl k23 u24 e26 ?_
    refine pm_lload_n C dX11_entry_50 rfl rfl ?_
    refine pm_l2i C dX11_entry_51 ?_
    obtain ⟨k27, hf⟩ := pm_if hf
    obtain ⟨u28, hf⟩ := pm_if hf
    refine pm_iald C dX11_entry_52 k27 u28 rfl ?_
    refine pm_goto (tgt := 57) C dX11_entry_53 (by decide) ?_
    cases hf
    exact pm_iret C X dX11_entry_57 rfl (Nat.le_refl _) (Nat.le_refl _) q
set_option maxHeartbeats 4000000 in
set_option maxRecDepth 100000 in
theorem ctX11_entry {l : Launch} {G : pm_Gl} {h : pm_H} {a0 : Nat} {p1 : Int32} {p2 : Int64} {r : Int32} {Qr : Option Value → pm_H → Prop} (hf : fX11_entry h a0 p1 p2 = some r) (q : Qr (some (.int r)) h) : pm_Ct l G mX11_entry [.ref a0, .int p1, .long p2] h 0 0 Qr := by
  refine pm_body pnX11 (Nat.le_of_ble_eq_true rfl) (fun g C X => ?_)
  have C : pm_C g cX11_entry RX11 := C
  show pm_G g 0 [(0, .ref a0), (1, .int p1), (2, .long p2)] [] h 0 0
  unfold fX11_entry at hf
  refine pm_iload_n C dX11_entry_0 rfl rfl ?_
  refine pm_if_lt (tgt := 36) C dX11_entry_1 (by decide) (fun c1 => ?_) (fun c1 => ?_)
  · have hf := pm_it hf c1
    exact pm_sub [0, 1, 2] rfl (bX11_entry_36 C X hf q)
  · have hf := pm_ie hf c1
    refine pm_iload_n C dX11_entry_4 rfl rfl ?_
    refine pm_aload_n C dX11_entry_5 rfl rfl ?_
    obtain ⟨k2, hf⟩ := pm_if hf
    obtain ⟨v3, e4, hf⟩ := pm_bd hf
    refine pm_getR C dX11_entry_6 flX11_26 rfl k2 e4 ?_
    obtain ⟨k5, hf⟩ := pm_if hf
    refine pm_alen (t := 4) C dX11_entry_9 (by decide) k5 rfl ?_
    refine pm_icmp_ge (tgt := 36) C dX11_entry_10 (by decide) (fun c6 => ?_) (fun c6 => ?_)
    · have hf := pm_it hf c6
      exact pm_sub [0, 1, 2] rfl (bX11_entry_36 C X hf q)
    · have hf := pm_ie hf c6
      refine pm_lload_n C dX11_entry_13 rfl rfl ?_
      refine pm_lconst (v := 0) C dX11_entry_14 (by decide) ?_
      refine pm_lcmp C dX11_entry_15 ?_
      refine pm_if_lt (tgt := 36) C dX11_entry_16 (by decide) (fun c7 => ?_) (fun c7 => ?_)
      · have hf := pm_it hf ((pm_lg_lt _ _).mp c7)
        exact pm_sub [0, 1, 2] rfl (bX11_entry_36 C X hf q)
      · have hf := pm_ie hf ((fun z => c7 ((pm_lg_lt _ _).mpr z)))
        refine pm_lload_n C dX11_entry_19 rfl rfl ?_
        refine pm_aload_n C dX11_entry_20 rfl rfl ?_
        refine pm_getR C dX11_entry_21 flX11_26 rfl k2 e4 ?_
        refine pm_iload_n C dX11_entry_24 rfl rfl ?_
        obtain ⟨u8, hf⟩ := pm_if hf
        obtain ⟨v9, e10, hf⟩ := pm_bd hf
        refine pm_ald (t := 4) C dX11_entry_25 (by decide) rfl k5 u8 e10 ?_
        obtain ⟨k11, hf⟩ := pm_if hf
        refine pm_alen (t := 2) C dX11_entry_26 (by decide) k11 rfl ?_
        refine pm_i2l C dX11_entry_27 ?_
        refine pm_lcmp C dX11_entry_28 ?_
        refine pm_if_ge (tgt := 36) C dX11_entry_29 (by decide) (fun c12 => ?_) (fun c12 => ?_)
        · have hf := pm_it hf ((pm_lg_ge _ _).mp c12)
          exact pm_sub [0, 1, 2] rfl (bX11_entry_36 C X hf q)
        · have hf := pm_ie hf ((fun z => c12 ((pm_lg_ge _ _).mpr z)))
          refine pm_iconst (v := 1) C dX11_entry_32 (by decide) ?_
          refine pm_goto (tgt := 37) C dX11_entry_33 (by decide) ?_
          refine pm_istore (lv' := [(4, .int 1), (0, .ref a0), (1, .int p1), (2, .long p2)]) C dX11_entry_37 (pm_nl X (by decide)) rfl ?_
          refine pm_iload C dX11_entry_39 rfl ?_
          refine pm_if_eq (tgt := 56) C dX11_entry_41 (by decide) (fun c13 => ?_) (fun c13 => ?_)
          · have hf := pm_it hf c13
            refine pm_iconst (v := (-1)) C dX11_entry_56 (by decide) ?_
            cases hf
            exact pm_iret C X dX11_entry_57 rfl (Nat.le_refl _) (Nat.le_refl _) q
          · have hf := pm_ie hf c13
            refine pm_aload_n C dX11_entry_44 rfl rfl ?_
            refine pm_getR C dX11_entry_45 flX11_26 rfl k2 e4 ?_
            refine pm_iload_n C dX11_entry_48 rfl rfl ?_
            obtain ⟨u14, hf⟩ := pm_if hf
            obtain ⟨v15, e16, hf⟩ := pm_bd hf
            refine pm_ald (t := 4) C dX11_entry_49 (by decide) rfl k5 u14 e16 ?_
            refine pm_lload_n C dX11_entry_50 rfl rfl ?_
            refine pm_l2i C dX11_entry_51 ?_
            obtain ⟨k17, hf⟩ := pm_if hf
            obtain ⟨u18, hf⟩ := pm_if hf
            refine pm_iald C dX11_entry_52 k17 u18 rfl ?_
            refine pm_goto (tgt := 57) C dX11_entry_53 (by decide) ?_
            cases hf
            exact pm_iret C X dX11_entry_57 rfl (Nat.le_refl _) (Nat.le_refl _) q
theorem dX11_setEntry_0 : decode cX11_setEntry 0 = .ok (.iload_n 1, 1) := by decide +kernel
theorem dX11_setEntry_1 : decode cX11_setEntry 1 = .ok (.ifCond .lt 35, 3) := by decide +kernel
theorem dX11_setEntry_4 : decode cX11_setEntry 4 = .ok (.iload_n 1, 1) := by decide +kernel
theorem dX11_setEntry_5 : decode cX11_setEntry 5 = .ok (.aload_n 0, 1) := by decide +kernel
theorem dX11_setEntry_6 : decode cX11_setEntry 6 = .ok (.getfield 26, 3) := by decide +kernel
theorem dX11_setEntry_9 : decode cX11_setEntry 9 = .ok (.arraylength, 1) := by decide +kernel
theorem dX11_setEntry_10 : decode cX11_setEntry 10 = .ok (.if_icmp .ge 26, 3) := by decide +kernel
theorem dX11_setEntry_13 : decode cX11_setEntry 13 = .ok (.lload_n 2, 1) := by decide +kernel
theorem dX11_setEntry_14 : decode cX11_setEntry 14 = .ok (.lconst 0, 1) := by decide +kernel
theorem dX11_setEntry_15 : decode cX11_setEntry 15 = .ok (.lcmp, 1) := by decide +kernel
theorem dX11_setEntry_16 : decode cX11_setEntry 16 = .ok (.ifCond .lt 20, 3) := by decide +kernel
theorem dX11_setEntry_19 : decode cX11_setEntry 19 = .ok (.lload_n 2, 1) := by decide +kernel
theorem dX11_setEntry_20 : decode cX11_setEntry 20 = .ok (.aload_n 0, 1) := by decide +kernel
theorem dX11_setEntry_21 : decode cX11_setEntry 21 = .ok (.getfield 26, 3) := by decide +kernel
theorem dX11_setEntry_24 : decode cX11_setEntry 24 = .ok (.iload_n 1, 1) := by decide +kernel
theorem dX11_setEntry_25 : decode cX11_setEntry 25 = .ok (.aaload, 1) := by decide +kernel
theorem dX11_setEntry_26 : decode cX11_setEntry 26 = .ok (.arraylength, 1) := by decide +kernel
theorem dX11_setEntry_27 : decode cX11_setEntry 27 = .ok (.i2l, 1) := by decide +kernel
theorem dX11_setEntry_28 : decode cX11_setEntry 28 = .ok (.lcmp, 1) := by decide +kernel
theorem dX11_setEntry_29 : decode cX11_setEntry 29 = .ok (.ifCond .ge 7, 3) := by decide +kernel
theorem dX11_setEntry_32 : decode cX11_setEntry 32 = .ok (.iconst 1, 1) := by decide +kernel
theorem dX11_setEntry_33 : decode cX11_setEntry 33 = .ok (.goto 4, 3) := by decide +kernel
theorem dX11_setEntry_36 : decode cX11_setEntry 36 = .ok (.iconst 0, 1) := by decide +kernel
theorem dX11_setEntry_37 : decode cX11_setEntry 37 = .ok (.istore 5, 2) := by decide +kernel
theorem dX11_setEntry_39 : decode cX11_setEntry 39 = .ok (.iload 5, 2) := by decide +kernel
theorem dX11_setEntry_41 : decode cX11_setEntry 41 = .ok (.ifCond .eq 14, 3) := by decide +kernel
theorem dX11_setEntry_44 : decode cX11_setEntry 44 = .ok (.aload_n 0, 1) := by decide +kernel
theorem dX11_setEntry_45 : decode cX11_setEntry 45 = .ok (.getfield 26, 3) := by decide +kernel
theorem dX11_setEntry_48 : decode cX11_setEntry 48 = .ok (.iload_n 1, 1) := by decide +kernel
theorem dX11_setEntry_49 : decode cX11_setEntry 49 = .ok (.aaload, 1) := by decide +kernel
theorem dX11_setEntry_50 : decode cX11_setEntry 50 = .ok (.lload_n 2, 1) := by decide +kernel
theorem dX11_setEntry_51 : decode cX11_setEntry 51 = .ok (.l2i, 1) := by decide +kernel
theorem dX11_setEntry_52 : decode cX11_setEntry 52 = .ok (.iload 4, 2) := by decide +kernel
theorem dX11_setEntry_54 : decode cX11_setEntry 54 = .ok (.iastore, 1) := by decide +kernel
theorem dX11_setEntry_55 : decode cX11_setEntry 55 = .ok (.return_, 1) := by decide +kernel
def fX11_setEntry_b36 (h : pm_H) (x0 : Nat) (x1 : Int32) (x2 : Int64) (x4 : Int32) : Option pm_H := if (0 : Int32) = (0 : Int32) then (some h) else (if pm_kd h x0 = 11 then (pm_R h x0 5).bind fun v21 => if pm_kd h v21 = 36 then if pm_in x1 (pm_ln h v21) then (pm_R h v21 x1.toNatClampNeg).bind fun v25 => if pm_kd h v25 = 34 then if pm_in x2.toInt32 (pm_ln h v25) then some (pm_setI h v25 x2.toInt32.toNatClampNeg x4) else none else none else none else none else none)
def fX11_setEntry (h : pm_H) (a0 : Nat) (p1 : Int32) (p2 : Int64) (p3 : Int32) : Option pm_H := if p1 < 0 then (fX11_setEntry_b36 h a0 p1 p2 p3) else (if pm_kd h a0 = 11 then (pm_R h a0 5).bind fun v3 => if pm_kd h v3 = 36 then if (Int32.ofNat (pm_ln h v3)) ≤ p1 then (fX11_setEntry_b36 h a0 p1 p2 p3) else (if p2 < 0 then (fX11_setEntry_b36 h a0 p1 p2 p3) else (if pm_in p1 (pm_ln h v3) then (pm_R h v3 p1.toNatClampNeg).bind fun v9 => if pm_kd h v9 = 34 then if ((Int32.ofNat (pm_ln h v9)).toInt64) ≤ p2 then (fX11_setEntry_b36 h a0 p1 p2 p3) else (if (1 : Int32) = (0 : Int32) then (some h) else (if pm_in p1 (pm_ln h v3) then (pm_R h v3 p1.toNatClampNeg).bind fun v15 => if pm_kd h v15 = 34 then if pm_in p2.toInt32 (pm_ln h v15) then some (pm_setI h v15 p2.toInt32.toNatClampNeg p3) else none else none else none)) else none else none)) else none else none)
set_option maxHeartbeats 4000000 in
set_option maxRecDepth 100000 in
theorem bX11_setEntry_36 {g : pm_Gm} {l : Launch} {G : pm_Gl} {Qr : Option Value → pm_H → Prop} (C : pm_C g cX11_setEntry RX11) (X : pm_X g l G mX11_setEntry 0 0 Qr) {h : pm_H} {x0 : Nat} {x1 : Int32} {x2 : Int64} {x4 : Int32} {r : pm_H} (hf : fX11_setEntry_b36 h x0 x1 x2 x4 = some r) (q : Qr none r) : pm_G g 36 [(0, .ref x0), (1, .int x1), (2, .long x2), (4, .int x4)] [] h 0 0 := by
  unfold fX11_setEntry_b36 at hf
  refine pm_iconst (v := 0) C dX11_setEntry_36 (by decide) ?_
  refine pm_istore (lv' := [(5, .int 0), (0, .ref x0), (1, .int x1), (2, .long x2), (4, .int x4)]) C dX11_setEntry_37 (pm_nl X (by decide)) rfl ?_
  refine pm_iload C dX11_setEntry_39 rfl ?_
  refine pm_if_eq (tgt := 55) C dX11_setEntry_41 (by decide) (fun c19 => ?_) (fun c19 => ?_)
  · have hf := pm_it hf c19
    cases hf
    exact pm_vret C X dX11_setEntry_55 rfl (Nat.le_refl _) (Nat.le_refl _) q
  · have hf := pm_ie hf c19
    refine pm_aload_n C dX11_setEntry_44 rfl rfl ?_
    obtain ⟨k20, hf⟩ := pm_if hf
    obtain ⟨v21, e22, hf⟩ := pm_bd hf
    refine pm_getR C dX11_setEntry_45 flX11_26 rfl k20 e22 ?_
    refine pm_iload_n C dX11_setEntry_48 rfl rfl ?_
    obtain ⟨k23, hf⟩ := pm_if hf
    obtain ⟨u24, hf⟩ := pm_if hf
    obtain ⟨v25, e26, hf⟩ := pm_bd hf
    refine pm_ald (t := 4) C dX11_setEntry_49 (by decide) rfl k23 u24 e26 ?_
    refine pm_lload_n C dX11_setEntry_50 rfl rfl ?_
    refine pm_l2i C dX11_setEntry_51 ?_
    refine pm_iload C dX11_setEntry_52 rfl ?_
    obtain ⟨k27, hf⟩ := pm_if hf
    obtain ⟨u28, hf⟩ := pm_if hf
    refine pm_iast C dX11_setEntry_54 k27 u28 ?_
    cases hf
    exact pm_vret C X dX11_setEntry_55 rfl (Nat.le_refl _) (Nat.le_refl _) q
set_option maxHeartbeats 4000000 in
set_option maxRecDepth 100000 in
theorem ctX11_setEntry {l : Launch} {G : pm_Gl} {h : pm_H} {a0 : Nat} {p1 : Int32} {p2 : Int64} {p3 : Int32} {r : pm_H} {Qr : Option Value → pm_H → Prop} (hf : fX11_setEntry h a0 p1 p2 p3 = some r) (q : Qr none r) : pm_Ct l G mX11_setEntry [.ref a0, .int p1, .long p2, .int p3] h 0 0 Qr := by
  refine pm_body pnX11 (Nat.le_of_ble_eq_true rfl) (fun g C X => ?_)
  have C : pm_C g cX11_setEntry RX11 := C
  show pm_G g 0 [(0, .ref a0), (1, .int p1), (2, .long p2), (4, .int p3)] [] h 0 0
  unfold fX11_setEntry at hf
  refine pm_iload_n C dX11_setEntry_0 rfl rfl ?_
  refine pm_if_lt (tgt := 36) C dX11_setEntry_1 (by decide) (fun c1 => ?_) (fun c1 => ?_)
  · have hf := pm_it hf c1
    exact pm_sub [0, 1, 2, 3] rfl (bX11_setEntry_36 C X hf q)
  · have hf := pm_ie hf c1
    refine pm_iload_n C dX11_setEntry_4 rfl rfl ?_
    refine pm_aload_n C dX11_setEntry_5 rfl rfl ?_
    obtain ⟨k2, hf⟩ := pm_if hf
    obtain ⟨v3, e4, hf⟩ := pm_bd hf
    refine pm_getR C dX11_setEntry_6 flX11_26 rfl k2 e4 ?_
    obtain ⟨k5, hf⟩ := pm_if hf
    refine pm_alen (t := 4) C dX11_setEntry_9 (by decide) k5 rfl ?_
    refine pm_icmp_ge (tgt := 36) C dX11_setEntry_10 (by decide) (fun c6 => ?_) (fun c6 => ?_)
    · have hf := pm_it hf c6
      exact pm_sub [0, 1, 2, 3] rfl (bX11_setEntry_36 C X hf q)
    · have hf := pm_ie hf c6
      refine pm_lload_n C dX11_setEntry_13 rfl rfl ?_
      refine pm_lconst (v := 0) C dX11_setEntry_14 (by decide) ?_
      refine pm_lcmp C dX11_setEntry_15 ?_
      refine pm_if_lt (tgt := 36) C dX11_setEntry_16 (by decide) (fun c7 => ?_) (fun c7 => ?_)
      · have hf := pm_it hf ((pm_lg_lt _ _).mp c7)
        exact pm_sub [0, 1, 2, 3] rfl (bX11_setEntry_36 C X hf q)
      · have hf := pm_ie hf ((fun z => c7 ((pm_lg_lt _ _).mpr z)))
        refine pm_lload_n C dX11_setEntry_19 rfl rfl ?_
        refine pm_aload_n C dX11_setEntry_20 rfl rfl ?_
        refine pm_getR C dX11_setEntry_21 flX11_26 rfl k2 e4 ?_
        refine pm_iload_n C dX11_setEntry_24 rfl rfl ?_
        obtain ⟨u8, hf⟩ := pm_if hf
        obtain ⟨v9, e10, hf⟩ := pm_bd hf
        refine pm_ald (t := 4) C dX11_setEntry_25 (by decide) rfl k5 u8 e10 ?_
        obtain ⟨k11, hf⟩ := pm_if hf
        refine pm_alen (t := 2) C dX11_setEntry_26 (by decide) k11 rfl ?_
        refine pm_i2l C dX11_setEntry_27 ?_
        refine pm_lcmp C dX11_setEntry_28 ?_
        refine pm_if_ge (tgt := 36) C dX11_setEntry_29 (by decide) (fun c12 => ?_) (fun c12 => ?_)
        · have hf := pm_it hf ((pm_lg_ge _ _).mp c12)
          exact pm_sub [0, 1, 2, 3] rfl (bX11_setEntry_36 C X hf q)
        · have hf := pm_ie hf ((fun z => c12 ((pm_lg_ge _ _).mpr z)))
          refine pm_iconst (v := 1) C dX11_setEntry_32 (by decide) ?_
          refine pm_goto (tgt := 37) C dX11_setEntry_33 (by decide) ?_
          refine pm_istore (lv' := [(5, .int 1), (0, .ref a0), (1, .int p1), (2, .long p2), (4, .int p3)]) C dX11_setEntry_37 (pm_nl X (by decide)) rfl ?_
          refine pm_iload C dX11_setEntry_39 rfl ?_
          refine pm_if_eq (tgt := 55) C dX11_setEntry_41 (by decide) (fun c13 => ?_) (fun c13 => ?_)
          · have hf := pm_it hf c13
            cases hf
            exact pm_vret C X dX11_setEntry_55 rfl (Nat.le_refl _) (Nat.le_refl _) q
          · have hf := pm_ie hf c13
            refine pm_aload_n C dX11_setEntry_44 rfl rfl ?_
            refine pm_getR C dX11_setEntry_45 flX11_26 rfl k2 e4 ?_
            refine pm_iload_n C dX11_setEntry_48 rfl rfl ?_
            obtain ⟨u14, hf⟩ := pm_if hf
            obtain ⟨v15, e16, hf⟩ := pm_bd hf
            refine pm_ald (t := 4) C dX11_setEntry_49 (by decide) rfl k5 u14 e16 ?_
            refine pm_lload_n C dX11_setEntry_50 rfl rfl ?_
            refine pm_l2i C dX11_setEntry_51 ?_
            refine pm_iload C dX11_setEntry_52 rfl ?_
            obtain ⟨k17, hf⟩ := pm_if hf
            obtain ⟨u18, hf⟩ := pm_if hf
            refine pm_iast C dX11_setEntry_54 k17 u18 ?_
            cases hf
            exact pm_vret C X dX11_setEntry_55 rfl (Nat.le_refl _) (Nat.le_refl _) q
theorem dX12_argument_0 : decode cX12_argument 0 = .ok (.aload_n 0, 1) := by decide +kernel
theorem dX12_argument_1 : decode cX12_argument 1 = .ok (.getfield 191, 3) := by decide +kernel
theorem dX12_argument_4 : decode cX12_argument 4 = .ok (.aload_n 0, 1) := by decide +kernel
theorem dX12_argument_5 : decode cX12_argument 5 = .ok (.getfield 24, 3) := by decide +kernel
theorem dX12_argument_8 : decode cX12_argument 8 = .ok (.arraylength, 1) := by decide +kernel
theorem dX12_argument_9 : decode cX12_argument 9 = .ok (.if_icmp .lt 5, 3) := by decide +kernel
theorem dX12_argument_12 : decode cX12_argument 12 = .ok (.iconst (-1), 1) := by decide +kernel
theorem dX12_argument_13 : decode cX12_argument 13 = .ok (.ireturn, 1) := by decide +kernel
theorem dX12_argument_14 : decode cX12_argument 14 = .ok (.aload_n 0, 1) := by decide +kernel
theorem dX12_argument_15 : decode cX12_argument 15 = .ok (.getfield 24, 3) := by decide +kernel
theorem dX12_argument_18 : decode cX12_argument 18 = .ok (.aload_n 0, 1) := by decide +kernel
theorem dX12_argument_19 : decode cX12_argument 19 = .ok (.getfield 191, 3) := by decide +kernel
theorem dX12_argument_22 : decode cX12_argument 22 = .ok (.lload_n 1, 1) := by decide +kernel
theorem dX12_argument_23 : decode cX12_argument 23 = .ok (.lastore, 1) := by decide +kernel
theorem dX12_argument_24 : decode cX12_argument 24 = .ok (.aload_n 0, 1) := by decide +kernel
theorem dX12_argument_25 : decode cX12_argument 25 = .ok (.dup, 1) := by decide +kernel
theorem dX12_argument_26 : decode cX12_argument 26 = .ok (.getfield 191, 3) := by decide +kernel
theorem dX12_argument_29 : decode cX12_argument 29 = .ok (.iconst 1, 1) := by decide +kernel
theorem dX12_argument_30 : decode cX12_argument 30 = .ok (.iadd, 1) := by decide +kernel
theorem dX12_argument_31 : decode cX12_argument 31 = .ok (.putfield 191, 3) := by decide +kernel
theorem dX12_argument_34 : decode cX12_argument 34 = .ok (.aload_n 0, 1) := by decide +kernel
theorem dX12_argument_35 : decode cX12_argument 35 = .ok (.getfield 191, 3) := by decide +kernel
theorem dX12_argument_38 : decode cX12_argument 38 = .ok (.ireturn, 1) := by decide +kernel
def fX12_argument (h : pm_H) (a0 : Nat) (p1 : Int64) : Option (Int32 × pm_H) := if pm_kd h a0 = 12 then (pm_R h a0 14).bind fun v2 => if pm_kd h v2 = 35 then if (pm_I h a0 15) < (Int32.ofNat (pm_ln h v2)) then (if pm_in (pm_I h a0 15) (pm_ln h v2) then pm_let ((pm_I (pm_setL h v2 ((pm_I h a0 15).toNatClampNeg) p1) a0 15) + 1) fun y7 => some ((pm_I (pm_setI (pm_setL h v2 ((pm_I h a0 15).toNatClampNeg) p1) a0 15 y7) a0 15, pm_setI (pm_setL h v2 ((pm_I h a0 15).toNatClampNeg) p1) a0 15 y7)) else none) else (some (((-1), h))) else none else none
set_option maxHeartbeats 4000000 in
set_option maxRecDepth 100000 in
theorem ctX12_argument {l : Launch} {G : pm_Gl} {h : pm_H} {a0 : Nat} {p1 : Int64} {r : (Int32 × pm_H)} {Qr : Option Value → pm_H → Prop} (hf : fX12_argument h a0 p1 = some r) (q : Qr (some (.int r.1)) r.2) : pm_Ct l G mX12_argument [.ref a0, .long p1] h 0 0 Qr := by
  refine pm_body pnX12 (Nat.le_of_ble_eq_true rfl) (fun g C X => ?_)
  have C : pm_C g cX12_argument RX12 := C
  show pm_G g 0 [(0, .ref a0), (1, .long p1)] [] h 0 0
  unfold fX12_argument at hf
  refine pm_aload_n C dX12_argument_0 rfl rfl ?_
  obtain ⟨k1, hf⟩ := pm_if hf
  refine pm_getI C dX12_argument_1 flX12_191 rfl k1 rfl ?_
  refine pm_aload_n C dX12_argument_4 rfl rfl ?_
  obtain ⟨v2, e3, hf⟩ := pm_bd hf
  refine pm_getR C dX12_argument_5 flX12_24 rfl k1 e3 ?_
  obtain ⟨k4, hf⟩ := pm_if hf
  refine pm_alen (t := 3) C dX12_argument_8 (by decide) k4 rfl ?_
  refine pm_icmp_lt (tgt := 14) C dX12_argument_9 (by decide) (fun c5 => ?_) (fun c5 => ?_)
  · have hf := pm_it hf c5
    refine pm_aload_n C dX12_argument_14 rfl rfl ?_
    refine pm_getR C dX12_argument_15 flX12_24 rfl k1 e3 ?_
    refine pm_aload_n C dX12_argument_18 rfl rfl ?_
    refine pm_getI C dX12_argument_19 flX12_191 rfl k1 rfl ?_
    refine pm_lload_n C dX12_argument_22 rfl rfl ?_
    obtain ⟨u6, hf⟩ := pm_if hf
    refine pm_last C dX12_argument_23 k4 u6 ?_
    refine pm_aload_n C dX12_argument_24 rfl rfl ?_
    refine pm_dup C dX12_argument_25 rfl ?_
    refine pm_getI C dX12_argument_26 flX12_191 rfl k1 rfl ?_
    refine pm_iconst (v := 1) C dX12_argument_29 (by decide) ?_
    refine pm_iadd C dX12_argument_30 ?_
    obtain ⟨y7, e8, hf⟩ := pm_lt hf
    refine pm_topI e8 ?_
    refine pm_putI C dX12_argument_31 flX12_191 rfl rfl k1 rfl rfl ?_
    refine pm_aload_n C dX12_argument_34 rfl rfl ?_
    refine pm_getI C dX12_argument_35 flX12_191 rfl k1 rfl ?_
    cases hf
    exact pm_iret C X dX12_argument_38 rfl (Nat.le_refl _) (Nat.le_refl _) q
  · have hf := pm_ie hf c5
    refine pm_iconst (v := (-1)) C dX12_argument_12 (by decide) ?_
    cases hf
    exact pm_iret C X dX12_argument_13 rfl (Nat.le_refl _) (Nat.le_refl _) q
theorem dX12_fault_0 : decode cX12_fault 0 = .ok (.aload_n 0, 1) := by decide +kernel
theorem dX12_fault_1 : decode cX12_fault 1 = .ok (.getfield 86, 3) := by decide +kernel
theorem dX12_fault_4 : decode cX12_fault 4 = .ok (.ifCond .ne 5, 3) := by decide +kernel
theorem dX12_fault_7 : decode cX12_fault 7 = .ok (.iconst (-1), 1) := by decide +kernel
theorem dX12_fault_8 : decode cX12_fault 8 = .ok (.ireturn, 1) := by decide +kernel
theorem dX12_fault_9 : decode cX12_fault 9 = .ok (.iload_n 1, 1) := by decide +kernel
theorem dX12_fault_10 : decode cX12_fault 10 = .ok (.ifCond .ne 10, 3) := by decide +kernel
theorem dX12_fault_13 : decode cX12_fault 13 = .ok (.aload_n 0, 1) := by decide +kernel
theorem dX12_fault_14 : decode cX12_fault 14 = .ok (.getfield 106, 3) := by decide +kernel
theorem dX12_fault_17 : decode cX12_fault 17 = .ok (.goto 16, 3) := by decide +kernel
theorem dX12_fault_20 : decode cX12_fault 20 = .ok (.iload_n 1, 1) := by decide +kernel
theorem dX12_fault_21 : decode cX12_fault 21 = .ok (.iconst 1, 1) := by decide +kernel
theorem dX12_fault_22 : decode cX12_fault 22 = .ok (.if_icmp .ne 10, 3) := by decide +kernel
theorem dX12_fault_25 : decode cX12_fault 25 = .ok (.aload_n 0, 1) := by decide +kernel
theorem dX12_fault_26 : decode cX12_fault 26 = .ok (.getfield 112, 3) := by decide +kernel
theorem dX12_fault_29 : decode cX12_fault 29 = .ok (.goto 4, 3) := by decide +kernel
theorem dX12_fault_32 : decode cX12_fault 32 = .ok (.iconst (-1), 1) := by decide +kernel
theorem dX12_fault_33 : decode cX12_fault 33 = .ok (.ireturn, 1) := by decide +kernel
def fX12_fault (h : pm_H) (a0 : Nat) (p1 : Int32) : Option Int32 := if pm_kd h a0 = 12 then if (pm_I h a0 5) = 0 then (some ((-1))) else (if p1 = 0 then (some (pm_I h a0 6)) else (if p1 = 1 then (some (pm_I h a0 7)) else (some ((-1))))) else none
set_option maxHeartbeats 4000000 in
set_option maxRecDepth 100000 in
theorem ctX12_fault {l : Launch} {G : pm_Gl} {h : pm_H} {a0 : Nat} {p1 : Int32} {r : Int32} {Qr : Option Value → pm_H → Prop} (hf : fX12_fault h a0 p1 = some r) (q : Qr (some (.int r)) h) : pm_Ct l G mX12_fault [.ref a0, .int p1] h 0 0 Qr := by
  refine pm_body pnX12 (Nat.le_of_ble_eq_true rfl) (fun g C X => ?_)
  have C : pm_C g cX12_fault RX12 := C
  show pm_G g 0 [(0, .ref a0), (1, .int p1)] [] h 0 0
  unfold fX12_fault at hf
  refine pm_aload_n C dX12_fault_0 rfl rfl ?_
  obtain ⟨k1, hf⟩ := pm_if hf
  refine pm_getI C dX12_fault_1 flX12_86 rfl k1 rfl ?_
  refine pm_if_ne (tgt := 9) C dX12_fault_4 (by decide) (fun c2 => ?_) (fun c2 => ?_)
  · have hf := pm_ie hf c2
    refine pm_iload_n C dX12_fault_9 rfl rfl ?_
    refine pm_if_ne (tgt := 20) C dX12_fault_10 (by decide) (fun c3 => ?_) (fun c3 => ?_)
    · have hf := pm_ie hf c3
      refine pm_iload_n C dX12_fault_20 rfl rfl ?_
      refine pm_iconst (v := 1) C dX12_fault_21 (by decide) ?_
      refine pm_icmp_ne (tgt := 32) C dX12_fault_22 (by decide) (fun c4 => ?_) (fun c4 => ?_)
      · have hf := pm_ie hf c4
        refine pm_iconst (v := (-1)) C dX12_fault_32 (by decide) ?_
        cases hf
        exact pm_iret C X dX12_fault_33 rfl (Nat.le_refl _) (Nat.le_refl _) q
      · have hf := pm_it hf c4
        refine pm_aload_n C dX12_fault_25 rfl rfl ?_
        refine pm_getI C dX12_fault_26 flX12_112 rfl k1 rfl ?_
        refine pm_goto (tgt := 33) C dX12_fault_29 (by decide) ?_
        cases hf
        exact pm_iret C X dX12_fault_33 rfl (Nat.le_refl _) (Nat.le_refl _) q
    · have hf := pm_it hf c3
      refine pm_aload_n C dX12_fault_13 rfl rfl ?_
      refine pm_getI C dX12_fault_14 flX12_106 rfl k1 rfl ?_
      refine pm_goto (tgt := 33) C dX12_fault_17 (by decide) ?_
      cases hf
      exact pm_iret C X dX12_fault_33 rfl (Nat.le_refl _) (Nat.le_refl _) q
  · have hf := pm_it hf c2
    refine pm_iconst (v := (-1)) C dX12_fault_7 (by decide) ?_
    cases hf
    exact pm_iret C X dX12_fault_8 rfl (Nat.le_refl _) (Nat.le_refl _) q
theorem dX12_give_0 : decode cX12_give 0 = .ok (.aload_n 0, 1) := by decide +kernel
theorem dX12_give_1 : decode cX12_give 1 = .ok (.getfield 61, 3) := by decide +kernel
theorem dX12_give_4 : decode cX12_give 4 = .ok (.invokevirtual 156, 3) := by decide +kernel
theorem dX12_give_7 : decode cX12_give 7 = .ok (.ifCond .ne 5, 3) := by decide +kernel
theorem dX12_give_10 : decode cX12_give 10 = .ok (.iconst 0, 1) := by decide +kernel
theorem dX12_give_11 : decode cX12_give 11 = .ok (.ireturn, 1) := by decide +kernel
theorem dX12_give_12 : decode cX12_give 12 = .ok (.aload_n 0, 1) := by decide +kernel
theorem dX12_give_13 : decode cX12_give 13 = .ok (.getfield 61, 3) := by decide +kernel
theorem dX12_give_16 : decode cX12_give 16 = .ok (.bipush 6, 2) := by decide +kernel
theorem dX12_give_18 : decode cX12_give 18 = .ok (.invokevirtual 205, 3) := by decide +kernel
theorem dX12_give_21 : decode cX12_give 21 = .ok (.iconst 1, 1) := by decide +kernel
theorem dX12_give_22 : decode cX12_give 22 = .ok (.ireturn, 1) := by decide +kernel
def fX12_give (h : pm_H) (a0 : Nat) : Option (Int32 × pm_H) := if pm_kd h a0 = 12 then (pm_R h a0 11).bind fun v2 => if pm_kd h v2 = 5 then (fX5_isBusy h v2).bind fun v5 => if v5 = 0 then (some ((0, h))) else ((fX5_stop h v2 6).bind fun v8 => some ((1, v8))) else none else none
set_option maxHeartbeats 4000000 in
set_option maxRecDepth 100000 in
theorem ctX12_give {l : Launch} {G : pm_Gl} {h : pm_H} {a0 : Nat} {r : (Int32 × pm_H)} {Qr : Option Value → pm_H → Prop} (hf : fX12_give h a0 = some r) (q : Qr (some (.int r.1)) r.2) : pm_Ct l G mX12_give [.ref a0] h 0 0 Qr := by
  refine pm_body pnX12 (Nat.le_of_ble_eq_true rfl) (fun g C X => ?_)
  have C : pm_C g cX12_give RX12 := C
  show pm_G g 0 [(0, .ref a0)] [] h 0 0
  unfold fX12_give at hf
  refine pm_aload_n C dX12_give_0 rfl rfl ?_
  obtain ⟨k1, hf⟩ := pm_if hf
  obtain ⟨v2, e3, hf⟩ := pm_bd hf
  refine pm_getR C dX12_give_1 flX12_61 rfl k1 e3 ?_
  obtain ⟨k4, hf⟩ := pm_if hf
  obtain ⟨v5, e6, hf⟩ := pm_bd hf
  refine pm_callV (as := []) (st := []) C X dX12_give_4 lnX12_156 myX5_isBusy viX5_isBusy ⟨by decide, by decide⟩ rfl rfl k4 (Nat.le_of_ble_eq_true rfl) (Nat.le_refl _) (Nat.le_refl _) (ctX5_isBusy e6 ?_)
  show pm_G g 7 [(0, .ref a0)] [.int v5] h 0 0
  refine pm_if_ne (tgt := 12) C dX12_give_7 (by decide) (fun c7 => ?_) (fun c7 => ?_)
  · have hf := pm_ie hf c7
    refine pm_aload_n C dX12_give_12 rfl rfl ?_
    refine pm_getR C dX12_give_13 flX12_61 rfl k1 e3 ?_
    refine pm_bipush (v := 6) C dX12_give_16 (by decide) ?_
    obtain ⟨v8, e9, hf⟩ := pm_bd hf
    refine pm_callV (as := [.int 6]) (st := []) C X dX12_give_18 lnX12_205 myX5_stop viX5_stop ⟨by decide, by decide⟩ rfl rfl k4 (Nat.le_of_ble_eq_true rfl) (Nat.le_refl _) (Nat.le_refl _) (ctX5_stop e9 ?_)
    show pm_G g 21 [(0, .ref a0)] [] v8 0 0
    refine pm_iconst (v := 1) C dX12_give_21 (by decide) ?_
    cases hf
    exact pm_zret C X dX12_give_22 rfl (by decide) (Nat.le_refl _) (Nat.le_refl _) q
  · have hf := pm_it hf c7
    refine pm_iconst (v := 0) C dX12_give_10 (by decide) ?_
    cases hf
    exact pm_zret C X dX12_give_11 rfl (by decide) (Nat.le_refl _) (Nat.le_refl _) q
theorem dX12_index_0 : decode cX12_index 0 = .ok (.lload_n 0, 1) := by decide +kernel
theorem dX12_index_1 : decode cX12_index 1 = .ok (.lconst 0, 1) := by decide +kernel
theorem dX12_index_2 : decode cX12_index 2 = .ok (.lcmp, 1) := by decide +kernel
theorem dX12_index_3 : decode cX12_index 3 = .ok (.ifCond .lt 11, 3) := by decide +kernel
theorem dX12_index_6 : decode cX12_index 6 = .ok (.lload_n 0, 1) := by decide +kernel
theorem dX12_index_7 : decode cX12_index 7 = .ok (.ldc2_w 223, 3) := by decide +kernel
theorem dX12_index_10 : decode cX12_index 10 = .ok (.lcmp, 1) := by decide +kernel
theorem dX12_index_11 : decode cX12_index 11 = .ok (.ifCond .le 9, 3) := by decide +kernel
theorem dX12_index_14 : decode cX12_index 14 = .ok (.ldc_w 304, 3) := by decide +kernel
theorem dX12_index_17 : decode cX12_index 17 = .ok (.goto 5, 3) := by decide +kernel
theorem dX12_index_20 : decode cX12_index 20 = .ok (.lload_n 0, 1) := by decide +kernel
theorem dX12_index_21 : decode cX12_index 21 = .ok (.l2i, 1) := by decide +kernel
theorem dX12_index_22 : decode cX12_index 22 = .ok (.ireturn, 1) := by decide +kernel
def fX12_index (p1 : Int64) : Int32 := if p1 < 0 then (2147483647) else (if p1 ≤ 2147483647 then (p1.toInt32) else (2147483647))
set_option maxHeartbeats 4000000 in
set_option maxRecDepth 100000 in
theorem ctX12_index {l : Launch} {G : pm_Gl} {h : pm_H} {p1 : Int64} {r : Int32} {Qr : Option Value → pm_H → Prop} (hf : fX12_index p1 = r) (q : Qr (some (.int r)) h) : pm_Ct l G mX12_index [.long p1] h 0 0 Qr := by
  refine pm_body pnX12 (Nat.le_of_ble_eq_true rfl) (fun g C X => ?_)
  have C : pm_C g cX12_index RX12 := C
  show pm_G g 0 [(0, .long p1)] [] h 0 0
  unfold fX12_index at hf
  refine pm_lload_n C dX12_index_0 rfl rfl ?_
  refine pm_lconst (v := 0) C dX12_index_1 (by decide) ?_
  refine pm_lcmp C dX12_index_2 ?_
  refine pm_if_lt (tgt := 14) C dX12_index_3 (by decide) (fun c1 => ?_) (fun c1 => ?_)
  · have hf := pm_it hf ((pm_lg_lt _ _).mp c1)
    refine pm_ldcw C dX12_index_14 cnX12_304 ?_
    refine pm_goto (tgt := 22) C dX12_index_17 (by decide) ?_
    subst hf
    exact pm_iret C X dX12_index_22 rfl (Nat.le_refl _) (Nat.le_refl _) q
  · have hf := pm_ie hf ((fun z => c1 ((pm_lg_lt _ _).mpr z)))
    refine pm_lload_n C dX12_index_6 rfl rfl ?_
    refine pm_ldc2 C dX12_index_7 cnX12_223 ?_
    refine pm_lcmp C dX12_index_10 ?_
    refine pm_if_le (tgt := 20) C dX12_index_11 (by decide) (fun c2 => ?_) (fun c2 => ?_)
    · have hf := pm_it hf ((pm_lg_le _ _).mp c2)
      refine pm_lload_n C dX12_index_20 rfl rfl ?_
      refine pm_l2i C dX12_index_21 ?_
      subst hf
      exact pm_iret C X dX12_index_22 rfl (Nat.le_refl _) (Nat.le_refl _) q
    · have hf := pm_ie hf ((fun z => c2 ((pm_lg_le _ _).mpr z)))
      refine pm_ldcw C dX12_index_14 cnX12_304 ?_
      refine pm_goto (tgt := 22) C dX12_index_17 (by decide) ?_
      subst hf
      exact pm_iret C X dX12_index_22 rfl (Nat.le_refl _) (Nat.le_refl _) q
theorem dX12_item_0 : decode cX12_item 0 = .ok (.iload_n 1, 1) := by decide +kernel
theorem dX12_item_1 : decode cX12_item 1 = .ok (.ifCond .lt 15, 3) := by decide +kernel
theorem dX12_item_4 : decode cX12_item 4 = .ok (.iload_n 1, 1) := by decide +kernel
theorem dX12_item_5 : decode cX12_item 5 = .ok (.aload_n 0, 1) := by decide +kernel
theorem dX12_item_6 : decode cX12_item 6 = .ok (.arraylength, 1) := by decide +kernel
theorem dX12_item_7 : decode cX12_item 7 = .ok (.if_icmp .ge 9, 3) := by decide +kernel
theorem dX12_item_10 : decode cX12_item 10 = .ok (.aload_n 0, 1) := by decide +kernel
theorem dX12_item_11 : decode cX12_item 11 = .ok (.iload_n 1, 1) := by decide +kernel
theorem dX12_item_12 : decode cX12_item 12 = .ok (.iaload, 1) := by decide +kernel
theorem dX12_item_13 : decode cX12_item 13 = .ok (.goto 4, 3) := by decide +kernel
theorem dX12_item_16 : decode cX12_item 16 = .ok (.iconst 0, 1) := by decide +kernel
theorem dX12_item_17 : decode cX12_item 17 = .ok (.ireturn, 1) := by decide +kernel
def fX12_item (h : pm_H) (p1 : Nat) (p2 : Int32) : Option Int32 := if p2 < 0 then (some 0) else (if pm_kd h p1 = 34 then if (Int32.ofNat (pm_ln h p1)) ≤ p2 then (some 0) else (if pm_in p2 (pm_ln h p1) then some (pm_I h p1 p2.toNatClampNeg) else none) else none)
set_option maxHeartbeats 4000000 in
set_option maxRecDepth 100000 in
theorem ctX12_item {l : Launch} {G : pm_Gl} {h : pm_H} {p1 : Nat} {p2 : Int32} {r : Int32} {Qr : Option Value → pm_H → Prop} (hf : fX12_item h p1 p2 = some r) (q : Qr (some (.int r)) h) : pm_Ct l G mX12_item [.ref p1, .int p2] h 0 0 Qr := by
  refine pm_body pnX12 (Nat.le_of_ble_eq_true rfl) (fun g C X => ?_)
  have C : pm_C g cX12_item RX12 := C
  show pm_G g 0 [(0, .ref p1), (1, .int p2)] [] h 0 0
  unfold fX12_item at hf
  refine pm_iload_n C dX12_item_0 rfl rfl ?_
  refine pm_if_lt (tgt := 16) C dX12_item_1 (by decide) (fun c1 => ?_) (fun c1 => ?_)
  · have hf := pm_it hf c1
    refine pm_iconst (v := 0) C dX12_item_16 (by decide) ?_
    cases hf
    exact pm_iret C X dX12_item_17 rfl (Nat.le_refl _) (Nat.le_refl _) q
  · have hf := pm_ie hf c1
    refine pm_iload_n C dX12_item_4 rfl rfl ?_
    refine pm_aload_n C dX12_item_5 rfl rfl ?_
    obtain ⟨k2, hf⟩ := pm_if hf
    refine pm_alen (t := 2) C dX12_item_6 (by decide) k2 rfl ?_
    refine pm_icmp_ge (tgt := 16) C dX12_item_7 (by decide) (fun c3 => ?_) (fun c3 => ?_)
    · have hf := pm_it hf c3
      refine pm_iconst (v := 0) C dX12_item_16 (by decide) ?_
      cases hf
      exact pm_iret C X dX12_item_17 rfl (Nat.le_refl _) (Nat.le_refl _) q
    · have hf := pm_ie hf c3
      refine pm_aload_n C dX12_item_10 rfl rfl ?_
      refine pm_iload_n C dX12_item_11 rfl rfl ?_
      obtain ⟨u4, hf⟩ := pm_if hf
      refine pm_iald C dX12_item_12 k2 u4 rfl ?_
      refine pm_goto (tgt := 17) C dX12_item_13 (by decide) ?_
      cases hf
      exact pm_iret C X dX12_item_17 rfl (Nat.le_refl _) (Nat.le_refl _) q
theorem dX12_item__0 : decode cX12_item_ 0 = .ok (.iload_n 1, 1) := by decide +kernel
theorem dX12_item__1 : decode cX12_item_ 1 = .ok (.ifCond .lt 15, 3) := by decide +kernel
theorem dX12_item__4 : decode cX12_item_ 4 = .ok (.iload_n 1, 1) := by decide +kernel
theorem dX12_item__5 : decode cX12_item_ 5 = .ok (.aload_n 0, 1) := by decide +kernel
theorem dX12_item__6 : decode cX12_item_ 6 = .ok (.arraylength, 1) := by decide +kernel
theorem dX12_item__7 : decode cX12_item_ 7 = .ok (.if_icmp .ge 9, 3) := by decide +kernel
theorem dX12_item__10 : decode cX12_item_ 10 = .ok (.aload_n 0, 1) := by decide +kernel
theorem dX12_item__11 : decode cX12_item_ 11 = .ok (.iload_n 1, 1) := by decide +kernel
theorem dX12_item__12 : decode cX12_item_ 12 = .ok (.laload, 1) := by decide +kernel
theorem dX12_item__13 : decode cX12_item_ 13 = .ok (.goto 4, 3) := by decide +kernel
theorem dX12_item__16 : decode cX12_item_ 16 = .ok (.lconst 0, 1) := by decide +kernel
theorem dX12_item__17 : decode cX12_item_ 17 = .ok (.lreturn, 1) := by decide +kernel
def fX12_item_ (h : pm_H) (p1 : Nat) (p2 : Int32) : Option Int64 := if p2 < 0 then (some 0) else (if pm_kd h p1 = 35 then if (Int32.ofNat (pm_ln h p1)) ≤ p2 then (some 0) else (if pm_in p2 (pm_ln h p1) then some (pm_L h p1 p2.toNatClampNeg) else none) else none)
set_option maxHeartbeats 4000000 in
set_option maxRecDepth 100000 in
theorem ctX12_item_ {l : Launch} {G : pm_Gl} {h : pm_H} {p1 : Nat} {p2 : Int32} {r : Int64} {Qr : Option Value → pm_H → Prop} (hf : fX12_item_ h p1 p2 = some r) (q : Qr (some (.long r)) h) : pm_Ct l G mX12_item_ [.ref p1, .int p2] h 0 0 Qr := by
  refine pm_body pnX12 (Nat.le_of_ble_eq_true rfl) (fun g C X => ?_)
  have C : pm_C g cX12_item_ RX12 := C
  show pm_G g 0 [(0, .ref p1), (1, .int p2)] [] h 0 0
  unfold fX12_item_ at hf
  refine pm_iload_n C dX12_item__0 rfl rfl ?_
  refine pm_if_lt (tgt := 16) C dX12_item__1 (by decide) (fun c1 => ?_) (fun c1 => ?_)
  · have hf := pm_it hf c1
    refine pm_lconst (v := 0) C dX12_item__16 (by decide) ?_
    cases hf
    exact pm_lret C X dX12_item__17 rfl (Nat.le_refl _) (Nat.le_refl _) q
  · have hf := pm_ie hf c1
    refine pm_iload_n C dX12_item__4 rfl rfl ?_
    refine pm_aload_n C dX12_item__5 rfl rfl ?_
    obtain ⟨k2, hf⟩ := pm_if hf
    refine pm_alen (t := 3) C dX12_item__6 (by decide) k2 rfl ?_
    refine pm_icmp_ge (tgt := 16) C dX12_item__7 (by decide) (fun c3 => ?_) (fun c3 => ?_)
    · have hf := pm_it hf c3
      refine pm_lconst (v := 0) C dX12_item__16 (by decide) ?_
      cases hf
      exact pm_lret C X dX12_item__17 rfl (Nat.le_refl _) (Nat.le_refl _) q
    · have hf := pm_ie hf c3
      refine pm_aload_n C dX12_item__10 rfl rfl ?_
      refine pm_iload_n C dX12_item__11 rfl rfl ?_
      obtain ⟨u4, hf⟩ := pm_if hf
      refine pm_lald C dX12_item__12 k2 u4 rfl ?_
      refine pm_goto (tgt := 17) C dX12_item__13 (by decide) ?_
      cases hf
      exact pm_lret C X dX12_item__17 rfl (Nat.le_refl _) (Nat.le_refl _) q
theorem dX12_setItem_0 : decode cX12_setItem 0 = .ok (.iload_n 1, 1) := by decide +kernel
theorem dX12_setItem_1 : decode cX12_setItem 1 = .ok (.ifCond .lt 13, 3) := by decide +kernel
theorem dX12_setItem_4 : decode cX12_setItem 4 = .ok (.iload_n 1, 1) := by decide +kernel
theorem dX12_setItem_5 : decode cX12_setItem 5 = .ok (.aload_n 0, 1) := by decide +kernel
theorem dX12_setItem_6 : decode cX12_setItem 6 = .ok (.arraylength, 1) := by decide +kernel
theorem dX12_setItem_7 : decode cX12_setItem 7 = .ok (.if_icmp .ge 7, 3) := by decide +kernel
theorem dX12_setItem_10 : decode cX12_setItem 10 = .ok (.aload_n 0, 1) := by decide +kernel
theorem dX12_setItem_11 : decode cX12_setItem 11 = .ok (.iload_n 1, 1) := by decide +kernel
theorem dX12_setItem_12 : decode cX12_setItem 12 = .ok (.iload_n 2, 1) := by decide +kernel
theorem dX12_setItem_13 : decode cX12_setItem 13 = .ok (.iastore, 1) := by decide +kernel
theorem dX12_setItem_14 : decode cX12_setItem 14 = .ok (.return_, 1) := by decide +kernel
def fX12_setItem (h : pm_H) (p1 : Nat) (p2 : Int32) (p3 : Int32) : Option pm_H := if p2 < 0 then (some h) else (if pm_kd h p1 = 34 then if (Int32.ofNat (pm_ln h p1)) ≤ p2 then (some h) else (if pm_in p2 (pm_ln h p1) then some (pm_setI h p1 p2.toNatClampNeg p3) else none) else none)
set_option maxHeartbeats 4000000 in
set_option maxRecDepth 100000 in
theorem ctX12_setItem {l : Launch} {G : pm_Gl} {h : pm_H} {p1 : Nat} {p2 : Int32} {p3 : Int32} {r : pm_H} {Qr : Option Value → pm_H → Prop} (hf : fX12_setItem h p1 p2 p3 = some r) (q : Qr none r) : pm_Ct l G mX12_setItem [.ref p1, .int p2, .int p3] h 0 0 Qr := by
  refine pm_body pnX12 (Nat.le_of_ble_eq_true rfl) (fun g C X => ?_)
  have C : pm_C g cX12_setItem RX12 := C
  show pm_G g 0 [(0, .ref p1), (1, .int p2), (2, .int p3)] [] h 0 0
  unfold fX12_setItem at hf
  refine pm_iload_n C dX12_setItem_0 rfl rfl ?_
  refine pm_if_lt (tgt := 14) C dX12_setItem_1 (by decide) (fun c1 => ?_) (fun c1 => ?_)
  · have hf := pm_it hf c1
    cases hf
    exact pm_vret C X dX12_setItem_14 rfl (Nat.le_refl _) (Nat.le_refl _) q
  · have hf := pm_ie hf c1
    refine pm_iload_n C dX12_setItem_4 rfl rfl ?_
    refine pm_aload_n C dX12_setItem_5 rfl rfl ?_
    obtain ⟨k2, hf⟩ := pm_if hf
    refine pm_alen (t := 2) C dX12_setItem_6 (by decide) k2 rfl ?_
    refine pm_icmp_ge (tgt := 14) C dX12_setItem_7 (by decide) (fun c3 => ?_) (fun c3 => ?_)
    · have hf := pm_it hf c3
      cases hf
      exact pm_vret C X dX12_setItem_14 rfl (Nat.le_refl _) (Nat.le_refl _) q
    · have hf := pm_ie hf c3
      refine pm_aload_n C dX12_setItem_10 rfl rfl ?_
      refine pm_iload_n C dX12_setItem_11 rfl rfl ?_
      refine pm_iload_n C dX12_setItem_12 rfl rfl ?_
      obtain ⟨u4, hf⟩ := pm_if hf
      refine pm_iast C dX12_setItem_13 k2 u4 ?_
      cases hf
      exact pm_vret C X dX12_setItem_14 rfl (Nat.le_refl _) (Nat.le_refl _) q
theorem dX12_setItem__0 : decode cX12_setItem_ 0 = .ok (.iload_n 1, 1) := by decide +kernel
theorem dX12_setItem__1 : decode cX12_setItem_ 1 = .ok (.ifCond .lt 13, 3) := by decide +kernel
theorem dX12_setItem__4 : decode cX12_setItem_ 4 = .ok (.iload_n 1, 1) := by decide +kernel
theorem dX12_setItem__5 : decode cX12_setItem_ 5 = .ok (.aload_n 0, 1) := by decide +kernel
theorem dX12_setItem__6 : decode cX12_setItem_ 6 = .ok (.arraylength, 1) := by decide +kernel
theorem dX12_setItem__7 : decode cX12_setItem_ 7 = .ok (.if_icmp .ge 7, 3) := by decide +kernel
theorem dX12_setItem__10 : decode cX12_setItem_ 10 = .ok (.aload_n 0, 1) := by decide +kernel
theorem dX12_setItem__11 : decode cX12_setItem_ 11 = .ok (.iload_n 1, 1) := by decide +kernel
theorem dX12_setItem__12 : decode cX12_setItem_ 12 = .ok (.lload_n 2, 1) := by decide +kernel
theorem dX12_setItem__13 : decode cX12_setItem_ 13 = .ok (.lastore, 1) := by decide +kernel
theorem dX12_setItem__14 : decode cX12_setItem_ 14 = .ok (.return_, 1) := by decide +kernel
def fX12_setItem_ (h : pm_H) (p1 : Nat) (p2 : Int32) (p3 : Int64) : Option pm_H := if p2 < 0 then (some h) else (if pm_kd h p1 = 35 then if (Int32.ofNat (pm_ln h p1)) ≤ p2 then (some h) else (if pm_in p2 (pm_ln h p1) then some (pm_setL h p1 p2.toNatClampNeg p3) else none) else none)
set_option maxHeartbeats 4000000 in
set_option maxRecDepth 100000 in
theorem ctX12_setItem_ {l : Launch} {G : pm_Gl} {h : pm_H} {p1 : Nat} {p2 : Int32} {p3 : Int64} {r : pm_H} {Qr : Option Value → pm_H → Prop} (hf : fX12_setItem_ h p1 p2 p3 = some r) (q : Qr none r) : pm_Ct l G mX12_setItem_ [.ref p1, .int p2, .long p3] h 0 0 Qr := by
  refine pm_body pnX12 (Nat.le_of_ble_eq_true rfl) (fun g C X => ?_)
  have C : pm_C g cX12_setItem_ RX12 := C
  show pm_G g 0 [(0, .ref p1), (1, .int p2), (2, .long p3)] [] h 0 0
  unfold fX12_setItem_ at hf
  refine pm_iload_n C dX12_setItem__0 rfl rfl ?_
  refine pm_if_lt (tgt := 14) C dX12_setItem__1 (by decide) (fun c1 => ?_) (fun c1 => ?_)
  · have hf := pm_it hf c1
    cases hf
    exact pm_vret C X dX12_setItem__14 rfl (Nat.le_refl _) (Nat.le_refl _) q
  · have hf := pm_ie hf c1
    refine pm_iload_n C dX12_setItem__4 rfl rfl ?_
    refine pm_aload_n C dX12_setItem__5 rfl rfl ?_
    obtain ⟨k2, hf⟩ := pm_if hf
    refine pm_alen (t := 3) C dX12_setItem__6 (by decide) k2 rfl ?_
    refine pm_icmp_ge (tgt := 14) C dX12_setItem__7 (by decide) (fun c3 => ?_) (fun c3 => ?_)
    · have hf := pm_it hf c3
      cases hf
      exact pm_vret C X dX12_setItem__14 rfl (Nat.le_refl _) (Nat.le_refl _) q
    · have hf := pm_ie hf c3
      refine pm_aload_n C dX12_setItem__10 rfl rfl ?_
      refine pm_iload_n C dX12_setItem__11 rfl rfl ?_
      refine pm_lload_n C dX12_setItem__12 rfl rfl ?_
      obtain ⟨u4, hf⟩ := pm_if hf
      refine pm_last C dX12_setItem__13 k2 u4 ?_
      cases hf
      exact pm_vret C X dX12_setItem__14 rfl (Nat.le_refl _) (Nat.le_refl _) q
theorem dX12_state_0 : decode cX12_state 0 = .ok (.iload_n 1, 1) := by decide +kernel
theorem dX12_state_1 : decode cX12_state 1 = .ok (.tableswitch 187 0 12 #[67, 75, 83, 91, 99, 129, 134, 142, 150, 161, 172, 177, 185], 67) := by decide +kernel
theorem dX12_state_68 : decode cX12_state 68 = .ok (.aload_n 0, 1) := by decide +kernel
theorem dX12_state_69 : decode cX12_state 69 = .ok (.getfield 61, 3) := by decide +kernel
theorem dX12_state_72 : decode cX12_state 72 = .ok (.getfield 208, 3) := by decide +kernel
theorem dX12_state_75 : decode cX12_state 75 = .ok (.ireturn, 1) := by decide +kernel
theorem dX12_state_76 : decode cX12_state 76 = .ok (.aload_n 0, 1) := by decide +kernel
theorem dX12_state_77 : decode cX12_state 77 = .ok (.getfield 61, 3) := by decide +kernel
theorem dX12_state_80 : decode cX12_state 80 = .ok (.getfield 227, 3) := by decide +kernel
theorem dX12_state_83 : decode cX12_state 83 = .ok (.ireturn, 1) := by decide +kernel
theorem dX12_state_84 : decode cX12_state 84 = .ok (.aload_n 0, 1) := by decide +kernel
theorem dX12_state_85 : decode cX12_state 85 = .ok (.getfield 61, 3) := by decide +kernel
theorem dX12_state_88 : decode cX12_state 88 = .ok (.getfield 230, 3) := by decide +kernel
theorem dX12_state_91 : decode cX12_state 91 = .ok (.ireturn, 1) := by decide +kernel
theorem dX12_state_92 : decode cX12_state 92 = .ok (.aload_n 0, 1) := by decide +kernel
theorem dX12_state_93 : decode cX12_state 93 = .ok (.getfield 61, 3) := by decide +kernel
theorem dX12_state_96 : decode cX12_state 96 = .ok (.getfield 233, 3) := by decide +kernel
theorem dX12_state_99 : decode cX12_state 99 = .ok (.ireturn, 1) := by decide +kernel
theorem dX12_state_100 : decode cX12_state 100 = .ok (.aload_n 0, 1) := by decide +kernel
theorem dX12_state_101 : decode cX12_state 101 = .ok (.getfield 61, 3) := by decide +kernel
theorem dX12_state_104 : decode cX12_state 104 = .ok (.getfield 208, 3) := by decide +kernel
theorem dX12_state_107 : decode cX12_state 107 = .ok (.iconst 5, 1) := by decide +kernel
theorem dX12_state_108 : decode cX12_state 108 = .ok (.if_icmp .ne 20, 3) := by decide +kernel
theorem dX12_state_111 : decode cX12_state 111 = .ok (.aload_n 0, 1) := by decide +kernel
theorem dX12_state_112 : decode cX12_state 112 = .ok (.getfield 52, 3) := by decide +kernel
theorem dX12_state_115 : decode cX12_state 115 = .ok (.aload_n 0, 1) := by decide +kernel
theorem dX12_state_116 : decode cX12_state 116 = .ok (.getfield 61, 3) := by decide +kernel
theorem dX12_state_119 : decode cX12_state 119 = .ok (.getfield 211, 3) := by decide +kernel
theorem dX12_state_122 : decode cX12_state 122 = .ok (.invokevirtual 236, 3) := by decide +kernel
theorem dX12_state_125 : decode cX12_state 125 = .ok (.goto 4, 3) := by decide +kernel
theorem dX12_state_128 : decode cX12_state 128 = .ok (.iconst (-1), 1) := by decide +kernel
theorem dX12_state_129 : decode cX12_state 129 = .ok (.ireturn, 1) := by decide +kernel
theorem dX12_state_130 : decode cX12_state 130 = .ok (.aload_n 0, 1) := by decide +kernel
theorem dX12_state_131 : decode cX12_state 131 = .ok (.getfield 77, 3) := by decide +kernel
theorem dX12_state_134 : decode cX12_state 134 = .ok (.ireturn, 1) := by decide +kernel
theorem dX12_state_135 : decode cX12_state 135 = .ok (.aload_n 0, 1) := by decide +kernel
theorem dX12_state_136 : decode cX12_state 136 = .ok (.getfield 52, 3) := by decide +kernel
theorem dX12_state_139 : decode cX12_state 139 = .ok (.getfield 188, 3) := by decide +kernel
theorem dX12_state_142 : decode cX12_state 142 = .ok (.ireturn, 1) := by decide +kernel
theorem dX12_state_143 : decode cX12_state 143 = .ok (.aload_n 0, 1) := by decide +kernel
theorem dX12_state_144 : decode cX12_state 144 = .ok (.getfield 52, 3) := by decide +kernel
theorem dX12_state_147 : decode cX12_state 147 = .ok (.getfield 218, 3) := by decide +kernel
theorem dX12_state_150 : decode cX12_state 150 = .ok (.ireturn, 1) := by decide +kernel
theorem dX12_state_151 : decode cX12_state 151 = .ok (.aload_n 0, 1) := by decide +kernel
theorem dX12_state_152 : decode cX12_state 152 = .ok (.getfield 52, 3) := by decide +kernel
theorem dX12_state_155 : decode cX12_state 155 = .ok (.getfield 239, 3) := by decide +kernel
theorem dX12_state_158 : decode cX12_state 158 = .ok (.getfield 243, 3) := by decide +kernel
theorem dX12_state_161 : decode cX12_state 161 = .ok (.ireturn, 1) := by decide +kernel
theorem dX12_state_162 : decode cX12_state 162 = .ok (.aload_n 0, 1) := by decide +kernel
theorem dX12_state_163 : decode cX12_state 163 = .ok (.getfield 52, 3) := by decide +kernel
theorem dX12_state_166 : decode cX12_state 166 = .ok (.getfield 248, 3) := by decide +kernel
theorem dX12_state_169 : decode cX12_state 169 = .ok (.getfield 252, 3) := by decide +kernel
theorem dX12_state_172 : decode cX12_state 172 = .ok (.ireturn, 1) := by decide +kernel
theorem dX12_state_173 : decode cX12_state 173 = .ok (.aload_n 0, 1) := by decide +kernel
theorem dX12_state_174 : decode cX12_state 174 = .ok (.getfield 70, 3) := by decide +kernel
theorem dX12_state_177 : decode cX12_state 177 = .ok (.ireturn, 1) := by decide +kernel
theorem dX12_state_178 : decode cX12_state 178 = .ok (.aload_n 0, 1) := by decide +kernel
theorem dX12_state_179 : decode cX12_state 179 = .ok (.getfield 52, 3) := by decide +kernel
theorem dX12_state_182 : decode cX12_state 182 = .ok (.getfield 255, 3) := by decide +kernel
theorem dX12_state_185 : decode cX12_state 185 = .ok (.ireturn, 1) := by decide +kernel
theorem dX12_state_186 : decode cX12_state 186 = .ok (.iconst 0, 1) := by decide +kernel
theorem dX12_state_187 : decode cX12_state 187 = .ok (.ireturn, 1) := by decide +kernel
theorem dX12_state_188 : decode cX12_state 188 = .ok (.iconst (-1), 1) := by decide +kernel
theorem dX12_state_189 : decode cX12_state 189 = .ok (.ireturn, 1) := by decide +kernel
def fX12_state (h : pm_H) (a0 : Nat) (p1 : Int32) : Option Int32 := if p1 = 0 then (if pm_kd h a0 = 12 then (pm_R h a0 11).bind fun v3 => if pm_kd h v3 = 5 then some (pm_I h v3 0) else none else none) else (if p1 = 1 then (if pm_kd h a0 = 12 then (pm_R h a0 11).bind fun v8 => if pm_kd h v8 = 5 then some (pm_I h v8 1) else none else none) else (if p1 = 2 then (if pm_kd h a0 = 12 then (pm_R h a0 11).bind fun v13 => if pm_kd h v13 = 5 then some (pm_I h v13 2) else none else none) else (if p1 = 3 then (if pm_kd h a0 = 12 then (pm_R h a0 11).bind fun v18 => if pm_kd h v18 = 5 then some (pm_I h v18 3) else none else none) else (if p1 = 4 then (if pm_kd h a0 = 12 then (pm_R h a0 11).bind fun v23 => if pm_kd h v23 = 5 then if (pm_I h v23 0) = 5 then ((pm_R h a0 10).bind fun v27 => if pm_kd h v27 = 10 then (fX10_hostNumber h v27 (pm_I h v23 4)).bind fun v30 => some v30 else none) else (some ((-1))) else none else none) else (if p1 = 5 then (if pm_kd h a0 = 12 then some (pm_I h a0 4) else none) else (if p1 = 6 then (if pm_kd h a0 = 12 then (pm_R h a0 10).bind fun v36 => if pm_kd h v36 = 10 then some (pm_I h v36 3) else none else none) else (if p1 = 7 then (if pm_kd h a0 = 12 then (pm_R h a0 10).bind fun v41 => if pm_kd h v41 = 10 then some (pm_I h v41 1) else none else none) else (if p1 = 8 then (if pm_kd h a0 = 12 then (pm_R h a0 10).bind fun v46 => if pm_kd h v46 = 10 then (pm_R h v46 5).bind fun v49 => if pm_kd h v49 = 6 then some (pm_I h v49 1) else none else none else none) else (if p1 = 9 then (if pm_kd h a0 = 12 then (pm_R h a0 10).bind fun v54 => if pm_kd h v54 = 10 then (pm_R h v54 4).bind fun v57 => if pm_kd h v57 = 11 then some (pm_I h v57 1) else none else none else none) else (if p1 = 10 then (if pm_kd h a0 = 12 then some (pm_I h a0 1) else none) else (if p1 = 11 then (if pm_kd h a0 = 12 then (pm_R h a0 10).bind fun v64 => if pm_kd h v64 = 10 then some (pm_I h v64 2) else none else none) else (if p1 = 12 then (some 0) else (some ((-1)))))))))))))))
set_option maxHeartbeats 4000000 in
set_option maxRecDepth 100000 in
theorem ctX12_state {l : Launch} {G : pm_Gl} {h : pm_H} {a0 : Nat} {p1 : Int32} {r : Int32} {Qr : Option Value → pm_H → Prop} (hf : fX12_state h a0 p1 = some r) (q : Qr (some (.int r)) h) : pm_Ct l G mX12_state [.ref a0, .int p1] h 0 0 Qr := by
  refine pm_body pnX12 (Nat.le_of_ble_eq_true rfl) (fun g C X => ?_)
  have C : pm_C g cX12_state RX12 := C
  show pm_G g 0 [(0, .ref a0), (1, .int p1)] [] h 0 0
  unfold fX12_state at hf
  refine pm_iload_n C dX12_state_0 rfl rfl ?_
  by_cases c1 : p1 = 0
  · have hf := pm_it hf c1
    refine pm_tableIn (tgt := 68) C dX12_state_1 (by rw [c1]; decide) (by rw [c1]; decide) (by rw [c1]; rfl) (by decide) ?_
    refine pm_aload_n C dX12_state_68 rfl rfl ?_
    obtain ⟨k2, hf⟩ := pm_if hf
    obtain ⟨v3, e4, hf⟩ := pm_bd hf
    refine pm_getR C dX12_state_69 flX12_61 rfl k2 e4 ?_
    obtain ⟨k5, hf⟩ := pm_if hf
    refine pm_getI C dX12_state_72 flX12_208 rfl k5 rfl ?_
    cases hf
    exact pm_iret C X dX12_state_75 rfl (Nat.le_refl _) (Nat.le_refl _) q
  have hf := pm_ie hf c1
  by_cases c6 : p1 = 1
  · have hf := pm_it hf c6
    refine pm_tableIn (tgt := 76) C dX12_state_1 (by rw [c6]; decide) (by rw [c6]; decide) (by rw [c6]; rfl) (by decide) ?_
    refine pm_aload_n C dX12_state_76 rfl rfl ?_
    obtain ⟨k7, hf⟩ := pm_if hf
    obtain ⟨v8, e9, hf⟩ := pm_bd hf
    refine pm_getR C dX12_state_77 flX12_61 rfl k7 e9 ?_
    obtain ⟨k10, hf⟩ := pm_if hf
    refine pm_getI C dX12_state_80 flX12_227 rfl k10 rfl ?_
    cases hf
    exact pm_iret C X dX12_state_83 rfl (Nat.le_refl _) (Nat.le_refl _) q
  have hf := pm_ie hf c6
  by_cases c11 : p1 = 2
  · have hf := pm_it hf c11
    refine pm_tableIn (tgt := 84) C dX12_state_1 (by rw [c11]; decide) (by rw [c11]; decide) (by rw [c11]; rfl) (by decide) ?_
    refine pm_aload_n C dX12_state_84 rfl rfl ?_
    obtain ⟨k12, hf⟩ := pm_if hf
    obtain ⟨v13, e14, hf⟩ := pm_bd hf
    refine pm_getR C dX12_state_85 flX12_61 rfl k12 e14 ?_
    obtain ⟨k15, hf⟩ := pm_if hf
    refine pm_getI C dX12_state_88 flX12_230 rfl k15 rfl ?_
    cases hf
    exact pm_iret C X dX12_state_91 rfl (Nat.le_refl _) (Nat.le_refl _) q
  have hf := pm_ie hf c11
  by_cases c16 : p1 = 3
  · have hf := pm_it hf c16
    refine pm_tableIn (tgt := 92) C dX12_state_1 (by rw [c16]; decide) (by rw [c16]; decide) (by rw [c16]; rfl) (by decide) ?_
    refine pm_aload_n C dX12_state_92 rfl rfl ?_
    obtain ⟨k17, hf⟩ := pm_if hf
    obtain ⟨v18, e19, hf⟩ := pm_bd hf
    refine pm_getR C dX12_state_93 flX12_61 rfl k17 e19 ?_
    obtain ⟨k20, hf⟩ := pm_if hf
    refine pm_getI C dX12_state_96 flX12_233 rfl k20 rfl ?_
    cases hf
    exact pm_iret C X dX12_state_99 rfl (Nat.le_refl _) (Nat.le_refl _) q
  have hf := pm_ie hf c16
  by_cases c21 : p1 = 4
  · have hf := pm_it hf c21
    refine pm_tableIn (tgt := 100) C dX12_state_1 (by rw [c21]; decide) (by rw [c21]; decide) (by rw [c21]; rfl) (by decide) ?_
    refine pm_aload_n C dX12_state_100 rfl rfl ?_
    obtain ⟨k22, hf⟩ := pm_if hf
    obtain ⟨v23, e24, hf⟩ := pm_bd hf
    refine pm_getR C dX12_state_101 flX12_61 rfl k22 e24 ?_
    obtain ⟨k25, hf⟩ := pm_if hf
    refine pm_getI C dX12_state_104 flX12_208 rfl k25 rfl ?_
    refine pm_iconst (v := 5) C dX12_state_107 (by decide) ?_
    refine pm_icmp_ne (tgt := 128) C dX12_state_108 (by decide) (fun c26 => ?_) (fun c26 => ?_)
    · have hf := pm_ie hf c26
      refine pm_iconst (v := (-1)) C dX12_state_128 (by decide) ?_
      cases hf
      exact pm_iret C X dX12_state_129 rfl (Nat.le_refl _) (Nat.le_refl _) q
    · have hf := pm_it hf c26
      refine pm_aload_n C dX12_state_111 rfl rfl ?_
      obtain ⟨v27, e28, hf⟩ := pm_bd hf
      refine pm_getR C dX12_state_112 flX12_52 rfl k22 e28 ?_
      refine pm_aload_n C dX12_state_115 rfl rfl ?_
      refine pm_getR C dX12_state_116 flX12_61 rfl k22 e24 ?_
      refine pm_getI C dX12_state_119 flX12_211 rfl k25 rfl ?_
      obtain ⟨k29, hf⟩ := pm_if hf
      obtain ⟨v30, e31, hf⟩ := pm_bd hf
      refine pm_callV (as := [.int (pm_I h v23 4)]) (st := []) C X dX12_state_122 lnX12_236 myX10_hostNumber viX10_hostNumber ⟨by decide, by decide⟩ rfl rfl k29 (Nat.le_of_ble_eq_true rfl) (Nat.le_refl _) (Nat.le_refl _) (ctX10_hostNumber e31 ?_)
      show pm_G g 125 [(0, .ref a0), (1, .int p1)] [.int v30] h 0 0
      refine pm_goto (tgt := 129) C dX12_state_125 (by decide) ?_
      cases hf
      exact pm_iret C X dX12_state_129 rfl (Nat.le_refl _) (Nat.le_refl _) q
  have hf := pm_ie hf c21
  by_cases c32 : p1 = 5
  · have hf := pm_it hf c32
    refine pm_tableIn (tgt := 130) C dX12_state_1 (by rw [c32]; decide) (by rw [c32]; decide) (by rw [c32]; rfl) (by decide) ?_
    refine pm_aload_n C dX12_state_130 rfl rfl ?_
    obtain ⟨k33, hf⟩ := pm_if hf
    refine pm_getI C dX12_state_131 flX12_77 rfl k33 rfl ?_
    cases hf
    exact pm_iret C X dX12_state_134 rfl (Nat.le_refl _) (Nat.le_refl _) q
  have hf := pm_ie hf c32
  by_cases c34 : p1 = 6
  · have hf := pm_it hf c34
    refine pm_tableIn (tgt := 135) C dX12_state_1 (by rw [c34]; decide) (by rw [c34]; decide) (by rw [c34]; rfl) (by decide) ?_
    refine pm_aload_n C dX12_state_135 rfl rfl ?_
    obtain ⟨k35, hf⟩ := pm_if hf
    obtain ⟨v36, e37, hf⟩ := pm_bd hf
    refine pm_getR C dX12_state_136 flX12_52 rfl k35 e37 ?_
    obtain ⟨k38, hf⟩ := pm_if hf
    refine pm_getI C dX12_state_139 flX12_188 rfl k38 rfl ?_
    cases hf
    exact pm_iret C X dX12_state_142 rfl (Nat.le_refl _) (Nat.le_refl _) q
  have hf := pm_ie hf c34
  by_cases c39 : p1 = 7
  · have hf := pm_it hf c39
    refine pm_tableIn (tgt := 143) C dX12_state_1 (by rw [c39]; decide) (by rw [c39]; decide) (by rw [c39]; rfl) (by decide) ?_
    refine pm_aload_n C dX12_state_143 rfl rfl ?_
    obtain ⟨k40, hf⟩ := pm_if hf
    obtain ⟨v41, e42, hf⟩ := pm_bd hf
    refine pm_getR C dX12_state_144 flX12_52 rfl k40 e42 ?_
    obtain ⟨k43, hf⟩ := pm_if hf
    refine pm_getI C dX12_state_147 flX12_218 rfl k43 rfl ?_
    cases hf
    exact pm_iret C X dX12_state_150 rfl (Nat.le_refl _) (Nat.le_refl _) q
  have hf := pm_ie hf c39
  by_cases c44 : p1 = 8
  · have hf := pm_it hf c44
    refine pm_tableIn (tgt := 151) C dX12_state_1 (by rw [c44]; decide) (by rw [c44]; decide) (by rw [c44]; rfl) (by decide) ?_
    refine pm_aload_n C dX12_state_151 rfl rfl ?_
    obtain ⟨k45, hf⟩ := pm_if hf
    obtain ⟨v46, e47, hf⟩ := pm_bd hf
    refine pm_getR C dX12_state_152 flX12_52 rfl k45 e47 ?_
    obtain ⟨k48, hf⟩ := pm_if hf
    obtain ⟨v49, e50, hf⟩ := pm_bd hf
    refine pm_getR C dX12_state_155 flX12_239 rfl k48 e50 ?_
    obtain ⟨k51, hf⟩ := pm_if hf
    refine pm_getI C dX12_state_158 flX12_243 rfl k51 rfl ?_
    cases hf
    exact pm_iret C X dX12_state_161 rfl (Nat.le_refl _) (Nat.le_refl _) q
  have hf := pm_ie hf c44
  by_cases c52 : p1 = 9
  · have hf := pm_it hf c52
    refine pm_tableIn (tgt := 162) C dX12_state_1 (by rw [c52]; decide) (by rw [c52]; decide) (by rw [c52]; rfl) (by decide) ?_
    refine pm_aload_n C dX12_state_162 rfl rfl ?_
    obtain ⟨k53, hf⟩ := pm_if hf
    obtain ⟨v54, e55, hf⟩ := pm_bd hf
    refine pm_getR C dX12_state_163 flX12_52 rfl k53 e55 ?_
    obtain ⟨k56, hf⟩ := pm_if hf
    obtain ⟨v57, e58, hf⟩ := pm_bd hf
    refine pm_getR C dX12_state_166 flX12_248 rfl k56 e58 ?_
    obtain ⟨k59, hf⟩ := pm_if hf
    refine pm_getI C dX12_state_169 flX12_252 rfl k59 rfl ?_
    cases hf
    exact pm_iret C X dX12_state_172 rfl (Nat.le_refl _) (Nat.le_refl _) q
  have hf := pm_ie hf c52
  by_cases c60 : p1 = 10
  · have hf := pm_it hf c60
    refine pm_tableIn (tgt := 173) C dX12_state_1 (by rw [c60]; decide) (by rw [c60]; decide) (by rw [c60]; rfl) (by decide) ?_
    refine pm_aload_n C dX12_state_173 rfl rfl ?_
    obtain ⟨k61, hf⟩ := pm_if hf
    refine pm_getI C dX12_state_174 flX12_70 rfl k61 rfl ?_
    cases hf
    exact pm_iret C X dX12_state_177 rfl (Nat.le_refl _) (Nat.le_refl _) q
  have hf := pm_ie hf c60
  by_cases c62 : p1 = 11
  · have hf := pm_it hf c62
    refine pm_tableIn (tgt := 178) C dX12_state_1 (by rw [c62]; decide) (by rw [c62]; decide) (by rw [c62]; rfl) (by decide) ?_
    refine pm_aload_n C dX12_state_178 rfl rfl ?_
    obtain ⟨k63, hf⟩ := pm_if hf
    obtain ⟨v64, e65, hf⟩ := pm_bd hf
    refine pm_getR C dX12_state_179 flX12_52 rfl k63 e65 ?_
    obtain ⟨k66, hf⟩ := pm_if hf
    refine pm_getI C dX12_state_182 flX12_255 rfl k66 rfl ?_
    cases hf
    exact pm_iret C X dX12_state_185 rfl (Nat.le_refl _) (Nat.le_refl _) q
  have hf := pm_ie hf c62
  by_cases c67 : p1 = 12
  · have hf := pm_it hf c67
    refine pm_tableIn (tgt := 186) C dX12_state_1 (by rw [c67]; decide) (by rw [c67]; decide) (by rw [c67]; rfl) (by decide) ?_
    refine pm_iconst (v := 0) C dX12_state_186 (by decide) ?_
    cases hf
    exact pm_iret C X dX12_state_187 rfl (Nat.le_refl _) (Nat.le_refl _) q
  have hf := pm_ie hf c67
  have nc1 := lv_neT c1 (by decide : (0 : Int32).toInt = 0)
  have nc6 := lv_neT c6 (by decide : (1 : Int32).toInt = 1)
  have nc11 := lv_neT c11 (by decide : (2 : Int32).toInt = 2)
  have nc16 := lv_neT c16 (by decide : (3 : Int32).toInt = 3)
  have nc21 := lv_neT c21 (by decide : (4 : Int32).toInt = 4)
  have nc32 := lv_neT c32 (by decide : (5 : Int32).toInt = 5)
  have nc34 := lv_neT c34 (by decide : (6 : Int32).toInt = 6)
  have nc39 := lv_neT c39 (by decide : (7 : Int32).toInt = 7)
  have nc44 := lv_neT c44 (by decide : (8 : Int32).toInt = 8)
  have nc52 := lv_neT c52 (by decide : (9 : Int32).toInt = 9)
  have nc60 := lv_neT c60 (by decide : (10 : Int32).toInt = 10)
  have nc62 := lv_neT c62 (by decide : (11 : Int32).toInt = 11)
  have nc67 := lv_neT c67 (by decide : (12 : Int32).toInt = 12)
  refine pm_tableOut (tgt := 188) C dX12_state_1 (by omega) (by decide) ?_
  refine pm_iconst (v := (-1)) C dX12_state_188 (by decide) ?_
  cases hf
  exact pm_iret C X dX12_state_189 rfl (Nat.le_refl _) (Nat.le_refl _) q
theorem dX12_tier_0 : decode cX12_tier 0 = .ok (.iload_n 1, 1) := by decide +kernel
theorem dX12_tier_1 : decode cX12_tier 1 = .ok (.ifCond .ge 5, 3) := by decide +kernel
theorem dX12_tier_4 : decode cX12_tier 4 = .ok (.iconst (-1), 1) := by decide +kernel
theorem dX12_tier_5 : decode cX12_tier 5 = .ok (.ireturn, 1) := by decide +kernel
theorem dX12_tier_6 : decode cX12_tier 6 = .ok (.aload_n 0, 1) := by decide +kernel
theorem dX12_tier_7 : decode cX12_tier 7 = .ok (.getfield 61, 3) := by decide +kernel
theorem dX12_tier_10 : decode cX12_tier 10 = .ok (.getfield 267, 3) := by decide +kernel
theorem dX12_tier_13 : decode cX12_tier 13 = .ok (.istore_n 2, 1) := by decide +kernel
theorem dX12_tier_14 : decode cX12_tier 14 = .ok (.aload_n 0, 1) := by decide +kernel
theorem dX12_tier_15 : decode cX12_tier 15 = .ok (.getfield 61, 3) := by decide +kernel
theorem dX12_tier_18 : decode cX12_tier 18 = .ok (.iload_n 1, 1) := by decide +kernel
theorem dX12_tier_19 : decode cX12_tier 19 = .ok (.putfield 267, 3) := by decide +kernel
theorem dX12_tier_22 : decode cX12_tier 22 = .ok (.iload_n 2, 1) := by decide +kernel
theorem dX12_tier_23 : decode cX12_tier 23 = .ok (.ireturn, 1) := by decide +kernel
def fX12_tier (h : pm_H) (a0 : Nat) (p1 : Int32) : Option (Int32 × pm_H) := if 0 ≤ p1 then (if pm_kd h a0 = 12 then (pm_R h a0 11).bind fun v3 => if pm_kd h v3 = 5 then pm_let (pm_I h v3 5) fun y6 => some ((y6, pm_setI h v3 5 p1)) else none else none) else (some (((-1), h)))
set_option maxHeartbeats 4000000 in
set_option maxRecDepth 100000 in
theorem ctX12_tier {l : Launch} {G : pm_Gl} {h : pm_H} {a0 : Nat} {p1 : Int32} {r : (Int32 × pm_H)} {Qr : Option Value → pm_H → Prop} (hf : fX12_tier h a0 p1 = some r) (q : Qr (some (.int r.1)) r.2) : pm_Ct l G mX12_tier [.ref a0, .int p1] h 0 0 Qr := by
  refine pm_body pnX12 (Nat.le_of_ble_eq_true rfl) (fun g C X => ?_)
  have C : pm_C g cX12_tier RX12 := C
  show pm_G g 0 [(0, .ref a0), (1, .int p1)] [] h 0 0
  unfold fX12_tier at hf
  refine pm_iload_n C dX12_tier_0 rfl rfl ?_
  refine pm_if_ge (tgt := 6) C dX12_tier_1 (by decide) (fun c1 => ?_) (fun c1 => ?_)
  · have hf := pm_it hf c1
    refine pm_aload_n C dX12_tier_6 rfl rfl ?_
    obtain ⟨k2, hf⟩ := pm_if hf
    obtain ⟨v3, e4, hf⟩ := pm_bd hf
    refine pm_getR C dX12_tier_7 flX12_61 rfl k2 e4 ?_
    obtain ⟨k5, hf⟩ := pm_if hf
    refine pm_getI C dX12_tier_10 flX12_267 rfl k5 rfl ?_
    obtain ⟨y6, e7, hf⟩ := pm_lt hf
    refine pm_topI e7 ?_
    refine pm_istore_n (lv' := [(2, .int y6), (0, .ref a0), (1, .int p1)]) C dX12_tier_13 rfl (pm_nl X (by decide)) rfl ?_
    refine pm_aload_n C dX12_tier_14 rfl rfl ?_
    refine pm_getR C dX12_tier_15 flX12_61 rfl k2 e4 ?_
    refine pm_iload_n C dX12_tier_18 rfl rfl ?_
    refine pm_putI C dX12_tier_19 flX12_267 rfl rfl k5 rfl rfl ?_
    refine pm_iload_n C dX12_tier_22 rfl rfl ?_
    cases hf
    exact pm_iret C X dX12_tier_23 rfl (Nat.le_refl _) (Nat.le_refl _) q
  · have hf := pm_ie hf c1
    refine pm_iconst (v := (-1)) C dX12_tier_4 (by decide) ?_
    cases hf
    exact pm_iret C X dX12_tier_5 rfl (Nat.le_refl _) (Nat.le_refl _) q
theorem dX12_value_0 : decode cX12_value 0 = .ok (.aload_n 0, 1) := by decide +kernel
theorem dX12_value_1 : decode cX12_value 1 = .ok (.getfield 61, 3) := by decide +kernel
theorem dX12_value_4 : decode cX12_value 4 = .ok (.getfield 208, 3) := by decide +kernel
theorem dX12_value_7 : decode cX12_value 7 = .ok (.iconst 2, 1) := by decide +kernel
theorem dX12_value_8 : decode cX12_value 8 = .ok (.if_icmp .eq 14, 3) := by decide +kernel
theorem dX12_value_11 : decode cX12_value 11 = .ok (.aload_n 0, 1) := by decide +kernel
theorem dX12_value_12 : decode cX12_value 12 = .ok (.getfield 61, 3) := by decide +kernel
theorem dX12_value_15 : decode cX12_value 15 = .ok (.getfield 208, 3) := by decide +kernel
theorem dX12_value_18 : decode cX12_value 18 = .ok (.iconst 5, 1) := by decide +kernel
theorem dX12_value_19 : decode cX12_value 19 = .ok (.if_icmp .ne 7, 3) := by decide +kernel
theorem dX12_value_22 : decode cX12_value 22 = .ok (.iconst 1, 1) := by decide +kernel
theorem dX12_value_23 : decode cX12_value 23 = .ok (.goto 4, 3) := by decide +kernel
theorem dX12_value_26 : decode cX12_value 26 = .ok (.iconst 0, 1) := by decide +kernel
theorem dX12_value_27 : decode cX12_value 27 = .ok (.istore_n 2, 1) := by decide +kernel
theorem dX12_value_28 : decode cX12_value 28 = .ok (.iload_n 2, 1) := by decide +kernel
theorem dX12_value_29 : decode cX12_value 29 = .ok (.ifCond .eq 32, 3) := by decide +kernel
theorem dX12_value_32 : decode cX12_value 32 = .ok (.iload_n 1, 1) := by decide +kernel
theorem dX12_value_33 : decode cX12_value 33 = .ok (.ifCond .lt 28, 3) := by decide +kernel
theorem dX12_value_36 : decode cX12_value 36 = .ok (.iload_n 1, 1) := by decide +kernel
theorem dX12_value_37 : decode cX12_value 37 = .ok (.aload_n 0, 1) := by decide +kernel
theorem dX12_value_38 : decode cX12_value 38 = .ok (.getfield 61, 3) := by decide +kernel
theorem dX12_value_41 : decode cX12_value 41 = .ok (.getfield 258, 3) := by decide +kernel
theorem dX12_value_44 : decode cX12_value 44 = .ok (.if_icmp .ge 17, 3) := by decide +kernel
theorem dX12_value_47 : decode cX12_value 47 = .ok (.aload_n 0, 1) := by decide +kernel
theorem dX12_value_48 : decode cX12_value 48 = .ok (.getfield 61, 3) := by decide +kernel
theorem dX12_value_51 : decode cX12_value 51 = .ok (.getfield 261, 3) := by decide +kernel
theorem dX12_value_54 : decode cX12_value 54 = .ok (.iload_n 1, 1) := by decide +kernel
theorem dX12_value_55 : decode cX12_value 55 = .ok (.invokestatic 264, 3) := by decide +kernel
theorem dX12_value_58 : decode cX12_value 58 = .ok (.goto 4, 3) := by decide +kernel
theorem dX12_value_61 : decode cX12_value 61 = .ok (.lconst 0, 1) := by decide +kernel
theorem dX12_value_62 : decode cX12_value 62 = .ok (.lreturn, 1) := by decide +kernel
def fX12_value_b27 (h : pm_H) (x0 : Nat) (x1 : Int32) (s0 : Int32) : Option Int64 := if s0 = 0 then (some 0) else (if x1 < 0 then (some 0) else (if pm_kd h x0 = 12 then (pm_R h x0 11).bind fun v10 => if pm_kd h v10 = 5 then if (pm_I h v10 7) ≤ x1 then (some 0) else ((pm_R h v10 6).bind fun v14 => (fX12_item_ h v14 x1).bind fun v16 => some v16) else none else none))
def fX12_value_b22 (h : pm_H) (x0 : Nat) (x1 : Int32) : Option Int64 := fX12_value_b27 h x0 x1 1
def fX12_value (h : pm_H) (a0 : Nat) (p1 : Int32) : Option Int64 := if pm_kd h a0 = 12 then (pm_R h a0 11).bind fun v2 => if pm_kd h v2 = 5 then if (pm_I h v2 0) = 2 then (fX12_value_b22 h a0 p1) else (if (pm_I h v2 0) = 5 then (fX12_value_b22 h a0 p1) else (fX12_value_b27 h a0 p1 0)) else none else none
set_option maxHeartbeats 4000000 in
set_option maxRecDepth 100000 in
theorem bX12_value_27 {g : pm_Gm} {l : Launch} {G : pm_Gl} {Qr : Option Value → pm_H → Prop} (C : pm_C g cX12_value RX12) (X : pm_X g l G mX12_value 0 0 Qr) {h : pm_H} {x0 : Nat} {x1 : Int32} {s0 : Int32} {r : Int64} (hf : fX12_value_b27 h x0 x1 s0 = some r) (q : Qr (some (.long r)) h) : pm_G g 27 [(0, .ref x0), (1, .int x1)] [.int s0] h 0 0 := by
  unfold fX12_value_b27 at hf
  refine pm_istore_n (lv' := [(2, .int s0), (0, .ref x0), (1, .int x1)]) C dX12_value_27 rfl (pm_nl X (by decide)) rfl ?_
  refine pm_iload_n C dX12_value_28 rfl rfl ?_
  refine pm_if_eq (tgt := 61) C dX12_value_29 (by decide) (fun c7 => ?_) (fun c7 => ?_)
  · have hf := pm_it hf c7
    refine pm_lconst (v := 0) C dX12_value_61 (by decide) ?_
    cases hf
    exact pm_lret C X dX12_value_62 rfl (Nat.le_refl _) (Nat.le_refl _) q
  · have hf := pm_ie hf c7
    refine pm_iload_n C dX12_value_32 rfl rfl ?_
    refine pm_if_lt (tgt := 61) C dX12_value_33 (by decide) (fun c8 => ?_) (fun c8 => ?_)
    · have hf := pm_it hf c8
      refine pm_lconst (v := 0) C dX12_value_61 (by decide) ?_
      cases hf
      exact pm_lret C X dX12_value_62 rfl (Nat.le_refl _) (Nat.le_refl _) q
    · have hf := pm_ie hf c8
      refine pm_iload_n C dX12_value_36 rfl rfl ?_
      refine pm_aload_n C dX12_value_37 rfl rfl ?_
      obtain ⟨k9, hf⟩ := pm_if hf
      obtain ⟨v10, e11, hf⟩ := pm_bd hf
      refine pm_getR C dX12_value_38 flX12_61 rfl k9 e11 ?_
      obtain ⟨k12, hf⟩ := pm_if hf
      refine pm_getI C dX12_value_41 flX12_258 rfl k12 rfl ?_
      refine pm_icmp_ge (tgt := 61) C dX12_value_44 (by decide) (fun c13 => ?_) (fun c13 => ?_)
      · have hf := pm_it hf c13
        refine pm_lconst (v := 0) C dX12_value_61 (by decide) ?_
        cases hf
        exact pm_lret C X dX12_value_62 rfl (Nat.le_refl _) (Nat.le_refl _) q
      · have hf := pm_ie hf c13
        refine pm_aload_n C dX12_value_47 rfl rfl ?_
        refine pm_getR C dX12_value_48 flX12_61 rfl k9 e11 ?_
        obtain ⟨v14, e15, hf⟩ := pm_bd hf
        refine pm_getR C dX12_value_51 flX12_261 rfl k12 e15 ?_
        refine pm_iload_n C dX12_value_54 rfl rfl ?_
        obtain ⟨v16, e17, hf⟩ := pm_bd hf
        refine pm_callS (as := [.ref v14, .int x1]) (st := []) C X dX12_value_55 lnX12_264 myX12_item_ stX12_item_ ⟨by decide, by decide⟩ rfl rfl (Nat.le_of_ble_eq_true rfl) (Nat.le_refl _) (Nat.le_refl _) (ctX12_item_ e17 ?_)
        show pm_G g 58 [(2, .int s0), (0, .ref x0), (1, .int x1)] [.long v16] h 0 0
        refine pm_goto (tgt := 62) C dX12_value_58 (by decide) ?_
        cases hf
        exact pm_lret C X dX12_value_62 rfl (Nat.le_refl _) (Nat.le_refl _) q
set_option maxHeartbeats 4000000 in
set_option maxRecDepth 100000 in
theorem bX12_value_22 {g : pm_Gm} {l : Launch} {G : pm_Gl} {Qr : Option Value → pm_H → Prop} (C : pm_C g cX12_value RX12) (X : pm_X g l G mX12_value 0 0 Qr) {h : pm_H} {x0 : Nat} {x1 : Int32} {r : Int64} (hf : fX12_value_b22 h x0 x1 = some r) (q : Qr (some (.long r)) h) : pm_G g 22 [(0, .ref x0), (1, .int x1)] [] h 0 0 := by
  unfold fX12_value_b22 at hf
  refine pm_iconst (v := 1) C dX12_value_22 (by decide) ?_
  refine pm_goto (tgt := 27) C dX12_value_23 (by decide) ?_
  exact pm_sub [0, 1] rfl (bX12_value_27 C X hf q)
set_option maxHeartbeats 4000000 in
set_option maxRecDepth 100000 in
theorem ctX12_value {l : Launch} {G : pm_Gl} {h : pm_H} {a0 : Nat} {p1 : Int32} {r : Int64} {Qr : Option Value → pm_H → Prop} (hf : fX12_value h a0 p1 = some r) (q : Qr (some (.long r)) h) : pm_Ct l G mX12_value [.ref a0, .int p1] h 0 0 Qr := by
  refine pm_body pnX12 (Nat.le_of_ble_eq_true rfl) (fun g C X => ?_)
  have C : pm_C g cX12_value RX12 := C
  show pm_G g 0 [(0, .ref a0), (1, .int p1)] [] h 0 0
  unfold fX12_value at hf
  refine pm_aload_n C dX12_value_0 rfl rfl ?_
  obtain ⟨k1, hf⟩ := pm_if hf
  obtain ⟨v2, e3, hf⟩ := pm_bd hf
  refine pm_getR C dX12_value_1 flX12_61 rfl k1 e3 ?_
  obtain ⟨k4, hf⟩ := pm_if hf
  refine pm_getI C dX12_value_4 flX12_208 rfl k4 rfl ?_
  refine pm_iconst (v := 2) C dX12_value_7 (by decide) ?_
  refine pm_icmp_eq (tgt := 22) C dX12_value_8 (by decide) (fun c5 => ?_) (fun c5 => ?_)
  · have hf := pm_it hf c5
    exact pm_sub [0, 1] rfl (bX12_value_22 C X hf q)
  · have hf := pm_ie hf c5
    refine pm_aload_n C dX12_value_11 rfl rfl ?_
    refine pm_getR C dX12_value_12 flX12_61 rfl k1 e3 ?_
    refine pm_getI C dX12_value_15 flX12_208 rfl k4 rfl ?_
    refine pm_iconst (v := 5) C dX12_value_18 (by decide) ?_
    refine pm_icmp_ne (tgt := 26) C dX12_value_19 (by decide) (fun c6 => ?_) (fun c6 => ?_)
    · have hf := pm_ie hf c6
      refine pm_iconst (v := 0) C dX12_value_26 (by decide) ?_
      exact pm_sub [0, 1] rfl (bX12_value_27 C X hf q)
    · have hf := pm_it hf c6
      exact pm_sub [0, 1] rfl (bX12_value_22 C X hf q)
