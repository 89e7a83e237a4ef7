theorem dX16_offer_0 : decode cX16_offer 0 = .ok (.iload_n 1, 1) := by decide +kernel
theorem dX16_offer_1 : decode cX16_offer 1 = .ok (.iconst (-1), 1) := by decide +kernel
theorem dX16_offer_2 : decode cX16_offer 2 = .ok (.if_icmp .ne 7, 3) := by decide +kernel
theorem dX16_offer_5 : decode cX16_offer 5 = .ok (.iconst 1, 1) := by decide +kernel
theorem dX16_offer_6 : decode cX16_offer 6 = .ok (.goto 4, 3) := by decide +kernel
theorem dX16_offer_9 : decode cX16_offer 9 = .ok (.iconst 0, 1) := by decide +kernel
theorem dX16_offer_10 : decode cX16_offer 10 = .ok (.istore_n 3, 1) := by decide +kernel
theorem dX16_offer_11 : decode cX16_offer 11 = .ok (.aload_n 0, 1) := by decide +kernel
theorem dX16_offer_12 : decode cX16_offer 12 = .ok (.getfield 967, 3) := by decide +kernel
theorem dX16_offer_15 : decode cX16_offer 15 = .ok (.bipush 64, 2) := by decide +kernel
theorem dX16_offer_17 : decode cX16_offer 17 = .ok (.if_icmp .eq 29, 3) := by decide +kernel
theorem dX16_offer_20 : decode cX16_offer 20 = .ok (.iload_n 3, 1) := by decide +kernel
theorem dX16_offer_21 : decode cX16_offer 21 = .ok (.ifCond .eq 16, 3) := by decide +kernel
theorem dX16_offer_24 : decode cX16_offer 24 = .ok (.iload_n 2, 1) := by decide +kernel
theorem dX16_offer_25 : decode cX16_offer 25 = .ok (.ifCond .lt 21, 3) := by decide +kernel
theorem dX16_offer_28 : decode cX16_offer 28 = .ok (.iload_n 2, 1) := by decide +kernel
theorem dX16_offer_29 : decode cX16_offer 29 = .ok (.bipush 63, 2) := by decide +kernel
theorem dX16_offer_31 : decode cX16_offer 31 = .ok (.if_icmp .le 17, 3) := by decide +kernel
theorem dX16_offer_34 : decode cX16_offer 34 = .ok (.goto 12, 3) := by decide +kernel
theorem dX16_offer_37 : decode cX16_offer 37 = .ok (.aload_n 0, 1) := by decide +kernel
theorem dX16_offer_38 : decode cX16_offer 38 = .ok (.iload_n 1, 1) := by decide +kernel
theorem dX16_offer_39 : decode cX16_offer 39 = .ok (.iload_n 2, 1) := by decide +kernel
theorem dX16_offer_40 : decode cX16_offer 40 = .ok (.invokevirtual 961, 3) := by decide +kernel
theorem dX16_offer_43 : decode cX16_offer 43 = .ok (.ifCond .ne 5, 3) := by decide +kernel
theorem dX16_offer_46 : decode cX16_offer 46 = .ok (.iconst (-1), 1) := by decide +kernel
theorem dX16_offer_47 : decode cX16_offer 47 = .ok (.ireturn, 1) := by decide +kernel
theorem dX16_offer_48 : decode cX16_offer 48 = .ok (.aload_n 0, 1) := by decide +kernel
theorem dX16_offer_49 : decode cX16_offer 49 = .ok (.getfield 158, 3) := by decide +kernel
theorem dX16_offer_52 : decode cX16_offer 52 = .ok (.aload_n 0, 1) := by decide +kernel
theorem dX16_offer_53 : decode cX16_offer 53 = .ok (.getfield 967, 3) := by decide +kernel
theorem dX16_offer_56 : decode cX16_offer 56 = .ok (.iload_n 3, 1) := by decide +kernel
theorem dX16_offer_57 : decode cX16_offer 57 = .ok (.ifCond .eq 7, 3) := by decide +kernel
theorem dX16_offer_60 : decode cX16_offer 60 = .ok (.iconst (-1), 1) := by decide +kernel
theorem dX16_offer_61 : decode cX16_offer 61 = .ok (.goto 9, 3) := by decide +kernel
theorem dX16_offer_64 : decode cX16_offer 64 = .ok (.aload_n 0, 1) := by decide +kernel
theorem dX16_offer_65 : decode cX16_offer 65 = .ok (.iload_n 1, 1) := by decide +kernel
theorem dX16_offer_66 : decode cX16_offer 66 = .ok (.iload_n 2, 1) := by decide +kernel
theorem dX16_offer_67 : decode cX16_offer 67 = .ok (.invokevirtual 955, 3) := by decide +kernel
theorem dX16_offer_70 : decode cX16_offer 70 = .ok (.iastore, 1) := by decide +kernel
theorem dX16_offer_71 : decode cX16_offer 71 = .ok (.aload_n 0, 1) := by decide +kernel
theorem dX16_offer_72 : decode cX16_offer 72 = .ok (.getfield 161, 3) := by decide +kernel
theorem dX16_offer_75 : decode cX16_offer 75 = .ok (.aload_n 0, 1) := by decide +kernel
theorem dX16_offer_76 : decode cX16_offer 76 = .ok (.getfield 967, 3) := by decide +kernel
theorem dX16_offer_79 : decode cX16_offer 79 = .ok (.iload_n 3, 1) := by decide +kernel
theorem dX16_offer_80 : decode cX16_offer 80 = .ok (.ifCond .eq 7, 3) := by decide +kernel
theorem dX16_offer_83 : decode cX16_offer 83 = .ok (.iload_n 2, 1) := by decide +kernel
theorem dX16_offer_84 : decode cX16_offer 84 = .ok (.goto 9, 3) := by decide +kernel
theorem dX16_offer_87 : decode cX16_offer 87 = .ok (.aload_n 0, 1) := by decide +kernel
theorem dX16_offer_88 : decode cX16_offer 88 = .ok (.iload_n 1, 1) := by decide +kernel
theorem dX16_offer_89 : decode cX16_offer 89 = .ok (.iload_n 2, 1) := by decide +kernel
theorem dX16_offer_90 : decode cX16_offer 90 = .ok (.invokevirtual 964, 3) := by decide +kernel
theorem dX16_offer_93 : decode cX16_offer 93 = .ok (.iastore, 1) := by decide +kernel
theorem dX16_offer_94 : decode cX16_offer 94 = .ok (.aload_n 0, 1) := by decide +kernel
theorem dX16_offer_95 : decode cX16_offer 95 = .ok (.dup, 1) := by decide +kernel
theorem dX16_offer_96 : decode cX16_offer 96 = .ok (.getfield 967, 3) := by decide +kernel
theorem dX16_offer_99 : decode cX16_offer 99 = .ok (.iconst 1, 1) := by decide +kernel
theorem dX16_offer_100 : decode cX16_offer 100 = .ok (.iadd, 1) := by decide +kernel
theorem dX16_offer_101 : decode cX16_offer 101 = .ok (.putfield 967, 3) := by decide +kernel
theorem dX16_offer_104 : decode cX16_offer 104 = .ok (.aload_n 0, 1) := by decide +kernel
theorem dX16_offer_105 : decode cX16_offer 105 = .ok (.getfield 967, 3) := by decide +kernel
theorem dX16_offer_108 : decode cX16_offer 108 = .ok (.ireturn, 1) := by decide +kernel
def fX16_offer_b70 (h : pm_H) (x0 : Nat) (x1 : Int32) (x2 : Int32) (x3 : Int32) (s0 : Int32) (s1 : Int32) (s2 : Nat) : Option (Int32 × pm_H) := if pm_kd h s2 = 34 then if pm_in s1 (pm_ln h s2) then if pm_kd (pm_setI h s2 s1.toNatClampNeg s0) x0 = 16 then (pm_R (pm_setI h s2 s1.toNatClampNeg s0) x0 75).bind fun v19 => if x3 = 0 then ((fX16_exported (pm_setI h s2 s1.toNatClampNeg s0) x0 x1 x2).bind fun v22 => if pm_kd (pm_setI h s2 s1.toNatClampNeg s0) v19 = 34 then if pm_in (pm_I (pm_setI h s2 s1.toNatClampNeg s0) x0 73) (pm_ln (pm_setI h s2 s1.toNatClampNeg s0) v19) then pm_let ((pm_I (pm_setI (pm_setI h s2 s1.toNatClampNeg s0) v19 ((pm_I (pm_setI h s2 s1.toNatClampNeg s0) x0 73).toNatClampNeg) v22) x0 73) + 1) fun y26 => some ((pm_I (pm_setI (pm_setI (pm_setI h s2 s1.toNatClampNeg s0) v19 ((pm_I (pm_setI h s2 s1.toNatClampNeg s0) x0 73).toNatClampNeg) v22) x0 73 y26) x0 73, pm_setI (pm_setI (pm_setI h s2 s1.toNatClampNeg s0) v19 ((pm_I (pm_setI h s2 s1.toNatClampNeg s0) x0 73).toNatClampNeg) v22) x0 73 y26)) else none else none) else (if pm_kd (pm_setI h s2 s1.toNatClampNeg s0) v19 = 34 then if pm_in (pm_I (pm_setI h s2 s1.toNatClampNeg s0) x0 73) (pm_ln (pm_setI h s2 s1.toNatClampNeg s0) v19) then pm_let ((pm_I (pm_setI (pm_setI h s2 s1.toNatClampNeg s0) v19 ((pm_I (pm_setI h s2 s1.toNatClampNeg s0) x0 73).toNatClampNeg) x2) x0 73) + 1) fun y30 => some ((pm_I (pm_setI (pm_setI (pm_setI h s2 s1.toNatClampNeg s0) v19 ((pm_I (pm_setI h s2 s1.toNatClampNeg s0) x0 73).toNatClampNeg) x2) x0 73 y30) x0 73, pm_setI (pm_setI (pm_setI h s2 s1.toNatClampNeg s0) v19 ((pm_I (pm_setI h s2 s1.toNatClampNeg s0) x0 73).toNatClampNeg) x2) x0 73 y30)) else none else none) else none else none else none
def fX16_offer_b48 (h : pm_H) (x0 : Nat) (x1 : Int32) (x2 : Int32) (x3 : Int32) : Option (Int32 × pm_H) := if pm_kd h x0 = 16 then (pm_R h x0 74).bind fun v11 => if x3 = 0 then ((fX16_exportKind h x0 x1 x2).bind fun v14 => fX16_offer_b70 h x0 x1 x2 x3 v14 (pm_I h x0 73) v11) else (fX16_offer_b70 h x0 x1 x2 x3 (-1) (pm_I h x0 73) v11) else none
def fX16_offer_b10 (h : pm_H) (x0 : Nat) (x1 : Int32) (x2 : Int32) (s0 : Int32) : Option (Int32 × pm_H) := if pm_kd h x0 = 16 then if (pm_I h x0 73) = 64 then (some (((-1), h))) else (if s0 = 0 then ((fX16_isExport h x0 x1 x2).bind fun v5 => if v5 = 0 then (some (((-1), h))) else (fX16_offer_b48 h x0 x1 x2 s0)) else (if x2 < 0 then (some (((-1), h))) else (if x2 ≤ 63 then (fX16_offer_b48 h x0 x1 x2 s0) else (some (((-1), h)))))) else none
def fX16_offer (h : pm_H) (a0 : Nat) (p1 : Int32) (p2 : Int32) : Option (Int32 × pm_H) := if p1 = (-1) then (fX16_offer_b10 h a0 p1 p2 1) else (fX16_offer_b10 h a0 p1 p2 0)
set_option maxHeartbeats 4000000 in
set_option maxRecDepth 100000 in
theorem bX16_offer_70 {g : pm_Gm} {l : Launch} {G : pm_Gl} {Qr : Option Value → pm_H → Prop} (C : pm_C g cX16_offer RX16) (X : pm_X g l G mX16_offer 0 0 Qr) {h : pm_H} {x0 : Nat} {x1 : Int32} {x2 : Int32} {x3 : Int32} {s0 : Int32} {s1 : Int32} {s2 : Nat} {r : (Int32 × pm_H)} (hf : fX16_offer_b70 h x0 x1 x2 x3 s0 s1 s2 = some r) (q : Qr (some (.int r.1)) r.2) : pm_G g 70 [(0, .ref x0), (1, .int x1), (2, .int x2), (3, .int x3)] [.int s0, .int s1, .ref s2] h 0 0 := by
  unfold fX16_offer_b70 at hf
  obtain ⟨k16, hf⟩ := pm_if hf
  obtain ⟨u17, hf⟩ := pm_if hf
  refine pm_iast C dX16_offer_70 k16 u17 ?_
  refine pm_aload_n C dX16_offer_71 rfl rfl ?_
  obtain ⟨k18, hf⟩ := pm_if hf
  obtain ⟨v19, e20, hf⟩ := pm_bd hf
  refine pm_getR C dX16_offer_72 flX16_161 rfl k18 e20 ?_
  refine pm_aload_n C dX16_offer_75 rfl rfl ?_
  refine pm_getI C dX16_offer_76 flX16_967 rfl k18 rfl ?_
  refine pm_iload_n C dX16_offer_79 rfl rfl ?_
  refine pm_if_eq (tgt := 87) C dX16_offer_80 (by decide) (fun c21 => ?_) (fun c21 => ?_)
  · have hf := pm_it hf c21
    refine pm_aload_n C dX16_offer_87 rfl rfl ?_
    refine pm_iload_n C dX16_offer_88 rfl rfl ?_
    refine pm_iload_n C dX16_offer_89 rfl rfl ?_
    obtain ⟨v22, e23, hf⟩ := pm_bd hf
    refine pm_callV (as := [.int x1, .int x2]) (st := [.int (pm_I (pm_setI h s2 s1.toNatClampNeg s0) x0 73), .ref v19]) C X dX16_offer_90 lnX16_964 myX16_exported viX16_exported ⟨by decide, by decide⟩ rfl rfl k18 (Nat.le_of_ble_eq_true rfl) (Nat.le_refl _) (Nat.le_refl _) (ctX16_exported e23 ?_)
    show pm_G g 93 [(0, .ref x0), (1, .int x1), (2, .int x2), (3, .int x3)] [.int v22, .int (pm_I (pm_setI h s2 s1.toNatClampNeg s0) x0 73), .ref v19] (pm_setI h s2 s1.toNatClampNeg s0) 0 0
    obtain ⟨k24, hf⟩ := pm_if hf
    obtain ⟨u25, hf⟩ := pm_if hf
    refine pm_iast C dX16_offer_93 k24 u25 ?_
    refine pm_aload_n C dX16_offer_94 rfl rfl ?_
    refine pm_dup C dX16_offer_95 rfl ?_
    refine pm_getI C dX16_offer_96 flX16_967 rfl k18 rfl ?_
    refine pm_iconst (v := 1) C dX16_offer_99 (by decide) ?_
    refine pm_iadd C dX16_offer_100 ?_
    obtain ⟨y26, e27, hf⟩ := pm_lt hf
    refine pm_topI e27 ?_
    refine pm_putI C dX16_offer_101 flX16_967 rfl rfl k18 rfl rfl ?_
    refine pm_aload_n C dX16_offer_104 rfl rfl ?_
    refine pm_getI C dX16_offer_105 flX16_967 rfl k18 rfl ?_
    cases hf
    exact pm_iret C X dX16_offer_108 rfl (Nat.le_refl _) (Nat.le_refl _) q
  · have hf := pm_ie hf c21
    refine pm_iload_n C dX16_offer_83 rfl rfl ?_
    refine pm_goto (tgt := 93) C dX16_offer_84 (by decide) ?_
    obtain ⟨k28, hf⟩ := pm_if hf
    obtain ⟨u29, hf⟩ := pm_if hf
    refine pm_iast C dX16_offer_93 k28 u29 ?_
    refine pm_aload_n C dX16_offer_94 rfl rfl ?_
    refine pm_dup C dX16_offer_95 rfl ?_
    refine pm_getI C dX16_offer_96 flX16_967 rfl k18 rfl ?_
    refine pm_iconst (v := 1) C dX16_offer_99 (by decide) ?_
    refine pm_iadd C dX16_offer_100 ?_
    obtain ⟨y30, e31, hf⟩ := pm_lt hf
    refine pm_topI e31 ?_
    refine pm_putI C dX16_offer_101 flX16_967 rfl rfl k18 rfl rfl ?_
    refine pm_aload_n C dX16_offer_104 rfl rfl ?_
    refine pm_getI C dX16_offer_105 flX16_967 rfl k18 rfl ?_
    cases hf
    exact pm_iret C X dX16_offer_108 rfl (Nat.le_refl _) (Nat.le_refl _) q
set_option maxHeartbeats 4000000 in
set_option maxRecDepth 100000 in
theorem bX16_offer_48 {g : pm_Gm} {l : Launch} {G : pm_Gl} {Qr : Option Value → pm_H → Prop} (C : pm_C g cX16_offer RX16) (X : pm_X g l G mX16_offer 0 0 Qr) {h : pm_H} {x0 : Nat} {x1 : Int32} {x2 : Int32} {x3 : Int32} {r : (Int32 × pm_H)} (hf : fX16_offer_b48 h x0 x1 x2 x3 = some r) (q : Qr (some (.int r.1)) r.2) : pm_G g 48 [(0, .ref x0), (1, .int x1), (2, .int x2), (3, .int x3)] [] h 0 0 := by
  unfold fX16_offer_b48 at hf
  refine pm_aload_n C dX16_offer_48 rfl rfl ?_
  obtain ⟨k10, hf⟩ := pm_if hf
  obtain ⟨v11, e12, hf⟩ := pm_bd hf
  refine pm_getR C dX16_offer_49 flX16_158 rfl k10 e12 ?_
  refine pm_aload_n C dX16_offer_52 rfl rfl ?_
  refine pm_getI C dX16_offer_53 flX16_967 rfl k10 rfl ?_
  refine pm_iload_n C dX16_offer_56 rfl rfl ?_
  refine pm_if_eq (tgt := 64) C dX16_offer_57 (by decide) (fun c13 => ?_) (fun c13 => ?_)
  · have hf := pm_it hf c13
    refine pm_aload_n C dX16_offer_64 rfl rfl ?_
    refine pm_iload_n C dX16_offer_65 rfl rfl ?_
    refine pm_iload_n C dX16_offer_66 rfl rfl ?_
    obtain ⟨v14, e15, hf⟩ := pm_bd hf
    refine pm_callV (as := [.int x1, .int x2]) (st := [.int (pm_I h x0 73), .ref v11]) C X dX16_offer_67 lnX16_955 myX16_exportKind viX16_exportKind ⟨by decide, by decide⟩ rfl rfl k10 (Nat.le_of_ble_eq_true rfl) (Nat.le_refl _) (Nat.le_refl _) (ctX16_exportKind e15 ?_)
    show pm_G g 70 [(0, .ref x0), (1, .int x1), (2, .int x2), (3, .int x3)] [.int v14, .int (pm_I h x0 73), .ref v11] h 0 0
    exact pm_sub [0, 1, 2, 3] rfl (bX16_offer_70 C X hf q)
  · have hf := pm_ie hf c13
    refine pm_iconst (v := (-1)) C dX16_offer_60 (by decide) ?_
    refine pm_goto (tgt := 70) C dX16_offer_61 (by decide) ?_
    exact pm_sub [0, 1, 2, 3] rfl (bX16_offer_70 C X hf q)
set_option maxHeartbeats 4000000 in
set_option maxRecDepth 100000 in
theorem bX16_offer_10 {g : pm_Gm} {l : Launch} {G : pm_Gl} {Qr : Option Value → pm_H → Prop} (C : pm_C g cX16_offer RX16) (X : pm_X g l G mX16_offer 0 0 Qr) {h : pm_H} {x0 : Nat} {x1 : Int32} {x2 : Int32} {s0 : Int32} {r : (Int32 × pm_H)} (hf : fX16_offer_b10 h x0 x1 x2 s0 = some r) (q : Qr (some (.int r.1)) r.2) : pm_G g 10 [(0, .ref x0), (1, .int x1), (2, .int x2)] [.int s0] h 0 0 := by
  unfold fX16_offer_b10 at hf
  refine pm_istore_n (lv' := [(3, .int s0), (0, .ref x0), (1, .int x1), (2, .int x2)]) C dX16_offer_10 rfl (pm_nl X (by decide)) rfl ?_
  refine pm_aload_n C dX16_offer_11 rfl rfl ?_
  obtain ⟨k2, hf⟩ := pm_if hf
  refine pm_getI C dX16_offer_12 flX16_967 rfl k2 rfl ?_
  refine pm_bipush (v := 64) C dX16_offer_15 (by decide) ?_
  refine pm_icmp_eq (tgt := 46) C dX16_offer_17 (by decide) (fun c3 => ?_) (fun c3 => ?_)
  · have hf := pm_it hf c3
    refine pm_iconst (v := (-1)) C dX16_offer_46 (by decide) ?_
    cases hf
    exact pm_iret C X dX16_offer_47 rfl (Nat.le_refl _) (Nat.le_refl _) q
  · have hf := pm_ie hf c3
    refine pm_iload_n C dX16_offer_20 rfl rfl ?_
    refine pm_if_eq (tgt := 37) C dX16_offer_21 (by decide) (fun c4 => ?_) (fun c4 => ?_)
    · have hf := pm_it hf c4
      refine pm_aload_n C dX16_offer_37 rfl rfl ?_
      refine pm_iload_n C dX16_offer_38 rfl rfl ?_
      refine pm_iload_n C dX16_offer_39 rfl rfl ?_
      obtain ⟨v5, e6, hf⟩ := pm_bd hf
      refine pm_callV (as := [.int x1, .int x2]) (st := []) C X dX16_offer_40 lnX16_961 myX16_isExport viX16_isExport ⟨by decide, by decide⟩ rfl rfl k2 (Nat.le_of_ble_eq_true rfl) (Nat.le_refl _) (Nat.le_refl _) (ctX16_isExport e6 ?_)
      show pm_G g 43 [(3, .int s0), (0, .ref x0), (1, .int x1), (2, .int x2)] [.int v5] h 0 0
      refine pm_if_ne (tgt := 48) C dX16_offer_43 (by decide) (fun c7 => ?_) (fun c7 => ?_)
      · have hf := pm_ie hf c7
        exact pm_sub [1, 2, 3, 0] rfl (bX16_offer_48 C X hf q)
      · have hf := pm_it hf c7
        refine pm_iconst (v := (-1)) C dX16_offer_46 (by decide) ?_
        cases hf
        exact pm_iret C X dX16_offer_47 rfl (Nat.le_refl _) (Nat.le_refl _) q
    · have hf := pm_ie hf c4
      refine pm_iload_n C dX16_offer_24 rfl rfl ?_
      refine pm_if_lt (tgt := 46) C dX16_offer_25 (by decide) (fun c8 => ?_) (fun c8 => ?_)
      · have hf := pm_it hf c8
        refine pm_iconst (v := (-1)) C dX16_offer_46 (by decide) ?_
        cases hf
        exact pm_iret C X dX16_offer_47 rfl (Nat.le_refl _) (Nat.le_refl _) q
      · have hf := pm_ie hf c8
        refine pm_iload_n C dX16_offer_28 rfl rfl ?_
        refine pm_bipush (v := 63) C dX16_offer_29 (by decide) ?_
        refine pm_icmp_le (tgt := 48) C dX16_offer_31 (by decide) (fun c9 => ?_) (fun c9 => ?_)
        · have hf := pm_it hf c9
          exact pm_sub [1, 2, 3, 0] rfl (bX16_offer_48 C X hf q)
        · have hf := pm_ie hf c9
          refine pm_goto (tgt := 46) C dX16_offer_34 (by decide) ?_
          refine pm_iconst (v := (-1)) C dX16_offer_46 (by decide) ?_
          cases hf
          exact pm_iret C X dX16_offer_47 rfl (Nat.le_refl _) (Nat.le_refl _) q
set_option maxHeartbeats 4000000 in
set_option maxRecDepth 100000 in
theorem ctX16_offer {l : Launch} {G : pm_Gl} {h : pm_H} {a0 : Nat} {p1 : Int32} {p2 : Int32} {r : (Int32 × pm_H)} {Qr : Option Value → pm_H → Prop} (hf : fX16_offer h a0 p1 p2 = some r) (q : Qr (some (.int r.1)) r.2) : pm_Ct l G mX16_offer [.ref a0, .int p1, .int p2] h 0 0 Qr := by
  refine pm_body pnX16 (Nat.le_of_ble_eq_true rfl) (fun g C X => ?_)
  have C : pm_C g cX16_offer RX16 := C
  show pm_G g 0 [(0, .ref a0), (1, .int p1), (2, .int p2)] [] h 0 0
  unfold fX16_offer at hf
  refine pm_iload_n C dX16_offer_0 rfl rfl ?_
  refine pm_iconst (v := (-1)) C dX16_offer_1 (by decide) ?_
  refine pm_icmp_ne (tgt := 9) C dX16_offer_2 (by decide) (fun c1 => ?_) (fun c1 => ?_)
  · have hf := pm_ie hf c1
    refine pm_iconst (v := 0) C dX16_offer_9 (by decide) ?_
    exact pm_sub [0, 1, 2] rfl (bX16_offer_10 C X hf q)
  · have hf := pm_it hf c1
    refine pm_iconst (v := 1) C dX16_offer_5 (by decide) ?_
    refine pm_goto (tgt := 10) C dX16_offer_6 (by decide) ?_
    exact pm_sub [0, 1, 2] rfl (bX16_offer_10 C X hf q)
theorem dX16_opensBlock_0 : decode cX16_opensBlock 0 = .ok (.aload_n 0, 1) := by decide +kernel
theorem dX16_opensBlock_1 : decode cX16_opensBlock 1 = .ok (.getfield 221, 3) := by decide +kernel
theorem dX16_opensBlock_4 : decode cX16_opensBlock 4 = .ok (.getfield 549, 3) := by decide +kernel
theorem dX16_opensBlock_7 : decode cX16_opensBlock 7 = .ok (.aload_n 0, 1) := by decide +kernel
theorem dX16_opensBlock_8 : decode cX16_opensBlock 8 = .ok (.getfield 1107, 3) := by decide +kernel
theorem dX16_opensBlock_11 : decode cX16_opensBlock 11 = .ok (.iaload, 1) := by decide +kernel
theorem dX16_opensBlock_12 : decode cX16_opensBlock 12 = .ok (.istore_n 2, 1) := by decide +kernel
theorem dX16_opensBlock_13 : decode cX16_opensBlock 13 = .ok (.aload_n 0, 1) := by decide +kernel
theorem dX16_opensBlock_14 : decode cX16_opensBlock 14 = .ok (.aload_n 0, 1) := by decide +kernel
theorem dX16_opensBlock_15 : decode cX16_opensBlock 15 = .ok (.getfield 1107, 3) := by decide +kernel
theorem dX16_opensBlock_18 : decode cX16_opensBlock 18 = .ok (.iconst 1, 1) := by decide +kernel
theorem dX16_opensBlock_19 : decode cX16_opensBlock 19 = .ok (.iadd, 1) := by decide +kernel
theorem dX16_opensBlock_20 : decode cX16_opensBlock 20 = .ok (.putfield 594, 3) := by decide +kernel
theorem dX16_opensBlock_23 : decode cX16_opensBlock 23 = .ok (.aload_n 0, 1) := by decide +kernel
theorem dX16_opensBlock_24 : decode cX16_opensBlock 24 = .ok (.invokevirtual 600, 3) := by decide +kernel
theorem dX16_opensBlock_27 : decode cX16_opensBlock 27 = .ok (.lstore_n 3, 1) := by decide +kernel
theorem dX16_opensBlock_28 : decode cX16_opensBlock 28 = .ok (.aload_n 0, 1) := by decide +kernel
theorem dX16_opensBlock_29 : decode cX16_opensBlock 29 = .ok (.aload_n 0, 1) := by decide +kernel
theorem dX16_opensBlock_30 : decode cX16_opensBlock 30 = .ok (.getfield 594, 3) := by decide +kernel
theorem dX16_opensBlock_33 : decode cX16_opensBlock 33 = .ok (.putfield 1107, 3) := by decide +kernel
theorem dX16_opensBlock_36 : decode cX16_opensBlock 36 = .ok (.aload_n 0, 1) := by decide +kernel
theorem dX16_opensBlock_37 : decode cX16_opensBlock 37 = .ok (.iload_n 1, 1) := by decide +kernel
theorem dX16_opensBlock_38 : decode cX16_opensBlock 38 = .ok (.iconst 3, 1) := by decide +kernel
theorem dX16_opensBlock_39 : decode cX16_opensBlock 39 = .ok (.if_icmp .ne 10, 3) := by decide +kernel
theorem dX16_opensBlock_42 : decode cX16_opensBlock 42 = .ok (.aload_n 0, 1) := by decide +kernel
theorem dX16_opensBlock_43 : decode cX16_opensBlock 43 = .ok (.getfield 1107, 3) := by decide +kernel
theorem dX16_opensBlock_46 : decode cX16_opensBlock 46 = .ok (.goto 6, 3) := by decide +kernel
theorem dX16_opensBlock_49 : decode cX16_opensBlock 49 = .ok (.iload_n 2, 1) := by decide +kernel
theorem dX16_opensBlock_50 : decode cX16_opensBlock 50 = .ok (.iconst 1, 1) := by decide +kernel
theorem dX16_opensBlock_51 : decode cX16_opensBlock 51 = .ok (.iadd, 1) := by decide +kernel
theorem dX16_opensBlock_52 : decode cX16_opensBlock 52 = .ok (.iload_n 1, 1) := by decide +kernel
theorem dX16_opensBlock_53 : decode cX16_opensBlock 53 = .ok (.iconst 3, 1) := by decide +kernel
theorem dX16_opensBlock_54 : decode cX16_opensBlock 54 = .ok (.if_icmp .ne 11, 3) := by decide +kernel
theorem dX16_opensBlock_57 : decode cX16_opensBlock 57 = .ok (.aload_n 0, 1) := by decide +kernel
theorem dX16_opensBlock_58 : decode cX16_opensBlock 58 = .ok (.lload_n 3, 1) := by decide +kernel
theorem dX16_opensBlock_59 : decode cX16_opensBlock 59 = .ok (.invokevirtual 689, 3) := by decide +kernel
theorem dX16_opensBlock_62 : decode cX16_opensBlock 62 = .ok (.goto 8, 3) := by decide +kernel
theorem dX16_opensBlock_65 : decode cX16_opensBlock 65 = .ok (.aload_n 0, 1) := by decide +kernel
theorem dX16_opensBlock_66 : decode cX16_opensBlock 66 = .ok (.lload_n 3, 1) := by decide +kernel
theorem dX16_opensBlock_67 : decode cX16_opensBlock 67 = .ok (.invokevirtual 698, 3) := by decide +kernel
theorem dX16_opensBlock_70 : decode cX16_opensBlock 70 = .ok (.aload_n 0, 1) := by decide +kernel
theorem dX16_opensBlock_71 : decode cX16_opensBlock 71 = .ok (.lload_n 3, 1) := by decide +kernel
theorem dX16_opensBlock_72 : decode cX16_opensBlock 72 = .ok (.invokevirtual 689, 3) := by decide +kernel
theorem dX16_opensBlock_75 : decode cX16_opensBlock 75 = .ok (.iload_n 1, 1) := by decide +kernel
theorem dX16_opensBlock_76 : decode cX16_opensBlock 76 = .ok (.iconst 3, 1) := by decide +kernel
theorem dX16_opensBlock_77 : decode cX16_opensBlock 77 = .ok (.if_icmp .ne 7, 3) := by decide +kernel
theorem dX16_opensBlock_80 : decode cX16_opensBlock 80 = .ok (.iconst 1, 1) := by decide +kernel
theorem dX16_opensBlock_81 : decode cX16_opensBlock 81 = .ok (.goto 4, 3) := by decide +kernel
theorem dX16_opensBlock_84 : decode cX16_opensBlock 84 = .ok (.iconst 0, 1) := by decide +kernel
theorem dX16_opensBlock_85 : decode cX16_opensBlock 85 = .ok (.invokevirtual 1113, 3) := by decide +kernel
theorem dX16_opensBlock_88 : decode cX16_opensBlock 88 = .ok (.return_, 1) := by decide +kernel
noncomputable def fX16_opensBlock_b52 (h : pm_H) (x0 : Nat) (x1 : Int32) (x3 : Int64) (s0 : Int32) (s1 : Nat) : Option pm_H := if x1 = 3 then (if pm_kd h x0 = 16 then (fX16_parametersOf h x0 x3).bind fun v35 => (fX16_parametersOf h x0 x3).bind fun v37 => if x1 = 3 then (if pm_kd h s1 = 16 then (fX16_opens h s1 s0 v35 v37 1).bind fun v44 => some v44 else none) else (if pm_kd h s1 = 16 then (fX16_opens h s1 s0 v35 v37 0).bind fun v41 => some v41 else none) else none) else (if pm_kd h x0 = 16 then (fX16_resultsOf h x0 x3).bind fun v23 => (fX16_parametersOf h x0 x3).bind fun v25 => if x1 = 3 then (if pm_kd h s1 = 16 then (fX16_opens h s1 s0 v23 v25 1).bind fun v32 => some v32 else none) else (if pm_kd h s1 = 16 then (fX16_opens h s1 s0 v23 v25 0).bind fun v29 => some v29 else none) else none)
noncomputable def fX16_opensBlock (h : pm_H) (a0 : Nat) (p1 : Int32) : Option pm_H := if pm_kd h a0 = 16 then (pm_R h a0 10).bind fun v2 => if pm_kd h v2 = 14 then (pm_R h v2 56).bind fun v5 => pm_let (pm_I h a0 94) fun y7 => if pm_kd h v5 = 34 then if pm_in y7 (pm_ln h v5) then pm_let (pm_I h v5 y7.toNatClampNeg) fun y11 => pm_let ((pm_I h a0 94) + 1) fun y13 => (fX16_blockWord (pm_setI h a0 19 y13) a0).bind fun v15 => if pm_kd v15.2 a0 = 16 then pm_let (pm_I v15.2 a0 19) fun y18 => if p1 = 3 then (fX16_opensBlock_b52 (pm_setI v15.2 a0 94 y18) a0 p1 v15.1 (pm_I (pm_setI v15.2 a0 94 y18) a0 94) a0) else (fX16_opensBlock_b52 (pm_setI v15.2 a0 94 y18) a0 p1 v15.1 (y11 + 1) a0) else none else none else none else none else none
set_option maxHeartbeats 4000000 in
set_option maxRecDepth 100000 in
theorem bX16_opensBlock_52 {g : pm_Gm} {l : Launch} {G : pm_Gl} {Qr : Option Value → pm_H → Prop} (C : pm_C g cX16_opensBlock RX16) (X : pm_X g l G mX16_opensBlock 0 0 Qr) {h : pm_H} {x0 : Nat} {x1 : Int32} {x3 : Int64} {s0 : Int32} {s1 : Nat} {r : pm_H} (hf : fX16_opensBlock_b52 h x0 x1 x3 s0 s1 = some r) (q : Qr none r) : pm_G g 52 [(0, .ref x0), (1, .int x1), (3, .long x3)] [.int s0, .ref s1] h 0 0 := by
  unfold fX16_opensBlock_b52 at hf
  refine pm_iload_n C dX16_opensBlock_52 rfl rfl ?_
  refine pm_iconst (v := 3) C dX16_opensBlock_53 (by decide) ?_
  refine pm_icmp_ne (tgt := 65) C dX16_opensBlock_54 (by decide) (fun c21 => ?_) (fun c21 => ?_)
  · have hf := pm_ie hf c21
    refine pm_aload_n C dX16_opensBlock_65 rfl rfl ?_
    refine pm_lload_n C dX16_opensBlock_66 rfl rfl ?_
    obtain ⟨k22, hf⟩ := pm_if hf
    obtain ⟨v23, e24, hf⟩ := pm_bd hf
    refine pm_callV (as := [.long x3]) (st := [.int s0, .ref s1]) C X dX16_opensBlock_67 lnX16_698 myX16_resultsOf viX16_resultsOf ⟨by decide, by decide⟩ rfl rfl k22 (Nat.le_of_ble_eq_true rfl) (Nat.le_refl _) (Nat.le_refl _) (ctX16_resultsOf e24 ?_)
    show pm_G g 70 [(0, .ref x0), (1, .int x1), (3, .long x3)] [.int v23, .int s0, .ref s1] h 0 0
    refine pm_aload_n C dX16_opensBlock_70 rfl rfl ?_
    refine pm_lload_n C dX16_opensBlock_71 rfl rfl ?_
    obtain ⟨v25, e26, hf⟩ := pm_bd hf
    refine pm_callV (as := [.long x3]) (st := [.int v23, .int s0, .ref s1]) C X dX16_opensBlock_72 lnX16_689 myX16_parametersOf viX16_parametersOf ⟨by decide, by decide⟩ rfl rfl k22 (Nat.le_of_ble_eq_true rfl) (Nat.le_refl _) (Nat.le_refl _) (ctX16_parametersOf e26 ?_)
    show pm_G g 75 [(0, .ref x0), (1, .int x1), (3, .long x3)] [.int v25, .int v23, .int s0, .ref s1] h 0 0
    refine pm_iload_n C dX16_opensBlock_75 rfl rfl ?_
    refine pm_iconst (v := 3) C dX16_opensBlock_76 (by decide) ?_
    refine pm_icmp_ne (tgt := 84) C dX16_opensBlock_77 (by decide) (fun c27 => ?_) (fun c27 => ?_)
    · have hf := pm_ie hf c27
      refine pm_iconst (v := 0) C dX16_opensBlock_84 (by decide) ?_
      obtain ⟨k28, hf⟩ := pm_if hf
      obtain ⟨v29, e30, hf⟩ := pm_bd hf
      refine pm_callV (as := [.int s0, .int v23, .int v25, .int 0]) (st := []) C X dX16_opensBlock_85 lnX16_1113 myX16_opens viX16_opens ⟨by decide, by decide⟩ rfl rfl k28 (Nat.le_of_ble_eq_true rfl) (Nat.le_refl _) (Nat.le_refl _) (ctX16_opens e30 ?_)
      show pm_G g 88 [(0, .ref x0), (1, .int x1), (3, .long x3)] [] v29 0 0
      cases hf
      exact pm_vret C X dX16_opensBlock_88 rfl (Nat.le_refl _) (Nat.le_refl _) q
    · have hf := pm_it hf c27
      refine pm_iconst (v := 1) C dX16_opensBlock_80 (by decide) ?_
      refine pm_goto (tgt := 85) C dX16_opensBlock_81 (by decide) ?_
      obtain ⟨k31, hf⟩ := pm_if hf
      obtain ⟨v32, e33, hf⟩ := pm_bd hf
      refine pm_callV (as := [.int s0, .int v23, .int v25, .int 1]) (st := []) C X dX16_opensBlock_85 lnX16_1113 myX16_opens viX16_opens ⟨by decide, by decide⟩ rfl rfl k31 (Nat.le_of_ble_eq_true rfl) (Nat.le_refl _) (Nat.le_refl _) (ctX16_opens e33 ?_)
      show pm_G g 88 [(0, .ref x0), (1, .int x1), (3, .long x3)] [] v32 0 0
      cases hf
      exact pm_vret C X dX16_opensBlock_88 rfl (Nat.le_refl _) (Nat.le_refl _) q
  · have hf := pm_it hf c21
    refine pm_aload_n C dX16_opensBlock_57 rfl rfl ?_
    refine pm_lload_n C dX16_opensBlock_58 rfl rfl ?_
    obtain ⟨k34, hf⟩ := pm_if hf
    obtain ⟨v35, e36, hf⟩ := pm_bd hf
    refine pm_callV (as := [.long x3]) (st := [.int s0, .ref s1]) C X dX16_opensBlock_59 lnX16_689 myX16_parametersOf viX16_parametersOf ⟨by decide, by decide⟩ rfl rfl k34 (Nat.le_of_ble_eq_true rfl) (Nat.le_refl _) (Nat.le_refl _) (ctX16_parametersOf e36 ?_)
    show pm_G g 62 [(0, .ref x0), (1, .int x1), (3, .long x3)] [.int v35, .int s0, .ref s1] h 0 0
    refine pm_goto (tgt := 70) C dX16_opensBlock_62 (by decide) ?_
    refine pm_aload_n C dX16_opensBlock_70 rfl rfl ?_
    refine pm_lload_n C dX16_opensBlock_71 rfl rfl ?_
    obtain ⟨v37, e38, hf⟩ := pm_bd hf
    refine pm_callV (as := [.long x3]) (st := [.int v35, .int s0, .ref s1]) C X dX16_opensBlock_72 lnX16_689 myX16_parametersOf viX16_parametersOf ⟨by decide, by decide⟩ rfl rfl k34 (Nat.le_of_ble_eq_true rfl) (Nat.le_refl _) (Nat.le_refl _) (ctX16_parametersOf e38 ?_)
    show pm_G g 75 [(0, .ref x0), (1, .int x1), (3, .long x3)] [.int v37, .int v35, .int s0, .ref s1] h 0 0
    refine pm_iload_n C dX16_opensBlock_75 rfl rfl ?_
    refine pm_iconst (v := 3) C dX16_opensBlock_76 (by decide) ?_
    refine pm_icmp_ne (tgt := 84) C dX16_opensBlock_77 (by decide) (fun c39 => ?_) (fun c39 => ?_)
    · have hf := pm_ie hf c39
      refine pm_iconst (v := 0) C dX16_opensBlock_84 (by decide) ?_
      obtain ⟨k40, hf⟩ := pm_if hf
      obtain ⟨v41, e42, hf⟩ := pm_bd hf
      refine pm_callV (as := [.int s0, .int v35, .int v37, .int 0]) (st := []) C X dX16_opensBlock_85 lnX16_1113 myX16_opens viX16_opens ⟨by decide, by decide⟩ rfl rfl k40 (Nat.le_of_ble_eq_true rfl) (Nat.le_refl _) (Nat.le_refl _) (ctX16_opens e42 ?_)
      show pm_G g 88 [(0, .ref x0), (1, .int x1), (3, .long x3)] [] v41 0 0
      cases hf
      exact pm_vret C X dX16_opensBlock_88 rfl (Nat.le_refl _) (Nat.le_refl _) q
    · have hf := pm_it hf c39
      refine pm_iconst (v := 1) C dX16_opensBlock_80 (by decide) ?_
      refine pm_goto (tgt := 85) C dX16_opensBlock_81 (by decide) ?_
      obtain ⟨k43, hf⟩ := pm_if hf
      obtain ⟨v44, e45, hf⟩ := pm_bd hf
      refine pm_callV (as := [.int s0, .int v35, .int v37, .int 1]) (st := []) C X dX16_opensBlock_85 lnX16_1113 myX16_opens viX16_opens ⟨by decide, by decide⟩ rfl rfl k43 (Nat.le_of_ble_eq_true rfl) (Nat.le_refl _) (Nat.le_refl _) (ctX16_opens e45 ?_)
      show pm_G g 88 [(0, .ref x0), (1, .int x1), (3, .long x3)] [] v44 0 0
      cases hf
      exact pm_vret C X dX16_opensBlock_88 rfl (Nat.le_refl _) (Nat.le_refl _) q
set_option maxHeartbeats 4000000 in
set_option maxRecDepth 100000 in
theorem ctX16_opensBlock {l : Launch} {G : pm_Gl} {h : pm_H} {a0 : Nat} {p1 : Int32} {r : pm_H} {Qr : Option Value → pm_H → Prop} (hf : fX16_opensBlock h a0 p1 = some r) (q : Qr none r) : pm_Ct l G mX16_opensBlock [.ref a0, .int p1] h 0 0 Qr := by
  refine pm_body pnX16 (Nat.le_of_ble_eq_true rfl) (fun g C X => ?_)
  have C : pm_C g cX16_opensBlock RX16 := C
  show pm_G g 0 [(0, .ref a0), (1, .int p1)] [] h 0 0
  unfold fX16_opensBlock at hf
  refine pm_aload_n C dX16_opensBlock_0 rfl rfl ?_
  obtain ⟨k1, hf⟩ := pm_if hf
  obtain ⟨v2, e3, hf⟩ := pm_bd hf
  refine pm_getR C dX16_opensBlock_1 flX16_221 rfl k1 e3 ?_
  obtain ⟨k4, hf⟩ := pm_if hf
  obtain ⟨v5, e6, hf⟩ := pm_bd hf
  refine pm_getR C dX16_opensBlock_4 flX16_549 rfl k4 e6 ?_
  refine pm_aload_n C dX16_opensBlock_7 rfl rfl ?_
  refine pm_getI C dX16_opensBlock_8 flX16_1107 rfl k1 rfl ?_
  obtain ⟨y7, e8, hf⟩ := pm_lt hf
  refine pm_topI e8 ?_
  obtain ⟨k9, hf⟩ := pm_if hf
  obtain ⟨u10, hf⟩ := pm_if hf
  refine pm_iald C dX16_opensBlock_11 k9 u10 rfl ?_
  obtain ⟨y11, e12, hf⟩ := pm_lt hf
  refine pm_topI e12 ?_
  refine pm_istore_n (lv' := [(2, .int y11), (0, .ref a0), (1, .int p1)]) C dX16_opensBlock_12 rfl (pm_nl X (by decide)) rfl ?_
  refine pm_aload_n C dX16_opensBlock_13 rfl rfl ?_
  refine pm_aload_n C dX16_opensBlock_14 rfl rfl ?_
  refine pm_getI C dX16_opensBlock_15 flX16_1107 rfl k1 rfl ?_
  refine pm_iconst (v := 1) C dX16_opensBlock_18 (by decide) ?_
  refine pm_iadd C dX16_opensBlock_19 ?_
  obtain ⟨y13, e14, hf⟩ := pm_lt hf
  refine pm_topI e14 ?_
  refine pm_putI C dX16_opensBlock_20 flX16_594 rfl rfl k1 rfl rfl ?_
  refine pm_aload_n C dX16_opensBlock_23 rfl rfl ?_
  obtain ⟨v15, e16, hf⟩ := pm_bd hf
  refine pm_callV (as := []) (st := []) C X dX16_opensBlock_24 lnX16_600 myX16_blockWord viX16_blockWord ⟨by decide, by decide⟩ rfl rfl k1 (Nat.le_of_ble_eq_true rfl) (Nat.le_refl _) (Nat.le_refl _) (ctX16_blockWord e16 ?_)
  show pm_G g 27 [(2, .int y11), (0, .ref a0), (1, .int p1)] [.long v15.1] v15.2 0 0
  refine pm_lstore_n (lv' := [(3, .long v15.1), (2, .int y11), (0, .ref a0), (1, .int p1)]) C dX16_opensBlock_27 rfl (pm_nl X (by decide)) rfl ?_
  refine pm_aload_n C dX16_opensBlock_28 rfl rfl ?_
  refine pm_aload_n C dX16_opensBlock_29 rfl rfl ?_
  obtain ⟨k17, hf⟩ := pm_if hf
  refine pm_getI C dX16_opensBlock_30 flX16_594 rfl k17 rfl ?_
  obtain ⟨y18, e19, hf⟩ := pm_lt hf
  refine pm_topI e19 ?_
  refine pm_putI C dX16_opensBlock_33 flX16_1107 rfl rfl k17 rfl rfl ?_
  refine pm_aload_n C dX16_opensBlock_36 rfl rfl ?_
  refine pm_iload_n C dX16_opensBlock_37 rfl rfl ?_
  refine pm_iconst (v := 3) C dX16_opensBlock_38 (by decide) ?_
  refine pm_icmp_ne (tgt := 49) C dX16_opensBlock_39 (by decide) (fun c20 => ?_) (fun c20 => ?_)
  · have hf := pm_ie hf c20
    refine pm_iload_n C dX16_opensBlock_49 rfl rfl ?_
    refine pm_iconst (v := 1) C dX16_opensBlock_50 (by decide) ?_
    refine pm_iadd C dX16_opensBlock_51 ?_
    exact pm_sub [2, 3, 0] rfl (bX16_opensBlock_52 C X hf q)
  · have hf := pm_it hf c20
    refine pm_aload_n C dX16_opensBlock_42 rfl rfl ?_
    refine pm_getI C dX16_opensBlock_43 flX16_1107 rfl k17 rfl ?_
    refine pm_goto (tgt := 52) C dX16_opensBlock_46 (by decide) ?_
    exact pm_sub [2, 3, 0] rfl (bX16_opensBlock_52 C X hf q)
theorem dX16_opensIf_0 : decode cX16_opensIf 0 = .ok (.aload_n 0, 1) := by decide +kernel
theorem dX16_opensIf_1 : decode cX16_opensIf 1 = .ok (.invokevirtual 600, 3) := by decide +kernel
theorem dX16_opensIf_4 : decode cX16_opensIf 4 = .ok (.lstore_n 2, 1) := by decide +kernel
theorem dX16_opensIf_5 : decode cX16_opensIf 5 = .ok (.aload_n 0, 1) := by decide +kernel
theorem dX16_opensIf_6 : decode cX16_opensIf 6 = .ok (.invokevirtual 1157, 3) := by decide +kernel
theorem dX16_opensIf_9 : decode cX16_opensIf 9 = .ok (.lconst 0, 1) := by decide +kernel
theorem dX16_opensIf_10 : decode cX16_opensIf 10 = .ok (.lcmp, 1) := by decide +kernel
theorem dX16_opensIf_11 : decode cX16_opensIf 11 = .ok (.ifCond .eq 7, 3) := by decide +kernel
theorem dX16_opensIf_14 : decode cX16_opensIf 14 = .ok (.iconst 1, 1) := by decide +kernel
theorem dX16_opensIf_15 : decode cX16_opensIf 15 = .ok (.goto 4, 3) := by decide +kernel
theorem dX16_opensIf_18 : decode cX16_opensIf 18 = .ok (.iconst 0, 1) := by decide +kernel
theorem dX16_opensIf_19 : decode cX16_opensIf 19 = .ok (.istore 4, 2) := by decide +kernel
theorem dX16_opensIf_21 : decode cX16_opensIf 21 = .ok (.aload_n 0, 1) := by decide +kernel
theorem dX16_opensIf_22 : decode cX16_opensIf 22 = .ok (.aload_n 0, 1) := by decide +kernel
theorem dX16_opensIf_23 : decode cX16_opensIf 23 = .ok (.getfield 221, 3) := by decide +kernel
theorem dX16_opensIf_26 : decode cX16_opensIf 26 = .ok (.getfield 549, 3) := by decide +kernel
theorem dX16_opensIf_29 : decode cX16_opensIf 29 = .ok (.iload_n 1, 1) := by decide +kernel
theorem dX16_opensIf_30 : decode cX16_opensIf 30 = .ok (.iaload, 1) := by decide +kernel
theorem dX16_opensIf_31 : decode cX16_opensIf 31 = .ok (.iconst 1, 1) := by decide +kernel
theorem dX16_opensIf_32 : decode cX16_opensIf 32 = .ok (.iadd, 1) := by decide +kernel
theorem dX16_opensIf_33 : decode cX16_opensIf 33 = .ok (.aload_n 0, 1) := by decide +kernel
theorem dX16_opensIf_34 : decode cX16_opensIf 34 = .ok (.lload_n 2, 1) := by decide +kernel
theorem dX16_opensIf_35 : decode cX16_opensIf 35 = .ok (.invokevirtual 698, 3) := by decide +kernel
theorem dX16_opensIf_38 : decode cX16_opensIf 38 = .ok (.aload_n 0, 1) := by decide +kernel
theorem dX16_opensIf_39 : decode cX16_opensIf 39 = .ok (.lload_n 2, 1) := by decide +kernel
theorem dX16_opensIf_40 : decode cX16_opensIf 40 = .ok (.invokevirtual 689, 3) := by decide +kernel
theorem dX16_opensIf_43 : decode cX16_opensIf 43 = .ok (.iconst 0, 1) := by decide +kernel
theorem dX16_opensIf_44 : decode cX16_opensIf 44 = .ok (.invokevirtual 1113, 3) := by decide +kernel
theorem dX16_opensIf_47 : decode cX16_opensIf 47 = .ok (.iload 4, 2) := by decide +kernel
theorem dX16_opensIf_49 : decode cX16_opensIf 49 = .ok (.ifCond .ne 42, 3) := by decide +kernel
theorem dX16_opensIf_52 : decode cX16_opensIf 52 = .ok (.aload_n 0, 1) := by decide +kernel
theorem dX16_opensIf_53 : decode cX16_opensIf 53 = .ok (.aload_n 0, 1) := by decide +kernel
theorem dX16_opensIf_54 : decode cX16_opensIf 54 = .ok (.getfield 221, 3) := by decide +kernel
theorem dX16_opensIf_57 : decode cX16_opensIf 57 = .ok (.getfield 552, 3) := by decide +kernel
theorem dX16_opensIf_60 : decode cX16_opensIf 60 = .ok (.iload_n 1, 1) := by decide +kernel
theorem dX16_opensIf_61 : decode cX16_opensIf 61 = .ok (.iaload, 1) := by decide +kernel
theorem dX16_opensIf_62 : decode cX16_opensIf 62 = .ok (.ifCond .le 17, 3) := by decide +kernel
theorem dX16_opensIf_65 : decode cX16_opensIf 65 = .ok (.aload_n 0, 1) := by decide +kernel
theorem dX16_opensIf_66 : decode cX16_opensIf 66 = .ok (.getfield 221, 3) := by decide +kernel
theorem dX16_opensIf_69 : decode cX16_opensIf 69 = .ok (.getfield 552, 3) := by decide +kernel
theorem dX16_opensIf_72 : decode cX16_opensIf 72 = .ok (.iload_n 1, 1) := by decide +kernel
theorem dX16_opensIf_73 : decode cX16_opensIf 73 = .ok (.iaload, 1) := by decide +kernel
theorem dX16_opensIf_74 : decode cX16_opensIf 74 = .ok (.iconst 1, 1) := by decide +kernel
theorem dX16_opensIf_75 : decode cX16_opensIf 75 = .ok (.iadd, 1) := by decide +kernel
theorem dX16_opensIf_76 : decode cX16_opensIf 76 = .ok (.goto 12, 3) := by decide +kernel
theorem dX16_opensIf_79 : decode cX16_opensIf 79 = .ok (.aload_n 0, 1) := by decide +kernel
theorem dX16_opensIf_80 : decode cX16_opensIf 80 = .ok (.getfield 221, 3) := by decide +kernel
theorem dX16_opensIf_83 : decode cX16_opensIf 83 = .ok (.getfield 549, 3) := by decide +kernel
theorem dX16_opensIf_86 : decode cX16_opensIf 86 = .ok (.iload_n 1, 1) := by decide +kernel
theorem dX16_opensIf_87 : decode cX16_opensIf 87 = .ok (.iaload, 1) := by decide +kernel
theorem dX16_opensIf_88 : decode cX16_opensIf 88 = .ok (.putfield 1107, 3) := by decide +kernel
theorem dX16_opensIf_91 : decode cX16_opensIf 91 = .ok (.return_, 1) := by decide +kernel
noncomputable def fX16_opensIf_b19 (h : pm_H) (x0 : Nat) (x1 : Int32) (x2 : Int64) (s0 : Int32) : Option pm_H := if pm_kd h x0 = 16 then (pm_R h x0 10).bind fun v9 => if pm_kd h v9 = 14 then (pm_R h v9 56).bind fun v12 => if pm_kd h v12 = 34 then if pm_in x1 (pm_ln h v12) then (fX16_resultsOf h x0 x2).bind fun v16 => (fX16_parametersOf h x0 x2).bind fun v18 => (fX16_opens h x0 ((pm_I h v12 x1.toNatClampNeg) + 1) v16 v18 0).bind fun v20 => if s0 = 0 then (if pm_kd v20 x0 = 16 then (pm_R v20 x0 10).bind fun v24 => if pm_kd v20 v24 = 14 then (pm_R v20 v24 57).bind fun v27 => if pm_kd v20 v27 = 34 then if pm_in x1 (pm_ln v20 v27) then if (pm_I v20 v27 x1.toNatClampNeg) ≤ 0 then ((pm_R v20 v24 56).bind fun v32 => if pm_kd v20 v32 = 34 then if pm_in x1 (pm_ln v20 v32) then pm_let (pm_I v20 v32 x1.toNatClampNeg) fun y36 => some (pm_setI v20 x0 94 y36) else none else none) else (if pm_in x1 (pm_ln v20 v27) then pm_let ((pm_I v20 v27 x1.toNatClampNeg) + 1) fun y39 => some (pm_setI v20 x0 94 y39) else none) else none else none else none else none) else (some v20) else none else none else none else none
noncomputable def fX16_opensIf (h : pm_H) (a0 : Nat) (p1 : Int32) : Option pm_H := if pm_kd h a0 = 16 then (fX16_blockWord h a0).bind fun v2 => if pm_kd v2.2 a0 = 16 then (fX16_pop v2.2 a0).bind fun v5 => if v5.1 = 0 then (fX16_opensIf_b19 v5.2 a0 p1 v2.1 0) else (fX16_opensIf_b19 v5.2 a0 p1 v2.1 1) else none else none
set_option maxHeartbeats 4000000 in
set_option maxRecDepth 100000 in
theorem bX16_opensIf_19 {g : pm_Gm} {l : Launch} {G : pm_Gl} {Qr : Option Value → pm_H → Prop} (C : pm_C g cX16_opensIf RX16) (X : pm_X g l G mX16_opensIf 0 0 Qr) {h : pm_H} {x0 : Nat} {x1 : Int32} {x2 : Int64} {s0 : Int32} {r : pm_H} (hf : fX16_opensIf_b19 h x0 x1 x2 s0 = some r) (q : Qr none r) : pm_G g 19 [(0, .ref x0), (1, .int x1), (2, .long x2)] [.int s0] h 0 0 := by
  unfold fX16_opensIf_b19 at hf
  refine pm_istore (lv' := [(4, .int s0), (0, .ref x0), (1, .int x1), (2, .long x2)]) C dX16_opensIf_19 (pm_nl X (by decide)) rfl ?_
  refine pm_aload_n C dX16_opensIf_21 rfl rfl ?_
  refine pm_aload_n C dX16_opensIf_22 rfl rfl ?_
  obtain ⟨k8, hf⟩ := pm_if hf
  obtain ⟨v9, e10, hf⟩ := pm_bd hf
  refine pm_getR C dX16_opensIf_23 flX16_221 rfl k8 e10 ?_
  obtain ⟨k11, hf⟩ := pm_if hf
  obtain ⟨v12, e13, hf⟩ := pm_bd hf
  refine pm_getR C dX16_opensIf_26 flX16_549 rfl k11 e13 ?_
  refine pm_iload_n C dX16_opensIf_29 rfl rfl ?_
  obtain ⟨k14, hf⟩ := pm_if hf
  obtain ⟨u15, hf⟩ := pm_if hf
  refine pm_iald C dX16_opensIf_30 k14 u15 rfl ?_
  refine pm_iconst (v := 1) C dX16_opensIf_31 (by decide) ?_
  refine pm_iadd C dX16_opensIf_32 ?_
  refine pm_aload_n C dX16_opensIf_33 rfl rfl ?_
  refine pm_lload_n C dX16_opensIf_34 rfl rfl ?_
  obtain ⟨v16, e17, hf⟩ := pm_bd hf
  refine pm_callV (as := [.long x2]) (st := [.int ((pm_I h v12 x1.toNatClampNeg) + 1), .ref x0]) C X dX16_opensIf_35 lnX16_698 myX16_resultsOf viX16_resultsOf ⟨by decide, by decide⟩ rfl rfl k8 (Nat.le_of_ble_eq_true rfl) (Nat.le_refl _) (Nat.le_refl _) (ctX16_resultsOf e17 ?_)
  show pm_G g 38 [(4, .int s0), (0, .ref x0), (1, .int x1), (2, .long x2)] [.int v16, .int ((pm_I h v12 x1.toNatClampNeg) + 1), .ref x0] h 0 0
  refine pm_aload_n C dX16_opensIf_38 rfl rfl ?_
  refine pm_lload_n C dX16_opensIf_39 rfl rfl ?_
  obtain ⟨v18, e19, hf⟩ := pm_bd hf
  refine pm_callV (as := [.long x2]) (st := [.int v16, .int ((pm_I h v12 x1.toNatClampNeg) + 1), .ref x0]) C X dX16_opensIf_40 lnX16_689 myX16_parametersOf viX16_parametersOf ⟨by decide, by decide⟩ rfl rfl k8 (Nat.le_of_ble_eq_true rfl) (Nat.le_refl _) (Nat.le_refl _) (ctX16_parametersOf e19 ?_)
  show pm_G g 43 [(4, .int s0), (0, .ref x0), (1, .int x1), (2, .long x2)] [.int v18, .int v16, .int ((pm_I h v12 x1.toNatClampNeg) + 1), .ref x0] h 0 0
  refine pm_iconst (v := 0) C dX16_opensIf_43 (by decide) ?_
  obtain ⟨v20, e21, hf⟩ := pm_bd hf
  refine pm_callV (as := [.int ((pm_I h v12 x1.toNatClampNeg) + 1), .int v16, .int v18, .int 0]) (st := []) C X dX16_opensIf_44 lnX16_1113 myX16_opens viX16_opens ⟨by decide, by decide⟩ rfl rfl k8 (Nat.le_of_ble_eq_true rfl) (Nat.le_refl _) (Nat.le_refl _) (ctX16_opens e21 ?_)
  show pm_G g 47 [(4, .int s0), (0, .ref x0), (1, .int x1), (2, .long x2)] [] v20 0 0
  refine pm_iload C dX16_opensIf_47 rfl ?_
  refine pm_if_ne (tgt := 91) C dX16_opensIf_49 (by decide) (fun c22 => ?_) (fun c22 => ?_)
  · have hf := pm_ie hf c22
    cases hf
    exact pm_vret C X dX16_opensIf_91 rfl (Nat.le_refl _) (Nat.le_refl _) q
  · have hf := pm_it hf c22
    refine pm_aload_n C dX16_opensIf_52 rfl rfl ?_
    refine pm_aload_n C dX16_opensIf_53 rfl rfl ?_
    obtain ⟨k23, hf⟩ := pm_if hf
    obtain ⟨v24, e25, hf⟩ := pm_bd hf
    refine pm_getR C dX16_opensIf_54 flX16_221 rfl k23 e25 ?_
    obtain ⟨k26, hf⟩ := pm_if hf
    obtain ⟨v27, e28, hf⟩ := pm_bd hf
    refine pm_getR C dX16_opensIf_57 flX16_552 rfl k26 e28 ?_
    refine pm_iload_n C dX16_opensIf_60 rfl rfl ?_
    obtain ⟨k29, hf⟩ := pm_if hf
    obtain ⟨u30, hf⟩ := pm_if hf
    refine pm_iald C dX16_opensIf_61 k29 u30 rfl ?_
    refine pm_if_le (tgt := 79) C dX16_opensIf_62 (by decide) (fun c31 => ?_) (fun c31 => ?_)
    · have hf := pm_it hf c31
      refine pm_aload_n C dX16_opensIf_79 rfl rfl ?_
      refine pm_getR C dX16_opensIf_80 flX16_221 rfl k23 e25 ?_
      obtain ⟨v32, e33, hf⟩ := pm_bd hf
      refine pm_getR C dX16_opensIf_83 flX16_549 rfl k26 e33 ?_
      refine pm_iload_n C dX16_opensIf_86 rfl rfl ?_
      obtain ⟨k34, hf⟩ := pm_if hf
      obtain ⟨u35, hf⟩ := pm_if hf
      refine pm_iald C dX16_opensIf_87 k34 u35 rfl ?_
      obtain ⟨y36, e37, hf⟩ := pm_lt hf
      refine pm_topI e37 ?_
      refine pm_putI C dX16_opensIf_88 flX16_1107 rfl rfl k23 rfl rfl ?_
      cases hf
      exact pm_vret C X dX16_opensIf_91 rfl (Nat.le_refl _) (Nat.le_refl _) q
    · have hf := pm_ie hf c31
      refine pm_aload_n C dX16_opensIf_65 rfl rfl ?_
      refine pm_getR C dX16_opensIf_66 flX16_221 rfl k23 e25 ?_
      refine pm_getR C dX16_opensIf_69 flX16_552 rfl k26 e28 ?_
      refine pm_iload_n C dX16_opensIf_72 rfl rfl ?_
      obtain ⟨u38, hf⟩ := pm_if hf
      refine pm_iald C dX16_opensIf_73 k29 u38 rfl ?_
      refine pm_iconst (v := 1) C dX16_opensIf_74 (by decide) ?_
      refine pm_iadd C dX16_opensIf_75 ?_
      refine pm_goto (tgt := 88) C dX16_opensIf_76 (by decide) ?_
      obtain ⟨y39, e40, hf⟩ := pm_lt hf
      refine pm_topI e40 ?_
      refine pm_putI C dX16_opensIf_88 flX16_1107 rfl rfl k23 rfl rfl ?_
      cases hf
      exact pm_vret C X dX16_opensIf_91 rfl (Nat.le_refl _) (Nat.le_refl _) q
set_option maxHeartbeats 4000000 in
set_option maxRecDepth 100000 in
theorem ctX16_opensIf {l : Launch} {G : pm_Gl} {h : pm_H} {a0 : Nat} {p1 : Int32} {r : pm_H} {Qr : Option Value → pm_H → Prop} (hf : fX16_opensIf h a0 p1 = some r) (q : Qr none r) : pm_Ct l G mX16_opensIf [.ref a0, .int p1] h 0 0 Qr := by
  refine pm_body pnX16 (Nat.le_of_ble_eq_true rfl) (fun g C X => ?_)
  have C : pm_C g cX16_opensIf RX16 := C
  show pm_G g 0 [(0, .ref a0), (1, .int p1)] [] h 0 0
  unfold fX16_opensIf at hf
  refine pm_aload_n C dX16_opensIf_0 rfl rfl ?_
  obtain ⟨k1, hf⟩ := pm_if hf
  obtain ⟨v2, e3, hf⟩ := pm_bd hf
  refine pm_callV (as := []) (st := []) C X dX16_opensIf_1 lnX16_600 myX16_blockWord viX16_blockWord ⟨by decide, by decide⟩ rfl rfl k1 (Nat.le_of_ble_eq_true rfl) (Nat.le_refl _) (Nat.le_refl _) (ctX16_blockWord e3 ?_)
  show pm_G g 4 [(0, .ref a0), (1, .int p1)] [.long v2.1] v2.2 0 0
  refine pm_lstore_n (lv' := [(2, .long v2.1), (0, .ref a0), (1, .int p1)]) C dX16_opensIf_4 rfl (pm_nl X (by decide)) rfl ?_
  refine pm_aload_n C dX16_opensIf_5 rfl rfl ?_
  obtain ⟨k4, hf⟩ := pm_if hf
  obtain ⟨v5, e6, hf⟩ := pm_bd hf
  refine pm_callV (as := []) (st := []) C X dX16_opensIf_6 lnX16_1157 myX16_pop viX16_pop ⟨by decide, by decide⟩ rfl rfl k4 (Nat.le_of_ble_eq_true rfl) (Nat.le_refl _) (Nat.le_refl _) (ctX16_pop e6 ?_)
  show pm_G g 9 [(2, .long v2.1), (0, .ref a0), (1, .int p1)] [.long v5.1] v5.2 0 0
  refine pm_lconst (v := 0) C dX16_opensIf_9 (by decide) ?_
  refine pm_lcmp C dX16_opensIf_10 ?_
  refine pm_if_eq (tgt := 18) C dX16_opensIf_11 (by decide) (fun c7 => ?_) (fun c7 => ?_)
  · have hf := pm_it hf ((pm_lg_eq _ _).mp c7)
    refine pm_iconst (v := 0) C dX16_opensIf_18 (by decide) ?_
    exact pm_sub [1, 2, 0] rfl (bX16_opensIf_19 C X hf q)
  · have hf := pm_ie hf ((fun z => c7 ((pm_lg_eq _ _).mpr z)))
    refine pm_iconst (v := 1) C dX16_opensIf_14 (by decide) ?_
    refine pm_goto (tgt := 19) C dX16_opensIf_15 (by decide) ?_
    exact pm_sub [1, 2, 0] rfl (bX16_opensIf_19 C X hf q)
theorem dX16_order_0 : decode cX16_order 0 = .ok (.lload_n 1, 1) := by decide +kernel
theorem dX16_order_1 : decode cX16_order 1 = .ok (.iload_n 0, 1) := by decide +kernel
theorem dX16_order_2 : decode cX16_order 2 = .ok (.invokestatic 865, 3) := by decide +kernel
theorem dX16_order_5 : decode cX16_order 5 = .ok (.ldc2_w 268, 3) := by decide +kernel
theorem dX16_order_8 : decode cX16_order 8 = .ok (.lxor, 1) := by decide +kernel
theorem dX16_order_9 : decode cX16_order 9 = .ok (.land, 1) := by decide +kernel
theorem dX16_order_10 : decode cX16_order 10 = .ok (.lstore_n 3, 1) := by decide +kernel
theorem dX16_order_11 : decode cX16_order 11 = .ok (.lload_n 1, 1) := by decide +kernel
theorem dX16_order_12 : decode cX16_order 12 = .ok (.iload_n 0, 1) := by decide +kernel
theorem dX16_order_13 : decode cX16_order 13 = .ok (.invokestatic 865, 3) := by decide +kernel
theorem dX16_order_16 : decode cX16_order 16 = .ok (.land, 1) := by decide +kernel
theorem dX16_order_17 : decode cX16_order 17 = .ok (.lconst 0, 1) := by decide +kernel
theorem dX16_order_18 : decode cX16_order 18 = .ok (.lcmp, 1) := by decide +kernel
theorem dX16_order_19 : decode cX16_order 19 = .ok (.ifCond .eq 8, 3) := by decide +kernel
theorem dX16_order_22 : decode cX16_order 22 = .ok (.lload_n 3, 1) := by decide +kernel
theorem dX16_order_23 : decode cX16_order 23 = .ok (.lneg, 1) := by decide +kernel
theorem dX16_order_24 : decode cX16_order 24 = .ok (.goto 4, 3) := by decide +kernel
theorem dX16_order_27 : decode cX16_order 27 = .ok (.lload_n 3, 1) := by decide +kernel
theorem dX16_order_28 : decode cX16_order 28 = .ok (.lreturn, 1) := by decide +kernel
def fX16_order (p1 : Int32) (p2 : Int64) : Int64 := pm_let (fX16_signOf p1) fun v1 => pm_let (p2 &&& (v1 ^^^ (-1))) fun y3 => pm_let (fX16_signOf p1) fun v5 => if (p2 &&& v5) = 0 then (y3) else (-y3)
set_option maxHeartbeats 4000000 in
set_option maxRecDepth 100000 in
theorem ctX16_order {l : Launch} {G : pm_Gl} {h : pm_H} {p1 : Int32} {p2 : Int64} {r : Int64} {Qr : Option Value → pm_H → Prop} (hf : fX16_order p1 p2 = r) (q : Qr (some (.long r)) h) : pm_Ct l G mX16_order [.int p1, .long p2] h 0 0 Qr := by
  refine pm_body pnX16 (Nat.le_of_ble_eq_true rfl) (fun g C X => ?_)
  have C : pm_C g cX16_order RX16 := C
  show pm_G g 0 [(0, .int p1), (1, .long p2)] [] h 0 0
  unfold fX16_order at hf
  refine pm_lload_n C dX16_order_0 rfl rfl ?_
  refine pm_iload_n C dX16_order_1 rfl rfl ?_
  obtain ⟨v1, e2, hf⟩ := pm_lt hf
  refine pm_callS (as := [.int p1]) (st := [.long p2]) C X dX16_order_2 lnX16_865 myX16_signOf stX16_signOf ⟨by decide, by decide⟩ rfl rfl (Nat.le_of_ble_eq_true rfl) (Nat.le_refl _) (Nat.le_refl _) (ctX16_signOf e2 ?_)
  show pm_G g 5 [(0, .int p1), (1, .long p2)] [.long v1, .long p2] h 0 0
  refine pm_ldc2 C dX16_order_5 cnX16_268 ?_
  refine pm_lxor C dX16_order_8 ?_
  refine pm_land C dX16_order_9 ?_
  obtain ⟨y3, e4, hf⟩ := pm_lt hf
  refine pm_topL e4 ?_
  refine pm_lstore_n (lv' := [(3, .long y3), (0, .int p1), (1, .long p2)]) C dX16_order_10 rfl (pm_nl X (by decide)) rfl ?_
  refine pm_lload_n C dX16_order_11 rfl rfl ?_
  refine pm_iload_n C dX16_order_12 rfl rfl ?_
  obtain ⟨v5, e6, hf⟩ := pm_lt hf
  refine pm_callS (as := [.int p1]) (st := [.long p2]) C X dX16_order_13 lnX16_865 myX16_signOf stX16_signOf ⟨by decide, by decide⟩ rfl rfl (Nat.le_of_ble_eq_true rfl) (Nat.le_refl _) (Nat.le_refl _) (ctX16_signOf e6 ?_)
  show pm_G g 16 [(3, .long y3), (0, .int p1), (1, .long p2)] [.long v5, .long p2] h 0 0
  refine pm_land C dX16_order_16 ?_
  refine pm_lconst (v := 0) C dX16_order_17 (by decide) ?_
  refine pm_lcmp C dX16_order_18 ?_
  refine pm_if_eq (tgt := 27) C dX16_order_19 (by decide) (fun c7 => ?_) (fun c7 => ?_)
  · have hf := pm_it hf ((pm_lg_eq _ _).mp c7)
    refine pm_lload_n C dX16_order_27 rfl rfl ?_
    subst hf
    exact pm_lret C X dX16_order_28 rfl (Nat.le_refl _) (Nat.le_refl _) q
  · have hf := pm_ie hf ((fun z => c7 ((pm_lg_eq _ _).mpr z)))
    refine pm_lload_n C dX16_order_22 rfl rfl ?_
    refine pm_lneg C dX16_order_23 ?_
    refine pm_goto (tgt := 28) C dX16_order_24 (by decide) ?_
    subst hf
    exact pm_lret C X dX16_order_28 rfl (Nat.le_refl _) (Nat.le_refl _) q
theorem dX16_others_0 : decode cX16_others 0 = .ok (.iload_n 1, 1) := by decide +kernel
theorem dX16_others_1 : decode cX16_others 1 = .ok (.bipush 63, 2) := by decide +kernel
theorem dX16_others_3 : decode cX16_others 3 = .ok (.if_icmp .eq 9, 3) := by decide +kernel
theorem dX16_others_6 : decode cX16_others 6 = .ok (.iload_n 1, 1) := by decide +kernel
theorem dX16_others_7 : decode cX16_others 7 = .ok (.bipush 64, 2) := by decide +kernel
theorem dX16_others_9 : decode cX16_others 9 = .ok (.if_icmp .ne 127, 3) := by decide +kernel
theorem dX16_others_12 : decode cX16_others 12 = .ok (.aload_n 0, 1) := by decide +kernel
theorem dX16_others_13 : decode cX16_others 13 = .ok (.getfield 140, 3) := by decide +kernel
theorem dX16_others_16 : decode cX16_others 16 = .ok (.sipush 128, 3) := by decide +kernel
theorem dX16_others_19 : decode cX16_others 19 = .ok (.aload_n 0, 1) := by decide +kernel
theorem dX16_others_20 : decode cX16_others 20 = .ok (.getfield 1110, 3) := by decide +kernel
theorem dX16_others_23 : decode cX16_others 23 = .ok (.imul, 1) := by decide +kernel
theorem dX16_others_24 : decode cX16_others 24 = .ok (.iaload, 1) := by decide +kernel
theorem dX16_others_25 : decode cX16_others 25 = .ok (.istore_n 2, 1) := by decide +kernel
theorem dX16_others_26 : decode cX16_others 26 = .ok (.aload_n 0, 1) := by decide +kernel
theorem dX16_others_27 : decode cX16_others 27 = .ok (.getfield 109, 3) := by decide +kernel
theorem dX16_others_30 : decode cX16_others 30 = .ok (.iload_n 2, 1) := by decide +kernel
theorem dX16_others_31 : decode cX16_others 31 = .ok (.iaload, 1) := by decide +kernel
theorem dX16_others_32 : decode cX16_others 32 = .ok (.istore_n 3, 1) := by decide +kernel
theorem dX16_others_33 : decode cX16_others 33 = .ok (.iload_n 1, 1) := by decide +kernel
theorem dX16_others_34 : decode cX16_others 34 = .ok (.bipush 63, 2) := by decide +kernel
theorem dX16_others_36 : decode cX16_others 36 = .ok (.if_icmp .ne 7, 3) := by decide +kernel
theorem dX16_others_39 : decode cX16_others 39 = .ok (.lconst 0, 1) := by decide +kernel
theorem dX16_others_40 : decode cX16_others 40 = .ok (.goto 7, 3) := by decide +kernel
theorem dX16_others_43 : decode cX16_others 43 = .ok (.aload_n 0, 1) := by decide +kernel
theorem dX16_others_44 : decode cX16_others 44 = .ok (.invokevirtual 1157, 3) := by decide +kernel
theorem dX16_others_47 : decode cX16_others 47 = .ok (.lstore 4, 2) := by decide +kernel
theorem dX16_others_49 : decode cX16_others 49 = .ok (.aload_n 0, 1) := by decide +kernel
theorem dX16_others_50 : decode cX16_others 50 = .ok (.getfield 112, 3) := by decide +kernel
theorem dX16_others_53 : decode cX16_others 53 = .ok (.iload_n 2, 1) := by decide +kernel
theorem dX16_others_54 : decode cX16_others 54 = .ok (.laload, 1) := by decide +kernel
theorem dX16_others_55 : decode cX16_others 55 = .ok (.lconst 0, 1) := by decide +kernel
theorem dX16_others_56 : decode cX16_others 56 = .ok (.lcmp, 1) := by decide +kernel
theorem dX16_others_57 : decode cX16_others 57 = .ok (.ifCond .ge 9, 3) := by decide +kernel
theorem dX16_others_60 : decode cX16_others 60 = .ok (.ldc2_w 636, 3) := by decide +kernel
theorem dX16_others_63 : decode cX16_others 63 = .ok (.goto 9, 3) := by decide +kernel
theorem dX16_others_66 : decode cX16_others 66 = .ok (.aload_n 0, 1) := by decide +kernel
theorem dX16_others_67 : decode cX16_others 67 = .ok (.getfield 112, 3) := by decide +kernel
theorem dX16_others_70 : decode cX16_others 70 = .ok (.iload_n 2, 1) := by decide +kernel
theorem dX16_others_71 : decode cX16_others 71 = .ok (.laload, 1) := by decide +kernel
theorem dX16_others_72 : decode cX16_others 72 = .ok (.lstore 6, 2) := by decide +kernel
theorem dX16_others_74 : decode cX16_others 74 = .ok (.iload_n 3, 1) := by decide +kernel
theorem dX16_others_75 : decode cX16_others 75 = .ok (.i2l, 1) := by decide +kernel
theorem dX16_others_76 : decode cX16_others 76 = .ok (.lload 4, 2) := by decide +kernel
theorem dX16_others_78 : decode cX16_others 78 = .ok (.ladd, 1) := by decide +kernel
theorem dX16_others_79 : decode cX16_others 79 = .ok (.lload 6, 2) := by decide +kernel
theorem dX16_others_81 : decode cX16_others 81 = .ok (.lcmp, 1) := by decide +kernel
theorem dX16_others_82 : decode cX16_others 82 = .ok (.ifCond .gt 18, 3) := by decide +kernel
theorem dX16_others_85 : decode cX16_others 85 = .ok (.lload 4, 2) := by decide +kernel
theorem dX16_others_87 : decode cX16_others 87 = .ok (.aload_n 0, 1) := by decide +kernel
theorem dX16_others_88 : decode cX16_others 88 = .ok (.getfield 106, 3) := by decide +kernel
theorem dX16_others_91 : decode cX16_others 91 = .ok (.i2l, 1) := by decide +kernel
theorem dX16_others_92 : decode cX16_others 92 = .ok (.lcmp, 1) := by decide +kernel
theorem dX16_others_93 : decode cX16_others 93 = .ok (.ifCond .gt 7, 3) := by decide +kernel
theorem dX16_others_96 : decode cX16_others 96 = .ok (.iconst 1, 1) := by decide +kernel
theorem dX16_others_97 : decode cX16_others 97 = .ok (.goto 4, 3) := by decide +kernel
theorem dX16_others_100 : decode cX16_others 100 = .ok (.iconst 0, 1) := by decide +kernel
theorem dX16_others_101 : decode cX16_others 101 = .ok (.istore 8, 2) := by decide +kernel
theorem dX16_others_103 : decode cX16_others 103 = .ok (.iload 8, 2) := by decide +kernel
theorem dX16_others_105 : decode cX16_others 105 = .ok (.ifCond .eq 11, 3) := by decide +kernel
theorem dX16_others_108 : decode cX16_others 108 = .ok (.aload_n 0, 1) := by decide +kernel
theorem dX16_others_109 : decode cX16_others 109 = .ok (.iload_n 2, 1) := by decide +kernel
theorem dX16_others_110 : decode cX16_others 110 = .ok (.lload 4, 2) := by decide +kernel
theorem dX16_others_112 : decode cX16_others 112 = .ok (.l2i, 1) := by decide +kernel
theorem dX16_others_113 : decode cX16_others 113 = .ok (.invokevirtual 1017, 3) := by decide +kernel
theorem dX16_others_116 : decode cX16_others 116 = .ok (.aload_n 0, 1) := by decide +kernel
theorem dX16_others_117 : decode cX16_others 117 = .ok (.iload 8, 2) := by decide +kernel
theorem dX16_others_119 : decode cX16_others 119 = .ok (.ifCond .eq 8, 3) := by decide +kernel
theorem dX16_others_122 : decode cX16_others 122 = .ok (.iload_n 3, 1) := by decide +kernel
theorem dX16_others_123 : decode cX16_others 123 = .ok (.i2l, 1) := by decide +kernel
theorem dX16_others_124 : decode cX16_others 124 = .ok (.goto 6, 3) := by decide +kernel
theorem dX16_others_127 : decode cX16_others 127 = .ok (.ldc2_w 513, 3) := by decide +kernel
theorem dX16_others_130 : decode cX16_others 130 = .ok (.invokevirtual 1136, 3) := by decide +kernel
theorem dX16_others_133 : decode cX16_others 133 = .ok (.goto 149, 3) := by decide +kernel
theorem dX16_others_136 : decode cX16_others 136 = .ok (.iload_n 1, 1) := by decide +kernel
theorem dX16_others_137 : decode cX16_others 137 = .ok (.bipush 65, 2) := by decide +kernel
theorem dX16_others_139 : decode cX16_others 139 = .ok (.if_icmp .eq 9, 3) := by decide +kernel
theorem dX16_others_142 : decode cX16_others 142 = .ok (.iload_n 1, 1) := by decide +kernel
theorem dX16_others_143 : decode cX16_others 143 = .ok (.bipush 66, 2) := by decide +kernel
theorem dX16_others_145 : decode cX16_others 145 = .ok (.if_icmp .ne 31, 3) := by decide +kernel
theorem dX16_others_148 : decode cX16_others 148 = .ok (.aload_n 0, 1) := by decide +kernel
theorem dX16_others_149 : decode cX16_others 149 = .ok (.iload_n 1, 1) := by decide +kernel
theorem dX16_others_150 : decode cX16_others 150 = .ok (.bipush 65, 2) := by decide +kernel
theorem dX16_others_152 : decode cX16_others 152 = .ok (.if_icmp .ne 14, 3) := by decide +kernel
theorem dX16_others_155 : decode cX16_others 155 = .ok (.aload_n 0, 1) := by decide +kernel
theorem dX16_others_156 : decode cX16_others 156 = .ok (.invokevirtual 597, 3) := by decide +kernel
theorem dX16_others_159 : decode cX16_others 159 = .ok (.ldc2_w 513, 3) := by decide +kernel
theorem dX16_others_162 : decode cX16_others 162 = .ok (.land, 1) := by decide +kernel
theorem dX16_others_163 : decode cX16_others 163 = .ok (.goto 7, 3) := by decide +kernel
theorem dX16_others_166 : decode cX16_others 166 = .ok (.aload_n 0, 1) := by decide +kernel
theorem dX16_others_167 : decode cX16_others 167 = .ok (.invokevirtual 597, 3) := by decide +kernel
theorem dX16_others_170 : decode cX16_others 170 = .ok (.invokevirtual 1136, 3) := by decide +kernel
theorem dX16_others_173 : decode cX16_others 173 = .ok (.goto 109, 3) := by decide +kernel
theorem dX16_others_176 : decode cX16_others 176 = .ok (.iload_n 1, 1) := by decide +kernel
theorem dX16_others_177 : decode cX16_others 177 = .ok (.bipush 67, 2) := by decide +kernel
theorem dX16_others_179 : decode cX16_others 179 = .ok (.if_icmp .eq 9, 3) := by decide +kernel
theorem dX16_others_182 : decode cX16_others 182 = .ok (.iload_n 1, 1) := by decide +kernel
theorem dX16_others_183 : decode cX16_others 183 = .ok (.bipush 68, 2) := by decide +kernel
theorem dX16_others_185 : decode cX16_others 185 = .ok (.if_icmp .ne 26, 3) := by decide +kernel
theorem dX16_others_188 : decode cX16_others 188 = .ok (.aload_n 0, 1) := by decide +kernel
theorem dX16_others_189 : decode cX16_others 189 = .ok (.aload_n 0, 1) := by decide +kernel
theorem dX16_others_190 : decode cX16_others 190 = .ok (.iload_n 1, 1) := by decide +kernel
theorem dX16_others_191 : decode cX16_others 191 = .ok (.bipush 67, 2) := by decide +kernel
theorem dX16_others_193 : decode cX16_others 193 = .ok (.if_icmp .ne 7, 3) := by decide +kernel
theorem dX16_others_196 : decode cX16_others 196 = .ok (.iconst 4, 1) := by decide +kernel
theorem dX16_others_197 : decode cX16_others 197 = .ok (.goto 5, 3) := by decide +kernel
theorem dX16_others_200 : decode cX16_others 200 = .ok (.bipush 8, 2) := by decide +kernel
theorem dX16_others_202 : decode cX16_others 202 = .ok (.invokevirtual 1027, 3) := by decide +kernel
theorem dX16_others_205 : decode cX16_others 205 = .ok (.invokevirtual 1136, 3) := by decide +kernel
theorem dX16_others_208 : decode cX16_others 208 = .ok (.goto 74, 3) := by decide +kernel
theorem dX16_others_211 : decode cX16_others 211 = .ok (.iload_n 1, 1) := by decide +kernel
theorem dX16_others_212 : decode cX16_others 212 = .ok (.sipush 208, 3) := by decide +kernel
theorem dX16_others_215 : decode cX16_others 215 = .ok (.if_icmp .ne 13, 3) := by decide +kernel
theorem dX16_others_218 : decode cX16_others 218 = .ok (.aload_n 0, 1) := by decide +kernel
theorem dX16_others_219 : decode cX16_others 219 = .ok (.ldc2_w 268, 3) := by decide +kernel
theorem dX16_others_222 : decode cX16_others 222 = .ok (.invokevirtual 1136, 3) := by decide +kernel
theorem dX16_others_225 : decode cX16_others 225 = .ok (.goto 57, 3) := by decide +kernel
theorem dX16_others_228 : decode cX16_others 228 = .ok (.iload_n 1, 1) := by decide +kernel
theorem dX16_others_229 : decode cX16_others 229 = .ok (.sipush 209, 3) := by decide +kernel
theorem dX16_others_232 : decode cX16_others 232 = .ok (.if_icmp .ne 26, 3) := by decide +kernel
theorem dX16_others_235 : decode cX16_others 235 = .ok (.aload_n 0, 1) := by decide +kernel
theorem dX16_others_236 : decode cX16_others 236 = .ok (.aload_n 0, 1) := by decide +kernel
theorem dX16_others_237 : decode cX16_others 237 = .ok (.invokevirtual 1157, 3) := by decide +kernel
theorem dX16_others_240 : decode cX16_others 240 = .ok (.ldc2_w 268, 3) := by decide +kernel
theorem dX16_others_243 : decode cX16_others 243 = .ok (.lcmp, 1) := by decide +kernel
theorem dX16_others_244 : decode cX16_others 244 = .ok (.ifCond .ne 7, 3) := by decide +kernel
theorem dX16_others_247 : decode cX16_others 247 = .ok (.lconst 1, 1) := by decide +kernel
theorem dX16_others_248 : decode cX16_others 248 = .ok (.goto 4, 3) := by decide +kernel
theorem dX16_others_251 : decode cX16_others 251 = .ok (.lconst 0, 1) := by decide +kernel
theorem dX16_others_252 : decode cX16_others 252 = .ok (.invokevirtual 1136, 3) := by decide +kernel
theorem dX16_others_255 : decode cX16_others 255 = .ok (.goto 27, 3) := by decide +kernel
theorem dX16_others_258 : decode cX16_others 258 = .ok (.aload_n 0, 1) := by decide +kernel
theorem dX16_others_259 : decode cX16_others 259 = .ok (.aload_n 0, 1) := by decide +kernel
theorem dX16_others_260 : decode cX16_others 260 = .ok (.getfield 134, 3) := by decide +kernel
theorem dX16_others_263 : decode cX16_others 263 = .ok (.sipush 128, 3) := by decide +kernel
theorem dX16_others_266 : decode cX16_others 266 = .ok (.aload_n 0, 1) := by decide +kernel
theorem dX16_others_267 : decode cX16_others 267 = .ok (.getfield 1110, 3) := by decide +kernel
theorem dX16_others_270 : decode cX16_others 270 = .ok (.imul, 1) := by decide +kernel
theorem dX16_others_271 : decode cX16_others 271 = .ok (.aload_n 0, 1) := by decide +kernel
theorem dX16_others_272 : decode cX16_others 272 = .ok (.invokevirtual 603, 3) := by decide +kernel
theorem dX16_others_275 : decode cX16_others 275 = .ok (.l2i, 1) := by decide +kernel
theorem dX16_others_276 : decode cX16_others 276 = .ok (.iadd, 1) := by decide +kernel
theorem dX16_others_277 : decode cX16_others 277 = .ok (.iaload, 1) := by decide +kernel
theorem dX16_others_278 : decode cX16_others 278 = .ok (.i2l, 1) := by decide +kernel
theorem dX16_others_279 : decode cX16_others 279 = .ok (.invokevirtual 1136, 3) := by decide +kernel
theorem dX16_others_282 : decode cX16_others 282 = .ok (.return_, 1) := by decide +kernel
noncomputable def fX16_others_b101 (h : pm_H) (x0 : Nat) (x2 : Int32) (x3 : Int32) (x4 : Int64) (s0 : Int32) : Option pm_H := if s0 = 0 then (if s0 = 0 then (if pm_kd h x0 = 16 then (fX16_push h x0 4294967295).bind fun v117 => some v117 else none) else (if pm_kd h x0 = 16 then (fX16_push h x0 x3.toInt64).bind fun v120 => some v120 else none)) else (if pm_kd h x0 = 16 then (fX16_growsPages h x0 x2 x4.toInt32).bind fun v123 => if s0 = 0 then (if pm_kd v123 x0 = 16 then (fX16_push v123 x0 4294967295).bind fun v127 => some v127 else none) else (if pm_kd v123 x0 = 16 then (fX16_push v123 x0 x3.toInt64).bind fun v130 => some v130 else none) else none)
noncomputable def fX16_others_b100 (h : pm_H) (x0 : Nat) (x2 : Int32) (x3 : Int32) (x4 : Int64) : Option pm_H := fX16_others_b101 h x0 x2 x3 x4 0
noncomputable def fX16_others_b72 (h : pm_H) (x0 : Nat) (x2 : Int32) (x3 : Int32) (x4 : Int64) (s0 : Int64) : Option pm_H := if s0 < (x3.toInt64 + x4) then (fX16_others_b100 h x0 x2 x3 x4) else (if pm_kd h x0 = 16 then if ((pm_I h x0 53).toInt64) < x4 then (fX16_others_b100 h x0 x2 x3 x4) else (fX16_others_b101 h x0 x2 x3 x4 1) else none)
noncomputable def fX16_others_b47 (h : pm_H) (x0 : Nat) (x2 : Int32) (x3 : Int32) (s0 : Int64) : Option pm_H := if pm_kd h x0 = 16 then (pm_R h x0 55).bind fun v105 => if pm_kd h v105 = 35 then if pm_in x2 (pm_ln h v105) then if 0 ≤ (pm_L h v105 x2.toNatClampNeg) then (if pm_in x2 (pm_ln h v105) then fX16_others_b72 h x0 x2 x3 s0 (pm_L h v105 x2.toNatClampNeg) else none) else (fX16_others_b72 h x0 x2 x3 s0 65536) else none else none else none
noncomputable def fX16_others_b12 (h : pm_H) (x0 : Nat) (x1 : Int32) : Option pm_H := if pm_kd h x0 = 16 then (pm_R h x0 66).bind fun v87 => pm_let (128 * (pm_I h x0 95)) fun y89 => if pm_kd h v87 = 34 then if pm_in y89 (pm_ln h v87) then pm_let (pm_I h v87 y89.toNatClampNeg) fun y93 => (pm_R h x0 54).bind fun v95 => if pm_kd h v95 = 34 then if pm_in y93 (pm_ln h v95) then pm_let (pm_I h v95 y93.toNatClampNeg) fun y99 => if x1 = 63 then (fX16_others_b47 h x0 y93 y99 0) else ((fX16_pop h x0).bind fun v102 => fX16_others_b47 v102.2 x0 y93 y99 v102.1) else none else none else none else none else none
noncomputable def fX16_others (h : pm_H) (a0 : Nat) (p1 : Int32) : Option pm_H := if p1 = 63 then (fX16_others_b12 h a0 p1) else (if p1 = 64 then (fX16_others_b12 h a0 p1) else (if p1 = 65 then (if p1 = 65 then (if pm_kd h a0 = 16 then (fX16_signedWord h a0).bind fun v12 => if pm_kd v12.2 a0 = 16 then (fX16_push v12.2 a0 (v12.1 &&& 4294967295)).bind fun v15 => some v15 else none else none) else (if pm_kd h a0 = 16 then (fX16_signedWord h a0).bind fun v6 => if pm_kd v6.2 a0 = 16 then (fX16_push v6.2 a0 v6.1).bind fun v9 => some v9 else none else none)) else (if p1 = 66 then (if p1 = 65 then (if pm_kd h a0 = 16 then (fX16_signedWord h a0).bind fun v81 => if pm_kd v81.2 a0 = 16 then (fX16_push v81.2 a0 (v81.1 &&& 4294967295)).bind fun v84 => some v84 else none else none) else (if pm_kd h a0 = 16 then (fX16_signedWord h a0).bind fun v75 => if pm_kd v75.2 a0 = 16 then (fX16_push v75.2 a0 v75.1).bind fun v78 => some v78 else none else none)) else (if p1 = 67 then (if p1 = 67 then (if pm_kd h a0 = 16 then (fX16_bytesAt h a0 4).bind fun v27 => if pm_kd v27.2 a0 = 16 then (fX16_push v27.2 a0 v27.1).bind fun v30 => some v30 else none else none) else (if pm_kd h a0 = 16 then (fX16_bytesAt h a0 8).bind fun v21 => if pm_kd v21.2 a0 = 16 then (fX16_push v21.2 a0 v21.1).bind fun v24 => some v24 else none else none)) else (if p1 = 68 then (if p1 = 67 then (if pm_kd h a0 = 16 then (fX16_bytesAt h a0 4).bind fun v68 => if pm_kd v68.2 a0 = 16 then (fX16_push v68.2 a0 v68.1).bind fun v71 => some v71 else none else none) else (if pm_kd h a0 = 16 then (fX16_bytesAt h a0 8).bind fun v62 => if pm_kd v62.2 a0 = 16 then (fX16_push v62.2 a0 v62.1).bind fun v65 => some v65 else none else none)) else (if p1 = 208 then (if pm_kd h a0 = 16 then (fX16_push h a0 (-1)).bind fun v58 => some v58 else none) else (if p1 = 209 then (if pm_kd h a0 = 16 then (fX16_pop h a0).bind fun v48 => if v48.1 = (-1) then (if pm_kd v48.2 a0 = 16 then (fX16_push v48.2 a0 1).bind fun v55 => some v55 else none) else (if pm_kd v48.2 a0 = 16 then (fX16_push v48.2 a0 0).bind fun v52 => some v52 else none) else none) else (if pm_kd h a0 = 16 then (pm_R h a0 64).bind fun v36 => (fX16_word h a0).bind fun v38 => pm_let ((128 * (pm_I h a0 95)) + v38.1.toInt32) fun y40 => if pm_kd v38.2 v36 = 34 then if pm_in y40 (pm_ln v38.2 v36) then if pm_kd v38.2 a0 = 16 then (fX16_push v38.2 a0 ((pm_I v38.2 v36 y40.toNatClampNeg).toInt64)).bind fun v45 => some v45 else none else none else none else none))))))))
set_option maxHeartbeats 4000000 in
set_option maxRecDepth 100000 in
theorem bX16_others_101 {g : pm_Gm} {l : Launch} {G : pm_Gl} {Qr : Option Value → pm_H → Prop} (C : pm_C g cX16_others RX16) (X : pm_X g l G mX16_others 0 0 Qr) {h : pm_H} {x0 : Nat} {x2 : Int32} {x3 : Int32} {x4 : Int64} {s0 : Int32} {r : pm_H} (hf : fX16_others_b101 h x0 x2 x3 x4 s0 = some r) (q : Qr none r) : pm_G g 101 [(0, .ref x0), (2, .int x2), (3, .int x3), (4, .long x4)] [.int s0] h 0 0 := by
  unfold fX16_others_b101 at hf
  refine pm_istore (lv' := [(8, .int s0), (0, .ref x0), (2, .int x2), (3, .int x3), (4, .long x4)]) C dX16_others_101 (pm_nl X (by decide)) rfl ?_
  refine pm_iload C dX16_others_103 rfl ?_
  refine pm_if_eq (tgt := 116) C dX16_others_105 (by decide) (fun c114 => ?_) (fun c114 => ?_)
  · have hf := pm_it hf c114
    refine pm_aload_n C dX16_others_116 rfl rfl ?_
    refine pm_iload C dX16_others_117 rfl ?_
    refine pm_if_eq (tgt := 127) C dX16_others_119 (by decide) (fun c115 => ?_) (fun c115 => ?_)
    · have hf := pm_it hf c115
      refine pm_ldc2 C dX16_others_127 cnX16_513 ?_
      obtain ⟨k116, hf⟩ := pm_if hf
      obtain ⟨v117, e118, hf⟩ := pm_bd hf
      refine pm_callV (as := [.long 4294967295]) (st := []) C X dX16_others_130 lnX16_1136 myX16_push viX16_push ⟨by decide, by decide⟩ rfl rfl k116 (Nat.le_of_ble_eq_true rfl) (Nat.le_refl _) (Nat.le_refl _) (ctX16_push e118 ?_)
      show pm_G g 133 [(8, .int s0), (0, .ref x0), (2, .int x2), (3, .int x3), (4, .long x4)] [] v117 0 0
      refine pm_goto (tgt := 282) C dX16_others_133 (by decide) ?_
      cases hf
      exact pm_vret C X dX16_others_282 rfl (Nat.le_refl _) (Nat.le_refl _) q
    · have hf := pm_ie hf c115
      refine pm_iload_n C dX16_others_122 rfl rfl ?_
      refine pm_i2l C dX16_others_123 ?_
      refine pm_goto (tgt := 130) C dX16_others_124 (by decide) ?_
      obtain ⟨k119, hf⟩ := pm_if hf
      obtain ⟨v120, e121, hf⟩ := pm_bd hf
      refine pm_callV (as := [.long x3.toInt64]) (st := []) C X dX16_others_130 lnX16_1136 myX16_push viX16_push ⟨by decide, by decide⟩ rfl rfl k119 (Nat.le_of_ble_eq_true rfl) (Nat.le_refl _) (Nat.le_refl _) (ctX16_push e121 ?_)
      show pm_G g 133 [(8, .int s0), (0, .ref x0), (2, .int x2), (3, .int x3), (4, .long x4)] [] v120 0 0
      refine pm_goto (tgt := 282) C dX16_others_133 (by decide) ?_
      cases hf
      exact pm_vret C X dX16_others_282 rfl (Nat.le_refl _) (Nat.le_refl _) q
  · have hf := pm_ie hf c114
    refine pm_aload_n C dX16_others_108 rfl rfl ?_
    refine pm_iload_n C dX16_others_109 rfl rfl ?_
    refine pm_lload C dX16_others_110 rfl ?_
    refine pm_l2i C dX16_others_112 ?_
    obtain ⟨k122, hf⟩ := pm_if hf
    obtain ⟨v123, e124, hf⟩ := pm_bd hf
    refine pm_callV (as := [.int x2, .int x4.toInt32]) (st := []) C X dX16_others_113 lnX16_1017 myX16_growsPages viX16_growsPages ⟨by decide, by decide⟩ rfl rfl k122 (Nat.le_of_ble_eq_true rfl) (Nat.le_refl _) (Nat.le_refl _) (ctX16_growsPages e124 ?_)
    show pm_G g 116 [(8, .int s0), (0, .ref x0), (2, .int x2), (3, .int x3), (4, .long x4)] [] v123 0 0
    refine pm_aload_n C dX16_others_116 rfl rfl ?_
    refine pm_iload C dX16_others_117 rfl ?_
    refine pm_if_eq (tgt := 127) C dX16_others_119 (by decide) (fun c125 => ?_) (fun c125 => ?_)
    · have hf := pm_it hf c125
      refine pm_ldc2 C dX16_others_127 cnX16_513 ?_
      obtain ⟨k126, hf⟩ := pm_if hf
      obtain ⟨v127, e128, hf⟩ := pm_bd hf
      refine pm_callV (as := [.long 4294967295]) (st := []) C X dX16_others_130 lnX16_1136 myX16_push viX16_push ⟨by decide, by decide⟩ rfl rfl k126 (Nat.le_of_ble_eq_true rfl) (Nat.le_refl _) (Nat.le_refl _) (ctX16_push e128 ?_)
      show pm_G g 133 [(8, .int s0), (0, .ref x0), (2, .int x2), (3, .int x3), (4, .long x4)] [] v127 0 0
      refine pm_goto (tgt := 282) C dX16_others_133 (by decide) ?_
      cases hf
      exact pm_vret C X dX16_others_282 rfl (Nat.le_refl _) (Nat.le_refl _) q
    · have hf := pm_ie hf c125
      refine pm_iload_n C dX16_others_122 rfl rfl ?_
      refine pm_i2l C dX16_others_123 ?_
      refine pm_goto (tgt := 130) C dX16_others_124 (by decide) ?_
      obtain ⟨k129, hf⟩ := pm_if hf
      obtain ⟨v130, e131, hf⟩ := pm_bd hf
      refine pm_callV (as := [.long x3.toInt64]) (st := []) C X dX16_others_130 lnX16_1136 myX16_push viX16_push ⟨by decide, by decide⟩ rfl rfl k129 (Nat.le_of_ble_eq_true rfl) (Nat.le_refl _) (Nat.le_refl _) (ctX16_push e131 ?_)
      show pm_G g 133 [(8, .int s0), (0, .ref x0), (2, .int x2), (3, .int x3), (4, .long x4)] [] v130 0 0
      refine pm_goto (tgt := 282) C dX16_others_133 (by decide) ?_
      cases hf
      exact pm_vret C X dX16_others_282 rfl (Nat.le_refl _) (Nat.le_refl _) q
set_option maxHeartbeats 4000000 in
set_option maxRecDepth 100000 in
theorem bX16_others_100 {g : pm_Gm} {l : Launch} {G : pm_Gl} {Qr : Option Value → pm_H → Prop} (C : pm_C g cX16_others RX16) (X : pm_X g l G mX16_others 0 0 Qr) {h : pm_H} {x0 : Nat} {x2 : Int32} {x3 : Int32} {x4 : Int64} {r : pm_H} (hf : fX16_others_b100 h x0 x2 x3 x4 = some r) (q : Qr none r) : pm_G g 100 [(0, .ref x0), (2, .int x2), (3, .int x3), (4, .long x4)] [] h 0 0 := by
  unfold fX16_others_b100 at hf
  refine pm_iconst (v := 0) C dX16_others_100 (by decide) ?_
  exact pm_sub [0, 1, 2, 3] rfl (bX16_others_101 C X hf q)
set_option maxHeartbeats 4000000 in
set_option maxRecDepth 100000 in
theorem bX16_others_72 {g : pm_Gm} {l : Launch} {G : pm_Gl} {Qr : Option Value → pm_H → Prop} (C : pm_C g cX16_others RX16) (X : pm_X g l G mX16_others 0 0 Qr) {h : pm_H} {x0 : Nat} {x2 : Int32} {x3 : Int32} {x4 : Int64} {s0 : Int64} {r : pm_H} (hf : fX16_others_b72 h x0 x2 x3 x4 s0 = some r) (q : Qr none r) : pm_G g 72 [(0, .ref x0), (2, .int x2), (3, .int x3), (4, .long x4)] [.long s0] h 0 0 := by
  unfold fX16_others_b72 at hf
  refine pm_lstore (lv' := [(6, .long s0), (0, .ref x0), (2, .int x2), (3, .int x3), (4, .long x4)]) C dX16_others_72 (pm_nl X (by decide)) rfl ?_
  refine pm_iload_n C dX16_others_74 rfl rfl ?_
  refine pm_i2l C dX16_others_75 ?_
  refine pm_lload C dX16_others_76 rfl ?_
  refine pm_ladd C dX16_others_78 ?_
  refine pm_lload C dX16_others_79 rfl ?_
  refine pm_lcmp C dX16_others_81 ?_
  refine pm_if_gt (tgt := 100) C dX16_others_82 (by decide) (fun c111 => ?_) (fun c111 => ?_)
  · have hf := pm_it hf ((pm_lg_gt _ _).mp c111)
    exact pm_sub [1, 2, 3, 4] rfl (bX16_others_100 C X hf q)
  · have hf := pm_ie hf ((fun z => c111 ((pm_lg_gt _ _).mpr z)))
    refine pm_lload C dX16_others_85 rfl ?_
    refine pm_aload_n C dX16_others_87 rfl rfl ?_
    obtain ⟨k112, hf⟩ := pm_if hf
    refine pm_getI C dX16_others_88 flX16_106 rfl k112 rfl ?_
    refine pm_i2l C dX16_others_91 ?_
    refine pm_lcmp C dX16_others_92 ?_
    refine pm_if_gt (tgt := 100) C dX16_others_93 (by decide) (fun c113 => ?_) (fun c113 => ?_)
    · have hf := pm_it hf ((pm_lg_gt _ _).mp c113)
      exact pm_sub [1, 2, 3, 4] rfl (bX16_others_100 C X hf q)
    · have hf := pm_ie hf ((fun z => c113 ((pm_lg_gt _ _).mpr z)))
      refine pm_iconst (v := 1) C dX16_others_96 (by decide) ?_
      refine pm_goto (tgt := 101) C dX16_others_97 (by decide) ?_
      exact pm_sub [1, 2, 3, 4] rfl (bX16_others_101 C X hf q)
set_option maxHeartbeats 4000000 in
set_option maxRecDepth 100000 in
theorem bX16_others_47 {g : pm_Gm} {l : Launch} {G : pm_Gl} {Qr : Option Value → pm_H → Prop} (C : pm_C g cX16_others RX16) (X : pm_X g l G mX16_others 0 0 Qr) {h : pm_H} {x0 : Nat} {x2 : Int32} {x3 : Int32} {s0 : Int64} {r : pm_H} (hf : fX16_others_b47 h x0 x2 x3 s0 = some r) (q : Qr none r) : pm_G g 47 [(0, .ref x0), (2, .int x2), (3, .int x3)] [.long s0] h 0 0 := by
  unfold fX16_others_b47 at hf
  refine pm_lstore (lv' := [(4, .long s0), (0, .ref x0), (2, .int x2), (3, .int x3)]) C dX16_others_47 (pm_nl X (by decide)) rfl ?_
  refine pm_aload_n C dX16_others_49 rfl rfl ?_
  obtain ⟨k104, hf⟩ := pm_if hf
  obtain ⟨v105, e106, hf⟩ := pm_bd hf
  refine pm_getR C dX16_others_50 flX16_112 rfl k104 e106 ?_
  refine pm_iload_n C dX16_others_53 rfl rfl ?_
  obtain ⟨k107, hf⟩ := pm_if hf
  obtain ⟨u108, hf⟩ := pm_if hf
  refine pm_lald C dX16_others_54 k107 u108 rfl ?_
  refine pm_lconst (v := 0) C dX16_others_55 (by decide) ?_
  refine pm_lcmp C dX16_others_56 ?_
  refine pm_if_ge (tgt := 66) C dX16_others_57 (by decide) (fun c109 => ?_) (fun c109 => ?_)
  · have hf := pm_it hf ((pm_lg_ge _ _).mp c109)
    refine pm_aload_n C dX16_others_66 rfl rfl ?_
    refine pm_getR C dX16_others_67 flX16_112 rfl k104 e106 ?_
    refine pm_iload_n C dX16_others_70 rfl rfl ?_
    obtain ⟨u110, hf⟩ := pm_if hf
    refine pm_lald C dX16_others_71 k107 u110 rfl ?_
    exact pm_sub [1, 2, 3, 0] rfl (bX16_others_72 C X hf q)
  · have hf := pm_ie hf ((fun z => c109 ((pm_lg_ge _ _).mpr z)))
    refine pm_ldc2 C dX16_others_60 cnX16_636 ?_
    refine pm_goto (tgt := 72) C dX16_others_63 (by decide) ?_
    exact pm_sub [1, 2, 3, 0] rfl (bX16_others_72 C X hf q)
set_option maxHeartbeats 4000000 in
set_option maxRecDepth 100000 in
theorem bX16_others_12 {g : pm_Gm} {l : Launch} {G : pm_Gl} {Qr : Option Value → pm_H → Prop} (C : pm_C g cX16_others RX16) (X : pm_X g l G mX16_others 0 0 Qr) {h : pm_H} {x0 : Nat} {x1 : Int32} {r : pm_H} (hf : fX16_others_b12 h x0 x1 = some r) (q : Qr none r) : pm_G g 12 [(0, .ref x0), (1, .int x1)] [] h 0 0 := by
  unfold fX16_others_b12 at hf
  refine pm_aload_n C dX16_others_12 rfl rfl ?_
  obtain ⟨k86, hf⟩ := pm_if hf
  obtain ⟨v87, e88, hf⟩ := pm_bd hf
  refine pm_getR C dX16_others_13 flX16_140 rfl k86 e88 ?_
  refine pm_sipush (v := 128) C dX16_others_16 (by decide) ?_
  refine pm_aload_n C dX16_others_19 rfl rfl ?_
  refine pm_getI C dX16_others_20 flX16_1110 rfl k86 rfl ?_
  refine pm_imul C dX16_others_23 ?_
  obtain ⟨y89, e90, hf⟩ := pm_lt hf
  refine pm_topI e90 ?_
  obtain ⟨k91, hf⟩ := pm_if hf
  obtain ⟨u92, hf⟩ := pm_if hf
  refine pm_iald C dX16_others_24 k91 u92 rfl ?_
  obtain ⟨y93, e94, hf⟩ := pm_lt hf
  refine pm_topI e94 ?_
  refine pm_istore_n (lv' := [(2, .int y93), (0, .ref x0), (1, .int x1)]) C dX16_others_25 rfl (pm_nl X (by decide)) rfl ?_
  refine pm_aload_n C dX16_others_26 rfl rfl ?_
  obtain ⟨v95, e96, hf⟩ := pm_bd hf
  refine pm_getR C dX16_others_27 flX16_109 rfl k86 e96 ?_
  refine pm_iload_n C dX16_others_30 rfl rfl ?_
  obtain ⟨k97, hf⟩ := pm_if hf
  obtain ⟨u98, hf⟩ := pm_if hf
  refine pm_iald C dX16_others_31 k97 u98 rfl ?_
  obtain ⟨y99, e100, hf⟩ := pm_lt hf
  refine pm_topI e100 ?_
  refine pm_istore_n (lv' := [(3, .int y99), (2, .int y93), (0, .ref x0), (1, .int x1)]) C dX16_others_32 rfl (pm_nl X (by decide)) rfl ?_
  refine pm_iload_n C dX16_others_33 rfl rfl ?_
  refine pm_bipush (v := 63) C dX16_others_34 (by decide) ?_
  refine pm_icmp_ne (tgt := 43) C dX16_others_36 (by decide) (fun c101 => ?_) (fun c101 => ?_)
  · have hf := pm_ie hf c101
    refine pm_aload_n C dX16_others_43 rfl rfl ?_
    obtain ⟨v102, e103, hf⟩ := pm_bd hf
    refine pm_callV (as := []) (st := []) C X dX16_others_44 lnX16_1157 myX16_pop viX16_pop ⟨by decide, by decide⟩ rfl rfl k86 (Nat.le_of_ble_eq_true rfl) (Nat.le_refl _) (Nat.le_refl _) (ctX16_pop e103 ?_)
    show pm_G g 47 [(3, .int y99), (2, .int y93), (0, .ref x0), (1, .int x1)] [.long v102.1] v102.2 0 0
    exact pm_sub [2, 1, 0] rfl (bX16_others_47 C X hf q)
  · have hf := pm_it hf c101
    refine pm_lconst (v := 0) C dX16_others_39 (by decide) ?_
    refine pm_goto (tgt := 47) C dX16_others_40 (by decide) ?_
    exact pm_sub [2, 1, 0] rfl (bX16_others_47 C X hf q)
set_option maxHeartbeats 4000000 in
set_option maxRecDepth 100000 in
theorem ctX16_others {l : Launch} {G : pm_Gl} {h : pm_H} {a0 : Nat} {p1 : Int32} {r : pm_H} {Qr : Option Value → pm_H → Prop} (hf : fX16_others h a0 p1 = some r) (q : Qr none r) : pm_Ct l G mX16_others [.ref a0, .int p1] h 0 0 Qr := by
  refine pm_body pnX16 (Nat.le_of_ble_eq_true rfl) (fun g C X => ?_)
  have C : pm_C g cX16_others RX16 := C
  show pm_G g 0 [(0, .ref a0), (1, .int p1)] [] h 0 0
  unfold fX16_others at hf
  refine pm_iload_n C dX16_others_0 rfl rfl ?_
  refine pm_bipush (v := 63) C dX16_others_1 (by decide) ?_
  refine pm_icmp_eq (tgt := 12) C dX16_others_3 (by decide) (fun c1 => ?_) (fun c1 => ?_)
  · have hf := pm_it hf c1
    exact pm_sub [0, 1] rfl (bX16_others_12 C X hf q)
  · have hf := pm_ie hf c1
    refine pm_iload_n C dX16_others_6 rfl rfl ?_
    refine pm_bipush (v := 64) C dX16_others_7 (by decide) ?_
    refine pm_icmp_ne (tgt := 136) C dX16_others_9 (by decide) (fun c2 => ?_) (fun c2 => ?_)
    · have hf := pm_ie hf c2
      refine pm_iload_n C dX16_others_136 rfl rfl ?_
      refine pm_bipush (v := 65) C dX16_others_137 (by decide) ?_
      refine pm_icmp_eq (tgt := 148) C dX16_others_139 (by decide) (fun c3 => ?_) (fun c3 => ?_)
      · have hf := pm_it hf c3
        refine pm_aload_n C dX16_others_148 rfl rfl ?_
        refine pm_iload_n C dX16_others_149 rfl rfl ?_
        refine pm_bipush (v := 65) C dX16_others_150 (by decide) ?_
        refine pm_icmp_ne (tgt := 166) C dX16_others_152 (by decide) (fun c4 => ?_) (fun c4 => ?_)
        · have hf := pm_ie hf c4
          refine pm_aload_n C dX16_others_166 rfl rfl ?_
          obtain ⟨k5, hf⟩ := pm_if hf
          obtain ⟨v6, e7, hf⟩ := pm_bd hf
          refine pm_callV (as := []) (st := [.ref a0]) C X dX16_others_167 lnX16_597 myX16_signedWord viX16_signedWord ⟨by decide, by decide⟩ rfl rfl k5 (Nat.le_of_ble_eq_true rfl) (Nat.le_refl _) (Nat.le_refl _) (ctX16_signedWord e7 ?_)
          show pm_G g 170 [(0, .ref a0), (1, .int p1)] [.long v6.1, .ref a0] v6.2 0 0
          obtain ⟨k8, hf⟩ := pm_if hf
          obtain ⟨v9, e10, hf⟩ := pm_bd hf
          refine pm_callV (as := [.long v6.1]) (st := []) C X dX16_others_170 lnX16_1136 myX16_push viX16_push ⟨by decide, by decide⟩ rfl rfl k8 (Nat.le_of_ble_eq_true rfl) (Nat.le_refl _) (Nat.le_refl _) (ctX16_push e10 ?_)
          show pm_G g 173 [(0, .ref a0), (1, .int p1)] [] v9 0 0
          refine pm_goto (tgt := 282) C dX16_others_173 (by decide) ?_
          cases hf
          exact pm_vret C X dX16_others_282 rfl (Nat.le_refl _) (Nat.le_refl _) q
        · have hf := pm_it hf c4
          refine pm_aload_n C dX16_others_155 rfl rfl ?_
          obtain ⟨k11, hf⟩ := pm_if hf
          obtain ⟨v12, e13, hf⟩ := pm_bd hf
          refine pm_callV (as := []) (st := [.ref a0]) C X dX16_others_156 lnX16_597 myX16_signedWord viX16_signedWord ⟨by decide, by decide⟩ rfl rfl k11 (Nat.le_of_ble_eq_true rfl) (Nat.le_refl _) (Nat.le_refl _) (ctX16_signedWord e13 ?_)
          show pm_G g 159 [(0, .ref a0), (1, .int p1)] [.long v12.1, .ref a0] v12.2 0 0
          refine pm_ldc2 C dX16_others_159 cnX16_513 ?_
          refine pm_land C dX16_others_162 ?_
          refine pm_goto (tgt := 170) C dX16_others_163 (by decide) ?_
          obtain ⟨k14, hf⟩ := pm_if hf
          obtain ⟨v15, e16, hf⟩ := pm_bd hf
          refine pm_callV (as := [.long (v12.1 &&& 4294967295)]) (st := []) C X dX16_others_170 lnX16_1136 myX16_push viX16_push ⟨by decide, by decide⟩ rfl rfl k14 (Nat.le_of_ble_eq_true rfl) (Nat.le_refl _) (Nat.le_refl _) (ctX16_push e16 ?_)
          show pm_G g 173 [(0, .ref a0), (1, .int p1)] [] v15 0 0
          refine pm_goto (tgt := 282) C dX16_others_173 (by decide) ?_
          cases hf
          exact pm_vret C X dX16_others_282 rfl (Nat.le_refl _) (Nat.le_refl _) q
      · have hf := pm_ie hf c3
        refine pm_iload_n C dX16_others_142 rfl rfl ?_
        refine pm_bipush (v := 66) C dX16_others_143 (by decide) ?_
        refine pm_icmp_ne (tgt := 176) C dX16_others_145 (by decide) (fun c17 => ?_) (fun c17 => ?_)
        · have hf := pm_ie hf c17
          refine pm_iload_n C dX16_others_176 rfl rfl ?_
          refine pm_bipush (v := 67) C dX16_others_177 (by decide) ?_
          refine pm_icmp_eq (tgt := 188) C dX16_others_179 (by decide) (fun c18 => ?_) (fun c18 => ?_)
          · have hf := pm_it hf c18
            refine pm_aload_n C dX16_others_188 rfl rfl ?_
            refine pm_aload_n C dX16_others_189 rfl rfl ?_
            refine pm_iload_n C dX16_others_190 rfl rfl ?_
            refine pm_bipush (v := 67) C dX16_others_191 (by decide) ?_
            refine pm_icmp_ne (tgt := 200) C dX16_others_193 (by decide) (fun c19 => ?_) (fun c19 => ?_)
            · have hf := pm_ie hf c19
              refine pm_bipush (v := 8) C dX16_others_200 (by decide) ?_
              obtain ⟨k20, hf⟩ := pm_if hf
              obtain ⟨v21, e22, hf⟩ := pm_bd hf
              refine pm_callV (as := [.int 8]) (st := [.ref a0]) C X dX16_others_202 lnX16_1027 myX16_bytesAt viX16_bytesAt ⟨by decide, by decide⟩ rfl rfl k20 (Nat.le_of_ble_eq_true rfl) (Nat.le_refl _) (Nat.le_refl _) (ctX16_bytesAt e22 ?_)
              show pm_G g 205 [(0, .ref a0), (1, .int p1)] [.long v21.1, .ref a0] v21.2 0 0
              obtain ⟨k23, hf⟩ := pm_if hf
              obtain ⟨v24, e25, hf⟩ := pm_bd hf
              refine pm_callV (as := [.long v21.1]) (st := []) C X dX16_others_205 lnX16_1136 myX16_push viX16_push ⟨by decide, by decide⟩ rfl rfl k23 (Nat.le_of_ble_eq_true rfl) (Nat.le_refl _) (Nat.le_refl _) (ctX16_push e25 ?_)
              show pm_G g 208 [(0, .ref a0), (1, .int p1)] [] v24 0 0
              refine pm_goto (tgt := 282) C dX16_others_208 (by decide) ?_
              cases hf
              exact pm_vret C X dX16_others_282 rfl (Nat.le_refl _) (Nat.le_refl _) q
            · have hf := pm_it hf c19
              refine pm_iconst (v := 4) C dX16_others_196 (by decide) ?_
              refine pm_goto (tgt := 202) C dX16_others_197 (by decide) ?_
              obtain ⟨k26, hf⟩ := pm_if hf
              obtain ⟨v27, e28, hf⟩ := pm_bd hf
              refine pm_callV (as := [.int 4]) (st := [.ref a0]) C X dX16_others_202 lnX16_1027 myX16_bytesAt viX16_bytesAt ⟨by decide, by decide⟩ rfl rfl k26 (Nat.le_of_ble_eq_true rfl) (Nat.le_refl _) (Nat.le_refl _) (ctX16_bytesAt e28 ?_)
              show pm_G g 205 [(0, .ref a0), (1, .int p1)] [.long v27.1, .ref a0] v27.2 0 0
              obtain ⟨k29, hf⟩ := pm_if hf
              obtain ⟨v30, e31, hf⟩ := pm_bd hf
              refine pm_callV (as := [.long v27.1]) (st := []) C X dX16_others_205 lnX16_1136 myX16_push viX16_push ⟨by decide, by decide⟩ rfl rfl k29 (Nat.le_of_ble_eq_true rfl) (Nat.le_refl _) (Nat.le_refl _) (ctX16_push e31 ?_)
              show pm_G g 208 [(0, .ref a0), (1, .int p1)] [] v30 0 0
              refine pm_goto (tgt := 282) C dX16_others_208 (by decide) ?_
              cases hf
              exact pm_vret C X dX16_others_282 rfl (Nat.le_refl _) (Nat.le_refl _) q
          · have hf := pm_ie hf c18
            refine pm_iload_n C dX16_others_182 rfl rfl ?_
            refine pm_bipush (v := 68) C dX16_others_183 (by decide) ?_
            refine pm_icmp_ne (tgt := 211) C dX16_others_185 (by decide) (fun c32 => ?_) (fun c32 => ?_)
            · have hf := pm_ie hf c32
              refine pm_iload_n C dX16_others_211 rfl rfl ?_
              refine pm_sipush (v := 208) C dX16_others_212 (by decide) ?_
              refine pm_icmp_ne (tgt := 228) C dX16_others_215 (by decide) (fun c33 => ?_) (fun c33 => ?_)
              · have hf := pm_ie hf c33
                refine pm_iload_n C dX16_others_228 rfl rfl ?_
                refine pm_sipush (v := 209) C dX16_others_229 (by decide) ?_
                refine pm_icmp_ne (tgt := 258) C dX16_others_232 (by decide) (fun c34 => ?_) (fun c34 => ?_)
                · have hf := pm_ie hf c34
                  refine pm_aload_n C dX16_others_258 rfl rfl ?_
                  refine pm_aload_n C dX16_others_259 rfl rfl ?_
                  obtain ⟨k35, hf⟩ := pm_if hf
                  obtain ⟨v36, e37, hf⟩ := pm_bd hf
                  refine pm_getR C dX16_others_260 flX16_134 rfl k35 e37 ?_
                  refine pm_sipush (v := 128) C dX16_others_263 (by decide) ?_
                  refine pm_aload_n C dX16_others_266 rfl rfl ?_
                  refine pm_getI C dX16_others_267 flX16_1110 rfl k35 rfl ?_
                  refine pm_imul C dX16_others_270 ?_
                  refine pm_aload_n C dX16_others_271 rfl rfl ?_
                  obtain ⟨v38, e39, hf⟩ := pm_bd hf
                  refine pm_callV (as := []) (st := [.int (128 * (pm_I h a0 95)), .ref v36, .ref a0]) C X dX16_others_272 lnX16_603 myX16_word viX16_word ⟨by decide, by decide⟩ rfl rfl k35 (Nat.le_of_ble_eq_true rfl) (Nat.le_refl _) (Nat.le_refl _) (ctX16_word e39 ?_)
                  show pm_G g 275 [(0, .ref a0), (1, .int p1)] [.long v38.1, .int (128 * (pm_I h a0 95)), .ref v36, .ref a0] v38.2 0 0
                  refine pm_l2i C dX16_others_275 ?_
                  refine pm_iadd C dX16_others_276 ?_
                  obtain ⟨y40, e41, hf⟩ := pm_lt hf
                  refine pm_topI e41 ?_
                  obtain ⟨k42, hf⟩ := pm_if hf
                  obtain ⟨u43, hf⟩ := pm_if hf
                  refine pm_iald C dX16_others_277 k42 u43 rfl ?_
                  refine pm_i2l C dX16_others_278 ?_
                  obtain ⟨k44, hf⟩ := pm_if hf
                  obtain ⟨v45, e46, hf⟩ := pm_bd hf
                  refine pm_callV (as := [.long ((pm_I v38.2 v36 y40.toNatClampNeg).toInt64)]) (st := []) C X dX16_others_279 lnX16_1136 myX16_push viX16_push ⟨by decide, by decide⟩ rfl rfl k44 (Nat.le_of_ble_eq_true rfl) (Nat.le_refl _) (Nat.le_refl _) (ctX16_push e46 ?_)
                  show pm_G g 282 [(0, .ref a0), (1, .int p1)] [] v45 0 0
                  cases hf
                  exact pm_vret C X dX16_others_282 rfl (Nat.le_refl _) (Nat.le_refl _) q
                · have hf := pm_it hf c34
                  refine pm_aload_n C dX16_others_235 rfl rfl ?_
                  refine pm_aload_n C dX16_others_236 rfl rfl ?_
                  obtain ⟨k47, hf⟩ := pm_if hf
                  obtain ⟨v48, e49, hf⟩ := pm_bd hf
                  refine pm_callV (as := []) (st := [.ref a0]) C X dX16_others_237 lnX16_1157 myX16_pop viX16_pop ⟨by decide, by decide⟩ rfl rfl k47 (Nat.le_of_ble_eq_true rfl) (Nat.le_refl _) (Nat.le_refl _) (ctX16_pop e49 ?_)
                  show pm_G g 240 [(0, .ref a0), (1, .int p1)] [.long v48.1, .ref a0] v48.2 0 0
                  refine pm_ldc2 C dX16_others_240 cnX16_268 ?_
                  refine pm_lcmp C dX16_others_243 ?_
                  refine pm_if_ne (tgt := 251) C dX16_others_244 (by decide) (fun c50 => ?_) (fun c50 => ?_)
                  · have hf := pm_ie hf ((fun z => c50 ((pm_lg_eq _ _).mpr z)))
                    refine pm_lconst (v := 0) C dX16_others_251 (by decide) ?_
                    obtain ⟨k51, hf⟩ := pm_if hf
                    obtain ⟨v52, e53, hf⟩ := pm_bd hf
                    refine pm_callV (as := [.long 0]) (st := []) C X dX16_others_252 lnX16_1136 myX16_push viX16_push ⟨by decide, by decide⟩ rfl rfl k51 (Nat.le_of_ble_eq_true rfl) (Nat.le_refl _) (Nat.le_refl _) (ctX16_push e53 ?_)
                    show pm_G g 255 [(0, .ref a0), (1, .int p1)] [] v52 0 0
                    refine pm_goto (tgt := 282) C dX16_others_255 (by decide) ?_
                    cases hf
                    exact pm_vret C X dX16_others_282 rfl (Nat.le_refl _) (Nat.le_refl _) q
                  · have hf := pm_it hf ((pm_lg_eq _ _).mp c50)
                    refine pm_lconst (v := 1) C dX16_others_247 (by decide) ?_
                    refine pm_goto (tgt := 252) C dX16_others_248 (by decide) ?_
                    obtain ⟨k54, hf⟩ := pm_if hf
                    obtain ⟨v55, e56, hf⟩ := pm_bd hf
                    refine pm_callV (as := [.long 1]) (st := []) C X dX16_others_252 lnX16_1136 myX16_push viX16_push ⟨by decide, by decide⟩ rfl rfl k54 (Nat.le_of_ble_eq_true rfl) (Nat.le_refl _) (Nat.le_refl _) (ctX16_push e56 ?_)
                    show pm_G g 255 [(0, .ref a0), (1, .int p1)] [] v55 0 0
                    refine pm_goto (tgt := 282) C dX16_others_255 (by decide) ?_
                    cases hf
                    exact pm_vret C X dX16_others_282 rfl (Nat.le_refl _) (Nat.le_refl _) q
              · have hf := pm_it hf c33
                refine pm_aload_n C dX16_others_218 rfl rfl ?_
                refine pm_ldc2 C dX16_others_219 cnX16_268 ?_
                obtain ⟨k57, hf⟩ := pm_if hf
                obtain ⟨v58, e59, hf⟩ := pm_bd hf
                refine pm_callV (as := [.long (-1)]) (st := []) C X dX16_others_222 lnX16_1136 myX16_push viX16_push ⟨by decide, by decide⟩ rfl rfl k57 (Nat.le_of_ble_eq_true rfl) (Nat.le_refl _) (Nat.le_refl _) (ctX16_push e59 ?_)
                show pm_G g 225 [(0, .ref a0), (1, .int p1)] [] v58 0 0
                refine pm_goto (tgt := 282) C dX16_others_225 (by decide) ?_
                cases hf
                exact pm_vret C X dX16_others_282 rfl (Nat.le_refl _) (Nat.le_refl _) q
            · have hf := pm_it hf c32
              refine pm_aload_n C dX16_others_188 rfl rfl ?_
              refine pm_aload_n C dX16_others_189 rfl rfl ?_
              refine pm_iload_n C dX16_others_190 rfl rfl ?_
              refine pm_bipush (v := 67) C dX16_others_191 (by decide) ?_
              refine pm_icmp_ne (tgt := 200) C dX16_others_193 (by decide) (fun c60 => ?_) (fun c60 => ?_)
              · have hf := pm_ie hf c60
                refine pm_bipush (v := 8) C dX16_others_200 (by decide) ?_
                obtain ⟨k61, hf⟩ := pm_if hf
                obtain ⟨v62, e63, hf⟩ := pm_bd hf
                refine pm_callV (as := [.int 8]) (st := [.ref a0]) C X dX16_others_202 lnX16_1027 myX16_bytesAt viX16_bytesAt ⟨by decide, by decide⟩ rfl rfl k61 (Nat.le_of_ble_eq_true rfl) (Nat.le_refl _) (Nat.le_refl _) (ctX16_bytesAt e63 ?_)
                show pm_G g 205 [(0, .ref a0), (1, .int p1)] [.long v62.1, .ref a0] v62.2 0 0
                obtain ⟨k64, hf⟩ := pm_if hf
                obtain ⟨v65, e66, hf⟩ := pm_bd hf
                refine pm_callV (as := [.long v62.1]) (st := []) C X dX16_others_205 lnX16_1136 myX16_push viX16_push ⟨by decide, by decide⟩ rfl rfl k64 (Nat.le_of_ble_eq_true rfl) (Nat.le_refl _) (Nat.le_refl _) (ctX16_push e66 ?_)
                show pm_G g 208 [(0, .ref a0), (1, .int p1)] [] v65 0 0
                refine pm_goto (tgt := 282) C dX16_others_208 (by decide) ?_
                cases hf
                exact pm_vret C X dX16_others_282 rfl (Nat.le_refl _) (Nat.le_refl _) q
              · have hf := pm_it hf c60
                refine pm_iconst (v := 4) C dX16_others_196 (by decide) ?_
                refine pm_goto (tgt := 202) C dX16_others_197 (by decide) ?_
                obtain ⟨k67, hf⟩ := pm_if hf
                obtain ⟨v68, e69, hf⟩ := pm_bd hf
                refine pm_callV (as := [.int 4]) (st := [.ref a0]) C X dX16_others_202 lnX16_1027 myX16_bytesAt viX16_bytesAt ⟨by decide, by decide⟩ rfl rfl k67 (Nat.le_of_ble_eq_true rfl) (Nat.le_refl _) (Nat.le_refl _) (ctX16_bytesAt e69 ?_)
                show pm_G g 205 [(0, .ref a0), (1, .int p1)] [.long v68.1, .ref a0] v68.2 0 0
                obtain ⟨k70, hf⟩ := pm_if hf
                obtain ⟨v71, e72, hf⟩ := pm_bd hf
                refine pm_callV (as := [.long v68.1]) (st := []) C X dX16_others_205 lnX16_1136 myX16_push viX16_push ⟨by decide, by decide⟩ rfl rfl k70 (Nat.le_of_ble_eq_true rfl) (Nat.le_refl _) (Nat.le_refl _) (ctX16_push e72 ?_)
                show pm_G g 208 [(0, .ref a0), (1, .int p1)] [] v71 0 0
                refine pm_goto (tgt := 282) C dX16_others_208 (by decide) ?_
                cases hf
                exact pm_vret C X dX16_others_282 rfl (Nat.le_refl _) (Nat.le_refl _) q
        · have hf := pm_it hf c17
          refine pm_aload_n C dX16_others_148 rfl rfl ?_
          refine pm_iload_n C dX16_others_149 rfl rfl ?_
          refine pm_bipush (v := 65) C dX16_others_150 (by decide) ?_
          refine pm_icmp_ne (tgt := 166) C dX16_others_152 (by decide) (fun c73 => ?_) (fun c73 => ?_)
          · have hf := pm_ie hf c73
            refine pm_aload_n C dX16_others_166 rfl rfl ?_
            obtain ⟨k74, hf⟩ := pm_if hf
            obtain ⟨v75, e76, hf⟩ := pm_bd hf
            refine pm_callV (as := []) (st := [.ref a0]) C X dX16_others_167 lnX16_597 myX16_signedWord viX16_signedWord ⟨by decide, by decide⟩ rfl rfl k74 (Nat.le_of_ble_eq_true rfl) (Nat.le_refl _) (Nat.le_refl _) (ctX16_signedWord e76 ?_)
            show pm_G g 170 [(0, .ref a0), (1, .int p1)] [.long v75.1, .ref a0] v75.2 0 0
            obtain ⟨k77, hf⟩ := pm_if hf
            obtain ⟨v78, e79, hf⟩ := pm_bd hf
            refine pm_callV (as := [.long v75.1]) (st := []) C X dX16_others_170 lnX16_1136 myX16_push viX16_push ⟨by decide, by decide⟩ rfl rfl k77 (Nat.le_of_ble_eq_true rfl) (Nat.le_refl _) (Nat.le_refl _) (ctX16_push e79 ?_)
            show pm_G g 173 [(0, .ref a0), (1, .int p1)] [] v78 0 0
            refine pm_goto (tgt := 282) C dX16_others_173 (by decide) ?_
            cases hf
            exact pm_vret C X dX16_others_282 rfl (Nat.le_refl _) (Nat.le_refl _) q
          · have hf := pm_it hf c73
            refine pm_aload_n C dX16_others_155 rfl rfl ?_
            obtain ⟨k80, hf⟩ := pm_if hf
            obtain ⟨v81, e82, hf⟩ := pm_bd hf
            refine pm_callV (as := []) (st := [.ref a0]) C X dX16_others_156 lnX16_597 myX16_signedWord viX16_signedWord ⟨by decide, by decide⟩ rfl rfl k80 (Nat.le_of_ble_eq_true rfl) (Nat.le_refl _) (Nat.le_refl _) (ctX16_signedWord e82 ?_)
            show pm_G g 159 [(0, .ref a0), (1, .int p1)] [.long v81.1, .ref a0] v81.2 0 0
            refine pm_ldc2 C dX16_others_159 cnX16_513 ?_
            refine pm_land C dX16_others_162 ?_
            refine pm_goto (tgt := 170) C dX16_others_163 (by decide) ?_
            obtain ⟨k83, hf⟩ := pm_if hf
            obtain ⟨v84, e85, hf⟩ := pm_bd hf
            refine pm_callV (as := [.long (v81.1 &&& 4294967295)]) (st := []) C X dX16_others_170 lnX16_1136 myX16_push viX16_push ⟨by decide, by decide⟩ rfl rfl k83 (Nat.le_of_ble_eq_true rfl) (Nat.le_refl _) (Nat.le_refl _) (ctX16_push e85 ?_)
            show pm_G g 173 [(0, .ref a0), (1, .int p1)] [] v84 0 0
            refine pm_goto (tgt := 282) C dX16_others_173 (by decide) ?_
            cases hf
            exact pm_vret C X dX16_others_282 rfl (Nat.le_refl _) (Nat.le_refl _) q
    · have hf := pm_it hf c2
      exact pm_sub [0, 1] rfl (bX16_others_12 C X hf q)
theorem dX16_parametersIn_0 : decode cX16_parametersIn 0 = .ok (.aload_n 0, 1) := by decide +kernel
theorem dX16_parametersIn_1 : decode cX16_parametersIn 1 = .ok (.iload_n 1, 1) := by decide +kernel
theorem dX16_parametersIn_2 : decode cX16_parametersIn 2 = .ok (.invokevirtual 1065, 3) := by decide +kernel
theorem dX16_parametersIn_5 : decode cX16_parametersIn 5 = .ok (.getfield 387, 3) := by decide +kernel
theorem dX16_parametersIn_8 : decode cX16_parametersIn 8 = .ok (.aload_n 0, 1) := by decide +kernel
theorem dX16_parametersIn_9 : decode cX16_parametersIn 9 = .ok (.getfield 71, 3) := by decide +kernel
theorem dX16_parametersIn_12 : decode cX16_parametersIn 12 = .ok (.iload_n 1, 1) := by decide +kernel
theorem dX16_parametersIn_13 : decode cX16_parametersIn 13 = .ok (.iaload, 1) := by decide +kernel
theorem dX16_parametersIn_14 : decode cX16_parametersIn 14 = .ok (.iaload, 1) := by decide +kernel
theorem dX16_parametersIn_15 : decode cX16_parametersIn 15 = .ok (.ireturn, 1) := by decide +kernel
def fX16_parametersIn (h : pm_H) (a0 : Nat) (p1 : Int32) : Option Int32 := if pm_kd h a0 = 16 then (fX16_planOf h a0 p1).bind fun v2 => if pm_kd h v2 = 14 then (pm_R h v2 5).bind fun v5 => (pm_R h a0 38).bind fun v7 => if pm_kd h v7 = 34 then if pm_in p1 (pm_ln h v7) then pm_let (pm_I h v7 p1.toNatClampNeg) fun y11 => if pm_kd h v5 = 34 then if pm_in y11 (pm_ln h v5) then some (pm_I h v5 y11.toNatClampNeg) else none else none else none else none else none else none
set_option maxHeartbeats 4000000 in
set_option maxRecDepth 100000 in
theorem ctX16_parametersIn {l : Launch} {G : pm_Gl} {h : pm_H} {a0 : Nat} {p1 : Int32} {r : Int32} {Qr : Option Value → pm_H → Prop} (hf : fX16_parametersIn h a0 p1 = some r) (q : Qr (some (.int r)) h) : pm_Ct l G mX16_parametersIn [.ref a0, .int p1] h 0 0 Qr := by
  refine pm_body pnX16 (Nat.le_of_ble_eq_true rfl) (fun g C X => ?_)
  have C : pm_C g cX16_parametersIn RX16 := C
  show pm_G g 0 [(0, .ref a0), (1, .int p1)] [] h 0 0
  unfold fX16_parametersIn at hf
  refine pm_aload_n C dX16_parametersIn_0 rfl rfl ?_
  refine pm_iload_n C dX16_parametersIn_1 rfl rfl ?_
  obtain ⟨k1, hf⟩ := pm_if hf
  obtain ⟨v2, e3, hf⟩ := pm_bd hf
  refine pm_callV (as := [.int p1]) (st := []) C X dX16_parametersIn_2 lnX16_1065 myX16_planOf viX16_planOf ⟨by decide, by decide⟩ rfl rfl k1 (Nat.le_of_ble_eq_true rfl) (Nat.le_refl _) (Nat.le_refl _) (ctX16_planOf e3 ?_)
  show pm_G g 5 [(0, .ref a0), (1, .int p1)] [.ref v2] h 0 0
  obtain ⟨k4, hf⟩ := pm_if hf
  obtain ⟨v5, e6, hf⟩ := pm_bd hf
  refine pm_getR C dX16_parametersIn_5 flX16_387 rfl k4 e6 ?_
  refine pm_aload_n C dX16_parametersIn_8 rfl rfl ?_
  obtain ⟨v7, e8, hf⟩ := pm_bd hf
  refine pm_getR C dX16_parametersIn_9 flX16_71 rfl k1 e8 ?_
  refine pm_iload_n C dX16_parametersIn_12 rfl rfl ?_
  obtain ⟨k9, hf⟩ := pm_if hf
  obtain ⟨u10, hf⟩ := pm_if hf
  refine pm_iald C dX16_parametersIn_13 k9 u10 rfl ?_
  obtain ⟨y11, e12, hf⟩ := pm_lt hf
  refine pm_topI e12 ?_
  obtain ⟨k13, hf⟩ := pm_if hf
  obtain ⟨u14, hf⟩ := pm_if hf
  refine pm_iald C dX16_parametersIn_14 k13 u14 rfl ?_
  cases hf
  exact pm_iret C X dX16_parametersIn_15 rfl (Nat.le_refl _) (Nat.le_refl _) q
theorem dX16_passesFurther_0 : decode cX16_passesFurther 0 = .ok (.aload_n 0, 1) := by decide +kernel
theorem dX16_passesFurther_1 : decode cX16_passesFurther 1 = .ok (.invokevirtual 603, 3) := by decide +kernel
theorem dX16_passesFurther_4 : decode cX16_passesFurther 4 = .ok (.lstore_n 1, 1) := by decide +kernel
theorem dX16_passesFurther_5 : decode cX16_passesFurther 5 = .ok (.lload_n 1, 1) := by decide +kernel
theorem dX16_passesFurther_6 : decode cX16_passesFurther 6 = .ok (.ldc2_w 588, 3) := by decide +kernel
theorem dX16_passesFurther_9 : decode cX16_passesFurther 9 = .ok (.lcmp, 1) := by decide +kernel
theorem dX16_passesFurther_10 : decode cX16_passesFurther 10 = .ok (.ifCond .eq 11, 3) := by decide +kernel
theorem dX16_passesFurther_13 : decode cX16_passesFurther 13 = .ok (.lload_n 1, 1) := by decide +kernel
theorem dX16_passesFurther_14 : decode cX16_passesFurther 14 = .ok (.ldc2_w 590, 3) := by decide +kernel
theorem dX16_passesFurther_17 : decode cX16_passesFurther 17 = .ok (.lcmp, 1) := by decide +kernel
theorem dX16_passesFurther_18 : decode cX16_passesFurther 18 = .ok (.ifCond .ne 8, 3) := by decide +kernel
theorem dX16_passesFurther_21 : decode cX16_passesFurther 21 = .ok (.aload_n 0, 1) := by decide +kernel
theorem dX16_passesFurther_22 : decode cX16_passesFurther 22 = .ok (.invokevirtual 603, 3) := by decide +kernel
theorem dX16_passesFurther_25 : decode cX16_passesFurther 25 = .ok (.lstore_n 3, 1) := by decide +kernel
theorem dX16_passesFurther_26 : decode cX16_passesFurther 26 = .ok (.lload_n 1, 1) := by decide +kernel
theorem dX16_passesFurther_27 : decode cX16_passesFurther 27 = .ok (.ldc2_w 582, 3) := by decide +kernel
theorem dX16_passesFurther_30 : decode cX16_passesFurther 30 = .ok (.lcmp, 1) := by decide +kernel
theorem dX16_passesFurther_31 : decode cX16_passesFurther 31 = .ok (.ifCond .eq 19, 3) := by decide +kernel
theorem dX16_passesFurther_34 : decode cX16_passesFurther 34 = .ok (.lload_n 1, 1) := by decide +kernel
theorem dX16_passesFurther_35 : decode cX16_passesFurther 35 = .ok (.ldc2_w 584, 3) := by decide +kernel
theorem dX16_passesFurther_38 : decode cX16_passesFurther 38 = .ok (.lcmp, 1) := by decide +kernel
theorem dX16_passesFurther_39 : decode cX16_passesFurther 39 = .ok (.ifCond .eq 11, 3) := by decide +kernel
theorem dX16_passesFurther_42 : decode cX16_passesFurther 42 = .ok (.lload_n 1, 1) := by decide +kernel
theorem dX16_passesFurther_43 : decode cX16_passesFurther 43 = .ok (.ldc2_w 592, 3) := by decide +kernel
theorem dX16_passesFurther_46 : decode cX16_passesFurther 46 = .ok (.lcmp, 1) := by decide +kernel
theorem dX16_passesFurther_47 : decode cX16_passesFurther 47 = .ok (.ifCond .le 8, 3) := by decide +kernel
theorem dX16_passesFurther_50 : decode cX16_passesFurther 50 = .ok (.aload_n 0, 1) := by decide +kernel
theorem dX16_passesFurther_51 : decode cX16_passesFurther 51 = .ok (.invokevirtual 603, 3) := by decide +kernel
theorem dX16_passesFurther_54 : decode cX16_passesFurther 54 = .ok (.lstore_n 3, 1) := by decide +kernel
theorem dX16_passesFurther_55 : decode cX16_passesFurther 55 = .ok (.aload_n 0, 1) := by decide +kernel
theorem dX16_passesFurther_56 : decode cX16_passesFurther 56 = .ok (.dup, 1) := by decide +kernel
theorem dX16_passesFurther_57 : decode cX16_passesFurther 57 = .ok (.getfield 594, 3) := by decide +kernel
theorem dX16_passesFurther_60 : decode cX16_passesFurther 60 = .ok (.lload_n 1, 1) := by decide +kernel
theorem dX16_passesFurther_61 : decode cX16_passesFurther 61 = .ok (.ldc2_w 586, 3) := by decide +kernel
theorem dX16_passesFurther_64 : decode cX16_passesFurther 64 = .ok (.lcmp, 1) := by decide +kernel
theorem dX16_passesFurther_65 : decode cX16_passesFurther 65 = .ok (.ifCond .ne 7, 3) := by decide +kernel
theorem dX16_passesFurther_68 : decode cX16_passesFurther 68 = .ok (.iconst 2, 1) := by decide +kernel
theorem dX16_passesFurther_69 : decode cX16_passesFurther 69 = .ok (.goto 24, 3) := by decide +kernel
theorem dX16_passesFurther_72 : decode cX16_passesFurther 72 = .ok (.lload_n 1, 1) := by decide +kernel
theorem dX16_passesFurther_73 : decode cX16_passesFurther 73 = .ok (.ldc2_w 582, 3) := by decide +kernel
theorem dX16_passesFurther_76 : decode cX16_passesFurther 76 = .ok (.lcmp, 1) := by decide +kernel
theorem dX16_passesFurther_77 : decode cX16_passesFurther 77 = .ok (.ifCond .eq 11, 3) := by decide +kernel
theorem dX16_passesFurther_80 : decode cX16_passesFurther 80 = .ok (.lload_n 1, 1) := by decide +kernel
theorem dX16_passesFurther_81 : decode cX16_passesFurther 81 = .ok (.ldc2_w 592, 3) := by decide +kernel
theorem dX16_passesFurther_84 : decode cX16_passesFurther 84 = .ok (.lcmp, 1) := by decide +kernel
theorem dX16_passesFurther_85 : decode cX16_passesFurther 85 = .ok (.ifCond .ne 7, 3) := by decide +kernel
theorem dX16_passesFurther_88 : decode cX16_passesFurther 88 = .ok (.iconst 1, 1) := by decide +kernel
theorem dX16_passesFurther_89 : decode cX16_passesFurther 89 = .ok (.goto 4, 3) := by decide +kernel
theorem dX16_passesFurther_92 : decode cX16_passesFurther 92 = .ok (.iconst 0, 1) := by decide +kernel
theorem dX16_passesFurther_93 : decode cX16_passesFurther 93 = .ok (.iadd, 1) := by decide +kernel
theorem dX16_passesFurther_94 : decode cX16_passesFurther 94 = .ok (.putfield 594, 3) := by decide +kernel
theorem dX16_passesFurther_97 : decode cX16_passesFurther 97 = .ok (.return_, 1) := by decide +kernel
noncomputable def fX16_passesFurther_b55 (h : pm_H) (x0 : Nat) (x1 : Int64) : Option pm_H := if pm_kd h x0 = 16 then if x1 = 10 then (pm_let ((pm_I h x0 19) + 2) fun y25 => some (pm_setI h x0 19 y25)) else (if x1 = 8 then (pm_let ((pm_I h x0 19) + 1) fun y18 => some (pm_setI h x0 19 y18)) else (if x1 = 11 then (pm_let ((pm_I h x0 19) + 1) fun y23 => some (pm_setI h x0 19 y23)) else (pm_let ((pm_I h x0 19) + 0) fun y21 => some (pm_setI h x0 19 y21)))) else none
noncomputable def fX16_passesFurther_b50 (h : pm_H) (x0 : Nat) (x1 : Int64) : Option pm_H := if pm_kd h x0 = 16 then (fX16_word h x0).bind fun v13 => fX16_passesFurther_b55 v13.2 x0 x1 else none
noncomputable def fX16_passesFurther_b26 (h : pm_H) (x0 : Nat) (x1 : Int64) : Option pm_H := if x1 = 8 then (fX16_passesFurther_b50 h x0 x1) else (if x1 = 9 then (fX16_passesFurther_b50 h x0 x1) else (if x1 ≤ 11 then (fX16_passesFurther_b55 h x0 x1) else (fX16_passesFurther_b50 h x0 x1)))
noncomputable def fX16_passesFurther_b21 (h : pm_H) (x0 : Nat) (x1 : Int64) : Option pm_H := if pm_kd h x0 = 16 then (fX16_word h x0).bind fun v7 => fX16_passesFurther_b26 v7.2 x0 x1 else none
noncomputable def fX16_passesFurther (h : pm_H) (a0 : Nat) : Option pm_H := if pm_kd h a0 = 16 then (fX16_word h a0).bind fun v2 => if v2.1 = 12 then (fX16_passesFurther_b21 v2.2 a0 v2.1) else (if v2.1 = 14 then (fX16_passesFurther_b21 v2.2 a0 v2.1) else (fX16_passesFurther_b26 v2.2 a0 v2.1)) else none
set_option maxHeartbeats 4000000 in
set_option maxRecDepth 100000 in
theorem bX16_passesFurther_55 {g : pm_Gm} {l : Launch} {G : pm_Gl} {Qr : Option Value → pm_H → Prop} (C : pm_C g cX16_passesFurther RX16) (X : pm_X g l G mX16_passesFurther 0 0 Qr) {h : pm_H} {x0 : Nat} {x1 : Int64} {r : pm_H} (hf : fX16_passesFurther_b55 h x0 x1 = some r) (q : Qr none r) : pm_G g 55 [(0, .ref x0), (1, .long x1)] [] h 0 0 := by
  unfold fX16_passesFurther_b55 at hf
  refine pm_aload_n C dX16_passesFurther_55 rfl rfl ?_
  refine pm_dup C dX16_passesFurther_56 rfl ?_
  obtain ⟨k15, hf⟩ := pm_if hf
  refine pm_getI C dX16_passesFurther_57 flX16_594 rfl k15 rfl ?_
  refine pm_lload_n C dX16_passesFurther_60 rfl rfl ?_
  refine pm_ldc2 C dX16_passesFurther_61 cnX16_586 ?_
  refine pm_lcmp C dX16_passesFurther_64 ?_
  refine pm_if_ne (tgt := 72) C dX16_passesFurther_65 (by decide) (fun c16 => ?_) (fun c16 => ?_)
  · have hf := pm_ie hf ((fun z => c16 ((pm_lg_eq _ _).mpr z)))
    refine pm_lload_n C dX16_passesFurther_72 rfl rfl ?_
    refine pm_ldc2 C dX16_passesFurther_73 cnX16_582 ?_
    refine pm_lcmp C dX16_passesFurther_76 ?_
    refine pm_if_eq (tgt := 88) C dX16_passesFurther_77 (by decide) (fun c17 => ?_) (fun c17 => ?_)
    · have hf := pm_it hf ((pm_lg_eq _ _).mp c17)
      refine pm_iconst (v := 1) C dX16_passesFurther_88 (by decide) ?_
      refine pm_goto (tgt := 93) C dX16_passesFurther_89 (by decide) ?_
      refine pm_iadd C dX16_passesFurther_93 ?_
      obtain ⟨y18, e19, hf⟩ := pm_lt hf
      refine pm_topI e19 ?_
      refine pm_putI C dX16_passesFurther_94 flX16_594 rfl rfl k15 rfl rfl ?_
      cases hf
      exact pm_vret C X dX16_passesFurther_97 rfl (Nat.le_refl _) (Nat.le_refl _) q
    · have hf := pm_ie hf ((fun z => c17 ((pm_lg_eq _ _).mpr z)))
      refine pm_lload_n C dX16_passesFurther_80 rfl rfl ?_
      refine pm_ldc2 C dX16_passesFurther_81 cnX16_592 ?_
      refine pm_lcmp C dX16_passesFurther_84 ?_
      refine pm_if_ne (tgt := 92) C dX16_passesFurther_85 (by decide) (fun c20 => ?_) (fun c20 => ?_)
      · have hf := pm_ie hf ((fun z => c20 ((pm_lg_eq _ _).mpr z)))
        refine pm_iconst (v := 0) C dX16_passesFurther_92 (by decide) ?_
        refine pm_iadd C dX16_passesFurther_93 ?_
        obtain ⟨y21, e22, hf⟩ := pm_lt hf
        refine pm_topI e22 ?_
        refine pm_putI C dX16_passesFurther_94 flX16_594 rfl rfl k15 rfl rfl ?_
        cases hf
        exact pm_vret C X dX16_passesFurther_97 rfl (Nat.le_refl _) (Nat.le_refl _) q
      · have hf := pm_it hf ((pm_lg_eq _ _).mp c20)
        refine pm_iconst (v := 1) C dX16_passesFurther_88 (by decide) ?_
        refine pm_goto (tgt := 93) C dX16_passesFurther_89 (by decide) ?_
        refine pm_iadd C dX16_passesFurther_93 ?_
        obtain ⟨y23, e24, hf⟩ := pm_lt hf
        refine pm_topI e24 ?_
        refine pm_putI C dX16_passesFurther_94 flX16_594 rfl rfl k15 rfl rfl ?_
        cases hf
        exact pm_vret C X dX16_passesFurther_97 rfl (Nat.le_refl _) (Nat.le_refl _) q
  · have hf := pm_it hf ((pm_lg_eq _ _).mp c16)
    refine pm_iconst (v := 2) C dX16_passesFurther_68 (by decide) ?_
    refine pm_goto (tgt := 93) C dX16_passesFurther_69 (by decide) ?_
    refine pm_iadd C dX16_passesFurther_93 ?_
    obtain ⟨y25, e26, hf⟩ := pm_lt hf
    refine pm_topI e26 ?_
    refine pm_putI C dX16_passesFurther_94 flX16_594 rfl rfl k15 rfl rfl ?_
    cases hf
    exact pm_vret C X dX16_passesFurther_97 rfl (Nat.le_refl _) (Nat.le_refl _) q
set_option maxHeartbeats 4000000 in
set_option maxRecDepth 100000 in
theorem bX16_passesFurther_50 {g : pm_Gm} {l : Launch} {G : pm_Gl} {Qr : Option Value → pm_H → Prop} (C : pm_C g cX16_passesFurther RX16) (X : pm_X g l G mX16_passesFurther 0 0 Qr) {h : pm_H} {x0 : Nat} {x1 : Int64} {r : pm_H} (hf : fX16_passesFurther_b50 h x0 x1 = some r) (q : Qr none r) : pm_G g 50 [(0, .ref x0), (1, .long x1)] [] h 0 0 := by
  unfold fX16_passesFurther_b50 at hf
  refine pm_aload_n C dX16_passesFurther_50 rfl rfl ?_
  obtain ⟨k12, hf⟩ := pm_if hf
  obtain ⟨v13, e14, hf⟩ := pm_bd hf
  refine pm_callV (as := []) (st := []) C X dX16_passesFurther_51 lnX16_603 myX16_word viX16_word ⟨by decide, by decide⟩ rfl rfl k12 (Nat.le_of_ble_eq_true rfl) (Nat.le_refl _) (Nat.le_refl _) (ctX16_word e14 ?_)
  show pm_G g 54 [(0, .ref x0), (1, .long x1)] [.long v13.1] v13.2 0 0
  refine pm_lstore_n (lv' := [(3, .long v13.1), (0, .ref x0), (1, .long x1)]) C dX16_passesFurther_54 rfl (pm_nl X (by decide)) rfl ?_
  exact pm_sub [1, 2] rfl (bX16_passesFurther_55 C X hf q)
set_option maxHeartbeats 4000000 in
set_option maxRecDepth 100000 in
theorem bX16_passesFurther_26 {g : pm_Gm} {l : Launch} {G : pm_Gl} {Qr : Option Value → pm_H → Prop} (C : pm_C g cX16_passesFurther RX16) (X : pm_X g l G mX16_passesFurther 0 0 Qr) {h : pm_H} {x0 : Nat} {x1 : Int64} {r : pm_H} (hf : fX16_passesFurther_b26 h x0 x1 = some r) (q : Qr none r) : pm_G g 26 [(0, .ref x0), (1, .long x1)] [] h 0 0 := by
  unfold fX16_passesFurther_b26 at hf
  refine pm_lload_n C dX16_passesFurther_26 rfl rfl ?_
  refine pm_ldc2 C dX16_passesFurther_27 cnX16_582 ?_
  refine pm_lcmp C dX16_passesFurther_30 ?_
  refine pm_if_eq (tgt := 50) C dX16_passesFurther_31 (by decide) (fun c9 => ?_) (fun c9 => ?_)
  · have hf := pm_it hf ((pm_lg_eq _ _).mp c9)
    exact pm_sub [0, 1] rfl (bX16_passesFurther_50 C X hf q)
  · have hf := pm_ie hf ((fun z => c9 ((pm_lg_eq _ _).mpr z)))
    refine pm_lload_n C dX16_passesFurther_34 rfl rfl ?_
    refine pm_ldc2 C dX16_passesFurther_35 cnX16_584 ?_
    refine pm_lcmp C dX16_passesFurther_38 ?_
    refine pm_if_eq (tgt := 50) C dX16_passesFurther_39 (by decide) (fun c10 => ?_) (fun c10 => ?_)
    · have hf := pm_it hf ((pm_lg_eq _ _).mp c10)
      exact pm_sub [0, 1] rfl (bX16_passesFurther_50 C X hf q)
    · have hf := pm_ie hf ((fun z => c10 ((pm_lg_eq _ _).mpr z)))
      refine pm_lload_n C dX16_passesFurther_42 rfl rfl ?_
      refine pm_ldc2 C dX16_passesFurther_43 cnX16_592 ?_
      refine pm_lcmp C dX16_passesFurther_46 ?_
      refine pm_if_le (tgt := 55) C dX16_passesFurther_47 (by decide) (fun c11 => ?_) (fun c11 => ?_)
      · have hf := pm_it hf ((pm_lg_le _ _).mp c11)
        exact pm_sub [0, 1] rfl (bX16_passesFurther_55 C X hf q)
      · have hf := pm_ie hf ((fun z => c11 ((pm_lg_le _ _).mpr z)))
        exact pm_sub [0, 1] rfl (bX16_passesFurther_50 C X hf q)
set_option maxHeartbeats 4000000 in
set_option maxRecDepth 100000 in
theorem bX16_passesFurther_21 {g : pm_Gm} {l : Launch} {G : pm_Gl} {Qr : Option Value → pm_H → Prop} (C : pm_C g cX16_passesFurther RX16) (X : pm_X g l G mX16_passesFurther 0 0 Qr) {h : pm_H} {x0 : Nat} {x1 : Int64} {r : pm_H} (hf : fX16_passesFurther_b21 h x0 x1 = some r) (q : Qr none r) : pm_G g 21 [(0, .ref x0), (1, .long x1)] [] h 0 0 := by
  unfold fX16_passesFurther_b21 at hf
  refine pm_aload_n C dX16_passesFurther_21 rfl rfl ?_
  obtain ⟨k6, hf⟩ := pm_if hf
  obtain ⟨v7, e8, hf⟩ := pm_bd hf
  refine pm_callV (as := []) (st := []) C X dX16_passesFurther_22 lnX16_603 myX16_word viX16_word ⟨by decide, by decide⟩ rfl rfl k6 (Nat.le_of_ble_eq_true rfl) (Nat.le_refl _) (Nat.le_refl _) (ctX16_word e8 ?_)
  show pm_G g 25 [(0, .ref x0), (1, .long x1)] [.long v7.1] v7.2 0 0
  refine pm_lstore_n (lv' := [(3, .long v7.1), (0, .ref x0), (1, .long x1)]) C dX16_passesFurther_25 rfl (pm_nl X (by decide)) rfl ?_
  exact pm_sub [1, 2] rfl (bX16_passesFurther_26 C X hf q)
set_option maxHeartbeats 4000000 in
set_option maxRecDepth 100000 in
theorem ctX16_passesFurther {l : Launch} {G : pm_Gl} {h : pm_H} {a0 : Nat} {r : pm_H} {Qr : Option Value → pm_H → Prop} (hf : fX16_passesFurther h a0 = some r) (q : Qr none r) : pm_Ct l G mX16_passesFurther [.ref a0] h 0 0 Qr := by
  refine pm_body pnX16 (Nat.le_of_ble_eq_true rfl) (fun g C X => ?_)
  have C : pm_C g cX16_passesFurther RX16 := C
  show pm_G g 0 [(0, .ref a0)] [] h 0 0
  unfold fX16_passesFurther at hf
  refine pm_aload_n C dX16_passesFurther_0 rfl rfl ?_
  obtain ⟨k1, hf⟩ := pm_if hf
  obtain ⟨v2, e3, hf⟩ := pm_bd hf
  refine pm_callV (as := []) (st := []) C X dX16_passesFurther_1 lnX16_603 myX16_word viX16_word ⟨by decide, by decide⟩ rfl rfl k1 (Nat.le_of_ble_eq_true rfl) (Nat.le_refl _) (Nat.le_refl _) (ctX16_word e3 ?_)
  show pm_G g 4 [(0, .ref a0)] [.long v2.1] v2.2 0 0
  refine pm_lstore_n (lv' := [(1, .long v2.1), (0, .ref a0)]) C dX16_passesFurther_4 rfl (pm_nl X (by decide)) rfl ?_
  refine pm_lload_n C dX16_passesFurther_5 rfl rfl ?_
  refine pm_ldc2 C dX16_passesFurther_6 cnX16_588 ?_
  refine pm_lcmp C dX16_passesFurther_9 ?_
  refine pm_if_eq (tgt := 21) C dX16_passesFurther_10 (by decide) (fun c4 => ?_) (fun c4 => ?_)
  · have hf := pm_it hf ((pm_lg_eq _ _).mp c4)
    exact pm_sub [1, 0] rfl (bX16_passesFurther_21 C X hf q)
  · have hf := pm_ie hf ((fun z => c4 ((pm_lg_eq _ _).mpr z)))
    refine pm_lload_n C dX16_passesFurther_13 rfl rfl ?_
    refine pm_ldc2 C dX16_passesFurther_14 cnX16_590 ?_
    refine pm_lcmp C dX16_passesFurther_17 ?_
    refine pm_if_ne (tgt := 26) C dX16_passesFurther_18 (by decide) (fun c5 => ?_) (fun c5 => ?_)
    · have hf := pm_ie hf ((fun z => c5 ((pm_lg_eq _ _).mpr z)))
      exact pm_sub [1, 0] rfl (bX16_passesFurther_26 C X hf q)
    · have hf := pm_it hf ((pm_lg_eq _ _).mp c5)
      exact pm_sub [1, 0] rfl (bX16_passesFurther_21 C X hf q)
