theorem dX8_divide32_0 : decode cX8_divide32 0 = .ok (.iload_n 3, 1) := by decide +kernel
theorem dX8_divide32_1 : decode cX8_divide32 1 = .ok (.ifCond .ne 10, 3) := by decide +kernel
theorem dX8_divide32_4 : decode cX8_divide32 4 = .ok (.aload_n 0, 1) := by decide +kernel
theorem dX8_divide32_5 : decode cX8_divide32 5 = .ok (.iconst 2, 1) := by decide +kernel
theorem dX8_divide32_6 : decode cX8_divide32 6 = .ok (.putfield 31, 3) := by decide +kernel
theorem dX8_divide32_9 : decode cX8_divide32 9 = .ok (.lconst 0, 1) := by decide +kernel
theorem dX8_divide32_10 : decode cX8_divide32 10 = .ok (.lreturn, 1) := by decide +kernel
theorem dX8_divide32_11 : decode cX8_divide32 11 = .ok (.iload_n 1, 1) := by decide +kernel
theorem dX8_divide32_12 : decode cX8_divide32 12 = .ok (.bipush 6, 2) := by decide +kernel
theorem dX8_divide32_14 : decode cX8_divide32 14 = .ok (.if_icmp .ne 21, 3) := by decide +kernel
theorem dX8_divide32_17 : decode cX8_divide32 17 = .ok (.iload_n 2, 1) := by decide +kernel
theorem dX8_divide32_18 : decode cX8_divide32 18 = .ok (.ldc 98, 2) := by decide +kernel
theorem dX8_divide32_20 : decode cX8_divide32 20 = .ok (.if_icmp .ne 15, 3) := by decide +kernel
theorem dX8_divide32_23 : decode cX8_divide32 23 = .ok (.iload_n 3, 1) := by decide +kernel
theorem dX8_divide32_24 : decode cX8_divide32 24 = .ok (.iconst (-1), 1) := by decide +kernel
theorem dX8_divide32_25 : decode cX8_divide32 25 = .ok (.if_icmp .ne 10, 3) := by decide +kernel
theorem dX8_divide32_28 : decode cX8_divide32 28 = .ok (.aload_n 0, 1) := by decide +kernel
theorem dX8_divide32_29 : decode cX8_divide32 29 = .ok (.iconst 3, 1) := by decide +kernel
theorem dX8_divide32_30 : decode cX8_divide32 30 = .ok (.putfield 31, 3) := by decide +kernel
theorem dX8_divide32_33 : decode cX8_divide32 33 = .ok (.lconst 0, 1) := by decide +kernel
theorem dX8_divide32_34 : decode cX8_divide32 34 = .ok (.lreturn, 1) := by decide +kernel
theorem dX8_divide32_35 : decode cX8_divide32 35 = .ok (.iload_n 1, 1) := by decide +kernel
theorem dX8_divide32_36 : decode cX8_divide32 36 = .ok (.bipush 6, 2) := by decide +kernel
theorem dX8_divide32_38 : decode cX8_divide32 38 = .ok (.if_icmp .eq 9, 3) := by decide +kernel
theorem dX8_divide32_41 : decode cX8_divide32 41 = .ok (.iload_n 1, 1) := by decide +kernel
theorem dX8_divide32_42 : decode cX8_divide32 42 = .ok (.bipush 8, 2) := by decide +kernel
theorem dX8_divide32_44 : decode cX8_divide32 44 = .ok (.if_icmp .ne 8, 3) := by decide +kernel
theorem dX8_divide32_47 : decode cX8_divide32 47 = .ok (.iload_n 2, 1) := by decide +kernel
theorem dX8_divide32_48 : decode cX8_divide32 48 = .ok (.i2l, 1) := by decide +kernel
theorem dX8_divide32_49 : decode cX8_divide32 49 = .ok (.goto 9, 3) := by decide +kernel
theorem dX8_divide32_52 : decode cX8_divide32 52 = .ok (.iload_n 2, 1) := by decide +kernel
theorem dX8_divide32_53 : decode cX8_divide32 53 = .ok (.i2l, 1) := by decide +kernel
theorem dX8_divide32_54 : decode cX8_divide32 54 = .ok (.ldc2_w 56, 3) := by decide +kernel
theorem dX8_divide32_57 : decode cX8_divide32 57 = .ok (.land, 1) := by decide +kernel
theorem dX8_divide32_58 : decode cX8_divide32 58 = .ok (.lstore 4, 2) := by decide +kernel
theorem dX8_divide32_60 : decode cX8_divide32 60 = .ok (.iload_n 1, 1) := by decide +kernel
theorem dX8_divide32_61 : decode cX8_divide32 61 = .ok (.bipush 6, 2) := by decide +kernel
theorem dX8_divide32_63 : decode cX8_divide32 63 = .ok (.if_icmp .eq 9, 3) := by decide +kernel
theorem dX8_divide32_66 : decode cX8_divide32 66 = .ok (.iload_n 1, 1) := by decide +kernel
theorem dX8_divide32_67 : decode cX8_divide32 67 = .ok (.bipush 8, 2) := by decide +kernel
theorem dX8_divide32_69 : decode cX8_divide32 69 = .ok (.if_icmp .ne 8, 3) := by decide +kernel
theorem dX8_divide32_72 : decode cX8_divide32 72 = .ok (.iload_n 3, 1) := by decide +kernel
theorem dX8_divide32_73 : decode cX8_divide32 73 = .ok (.i2l, 1) := by decide +kernel
theorem dX8_divide32_74 : decode cX8_divide32 74 = .ok (.goto 9, 3) := by decide +kernel
theorem dX8_divide32_77 : decode cX8_divide32 77 = .ok (.iload_n 3, 1) := by decide +kernel
theorem dX8_divide32_78 : decode cX8_divide32 78 = .ok (.i2l, 1) := by decide +kernel
theorem dX8_divide32_79 : decode cX8_divide32 79 = .ok (.ldc2_w 56, 3) := by decide +kernel
theorem dX8_divide32_82 : decode cX8_divide32 82 = .ok (.land, 1) := by decide +kernel
theorem dX8_divide32_83 : decode cX8_divide32 83 = .ok (.lstore 6, 2) := by decide +kernel
theorem dX8_divide32_85 : decode cX8_divide32 85 = .ok (.iload_n 1, 1) := by decide +kernel
theorem dX8_divide32_86 : decode cX8_divide32 86 = .ok (.bipush 7, 2) := by decide +kernel
theorem dX8_divide32_88 : decode cX8_divide32 88 = .ok (.if_icmp .gt 11, 3) := by decide +kernel
theorem dX8_divide32_91 : decode cX8_divide32 91 = .ok (.lload 4, 2) := by decide +kernel
theorem dX8_divide32_93 : decode cX8_divide32 93 = .ok (.lload 6, 2) := by decide +kernel
theorem dX8_divide32_95 : decode cX8_divide32 95 = .ok (.ldiv, 1) := by decide +kernel
theorem dX8_divide32_96 : decode cX8_divide32 96 = .ok (.goto 8, 3) := by decide +kernel
theorem dX8_divide32_99 : decode cX8_divide32 99 = .ok (.lload 4, 2) := by decide +kernel
theorem dX8_divide32_101 : decode cX8_divide32 101 = .ok (.lload 6, 2) := by decide +kernel
theorem dX8_divide32_103 : decode cX8_divide32 103 = .ok (.lrem, 1) := by decide +kernel
theorem dX8_divide32_104 : decode cX8_divide32 104 = .ok (.lreturn, 1) := by decide +kernel
def fX8_divide32_b72 (h : pm_H) (x1 : Int32) (x3 : Int32) (x4 : Int64) : Option (Int64 × pm_H) := if 7 < x1 then (if ¬ x3.toInt64 = 0 then some ((x4 - x4 / x3.toInt64 * x3.toInt64, h)) else none) else (if ¬ x3.toInt64 = 0 then some ((x4 / x3.toInt64, h)) else none)
def fX8_divide32_b58 (h : pm_H) (x1 : Int32) (x3 : Int32) (s0 : Int64) : Option (Int64 × pm_H) := if x1 = 6 then (fX8_divide32_b72 h x1 x3 s0) else (if x1 = 8 then (fX8_divide32_b72 h x1 x3 s0) else (pm_let (x3.toInt64 &&& 4294967295) fun y11 => if 7 < x1 then (if ¬ y11 = 0 then some ((s0 - s0 / y11 * y11, h)) else none) else (if ¬ y11 = 0 then some ((s0 / y11, h)) else none)))
def fX8_divide32_b47 (h : pm_H) (x1 : Int32) (x2 : Int32) (x3 : Int32) : Option (Int64 × pm_H) := fX8_divide32_b58 h x1 x3 x2.toInt64
def fX8_divide32_b35 (h : pm_H) (x1 : Int32) (x2 : Int32) (x3 : Int32) : Option (Int64 × pm_H) := if x1 = 6 then (fX8_divide32_b47 h x1 x2 x3) else (if x1 = 8 then (fX8_divide32_b47 h x1 x2 x3) else (fX8_divide32_b58 h x1 x3 (x2.toInt64 &&& 4294967295)))
def fX8_divide32 (h : pm_H) (a0 : Nat) (p1 : Int32) (p2 : Int32) (p3 : Int32) : Option (Int64 × pm_H) := if p3 = 0 then (if pm_kd h a0 = 8 then some ((0, pm_setI h a0 0 2)) else none) else (if p1 = 6 then (if p2 = (-2147483648) then (if p3 = (-1) then (if pm_kd h a0 = 8 then some ((0, pm_setI h a0 0 3)) else none) else (fX8_divide32_b35 h p1 p2 p3)) else (fX8_divide32_b35 h p1 p2 p3)) else (fX8_divide32_b35 h p1 p2 p3))
set_option maxHeartbeats 4000000 in
set_option maxRecDepth 100000 in
theorem bX8_divide32_72 {g : pm_Gm} {l : Launch} {G : pm_Gl} {Qr : Option Value → pm_H → Prop} (C : pm_C g cX8_divide32 RX8) (X : pm_X g l G mX8_divide32 0 0 Qr) {h : pm_H} {x1 : Int32} {x3 : Int32} {x4 : Int64} {r : (Int64 × pm_H)} (hf : fX8_divide32_b72 h x1 x3 x4 = some r) (q : Qr (some (.long r.1)) r.2) : pm_G g 72 [(1, .int x1), (3, .int x3), (4, .long x4)] [] h 0 0 := by
  unfold fX8_divide32_b72 at hf
  refine pm_iload_n C dX8_divide32_72 rfl rfl ?_
  refine pm_i2l C dX8_divide32_73 ?_
  refine pm_goto (tgt := 83) C dX8_divide32_74 (by decide) ?_
  refine pm_lstore (lv' := [(6, .long x3.toInt64), (1, .int x1), (3, .int x3), (4, .long x4)]) C dX8_divide32_83 (pm_nl X (by decide)) rfl ?_
  refine pm_iload_n C dX8_divide32_85 rfl rfl ?_
  refine pm_bipush (v := 7) C dX8_divide32_86 (by decide) ?_
  refine pm_icmp_gt (tgt := 99) C dX8_divide32_88 (by decide) (fun c16 => ?_) (fun c16 => ?_)
  · have hf := pm_it hf c16
    refine pm_lload C dX8_divide32_99 rfl ?_
    refine pm_lload C dX8_divide32_101 rfl ?_
    obtain ⟨u17, hf⟩ := pm_if hf
    refine pm_lrem C dX8_divide32_103 u17 ?_
    cases hf
    exact pm_lret C X dX8_divide32_104 rfl (Nat.le_refl _) (Nat.le_refl _) q
  · have hf := pm_ie hf c16
    refine pm_lload C dX8_divide32_91 rfl ?_
    refine pm_lload C dX8_divide32_93 rfl ?_
    obtain ⟨u18, hf⟩ := pm_if hf
    refine pm_ldiv C dX8_divide32_95 u18 ?_
    refine pm_goto (tgt := 104) C dX8_divide32_96 (by decide) ?_
    cases hf
    exact pm_lret C X dX8_divide32_104 rfl (Nat.le_refl _) (Nat.le_refl _) q
set_option maxHeartbeats 4000000 in
set_option maxRecDepth 100000 in
theorem bX8_divide32_58 {g : pm_Gm} {l : Launch} {G : pm_Gl} {Qr : Option Value → pm_H → Prop} (C : pm_C g cX8_divide32 RX8) (X : pm_X g l G mX8_divide32 0 0 Qr) {h : pm_H} {x1 : Int32} {x3 : Int32} {s0 : Int64} {r : (Int64 × pm_H)} (hf : fX8_divide32_b58 h x1 x3 s0 = some r) (q : Qr (some (.long r.1)) r.2) : pm_G g 58 [(1, .int x1), (3, .int x3)] [.long s0] h 0 0 := by
  unfold fX8_divide32_b58 at hf
  refine pm_lstore (lv' := [(4, .long s0), (1, .int x1), (3, .int x3)]) C dX8_divide32_58 (pm_nl X (by decide)) rfl ?_
  refine pm_iload_n C dX8_divide32_60 rfl rfl ?_
  refine pm_bipush (v := 6) C dX8_divide32_61 (by decide) ?_
  refine pm_icmp_eq (tgt := 72) C dX8_divide32_63 (by decide) (fun c9 => ?_) (fun c9 => ?_)
  · have hf := pm_it hf c9
    exact pm_sub [1, 2, 0] rfl (bX8_divide32_72 C X hf q)
  · have hf := pm_ie hf c9
    refine pm_iload_n C dX8_divide32_66 rfl rfl ?_
    refine pm_bipush (v := 8) C dX8_divide32_67 (by decide) ?_
    refine pm_icmp_ne (tgt := 77) C dX8_divide32_69 (by decide) (fun c10 => ?_) (fun c10 => ?_)
    · have hf := pm_ie hf c10
      refine pm_iload_n C dX8_divide32_77 rfl rfl ?_
      refine pm_i2l C dX8_divide32_78 ?_
      refine pm_ldc2 C dX8_divide32_79 cnX8_56 ?_
      refine pm_land C dX8_divide32_82 ?_
      obtain ⟨y11, e12, hf⟩ := pm_lt hf
      refine pm_topL e12 ?_
      refine pm_lstore (lv' := [(6, .long y11), (4, .long s0), (1, .int x1), (3, .int x3)]) C dX8_divide32_83 (pm_nl X (by decide)) rfl ?_
      refine pm_iload_n C dX8_divide32_85 rfl rfl ?_
      refine pm_bipush (v := 7) C dX8_divide32_86 (by decide) ?_
      refine pm_icmp_gt (tgt := 99) C dX8_divide32_88 (by decide) (fun c13 => ?_) (fun c13 => ?_)
      · have hf := pm_it hf c13
        refine pm_lload C dX8_divide32_99 rfl ?_
        refine pm_lload C dX8_divide32_101 rfl ?_
        obtain ⟨u14, hf⟩ := pm_if hf
        refine pm_lrem C dX8_divide32_103 u14 ?_
        cases hf
        exact pm_lret C X dX8_divide32_104 rfl (Nat.le_refl _) (Nat.le_refl _) q
      · have hf := pm_ie hf c13
        refine pm_lload C dX8_divide32_91 rfl ?_
        refine pm_lload C dX8_divide32_93 rfl ?_
        obtain ⟨u15, hf⟩ := pm_if hf
        refine pm_ldiv C dX8_divide32_95 u15 ?_
        refine pm_goto (tgt := 104) C dX8_divide32_96 (by decide) ?_
        cases hf
        exact pm_lret C X dX8_divide32_104 rfl (Nat.le_refl _) (Nat.le_refl _) q
    · have hf := pm_it hf c10
      exact pm_sub [1, 2, 0] rfl (bX8_divide32_72 C X hf q)
set_option maxHeartbeats 4000000 in
set_option maxRecDepth 100000 in
theorem bX8_divide32_47 {g : pm_Gm} {l : Launch} {G : pm_Gl} {Qr : Option Value → pm_H → Prop} (C : pm_C g cX8_divide32 RX8) (X : pm_X g l G mX8_divide32 0 0 Qr) {h : pm_H} {x1 : Int32} {x2 : Int32} {x3 : Int32} {r : (Int64 × pm_H)} (hf : fX8_divide32_b47 h x1 x2 x3 = some r) (q : Qr (some (.long r.1)) r.2) : pm_G g 47 [(1, .int x1), (2, .int x2), (3, .int x3)] [] h 0 0 := by
  unfold fX8_divide32_b47 at hf
  refine pm_iload_n C dX8_divide32_47 rfl rfl ?_
  refine pm_i2l C dX8_divide32_48 ?_
  refine pm_goto (tgt := 58) C dX8_divide32_49 (by decide) ?_
  exact pm_sub [0, 2] rfl (bX8_divide32_58 C X hf q)
set_option maxHeartbeats 4000000 in
set_option maxRecDepth 100000 in
theorem bX8_divide32_35 {g : pm_Gm} {l : Launch} {G : pm_Gl} {Qr : Option Value → pm_H → Prop} (C : pm_C g cX8_divide32 RX8) (X : pm_X g l G mX8_divide32 0 0 Qr) {h : pm_H} {x1 : Int32} {x2 : Int32} {x3 : Int32} {r : (Int64 × pm_H)} (hf : fX8_divide32_b35 h x1 x2 x3 = some r) (q : Qr (some (.long r.1)) r.2) : pm_G g 35 [(1, .int x1), (2, .int x2), (3, .int x3)] [] h 0 0 := by
  unfold fX8_divide32_b35 at hf
  refine pm_iload_n C dX8_divide32_35 rfl rfl ?_
  refine pm_bipush (v := 6) C dX8_divide32_36 (by decide) ?_
  refine pm_icmp_eq (tgt := 47) C dX8_divide32_38 (by decide) (fun c7 => ?_) (fun c7 => ?_)
  · have hf := pm_it hf c7
    exact pm_sub [0, 1, 2] rfl (bX8_divide32_47 C X hf q)
  · have hf := pm_ie hf c7
    refine pm_iload_n C dX8_divide32_41 rfl rfl ?_
    refine pm_bipush (v := 8) C dX8_divide32_42 (by decide) ?_
    refine pm_icmp_ne (tgt := 52) C dX8_divide32_44 (by decide) (fun c8 => ?_) (fun c8 => ?_)
    · have hf := pm_ie hf c8
      refine pm_iload_n C dX8_divide32_52 rfl rfl ?_
      refine pm_i2l C dX8_divide32_53 ?_
      refine pm_ldc2 C dX8_divide32_54 cnX8_56 ?_
      refine pm_land C dX8_divide32_57 ?_
      exact pm_sub [0, 2] rfl (bX8_divide32_58 C X hf q)
    · have hf := pm_it hf c8
      exact pm_sub [0, 1, 2] rfl (bX8_divide32_47 C X hf q)
set_option maxHeartbeats 4000000 in
set_option maxRecDepth 100000 in
theorem ctX8_divide32 {l : Launch} {G : pm_Gl} {h : pm_H} {a0 : Nat} {p1 : Int32} {p2 : Int32} {p3 : Int32} {r : (Int64 × pm_H)} {Qr : Option Value → pm_H → Prop} (hf : fX8_divide32 h a0 p1 p2 p3 = some r) (q : Qr (some (.long r.1)) r.2) : pm_Ct l G mX8_divide32 [.ref a0, .int p1, .int p2, .int p3] h 0 0 Qr := by
  refine pm_body pnX8 (Nat.le_of_ble_eq_true rfl) (fun g C X => ?_)
  have C : pm_C g cX8_divide32 RX8 := C
  show pm_G g 0 [(0, .ref a0), (1, .int p1), (2, .int p2), (3, .int p3)] [] h 0 0
  unfold fX8_divide32 at hf
  refine pm_iload_n C dX8_divide32_0 rfl rfl ?_
  refine pm_if_ne (tgt := 11) C dX8_divide32_1 (by decide) (fun c1 => ?_) (fun c1 => ?_)
  · have hf := pm_ie hf c1
    refine pm_iload_n C dX8_divide32_11 rfl rfl ?_
    refine pm_bipush (v := 6) C dX8_divide32_12 (by decide) ?_
    refine pm_icmp_ne (tgt := 35) C dX8_divide32_14 (by decide) (fun c2 => ?_) (fun c2 => ?_)
    · have hf := pm_ie hf c2
      exact pm_sub [1, 2, 3] rfl (bX8_divide32_35 C X hf q)
    · have hf := pm_it hf c2
      refine pm_iload_n C dX8_divide32_17 rfl rfl ?_
      refine pm_ldc C dX8_divide32_18 cnX8_98 ?_
      refine pm_icmp_ne (tgt := 35) C dX8_divide32_20 (by decide) (fun c3 => ?_) (fun c3 => ?_)
      · have hf := pm_ie hf c3
        exact pm_sub [1, 2, 3] rfl (bX8_divide32_35 C X hf q)
      · have hf := pm_it hf c3
        refine pm_iload_n C dX8_divide32_23 rfl rfl ?_
        refine pm_iconst (v := (-1)) C dX8_divide32_24 (by decide) ?_
        refine pm_icmp_ne (tgt := 35) C dX8_divide32_25 (by decide) (fun c4 => ?_) (fun c4 => ?_)
        · have hf := pm_ie hf c4
          exact pm_sub [1, 2, 3] rfl (bX8_divide32_35 C X hf q)
        · have hf := pm_it hf c4
          refine pm_aload_n C dX8_divide32_28 rfl rfl ?_
          refine pm_iconst (v := 3) C dX8_divide32_29 (by decide) ?_
          obtain ⟨k5, hf⟩ := pm_if hf
          refine pm_putI C dX8_divide32_30 flX8_31 rfl rfl k5 rfl rfl ?_
          refine pm_lconst (v := 0) C dX8_divide32_33 (by decide) ?_
          cases hf
          exact pm_lret C X dX8_divide32_34 rfl (Nat.le_refl _) (Nat.le_refl _) q
  · have hf := pm_it hf c1
    refine pm_aload_n C dX8_divide32_4 rfl rfl ?_
    refine pm_iconst (v := 2) C dX8_divide32_5 (by decide) ?_
    obtain ⟨k6, hf⟩ := pm_if hf
    refine pm_putI C dX8_divide32_6 flX8_31 rfl rfl k6 rfl rfl ?_
    refine pm_lconst (v := 0) C dX8_divide32_9 (by decide) ?_
    cases hf
    exact pm_lret C X dX8_divide32_10 rfl (Nat.le_refl _) (Nat.le_refl _) q
theorem dX8_infinite_0 : decode cX8_infinite 0 = .ok (.iload_n 0, 1) := by decide +kernel
theorem dX8_infinite_1 : decode cX8_infinite 1 = .ok (.iconst 2, 1) := by decide +kernel
theorem dX8_infinite_2 : decode cX8_infinite 2 = .ok (.if_icmp .ne 9, 3) := by decide +kernel
theorem dX8_infinite_5 : decode cX8_infinite 5 = .ok (.ldc2_w 117, 3) := by decide +kernel
theorem dX8_infinite_8 : decode cX8_infinite 8 = .ok (.goto 6, 3) := by decide +kernel
theorem dX8_infinite_11 : decode cX8_infinite 11 = .ok (.ldc2_w 119, 3) := by decide +kernel
theorem dX8_infinite_14 : decode cX8_infinite 14 = .ok (.lreturn, 1) := by decide +kernel
def fX8_infinite (p1 : Int32) : Int64 := if p1 = 2 then (2139095040) else (9218868437227405312)
set_option maxHeartbeats 4000000 in
set_option maxRecDepth 100000 in
theorem ctX8_infinite {l : Launch} {G : pm_Gl} {h : pm_H} {p1 : Int32} {r : Int64} {Qr : Option Value → pm_H → Prop} (hf : fX8_infinite p1 = r) (q : Qr (some (.long r)) h) : pm_Ct l G mX8_infinite [.int p1] h 0 0 Qr := by
  refine pm_body pnX8 (Nat.le_of_ble_eq_true rfl) (fun g C X => ?_)
  have C : pm_C g cX8_infinite RX8 := C
  show pm_G g 0 [(0, .int p1)] [] h 0 0
  unfold fX8_infinite at hf
  refine pm_iload_n C dX8_infinite_0 rfl rfl ?_
  refine pm_iconst (v := 2) C dX8_infinite_1 (by decide) ?_
  refine pm_icmp_ne (tgt := 11) C dX8_infinite_2 (by decide) (fun c1 => ?_) (fun c1 => ?_)
  · have hf := pm_ie hf c1
    refine pm_ldc2 C dX8_infinite_11 cnX8_119 ?_
    subst hf
    exact pm_lret C X dX8_infinite_14 rfl (Nat.le_refl _) (Nat.le_refl _) q
  · have hf := pm_it hf c1
    refine pm_ldc2 C dX8_infinite_5 cnX8_117 ?_
    refine pm_goto (tgt := 14) C dX8_infinite_8 (by decide) ?_
    subst hf
    exact pm_lret C X dX8_infinite_14 rfl (Nat.le_refl _) (Nat.le_refl _) q
theorem dX8_isBinary_0 : decode cX8_isBinary 0 = .ok (.iload_n 0, 1) := by decide +kernel
theorem dX8_isBinary_1 : decode cX8_isBinary 1 = .ok (.bipush 103, 2) := by decide +kernel
theorem dX8_isBinary_3 : decode cX8_isBinary 3 = .ok (.if_icmp .ge 21, 3) := by decide +kernel
theorem dX8_isBinary_6 : decode cX8_isBinary 6 = .ok (.iload_n 0, 1) := by decide +kernel
theorem dX8_isBinary_7 : decode cX8_isBinary 7 = .ok (.bipush 69, 2) := by decide +kernel
theorem dX8_isBinary_9 : decode cX8_isBinary 9 = .ok (.if_icmp .eq 13, 3) := by decide +kernel
theorem dX8_isBinary_12 : decode cX8_isBinary 12 = .ok (.iload_n 0, 1) := by decide +kernel
theorem dX8_isBinary_13 : decode cX8_isBinary 13 = .ok (.bipush 80, 2) := by decide +kernel
theorem dX8_isBinary_15 : decode cX8_isBinary 15 = .ok (.if_icmp .eq 7, 3) := by decide +kernel
theorem dX8_isBinary_18 : decode cX8_isBinary 18 = .ok (.iconst 1, 1) := by decide +kernel
theorem dX8_isBinary_19 : decode cX8_isBinary 19 = .ok (.goto 4, 3) := by decide +kernel
theorem dX8_isBinary_22 : decode cX8_isBinary 22 = .ok (.iconst 0, 1) := by decide +kernel
theorem dX8_isBinary_23 : decode cX8_isBinary 23 = .ok (.ireturn, 1) := by decide +kernel
theorem dX8_isBinary_24 : decode cX8_isBinary 24 = .ok (.iload_n 0, 1) := by decide +kernel
theorem dX8_isBinary_25 : decode cX8_isBinary 25 = .ok (.sipush 139, 3) := by decide +kernel
theorem dX8_isBinary_28 : decode cX8_isBinary 28 = .ok (.if_icmp .ge 39, 3) := by decide +kernel
theorem dX8_isBinary_31 : decode cX8_isBinary 31 = .ok (.iload_n 0, 1) := by decide +kernel
theorem dX8_isBinary_32 : decode cX8_isBinary 32 = .ok (.bipush 103, 2) := by decide +kernel
theorem dX8_isBinary_34 : decode cX8_isBinary 34 = .ok (.if_icmp .eq 31, 3) := by decide +kernel
theorem dX8_isBinary_37 : decode cX8_isBinary 37 = .ok (.iload_n 0, 1) := by decide +kernel
theorem dX8_isBinary_38 : decode cX8_isBinary 38 = .ok (.bipush 104, 2) := by decide +kernel
theorem dX8_isBinary_40 : decode cX8_isBinary 40 = .ok (.if_icmp .eq 25, 3) := by decide +kernel
theorem dX8_isBinary_43 : decode cX8_isBinary 43 = .ok (.iload_n 0, 1) := by decide +kernel
theorem dX8_isBinary_44 : decode cX8_isBinary 44 = .ok (.bipush 105, 2) := by decide +kernel
theorem dX8_isBinary_46 : decode cX8_isBinary 46 = .ok (.if_icmp .eq 19, 3) := by decide +kernel
theorem dX8_isBinary_49 : decode cX8_isBinary 49 = .ok (.iload_n 0, 1) := by decide +kernel
theorem dX8_isBinary_50 : decode cX8_isBinary 50 = .ok (.bipush 121, 2) := by decide +kernel
theorem dX8_isBinary_52 : decode cX8_isBinary 52 = .ok (.if_icmp .lt 9, 3) := by decide +kernel
theorem dX8_isBinary_55 : decode cX8_isBinary 55 = .ok (.iload_n 0, 1) := by decide +kernel
theorem dX8_isBinary_56 : decode cX8_isBinary 56 = .ok (.bipush 123, 2) := by decide +kernel
theorem dX8_isBinary_58 : decode cX8_isBinary 58 = .ok (.if_icmp .le 7, 3) := by decide +kernel
theorem dX8_isBinary_61 : decode cX8_isBinary 61 = .ok (.iconst 1, 1) := by decide +kernel
theorem dX8_isBinary_62 : decode cX8_isBinary 62 = .ok (.goto 4, 3) := by decide +kernel
theorem dX8_isBinary_65 : decode cX8_isBinary 65 = .ok (.iconst 0, 1) := by decide +kernel
theorem dX8_isBinary_66 : decode cX8_isBinary 66 = .ok (.ireturn, 1) := by decide +kernel
theorem dX8_isBinary_67 : decode cX8_isBinary 67 = .ok (.iload_n 0, 1) := by decide +kernel
theorem dX8_isBinary_68 : decode cX8_isBinary 68 = .ok (.sipush 146, 3) := by decide +kernel
theorem dX8_isBinary_71 : decode cX8_isBinary 71 = .ok (.if_icmp .lt 10, 3) := by decide +kernel
theorem dX8_isBinary_74 : decode cX8_isBinary 74 = .ok (.iload_n 0, 1) := by decide +kernel
theorem dX8_isBinary_75 : decode cX8_isBinary 75 = .ok (.sipush 152, 3) := by decide +kernel
theorem dX8_isBinary_78 : decode cX8_isBinary 78 = .ok (.if_icmp .le 17, 3) := by decide +kernel
theorem dX8_isBinary_81 : decode cX8_isBinary 81 = .ok (.iload_n 0, 1) := by decide +kernel
theorem dX8_isBinary_82 : decode cX8_isBinary 82 = .ok (.sipush 160, 3) := by decide +kernel
theorem dX8_isBinary_85 : decode cX8_isBinary 85 = .ok (.if_icmp .lt 14, 3) := by decide +kernel
theorem dX8_isBinary_88 : decode cX8_isBinary 88 = .ok (.iload_n 0, 1) := by decide +kernel
theorem dX8_isBinary_89 : decode cX8_isBinary 89 = .ok (.sipush 166, 3) := by decide +kernel
theorem dX8_isBinary_92 : decode cX8_isBinary 92 = .ok (.if_icmp .gt 7, 3) := by decide +kernel
theorem dX8_isBinary_95 : decode cX8_isBinary 95 = .ok (.iconst 1, 1) := by decide +kernel
theorem dX8_isBinary_96 : decode cX8_isBinary 96 = .ok (.goto 4, 3) := by decide +kernel
theorem dX8_isBinary_99 : decode cX8_isBinary 99 = .ok (.iconst 0, 1) := by decide +kernel
theorem dX8_isBinary_100 : decode cX8_isBinary 100 = .ok (.ireturn, 1) := by decide +kernel
def fX8_isBinary_b81 (x0 : Int32) : Int32 := if x0 < 160 then (0) else (if 166 < x0 then (0) else (1))
def fX8_isBinary (p1 : Int32) : Int32 := if 103 ≤ p1 then (if 139 ≤ p1 then (if p1 < 146 then (fX8_isBinary_b81 p1) else (if p1 ≤ 152 then (1) else (fX8_isBinary_b81 p1))) else (if p1 = 103 then (0) else (if p1 = 104 then (0) else (if p1 = 105 then (0) else (if p1 < 121 then (1) else (if p1 ≤ 123 then (0) else (1))))))) else (if p1 = 69 then (0) else (if p1 = 80 then (0) else (1)))
set_option maxHeartbeats 4000000 in
set_option maxRecDepth 100000 in
theorem bX8_isBinary_81 {g : pm_Gm} {l : Launch} {G : pm_Gl} {Qr : Option Value → pm_H → Prop} (C : pm_C g cX8_isBinary RX8) (X : pm_X g l G mX8_isBinary 0 0 Qr) {h : pm_H} {x0 : Int32} {r : Int32} (hf : fX8_isBinary_b81 x0 = r) (q : Qr (some (.int r)) h) : pm_G g 81 [(0, .int x0)] [] h 0 0 := by
  unfold fX8_isBinary_b81 at hf
  refine pm_iload_n C dX8_isBinary_81 rfl rfl ?_
  refine pm_sipush (v := 160) C dX8_isBinary_82 (by decide) ?_
  refine pm_icmp_lt (tgt := 99) C dX8_isBinary_85 (by decide) (fun c12 => ?_) (fun c12 => ?_)
  · have hf := pm_it hf c12
    refine pm_iconst (v := 0) C dX8_isBinary_99 (by decide) ?_
    subst hf
    exact pm_zret C X dX8_isBinary_100 rfl (by decide) (Nat.le_refl _) (Nat.le_refl _) q
  · have hf := pm_ie hf c12
    refine pm_iload_n C dX8_isBinary_88 rfl rfl ?_
    refine pm_sipush (v := 166) C dX8_isBinary_89 (by decide) ?_
    refine pm_icmp_gt (tgt := 99) C dX8_isBinary_92 (by decide) (fun c13 => ?_) (fun c13 => ?_)
    · have hf := pm_it hf c13
      refine pm_iconst (v := 0) C dX8_isBinary_99 (by decide) ?_
      subst hf
      exact pm_zret C X dX8_isBinary_100 rfl (by decide) (Nat.le_refl _) (Nat.le_refl _) q
    · have hf := pm_ie hf c13
      refine pm_iconst (v := 1) C dX8_isBinary_95 (by decide) ?_
      refine pm_goto (tgt := 100) C dX8_isBinary_96 (by decide) ?_
      subst hf
      exact pm_zret C X dX8_isBinary_100 rfl (by decide) (Nat.le_refl _) (Nat.le_refl _) q
set_option maxHeartbeats 4000000 in
set_option maxRecDepth 100000 in
theorem ctX8_isBinary {l : Launch} {G : pm_Gl} {h : pm_H} {p1 : Int32} {r : Int32} {Qr : Option Value → pm_H → Prop} (hf : fX8_isBinary p1 = r) (q : Qr (some (.int r)) h) : pm_Ct l G mX8_isBinary [.int p1] h 0 0 Qr := by
  refine pm_body pnX8 (Nat.le_of_ble_eq_true rfl) (fun g C X => ?_)
  have C : pm_C g cX8_isBinary RX8 := C
  show pm_G g 0 [(0, .int p1)] [] h 0 0
  unfold fX8_isBinary at hf
  refine pm_iload_n C dX8_isBinary_0 rfl rfl ?_
  refine pm_bipush (v := 103) C dX8_isBinary_1 (by decide) ?_
  refine pm_icmp_ge (tgt := 24) C dX8_isBinary_3 (by decide) (fun c1 => ?_) (fun c1 => ?_)
  · have hf := pm_it hf c1
    refine pm_iload_n C dX8_isBinary_24 rfl rfl ?_
    refine pm_sipush (v := 139) C dX8_isBinary_25 (by decide) ?_
    refine pm_icmp_ge (tgt := 67) C dX8_isBinary_28 (by decide) (fun c2 => ?_) (fun c2 => ?_)
    · have hf := pm_it hf c2
      refine pm_iload_n C dX8_isBinary_67 rfl rfl ?_
      refine pm_sipush (v := 146) C dX8_isBinary_68 (by decide) ?_
      refine pm_icmp_lt (tgt := 81) C dX8_isBinary_71 (by decide) (fun c3 => ?_) (fun c3 => ?_)
      · have hf := pm_it hf c3
        exact pm_sub [0] rfl (bX8_isBinary_81 C X hf q)
      · have hf := pm_ie hf c3
        refine pm_iload_n C dX8_isBinary_74 rfl rfl ?_
        refine pm_sipush (v := 152) C dX8_isBinary_75 (by decide) ?_
        refine pm_icmp_le (tgt := 95) C dX8_isBinary_78 (by decide) (fun c4 => ?_) (fun c4 => ?_)
        · have hf := pm_it hf c4
          refine pm_iconst (v := 1) C dX8_isBinary_95 (by decide) ?_
          refine pm_goto (tgt := 100) C dX8_isBinary_96 (by decide) ?_
          subst hf
          exact pm_zret C X dX8_isBinary_100 rfl (by decide) (Nat.le_refl _) (Nat.le_refl _) q
        · have hf := pm_ie hf c4
          exact pm_sub [0] rfl (bX8_isBinary_81 C X hf q)
    · have hf := pm_ie hf c2
      refine pm_iload_n C dX8_isBinary_31 rfl rfl ?_
      refine pm_bipush (v := 103) C dX8_isBinary_32 (by decide) ?_
      refine pm_icmp_eq (tgt := 65) C dX8_isBinary_34 (by decide) (fun c5 => ?_) (fun c5 => ?_)
      · have hf := pm_it hf c5
        refine pm_iconst (v := 0) C dX8_isBinary_65 (by decide) ?_
        subst hf
        exact pm_zret C X dX8_isBinary_66 rfl (by decide) (Nat.le_refl _) (Nat.le_refl _) q
      · have hf := pm_ie hf c5
        refine pm_iload_n C dX8_isBinary_37 rfl rfl ?_
        refine pm_bipush (v := 104) C dX8_isBinary_38 (by decide) ?_
        refine pm_icmp_eq (tgt := 65) C dX8_isBinary_40 (by decide) (fun c6 => ?_) (fun c6 => ?_)
        · have hf := pm_it hf c6
          refine pm_iconst (v := 0) C dX8_isBinary_65 (by decide) ?_
          subst hf
          exact pm_zret C X dX8_isBinary_66 rfl (by decide) (Nat.le_refl _) (Nat.le_refl _) q
        · have hf := pm_ie hf c6
          refine pm_iload_n C dX8_isBinary_43 rfl rfl ?_
          refine pm_bipush (v := 105) C dX8_isBinary_44 (by decide) ?_
          refine pm_icmp_eq (tgt := 65) C dX8_isBinary_46 (by decide) (fun c7 => ?_) (fun c7 => ?_)
          · have hf := pm_it hf c7
            refine pm_iconst (v := 0) C dX8_isBinary_65 (by decide) ?_
            subst hf
            exact pm_zret C X dX8_isBinary_66 rfl (by decide) (Nat.le_refl _) (Nat.le_refl _) q
          · have hf := pm_ie hf c7
            refine pm_iload_n C dX8_isBinary_49 rfl rfl ?_
            refine pm_bipush (v := 121) C dX8_isBinary_50 (by decide) ?_
            refine pm_icmp_lt (tgt := 61) C dX8_isBinary_52 (by decide) (fun c8 => ?_) (fun c8 => ?_)
            · have hf := pm_it hf c8
              refine pm_iconst (v := 1) C dX8_isBinary_61 (by decide) ?_
              refine pm_goto (tgt := 66) C dX8_isBinary_62 (by decide) ?_
              subst hf
              exact pm_zret C X dX8_isBinary_66 rfl (by decide) (Nat.le_refl _) (Nat.le_refl _) q
            · have hf := pm_ie hf c8
              refine pm_iload_n C dX8_isBinary_55 rfl rfl ?_
              refine pm_bipush (v := 123) C dX8_isBinary_56 (by decide) ?_
              refine pm_icmp_le (tgt := 65) C dX8_isBinary_58 (by decide) (fun c9 => ?_) (fun c9 => ?_)
              · have hf := pm_it hf c9
                refine pm_iconst (v := 0) C dX8_isBinary_65 (by decide) ?_
                subst hf
                exact pm_zret C X dX8_isBinary_66 rfl (by decide) (Nat.le_refl _) (Nat.le_refl _) q
              · have hf := pm_ie hf c9
                refine pm_iconst (v := 1) C dX8_isBinary_61 (by decide) ?_
                refine pm_goto (tgt := 66) C dX8_isBinary_62 (by decide) ?_
                subst hf
                exact pm_zret C X dX8_isBinary_66 rfl (by decide) (Nat.le_refl _) (Nat.le_refl _) q
  · have hf := pm_ie hf c1
    refine pm_iload_n C dX8_isBinary_6 rfl rfl ?_
    refine pm_bipush (v := 69) C dX8_isBinary_7 (by decide) ?_
    refine pm_icmp_eq (tgt := 22) C dX8_isBinary_9 (by decide) (fun c10 => ?_) (fun c10 => ?_)
    · have hf := pm_it hf c10
      refine pm_iconst (v := 0) C dX8_isBinary_22 (by decide) ?_
      subst hf
      exact pm_zret C X dX8_isBinary_23 rfl (by decide) (Nat.le_refl _) (Nat.le_refl _) q
    · have hf := pm_ie hf c10
      refine pm_iload_n C dX8_isBinary_12 rfl rfl ?_
      refine pm_bipush (v := 80) C dX8_isBinary_13 (by decide) ?_
      refine pm_icmp_eq (tgt := 22) C dX8_isBinary_15 (by decide) (fun c11 => ?_) (fun c11 => ?_)
      · have hf := pm_it hf c11
        refine pm_iconst (v := 0) C dX8_isBinary_22 (by decide) ?_
        subst hf
        exact pm_zret C X dX8_isBinary_23 rfl (by decide) (Nat.le_refl _) (Nat.le_refl _) q
      · have hf := pm_ie hf c11
        refine pm_iconst (v := 1) C dX8_isBinary_18 (by decide) ?_
        refine pm_goto (tgt := 23) C dX8_isBinary_19 (by decide) ?_
        subst hf
        exact pm_zret C X dX8_isBinary_23 rfl (by decide) (Nat.le_refl _) (Nat.le_refl _) q
theorem dX8_isInfinite_0 : decode cX8_isInfinite 0 = .ok (.iload_n 0, 1) := by decide +kernel
theorem dX8_isInfinite_1 : decode cX8_isInfinite 1 = .ok (.iconst 2, 1) := by decide +kernel
theorem dX8_isInfinite_2 : decode cX8_isInfinite 2 = .ok (.if_icmp .ne 23, 3) := by decide +kernel
theorem dX8_isInfinite_5 : decode cX8_isInfinite 5 = .ok (.lload_n 1, 1) := by decide +kernel
theorem dX8_isInfinite_6 : decode cX8_isInfinite 6 = .ok (.ldc2_w 125, 3) := by decide +kernel
theorem dX8_isInfinite_9 : decode cX8_isInfinite 9 = .ok (.land, 1) := by decide +kernel
theorem dX8_isInfinite_10 : decode cX8_isInfinite 10 = .ok (.ldc2_w 117, 3) := by decide +kernel
theorem dX8_isInfinite_13 : decode cX8_isInfinite 13 = .ok (.lcmp, 1) := by decide +kernel
theorem dX8_isInfinite_14 : decode cX8_isInfinite 14 = .ok (.ifCond .ne 7, 3) := by decide +kernel
theorem dX8_isInfinite_17 : decode cX8_isInfinite 17 = .ok (.iconst 1, 1) := by decide +kernel
theorem dX8_isInfinite_18 : decode cX8_isInfinite 18 = .ok (.goto 24, 3) := by decide +kernel
theorem dX8_isInfinite_21 : decode cX8_isInfinite 21 = .ok (.iconst 0, 1) := by decide +kernel
theorem dX8_isInfinite_22 : decode cX8_isInfinite 22 = .ok (.goto 20, 3) := by decide +kernel
theorem dX8_isInfinite_25 : decode cX8_isInfinite 25 = .ok (.lload_n 1, 1) := by decide +kernel
theorem dX8_isInfinite_26 : decode cX8_isInfinite 26 = .ok (.ldc2_w 127, 3) := by decide +kernel
theorem dX8_isInfinite_29 : decode cX8_isInfinite 29 = .ok (.land, 1) := by decide +kernel
theorem dX8_isInfinite_30 : decode cX8_isInfinite 30 = .ok (.ldc2_w 119, 3) := by decide +kernel
theorem dX8_isInfinite_33 : decode cX8_isInfinite 33 = .ok (.lcmp, 1) := by decide +kernel
theorem dX8_isInfinite_34 : decode cX8_isInfinite 34 = .ok (.ifCond .ne 7, 3) := by decide +kernel
theorem dX8_isInfinite_37 : decode cX8_isInfinite 37 = .ok (.iconst 1, 1) := by decide +kernel
theorem dX8_isInfinite_38 : decode cX8_isInfinite 38 = .ok (.goto 4, 3) := by decide +kernel
theorem dX8_isInfinite_41 : decode cX8_isInfinite 41 = .ok (.iconst 0, 1) := by decide +kernel
theorem dX8_isInfinite_42 : decode cX8_isInfinite 42 = .ok (.ireturn, 1) := by decide +kernel
def fX8_isInfinite (p1 : Int32) (p2 : Int64) : Int32 := if p1 = 2 then (if (p2 &&& (-2147483649)) = 2139095040 then (1) else (0)) else (if (p2 &&& 9223372036854775807) = 9218868437227405312 then (1) else (0))
set_option maxHeartbeats 4000000 in
set_option maxRecDepth 100000 in
theorem ctX8_isInfinite {l : Launch} {G : pm_Gl} {h : pm_H} {p1 : Int32} {p2 : Int64} {r : Int32} {Qr : Option Value → pm_H → Prop} (hf : fX8_isInfinite p1 p2 = r) (q : Qr (some (.int r)) h) : pm_Ct l G mX8_isInfinite [.int p1, .long p2] h 0 0 Qr := by
  refine pm_body pnX8 (Nat.le_of_ble_eq_true rfl) (fun g C X => ?_)
  have C : pm_C g cX8_isInfinite RX8 := C
  show pm_G g 0 [(0, .int p1), (1, .long p2)] [] h 0 0
  unfold fX8_isInfinite at hf
  refine pm_iload_n C dX8_isInfinite_0 rfl rfl ?_
  refine pm_iconst (v := 2) C dX8_isInfinite_1 (by decide) ?_
  refine pm_icmp_ne (tgt := 25) C dX8_isInfinite_2 (by decide) (fun c1 => ?_) (fun c1 => ?_)
  · have hf := pm_ie hf c1
    refine pm_lload_n C dX8_isInfinite_25 rfl rfl ?_
    refine pm_ldc2 C dX8_isInfinite_26 cnX8_127 ?_
    refine pm_land C dX8_isInfinite_29 ?_
    refine pm_ldc2 C dX8_isInfinite_30 cnX8_119 ?_
    refine pm_lcmp C dX8_isInfinite_33 ?_
    refine pm_if_ne (tgt := 41) C dX8_isInfinite_34 (by decide) (fun c2 => ?_) (fun c2 => ?_)
    · have hf := pm_ie hf ((fun z => c2 ((pm_lg_eq _ _).mpr z)))
      refine pm_iconst (v := 0) C dX8_isInfinite_41 (by decide) ?_
      subst hf
      exact pm_zret C X dX8_isInfinite_42 rfl (by decide) (Nat.le_refl _) (Nat.le_refl _) q
    · have hf := pm_it hf ((pm_lg_eq _ _).mp c2)
      refine pm_iconst (v := 1) C dX8_isInfinite_37 (by decide) ?_
      refine pm_goto (tgt := 42) C dX8_isInfinite_38 (by decide) ?_
      subst hf
      exact pm_zret C X dX8_isInfinite_42 rfl (by decide) (Nat.le_refl _) (Nat.le_refl _) q
  · have hf := pm_it hf c1
    refine pm_lload_n C dX8_isInfinite_5 rfl rfl ?_
    refine pm_ldc2 C dX8_isInfinite_6 cnX8_125 ?_
    refine pm_land C dX8_isInfinite_9 ?_
    refine pm_ldc2 C dX8_isInfinite_10 cnX8_117 ?_
    refine pm_lcmp C dX8_isInfinite_13 ?_
    refine pm_if_ne (tgt := 21) C dX8_isInfinite_14 (by decide) (fun c3 => ?_) (fun c3 => ?_)
    · have hf := pm_ie hf ((fun z => c3 ((pm_lg_eq _ _).mpr z)))
      refine pm_iconst (v := 0) C dX8_isInfinite_21 (by decide) ?_
      refine pm_goto (tgt := 42) C dX8_isInfinite_22 (by decide) ?_
      subst hf
      exact pm_zret C X dX8_isInfinite_42 rfl (by decide) (Nat.le_refl _) (Nat.le_refl _) q
    · have hf := pm_it hf ((pm_lg_eq _ _).mp c3)
      refine pm_iconst (v := 1) C dX8_isInfinite_17 (by decide) ?_
      refine pm_goto (tgt := 42) C dX8_isInfinite_18 (by decide) ?_
      subst hf
      exact pm_zret C X dX8_isInfinite_42 rfl (by decide) (Nat.le_refl _) (Nat.le_refl _) q
theorem dX8_isMinus_0 : decode cX8_isMinus 0 = .ok (.lload_n 1, 1) := by decide +kernel
theorem dX8_isMinus_1 : decode cX8_isMinus 1 = .ok (.iload_n 0, 1) := by decide +kernel
theorem dX8_isMinus_2 : decode cX8_isMinus 2 = .ok (.iconst 2, 1) := by decide +kernel
theorem dX8_isMinus_3 : decode cX8_isMinus 3 = .ok (.if_icmp .ne 9, 3) := by decide +kernel
theorem dX8_isMinus_6 : decode cX8_isMinus 6 = .ok (.ldc2_w 115, 3) := by decide +kernel
theorem dX8_isMinus_9 : decode cX8_isMinus 9 = .ok (.goto 6, 3) := by decide +kernel
theorem dX8_isMinus_12 : decode cX8_isMinus 12 = .ok (.ldc2_w 72, 3) := by decide +kernel
theorem dX8_isMinus_15 : decode cX8_isMinus 15 = .ok (.land, 1) := by decide +kernel
theorem dX8_isMinus_16 : decode cX8_isMinus 16 = .ok (.lconst 0, 1) := by decide +kernel
theorem dX8_isMinus_17 : decode cX8_isMinus 17 = .ok (.lcmp, 1) := by decide +kernel
theorem dX8_isMinus_18 : decode cX8_isMinus 18 = .ok (.ifCond .eq 7, 3) := by decide +kernel
theorem dX8_isMinus_21 : decode cX8_isMinus 21 = .ok (.iconst 1, 1) := by decide +kernel
theorem dX8_isMinus_22 : decode cX8_isMinus 22 = .ok (.goto 4, 3) := by decide +kernel
theorem dX8_isMinus_25 : decode cX8_isMinus 25 = .ok (.iconst 0, 1) := by decide +kernel
theorem dX8_isMinus_26 : decode cX8_isMinus 26 = .ok (.ireturn, 1) := by decide +kernel
def fX8_isMinus (p1 : Int32) (p2 : Int64) : Int32 := if p1 = 2 then (if (p2 &&& 2147483648) = 0 then (0) else (1)) else (if (p2 &&& (-9223372036854775808)) = 0 then (0) else (1))
set_option maxHeartbeats 4000000 in
set_option maxRecDepth 100000 in
theorem ctX8_isMinus {l : Launch} {G : pm_Gl} {h : pm_H} {p1 : Int32} {p2 : Int64} {r : Int32} {Qr : Option Value → pm_H → Prop} (hf : fX8_isMinus p1 p2 = r) (q : Qr (some (.int r)) h) : pm_Ct l G mX8_isMinus [.int p1, .long p2] h 0 0 Qr := by
  refine pm_body pnX8 (Nat.le_of_ble_eq_true rfl) (fun g C X => ?_)
  have C : pm_C g cX8_isMinus RX8 := C
  show pm_G g 0 [(0, .int p1), (1, .long p2)] [] h 0 0
  unfold fX8_isMinus at hf
  refine pm_lload_n C dX8_isMinus_0 rfl rfl ?_
  refine pm_iload_n C dX8_isMinus_1 rfl rfl ?_
  refine pm_iconst (v := 2) C dX8_isMinus_2 (by decide) ?_
  refine pm_icmp_ne (tgt := 12) C dX8_isMinus_3 (by decide) (fun c1 => ?_) (fun c1 => ?_)
  · have hf := pm_ie hf c1
    refine pm_ldc2 C dX8_isMinus_12 cnX8_72 ?_
    refine pm_land C dX8_isMinus_15 ?_
    refine pm_lconst (v := 0) C dX8_isMinus_16 (by decide) ?_
    refine pm_lcmp C dX8_isMinus_17 ?_
    refine pm_if_eq (tgt := 25) C dX8_isMinus_18 (by decide) (fun c2 => ?_) (fun c2 => ?_)
    · have hf := pm_it hf ((pm_lg_eq _ _).mp c2)
      refine pm_iconst (v := 0) C dX8_isMinus_25 (by decide) ?_
      subst hf
      exact pm_zret C X dX8_isMinus_26 rfl (by decide) (Nat.le_refl _) (Nat.le_refl _) q
    · have hf := pm_ie hf ((fun z => c2 ((pm_lg_eq _ _).mpr z)))
      refine pm_iconst (v := 1) C dX8_isMinus_21 (by decide) ?_
      refine pm_goto (tgt := 26) C dX8_isMinus_22 (by decide) ?_
      subst hf
      exact pm_zret C X dX8_isMinus_26 rfl (by decide) (Nat.le_refl _) (Nat.le_refl _) q
  · have hf := pm_it hf c1
    refine pm_ldc2 C dX8_isMinus_6 cnX8_115 ?_
    refine pm_goto (tgt := 15) C dX8_isMinus_9 (by decide) ?_
    refine pm_land C dX8_isMinus_15 ?_
    refine pm_lconst (v := 0) C dX8_isMinus_16 (by decide) ?_
    refine pm_lcmp C dX8_isMinus_17 ?_
    refine pm_if_eq (tgt := 25) C dX8_isMinus_18 (by decide) (fun c3 => ?_) (fun c3 => ?_)
    · have hf := pm_it hf ((pm_lg_eq _ _).mp c3)
      refine pm_iconst (v := 0) C dX8_isMinus_25 (by decide) ?_
      subst hf
      exact pm_zret C X dX8_isMinus_26 rfl (by decide) (Nat.le_refl _) (Nat.le_refl _) q
    · have hf := pm_ie hf ((fun z => c3 ((pm_lg_eq _ _).mpr z)))
      refine pm_iconst (v := 1) C dX8_isMinus_21 (by decide) ?_
      refine pm_goto (tgt := 26) C dX8_isMinus_22 (by decide) ?_
      subst hf
      exact pm_zret C X dX8_isMinus_26 rfl (by decide) (Nat.le_refl _) (Nat.le_refl _) q
theorem dX8_isNone_0 : decode cX8_isNone 0 = .ok (.iload_n 0, 1) := by decide +kernel
theorem dX8_isNone_1 : decode cX8_isNone 1 = .ok (.iconst 2, 1) := by decide +kernel
theorem dX8_isNone_2 : decode cX8_isNone 2 = .ok (.if_icmp .ne 23, 3) := by decide +kernel
theorem dX8_isNone_5 : decode cX8_isNone 5 = .ok (.lload_n 1, 1) := by decide +kernel
theorem dX8_isNone_6 : decode cX8_isNone 6 = .ok (.ldc2_w 125, 3) := by decide +kernel
theorem dX8_isNone_9 : decode cX8_isNone 9 = .ok (.land, 1) := by decide +kernel
theorem dX8_isNone_10 : decode cX8_isNone 10 = .ok (.ldc2_w 117, 3) := by decide +kernel
theorem dX8_isNone_13 : decode cX8_isNone 13 = .ok (.lcmp, 1) := by decide +kernel
theorem dX8_isNone_14 : decode cX8_isNone 14 = .ok (.ifCond .le 7, 3) := by decide +kernel
theorem dX8_isNone_17 : decode cX8_isNone 17 = .ok (.iconst 1, 1) := by decide +kernel
theorem dX8_isNone_18 : decode cX8_isNone 18 = .ok (.goto 24, 3) := by decide +kernel
theorem dX8_isNone_21 : decode cX8_isNone 21 = .ok (.iconst 0, 1) := by decide +kernel
theorem dX8_isNone_22 : decode cX8_isNone 22 = .ok (.goto 20, 3) := by decide +kernel
theorem dX8_isNone_25 : decode cX8_isNone 25 = .ok (.lload_n 1, 1) := by decide +kernel
theorem dX8_isNone_26 : decode cX8_isNone 26 = .ok (.ldc2_w 127, 3) := by decide +kernel
theorem dX8_isNone_29 : decode cX8_isNone 29 = .ok (.land, 1) := by decide +kernel
theorem dX8_isNone_30 : decode cX8_isNone 30 = .ok (.ldc2_w 119, 3) := by decide +kernel
theorem dX8_isNone_33 : decode cX8_isNone 33 = .ok (.lcmp, 1) := by decide +kernel
theorem dX8_isNone_34 : decode cX8_isNone 34 = .ok (.ifCond .le 7, 3) := by decide +kernel
theorem dX8_isNone_37 : decode cX8_isNone 37 = .ok (.iconst 1, 1) := by decide +kernel
theorem dX8_isNone_38 : decode cX8_isNone 38 = .ok (.goto 4, 3) := by decide +kernel
theorem dX8_isNone_41 : decode cX8_isNone 41 = .ok (.iconst 0, 1) := by decide +kernel
theorem dX8_isNone_42 : decode cX8_isNone 42 = .ok (.ireturn, 1) := by decide +kernel
def fX8_isNone (p1 : Int32) (p2 : Int64) : Int32 := if p1 = 2 then (if (p2 &&& (-2147483649)) ≤ 2139095040 then (0) else (1)) else (if (p2 &&& 9223372036854775807) ≤ 9218868437227405312 then (0) else (1))
set_option maxHeartbeats 4000000 in
set_option maxRecDepth 100000 in
theorem ctX8_isNone {l : Launch} {G : pm_Gl} {h : pm_H} {p1 : Int32} {p2 : Int64} {r : Int32} {Qr : Option Value → pm_H → Prop} (hf : fX8_isNone p1 p2 = r) (q : Qr (some (.int r)) h) : pm_Ct l G mX8_isNone [.int p1, .long p2] h 0 0 Qr := by
  refine pm_body pnX8 (Nat.le_of_ble_eq_true rfl) (fun g C X => ?_)
  have C : pm_C g cX8_isNone RX8 := C
  show pm_G g 0 [(0, .int p1), (1, .long p2)] [] h 0 0
  unfold fX8_isNone at hf
  refine pm_iload_n C dX8_isNone_0 rfl rfl ?_
  refine pm_iconst (v := 2) C dX8_isNone_1 (by decide) ?_
  refine pm_icmp_ne (tgt := 25) C dX8_isNone_2 (by decide) (fun c1 => ?_) (fun c1 => ?_)
  · have hf := pm_ie hf c1
    refine pm_lload_n C dX8_isNone_25 rfl rfl ?_
    refine pm_ldc2 C dX8_isNone_26 cnX8_127 ?_
    refine pm_land C dX8_isNone_29 ?_
    refine pm_ldc2 C dX8_isNone_30 cnX8_119 ?_
    refine pm_lcmp C dX8_isNone_33 ?_
    refine pm_if_le (tgt := 41) C dX8_isNone_34 (by decide) (fun c2 => ?_) (fun c2 => ?_)
    · have hf := pm_it hf ((pm_lg_le _ _).mp c2)
      refine pm_iconst (v := 0) C dX8_isNone_41 (by decide) ?_
      subst hf
      exact pm_zret C X dX8_isNone_42 rfl (by decide) (Nat.le_refl _) (Nat.le_refl _) q
    · have hf := pm_ie hf ((fun z => c2 ((pm_lg_le _ _).mpr z)))
      refine pm_iconst (v := 1) C dX8_isNone_37 (by decide) ?_
      refine pm_goto (tgt := 42) C dX8_isNone_38 (by decide) ?_
      subst hf
      exact pm_zret C X dX8_isNone_42 rfl (by decide) (Nat.le_refl _) (Nat.le_refl _) q
  · have hf := pm_it hf c1
    refine pm_lload_n C dX8_isNone_5 rfl rfl ?_
    refine pm_ldc2 C dX8_isNone_6 cnX8_125 ?_
    refine pm_land C dX8_isNone_9 ?_
    refine pm_ldc2 C dX8_isNone_10 cnX8_117 ?_
    refine pm_lcmp C dX8_isNone_13 ?_
    refine pm_if_le (tgt := 21) C dX8_isNone_14 (by decide) (fun c3 => ?_) (fun c3 => ?_)
    · have hf := pm_it hf ((pm_lg_le _ _).mp c3)
      refine pm_iconst (v := 0) C dX8_isNone_21 (by decide) ?_
      refine pm_goto (tgt := 42) C dX8_isNone_22 (by decide) ?_
      subst hf
      exact pm_zret C X dX8_isNone_42 rfl (by decide) (Nat.le_refl _) (Nat.le_refl _) q
    · have hf := pm_ie hf ((fun z => c3 ((pm_lg_le _ _).mpr z)))
      refine pm_iconst (v := 1) C dX8_isNone_17 (by decide) ?_
      refine pm_goto (tgt := 42) C dX8_isNone_18 (by decide) ?_
      subst hf
      exact pm_zret C X dX8_isNone_42 rfl (by decide) (Nat.le_refl _) (Nat.le_refl _) q
theorem dX8_isZero_0 : decode cX8_isZero 0 = .ok (.iload_n 0, 1) := by decide +kernel
theorem dX8_isZero_1 : decode cX8_isZero 1 = .ok (.iconst 2, 1) := by decide +kernel
theorem dX8_isZero_2 : decode cX8_isZero 2 = .ok (.if_icmp .ne 21, 3) := by decide +kernel
theorem dX8_isZero_5 : decode cX8_isZero 5 = .ok (.lload_n 1, 1) := by decide +kernel
theorem dX8_isZero_6 : decode cX8_isZero 6 = .ok (.ldc2_w 125, 3) := by decide +kernel
theorem dX8_isZero_9 : decode cX8_isZero 9 = .ok (.land, 1) := by decide +kernel
theorem dX8_isZero_10 : decode cX8_isZero 10 = .ok (.lconst 0, 1) := by decide +kernel
theorem dX8_isZero_11 : decode cX8_isZero 11 = .ok (.lcmp, 1) := by decide +kernel
theorem dX8_isZero_12 : decode cX8_isZero 12 = .ok (.ifCond .ne 7, 3) := by decide +kernel
theorem dX8_isZero_15 : decode cX8_isZero 15 = .ok (.iconst 1, 1) := by decide +kernel
theorem dX8_isZero_16 : decode cX8_isZero 16 = .ok (.goto 22, 3) := by decide +kernel
theorem dX8_isZero_19 : decode cX8_isZero 19 = .ok (.iconst 0, 1) := by decide +kernel
theorem dX8_isZero_20 : decode cX8_isZero 20 = .ok (.goto 18, 3) := by decide +kernel
theorem dX8_isZero_23 : decode cX8_isZero 23 = .ok (.lload_n 1, 1) := by decide +kernel
theorem dX8_isZero_24 : decode cX8_isZero 24 = .ok (.ldc2_w 127, 3) := by decide +kernel
theorem dX8_isZero_27 : decode cX8_isZero 27 = .ok (.land, 1) := by decide +kernel
theorem dX8_isZero_28 : decode cX8_isZero 28 = .ok (.lconst 0, 1) := by decide +kernel
theorem dX8_isZero_29 : decode cX8_isZero 29 = .ok (.lcmp, 1) := by decide +kernel
theorem dX8_isZero_30 : decode cX8_isZero 30 = .ok (.ifCond .ne 7, 3) := by decide +kernel
theorem dX8_isZero_33 : decode cX8_isZero 33 = .ok (.iconst 1, 1) := by decide +kernel
theorem dX8_isZero_34 : decode cX8_isZero 34 = .ok (.goto 4, 3) := by decide +kernel
theorem dX8_isZero_37 : decode cX8_isZero 37 = .ok (.iconst 0, 1) := by decide +kernel
theorem dX8_isZero_38 : decode cX8_isZero 38 = .ok (.ireturn, 1) := by decide +kernel
def fX8_isZero (p1 : Int32) (p2 : Int64) : Int32 := if p1 = 2 then (if (p2 &&& (-2147483649)) = 0 then (1) else (0)) else (if (p2 &&& 9223372036854775807) = 0 then (1) else (0))
set_option maxHeartbeats 4000000 in
set_option maxRecDepth 100000 in
theorem ctX8_isZero {l : Launch} {G : pm_Gl} {h : pm_H} {p1 : Int32} {p2 : Int64} {r : Int32} {Qr : Option Value → pm_H → Prop} (hf : fX8_isZero p1 p2 = r) (q : Qr (some (.int r)) h) : pm_Ct l G mX8_isZero [.int p1, .long p2] h 0 0 Qr := by
  refine pm_body pnX8 (Nat.le_of_ble_eq_true rfl) (fun g C X => ?_)
  have C : pm_C g cX8_isZero RX8 := C
  show pm_G g 0 [(0, .int p1), (1, .long p2)] [] h 0 0
  unfold fX8_isZero at hf
  refine pm_iload_n C dX8_isZero_0 rfl rfl ?_
  refine pm_iconst (v := 2) C dX8_isZero_1 (by decide) ?_
  refine pm_icmp_ne (tgt := 23) C dX8_isZero_2 (by decide) (fun c1 => ?_) (fun c1 => ?_)
  · have hf := pm_ie hf c1
    refine pm_lload_n C dX8_isZero_23 rfl rfl ?_
    refine pm_ldc2 C dX8_isZero_24 cnX8_127 ?_
    refine pm_land C dX8_isZero_27 ?_
    refine pm_lconst (v := 0) C dX8_isZero_28 (by decide) ?_
    refine pm_lcmp C dX8_isZero_29 ?_
    refine pm_if_ne (tgt := 37) C dX8_isZero_30 (by decide) (fun c2 => ?_) (fun c2 => ?_)
    · have hf := pm_ie hf ((fun z => c2 ((pm_lg_eq _ _).mpr z)))
      refine pm_iconst (v := 0) C dX8_isZero_37 (by decide) ?_
      subst hf
      exact pm_zret C X dX8_isZero_38 rfl (by decide) (Nat.le_refl _) (Nat.le_refl _) q
    · have hf := pm_it hf ((pm_lg_eq _ _).mp c2)
      refine pm_iconst (v := 1) C dX8_isZero_33 (by decide) ?_
      refine pm_goto (tgt := 38) C dX8_isZero_34 (by decide) ?_
      subst hf
      exact pm_zret C X dX8_isZero_38 rfl (by decide) (Nat.le_refl _) (Nat.le_refl _) q
  · have hf := pm_it hf c1
    refine pm_lload_n C dX8_isZero_5 rfl rfl ?_
    refine pm_ldc2 C dX8_isZero_6 cnX8_125 ?_
    refine pm_land C dX8_isZero_9 ?_
    refine pm_lconst (v := 0) C dX8_isZero_10 (by decide) ?_
    refine pm_lcmp C dX8_isZero_11 ?_
    refine pm_if_ne (tgt := 19) C dX8_isZero_12 (by decide) (fun c3 => ?_) (fun c3 => ?_)
    · have hf := pm_ie hf ((fun z => c3 ((pm_lg_eq _ _).mpr z)))
      refine pm_iconst (v := 0) C dX8_isZero_19 (by decide) ?_
      refine pm_goto (tgt := 38) C dX8_isZero_20 (by decide) ?_
      subst hf
      exact pm_zret C X dX8_isZero_38 rfl (by decide) (Nat.le_refl _) (Nat.le_refl _) q
    · have hf := pm_it hf ((pm_lg_eq _ _).mp c3)
      refine pm_iconst (v := 1) C dX8_isZero_15 (by decide) ?_
      refine pm_goto (tgt := 38) C dX8_isZero_16 (by decide) ?_
      subst hf
      exact pm_zret C X dX8_isZero_38 rfl (by decide) (Nat.le_refl _) (Nat.le_refl _) q
theorem dX8_none_0 : decode cX8_none 0 = .ok (.iload_n 0, 1) := by decide +kernel
theorem dX8_none_1 : decode cX8_none 1 = .ok (.iconst 2, 1) := by decide +kernel
theorem dX8_none_2 : decode cX8_none 2 = .ok (.if_icmp .ne 9, 3) := by decide +kernel
theorem dX8_none_5 : decode cX8_none 5 = .ok (.ldc2_w 121, 3) := by decide +kernel
theorem dX8_none_8 : decode cX8_none 8 = .ok (.goto 6, 3) := by decide +kernel
theorem dX8_none_11 : decode cX8_none 11 = .ok (.ldc2_w 123, 3) := by decide +kernel
theorem dX8_none_14 : decode cX8_none 14 = .ok (.lreturn, 1) := by decide +kernel
def fX8_none (p1 : Int32) : Int64 := if p1 = 2 then (2143289344) else (9221120237041090560)
set_option maxHeartbeats 4000000 in
set_option maxRecDepth 100000 in
theorem ctX8_none {l : Launch} {G : pm_Gl} {h : pm_H} {p1 : Int32} {r : Int64} {Qr : Option Value → pm_H → Prop} (hf : fX8_none p1 = r) (q : Qr (some (.long r)) h) : pm_Ct l G mX8_none [.int p1] h 0 0 Qr := by
  refine pm_body pnX8 (Nat.le_of_ble_eq_true rfl) (fun g C X => ?_)
  have C : pm_C g cX8_none RX8 := C
  show pm_G g 0 [(0, .int p1)] [] h 0 0
  unfold fX8_none at hf
  refine pm_iload_n C dX8_none_0 rfl rfl ?_
  refine pm_iconst (v := 2) C dX8_none_1 (by decide) ?_
  refine pm_icmp_ne (tgt := 11) C dX8_none_2 (by decide) (fun c1 => ?_) (fun c1 => ?_)
  · have hf := pm_ie hf c1
    refine pm_ldc2 C dX8_none_11 cnX8_123 ?_
    subst hf
    exact pm_lret C X dX8_none_14 rfl (Nat.le_refl _) (Nat.le_refl _) q
  · have hf := pm_it hf c1
    refine pm_ldc2 C dX8_none_5 cnX8_121 ?_
    refine pm_goto (tgt := 14) C dX8_none_8 (by decide) ?_
    subst hf
    exact pm_lret C X dX8_none_14 rfl (Nat.le_refl _) (Nat.le_refl _) q
theorem dX8_order_0 : decode cX8_order 0 = .ok (.iload_n 0, 1) := by decide +kernel
theorem dX8_order_1 : decode cX8_order 1 = .ok (.iconst 2, 1) := by decide +kernel
theorem dX8_order_2 : decode cX8_order 2 = .ok (.if_icmp .ne 9, 3) := by decide +kernel
theorem dX8_order_5 : decode cX8_order 5 = .ok (.ldc2_w 115, 3) := by decide +kernel
theorem dX8_order_8 : decode cX8_order 8 = .ok (.goto 6, 3) := by decide +kernel
theorem dX8_order_11 : decode cX8_order 11 = .ok (.ldc2_w 72, 3) := by decide +kernel
theorem dX8_order_14 : decode cX8_order 14 = .ok (.lstore_n 3, 1) := by decide +kernel
theorem dX8_order_15 : decode cX8_order 15 = .ok (.lload_n 1, 1) := by decide +kernel
theorem dX8_order_16 : decode cX8_order 16 = .ok (.lload_n 3, 1) := by decide +kernel
theorem dX8_order_17 : decode cX8_order 17 = .ok (.land, 1) := by decide +kernel
theorem dX8_order_18 : decode cX8_order 18 = .ok (.lconst 0, 1) := by decide +kernel
theorem dX8_order_19 : decode cX8_order 19 = .ok (.lcmp, 1) := by decide +kernel
theorem dX8_order_20 : decode cX8_order 20 = .ok (.ifCond .ne 7, 3) := by decide +kernel
theorem dX8_order_23 : decode cX8_order 23 = .ok (.lload_n 1, 1) := by decide +kernel
theorem dX8_order_24 : decode cX8_order 24 = .ok (.goto 14, 3) := by decide +kernel
theorem dX8_order_27 : decode cX8_order 27 = .ok (.ldc2_w 113, 3) := by decide +kernel
theorem dX8_order_30 : decode cX8_order 30 = .ok (.lload_n 1, 1) := by decide +kernel
theorem dX8_order_31 : decode cX8_order 31 = .ok (.lload_n 3, 1) := by decide +kernel
theorem dX8_order_32 : decode cX8_order 32 = .ok (.ldc2_w 113, 3) := by decide +kernel
theorem dX8_order_35 : decode cX8_order 35 = .ok (.lxor, 1) := by decide +kernel
theorem dX8_order_36 : decode cX8_order 36 = .ok (.land, 1) := by decide +kernel
theorem dX8_order_37 : decode cX8_order 37 = .ok (.lsub, 1) := by decide +kernel
theorem dX8_order_38 : decode cX8_order 38 = .ok (.lreturn, 1) := by decide +kernel
def fX8_order (p1 : Int32) (p2 : Int64) : Int64 := if p1 = 2 then (if (p2 &&& 2147483648) = 0 then (p2) else ((-1) - (p2 &&& ((2147483648 : Int64) ^^^ (-1))))) else (if (p2 &&& (-9223372036854775808)) = 0 then (p2) else ((-1) - (p2 &&& (((-9223372036854775808) : Int64) ^^^ (-1)))))
set_option maxHeartbeats 4000000 in
set_option maxRecDepth 100000 in
theorem ctX8_order {l : Launch} {G : pm_Gl} {h : pm_H} {p1 : Int32} {p2 : Int64} {r : Int64} {Qr : Option Value → pm_H → Prop} (hf : fX8_order p1 p2 = r) (q : Qr (some (.long r)) h) : pm_Ct l G mX8_order [.int p1, .long p2] h 0 0 Qr := by
  refine pm_body pnX8 (Nat.le_of_ble_eq_true rfl) (fun g C X => ?_)
  have C : pm_C g cX8_order RX8 := C
  show pm_G g 0 [(0, .int p1), (1, .long p2)] [] h 0 0
  unfold fX8_order at hf
  refine pm_iload_n C dX8_order_0 rfl rfl ?_
  refine pm_iconst (v := 2) C dX8_order_1 (by decide) ?_
  refine pm_icmp_ne (tgt := 11) C dX8_order_2 (by decide) (fun c1 => ?_) (fun c1 => ?_)
  · have hf := pm_ie hf c1
    refine pm_ldc2 C dX8_order_11 cnX8_72 ?_
    refine pm_lstore_n (lv' := [(3, .long (-9223372036854775808)), (0, .int p1), (1, .long p2)]) C dX8_order_14 rfl (pm_nl X (by decide)) rfl ?_
    refine pm_lload_n C dX8_order_15 rfl rfl ?_
    refine pm_lload_n C dX8_order_16 rfl rfl ?_
    refine pm_land C dX8_order_17 ?_
    refine pm_lconst (v := 0) C dX8_order_18 (by decide) ?_
    refine pm_lcmp C dX8_order_19 ?_
    refine pm_if_ne (tgt := 27) C dX8_order_20 (by decide) (fun c2 => ?_) (fun c2 => ?_)
    · have hf := pm_ie hf ((fun z => c2 ((pm_lg_eq _ _).mpr z)))
      refine pm_ldc2 C dX8_order_27 cnX8_113 ?_
      refine pm_lload_n C dX8_order_30 rfl rfl ?_
      refine pm_lload_n C dX8_order_31 rfl rfl ?_
      refine pm_ldc2 C dX8_order_32 cnX8_113 ?_
      refine pm_lxor C dX8_order_35 ?_
      refine pm_land C dX8_order_36 ?_
      refine pm_lsub C dX8_order_37 ?_
      subst hf
      exact pm_lret C X dX8_order_38 rfl (Nat.le_refl _) (Nat.le_refl _) q
    · have hf := pm_it hf ((pm_lg_eq _ _).mp c2)
      refine pm_lload_n C dX8_order_23 rfl rfl ?_
      refine pm_goto (tgt := 38) C dX8_order_24 (by decide) ?_
      subst hf
      exact pm_lret C X dX8_order_38 rfl (Nat.le_refl _) (Nat.le_refl _) q
  · have hf := pm_it hf c1
    refine pm_ldc2 C dX8_order_5 cnX8_115 ?_
    refine pm_goto (tgt := 14) C dX8_order_8 (by decide) ?_
    refine pm_lstore_n (lv' := [(3, .long 2147483648), (0, .int p1), (1, .long p2)]) C dX8_order_14 rfl (pm_nl X (by decide)) rfl ?_
    refine pm_lload_n C dX8_order_15 rfl rfl ?_
    refine pm_lload_n C dX8_order_16 rfl rfl ?_
    refine pm_land C dX8_order_17 ?_
    refine pm_lconst (v := 0) C dX8_order_18 (by decide) ?_
    refine pm_lcmp C dX8_order_19 ?_
    refine pm_if_ne (tgt := 27) C dX8_order_20 (by decide) (fun c3 => ?_) (fun c3 => ?_)
    · have hf := pm_ie hf ((fun z => c3 ((pm_lg_eq _ _).mpr z)))
      refine pm_ldc2 C dX8_order_27 cnX8_113 ?_
      refine pm_lload_n C dX8_order_30 rfl rfl ?_
      refine pm_lload_n C dX8_order_31 rfl rfl ?_
      refine pm_ldc2 C dX8_order_32 cnX8_113 ?_
      refine pm_lxor C dX8_order_35 ?_
      refine pm_land C dX8_order_36 ?_
      refine pm_lsub C dX8_order_37 ?_
      subst hf
      exact pm_lret C X dX8_order_38 rfl (Nat.le_refl _) (Nat.le_refl _) q
    · have hf := pm_it hf ((pm_lg_eq _ _).mp c3)
      refine pm_lload_n C dX8_order_23 rfl rfl ?_
      refine pm_goto (tgt := 38) C dX8_order_24 (by decide) ?_
      subst hf
      exact pm_lret C X dX8_order_38 rfl (Nat.le_refl _) (Nat.le_refl _) q
theorem dX8_quotientWithoutSign_0 : decode cX8_quotientWithoutSign 0 = .ok (.lload_n 2, 1) := by decide +kernel
theorem dX8_quotientWithoutSign_1 : decode cX8_quotientWithoutSign 1 = .ok (.lconst 0, 1) := by decide +kernel
theorem dX8_quotientWithoutSign_2 : decode cX8_quotientWithoutSign 2 = .ok (.lcmp, 1) := by decide +kernel
theorem dX8_quotientWithoutSign_3 : decode cX8_quotientWithoutSign 3 = .ok (.ifCond .ne 5, 3) := by decide +kernel
theorem dX8_quotientWithoutSign_6 : decode cX8_quotientWithoutSign 6 = .ok (.lconst 0, 1) := by decide +kernel
theorem dX8_quotientWithoutSign_7 : decode cX8_quotientWithoutSign 7 = .ok (.lreturn, 1) := by decide +kernel
theorem dX8_quotientWithoutSign_8 : decode cX8_quotientWithoutSign 8 = .ok (.lload_n 2, 1) := by decide +kernel
theorem dX8_quotientWithoutSign_9 : decode cX8_quotientWithoutSign 9 = .ok (.lconst 0, 1) := by decide +kernel
theorem dX8_quotientWithoutSign_10 : decode cX8_quotientWithoutSign 10 = .ok (.lcmp, 1) := by decide +kernel
theorem dX8_quotientWithoutSign_11 : decode cX8_quotientWithoutSign 11 = .ok (.ifCond .ge 21, 3) := by decide +kernel
theorem dX8_quotientWithoutSign_14 : decode cX8_quotientWithoutSign 14 = .ok (.lload_n 0, 1) := by decide +kernel
theorem dX8_quotientWithoutSign_15 : decode cX8_quotientWithoutSign 15 = .ok (.lconst 0, 1) := by decide +kernel
theorem dX8_quotientWithoutSign_16 : decode cX8_quotientWithoutSign 16 = .ok (.lcmp, 1) := by decide +kernel
theorem dX8_quotientWithoutSign_17 : decode cX8_quotientWithoutSign 17 = .ok (.ifCond .ge 13, 3) := by decide +kernel
theorem dX8_quotientWithoutSign_20 : decode cX8_quotientWithoutSign 20 = .ok (.lload_n 0, 1) := by decide +kernel
theorem dX8_quotientWithoutSign_21 : decode cX8_quotientWithoutSign 21 = .ok (.lload_n 2, 1) := by decide +kernel
theorem dX8_quotientWithoutSign_22 : decode cX8_quotientWithoutSign 22 = .ok (.lcmp, 1) := by decide +kernel
theorem dX8_quotientWithoutSign_23 : decode cX8_quotientWithoutSign 23 = .ok (.ifCond .lt 7, 3) := by decide +kernel
theorem dX8_quotientWithoutSign_26 : decode cX8_quotientWithoutSign 26 = .ok (.lconst 1, 1) := by decide +kernel
theorem dX8_quotientWithoutSign_27 : decode cX8_quotientWithoutSign 27 = .ok (.goto 4, 3) := by decide +kernel
theorem dX8_quotientWithoutSign_30 : decode cX8_quotientWithoutSign 30 = .ok (.lconst 0, 1) := by decide +kernel
theorem dX8_quotientWithoutSign_31 : decode cX8_quotientWithoutSign 31 = .ok (.lreturn, 1) := by decide +kernel
theorem dX8_quotientWithoutSign_32 : decode cX8_quotientWithoutSign 32 = .ok (.lload_n 0, 1) := by decide +kernel
theorem dX8_quotientWithoutSign_33 : decode cX8_quotientWithoutSign 33 = .ok (.lconst 0, 1) := by decide +kernel
theorem dX8_quotientWithoutSign_34 : decode cX8_quotientWithoutSign 34 = .ok (.lcmp, 1) := by decide +kernel
theorem dX8_quotientWithoutSign_35 : decode cX8_quotientWithoutSign 35 = .ok (.ifCond .lt 7, 3) := by decide +kernel
theorem dX8_quotientWithoutSign_38 : decode cX8_quotientWithoutSign 38 = .ok (.lload_n 0, 1) := by decide +kernel
theorem dX8_quotientWithoutSign_39 : decode cX8_quotientWithoutSign 39 = .ok (.lload_n 2, 1) := by decide +kernel
theorem dX8_quotientWithoutSign_40 : decode cX8_quotientWithoutSign 40 = .ok (.ldiv, 1) := by decide +kernel
theorem dX8_quotientWithoutSign_41 : decode cX8_quotientWithoutSign 41 = .ok (.lreturn, 1) := by decide +kernel
theorem dX8_quotientWithoutSign_42 : decode cX8_quotientWithoutSign 42 = .ok (.lload_n 0, 1) := by decide +kernel
theorem dX8_quotientWithoutSign_43 : decode cX8_quotientWithoutSign 43 = .ok (.iconst 1, 1) := by decide +kernel
theorem dX8_quotientWithoutSign_44 : decode cX8_quotientWithoutSign 44 = .ok (.lushr, 1) := by decide +kernel
theorem dX8_quotientWithoutSign_45 : decode cX8_quotientWithoutSign 45 = .ok (.lload_n 2, 1) := by decide +kernel
theorem dX8_quotientWithoutSign_46 : decode cX8_quotientWithoutSign 46 = .ok (.ldiv, 1) := by decide +kernel
theorem dX8_quotientWithoutSign_47 : decode cX8_quotientWithoutSign 47 = .ok (.iconst 1, 1) := by decide +kernel
theorem dX8_quotientWithoutSign_48 : decode cX8_quotientWithoutSign 48 = .ok (.lshl, 1) := by decide +kernel
theorem dX8_quotientWithoutSign_49 : decode cX8_quotientWithoutSign 49 = .ok (.lstore 4, 2) := by decide +kernel
theorem dX8_quotientWithoutSign_51 : decode cX8_quotientWithoutSign 51 = .ok (.lload_n 0, 1) := by decide +kernel
theorem dX8_quotientWithoutSign_52 : decode cX8_quotientWithoutSign 52 = .ok (.lload 4, 2) := by decide +kernel
theorem dX8_quotientWithoutSign_54 : decode cX8_quotientWithoutSign 54 = .ok (.lload_n 2, 1) := by decide +kernel
theorem dX8_quotientWithoutSign_55 : decode cX8_quotientWithoutSign 55 = .ok (.lmul, 1) := by decide +kernel
theorem dX8_quotientWithoutSign_56 : decode cX8_quotientWithoutSign 56 = .ok (.lsub, 1) := by decide +kernel
theorem dX8_quotientWithoutSign_57 : decode cX8_quotientWithoutSign 57 = .ok (.lstore 6, 2) := by decide +kernel
theorem dX8_quotientWithoutSign_59 : decode cX8_quotientWithoutSign 59 = .ok (.lload 6, 2) := by decide +kernel
theorem dX8_quotientWithoutSign_61 : decode cX8_quotientWithoutSign 61 = .ok (.lconst 0, 1) := by decide +kernel
theorem dX8_quotientWithoutSign_62 : decode cX8_quotientWithoutSign 62 = .ok (.lcmp, 1) := by decide +kernel
theorem dX8_quotientWithoutSign_63 : decode cX8_quotientWithoutSign 63 = .ok (.ifCond .lt 10, 3) := by decide +kernel
theorem dX8_quotientWithoutSign_66 : decode cX8_quotientWithoutSign 66 = .ok (.lload 6, 2) := by decide +kernel
theorem dX8_quotientWithoutSign_68 : decode cX8_quotientWithoutSign 68 = .ok (.lload_n 2, 1) := by decide +kernel
theorem dX8_quotientWithoutSign_69 : decode cX8_quotientWithoutSign 69 = .ok (.lcmp, 1) := by decide +kernel
theorem dX8_quotientWithoutSign_70 : decode cX8_quotientWithoutSign 70 = .ok (.ifCond .lt 10, 3) := by decide +kernel
theorem dX8_quotientWithoutSign_73 : decode cX8_quotientWithoutSign 73 = .ok (.lload 4, 2) := by decide +kernel
theorem dX8_quotientWithoutSign_75 : decode cX8_quotientWithoutSign 75 = .ok (.lconst 1, 1) := by decide +kernel
theorem dX8_quotientWithoutSign_76 : decode cX8_quotientWithoutSign 76 = .ok (.ladd, 1) := by decide +kernel
theorem dX8_quotientWithoutSign_77 : decode cX8_quotientWithoutSign 77 = .ok (.goto 5, 3) := by decide +kernel
theorem dX8_quotientWithoutSign_80 : decode cX8_quotientWithoutSign 80 = .ok (.lload 4, 2) := by decide +kernel
theorem dX8_quotientWithoutSign_82 : decode cX8_quotientWithoutSign 82 = .ok (.lreturn, 1) := by decide +kernel
def fX8_quotientWithoutSign (p1 : Int64) (p2 : Int64) : Option Int64 := if p2 = 0 then (some 0) else (if 0 ≤ p2 then (if p1 < 0 then (if ¬ p2 = 0 then pm_let ((((p1.toUInt64 >>> ((1 : Int32).toInt64.toUInt64 &&& Int64.toUInt64 63)).toInt64) / p2) <<< ((1 : Int32).toInt64 &&& 63)) fun y5 => pm_let (p1 - (y5 * p2)) fun y7 => if y7 < 0 then (some (y5 + 1)) else (if y7 < p2 then (some y5) else (some (y5 + 1))) else none) else (if ¬ p2 = 0 then some (p1 / p2) else none)) else (if 0 ≤ p1 then (some 0) else (if p1 < p2 then (some 0) else (some 1))))
set_option maxHeartbeats 4000000 in
set_option maxRecDepth 100000 in
theorem ctX8_quotientWithoutSign {l : Launch} {G : pm_Gl} {h : pm_H} {p1 : Int64} {p2 : Int64} {r : Int64} {Qr : Option Value → pm_H → Prop} (hf : fX8_quotientWithoutSign p1 p2 = some r) (q : Qr (some (.long r)) h) : pm_Ct l G mX8_quotientWithoutSign [.long p1, .long p2] h 0 0 Qr := by
  refine pm_body pnX8 (Nat.le_of_ble_eq_true rfl) (fun g C X => ?_)
  have C : pm_C g cX8_quotientWithoutSign RX8 := C
  show pm_G g 0 [(0, .long p1), (2, .long p2)] [] h 0 0
  unfold fX8_quotientWithoutSign at hf
  refine pm_lload_n C dX8_quotientWithoutSign_0 rfl rfl ?_
  refine pm_lconst (v := 0) C dX8_quotientWithoutSign_1 (by decide) ?_
  refine pm_lcmp C dX8_quotientWithoutSign_2 ?_
  refine pm_if_ne (tgt := 8) C dX8_quotientWithoutSign_3 (by decide) (fun c1 => ?_) (fun c1 => ?_)
  · have hf := pm_ie hf ((fun z => c1 ((pm_lg_eq _ _).mpr z)))
    refine pm_lload_n C dX8_quotientWithoutSign_8 rfl rfl ?_
    refine pm_lconst (v := 0) C dX8_quotientWithoutSign_9 (by decide) ?_
    refine pm_lcmp C dX8_quotientWithoutSign_10 ?_
    refine pm_if_ge (tgt := 32) C dX8_quotientWithoutSign_11 (by decide) (fun c2 => ?_) (fun c2 => ?_)
    · have hf := pm_it hf ((pm_lg_ge _ _).mp c2)
      refine pm_lload_n C dX8_quotientWithoutSign_32 rfl rfl ?_
      refine pm_lconst (v := 0) C dX8_quotientWithoutSign_33 (by decide) ?_
      refine pm_lcmp C dX8_quotientWithoutSign_34 ?_
      refine pm_if_lt (tgt := 42) C dX8_quotientWithoutSign_35 (by decide) (fun c3 => ?_) (fun c3 => ?_)
      · have hf := pm_it hf ((pm_lg_lt _ _).mp c3)
        refine pm_lload_n C dX8_quotientWithoutSign_42 rfl rfl ?_
        refine pm_iconst (v := 1) C dX8_quotientWithoutSign_43 (by decide) ?_
        refine pm_lushr C dX8_quotientWithoutSign_44 ?_
        refine pm_lload_n C dX8_quotientWithoutSign_45 rfl rfl ?_
        obtain ⟨u4, hf⟩ := pm_if hf
        refine pm_ldiv C dX8_quotientWithoutSign_46 u4 ?_
        refine pm_iconst (v := 1) C dX8_quotientWithoutSign_47 (by decide) ?_
        refine pm_lshl C dX8_quotientWithoutSign_48 ?_
        obtain ⟨y5, e6, hf⟩ := pm_lt hf
        refine pm_topL e6 ?_
        refine pm_lstore (lv' := [(4, .long y5), (0, .long p1), (2, .long p2)]) C dX8_quotientWithoutSign_49 (pm_nl X (by decide)) rfl ?_
        refine pm_lload_n C dX8_quotientWithoutSign_51 rfl rfl ?_
        refine pm_lload C dX8_quotientWithoutSign_52 rfl ?_
        refine pm_lload_n C dX8_quotientWithoutSign_54 rfl rfl ?_
        refine pm_lmul C dX8_quotientWithoutSign_55 ?_
        refine pm_lsub C dX8_quotientWithoutSign_56 ?_
        obtain ⟨y7, e8, hf⟩ := pm_lt hf
        refine pm_topL e8 ?_
        refine pm_lstore (lv' := [(6, .long y7), (4, .long y5), (0, .long p1), (2, .long p2)]) C dX8_quotientWithoutSign_57 (pm_nl X (by decide)) rfl ?_
        refine pm_lload C dX8_quotientWithoutSign_59 rfl ?_
        refine pm_lconst (v := 0) C dX8_quotientWithoutSign_61 (by decide) ?_
        refine pm_lcmp C dX8_quotientWithoutSign_62 ?_
        refine pm_if_lt (tgt := 73) C dX8_quotientWithoutSign_63 (by decide) (fun c9 => ?_) (fun c9 => ?_)
        · have hf := pm_it hf ((pm_lg_lt _ _).mp c9)
          refine pm_lload C dX8_quotientWithoutSign_73 rfl ?_
          refine pm_lconst (v := 1) C dX8_quotientWithoutSign_75 (by decide) ?_
          refine pm_ladd C dX8_quotientWithoutSign_76 ?_
          refine pm_goto (tgt := 82) C dX8_quotientWithoutSign_77 (by decide) ?_
          cases hf
          exact pm_lret C X dX8_quotientWithoutSign_82 rfl (Nat.le_refl _) (Nat.le_refl _) q
        · have hf := pm_ie hf ((fun z => c9 ((pm_lg_lt _ _).mpr z)))
          refine pm_lload C dX8_quotientWithoutSign_66 rfl ?_
          refine pm_lload_n C dX8_quotientWithoutSign_68 rfl rfl ?_
          refine pm_lcmp C dX8_quotientWithoutSign_69 ?_
          refine pm_if_lt (tgt := 80) C dX8_quotientWithoutSign_70 (by decide) (fun c10 => ?_) (fun c10 => ?_)
          · have hf := pm_it hf ((pm_lg_lt _ _).mp c10)
            refine pm_lload C dX8_quotientWithoutSign_80 rfl ?_
            cases hf
            exact pm_lret C X dX8_quotientWithoutSign_82 rfl (Nat.le_refl _) (Nat.le_refl _) q
          · have hf := pm_ie hf ((fun z => c10 ((pm_lg_lt _ _).mpr z)))
            refine pm_lload C dX8_quotientWithoutSign_73 rfl ?_
            refine pm_lconst (v := 1) C dX8_quotientWithoutSign_75 (by decide) ?_
            refine pm_ladd C dX8_quotientWithoutSign_76 ?_
            refine pm_goto (tgt := 82) C dX8_quotientWithoutSign_77 (by decide) ?_
            cases hf
            exact pm_lret C X dX8_quotientWithoutSign_82 rfl (Nat.le_refl _) (Nat.le_refl _) q
      · have hf := pm_ie hf ((fun z => c3 ((pm_lg_lt _ _).mpr z)))
        refine pm_lload_n C dX8_quotientWithoutSign_38 rfl rfl ?_
        refine pm_lload_n C dX8_quotientWithoutSign_39 rfl rfl ?_
        obtain ⟨u11, hf⟩ := pm_if hf
        refine pm_ldiv C dX8_quotientWithoutSign_40 u11 ?_
        cases hf
        exact pm_lret C X dX8_quotientWithoutSign_41 rfl (Nat.le_refl _) (Nat.le_refl _) q
    · have hf := pm_ie hf ((fun z => c2 ((pm_lg_ge _ _).mpr z)))
      refine pm_lload_n C dX8_quotientWithoutSign_14 rfl rfl ?_
      refine pm_lconst (v := 0) C dX8_quotientWithoutSign_15 (by decide) ?_
      refine pm_lcmp C dX8_quotientWithoutSign_16 ?_
      refine pm_if_ge (tgt := 30) C dX8_quotientWithoutSign_17 (by decide) (fun c12 => ?_) (fun c12 => ?_)
      · have hf := pm_it hf ((pm_lg_ge _ _).mp c12)
        refine pm_lconst (v := 0) C dX8_quotientWithoutSign_30 (by decide) ?_
        cases hf
        exact pm_lret C X dX8_quotientWithoutSign_31 rfl (Nat.le_refl _) (Nat.le_refl _) q
      · have hf := pm_ie hf ((fun z => c12 ((pm_lg_ge _ _).mpr z)))
        refine pm_lload_n C dX8_quotientWithoutSign_20 rfl rfl ?_
        refine pm_lload_n C dX8_quotientWithoutSign_21 rfl rfl ?_
        refine pm_lcmp C dX8_quotientWithoutSign_22 ?_
        refine pm_if_lt (tgt := 30) C dX8_quotientWithoutSign_23 (by decide) (fun c13 => ?_) (fun c13 => ?_)
        · have hf := pm_it hf ((pm_lg_lt _ _).mp c13)
          refine pm_lconst (v := 0) C dX8_quotientWithoutSign_30 (by decide) ?_
          cases hf
          exact pm_lret C X dX8_quotientWithoutSign_31 rfl (Nat.le_refl _) (Nat.le_refl _) q
        · have hf := pm_ie hf ((fun z => c13 ((pm_lg_lt _ _).mpr z)))
          refine pm_lconst (v := 1) C dX8_quotientWithoutSign_26 (by decide) ?_
          refine pm_goto (tgt := 31) C dX8_quotientWithoutSign_27 (by decide) ?_
          cases hf
          exact pm_lret C X dX8_quotientWithoutSign_31 rfl (Nat.le_refl _) (Nat.le_refl _) q
  · have hf := pm_it hf ((pm_lg_eq _ _).mp c1)
    refine pm_lconst (v := 0) C dX8_quotientWithoutSign_6 (by decide) ?_
    cases hf
    exact pm_lret C X dX8_quotientWithoutSign_7 rfl (Nat.le_refl _) (Nat.le_refl _) q
theorem dX8_sign_0 : decode cX8_sign 0 = .ok (.iload_n 0, 1) := by decide +kernel
theorem dX8_sign_1 : decode cX8_sign 1 = .ok (.iconst 2, 1) := by decide +kernel
theorem dX8_sign_2 : decode cX8_sign 2 = .ok (.if_icmp .ne 9, 3) := by decide +kernel
theorem dX8_sign_5 : decode cX8_sign 5 = .ok (.ldc2_w 115, 3) := by decide +kernel
theorem dX8_sign_8 : decode cX8_sign 8 = .ok (.goto 6, 3) := by decide +kernel
theorem dX8_sign_11 : decode cX8_sign 11 = .ok (.ldc2_w 72, 3) := by decide +kernel
theorem dX8_sign_14 : decode cX8_sign 14 = .ok (.lreturn, 1) := by decide +kernel
def fX8_sign (p1 : Int32) : Int64 := if p1 = 2 then (2147483648) else ((-9223372036854775808))
set_option maxHeartbeats 4000000 in
set_option maxRecDepth 100000 in
theorem ctX8_sign {l : Launch} {G : pm_Gl} {h : pm_H} {p1 : Int32} {r : Int64} {Qr : Option Value → pm_H → Prop} (hf : fX8_sign p1 = r) (q : Qr (some (.long r)) h) : pm_Ct l G mX8_sign [.int p1] h 0 0 Qr := by
  refine pm_body pnX8 (Nat.le_of_ble_eq_true rfl) (fun g C X => ?_)
  have C : pm_C g cX8_sign RX8 := C
  show pm_G g 0 [(0, .int p1)] [] h 0 0
  unfold fX8_sign at hf
  refine pm_iload_n C dX8_sign_0 rfl rfl ?_
  refine pm_iconst (v := 2) C dX8_sign_1 (by decide) ?_
  refine pm_icmp_ne (tgt := 11) C dX8_sign_2 (by decide) (fun c1 => ?_) (fun c1 => ?_)
  · have hf := pm_ie hf c1
    refine pm_ldc2 C dX8_sign_11 cnX8_72 ?_
    subst hf
    exact pm_lret C X dX8_sign_14 rfl (Nat.le_refl _) (Nat.le_refl _) q
  · have hf := pm_it hf c1
    refine pm_ldc2 C dX8_sign_5 cnX8_115 ?_
    refine pm_goto (tgt := 14) C dX8_sign_8 (by decide) ?_
    subst hf
    exact pm_lret C X dX8_sign_14 rfl (Nat.le_refl _) (Nat.le_refl _) q
theorem dX8_whole32_0 : decode cX8_whole32 0 = .ok (.iload_n 1, 1) := by decide +kernel
theorem dX8_whole32_1 : decode cX8_whole32 1 = .ok (.bipush 6, 2) := by decide +kernel
theorem dX8_whole32_3 : decode cX8_whole32 3 = .ok (.if_icmp .lt 17, 3) := by decide +kernel
theorem dX8_whole32_6 : decode cX8_whole32 6 = .ok (.iload_n 1, 1) := by decide +kernel
theorem dX8_whole32_7 : decode cX8_whole32 7 = .ok (.bipush 9, 2) := by decide +kernel
theorem dX8_whole32_9 : decode cX8_whole32 9 = .ok (.if_icmp .gt 11, 3) := by decide +kernel
theorem dX8_whole32_12 : decode cX8_whole32 12 = .ok (.aload_n 0, 1) := by decide +kernel
theorem dX8_whole32_13 : decode cX8_whole32 13 = .ok (.iload_n 1, 1) := by decide +kernel
theorem dX8_whole32_14 : decode cX8_whole32 14 = .ok (.iload_n 2, 1) := by decide +kernel
theorem dX8_whole32_15 : decode cX8_whole32 15 = .ok (.iload_n 3, 1) := by decide +kernel
theorem dX8_whole32_16 : decode cX8_whole32 16 = .ok (.invokevirtual 84, 3) := by decide +kernel
theorem dX8_whole32_19 : decode cX8_whole32 19 = .ok (.lreturn, 1) := by decide +kernel
theorem dX8_whole32_20 : decode cX8_whole32 20 = .ok (.iload_n 1, 1) := by decide +kernel
theorem dX8_whole32_21 : decode cX8_whole32 21 = .ok (.tableswitch 171 0 16 #[83, 89, 95, 101, 106, 111, 171, 171, 171, 171, 116, 121, 126, 131, 139, 147, 155], 83) := by decide +kernel
theorem dX8_whole32_104 : decode cX8_whole32 104 = .ok (.iload_n 2, 1) := by decide +kernel
theorem dX8_whole32_105 : decode cX8_whole32 105 = .ok (.invokestatic 87, 3) := by decide +kernel
theorem dX8_whole32_108 : decode cX8_whole32 108 = .ok (.i2l, 1) := by decide +kernel
theorem dX8_whole32_109 : decode cX8_whole32 109 = .ok (.lreturn, 1) := by decide +kernel
theorem dX8_whole32_110 : decode cX8_whole32 110 = .ok (.iload_n 2, 1) := by decide +kernel
theorem dX8_whole32_111 : decode cX8_whole32 111 = .ok (.invokestatic 92, 3) := by decide +kernel
theorem dX8_whole32_114 : decode cX8_whole32 114 = .ok (.i2l, 1) := by decide +kernel
theorem dX8_whole32_115 : decode cX8_whole32 115 = .ok (.lreturn, 1) := by decide +kernel
theorem dX8_whole32_116 : decode cX8_whole32 116 = .ok (.iload_n 2, 1) := by decide +kernel
theorem dX8_whole32_117 : decode cX8_whole32 117 = .ok (.invokestatic 95, 3) := by decide +kernel
theorem dX8_whole32_120 : decode cX8_whole32 120 = .ok (.i2l, 1) := by decide +kernel
theorem dX8_whole32_121 : decode cX8_whole32 121 = .ok (.lreturn, 1) := by decide +kernel
theorem dX8_whole32_122 : decode cX8_whole32 122 = .ok (.iload_n 2, 1) := by decide +kernel
theorem dX8_whole32_123 : decode cX8_whole32 123 = .ok (.iload_n 3, 1) := by decide +kernel
theorem dX8_whole32_124 : decode cX8_whole32 124 = .ok (.iadd, 1) := by decide +kernel
theorem dX8_whole32_125 : decode cX8_whole32 125 = .ok (.i2l, 1) := by decide +kernel
theorem dX8_whole32_126 : decode cX8_whole32 126 = .ok (.lreturn, 1) := by decide +kernel
theorem dX8_whole32_127 : decode cX8_whole32 127 = .ok (.iload_n 2, 1) := by decide +kernel
theorem dX8_whole32_128 : decode cX8_whole32 128 = .ok (.iload_n 3, 1) := by decide +kernel
theorem dX8_whole32_129 : decode cX8_whole32 129 = .ok (.isub, 1) := by decide +kernel
theorem dX8_whole32_130 : decode cX8_whole32 130 = .ok (.i2l, 1) := by decide +kernel
theorem dX8_whole32_131 : decode cX8_whole32 131 = .ok (.lreturn, 1) := by decide +kernel
theorem dX8_whole32_132 : decode cX8_whole32 132 = .ok (.iload_n 2, 1) := by decide +kernel
theorem dX8_whole32_133 : decode cX8_whole32 133 = .ok (.iload_n 3, 1) := by decide +kernel
theorem dX8_whole32_134 : decode cX8_whole32 134 = .ok (.imul, 1) := by decide +kernel
theorem dX8_whole32_135 : decode cX8_whole32 135 = .ok (.i2l, 1) := by decide +kernel
theorem dX8_whole32_136 : decode cX8_whole32 136 = .ok (.lreturn, 1) := by decide +kernel
theorem dX8_whole32_137 : decode cX8_whole32 137 = .ok (.iload_n 2, 1) := by decide +kernel
theorem dX8_whole32_138 : decode cX8_whole32 138 = .ok (.iload_n 3, 1) := by decide +kernel
theorem dX8_whole32_139 : decode cX8_whole32 139 = .ok (.iand, 1) := by decide +kernel
theorem dX8_whole32_140 : decode cX8_whole32 140 = .ok (.i2l, 1) := by decide +kernel
theorem dX8_whole32_141 : decode cX8_whole32 141 = .ok (.lreturn, 1) := by decide +kernel
theorem dX8_whole32_142 : decode cX8_whole32 142 = .ok (.iload_n 2, 1) := by decide +kernel
theorem dX8_whole32_143 : decode cX8_whole32 143 = .ok (.iload_n 3, 1) := by decide +kernel
theorem dX8_whole32_144 : decode cX8_whole32 144 = .ok (.ior, 1) := by decide +kernel
theorem dX8_whole32_145 : decode cX8_whole32 145 = .ok (.i2l, 1) := by decide +kernel
theorem dX8_whole32_146 : decode cX8_whole32 146 = .ok (.lreturn, 1) := by decide +kernel
theorem dX8_whole32_147 : decode cX8_whole32 147 = .ok (.iload_n 2, 1) := by decide +kernel
theorem dX8_whole32_148 : decode cX8_whole32 148 = .ok (.iload_n 3, 1) := by decide +kernel
theorem dX8_whole32_149 : decode cX8_whole32 149 = .ok (.ixor, 1) := by decide +kernel
theorem dX8_whole32_150 : decode cX8_whole32 150 = .ok (.i2l, 1) := by decide +kernel
theorem dX8_whole32_151 : decode cX8_whole32 151 = .ok (.lreturn, 1) := by decide +kernel
theorem dX8_whole32_152 : decode cX8_whole32 152 = .ok (.iload_n 2, 1) := by decide +kernel
theorem dX8_whole32_153 : decode cX8_whole32 153 = .ok (.iload_n 3, 1) := by decide +kernel
theorem dX8_whole32_154 : decode cX8_whole32 154 = .ok (.bipush 31, 2) := by decide +kernel
theorem dX8_whole32_156 : decode cX8_whole32 156 = .ok (.iand, 1) := by decide +kernel
theorem dX8_whole32_157 : decode cX8_whole32 157 = .ok (.ishl, 1) := by decide +kernel
theorem dX8_whole32_158 : decode cX8_whole32 158 = .ok (.i2l, 1) := by decide +kernel
theorem dX8_whole32_159 : decode cX8_whole32 159 = .ok (.lreturn, 1) := by decide +kernel
theorem dX8_whole32_160 : decode cX8_whole32 160 = .ok (.iload_n 2, 1) := by decide +kernel
theorem dX8_whole32_161 : decode cX8_whole32 161 = .ok (.iload_n 3, 1) := by decide +kernel
theorem dX8_whole32_162 : decode cX8_whole32 162 = .ok (.bipush 31, 2) := by decide +kernel
theorem dX8_whole32_164 : decode cX8_whole32 164 = .ok (.iand, 1) := by decide +kernel
theorem dX8_whole32_165 : decode cX8_whole32 165 = .ok (.ishr, 1) := by decide +kernel
theorem dX8_whole32_166 : decode cX8_whole32 166 = .ok (.i2l, 1) := by decide +kernel
theorem dX8_whole32_167 : decode cX8_whole32 167 = .ok (.lreturn, 1) := by decide +kernel
theorem dX8_whole32_168 : decode cX8_whole32 168 = .ok (.iload_n 2, 1) := by decide +kernel
theorem dX8_whole32_169 : decode cX8_whole32 169 = .ok (.iload_n 3, 1) := by decide +kernel
theorem dX8_whole32_170 : decode cX8_whole32 170 = .ok (.bipush 31, 2) := by decide +kernel
theorem dX8_whole32_172 : decode cX8_whole32 172 = .ok (.iand, 1) := by decide +kernel
theorem dX8_whole32_173 : decode cX8_whole32 173 = .ok (.iushr, 1) := by decide +kernel
theorem dX8_whole32_174 : decode cX8_whole32 174 = .ok (.i2l, 1) := by decide +kernel
theorem dX8_whole32_175 : decode cX8_whole32 175 = .ok (.lreturn, 1) := by decide +kernel
theorem dX8_whole32_176 : decode cX8_whole32 176 = .ok (.iload_n 2, 1) := by decide +kernel
theorem dX8_whole32_177 : decode cX8_whole32 177 = .ok (.iload_n 3, 1) := by decide +kernel
theorem dX8_whole32_178 : decode cX8_whole32 178 = .ok (.bipush 31, 2) := by decide +kernel
theorem dX8_whole32_180 : decode cX8_whole32 180 = .ok (.iand, 1) := by decide +kernel
theorem dX8_whole32_181 : decode cX8_whole32 181 = .ok (.ishl, 1) := by decide +kernel
theorem dX8_whole32_182 : decode cX8_whole32 182 = .ok (.iload_n 2, 1) := by decide +kernel
theorem dX8_whole32_183 : decode cX8_whole32 183 = .ok (.iload_n 3, 1) := by decide +kernel
theorem dX8_whole32_184 : decode cX8_whole32 184 = .ok (.ineg, 1) := by decide +kernel
theorem dX8_whole32_185 : decode cX8_whole32 185 = .ok (.bipush 31, 2) := by decide +kernel
theorem dX8_whole32_187 : decode cX8_whole32 187 = .ok (.iand, 1) := by decide +kernel
theorem dX8_whole32_188 : decode cX8_whole32 188 = .ok (.iushr, 1) := by decide +kernel
theorem dX8_whole32_189 : decode cX8_whole32 189 = .ok (.ior, 1) := by decide +kernel
theorem dX8_whole32_190 : decode cX8_whole32 190 = .ok (.i2l, 1) := by decide +kernel
theorem dX8_whole32_191 : decode cX8_whole32 191 = .ok (.lreturn, 1) := by decide +kernel
theorem dX8_whole32_192 : decode cX8_whole32 192 = .ok (.iload_n 2, 1) := by decide +kernel
theorem dX8_whole32_193 : decode cX8_whole32 193 = .ok (.iload_n 3, 1) := by decide +kernel
theorem dX8_whole32_194 : decode cX8_whole32 194 = .ok (.bipush 31, 2) := by decide +kernel
theorem dX8_whole32_196 : decode cX8_whole32 196 = .ok (.iand, 1) := by decide +kernel
theorem dX8_whole32_197 : decode cX8_whole32 197 = .ok (.iushr, 1) := by decide +kernel
theorem dX8_whole32_198 : decode cX8_whole32 198 = .ok (.iload_n 2, 1) := by decide +kernel
theorem dX8_whole32_199 : decode cX8_whole32 199 = .ok (.iload_n 3, 1) := by decide +kernel
theorem dX8_whole32_200 : decode cX8_whole32 200 = .ok (.ineg, 1) := by decide +kernel
theorem dX8_whole32_201 : decode cX8_whole32 201 = .ok (.bipush 31, 2) := by decide +kernel
theorem dX8_whole32_203 : decode cX8_whole32 203 = .ok (.iand, 1) := by decide +kernel
theorem dX8_whole32_204 : decode cX8_whole32 204 = .ok (.ishl, 1) := by decide +kernel
theorem dX8_whole32_205 : decode cX8_whole32 205 = .ok (.ior, 1) := by decide +kernel
theorem dX8_whole32_206 : decode cX8_whole32 206 = .ok (.i2l, 1) := by decide +kernel
theorem dX8_whole32_207 : decode cX8_whole32 207 = .ok (.lreturn, 1) := by decide +kernel
def fX8_whole32_b20 (h : pm_H) (x1 : Int32) (x2 : Int32) (x3 : Int32) : Option (Int64 × pm_H) := if x1 = 0 then (pm_let (fJ6_numberOfLeadingZeros_0f7a4 x2) fun v7 => some ((v7.toInt64, h))) else (if x1 = 1 then (pm_let (fJ6_numberOfTrailingZeros_0f7a4 x2) fun v10 => some ((v10.toInt64, h))) else (if x1 = 2 then (pm_let (fJ6_bitCount_0f7a4 x2) fun v13 => some ((v13.toInt64, h))) else (if x1 = 3 then (some (((x2 + x3).toInt64, h))) else (if x1 = 4 then (some (((x2 - x3).toInt64, h))) else (if x1 = 5 then (some (((x2 * x3).toInt64, h))) else (if x1 = 6 then (some (((((x2.toUInt32 >>> ((x3 &&& 31).toUInt32 &&& Int32.toUInt32 31)).toInt32) ||| (x2 <<< (((-x3) &&& 31) &&& 31))).toInt64, h))) else (if x1 = 7 then (some (((((x2.toUInt32 >>> ((x3 &&& 31).toUInt32 &&& Int32.toUInt32 31)).toInt32) ||| (x2 <<< (((-x3) &&& 31) &&& 31))).toInt64, h))) else (if x1 = 8 then (some (((((x2.toUInt32 >>> ((x3 &&& 31).toUInt32 &&& Int32.toUInt32 31)).toInt32) ||| (x2 <<< (((-x3) &&& 31) &&& 31))).toInt64, h))) else (if x1 = 9 then (some (((((x2.toUInt32 >>> ((x3 &&& 31).toUInt32 &&& Int32.toUInt32 31)).toInt32) ||| (x2 <<< (((-x3) &&& 31) &&& 31))).toInt64, h))) else (if x1 = 10 then (some (((x2 &&& x3).toInt64, h))) else (if x1 = 11 then (some (((x2 ||| x3).toInt64, h))) else (if x1 = 12 then (some (((x2 ^^^ x3).toInt64, h))) else (if x1 = 13 then (some (((x2 <<< ((x3 &&& 31) &&& 31)).toInt64, h))) else (if x1 = 14 then (some (((x2 >>> ((x3 &&& 31) &&& 31)).toInt64, h))) else (if x1 = 15 then (some ((((x2.toUInt32 >>> ((x3 &&& 31).toUInt32 &&& Int32.toUInt32 31)).toInt32).toInt64, h))) else (if x1 = 16 then (some ((((x2 <<< ((x3 &&& 31) &&& 31)) ||| ((x2.toUInt32 >>> (((-x3) &&& 31).toUInt32 &&& Int32.toUInt32 31)).toInt32)).toInt64, h))) else (some (((((x2.toUInt32 >>> ((x3 &&& 31).toUInt32 &&& Int32.toUInt32 31)).toInt32) ||| (x2 <<< (((-x3) &&& 31) &&& 31))).toInt64, h)))))))))))))))))))
def fX8_whole32 (h : pm_H) (a0 : Nat) (p1 : Int32) (p2 : Int32) (p3 : Int32) : Option (Int64 × pm_H) := if p1 < 6 then (fX8_whole32_b20 h p1 p2 p3) else (if 9 < p1 then (fX8_whole32_b20 h p1 p2 p3) else (if pm_kd h a0 = 8 then (fX8_divide32 h a0 p1 p2 p3).bind fun v4 => some ((v4.1, v4.2)) else none))
set_option maxHeartbeats 4000000 in
set_option maxRecDepth 100000 in
theorem bX8_whole32_20 {g : pm_Gm} {l : Launch} {G : pm_Gl} {Qr : Option Value → pm_H → Prop} (C : pm_C g cX8_whole32 RX8) (X : pm_X g l G mX8_whole32 0 0 Qr) {h : pm_H} {x1 : Int32} {x2 : Int32} {x3 : Int32} {r : (Int64 × pm_H)} (hf : fX8_whole32_b20 h x1 x2 x3 = some r) (q : Qr (some (.long r.1)) r.2) : pm_G g 20 [(1, .int x1), (2, .int x2), (3, .int x3)] [] h 0 0 := by
  unfold fX8_whole32_b20 at hf
  refine pm_iload_n C dX8_whole32_20 rfl rfl ?_
  by_cases c6 : x1 = 0
  · have hf := pm_it hf c6
    refine pm_tableIn (tgt := 104) C dX8_whole32_21 (by rw [c6]; decide) (by rw [c6]; decide) (by rw [c6]; rfl) (by decide) ?_
    refine pm_iload_n C dX8_whole32_104 rfl rfl ?_
    obtain ⟨v7, e8, hf⟩ := pm_lt hf
    refine pm_callS (as := [.int x2]) (st := []) C X dX8_whole32_105 lnX8_87 myJ6_numberOfLeadingZeros_0f7a4 stJ6_numberOfLeadingZeros_0f7a4 ⟨by decide, by decide⟩ rfl rfl (Nat.le_of_ble_eq_true rfl) (Nat.le_refl _) (Nat.le_refl _) (ctJ6_numberOfLeadingZeros_0f7a4 e8 ?_)
    show pm_G g 108 [(1, .int x1), (2, .int x2), (3, .int x3)] [.int v7] h 0 0
    refine pm_i2l C dX8_whole32_108 ?_
    cases hf
    exact pm_lret C X dX8_whole32_109 rfl (Nat.le_refl _) (Nat.le_refl _) q
  have hf := pm_ie hf c6
  by_cases c9 : x1 = 1
  · have hf := pm_it hf c9
    refine pm_tableIn (tgt := 110) C dX8_whole32_21 (by rw [c9]; decide) (by rw [c9]; decide) (by rw [c9]; rfl) (by decide) ?_
    refine pm_iload_n C dX8_whole32_110 rfl rfl ?_
    obtain ⟨v10, e11, hf⟩ := pm_lt hf
    refine pm_callS (as := [.int x2]) (st := []) C X dX8_whole32_111 lnX8_92 myJ6_numberOfTrailingZeros_0f7a4 stJ6_numberOfTrailingZeros_0f7a4 ⟨by decide, by decide⟩ rfl rfl (Nat.le_of_ble_eq_true rfl) (Nat.le_refl _) (Nat.le_refl _) (ctJ6_numberOfTrailingZeros_0f7a4 e11 ?_)
    show pm_G g 114 [(1, .int x1), (2, .int x2), (3, .int x3)] [.int v10] h 0 0
    refine pm_i2l C dX8_whole32_114 ?_
    cases hf
    exact pm_lret C X dX8_whole32_115 rfl (Nat.le_refl _) (Nat.le_refl _) q
  have hf := pm_ie hf c9
  by_cases c12 : x1 = 2
  · have hf := pm_it hf c12
    refine pm_tableIn (tgt := 116) C dX8_whole32_21 (by rw [c12]; decide) (by rw [c12]; decide) (by rw [c12]; rfl) (by decide) ?_
    refine pm_iload_n C dX8_whole32_116 rfl rfl ?_
    obtain ⟨v13, e14, hf⟩ := pm_lt hf
    refine pm_callS (as := [.int x2]) (st := []) C X dX8_whole32_117 lnX8_95 myJ6_bitCount_0f7a4 stJ6_bitCount_0f7a4 ⟨by decide, by decide⟩ rfl rfl (Nat.le_of_ble_eq_true rfl) (Nat.le_refl _) (Nat.le_refl _) (ctJ6_bitCount_0f7a4 e14 ?_)
    show pm_G g 120 [(1, .int x1), (2, .int x2), (3, .int x3)] [.int v13] h 0 0
    refine pm_i2l C dX8_whole32_120 ?_
    cases hf
    exact pm_lret C X dX8_whole32_121 rfl (Nat.le_refl _) (Nat.le_refl _) q
  have hf := pm_ie hf c12
  by_cases c15 : x1 = 3
  · have hf := pm_it hf c15
    refine pm_tableIn (tgt := 122) C dX8_whole32_21 (by rw [c15]; decide) (by rw [c15]; decide) (by rw [c15]; rfl) (by decide) ?_
    refine pm_iload_n C dX8_whole32_122 rfl rfl ?_
    refine pm_iload_n C dX8_whole32_123 rfl rfl ?_
    refine pm_iadd C dX8_whole32_124 ?_
    refine pm_i2l C dX8_whole32_125 ?_
    cases hf
    exact pm_lret C X dX8_whole32_126 rfl (Nat.le_refl _) (Nat.le_refl _) q
  have hf := pm_ie hf c15
  by_cases c16 : x1 = 4
  · have hf := pm_it hf c16
    refine pm_tableIn (tgt := 127) C dX8_whole32_21 (by rw [c16]; decide) (by rw [c16]; decide) (by rw [c16]; rfl) (by decide) ?_
    refine pm_iload_n C dX8_whole32_127 rfl rfl ?_
    refine pm_iload_n C dX8_whole32_128 rfl rfl ?_
    refine pm_isub C dX8_whole32_129 ?_
    refine pm_i2l C dX8_whole32_130 ?_
    cases hf
    exact pm_lret C X dX8_whole32_131 rfl (Nat.le_refl _) (Nat.le_refl _) q
  have hf := pm_ie hf c16
  by_cases c17 : x1 = 5
  · have hf := pm_it hf c17
    refine pm_tableIn (tgt := 132) C dX8_whole32_21 (by rw [c17]; decide) (by rw [c17]; decide) (by rw [c17]; rfl) (by decide) ?_
    refine pm_iload_n C dX8_whole32_132 rfl rfl ?_
    refine pm_iload_n C dX8_whole32_133 rfl rfl ?_
    refine pm_imul C dX8_whole32_134 ?_
    refine pm_i2l C dX8_whole32_135 ?_
    cases hf
    exact pm_lret C X dX8_whole32_136 rfl (Nat.le_refl _) (Nat.le_refl _) q
  have hf := pm_ie hf c17
  by_cases c18 : x1 = 6
  · have hf := pm_it hf c18
    refine pm_tableIn (tgt := 192) C dX8_whole32_21 (by rw [c18]; decide) (by rw [c18]; decide) (by rw [c18]; rfl) (by decide) ?_
    refine pm_iload_n C dX8_whole32_192 rfl rfl ?_
    refine pm_iload_n C dX8_whole32_193 rfl rfl ?_
    refine pm_bipush (v := 31) C dX8_whole32_194 (by decide) ?_
    refine pm_iand C dX8_whole32_196 ?_
    refine pm_iushr C dX8_whole32_197 ?_
    refine pm_iload_n C dX8_whole32_198 rfl rfl ?_
    refine pm_iload_n C dX8_whole32_199 rfl rfl ?_
    refine pm_ineg C dX8_whole32_200 ?_
    refine pm_bipush (v := 31) C dX8_whole32_201 (by decide) ?_
    refine pm_iand C dX8_whole32_203 ?_
    refine pm_ishl C dX8_whole32_204 ?_
    refine pm_ior C dX8_whole32_205 ?_
    refine pm_i2l C dX8_whole32_206 ?_
    cases hf
    exact pm_lret C X dX8_whole32_207 rfl (Nat.le_refl _) (Nat.le_refl _) q
  have hf := pm_ie hf c18
  by_cases c19 : x1 = 7
  · have hf := pm_it hf c19
    refine pm_tableIn (tgt := 192) C dX8_whole32_21 (by rw [c19]; decide) (by rw [c19]; decide) (by rw [c19]; rfl) (by decide) ?_
    refine pm_iload_n C dX8_whole32_192 rfl rfl ?_
    refine pm_iload_n C dX8_whole32_193 rfl rfl ?_
    refine pm_bipush (v := 31) C dX8_whole32_194 (by decide) ?_
    refine pm_iand C dX8_whole32_196 ?_
    refine pm_iushr C dX8_whole32_197 ?_
    refine pm_iload_n C dX8_whole32_198 rfl rfl ?_
    refine pm_iload_n C dX8_whole32_199 rfl rfl ?_
    refine pm_ineg C dX8_whole32_200 ?_
    refine pm_bipush (v := 31) C dX8_whole32_201 (by decide) ?_
    refine pm_iand C dX8_whole32_203 ?_
    refine pm_ishl C dX8_whole32_204 ?_
    refine pm_ior C dX8_whole32_205 ?_
    refine pm_i2l C dX8_whole32_206 ?_
    cases hf
    exact pm_lret C X dX8_whole32_207 rfl (Nat.le_refl _) (Nat.le_refl _) q
  have hf := pm_ie hf c19
  by_cases c20 : x1 = 8
  · have hf := pm_it hf c20
    refine pm_tableIn (tgt := 192) C dX8_whole32_21 (by rw [c20]; decide) (by rw [c20]; decide) (by rw [c20]; rfl) (by decide) ?_
    refine pm_iload_n C dX8_whole32_192 rfl rfl ?_
    refine pm_iload_n C dX8_whole32_193 rfl rfl ?_
    refine pm_bipush (v := 31) C dX8_whole32_194 (by decide) ?_
    refine pm_iand C dX8_whole32_196 ?_
    refine pm_iushr C dX8_whole32_197 ?_
    refine pm_iload_n C dX8_whole32_198 rfl rfl ?_
    refine pm_iload_n C dX8_whole32_199 rfl rfl ?_
    refine pm_ineg C dX8_whole32_200 ?_
    refine pm_bipush (v := 31) C dX8_whole32_201 (by decide) ?_
    refine pm_iand C dX8_whole32_203 ?_
    refine pm_ishl C dX8_whole32_204 ?_
    refine pm_ior C dX8_whole32_205 ?_
    refine pm_i2l C dX8_whole32_206 ?_
    cases hf
    exact pm_lret C X dX8_whole32_207 rfl (Nat.le_refl _) (Nat.le_refl _) q
  have hf := pm_ie hf c20
  by_cases c21 : x1 = 9
  · have hf := pm_it hf c21
    refine pm_tableIn (tgt := 192) C dX8_whole32_21 (by rw [c21]; decide) (by rw [c21]; decide) (by rw [c21]; rfl) (by decide) ?_
    refine pm_iload_n C dX8_whole32_192 rfl rfl ?_
    refine pm_iload_n C dX8_whole32_193 rfl rfl ?_
    refine pm_bipush (v := 31) C dX8_whole32_194 (by decide) ?_
    refine pm_iand C dX8_whole32_196 ?_
    refine pm_iushr C dX8_whole32_197 ?_
    refine pm_iload_n C dX8_whole32_198 rfl rfl ?_
    refine pm_iload_n C dX8_whole32_199 rfl rfl ?_
    refine pm_ineg C dX8_whole32_200 ?_
    refine pm_bipush (v := 31) C dX8_whole32_201 (by decide) ?_
    refine pm_iand C dX8_whole32_203 ?_
    refine pm_ishl C dX8_whole32_204 ?_
    refine pm_ior C dX8_whole32_205 ?_
    refine pm_i2l C dX8_whole32_206 ?_
    cases hf
    exact pm_lret C X dX8_whole32_207 rfl (Nat.le_refl _) (Nat.le_refl _) q
  have hf := pm_ie hf c21
  by_cases c22 : x1 = 10
  · have hf := pm_it hf c22
    refine pm_tableIn (tgt := 137) C dX8_whole32_21 (by rw [c22]; decide) (by rw [c22]; decide) (by rw [c22]; rfl) (by decide) ?_
    refine pm_iload_n C dX8_whole32_137 rfl rfl ?_
    refine pm_iload_n C dX8_whole32_138 rfl rfl ?_
    refine pm_iand C dX8_whole32_139 ?_
    refine pm_i2l C dX8_whole32_140 ?_
    cases hf
    exact pm_lret C X dX8_whole32_141 rfl (Nat.le_refl _) (Nat.le_refl _) q
  have hf := pm_ie hf c22
  by_cases c23 : x1 = 11
  · have hf := pm_it hf c23
    refine pm_tableIn (tgt := 142) C dX8_whole32_21 (by rw [c23]; decide) (by rw [c23]; decide) (by rw [c23]; rfl) (by decide) ?_
    refine pm_iload_n C dX8_whole32_142 rfl rfl ?_
    refine pm_iload_n C dX8_whole32_143 rfl rfl ?_
    refine pm_ior C dX8_whole32_144 ?_
    refine pm_i2l C dX8_whole32_145 ?_
    cases hf
    exact pm_lret C X dX8_whole32_146 rfl (Nat.le_refl _) (Nat.le_refl _) q
  have hf := pm_ie hf c23
  by_cases c24 : x1 = 12
  · have hf := pm_it hf c24
    refine pm_tableIn (tgt := 147) C dX8_whole32_21 (by rw [c24]; decide) (by rw [c24]; decide) (by rw [c24]; rfl) (by decide) ?_
    refine pm_iload_n C dX8_whole32_147 rfl rfl ?_
    refine pm_iload_n C dX8_whole32_148 rfl rfl ?_
    refine pm_ixor C dX8_whole32_149 ?_
    refine pm_i2l C dX8_whole32_150 ?_
    cases hf
    exact pm_lret C X dX8_whole32_151 rfl (Nat.le_refl _) (Nat.le_refl _) q
  have hf := pm_ie hf c24
  by_cases c25 : x1 = 13
  · have hf := pm_it hf c25
    refine pm_tableIn (tgt := 152) C dX8_whole32_21 (by rw [c25]; decide) (by rw [c25]; decide) (by rw [c25]; rfl) (by decide) ?_
    refine pm_iload_n C dX8_whole32_152 rfl rfl ?_
    refine pm_iload_n C dX8_whole32_153 rfl rfl ?_
    refine pm_bipush (v := 31) C dX8_whole32_154 (by decide) ?_
    refine pm_iand C dX8_whole32_156 ?_
    refine pm_ishl C dX8_whole32_157 ?_
    refine pm_i2l C dX8_whole32_158 ?_
    cases hf
    exact pm_lret C X dX8_whole32_159 rfl (Nat.le_refl _) (Nat.le_refl _) q
  have hf := pm_ie hf c25
  by_cases c26 : x1 = 14
  · have hf := pm_it hf c26
    refine pm_tableIn (tgt := 160) C dX8_whole32_21 (by rw [c26]; decide) (by rw [c26]; decide) (by rw [c26]; rfl) (by decide) ?_
    refine pm_iload_n C dX8_whole32_160 rfl rfl ?_
    refine pm_iload_n C dX8_whole32_161 rfl rfl ?_
    refine pm_bipush (v := 31) C dX8_whole32_162 (by decide) ?_
    refine pm_iand C dX8_whole32_164 ?_
    refine pm_ishr C dX8_whole32_165 ?_
    refine pm_i2l C dX8_whole32_166 ?_
    cases hf
    exact pm_lret C X dX8_whole32_167 rfl (Nat.le_refl _) (Nat.le_refl _) q
  have hf := pm_ie hf c26
  by_cases c27 : x1 = 15
  · have hf := pm_it hf c27
    refine pm_tableIn (tgt := 168) C dX8_whole32_21 (by rw [c27]; decide) (by rw [c27]; decide) (by rw [c27]; rfl) (by decide) ?_
    refine pm_iload_n C dX8_whole32_168 rfl rfl ?_
    refine pm_iload_n C dX8_whole32_169 rfl rfl ?_
    refine pm_bipush (v := 31) C dX8_whole32_170 (by decide) ?_
    refine pm_iand C dX8_whole32_172 ?_
    refine pm_iushr C dX8_whole32_173 ?_
    refine pm_i2l C dX8_whole32_174 ?_
    cases hf
    exact pm_lret C X dX8_whole32_175 rfl (Nat.le_refl _) (Nat.le_refl _) q
  have hf := pm_ie hf c27
  by_cases c28 : x1 = 16
  · have hf := pm_it hf c28
    refine pm_tableIn (tgt := 176) C dX8_whole32_21 (by rw [c28]; decide) (by rw [c28]; decide) (by rw [c28]; rfl) (by decide) ?_
    refine pm_iload_n C dX8_whole32_176 rfl rfl ?_
    refine pm_iload_n C dX8_whole32_177 rfl rfl ?_
    refine pm_bipush (v := 31) C dX8_whole32_178 (by decide) ?_
    refine pm_iand C dX8_whole32_180 ?_
    refine pm_ishl C dX8_whole32_181 ?_
    refine pm_iload_n C dX8_whole32_182 rfl rfl ?_
    refine pm_iload_n C dX8_whole32_183 rfl rfl ?_
    refine pm_ineg C dX8_whole32_184 ?_
    refine pm_bipush (v := 31) C dX8_whole32_185 (by decide) ?_
    refine pm_iand C dX8_whole32_187 ?_
    refine pm_iushr C dX8_whole32_188 ?_
    refine pm_ior C dX8_whole32_189 ?_
    refine pm_i2l C dX8_whole32_190 ?_
    cases hf
    exact pm_lret C X dX8_whole32_191 rfl (Nat.le_refl _) (Nat.le_refl _) q
  have hf := pm_ie hf c28
  have nc6 := lv_neT c6 (by decide : (0 : Int32).toInt = 0)
  have nc9 := lv_neT c9 (by decide : (1 : Int32).toInt = 1)
  have nc12 := lv_neT c12 (by decide : (2 : Int32).toInt = 2)
  have nc15 := lv_neT c15 (by decide : (3 : Int32).toInt = 3)
  have nc16 := lv_neT c16 (by decide : (4 : Int32).toInt = 4)
  have nc17 := lv_neT c17 (by decide : (5 : Int32).toInt = 5)
  have nc18 := lv_neT c18 (by decide : (6 : Int32).toInt = 6)
  have nc19 := lv_neT c19 (by decide : (7 : Int32).toInt = 7)
  have nc20 := lv_neT c20 (by decide : (8 : Int32).toInt = 8)
  have nc21 := lv_neT c21 (by decide : (9 : Int32).toInt = 9)
  have nc22 := lv_neT c22 (by decide : (10 : Int32).toInt = 10)
  have nc23 := lv_neT c23 (by decide : (11 : Int32).toInt = 11)
  have nc24 := lv_neT c24 (by decide : (12 : Int32).toInt = 12)
  have nc25 := lv_neT c25 (by decide : (13 : Int32).toInt = 13)
  have nc26 := lv_neT c26 (by decide : (14 : Int32).toInt = 14)
  have nc27 := lv_neT c27 (by decide : (15 : Int32).toInt = 15)
  have nc28 := lv_neT c28 (by decide : (16 : Int32).toInt = 16)
  refine pm_tableOut (tgt := 192) C dX8_whole32_21 (by omega) (by decide) ?_
  refine pm_iload_n C dX8_whole32_192 rfl rfl ?_
  refine pm_iload_n C dX8_whole32_193 rfl rfl ?_
  refine pm_bipush (v := 31) C dX8_whole32_194 (by decide) ?_
  refine pm_iand C dX8_whole32_196 ?_
  refine pm_iushr C dX8_whole32_197 ?_
  refine pm_iload_n C dX8_whole32_198 rfl rfl ?_
  refine pm_iload_n C dX8_whole32_199 rfl rfl ?_
  refine pm_ineg C dX8_whole32_200 ?_
  refine pm_bipush (v := 31) C dX8_whole32_201 (by decide) ?_
  refine pm_iand C dX8_whole32_203 ?_
  refine pm_ishl C dX8_whole32_204 ?_
  refine pm_ior C dX8_whole32_205 ?_
  refine pm_i2l C dX8_whole32_206 ?_
  cases hf
  exact pm_lret C X dX8_whole32_207 rfl (Nat.le_refl _) (Nat.le_refl _) q
set_option maxHeartbeats 4000000 in
set_option maxRecDepth 100000 in
theorem ctX8_whole32 {l : Launch} {G : pm_Gl} {h : pm_H} {a0 : Nat} {p1 : Int32} {p2 : Int32} {p3 : Int32} {r : (Int64 × pm_H)} {Qr : Option Value → pm_H → Prop} (hf : fX8_whole32 h a0 p1 p2 p3 = some r) (q : Qr (some (.long r.1)) r.2) : pm_Ct l G mX8_whole32 [.ref a0, .int p1, .int p2, .int p3] h 0 0 Qr := by
  refine pm_body pnX8 (Nat.le_of_ble_eq_true rfl) (fun g C X => ?_)
  have C : pm_C g cX8_whole32 RX8 := C
  show pm_G g 0 [(0, .ref a0), (1, .int p1), (2, .int p2), (3, .int p3)] [] h 0 0
  unfold fX8_whole32 at hf
  refine pm_iload_n C dX8_whole32_0 rfl rfl ?_
  refine pm_bipush (v := 6) C dX8_whole32_1 (by decide) ?_
  refine pm_icmp_lt (tgt := 20) C dX8_whole32_3 (by decide) (fun c1 => ?_) (fun c1 => ?_)
  · have hf := pm_it hf c1
    exact pm_sub [1, 2, 3] rfl (bX8_whole32_20 C X hf q)
  · have hf := pm_ie hf c1
    refine pm_iload_n C dX8_whole32_6 rfl rfl ?_
    refine pm_bipush (v := 9) C dX8_whole32_7 (by decide) ?_
    refine pm_icmp_gt (tgt := 20) C dX8_whole32_9 (by decide) (fun c2 => ?_) (fun c2 => ?_)
    · have hf := pm_it hf c2
      exact pm_sub [1, 2, 3] rfl (bX8_whole32_20 C X hf q)
    · have hf := pm_ie hf c2
      refine pm_aload_n C dX8_whole32_12 rfl rfl ?_
      refine pm_iload_n C dX8_whole32_13 rfl rfl ?_
      refine pm_iload_n C dX8_whole32_14 rfl rfl ?_
      refine pm_iload_n C dX8_whole32_15 rfl rfl ?_
      obtain ⟨k3, hf⟩ := pm_if hf
      obtain ⟨v4, e5, hf⟩ := pm_bd hf
      refine pm_callV (as := [.int p1, .int p2, .int p3]) (st := []) C X dX8_whole32_16 lnX8_84 myX8_divide32 viX8_divide32 ⟨by decide, by decide⟩ rfl rfl k3 (Nat.le_of_ble_eq_true rfl) (Nat.le_refl _) (Nat.le_refl _) (ctX8_divide32 e5 ?_)
      show pm_G g 19 [(0, .ref a0), (1, .int p1), (2, .int p2), (3, .int p3)] [.long v4.1] v4.2 0 0
      cases hf
      exact pm_lret C X dX8_whole32_19 rfl (Nat.le_refl _) (Nat.le_refl _) q
