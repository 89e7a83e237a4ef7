theorem dX16_hasTwo_0 : decode cX16_hasTwo 0 = .ok (.iload_n 0, 1) := by decide +kernel
theorem dX16_hasTwo_1 : decode cX16_hasTwo 1 = .ok (.bipush 69, 2) := by decide +kernel
theorem dX16_hasTwo_3 : decode cX16_hasTwo 3 = .ok (.if_icmp .le 15, 3) := by decide +kernel
theorem dX16_hasTwo_6 : decode cX16_hasTwo 6 = .ok (.iload_n 0, 1) := by decide +kernel
theorem dX16_hasTwo_7 : decode cX16_hasTwo 7 = .ok (.bipush 103, 2) := by decide +kernel
theorem dX16_hasTwo_9 : decode cX16_hasTwo 9 = .ok (.if_icmp .ge 9, 3) := by decide +kernel
theorem dX16_hasTwo_12 : decode cX16_hasTwo 12 = .ok (.iload_n 0, 1) := by decide +kernel
theorem dX16_hasTwo_13 : decode cX16_hasTwo 13 = .ok (.bipush 80, 2) := by decide +kernel
theorem dX16_hasTwo_15 : decode cX16_hasTwo 15 = .ok (.if_icmp .ne 56, 3) := by decide +kernel
theorem dX16_hasTwo_18 : decode cX16_hasTwo 18 = .ok (.iload_n 0, 1) := by decide +kernel
theorem dX16_hasTwo_19 : decode cX16_hasTwo 19 = .ok (.bipush 105, 2) := by decide +kernel
theorem dX16_hasTwo_21 : decode cX16_hasTwo 21 = .ok (.if_icmp .le 9, 3) := by decide +kernel
theorem dX16_hasTwo_24 : decode cX16_hasTwo 24 = .ok (.iload_n 0, 1) := by decide +kernel
theorem dX16_hasTwo_25 : decode cX16_hasTwo 25 = .ok (.bipush 121, 2) := by decide +kernel
theorem dX16_hasTwo_27 : decode cX16_hasTwo 27 = .ok (.if_icmp .lt 44, 3) := by decide +kernel
theorem dX16_hasTwo_30 : decode cX16_hasTwo 30 = .ok (.iload_n 0, 1) := by decide +kernel
theorem dX16_hasTwo_31 : decode cX16_hasTwo 31 = .ok (.bipush 123, 2) := by decide +kernel
theorem dX16_hasTwo_33 : decode cX16_hasTwo 33 = .ok (.if_icmp .le 10, 3) := by decide +kernel
theorem dX16_hasTwo_36 : decode cX16_hasTwo 36 = .ok (.iload_n 0, 1) := by decide +kernel
theorem dX16_hasTwo_37 : decode cX16_hasTwo 37 = .ok (.sipush 139, 3) := by decide +kernel
theorem dX16_hasTwo_40 : decode cX16_hasTwo 40 = .ok (.if_icmp .lt 31, 3) := by decide +kernel
theorem dX16_hasTwo_43 : decode cX16_hasTwo 43 = .ok (.iload_n 0, 1) := by decide +kernel
theorem dX16_hasTwo_44 : decode cX16_hasTwo 44 = .ok (.sipush 145, 3) := by decide +kernel
theorem dX16_hasTwo_47 : decode cX16_hasTwo 47 = .ok (.if_icmp .le 10, 3) := by decide +kernel
theorem dX16_hasTwo_50 : decode cX16_hasTwo 50 = .ok (.iload_n 0, 1) := by decide +kernel
theorem dX16_hasTwo_51 : decode cX16_hasTwo 51 = .ok (.sipush 153, 3) := by decide +kernel
theorem dX16_hasTwo_54 : decode cX16_hasTwo 54 = .ok (.if_icmp .lt 17, 3) := by decide +kernel
theorem dX16_hasTwo_57 : decode cX16_hasTwo 57 = .ok (.iload_n 0, 1) := by decide +kernel
theorem dX16_hasTwo_58 : decode cX16_hasTwo 58 = .ok (.sipush 159, 3) := by decide +kernel
theorem dX16_hasTwo_61 : decode cX16_hasTwo 61 = .ok (.if_icmp .le 14, 3) := by decide +kernel
theorem dX16_hasTwo_64 : decode cX16_hasTwo 64 = .ok (.iload_n 0, 1) := by decide +kernel
theorem dX16_hasTwo_65 : decode cX16_hasTwo 65 = .ok (.sipush 167, 3) := by decide +kernel
theorem dX16_hasTwo_68 : decode cX16_hasTwo 68 = .ok (.if_icmp .ge 7, 3) := by decide +kernel
theorem dX16_hasTwo_71 : decode cX16_hasTwo 71 = .ok (.iconst 1, 1) := by decide +kernel
theorem dX16_hasTwo_72 : decode cX16_hasTwo 72 = .ok (.goto 4, 3) := by decide +kernel
theorem dX16_hasTwo_75 : decode cX16_hasTwo 75 = .ok (.iconst 0, 1) := by decide +kernel
theorem dX16_hasTwo_76 : decode cX16_hasTwo 76 = .ok (.ireturn, 1) := by decide +kernel
def fX16_hasTwo_b57 (x0 : Int32) : Int32 := if x0 ≤ 159 then (0) else (if 167 ≤ x0 then (0) else (1))
def fX16_hasTwo_b43 (x0 : Int32) : Int32 := if x0 ≤ 145 then (fX16_hasTwo_b57 x0) else (if x0 < 153 then (1) else (fX16_hasTwo_b57 x0))
def fX16_hasTwo_b30 (x0 : Int32) : Int32 := if x0 ≤ 123 then (fX16_hasTwo_b43 x0) else (if x0 < 139 then (1) else (fX16_hasTwo_b43 x0))
def fX16_hasTwo_b18 (x0 : Int32) : Int32 := if x0 ≤ 105 then (fX16_hasTwo_b30 x0) else (if x0 < 121 then (1) else (fX16_hasTwo_b30 x0))
def fX16_hasTwo (p1 : Int32) : Int32 := if p1 ≤ 69 then (fX16_hasTwo_b18 p1) else (if 103 ≤ p1 then (fX16_hasTwo_b18 p1) else (if p1 = 80 then (fX16_hasTwo_b18 p1) else (1)))
set_option maxHeartbeats 4000000 in
set_option maxRecDepth 100000 in
theorem bX16_hasTwo_57 {g : pm_Gm} {l : Launch} {G : pm_Gl} {Qr : Option Value → pm_H → Prop} (C : pm_C g cX16_hasTwo RX16) (X : pm_X g l G mX16_hasTwo 0 0 Qr) {h : pm_H} {x0 : Int32} {r : Int32} (hf : fX16_hasTwo_b57 x0 = r) (q : Qr (some (.int r)) h) : pm_G g 57 [(0, .int x0)] [] h 0 0 := by
  unfold fX16_hasTwo_b57 at hf
  refine pm_iload_n C dX16_hasTwo_57 rfl rfl ?_
  refine pm_sipush (v := 159) C dX16_hasTwo_58 (by decide) ?_
  refine pm_icmp_le (tgt := 75) C dX16_hasTwo_61 (by decide) (fun c10 => ?_) (fun c10 => ?_)
  · have hf := pm_it hf c10
    refine pm_iconst (v := 0) C dX16_hasTwo_75 (by decide) ?_
    subst hf
    exact pm_zret C X dX16_hasTwo_76 rfl (by decide) (Nat.le_refl _) (Nat.le_refl _) q
  · have hf := pm_ie hf c10
    refine pm_iload_n C dX16_hasTwo_64 rfl rfl ?_
    refine pm_sipush (v := 167) C dX16_hasTwo_65 (by decide) ?_
    refine pm_icmp_ge (tgt := 75) C dX16_hasTwo_68 (by decide) (fun c11 => ?_) (fun c11 => ?_)
    · have hf := pm_it hf c11
      refine pm_iconst (v := 0) C dX16_hasTwo_75 (by decide) ?_
      subst hf
      exact pm_zret C X dX16_hasTwo_76 rfl (by decide) (Nat.le_refl _) (Nat.le_refl _) q
    · have hf := pm_ie hf c11
      refine pm_iconst (v := 1) C dX16_hasTwo_71 (by decide) ?_
      refine pm_goto (tgt := 76) C dX16_hasTwo_72 (by decide) ?_
      subst hf
      exact pm_zret C X dX16_hasTwo_76 rfl (by decide) (Nat.le_refl _) (Nat.le_refl _) q
set_option maxHeartbeats 4000000 in
set_option maxRecDepth 100000 in
theorem bX16_hasTwo_43 {g : pm_Gm} {l : Launch} {G : pm_Gl} {Qr : Option Value → pm_H → Prop} (C : pm_C g cX16_hasTwo RX16) (X : pm_X g l G mX16_hasTwo 0 0 Qr) {h : pm_H} {x0 : Int32} {r : Int32} (hf : fX16_hasTwo_b43 x0 = r) (q : Qr (some (.int r)) h) : pm_G g 43 [(0, .int x0)] [] h 0 0 := by
  unfold fX16_hasTwo_b43 at hf
  refine pm_iload_n C dX16_hasTwo_43 rfl rfl ?_
  refine pm_sipush (v := 145) C dX16_hasTwo_44 (by decide) ?_
  refine pm_icmp_le (tgt := 57) C dX16_hasTwo_47 (by decide) (fun c8 => ?_) (fun c8 => ?_)
  · have hf := pm_it hf c8
    exact pm_sub [0] rfl (bX16_hasTwo_57 C X hf q)
  · have hf := pm_ie hf c8
    refine pm_iload_n C dX16_hasTwo_50 rfl rfl ?_
    refine pm_sipush (v := 153) C dX16_hasTwo_51 (by decide) ?_
    refine pm_icmp_lt (tgt := 71) C dX16_hasTwo_54 (by decide) (fun c9 => ?_) (fun c9 => ?_)
    · have hf := pm_it hf c9
      refine pm_iconst (v := 1) C dX16_hasTwo_71 (by decide) ?_
      refine pm_goto (tgt := 76) C dX16_hasTwo_72 (by decide) ?_
      subst hf
      exact pm_zret C X dX16_hasTwo_76 rfl (by decide) (Nat.le_refl _) (Nat.le_refl _) q
    · have hf := pm_ie hf c9
      exact pm_sub [0] rfl (bX16_hasTwo_57 C X hf q)
set_option maxHeartbeats 4000000 in
set_option maxRecDepth 100000 in
theorem bX16_hasTwo_30 {g : pm_Gm} {l : Launch} {G : pm_Gl} {Qr : Option Value → pm_H → Prop} (C : pm_C g cX16_hasTwo RX16) (X : pm_X g l G mX16_hasTwo 0 0 Qr) {h : pm_H} {x0 : Int32} {r : Int32} (hf : fX16_hasTwo_b30 x0 = r) (q : Qr (some (.int r)) h) : pm_G g 30 [(0, .int x0)] [] h 0 0 := by
  unfold fX16_hasTwo_b30 at hf
  refine pm_iload_n C dX16_hasTwo_30 rfl rfl ?_
  refine pm_bipush (v := 123) C dX16_hasTwo_31 (by decide) ?_
  refine pm_icmp_le (tgt := 43) C dX16_hasTwo_33 (by decide) (fun c6 => ?_) (fun c6 => ?_)
  · have hf := pm_it hf c6
    exact pm_sub [0] rfl (bX16_hasTwo_43 C X hf q)
  · have hf := pm_ie hf c6
    refine pm_iload_n C dX16_hasTwo_36 rfl rfl ?_
    refine pm_sipush (v := 139) C dX16_hasTwo_37 (by decide) ?_
    refine pm_icmp_lt (tgt := 71) C dX16_hasTwo_40 (by decide) (fun c7 => ?_) (fun c7 => ?_)
    · have hf := pm_it hf c7
      refine pm_iconst (v := 1) C dX16_hasTwo_71 (by decide) ?_
      refine pm_goto (tgt := 76) C dX16_hasTwo_72 (by decide) ?_
      subst hf
      exact pm_zret C X dX16_hasTwo_76 rfl (by decide) (Nat.le_refl _) (Nat.le_refl _) q
    · have hf := pm_ie hf c7
      exact pm_sub [0] rfl (bX16_hasTwo_43 C X hf q)
set_option maxHeartbeats 4000000 in
set_option maxRecDepth 100000 in
theorem bX16_hasTwo_18 {g : pm_Gm} {l : Launch} {G : pm_Gl} {Qr : Option Value → pm_H → Prop} (C : pm_C g cX16_hasTwo RX16) (X : pm_X g l G mX16_hasTwo 0 0 Qr) {h : pm_H} {x0 : Int32} {r : Int32} (hf : fX16_hasTwo_b18 x0 = r) (q : Qr (some (.int r)) h) : pm_G g 18 [(0, .int x0)] [] h 0 0 := by
  unfold fX16_hasTwo_b18 at hf
  refine pm_iload_n C dX16_hasTwo_18 rfl rfl ?_
  refine pm_bipush (v := 105) C dX16_hasTwo_19 (by decide) ?_
  refine pm_icmp_le (tgt := 30) C dX16_hasTwo_21 (by decide) (fun c4 => ?_) (fun c4 => ?_)
  · have hf := pm_it hf c4
    exact pm_sub [0] rfl (bX16_hasTwo_30 C X hf q)
  · have hf := pm_ie hf c4
    refine pm_iload_n C dX16_hasTwo_24 rfl rfl ?_
    refine pm_bipush (v := 121) C dX16_hasTwo_25 (by decide) ?_
    refine pm_icmp_lt (tgt := 71) C dX16_hasTwo_27 (by decide) (fun c5 => ?_) (fun c5 => ?_)
    · have hf := pm_it hf c5
      refine pm_iconst (v := 1) C dX16_hasTwo_71 (by decide) ?_
      refine pm_goto (tgt := 76) C dX16_hasTwo_72 (by decide) ?_
      subst hf
      exact pm_zret C X dX16_hasTwo_76 rfl (by decide) (Nat.le_refl _) (Nat.le_refl _) q
    · have hf := pm_ie hf c5
      exact pm_sub [0] rfl (bX16_hasTwo_30 C X hf q)
set_option maxHeartbeats 4000000 in
set_option maxRecDepth 100000 in
theorem ctX16_hasTwo {l : Launch} {G : pm_Gl} {h : pm_H} {p1 : Int32} {r : Int32} {Qr : Option Value → pm_H → Prop} (hf : fX16_hasTwo p1 = r) (q : Qr (some (.int r)) h) : pm_Ct l G mX16_hasTwo [.int p1] h 0 0 Qr := by
  refine pm_body pnX16 (Nat.le_of_ble_eq_true rfl) (fun g C X => ?_)
  have C : pm_C g cX16_hasTwo RX16 := C
  show pm_G g 0 [(0, .int p1)] [] h 0 0
  unfold fX16_hasTwo at hf
  refine pm_iload_n C dX16_hasTwo_0 rfl rfl ?_
  refine pm_bipush (v := 69) C dX16_hasTwo_1 (by decide) ?_
  refine pm_icmp_le (tgt := 18) C dX16_hasTwo_3 (by decide) (fun c1 => ?_) (fun c1 => ?_)
  · have hf := pm_it hf c1
    exact pm_sub [0] rfl (bX16_hasTwo_18 C X hf q)
  · have hf := pm_ie hf c1
    refine pm_iload_n C dX16_hasTwo_6 rfl rfl ?_
    refine pm_bipush (v := 103) C dX16_hasTwo_7 (by decide) ?_
    refine pm_icmp_ge (tgt := 18) C dX16_hasTwo_9 (by decide) (fun c2 => ?_) (fun c2 => ?_)
    · have hf := pm_it hf c2
      exact pm_sub [0] rfl (bX16_hasTwo_18 C X hf q)
    · have hf := pm_ie hf c2
      refine pm_iload_n C dX16_hasTwo_12 rfl rfl ?_
      refine pm_bipush (v := 80) C dX16_hasTwo_13 (by decide) ?_
      refine pm_icmp_ne (tgt := 71) C dX16_hasTwo_15 (by decide) (fun c3 => ?_) (fun c3 => ?_)
      · have hf := pm_ie hf c3
        refine pm_iconst (v := 1) C dX16_hasTwo_71 (by decide) ?_
        refine pm_goto (tgt := 76) C dX16_hasTwo_72 (by decide) ?_
        subst hf
        exact pm_zret C X dX16_hasTwo_76 rfl (by decide) (Nat.le_refl _) (Nat.le_refl _) q
      · have hf := pm_it hf c3
        exact pm_sub [0] rfl (bX16_hasTwo_18 C X hf q)
theorem dX16_haveSameRows_0 : decode cX16_haveSameRows 0 = .ok (.aload_n 0, 1) := by decide +kernel
theorem dX16_haveSameRows_1 : decode cX16_haveSameRows 1 = .ok (.getfield 16, 3) := by decide +kernel
theorem dX16_haveSameRows_4 : decode cX16_haveSameRows 4 = .ok (.iload_n 1, 1) := by decide +kernel
theorem dX16_haveSameRows_5 : decode cX16_haveSameRows 5 = .ok (.aaload, 1) := by decide +kernel
theorem dX16_haveSameRows_6 : decode cX16_haveSameRows 6 = .ok (.astore 5, 2) := by decide +kernel
theorem dX16_haveSameRows_8 : decode cX16_haveSameRows 8 = .ok (.aload_n 0, 1) := by decide +kernel
theorem dX16_haveSameRows_9 : decode cX16_haveSameRows 9 = .ok (.getfield 16, 3) := by decide +kernel
theorem dX16_haveSameRows_12 : decode cX16_haveSameRows 12 = .ok (.iload_n 3, 1) := by decide +kernel
theorem dX16_haveSameRows_13 : decode cX16_haveSameRows 13 = .ok (.aaload, 1) := by decide +kernel
theorem dX16_haveSameRows_14 : decode cX16_haveSameRows 14 = .ok (.astore 6, 2) := by decide +kernel
theorem dX16_haveSameRows_16 : decode cX16_haveSameRows 16 = .ok (.aload 5, 2) := by decide +kernel
theorem dX16_haveSameRows_18 : decode cX16_haveSameRows 18 = .ok (.getfield 387, 3) := by decide +kernel
theorem dX16_haveSameRows_21 : decode cX16_haveSameRows 21 = .ok (.iload_n 2, 1) := by decide +kernel
theorem dX16_haveSameRows_22 : decode cX16_haveSameRows 22 = .ok (.iaload, 1) := by decide +kernel
theorem dX16_haveSameRows_23 : decode cX16_haveSameRows 23 = .ok (.aload 6, 2) := by decide +kernel
theorem dX16_haveSameRows_25 : decode cX16_haveSameRows 25 = .ok (.getfield 387, 3) := by decide +kernel
theorem dX16_haveSameRows_28 : decode cX16_haveSameRows 28 = .ok (.iload 4, 2) := by decide +kernel
theorem dX16_haveSameRows_30 : decode cX16_haveSameRows 30 = .ok (.iaload, 1) := by decide +kernel
theorem dX16_haveSameRows_31 : decode cX16_haveSameRows 31 = .ok (.if_icmp .ne 25, 3) := by decide +kernel
theorem dX16_haveSameRows_34 : decode cX16_haveSameRows 34 = .ok (.aload 5, 2) := by decide +kernel
theorem dX16_haveSameRows_36 : decode cX16_haveSameRows 36 = .ok (.getfield 390, 3) := by decide +kernel
theorem dX16_haveSameRows_39 : decode cX16_haveSameRows 39 = .ok (.iload_n 2, 1) := by decide +kernel
theorem dX16_haveSameRows_40 : decode cX16_haveSameRows 40 = .ok (.iaload, 1) := by decide +kernel
theorem dX16_haveSameRows_41 : decode cX16_haveSameRows 41 = .ok (.aload 6, 2) := by decide +kernel
theorem dX16_haveSameRows_43 : decode cX16_haveSameRows 43 = .ok (.getfield 390, 3) := by decide +kernel
theorem dX16_haveSameRows_46 : decode cX16_haveSameRows 46 = .ok (.iload 4, 2) := by decide +kernel
theorem dX16_haveSameRows_48 : decode cX16_haveSameRows 48 = .ok (.iaload, 1) := by decide +kernel
theorem dX16_haveSameRows_49 : decode cX16_haveSameRows 49 = .ok (.if_icmp .ne 7, 3) := by decide +kernel
theorem dX16_haveSameRows_52 : decode cX16_haveSameRows 52 = .ok (.iconst 1, 1) := by decide +kernel
theorem dX16_haveSameRows_53 : decode cX16_haveSameRows 53 = .ok (.goto 4, 3) := by decide +kernel
theorem dX16_haveSameRows_56 : decode cX16_haveSameRows 56 = .ok (.iconst 0, 1) := by decide +kernel
theorem dX16_haveSameRows_57 : decode cX16_haveSameRows 57 = .ok (.istore 7, 2) := by decide +kernel
theorem dX16_haveSameRows_59 : decode cX16_haveSameRows 59 = .ok (.iconst 0, 1) := by decide +kernel
theorem dX16_haveSameRows_60 : decode cX16_haveSameRows 60 = .ok (.istore 8, 2) := by decide +kernel
theorem dX16_haveSameRows_62 : decode cX16_haveSameRows 62 = .ok (.iload 8, 2) := by decide +kernel
theorem dX16_haveSameRows_64 : decode cX16_haveSameRows 64 = .ok (.aload 5, 2) := by decide +kernel
theorem dX16_haveSameRows_66 : decode cX16_haveSameRows 66 = .ok (.getfield 387, 3) := by decide +kernel
theorem dX16_haveSameRows_69 : decode cX16_haveSameRows 69 = .ok (.iload_n 2, 1) := by decide +kernel
theorem dX16_haveSameRows_70 : decode cX16_haveSameRows 70 = .ok (.iaload, 1) := by decide +kernel
theorem dX16_haveSameRows_71 : decode cX16_haveSameRows 71 = .ok (.if_icmp .ge 51, 3) := by decide +kernel
theorem dX16_haveSameRows_74 : decode cX16_haveSameRows 74 = .ok (.iload 7, 2) := by decide +kernel
theorem dX16_haveSameRows_76 : decode cX16_haveSameRows 76 = .ok (.ifCond .eq 46, 3) := by decide +kernel
theorem dX16_haveSameRows_79 : decode cX16_haveSameRows 79 = .ok (.aload 5, 2) := by decide +kernel
theorem dX16_haveSameRows_81 : decode cX16_haveSameRows 81 = .ok (.getfield 374, 3) := by decide +kernel
theorem dX16_haveSameRows_84 : decode cX16_haveSameRows 84 = .ok (.bipush 32, 2) := by decide +kernel
theorem dX16_haveSameRows_86 : decode cX16_haveSameRows 86 = .ok (.iload_n 2, 1) := by decide +kernel
theorem dX16_haveSameRows_87 : decode cX16_haveSameRows 87 = .ok (.imul, 1) := by decide +kernel
theorem dX16_haveSameRows_88 : decode cX16_haveSameRows 88 = .ok (.iload 8, 2) := by decide +kernel
theorem dX16_haveSameRows_90 : decode cX16_haveSameRows 90 = .ok (.iadd, 1) := by decide +kernel
theorem dX16_haveSameRows_91 : decode cX16_haveSameRows 91 = .ok (.iaload, 1) := by decide +kernel
theorem dX16_haveSameRows_92 : decode cX16_haveSameRows 92 = .ok (.aload 6, 2) := by decide +kernel
theorem dX16_haveSameRows_94 : decode cX16_haveSameRows 94 = .ok (.getfield 374, 3) := by decide +kernel
theorem dX16_haveSameRows_97 : decode cX16_haveSameRows 97 = .ok (.bipush 32, 2) := by decide +kernel
theorem dX16_haveSameRows_99 : decode cX16_haveSameRows 99 = .ok (.iload 4, 2) := by decide +kernel
theorem dX16_haveSameRows_101 : decode cX16_haveSameRows 101 = .ok (.imul, 1) := by decide +kernel
theorem dX16_haveSameRows_102 : decode cX16_haveSameRows 102 = .ok (.iload 8, 2) := by decide +kernel
theorem dX16_haveSameRows_104 : decode cX16_haveSameRows 104 = .ok (.iadd, 1) := by decide +kernel
theorem dX16_haveSameRows_105 : decode cX16_haveSameRows 105 = .ok (.iaload, 1) := by decide +kernel
theorem dX16_haveSameRows_106 : decode cX16_haveSameRows 106 = .ok (.if_icmp .ne 7, 3) := by decide +kernel
theorem dX16_haveSameRows_109 : decode cX16_haveSameRows 109 = .ok (.iconst 1, 1) := by decide +kernel
theorem dX16_haveSameRows_110 : decode cX16_haveSameRows 110 = .ok (.goto 4, 3) := by decide +kernel
theorem dX16_haveSameRows_113 : decode cX16_haveSameRows 113 = .ok (.iconst 0, 1) := by decide +kernel
theorem dX16_haveSameRows_114 : decode cX16_haveSameRows 114 = .ok (.istore 7, 2) := by decide +kernel
theorem dX16_haveSameRows_116 : decode cX16_haveSameRows 116 = .ok (.iinc 8 1, 3) := by decide +kernel
theorem dX16_haveSameRows_119 : decode cX16_haveSameRows 119 = .ok (.goto (-57), 3) := by decide +kernel
theorem dX16_haveSameRows_122 : decode cX16_haveSameRows 122 = .ok (.iconst 0, 1) := by decide +kernel
theorem dX16_haveSameRows_123 : decode cX16_haveSameRows 123 = .ok (.istore 8, 2) := by decide +kernel
theorem dX16_haveSameRows_125 : decode cX16_haveSameRows 125 = .ok (.iload 8, 2) := by decide +kernel
theorem dX16_haveSameRows_127 : decode cX16_haveSameRows 127 = .ok (.aload 5, 2) := by decide +kernel
theorem dX16_haveSameRows_129 : decode cX16_haveSameRows 129 = .ok (.getfield 390, 3) := by decide +kernel
theorem dX16_haveSameRows_132 : decode cX16_haveSameRows 132 = .ok (.iload_n 2, 1) := by decide +kernel
theorem dX16_haveSameRows_133 : decode cX16_haveSameRows 133 = .ok (.iaload, 1) := by decide +kernel
theorem dX16_haveSameRows_134 : decode cX16_haveSameRows 134 = .ok (.if_icmp .ge 57, 3) := by decide +kernel
theorem dX16_haveSameRows_137 : decode cX16_haveSameRows 137 = .ok (.iload 7, 2) := by decide +kernel
theorem dX16_haveSameRows_139 : decode cX16_haveSameRows 139 = .ok (.ifCond .eq 52, 3) := by decide +kernel
theorem dX16_haveSameRows_142 : decode cX16_haveSameRows 142 = .ok (.aload 5, 2) := by decide +kernel
theorem dX16_haveSameRows_144 : decode cX16_haveSameRows 144 = .ok (.getfield 374, 3) := by decide +kernel
theorem dX16_haveSameRows_147 : decode cX16_haveSameRows 147 = .ok (.bipush 32, 2) := by decide +kernel
theorem dX16_haveSameRows_149 : decode cX16_haveSameRows 149 = .ok (.iload_n 2, 1) := by decide +kernel
theorem dX16_haveSameRows_150 : decode cX16_haveSameRows 150 = .ok (.imul, 1) := by decide +kernel
theorem dX16_haveSameRows_151 : decode cX16_haveSameRows 151 = .ok (.bipush 16, 2) := by decide +kernel
theorem dX16_haveSameRows_153 : decode cX16_haveSameRows 153 = .ok (.iadd, 1) := by decide +kernel
theorem dX16_haveSameRows_154 : decode cX16_haveSameRows 154 = .ok (.iload 8, 2) := by decide +kernel
theorem dX16_haveSameRows_156 : decode cX16_haveSameRows 156 = .ok (.iadd, 1) := by decide +kernel
theorem dX16_haveSameRows_157 : decode cX16_haveSameRows 157 = .ok (.iaload, 1) := by decide +kernel
theorem dX16_haveSameRows_158 : decode cX16_haveSameRows 158 = .ok (.aload 6, 2) := by decide +kernel
theorem dX16_haveSameRows_160 : decode cX16_haveSameRows 160 = .ok (.getfield 374, 3) := by decide +kernel
theorem dX16_haveSameRows_163 : decode cX16_haveSameRows 163 = .ok (.bipush 32, 2) := by decide +kernel
theorem dX16_haveSameRows_165 : decode cX16_haveSameRows 165 = .ok (.iload 4, 2) := by decide +kernel
theorem dX16_haveSameRows_167 : decode cX16_haveSameRows 167 = .ok (.imul, 1) := by decide +kernel
theorem dX16_haveSameRows_168 : decode cX16_haveSameRows 168 = .ok (.bipush 16, 2) := by decide +kernel
theorem dX16_haveSameRows_170 : decode cX16_haveSameRows 170 = .ok (.iadd, 1) := by decide +kernel
theorem dX16_haveSameRows_171 : decode cX16_haveSameRows 171 = .ok (.iload 8, 2) := by decide +kernel
theorem dX16_haveSameRows_173 : decode cX16_haveSameRows 173 = .ok (.iadd, 1) := by decide +kernel
theorem dX16_haveSameRows_174 : decode cX16_haveSameRows 174 = .ok (.iaload, 1) := by decide +kernel
theorem dX16_haveSameRows_175 : decode cX16_haveSameRows 175 = .ok (.if_icmp .ne 7, 3) := by decide +kernel
theorem dX16_haveSameRows_178 : decode cX16_haveSameRows 178 = .ok (.iconst 1, 1) := by decide +kernel
theorem dX16_haveSameRows_179 : decode cX16_haveSameRows 179 = .ok (.goto 4, 3) := by decide +kernel
theorem dX16_haveSameRows_182 : decode cX16_haveSameRows 182 = .ok (.iconst 0, 1) := by decide +kernel
theorem dX16_haveSameRows_183 : decode cX16_haveSameRows 183 = .ok (.istore 7, 2) := by decide +kernel
theorem dX16_haveSameRows_185 : decode cX16_haveSameRows 185 = .ok (.iinc 8 1, 3) := by decide +kernel
theorem dX16_haveSameRows_188 : decode cX16_haveSameRows 188 = .ok (.goto (-63), 3) := by decide +kernel
theorem dX16_haveSameRows_191 : decode cX16_haveSameRows 191 = .ok (.iload 7, 2) := by decide +kernel
theorem dX16_haveSameRows_193 : decode cX16_haveSameRows 193 = .ok (.ireturn, 1) := by decide +kernel
def tX16_haveSameRows_62 (h : pm_H) (x2 : Int32) (x4 : Int32) (x5 : Nat) (x6 : Nat) (x7 : Int32) (x8 : Int32) : Option (((Int32 × Int32 × Nat × Nat × Int32 × Int32) ⊕ (Int32 × Int32 × Nat × Nat × Int32 × Int32)) ⊕ Int32) := if pm_kd h x5 = 14 then (pm_R h x5 5).bind fun v32 => if pm_kd h v32 = 34 then if pm_in x2 (pm_ln h v32) then if (pm_I h v32 x2.toNatClampNeg) ≤ x8 then (some (.inl (.inr ((x2, x4, x5, x6, x7, 0))))) else (if x7 = 0 then (some (.inl (.inr ((x2, x4, x5, x6, x7, 0))))) else ((pm_R h x5 7).bind fun v38 => pm_let ((32 * x2) + x8) fun y40 => if pm_kd h v38 = 34 then if pm_in y40 (pm_ln h v38) then if pm_kd h x6 = 14 then (pm_R h x6 7).bind fun v45 => pm_let ((32 * x4) + x8) fun y47 => if pm_kd h v45 = 34 then if pm_in y47 (pm_ln h v45) then if (pm_I h v38 y40.toNatClampNeg) = (pm_I h v45 y47.toNatClampNeg) then (pm_let (x8 + 1) fun y54 => some (.inl (.inl ((x2, x4, x5, x6, 1, y54))))) else (pm_let (x8 + 1) fun y52 => some (.inl (.inl ((x2, x4, x5, x6, 0, y52))))) else none else none else none else none else none)) else none else none else none
def tX16_haveSameRows_125 (h : pm_H) (x2 : Int32) (x4 : Int32) (x5 : Nat) (x6 : Nat) (x7 : Int32) (x8 : Int32) : Option (((Int32 × Int32 × Nat × Nat × Int32 × Int32) ⊕ (Int32 × Int32 × Nat × Nat × Int32 × Int32)) ⊕ Int32) := if pm_kd h x5 = 14 then (pm_R h x5 6).bind fun v57 => if pm_kd h v57 = 34 then if pm_in x2 (pm_ln h v57) then if (pm_I h v57 x2.toNatClampNeg) ≤ x8 then (if x7 = 0 ∨ x7 = 1 then some (.inr (x7)) else none) else (if x7 = 0 then (if x7 = 0 ∨ x7 = 1 then some (.inr (x7)) else none) else ((pm_R h x5 7).bind fun v65 => pm_let (((32 * x2) + 16) + x8) fun y67 => if pm_kd h v65 = 34 then if pm_in y67 (pm_ln h v65) then if pm_kd h x6 = 14 then (pm_R h x6 7).bind fun v72 => pm_let (((32 * x4) + 16) + x8) fun y74 => if pm_kd h v72 = 34 then if pm_in y74 (pm_ln h v72) then if (pm_I h v65 y67.toNatClampNeg) = (pm_I h v72 y74.toNatClampNeg) then (pm_let (x8 + 1) fun y81 => some (.inl (.inr ((x2, x4, x5, x6, 1, y81))))) else (pm_let (x8 + 1) fun y79 => some (.inl (.inr ((x2, x4, x5, x6, 0, y79))))) else none else none else none else none else none)) else none else none else none
def sX16_haveSameRows (h : pm_H) : ((Int32 × Int32 × Nat × Nat × Int32 × Int32) ⊕ (Int32 × Int32 × Nat × Nat × Int32 × Int32)) → Option (((Int32 × Int32 × Nat × Nat × Int32 × Int32) ⊕ (Int32 × Int32 × Nat × Nat × Int32 × Int32)) ⊕ Int32) := fun z => match z with
  | .inl (x2, x4, x5, x6, x7, x8) => tX16_haveSameRows_62 h x2 x4 x5 x6 x7 x8
  | .inr (x2, x4, x5, x6, x7, x8) => tX16_haveSameRows_125 h x2 x4 x5 x6 x7 x8
noncomputable def fX16_haveSameRows (h : pm_H) (a0 : Nat) (p1 : Int32) (p2 : Int32) (p3 : Int32) (p4 : Int32) : Option Int32 := if pm_kd h a0 = 16 then (pm_R h a0 4).bind fun v2 => if pm_kd h v2 = 42 then if pm_in p1 (pm_ln h v2) then (pm_R h v2 p1.toNatClampNeg).bind fun v6 => if pm_in p3 (pm_ln h v2) then (pm_R h v2 p3.toNatClampNeg).bind fun v9 => if pm_kd h v6 = 14 then (pm_R h v6 5).bind fun v12 => if pm_kd h v12 = 34 then if pm_in p2 (pm_ln h v12) then if pm_kd h v9 = 14 then (pm_R h v9 5).bind fun v17 => if pm_kd h v17 = 34 then if pm_in p4 (pm_ln h v17) then if (pm_I h v12 p2.toNatClampNeg) = (pm_I h v17 p4.toNatClampNeg) then ((pm_R h v6 6).bind fun v22 => if pm_kd h v22 = 34 then if pm_in p2 (pm_ln h v22) then (pm_R h v9 6).bind fun v26 => if pm_kd h v26 = 34 then if pm_in p4 (pm_ln h v26) then if (pm_I h v22 p2.toNatClampNeg) = (pm_I h v26 p4.toNatClampNeg) then (pm_lim (sX16_haveSameRows h) (.inl ((p2, p4, v6, v9, 1, 0)))) else (pm_lim (sX16_haveSameRows h) (.inl ((p2, p4, v6, v9, 0, 0)))) else none else none else none else none) else (pm_lim (sX16_haveSameRows h) (.inl ((p2, p4, v6, v9, 0, 0)))) else none else none else none else none else none else none else none else none else none else none
set_option maxHeartbeats 4000000 in
set_option maxRecDepth 100000 in
theorem lpX16_haveSameRows {g : pm_Gm} {l : Launch} {G : pm_Gl} {Qr : Option Value → pm_H → Prop} (C : pm_C g cX16_haveSameRows RX16) (X : pm_X g l G mX16_haveSameRows 0 0 Qr) {h : pm_H} {r : Int32} (q : Qr (some (.int r)) h) : ∀ n : Nat, (∀ (x2 : Int32) (x4 : Int32) (x5 : Nat) (x6 : Nat) (x7 : Int32) (x8 : Int32), pm_iter (sX16_haveSameRows h) n (.inl (x2, x4, x5, x6, x7, x8)) = some r → pm_G g 62 [(2, .int x2), (4, .int x4), (5, .ref x5), (6, .ref x6), (7, .int x7), (8, .int x8)] [] h 0 0) ∧ (∀ (x2 : Int32) (x4 : Int32) (x5 : Nat) (x6 : Nat) (x7 : Int32) (x8 : Int32), pm_iter (sX16_haveSameRows h) n (.inr (x2, x4, x5, x6, x7, x8)) = some r → pm_G g 125 [(2, .int x2), (4, .int x4), (5, .ref x5), (6, .ref x6), (7, .int x7), (8, .int x8)] [] h 0 0) := by
  intro n
  induction n with
  | zero => exact ⟨fun _ _ _ _ _ _ hf => (by cases hf), fun _ _ _ _ _ _ hf => (by cases hf)⟩
  | succ n ih =>
    refine ⟨fun x2 x4 x5 x6 x7 x8 hf => ?_, ?_⟩
    · obtain ⟨y, hf, hi⟩ := pm_iter_s hf
      have hf : tX16_haveSameRows_62 h x2 x4 x5 x6 x7 x8 = some y := hf
      unfold tX16_haveSameRows_62 at hf
      refine pm_iload C dX16_haveSameRows_62 rfl ?_
      refine pm_aload C dX16_haveSameRows_64 rfl ?_
      obtain ⟨k31, hf⟩ := pm_if hf
      obtain ⟨v32, e33, hf⟩ := pm_bd hf
      refine pm_getR C dX16_haveSameRows_66 flX16_387 rfl k31 e33 ?_
      refine pm_iload_n C dX16_haveSameRows_69 rfl rfl ?_
      obtain ⟨k34, hf⟩ := pm_if hf
      obtain ⟨u35, hf⟩ := pm_if hf
      refine pm_iald C dX16_haveSameRows_70 k34 u35 rfl ?_
      refine pm_icmp_ge (tgt := 122) C dX16_haveSameRows_71 (by decide) (fun c36 => ?_) (fun c36 => ?_)
      · have hf := pm_it hf c36
        refine pm_iconst (v := 0) C dX16_haveSameRows_122 (by decide) ?_
        refine pm_istore (lv' := [(8, .int 0), (2, .int x2), (4, .int x4), (5, .ref x5), (6, .ref x6), (7, .int x7)]) C dX16_haveSameRows_123 (pm_nl X (by decide)) rfl ?_
        cases hf
        exact pm_sub [1, 2, 3, 4, 5, 0] rfl (ih.2 x2 x4 x5 x6 x7 0 hi)
      · have hf := pm_ie hf c36
        refine pm_iload C dX16_haveSameRows_74 rfl ?_
        refine pm_if_eq (tgt := 122) C dX16_haveSameRows_76 (by decide) (fun c37 => ?_) (fun c37 => ?_)
        · have hf := pm_it hf c37
          refine pm_iconst (v := 0) C dX16_haveSameRows_122 (by decide) ?_
          refine pm_istore (lv' := [(8, .int 0), (2, .int x2), (4, .int x4), (5, .ref x5), (6, .ref x6), (7, .int x7)]) C dX16_haveSameRows_123 (pm_nl X (by decide)) rfl ?_
          cases hf
          exact pm_sub [1, 2, 3, 4, 5, 0] rfl (ih.2 x2 x4 x5 x6 x7 0 hi)
        · have hf := pm_ie hf c37
          refine pm_aload C dX16_haveSameRows_79 rfl ?_
          obtain ⟨v38, e39, hf⟩ := pm_bd hf
          refine pm_getR C dX16_haveSameRows_81 flX16_374 rfl k31 e39 ?_
          refine pm_bipush (v := 32) C dX16_haveSameRows_84 (by decide) ?_
          refine pm_iload_n C dX16_haveSameRows_86 rfl rfl ?_
          refine pm_imul C dX16_haveSameRows_87 ?_
          refine pm_iload C dX16_haveSameRows_88 rfl ?_
          refine pm_iadd C dX16_haveSameRows_90 ?_
          obtain ⟨y40, e41, hf⟩ := pm_lt hf
          refine pm_topI e41 ?_
          obtain ⟨k42, hf⟩ := pm_if hf
          obtain ⟨u43, hf⟩ := pm_if hf
          refine pm_iald C dX16_haveSameRows_91 k42 u43 rfl ?_
          refine pm_aload C dX16_haveSameRows_92 rfl ?_
          obtain ⟨k44, hf⟩ := pm_if hf
          obtain ⟨v45, e46, hf⟩ := pm_bd hf
          refine pm_getR C dX16_haveSameRows_94 flX16_374 rfl k44 e46 ?_
          refine pm_bipush (v := 32) C dX16_haveSameRows_97 (by decide) ?_
          refine pm_iload C dX16_haveSameRows_99 rfl ?_
          refine pm_imul C dX16_haveSameRows_101 ?_
          refine pm_iload C dX16_haveSameRows_102 rfl ?_
          refine pm_iadd C dX16_haveSameRows_104 ?_
          obtain ⟨y47, e48, hf⟩ := pm_lt hf
          refine pm_topI e48 ?_
          obtain ⟨k49, hf⟩ := pm_if hf
          obtain ⟨u50, hf⟩ := pm_if hf
          refine pm_iald C dX16_haveSameRows_105 k49 u50 rfl ?_
          refine pm_icmp_ne (tgt := 113) C dX16_haveSameRows_106 (by decide) (fun c51 => ?_) (fun c51 => ?_)
          · have hf := pm_ie hf c51
            refine pm_iconst (v := 0) C dX16_haveSameRows_113 (by decide) ?_
            refine pm_istore (lv' := [(7, .int 0), (2, .int x2), (4, .int x4), (5, .ref x5), (6, .ref x6), (8, .int x8)]) C dX16_haveSameRows_114 (pm_nl X (by decide)) rfl ?_
            obtain ⟨y52, e53, hf⟩ := pm_lt hf
            refine pm_iinc (v := y52) (lv' := [(8, .int y52), (7, .int 0), (2, .int x2), (4, .int x4), (5, .ref x5), (6, .ref x6)]) C dX16_haveSameRows_116 rfl ((congrArg (x8 + ·) (by decide : Int32.ofInt 1 = 1)).trans e53) (pm_nl X (by decide)) rfl ?_
            refine pm_goto (tgt := 62) C dX16_haveSameRows_119 (by decide) ?_
            cases hf
            exact pm_sub [2, 3, 4, 5, 1, 0] rfl (ih.1 x2 x4 x5 x6 0 y52 hi)
          · have hf := pm_it hf c51
            refine pm_iconst (v := 1) C dX16_haveSameRows_109 (by decide) ?_
            refine pm_goto (tgt := 114) C dX16_haveSameRows_110 (by decide) ?_
            refine pm_istore (lv' := [(7, .int 1), (2, .int x2), (4, .int x4), (5, .ref x5), (6, .ref x6), (8, .int x8)]) C dX16_haveSameRows_114 (pm_nl X (by decide)) rfl ?_
            obtain ⟨y54, e55, hf⟩ := pm_lt hf
            refine pm_iinc (v := y54) (lv' := [(8, .int y54), (7, .int 1), (2, .int x2), (4, .int x4), (5, .ref x5), (6, .ref x6)]) C dX16_haveSameRows_116 rfl ((congrArg (x8 + ·) (by decide : Int32.ofInt 1 = 1)).trans e55) (pm_nl X (by decide)) rfl ?_
            refine pm_goto (tgt := 62) C dX16_haveSameRows_119 (by decide) ?_
            cases hf
            exact pm_sub [2, 3, 4, 5, 1, 0] rfl (ih.1 x2 x4 x5 x6 1 y54 hi)
    refine fun x2 x4 x5 x6 x7 x8 hf => ?_
    obtain ⟨y, hf, hi⟩ := pm_iter_s hf
    have hf : tX16_haveSameRows_125 h x2 x4 x5 x6 x7 x8 = some y := hf
    unfold tX16_haveSameRows_125 at hf
    refine pm_iload C dX16_haveSameRows_125 rfl ?_
    refine pm_aload C dX16_haveSameRows_127 rfl ?_
    obtain ⟨k56, hf⟩ := pm_if hf
    obtain ⟨v57, e58, hf⟩ := pm_bd hf
    refine pm_getR C dX16_haveSameRows_129 flX16_390 rfl k56 e58 ?_
    refine pm_iload_n C dX16_haveSameRows_132 rfl rfl ?_
    obtain ⟨k59, hf⟩ := pm_if hf
    obtain ⟨u60, hf⟩ := pm_if hf
    refine pm_iald C dX16_haveSameRows_133 k59 u60 rfl ?_
    refine pm_icmp_ge (tgt := 191) C dX16_haveSameRows_134 (by decide) (fun c61 => ?_) (fun c61 => ?_)
    · have hf := pm_it hf c61
      refine pm_iload C dX16_haveSameRows_191 rfl ?_
      obtain ⟨u62, hf⟩ := pm_if hf
      cases hf
      cases hi
      exact pm_zret C X dX16_haveSameRows_193 rfl (pm_b01 u62).1 (Nat.le_refl _) (Nat.le_refl _) q
    · have hf := pm_ie hf c61
      refine pm_iload C dX16_haveSameRows_137 rfl ?_
      refine pm_if_eq (tgt := 191) C dX16_haveSameRows_139 (by decide) (fun c63 => ?_) (fun c63 => ?_)
      · have hf := pm_it hf c63
        refine pm_iload C dX16_haveSameRows_191 rfl ?_
        obtain ⟨u64, hf⟩ := pm_if hf
        cases hf
        cases hi
        exact pm_zret C X dX16_haveSameRows_193 rfl (pm_b01 u64).1 (Nat.le_refl _) (Nat.le_refl _) q
      · have hf := pm_ie hf c63
        refine pm_aload C dX16_haveSameRows_142 rfl ?_
        obtain ⟨v65, e66, hf⟩ := pm_bd hf
        refine pm_getR C dX16_haveSameRows_144 flX16_374 rfl k56 e66 ?_
        refine pm_bipush (v := 32) C dX16_haveSameRows_147 (by decide) ?_
        refine pm_iload_n C dX16_haveSameRows_149 rfl rfl ?_
        refine pm_imul C dX16_haveSameRows_150 ?_
        refine pm_bipush (v := 16) C dX16_haveSameRows_151 (by decide) ?_
        refine pm_iadd C dX16_haveSameRows_153 ?_
        refine pm_iload C dX16_haveSameRows_154 rfl ?_
        refine pm_iadd C dX16_haveSameRows_156 ?_
        obtain ⟨y67, e68, hf⟩ := pm_lt hf
        refine pm_topI e68 ?_
        obtain ⟨k69, hf⟩ := pm_if hf
        obtain ⟨u70, hf⟩ := pm_if hf
        refine pm_iald C dX16_haveSameRows_157 k69 u70 rfl ?_
        refine pm_aload C dX16_haveSameRows_158 rfl ?_
        obtain ⟨k71, hf⟩ := pm_if hf
        obtain ⟨v72, e73, hf⟩ := pm_bd hf
        refine pm_getR C dX16_haveSameRows_160 flX16_374 rfl k71 e73 ?_
        refine pm_bipush (v := 32) C dX16_haveSameRows_163 (by decide) ?_
        refine pm_iload C dX16_haveSameRows_165 rfl ?_
        refine pm_imul C dX16_haveSameRows_167 ?_
        refine pm_bipush (v := 16) C dX16_haveSameRows_168 (by decide) ?_
        refine pm_iadd C dX16_haveSameRows_170 ?_
        refine pm_iload C dX16_haveSameRows_171 rfl ?_
        refine pm_iadd C dX16_haveSameRows_173 ?_
        obtain ⟨y74, e75, hf⟩ := pm_lt hf
        refine pm_topI e75 ?_
        obtain ⟨k76, hf⟩ := pm_if hf
        obtain ⟨u77, hf⟩ := pm_if hf
        refine pm_iald C dX16_haveSameRows_174 k76 u77 rfl ?_
        refine pm_icmp_ne (tgt := 182) C dX16_haveSameRows_175 (by decide) (fun c78 => ?_) (fun c78 => ?_)
        · have hf := pm_ie hf c78
          refine pm_iconst (v := 0) C dX16_haveSameRows_182 (by decide) ?_
          refine pm_istore (lv' := [(7, .int 0), (2, .int x2), (4, .int x4), (5, .ref x5), (6, .ref x6), (8, .int x8)]) C dX16_haveSameRows_183 (pm_nl X (by decide)) rfl ?_
          obtain ⟨y79, e80, hf⟩ := pm_lt hf
          refine pm_iinc (v := y79) (lv' := [(8, .int y79), (7, .int 0), (2, .int x2), (4, .int x4), (5, .ref x5), (6, .ref x6)]) C dX16_haveSameRows_185 rfl ((congrArg (x8 + ·) (by decide : Int32.ofInt 1 = 1)).trans e80) (pm_nl X (by decide)) rfl ?_
          refine pm_goto (tgt := 125) C dX16_haveSameRows_188 (by decide) ?_
          cases hf
          exact pm_sub [2, 3, 4, 5, 1, 0] rfl (ih.2 x2 x4 x5 x6 0 y79 hi)
        · have hf := pm_it hf c78
          refine pm_iconst (v := 1) C dX16_haveSameRows_178 (by decide) ?_
          refine pm_goto (tgt := 183) C dX16_haveSameRows_179 (by decide) ?_
          refine pm_istore (lv' := [(7, .int 1), (2, .int x2), (4, .int x4), (5, .ref x5), (6, .ref x6), (8, .int x8)]) C dX16_haveSameRows_183 (pm_nl X (by decide)) rfl ?_
          obtain ⟨y81, e82, hf⟩ := pm_lt hf
          refine pm_iinc (v := y81) (lv' := [(8, .int y81), (7, .int 1), (2, .int x2), (4, .int x4), (5, .ref x5), (6, .ref x6)]) C dX16_haveSameRows_185 rfl ((congrArg (x8 + ·) (by decide : Int32.ofInt 1 = 1)).trans e82) (pm_nl X (by decide)) rfl ?_
          refine pm_goto (tgt := 125) C dX16_haveSameRows_188 (by decide) ?_
          cases hf
          exact pm_sub [2, 3, 4, 5, 1, 0] rfl (ih.2 x2 x4 x5 x6 1 y81 hi)
set_option maxHeartbeats 4000000 in
set_option maxRecDepth 100000 in
theorem ctX16_haveSameRows {l : Launch} {G : pm_Gl} {h : pm_H} {a0 : Nat} {p1 : Int32} {p2 : Int32} {p3 : Int32} {p4 : Int32} {r : Int32} {Qr : Option Value → pm_H → Prop} (hf : fX16_haveSameRows h a0 p1 p2 p3 p4 = some r) (q : Qr (some (.int r)) h) : pm_Ct l G mX16_haveSameRows [.ref a0, .int p1, .int p2, .int p3, .int p4] h 0 0 Qr := by
  refine pm_body pnX16 (Nat.le_of_ble_eq_true rfl) (fun g C X => ?_)
  have C : pm_C g cX16_haveSameRows RX16 := C
  show pm_G g 0 [(0, .ref a0), (1, .int p1), (2, .int p2), (3, .int p3), (4, .int p4)] [] h 0 0
  unfold fX16_haveSameRows at hf
  refine pm_aload_n C dX16_haveSameRows_0 rfl rfl ?_
  obtain ⟨k1, hf⟩ := pm_if hf
  obtain ⟨v2, e3, hf⟩ := pm_bd hf
  refine pm_getR C dX16_haveSameRows_1 flX16_16 rfl k1 e3 ?_
  refine pm_iload_n C dX16_haveSameRows_4 rfl rfl ?_
  obtain ⟨k4, hf⟩ := pm_if hf
  obtain ⟨u5, hf⟩ := pm_if hf
  obtain ⟨v6, e7, hf⟩ := pm_bd hf
  refine pm_ald (t := 10) C dX16_haveSameRows_5 (by decide) rfl k4 u5 e7 ?_
  refine pm_astore (lv' := [(5, .ref v6), (0, .ref a0), (1, .int p1), (2, .int p2), (3, .int p3), (4, .int p4)]) C dX16_haveSameRows_6 (pm_nl X (by decide)) rfl ?_
  refine pm_aload_n C dX16_haveSameRows_8 rfl rfl ?_
  refine pm_getR C dX16_haveSameRows_9 flX16_16 rfl k1 e3 ?_
  refine pm_iload_n C dX16_haveSameRows_12 rfl rfl ?_
  obtain ⟨u8, hf⟩ := pm_if hf
  obtain ⟨v9, e10, hf⟩ := pm_bd hf
  refine pm_ald (t := 10) C dX16_haveSameRows_13 (by decide) rfl k4 u8 e10 ?_
  refine pm_astore (lv' := [(6, .ref v9), (5, .ref v6), (0, .ref a0), (1, .int p1), (2, .int p2), (3, .int p3), (4, .int p4)]) C dX16_haveSameRows_14 (pm_nl X (by decide)) rfl ?_
  refine pm_aload C dX16_haveSameRows_16 rfl ?_
  obtain ⟨k11, hf⟩ := pm_if hf
  obtain ⟨v12, e13, hf⟩ := pm_bd hf
  refine pm_getR C dX16_haveSameRows_18 flX16_387 rfl k11 e13 ?_
  refine pm_iload_n C dX16_haveSameRows_21 rfl rfl ?_
  obtain ⟨k14, hf⟩ := pm_if hf
  obtain ⟨u15, hf⟩ := pm_if hf
  refine pm_iald C dX16_haveSameRows_22 k14 u15 rfl ?_
  refine pm_aload C dX16_haveSameRows_23 rfl ?_
  obtain ⟨k16, hf⟩ := pm_if hf
  obtain ⟨v17, e18, hf⟩ := pm_bd hf
  refine pm_getR C dX16_haveSameRows_25 flX16_387 rfl k16 e18 ?_
  refine pm_iload C dX16_haveSameRows_28 rfl ?_
  obtain ⟨k19, hf⟩ := pm_if hf
  obtain ⟨u20, hf⟩ := pm_if hf
  refine pm_iald C dX16_haveSameRows_30 k19 u20 rfl ?_
  refine pm_icmp_ne (tgt := 56) C dX16_haveSameRows_31 (by decide) (fun c21 => ?_) (fun c21 => ?_)
  · have hf := pm_ie hf c21
    refine pm_iconst (v := 0) C dX16_haveSameRows_56 (by decide) ?_
    refine pm_istore (lv' := [(7, .int 0), (6, .ref v9), (5, .ref v6), (0, .ref a0), (1, .int p1), (2, .int p2), (3, .int p3), (4, .int p4)]) C dX16_haveSameRows_57 (pm_nl X (by decide)) rfl ?_
    refine pm_iconst (v := 0) C dX16_haveSameRows_59 (by decide) ?_
    refine pm_istore (lv' := [(8, .int 0), (7, .int 0), (6, .ref v9), (5, .ref v6), (0, .ref a0), (1, .int p1), (2, .int p2), (3, .int p3), (4, .int p4)]) C dX16_haveSameRows_60 (pm_nl X (by decide)) rfl ?_
    obtain ⟨n, hn⟩ := pm_lim_iter hf
    exact pm_sub [6, 8, 3, 2, 1, 0] rfl ((lpX16_haveSameRows C X q n).1 p2 p4 v6 v9 0 0 hn)
  · have hf := pm_it hf c21
    refine pm_aload C dX16_haveSameRows_34 rfl ?_
    obtain ⟨v22, e23, hf⟩ := pm_bd hf
    refine pm_getR C dX16_haveSameRows_36 flX16_390 rfl k11 e23 ?_
    refine pm_iload_n C dX16_haveSameRows_39 rfl rfl ?_
    obtain ⟨k24, hf⟩ := pm_if hf
    obtain ⟨u25, hf⟩ := pm_if hf
    refine pm_iald C dX16_haveSameRows_40 k24 u25 rfl ?_
    refine pm_aload C dX16_haveSameRows_41 rfl ?_
    obtain ⟨v26, e27, hf⟩ := pm_bd hf
    refine pm_getR C dX16_haveSameRows_43 flX16_390 rfl k16 e27 ?_
    refine pm_iload C dX16_haveSameRows_46 rfl ?_
    obtain ⟨k28, hf⟩ := pm_if hf
    obtain ⟨u29, hf⟩ := pm_if hf
    refine pm_iald C dX16_haveSameRows_48 k28 u29 rfl ?_
    refine pm_icmp_ne (tgt := 56) C dX16_haveSameRows_49 (by decide) (fun c30 => ?_) (fun c30 => ?_)
    · have hf := pm_ie hf c30
      refine pm_iconst (v := 0) C dX16_haveSameRows_56 (by decide) ?_
      refine pm_istore (lv' := [(7, .int 0), (6, .ref v9), (5, .ref v6), (0, .ref a0), (1, .int p1), (2, .int p2), (3, .int p3), (4, .int p4)]) C dX16_haveSameRows_57 (pm_nl X (by decide)) rfl ?_
      refine pm_iconst (v := 0) C dX16_haveSameRows_59 (by decide) ?_
      refine pm_istore (lv' := [(8, .int 0), (7, .int 0), (6, .ref v9), (5, .ref v6), (0, .ref a0), (1, .int p1), (2, .int p2), (3, .int p3), (4, .int p4)]) C dX16_haveSameRows_60 (pm_nl X (by decide)) rfl ?_
      obtain ⟨n, hn⟩ := pm_lim_iter hf
      exact pm_sub [6, 8, 3, 2, 1, 0] rfl ((lpX16_haveSameRows C X q n).1 p2 p4 v6 v9 0 0 hn)
    · have hf := pm_it hf c30
      refine pm_iconst (v := 1) C dX16_haveSameRows_52 (by decide) ?_
      refine pm_goto (tgt := 57) C dX16_haveSameRows_53 (by decide) ?_
      refine pm_istore (lv' := [(7, .int 1), (6, .ref v9), (5, .ref v6), (0, .ref a0), (1, .int p1), (2, .int p2), (3, .int p3), (4, .int p4)]) C dX16_haveSameRows_57 (pm_nl X (by decide)) rfl ?_
      refine pm_iconst (v := 0) C dX16_haveSameRows_59 (by decide) ?_
      refine pm_istore (lv' := [(8, .int 0), (7, .int 1), (6, .ref v9), (5, .ref v6), (0, .ref a0), (1, .int p1), (2, .int p2), (3, .int p3), (4, .int p4)]) C dX16_haveSameRows_60 (pm_nl X (by decide)) rfl ?_
      obtain ⟨n, hn⟩ := pm_lim_iter hf
      exact pm_sub [6, 8, 3, 2, 1, 0] rfl ((lpX16_haveSameRows C X q n).1 p2 p4 v6 v9 1 0 hn)
theorem dX16_held_0 : decode cX16_held 0 = .ok (.iload_n 0, 1) := by decide +kernel
theorem dX16_held_1 : decode cX16_held 1 = .ok (.bipush 127, 2) := by decide +kernel
theorem dX16_held_3 : decode cX16_held 3 = .ok (.if_icmp .eq 9, 3) := by decide +kernel
theorem dX16_held_6 : decode cX16_held 6 = .ok (.iload_n 0, 1) := by decide +kernel
theorem dX16_held_7 : decode cX16_held 7 = .ok (.bipush 125, 2) := by decide +kernel
theorem dX16_held_9 : decode cX16_held 9 = .ok (.if_icmp .ne 11, 3) := by decide +kernel
theorem dX16_held_12 : decode cX16_held 12 = .ok (.lload_n 1, 1) := by decide +kernel
theorem dX16_held_13 : decode cX16_held 13 = .ok (.ldc2_w 513, 3) := by decide +kernel
theorem dX16_held_16 : decode cX16_held 16 = .ok (.land, 1) := by decide +kernel
theorem dX16_held_17 : decode cX16_held 17 = .ok (.goto 4, 3) := by decide +kernel
theorem dX16_held_20 : decode cX16_held 20 = .ok (.lload_n 1, 1) := by decide +kernel
theorem dX16_held_21 : decode cX16_held 21 = .ok (.lreturn, 1) := by decide +kernel
def fX16_held (p1 : Int32) (p2 : Int64) : Int64 := if p1 = 127 then (p2 &&& 4294967295) else (if p1 = 125 then (p2 &&& 4294967295) else (p2))
set_option maxHeartbeats 4000000 in
set_option maxRecDepth 100000 in
theorem ctX16_held {l : Launch} {G : pm_Gl} {h : pm_H} {p1 : Int32} {p2 : Int64} {r : Int64} {Qr : Option Value → pm_H → Prop} (hf : fX16_held p1 p2 = r) (q : Qr (some (.long r)) h) : pm_Ct l G mX16_held [.int p1, .long p2] h 0 0 Qr := by
  refine pm_body pnX16 (Nat.le_of_ble_eq_true rfl) (fun g C X => ?_)
  have C : pm_C g cX16_held RX16 := C
  show pm_G g 0 [(0, .int p1), (1, .long p2)] [] h 0 0
  unfold fX16_held at hf
  refine pm_iload_n C dX16_held_0 rfl rfl ?_
  refine pm_bipush (v := 127) C dX16_held_1 (by decide) ?_
  refine pm_icmp_eq (tgt := 12) C dX16_held_3 (by decide) (fun c1 => ?_) (fun c1 => ?_)
  · have hf := pm_it hf c1
    refine pm_lload_n C dX16_held_12 rfl rfl ?_
    refine pm_ldc2 C dX16_held_13 cnX16_513 ?_
    refine pm_land C dX16_held_16 ?_
    refine pm_goto (tgt := 21) C dX16_held_17 (by decide) ?_
    subst hf
    exact pm_lret C X dX16_held_21 rfl (Nat.le_refl _) (Nat.le_refl _) q
  · have hf := pm_ie hf c1
    refine pm_iload_n C dX16_held_6 rfl rfl ?_
    refine pm_bipush (v := 125) C dX16_held_7 (by decide) ?_
    refine pm_icmp_ne (tgt := 20) C dX16_held_9 (by decide) (fun c2 => ?_) (fun c2 => ?_)
    · have hf := pm_ie hf c2
      refine pm_lload_n C dX16_held_20 rfl rfl ?_
      subst hf
      exact pm_lret C X dX16_held_21 rfl (Nat.le_refl _) (Nat.le_refl _) q
    · have hf := pm_it hf c2
      refine pm_lload_n C dX16_held_12 rfl rfl ?_
      refine pm_ldc2 C dX16_held_13 cnX16_513 ?_
      refine pm_land C dX16_held_16 ?_
      refine pm_goto (tgt := 21) C dX16_held_17 (by decide) ?_
      subst hf
      exact pm_lret C X dX16_held_21 rfl (Nat.le_refl _) (Nat.le_refl _) q
theorem dX16_infinite_0 : decode cX16_infinite 0 = .ok (.iload_n 0, 1) := by decide +kernel
theorem dX16_infinite_1 : decode cX16_infinite 1 = .ok (.iconst 2, 1) := by decide +kernel
theorem dX16_infinite_2 : decode cX16_infinite 2 = .ok (.if_icmp .ne 9, 3) := by decide +kernel
theorem dX16_infinite_5 : decode cX16_infinite 5 = .ok (.ldc2_w 857, 3) := by decide +kernel
theorem dX16_infinite_8 : decode cX16_infinite 8 = .ok (.goto 6, 3) := by decide +kernel
theorem dX16_infinite_11 : decode cX16_infinite 11 = .ok (.ldc2_w 859, 3) := by decide +kernel
theorem dX16_infinite_14 : decode cX16_infinite 14 = .ok (.lreturn, 1) := by decide +kernel
def fX16_infinite (p1 : Int32) : Int64 := if p1 = 2 then (2139095040) else (9218868437227405312)
set_option maxHeartbeats 4000000 in
set_option maxRecDepth 100000 in
theorem ctX16_infinite {l : Launch} {G : pm_Gl} {h : pm_H} {p1 : Int32} {r : Int64} {Qr : Option Value → pm_H → Prop} (hf : fX16_infinite p1 = r) (q : Qr (some (.long r)) h) : pm_Ct l G mX16_infinite [.int p1] h 0 0 Qr := by
  refine pm_body pnX16 (Nat.le_of_ble_eq_true rfl) (fun g C X => ?_)
  have C : pm_C g cX16_infinite RX16 := C
  show pm_G g 0 [(0, .int p1)] [] h 0 0
  unfold fX16_infinite at hf
  refine pm_iload_n C dX16_infinite_0 rfl rfl ?_
  refine pm_iconst (v := 2) C dX16_infinite_1 (by decide) ?_
  refine pm_icmp_ne (tgt := 11) C dX16_infinite_2 (by decide) (fun c1 => ?_) (fun c1 => ?_)
  · have hf := pm_ie hf c1
    refine pm_ldc2 C dX16_infinite_11 cnX16_859 ?_
    subst hf
    exact pm_lret C X dX16_infinite_14 rfl (Nat.le_refl _) (Nat.le_refl _) q
  · have hf := pm_it hf c1
    refine pm_ldc2 C dX16_infinite_5 cnX16_857 ?_
    refine pm_goto (tgt := 14) C dX16_infinite_8 (by decide) ?_
    subst hf
    exact pm_lret C X dX16_infinite_14 rfl (Nat.le_refl _) (Nat.le_refl _) q
theorem dX16_isAccess_0 : decode cX16_isAccess 0 = .ok (.iload_n 0, 1) := by decide +kernel
theorem dX16_isAccess_1 : decode cX16_isAccess 1 = .ok (.bipush 40, 2) := by decide +kernel
theorem dX16_isAccess_3 : decode cX16_isAccess 3 = .ok (.if_icmp .lt 13, 3) := by decide +kernel
theorem dX16_isAccess_6 : decode cX16_isAccess 6 = .ok (.iload_n 0, 1) := by decide +kernel
theorem dX16_isAccess_7 : decode cX16_isAccess 7 = .ok (.bipush 62, 2) := by decide +kernel
theorem dX16_isAccess_9 : decode cX16_isAccess 9 = .ok (.if_icmp .gt 7, 3) := by decide +kernel
theorem dX16_isAccess_12 : decode cX16_isAccess 12 = .ok (.iconst 1, 1) := by decide +kernel
theorem dX16_isAccess_13 : decode cX16_isAccess 13 = .ok (.goto 4, 3) := by decide +kernel
theorem dX16_isAccess_16 : decode cX16_isAccess 16 = .ok (.iconst 0, 1) := by decide +kernel
theorem dX16_isAccess_17 : decode cX16_isAccess 17 = .ok (.ireturn, 1) := by decide +kernel
def fX16_isAccess (p1 : Int32) : Int32 := if p1 < 40 then (0) else (if 62 < p1 then (0) else (1))
set_option maxHeartbeats 4000000 in
set_option maxRecDepth 100000 in
theorem ctX16_isAccess {l : Launch} {G : pm_Gl} {h : pm_H} {p1 : Int32} {r : Int32} {Qr : Option Value → pm_H → Prop} (hf : fX16_isAccess p1 = r) (q : Qr (some (.int r)) h) : pm_Ct l G mX16_isAccess [.int p1] h 0 0 Qr := by
  refine pm_body pnX16 (Nat.le_of_ble_eq_true rfl) (fun g C X => ?_)
  have C : pm_C g cX16_isAccess RX16 := C
  show pm_G g 0 [(0, .int p1)] [] h 0 0
  unfold fX16_isAccess at hf
  refine pm_iload_n C dX16_isAccess_0 rfl rfl ?_
  refine pm_bipush (v := 40) C dX16_isAccess_1 (by decide) ?_
  refine pm_icmp_lt (tgt := 16) C dX16_isAccess_3 (by decide) (fun c1 => ?_) (fun c1 => ?_)
  · have hf := pm_it hf c1
    refine pm_iconst (v := 0) C dX16_isAccess_16 (by decide) ?_
    subst hf
    exact pm_zret C X dX16_isAccess_17 rfl (by decide) (Nat.le_refl _) (Nat.le_refl _) q
  · have hf := pm_ie hf c1
    refine pm_iload_n C dX16_isAccess_6 rfl rfl ?_
    refine pm_bipush (v := 62) C dX16_isAccess_7 (by decide) ?_
    refine pm_icmp_gt (tgt := 16) C dX16_isAccess_9 (by decide) (fun c2 => ?_) (fun c2 => ?_)
    · have hf := pm_it hf c2
      refine pm_iconst (v := 0) C dX16_isAccess_16 (by decide) ?_
      subst hf
      exact pm_zret C X dX16_isAccess_17 rfl (by decide) (Nat.le_refl _) (Nat.le_refl _) q
    · have hf := pm_ie hf c2
      refine pm_iconst (v := 1) C dX16_isAccess_12 (by decide) ?_
      refine pm_goto (tgt := 17) C dX16_isAccess_13 (by decide) ?_
      subst hf
      exact pm_zret C X dX16_isAccess_17 rfl (by decide) (Nat.le_refl _) (Nat.le_refl _) q
theorem dX16_isAlone_0 : decode cX16_isAlone 0 = .ok (.iload_n 0, 1) := by decide +kernel
theorem dX16_isAlone_1 : decode cX16_isAlone 1 = .ok (.iconst 2, 1) := by decide +kernel
theorem dX16_isAlone_2 : decode cX16_isAlone 2 = .ok (.if_icmp .lt 41, 3) := by decide +kernel
theorem dX16_isAlone_5 : decode cX16_isAlone 5 = .ok (.iload_n 0, 1) := by decide +kernel
theorem dX16_isAlone_6 : decode cX16_isAlone 6 = .ok (.bipush 15, 2) := by decide +kernel
theorem dX16_isAlone_8 : decode cX16_isAlone 8 = .ok (.if_icmp .eq 35, 3) := by decide +kernel
theorem dX16_isAlone_11 : decode cX16_isAlone 11 = .ok (.iload_n 0, 1) := by decide +kernel
theorem dX16_isAlone_12 : decode cX16_isAlone 12 = .ok (.bipush 26, 2) := by decide +kernel
theorem dX16_isAlone_14 : decode cX16_isAlone 14 = .ok (.if_icmp .eq 29, 3) := by decide +kernel
theorem dX16_isAlone_17 : decode cX16_isAlone 17 = .ok (.iload_n 0, 1) := by decide +kernel
theorem dX16_isAlone_18 : decode cX16_isAlone 18 = .ok (.bipush 27, 2) := by decide +kernel
theorem dX16_isAlone_20 : decode cX16_isAlone 20 = .ok (.if_icmp .eq 23, 3) := by decide +kernel
theorem dX16_isAlone_23 : decode cX16_isAlone 23 = .ok (.iload_n 0, 1) := by decide +kernel
theorem dX16_isAlone_24 : decode cX16_isAlone 24 = .ok (.bipush 69, 2) := by decide +kernel
theorem dX16_isAlone_26 : decode cX16_isAlone 26 = .ok (.if_icmp .lt 10, 3) := by decide +kernel
theorem dX16_isAlone_29 : decode cX16_isAlone 29 = .ok (.iload_n 0, 1) := by decide +kernel
theorem dX16_isAlone_30 : decode cX16_isAlone 30 = .ok (.sipush 196, 3) := by decide +kernel
theorem dX16_isAlone_33 : decode cX16_isAlone 33 = .ok (.if_icmp .le 10, 3) := by decide +kernel
theorem dX16_isAlone_36 : decode cX16_isAlone 36 = .ok (.iload_n 0, 1) := by decide +kernel
theorem dX16_isAlone_37 : decode cX16_isAlone 37 = .ok (.sipush 209, 3) := by decide +kernel
theorem dX16_isAlone_40 : decode cX16_isAlone 40 = .ok (.if_icmp .ne 7, 3) := by decide +kernel
theorem dX16_isAlone_43 : decode cX16_isAlone 43 = .ok (.iconst 1, 1) := by decide +kernel
theorem dX16_isAlone_44 : decode cX16_isAlone 44 = .ok (.goto 4, 3) := by decide +kernel
theorem dX16_isAlone_47 : decode cX16_isAlone 47 = .ok (.iconst 0, 1) := by decide +kernel
theorem dX16_isAlone_48 : decode cX16_isAlone 48 = .ok (.ireturn, 1) := by decide +kernel
def fX16_isAlone (p1 : Int32) : Int32 := if p1 < 2 then (1) else (if p1 = 15 then (1) else (if p1 = 26 then (1) else (if p1 = 27 then (1) else (if p1 < 69 then (if p1 = 209 then (1) else (0)) else (if p1 ≤ 196 then (1) else (if p1 = 209 then (1) else (0)))))))
set_option maxHeartbeats 4000000 in
set_option maxRecDepth 100000 in
theorem ctX16_isAlone {l : Launch} {G : pm_Gl} {h : pm_H} {p1 : Int32} {r : Int32} {Qr : Option Value → pm_H → Prop} (hf : fX16_isAlone p1 = r) (q : Qr (some (.int r)) h) : pm_Ct l G mX16_isAlone [.int p1] h 0 0 Qr := by
  refine pm_body pnX16 (Nat.le_of_ble_eq_true rfl) (fun g C X => ?_)
  have C : pm_C g cX16_isAlone RX16 := C
  show pm_G g 0 [(0, .int p1)] [] h 0 0
  unfold fX16_isAlone at hf
  refine pm_iload_n C dX16_isAlone_0 rfl rfl ?_
  refine pm_iconst (v := 2) C dX16_isAlone_1 (by decide) ?_
  refine pm_icmp_lt (tgt := 43) C dX16_isAlone_2 (by decide) (fun c1 => ?_) (fun c1 => ?_)
  · have hf := pm_it hf c1
    refine pm_iconst (v := 1) C dX16_isAlone_43 (by decide) ?_
    refine pm_goto (tgt := 48) C dX16_isAlone_44 (by decide) ?_
    subst hf
    exact pm_zret C X dX16_isAlone_48 rfl (by decide) (Nat.le_refl _) (Nat.le_refl _) q
  · have hf := pm_ie hf c1
    refine pm_iload_n C dX16_isAlone_5 rfl rfl ?_
    refine pm_bipush (v := 15) C dX16_isAlone_6 (by decide) ?_
    refine pm_icmp_eq (tgt := 43) C dX16_isAlone_8 (by decide) (fun c2 => ?_) (fun c2 => ?_)
    · have hf := pm_it hf c2
      refine pm_iconst (v := 1) C dX16_isAlone_43 (by decide) ?_
      refine pm_goto (tgt := 48) C dX16_isAlone_44 (by decide) ?_
      subst hf
      exact pm_zret C X dX16_isAlone_48 rfl (by decide) (Nat.le_refl _) (Nat.le_refl _) q
    · have hf := pm_ie hf c2
      refine pm_iload_n C dX16_isAlone_11 rfl rfl ?_
      refine pm_bipush (v := 26) C dX16_isAlone_12 (by decide) ?_
      refine pm_icmp_eq (tgt := 43) C dX16_isAlone_14 (by decide) (fun c3 => ?_) (fun c3 => ?_)
      · have hf := pm_it hf c3
        refine pm_iconst (v := 1) C dX16_isAlone_43 (by decide) ?_
        refine pm_goto (tgt := 48) C dX16_isAlone_44 (by decide) ?_
        subst hf
        exact pm_zret C X dX16_isAlone_48 rfl (by decide) (Nat.le_refl _) (Nat.le_refl _) q
      · have hf := pm_ie hf c3
        refine pm_iload_n C dX16_isAlone_17 rfl rfl ?_
        refine pm_bipush (v := 27) C dX16_isAlone_18 (by decide) ?_
        refine pm_icmp_eq (tgt := 43) C dX16_isAlone_20 (by decide) (fun c4 => ?_) (fun c4 => ?_)
        · have hf := pm_it hf c4
          refine pm_iconst (v := 1) C dX16_isAlone_43 (by decide) ?_
          refine pm_goto (tgt := 48) C dX16_isAlone_44 (by decide) ?_
          subst hf
          exact pm_zret C X dX16_isAlone_48 rfl (by decide) (Nat.le_refl _) (Nat.le_refl _) q
        · have hf := pm_ie hf c4
          refine pm_iload_n C dX16_isAlone_23 rfl rfl ?_
          refine pm_bipush (v := 69) C dX16_isAlone_24 (by decide) ?_
          refine pm_icmp_lt (tgt := 36) C dX16_isAlone_26 (by decide) (fun c5 => ?_) (fun c5 => ?_)
          · have hf := pm_it hf c5
            refine pm_iload_n C dX16_isAlone_36 rfl rfl ?_
            refine pm_sipush (v := 209) C dX16_isAlone_37 (by decide) ?_
            refine pm_icmp_ne (tgt := 47) C dX16_isAlone_40 (by decide) (fun c6 => ?_) (fun c6 => ?_)
            · have hf := pm_ie hf c6
              refine pm_iconst (v := 0) C dX16_isAlone_47 (by decide) ?_
              subst hf
              exact pm_zret C X dX16_isAlone_48 rfl (by decide) (Nat.le_refl _) (Nat.le_refl _) q
            · have hf := pm_it hf c6
              refine pm_iconst (v := 1) C dX16_isAlone_43 (by decide) ?_
              refine pm_goto (tgt := 48) C dX16_isAlone_44 (by decide) ?_
              subst hf
              exact pm_zret C X dX16_isAlone_48 rfl (by decide) (Nat.le_refl _) (Nat.le_refl _) q
          · have hf := pm_ie hf c5
            refine pm_iload_n C dX16_isAlone_29 rfl rfl ?_
            refine pm_sipush (v := 196) C dX16_isAlone_30 (by decide) ?_
            refine pm_icmp_le (tgt := 43) C dX16_isAlone_33 (by decide) (fun c7 => ?_) (fun c7 => ?_)
            · have hf := pm_it hf c7
              refine pm_iconst (v := 1) C dX16_isAlone_43 (by decide) ?_
              refine pm_goto (tgt := 48) C dX16_isAlone_44 (by decide) ?_
              subst hf
              exact pm_zret C X dX16_isAlone_48 rfl (by decide) (Nat.le_refl _) (Nat.le_refl _) q
            · have hf := pm_ie hf c7
              refine pm_iload_n C dX16_isAlone_36 rfl rfl ?_
              refine pm_sipush (v := 209) C dX16_isAlone_37 (by decide) ?_
              refine pm_icmp_ne (tgt := 47) C dX16_isAlone_40 (by decide) (fun c8 => ?_) (fun c8 => ?_)
              · have hf := pm_ie hf c8
                refine pm_iconst (v := 0) C dX16_isAlone_47 (by decide) ?_
                subst hf
                exact pm_zret C X dX16_isAlone_48 rfl (by decide) (Nat.le_refl _) (Nat.le_refl _) q
              · have hf := pm_it hf c8
                refine pm_iconst (v := 1) C dX16_isAlone_43 (by decide) ?_
                refine pm_goto (tgt := 48) C dX16_isAlone_44 (by decide) ?_
                subst hf
                exact pm_zret C X dX16_isAlone_48 rfl (by decide) (Nat.le_refl _) (Nat.le_refl _) q
theorem dX16_isBelow_0 : decode cX16_isBelow 0 = .ok (.lload_n 0, 1) := by decide +kernel
theorem dX16_isBelow_1 : decode cX16_isBelow 1 = .ok (.ldc2_w 798, 3) := by decide +kernel
theorem dX16_isBelow_4 : decode cX16_isBelow 4 = .ok (.ladd, 1) := by decide +kernel
theorem dX16_isBelow_5 : decode cX16_isBelow 5 = .ok (.lload_n 2, 1) := by decide +kernel
theorem dX16_isBelow_6 : decode cX16_isBelow 6 = .ok (.ldc2_w 798, 3) := by decide +kernel
theorem dX16_isBelow_9 : decode cX16_isBelow 9 = .ok (.ladd, 1) := by decide +kernel
theorem dX16_isBelow_10 : decode cX16_isBelow 10 = .ok (.lcmp, 1) := by decide +kernel
theorem dX16_isBelow_11 : decode cX16_isBelow 11 = .ok (.ifCond .ge 7, 3) := by decide +kernel
theorem dX16_isBelow_14 : decode cX16_isBelow 14 = .ok (.iconst 1, 1) := by decide +kernel
theorem dX16_isBelow_15 : decode cX16_isBelow 15 = .ok (.goto 4, 3) := by decide +kernel
theorem dX16_isBelow_18 : decode cX16_isBelow 18 = .ok (.iconst 0, 1) := by decide +kernel
theorem dX16_isBelow_19 : decode cX16_isBelow 19 = .ok (.ireturn, 1) := by decide +kernel
def fX16_isBelow (p1 : Int64) (p2 : Int64) : Int32 := if (p2 + (-9223372036854775808)) ≤ (p1 + (-9223372036854775808)) then (0) else (1)
set_option maxHeartbeats 4000000 in
set_option maxRecDepth 100000 in
theorem ctX16_isBelow {l : Launch} {G : pm_Gl} {h : pm_H} {p1 : Int64} {p2 : Int64} {r : Int32} {Qr : Option Value → pm_H → Prop} (hf : fX16_isBelow p1 p2 = r) (q : Qr (some (.int r)) h) : pm_Ct l G mX16_isBelow [.long p1, .long p2] h 0 0 Qr := by
  refine pm_body pnX16 (Nat.le_of_ble_eq_true rfl) (fun g C X => ?_)
  have C : pm_C g cX16_isBelow RX16 := C
  show pm_G g 0 [(0, .long p1), (2, .long p2)] [] h 0 0
  unfold fX16_isBelow at hf
  refine pm_lload_n C dX16_isBelow_0 rfl rfl ?_
  refine pm_ldc2 C dX16_isBelow_1 cnX16_798 ?_
  refine pm_ladd C dX16_isBelow_4 ?_
  refine pm_lload_n C dX16_isBelow_5 rfl rfl ?_
  refine pm_ldc2 C dX16_isBelow_6 cnX16_798 ?_
  refine pm_ladd C dX16_isBelow_9 ?_
  refine pm_lcmp C dX16_isBelow_10 ?_
  refine pm_if_ge (tgt := 18) C dX16_isBelow_11 (by decide) (fun c1 => ?_) (fun c1 => ?_)
  · have hf := pm_it hf ((pm_lg_ge _ _).mp c1)
    refine pm_iconst (v := 0) C dX16_isBelow_18 (by decide) ?_
    subst hf
    exact pm_zret C X dX16_isBelow_19 rfl (by decide) (Nat.le_refl _) (Nat.le_refl _) q
  · have hf := pm_ie hf ((fun z => c1 ((pm_lg_ge _ _).mpr z)))
    refine pm_iconst (v := 1) C dX16_isBelow_14 (by decide) ?_
    refine pm_goto (tgt := 19) C dX16_isBelow_15 (by decide) ?_
    subst hf
    exact pm_zret C X dX16_isBelow_19 rfl (by decide) (Nat.le_refl _) (Nat.le_refl _) q
theorem dX16_isInstance_0 : decode cX16_isInstance 0 = .ok (.iload_n 1, 1) := by decide +kernel
theorem dX16_isInstance_1 : decode cX16_isInstance 1 = .ok (.ifCond .lt 15, 3) := by decide +kernel
theorem dX16_isInstance_4 : decode cX16_isInstance 4 = .ok (.iload_n 1, 1) := by decide +kernel
theorem dX16_isInstance_5 : decode cX16_isInstance 5 = .ok (.aload_n 0, 1) := by decide +kernel
theorem dX16_isInstance_6 : decode cX16_isInstance 6 = .ok (.getfield 949, 3) := by decide +kernel
theorem dX16_isInstance_9 : decode cX16_isInstance 9 = .ok (.if_icmp .ge 7, 3) := by decide +kernel
theorem dX16_isInstance_12 : decode cX16_isInstance 12 = .ok (.iconst 1, 1) := by decide +kernel
theorem dX16_isInstance_13 : decode cX16_isInstance 13 = .ok (.goto 4, 3) := by decide +kernel
theorem dX16_isInstance_16 : decode cX16_isInstance 16 = .ok (.iconst 0, 1) := by decide +kernel
theorem dX16_isInstance_17 : decode cX16_isInstance 17 = .ok (.ireturn, 1) := by decide +kernel
def fX16_isInstance (h : pm_H) (a0 : Nat) (p1 : Int32) : Option Int32 := if p1 < 0 then (some 0) else (if pm_kd h a0 = 16 then if (pm_I h a0 62) ≤ p1 then (some 0) else (some 1) else none)
set_option maxHeartbeats 4000000 in
set_option maxRecDepth 100000 in
theorem ctX16_isInstance {l : Launch} {G : pm_Gl} {h : pm_H} {a0 : Nat} {p1 : Int32} {r : Int32} {Qr : Option Value → pm_H → Prop} (hf : fX16_isInstance h a0 p1 = some r) (q : Qr (some (.int r)) h) : pm_Ct l G mX16_isInstance [.ref a0, .int p1] h 0 0 Qr := by
  refine pm_body pnX16 (Nat.le_of_ble_eq_true rfl) (fun g C X => ?_)
  have C : pm_C g cX16_isInstance RX16 := C
  show pm_G g 0 [(0, .ref a0), (1, .int p1)] [] h 0 0
  unfold fX16_isInstance at hf
  refine pm_iload_n C dX16_isInstance_0 rfl rfl ?_
  refine pm_if_lt (tgt := 16) C dX16_isInstance_1 (by decide) (fun c1 => ?_) (fun c1 => ?_)
  · have hf := pm_it hf c1
    refine pm_iconst (v := 0) C dX16_isInstance_16 (by decide) ?_
    cases hf
    exact pm_zret C X dX16_isInstance_17 rfl (by decide) (Nat.le_refl _) (Nat.le_refl _) q
  · have hf := pm_ie hf c1
    refine pm_iload_n C dX16_isInstance_4 rfl rfl ?_
    refine pm_aload_n C dX16_isInstance_5 rfl rfl ?_
    obtain ⟨k2, hf⟩ := pm_if hf
    refine pm_getI C dX16_isInstance_6 flX16_949 rfl k2 rfl ?_
    refine pm_icmp_ge (tgt := 16) C dX16_isInstance_9 (by decide) (fun c3 => ?_) (fun c3 => ?_)
    · have hf := pm_it hf c3
      refine pm_iconst (v := 0) C dX16_isInstance_16 (by decide) ?_
      cases hf
      exact pm_zret C X dX16_isInstance_17 rfl (by decide) (Nat.le_refl _) (Nat.le_refl _) q
    · have hf := pm_ie hf c3
      refine pm_iconst (v := 1) C dX16_isInstance_12 (by decide) ?_
      refine pm_goto (tgt := 17) C dX16_isInstance_13 (by decide) ?_
      cases hf
      exact pm_zret C X dX16_isInstance_17 rfl (by decide) (Nat.le_refl _) (Nat.le_refl _) q
theorem dX16_isReference_0 : decode cX16_isReference 0 = .ok (.iload_n 0, 1) := by decide +kernel
theorem dX16_isReference_1 : decode cX16_isReference 1 = .ok (.bipush 112, 2) := by decide +kernel
theorem dX16_isReference_3 : decode cX16_isReference 3 = .ok (.if_icmp .eq 9, 3) := by decide +kernel
theorem dX16_isReference_6 : decode cX16_isReference 6 = .ok (.iload_n 0, 1) := by decide +kernel
theorem dX16_isReference_7 : decode cX16_isReference 7 = .ok (.bipush 111, 2) := by decide +kernel
theorem dX16_isReference_9 : decode cX16_isReference 9 = .ok (.if_icmp .ne 7, 3) := by decide +kernel
theorem dX16_isReference_12 : decode cX16_isReference 12 = .ok (.iconst 1, 1) := by decide +kernel
theorem dX16_isReference_13 : decode cX16_isReference 13 = .ok (.goto 4, 3) := by decide +kernel
theorem dX16_isReference_16 : decode cX16_isReference 16 = .ok (.iconst 0, 1) := by decide +kernel
theorem dX16_isReference_17 : decode cX16_isReference 17 = .ok (.ireturn, 1) := by decide +kernel
def fX16_isReference (p1 : Int32) : Int32 := if p1 = 112 then (1) else (if p1 = 111 then (1) else (0))
set_option maxHeartbeats 4000000 in
set_option maxRecDepth 100000 in
theorem ctX16_isReference {l : Launch} {G : pm_Gl} {h : pm_H} {p1 : Int32} {r : Int32} {Qr : Option Value → pm_H → Prop} (hf : fX16_isReference p1 = r) (q : Qr (some (.int r)) h) : pm_Ct l G mX16_isReference [.int p1] h 0 0 Qr := by
  refine pm_body pnX16 (Nat.le_of_ble_eq_true rfl) (fun g C X => ?_)
  have C : pm_C g cX16_isReference RX16 := C
  show pm_G g 0 [(0, .int p1)] [] h 0 0
  unfold fX16_isReference at hf
  refine pm_iload_n C dX16_isReference_0 rfl rfl ?_
  refine pm_bipush (v := 112) C dX16_isReference_1 (by decide) ?_
  refine pm_icmp_eq (tgt := 12) C dX16_isReference_3 (by decide) (fun c1 => ?_) (fun c1 => ?_)
  · have hf := pm_it hf c1
    refine pm_iconst (v := 1) C dX16_isReference_12 (by decide) ?_
    refine pm_goto (tgt := 17) C dX16_isReference_13 (by decide) ?_
    subst hf
    exact pm_zret C X dX16_isReference_17 rfl (by decide) (Nat.le_refl _) (Nat.le_refl _) q
  · have hf := pm_ie hf c1
    refine pm_iload_n C dX16_isReference_6 rfl rfl ?_
    refine pm_bipush (v := 111) C dX16_isReference_7 (by decide) ?_
    refine pm_icmp_ne (tgt := 16) C dX16_isReference_9 (by decide) (fun c2 => ?_) (fun c2 => ?_)
    · have hf := pm_ie hf c2
      refine pm_iconst (v := 0) C dX16_isReference_16 (by decide) ?_
      subst hf
      exact pm_zret C X dX16_isReference_17 rfl (by decide) (Nat.le_refl _) (Nat.le_refl _) q
    · have hf := pm_it hf c2
      refine pm_iconst (v := 1) C dX16_isReference_12 (by decide) ?_
      refine pm_goto (tgt := 17) C dX16_isReference_13 (by decide) ?_
      subst hf
      exact pm_zret C X dX16_isReference_17 rfl (by decide) (Nat.le_refl _) (Nat.le_refl _) q
theorem dX16_isSameName_0 : decode cX16_isSameName 0 = .ok (.aload_n 0, 1) := by decide +kernel
theorem dX16_isSameName_1 : decode cX16_isSameName 1 = .ok (.getfield 221, 3) := by decide +kernel
theorem dX16_isSameName_4 : decode cX16_isSameName 4 = .ok (.getfield 472, 3) := by decide +kernel
theorem dX16_isSameName_7 : decode cX16_isSameName 7 = .ok (.iload_n 1, 1) := by decide +kernel
theorem dX16_isSameName_8 : decode cX16_isSameName 8 = .ok (.iaload, 1) := by decide +kernel
theorem dX16_isSameName_9 : decode cX16_isSameName 9 = .ok (.istore_n 3, 1) := by decide +kernel
theorem dX16_isSameName_10 : decode cX16_isSameName 10 = .ok (.iload_n 3, 1) := by decide +kernel
theorem dX16_isSameName_11 : decode cX16_isSameName 11 = .ok (.aload_n 0, 1) := by decide +kernel
theorem dX16_isSameName_12 : decode cX16_isSameName 12 = .ok (.getfield 221, 3) := by decide +kernel
theorem dX16_isSameName_15 : decode cX16_isSameName 15 = .ok (.getfield 472, 3) := by decide +kernel
theorem dX16_isSameName_18 : decode cX16_isSameName 18 = .ok (.iload_n 2, 1) := by decide +kernel
theorem dX16_isSameName_19 : decode cX16_isSameName 19 = .ok (.iaload, 1) := by decide +kernel
theorem dX16_isSameName_20 : decode cX16_isSameName 20 = .ok (.if_icmp .ne 7, 3) := by decide +kernel
theorem dX16_isSameName_23 : decode cX16_isSameName 23 = .ok (.iconst 1, 1) := by decide +kernel
theorem dX16_isSameName_24 : decode cX16_isSameName 24 = .ok (.goto 4, 3) := by decide +kernel
theorem dX16_isSameName_27 : decode cX16_isSameName 27 = .ok (.iconst 0, 1) := by decide +kernel
theorem dX16_isSameName_28 : decode cX16_isSameName 28 = .ok (.istore 4, 2) := by decide +kernel
theorem dX16_isSameName_30 : decode cX16_isSameName 30 = .ok (.iconst 0, 1) := by decide +kernel
theorem dX16_isSameName_31 : decode cX16_isSameName 31 = .ok (.istore 5, 2) := by decide +kernel
theorem dX16_isSameName_33 : decode cX16_isSameName 33 = .ok (.iload 5, 2) := by decide +kernel
theorem dX16_isSameName_35 : decode cX16_isSameName 35 = .ok (.iload_n 3, 1) := by decide +kernel
theorem dX16_isSameName_36 : decode cX16_isSameName 36 = .ok (.if_icmp .ge 62, 3) := by decide +kernel
theorem dX16_isSameName_39 : decode cX16_isSameName 39 = .ok (.iload 4, 2) := by decide +kernel
theorem dX16_isSameName_41 : decode cX16_isSameName 41 = .ok (.ifCond .eq 57, 3) := by decide +kernel
theorem dX16_isSameName_44 : decode cX16_isSameName 44 = .ok (.aload_n 0, 1) := by decide +kernel
theorem dX16_isSameName_45 : decode cX16_isSameName 45 = .ok (.getfield 221, 3) := by decide +kernel
theorem dX16_isSameName_48 : decode cX16_isSameName 48 = .ok (.aload_n 0, 1) := by decide +kernel
theorem dX16_isSameName_49 : decode cX16_isSameName 49 = .ok (.getfield 221, 3) := by decide +kernel
theorem dX16_isSameName_52 : decode cX16_isSameName 52 = .ok (.getfield 469, 3) := by decide +kernel
theorem dX16_isSameName_55 : decode cX16_isSameName 55 = .ok (.iload_n 1, 1) := by decide +kernel
theorem dX16_isSameName_56 : decode cX16_isSameName 56 = .ok (.iaload, 1) := by decide +kernel
theorem dX16_isSameName_57 : decode cX16_isSameName 57 = .ok (.iload 5, 2) := by decide +kernel
theorem dX16_isSameName_59 : decode cX16_isSameName 59 = .ok (.iadd, 1) := by decide +kernel
theorem dX16_isSameName_60 : decode cX16_isSameName 60 = .ok (.invokevirtual 261, 3) := by decide +kernel
theorem dX16_isSameName_63 : decode cX16_isSameName 63 = .ok (.aload_n 0, 1) := by decide +kernel
theorem dX16_isSameName_64 : decode cX16_isSameName 64 = .ok (.getfield 221, 3) := by decide +kernel
theorem dX16_isSameName_67 : decode cX16_isSameName 67 = .ok (.aload_n 0, 1) := by decide +kernel
theorem dX16_isSameName_68 : decode cX16_isSameName 68 = .ok (.getfield 221, 3) := by decide +kernel
theorem dX16_isSameName_71 : decode cX16_isSameName 71 = .ok (.getfield 469, 3) := by decide +kernel
theorem dX16_isSameName_74 : decode cX16_isSameName 74 = .ok (.iload_n 2, 1) := by decide +kernel
theorem dX16_isSameName_75 : decode cX16_isSameName 75 = .ok (.iaload, 1) := by decide +kernel
theorem dX16_isSameName_76 : decode cX16_isSameName 76 = .ok (.iload 5, 2) := by decide +kernel
theorem dX16_isSameName_78 : decode cX16_isSameName 78 = .ok (.iadd, 1) := by decide +kernel
theorem dX16_isSameName_79 : decode cX16_isSameName 79 = .ok (.invokevirtual 261, 3) := by decide +kernel
theorem dX16_isSameName_82 : decode cX16_isSameName 82 = .ok (.if_icmp .ne 7, 3) := by decide +kernel
theorem dX16_isSameName_85 : decode cX16_isSameName 85 = .ok (.iconst 1, 1) := by decide +kernel
theorem dX16_isSameName_86 : decode cX16_isSameName 86 = .ok (.goto 4, 3) := by decide +kernel
theorem dX16_isSameName_89 : decode cX16_isSameName 89 = .ok (.iconst 0, 1) := by decide +kernel
theorem dX16_isSameName_90 : decode cX16_isSameName 90 = .ok (.istore 4, 2) := by decide +kernel
theorem dX16_isSameName_92 : decode cX16_isSameName 92 = .ok (.iinc 5 1, 3) := by decide +kernel
theorem dX16_isSameName_95 : decode cX16_isSameName 95 = .ok (.goto (-62), 3) := by decide +kernel
theorem dX16_isSameName_98 : decode cX16_isSameName 98 = .ok (.iload 4, 2) := by decide +kernel
theorem dX16_isSameName_100 : decode cX16_isSameName 100 = .ok (.ireturn, 1) := by decide +kernel
def tX16_isSameName_33 (h : pm_H) (x0 : Nat) (x1 : Int32) (x2 : Int32) (x3 : Int32) (x4 : Int32) (x5 : Int32) : Option (((Nat × Int32 × Int32 × Int32 × Int32 × Int32)) ⊕ Int32) := if x3 ≤ x5 then (if x4 = 0 ∨ x4 = 1 then some (.inr (x4)) else none) else (if x4 = 0 then (if x4 = 0 ∨ x4 = 1 then some (.inr (x4)) else none) else (if pm_kd h x0 = 16 then (pm_R h x0 10).bind fun v18 => if pm_kd h v18 = 14 then (pm_R h v18 29).bind fun v21 => if pm_kd h v21 = 34 then if pm_in x1 (pm_ln h v21) then (fX14_at h v18 ((pm_I h v21 x1.toNatClampNeg) + x5)).bind fun v25 => if pm_in x2 (pm_ln h v21) then (fX14_at h v18 ((pm_I h v21 x2.toNatClampNeg) + x5)).bind fun v28 => if v25 = v28 then (pm_let (x5 + 1) fun y33 => some (.inl ((x0, x1, x2, x3, 1, y33)))) else (pm_let (x5 + 1) fun y31 => some (.inl ((x0, x1, x2, x3, 0, y31)))) else none else none else none else none else none))
def sX16_isSameName (h : pm_H) : ((Nat × Int32 × Int32 × Int32 × Int32 × Int32)) → Option (((Nat × Int32 × Int32 × Int32 × Int32 × Int32)) ⊕ Int32) := fun z => match z with
  | (x0, x1, x2, x3, x4, x5) => tX16_isSameName_33 h x0 x1 x2 x3 x4 x5
noncomputable def fX16_isSameName (h : pm_H) (a0 : Nat) (p1 : Int32) (p2 : Int32) : Option Int32 := if pm_kd h a0 = 16 then (pm_R h a0 10).bind fun v2 => if pm_kd h v2 = 14 then (pm_R h v2 30).bind fun v5 => if pm_kd h v5 = 34 then if pm_in p1 (pm_ln h v5) then pm_let (pm_I h v5 p1.toNatClampNeg) fun y9 => if pm_in p2 (pm_ln h v5) then if y9 = (pm_I h v5 p2.toNatClampNeg) then (pm_lim (sX16_isSameName h) ((a0, p1, p2, y9, 1, 0))) else (pm_lim (sX16_isSameName h) ((a0, p1, p2, y9, 0, 0))) else none else none else none else none else none
set_option maxHeartbeats 4000000 in
set_option maxRecDepth 100000 in
theorem lpX16_isSameName {g : pm_Gm} {l : Launch} {G : pm_Gl} {Qr : Option Value → pm_H → Prop} (C : pm_C g cX16_isSameName RX16) (X : pm_X g l G mX16_isSameName 0 0 Qr) {h : pm_H} {r : Int32} (q : Qr (some (.int r)) h) : ∀ n : Nat, (∀ (x0 : Nat) (x1 : Int32) (x2 : Int32) (x3 : Int32) (x4 : Int32) (x5 : Int32), pm_iter (sX16_isSameName h) n (x0, x1, x2, x3, x4, x5) = some r → pm_G g 33 [(0, .ref x0), (1, .int x1), (2, .int x2), (3, .int x3), (4, .int x4), (5, .int x5)] [] h 0 0) := by
  intro n
  induction n with
  | zero => exact fun _ _ _ _ _ _ hf => (by cases hf)
  | succ n ih =>
    refine fun x0 x1 x2 x3 x4 x5 hf => ?_
    obtain ⟨y, hf, hi⟩ := pm_iter_s hf
    have hf : tX16_isSameName_33 h x0 x1 x2 x3 x4 x5 = some y := hf
    unfold tX16_isSameName_33 at hf
    refine pm_iload C dX16_isSameName_33 rfl ?_
    refine pm_iload_n C dX16_isSameName_35 rfl rfl ?_
    refine pm_icmp_ge (tgt := 98) C dX16_isSameName_36 (by decide) (fun c13 => ?_) (fun c13 => ?_)
    · have hf := pm_it hf c13
      refine pm_iload C dX16_isSameName_98 rfl ?_
      obtain ⟨u14, hf⟩ := pm_if hf
      cases hf
      cases hi
      exact pm_zret C X dX16_isSameName_100 rfl (pm_b01 u14).1 (Nat.le_refl _) (Nat.le_refl _) q
    · have hf := pm_ie hf c13
      refine pm_iload C dX16_isSameName_39 rfl ?_
      refine pm_if_eq (tgt := 98) C dX16_isSameName_41 (by decide) (fun c15 => ?_) (fun c15 => ?_)
      · have hf := pm_it hf c15
        refine pm_iload C dX16_isSameName_98 rfl ?_
        obtain ⟨u16, hf⟩ := pm_if hf
        cases hf
        cases hi
        exact pm_zret C X dX16_isSameName_100 rfl (pm_b01 u16).1 (Nat.le_refl _) (Nat.le_refl _) q
      · have hf := pm_ie hf c15
        refine pm_aload_n C dX16_isSameName_44 rfl rfl ?_
        obtain ⟨k17, hf⟩ := pm_if hf
        obtain ⟨v18, e19, hf⟩ := pm_bd hf
        refine pm_getR C dX16_isSameName_45 flX16_221 rfl k17 e19 ?_
        refine pm_aload_n C dX16_isSameName_48 rfl rfl ?_
        refine pm_getR C dX16_isSameName_49 flX16_221 rfl k17 e19 ?_
        obtain ⟨k20, hf⟩ := pm_if hf
        obtain ⟨v21, e22, hf⟩ := pm_bd hf
        refine pm_getR C dX16_isSameName_52 flX16_469 rfl k20 e22 ?_
        refine pm_iload_n C dX16_isSameName_55 rfl rfl ?_
        obtain ⟨k23, hf⟩ := pm_if hf
        obtain ⟨u24, hf⟩ := pm_if hf
        refine pm_iald C dX16_isSameName_56 k23 u24 rfl ?_
        refine pm_iload C dX16_isSameName_57 rfl ?_
        refine pm_iadd C dX16_isSameName_59 ?_
        obtain ⟨v25, e26, hf⟩ := pm_bd hf
        refine pm_callV (as := [.int ((pm_I h v21 x1.toNatClampNeg) + x5)]) (st := []) C X dX16_isSameName_60 lnX16_261 myX14_at viX14_at ⟨by decide, by decide⟩ rfl rfl k20 (Nat.le_of_ble_eq_true rfl) (Nat.le_refl _) (Nat.le_refl _) (ctX14_at e26 ?_)
        show pm_G g 63 [(0, .ref x0), (1, .int x1), (2, .int x2), (3, .int x3), (4, .int x4), (5, .int x5)] [.int v25] h 0 0
        refine pm_aload_n C dX16_isSameName_63 rfl rfl ?_
        refine pm_getR C dX16_isSameName_64 flX16_221 rfl k17 e19 ?_
        refine pm_aload_n C dX16_isSameName_67 rfl rfl ?_
        refine pm_getR C dX16_isSameName_68 flX16_221 rfl k17 e19 ?_
        refine pm_getR C dX16_isSameName_71 flX16_469 rfl k20 e22 ?_
        refine pm_iload_n C dX16_isSameName_74 rfl rfl ?_
        obtain ⟨u27, hf⟩ := pm_if hf
        refine pm_iald C dX16_isSameName_75 k23 u27 rfl ?_
        refine pm_iload C dX16_isSameName_76 rfl ?_
        refine pm_iadd C dX16_isSameName_78 ?_
        obtain ⟨v28, e29, hf⟩ := pm_bd hf
        refine pm_callV (as := [.int ((pm_I h v21 x2.toNatClampNeg) + x5)]) (st := [.int v25]) C X dX16_isSameName_79 lnX16_261 myX14_at viX14_at ⟨by decide, by decide⟩ rfl rfl k20 (Nat.le_of_ble_eq_true rfl) (Nat.le_refl _) (Nat.le_refl _) (ctX14_at e29 ?_)
        show pm_G g 82 [(0, .ref x0), (1, .int x1), (2, .int x2), (3, .int x3), (4, .int x4), (5, .int x5)] [.int v28, .int v25] h 0 0
        refine pm_icmp_ne (tgt := 89) C dX16_isSameName_82 (by decide) (fun c30 => ?_) (fun c30 => ?_)
        · have hf := pm_ie hf c30
          refine pm_iconst (v := 0) C dX16_isSameName_89 (by decide) ?_
          refine pm_istore (lv' := [(4, .int 0), (0, .ref x0), (1, .int x1), (2, .int x2), (3, .int x3), (5, .int x5)]) C dX16_isSameName_90 (pm_nl X (by decide)) rfl ?_
          obtain ⟨y31, e32, hf⟩ := pm_lt hf
          refine pm_iinc (v := y31) (lv' := [(5, .int y31), (4, .int 0), (0, .ref x0), (1, .int x1), (2, .int x2), (3, .int x3)]) C dX16_isSameName_92 rfl ((congrArg (x5 + ·) (by decide : Int32.ofInt 1 = 1)).trans e32) (pm_nl X (by decide)) rfl ?_
          refine pm_goto (tgt := 33) C dX16_isSameName_95 (by decide) ?_
          cases hf
          exact pm_sub [2, 3, 4, 5, 1, 0] rfl (ih x0 x1 x2 x3 0 y31 hi)
        · have hf := pm_it hf c30
          refine pm_iconst (v := 1) C dX16_isSameName_85 (by decide) ?_
          refine pm_goto (tgt := 90) C dX16_isSameName_86 (by decide) ?_
          refine pm_istore (lv' := [(4, .int 1), (0, .ref x0), (1, .int x1), (2, .int x2), (3, .int x3), (5, .int x5)]) C dX16_isSameName_90 (pm_nl X (by decide)) rfl ?_
          obtain ⟨y33, e34, hf⟩ := pm_lt hf
          refine pm_iinc (v := y33) (lv' := [(5, .int y33), (4, .int 1), (0, .ref x0), (1, .int x1), (2, .int x2), (3, .int x3)]) C dX16_isSameName_92 rfl ((congrArg (x5 + ·) (by decide : Int32.ofInt 1 = 1)).trans e34) (pm_nl X (by decide)) rfl ?_
          refine pm_goto (tgt := 33) C dX16_isSameName_95 (by decide) ?_
          cases hf
          exact pm_sub [2, 3, 4, 5, 1, 0] rfl (ih x0 x1 x2 x3 1 y33 hi)
set_option maxHeartbeats 4000000 in
set_option maxRecDepth 100000 in
theorem ctX16_isSameName {l : Launch} {G : pm_Gl} {h : pm_H} {a0 : Nat} {p1 : Int32} {p2 : Int32} {r : Int32} {Qr : Option Value → pm_H → Prop} (hf : fX16_isSameName h a0 p1 p2 = some r) (q : Qr (some (.int r)) h) : pm_Ct l G mX16_isSameName [.ref a0, .int p1, .int p2] h 0 0 Qr := by
  refine pm_body pnX16 (Nat.le_of_ble_eq_true rfl) (fun g C X => ?_)
  have C : pm_C g cX16_isSameName RX16 := C
  show pm_G g 0 [(0, .ref a0), (1, .int p1), (2, .int p2)] [] h 0 0
  unfold fX16_isSameName at hf
  refine pm_aload_n C dX16_isSameName_0 rfl rfl ?_
  obtain ⟨k1, hf⟩ := pm_if hf
  obtain ⟨v2, e3, hf⟩ := pm_bd hf
  refine pm_getR C dX16_isSameName_1 flX16_221 rfl k1 e3 ?_
  obtain ⟨k4, hf⟩ := pm_if hf
  obtain ⟨v5, e6, hf⟩ := pm_bd hf
  refine pm_getR C dX16_isSameName_4 flX16_472 rfl k4 e6 ?_
  refine pm_iload_n C dX16_isSameName_7 rfl rfl ?_
  obtain ⟨k7, hf⟩ := pm_if hf
  obtain ⟨u8, hf⟩ := pm_if hf
  refine pm_iald C dX16_isSameName_8 k7 u8 rfl ?_
  obtain ⟨y9, e10, hf⟩ := pm_lt hf
  refine pm_topI e10 ?_
  refine pm_istore_n (lv' := [(3, .int y9), (0, .ref a0), (1, .int p1), (2, .int p2)]) C dX16_isSameName_9 rfl (pm_nl X (by decide)) rfl ?_
  refine pm_iload_n C dX16_isSameName_10 rfl rfl ?_
  refine pm_aload_n C dX16_isSameName_11 rfl rfl ?_
  refine pm_getR C dX16_isSameName_12 flX16_221 rfl k1 e3 ?_
  refine pm_getR C dX16_isSameName_15 flX16_472 rfl k4 e6 ?_
  refine pm_iload_n C dX16_isSameName_18 rfl rfl ?_
  obtain ⟨u11, hf⟩ := pm_if hf
  refine pm_iald C dX16_isSameName_19 k7 u11 rfl ?_
  refine pm_icmp_ne (tgt := 27) C dX16_isSameName_20 (by decide) (fun c12 => ?_) (fun c12 => ?_)
  · have hf := pm_ie hf c12
    refine pm_iconst (v := 0) C dX16_isSameName_27 (by decide) ?_
    refine pm_istore (lv' := [(4, .int 0), (3, .int y9), (0, .ref a0), (1, .int p1), (2, .int p2)]) C dX16_isSameName_28 (pm_nl X (by decide)) rfl ?_
    refine pm_iconst (v := 0) C dX16_isSameName_30 (by decide) ?_
    refine pm_istore (lv' := [(5, .int 0), (4, .int 0), (3, .int y9), (0, .ref a0), (1, .int p1), (2, .int p2)]) C dX16_isSameName_31 (pm_nl X (by decide)) rfl ?_
    obtain ⟨n, hn⟩ := pm_lim_iter hf
    exact pm_sub [3, 4, 5, 2, 1, 0] rfl ((lpX16_isSameName C X q n) a0 p1 p2 y9 0 0 hn)
  · have hf := pm_it hf c12
    refine pm_iconst (v := 1) C dX16_isSameName_23 (by decide) ?_
    refine pm_goto (tgt := 28) C dX16_isSameName_24 (by decide) ?_
    refine pm_istore (lv' := [(4, .int 1), (3, .int y9), (0, .ref a0), (1, .int p1), (2, .int p2)]) C dX16_isSameName_28 (pm_nl X (by decide)) rfl ?_
    refine pm_iconst (v := 0) C dX16_isSameName_30 (by decide) ?_
    refine pm_istore (lv' := [(5, .int 0), (4, .int 1), (3, .int y9), (0, .ref a0), (1, .int p1), (2, .int p2)]) C dX16_isSameName_31 (pm_nl X (by decide)) rfl ?_
    obtain ⟨n, hn⟩ := pm_lim_iter hf
    exact pm_sub [3, 4, 5, 2, 1, 0] rfl ((lpX16_isSameName C X q n) a0 p1 p2 y9 1 0 hn)
theorem dX16_isType_0 : decode cX16_isType 0 = .ok (.iload_n 0, 1) := by decide +kernel
theorem dX16_isType_1 : decode cX16_isType 1 = .ok (.invokestatic 270, 3) := by decide +kernel
theorem dX16_isType_4 : decode cX16_isType 4 = .ok (.ifCond .ne 15, 3) := by decide +kernel
theorem dX16_isType_7 : decode cX16_isType 7 = .ok (.iload_n 0, 1) := by decide +kernel
theorem dX16_isType_8 : decode cX16_isType 8 = .ok (.bipush 124, 2) := by decide +kernel
theorem dX16_isType_10 : decode cX16_isType 10 = .ok (.if_icmp .lt 13, 3) := by decide +kernel
theorem dX16_isType_13 : decode cX16_isType 13 = .ok (.iload_n 0, 1) := by decide +kernel
theorem dX16_isType_14 : decode cX16_isType 14 = .ok (.bipush 127, 2) := by decide +kernel
theorem dX16_isType_16 : decode cX16_isType 16 = .ok (.if_icmp .gt 7, 3) := by decide +kernel
theorem dX16_isType_19 : decode cX16_isType 19 = .ok (.iconst 1, 1) := by decide +kernel
theorem dX16_isType_20 : decode cX16_isType 20 = .ok (.goto 4, 3) := by decide +kernel
theorem dX16_isType_23 : decode cX16_isType 23 = .ok (.iconst 0, 1) := by decide +kernel
theorem dX16_isType_24 : decode cX16_isType 24 = .ok (.ireturn, 1) := by decide +kernel
def fX16_isType (p1 : Int32) : Int32 := pm_let (fX16_isReference p1) fun v1 => if v1 = 0 then (if p1 < 124 then (0) else (if 127 < p1 then (0) else (1))) else (1)
set_option maxHeartbeats 4000000 in
set_option maxRecDepth 100000 in
theorem ctX16_isType {l : Launch} {G : pm_Gl} {h : pm_H} {p1 : Int32} {r : Int32} {Qr : Option Value → pm_H → Prop} (hf : fX16_isType p1 = r) (q : Qr (some (.int r)) h) : pm_Ct l G mX16_isType [.int p1] h 0 0 Qr := by
  refine pm_body pnX16 (Nat.le_of_ble_eq_true rfl) (fun g C X => ?_)
  have C : pm_C g cX16_isType RX16 := C
  show pm_G g 0 [(0, .int p1)] [] h 0 0
  unfold fX16_isType at hf
  refine pm_iload_n C dX16_isType_0 rfl rfl ?_
  obtain ⟨v1, e2, hf⟩ := pm_lt hf
  refine pm_callS (as := [.int p1]) (st := []) C X dX16_isType_1 lnX16_270 myX16_isReference stX16_isReference ⟨by decide, by decide⟩ rfl rfl (Nat.le_of_ble_eq_true rfl) (Nat.le_refl _) (Nat.le_refl _) (ctX16_isReference e2 ?_)
  show pm_G g 4 [(0, .int p1)] [.int v1] h 0 0
  refine pm_if_ne (tgt := 19) C dX16_isType_4 (by decide) (fun c3 => ?_) (fun c3 => ?_)
  · have hf := pm_ie hf c3
    refine pm_iconst (v := 1) C dX16_isType_19 (by decide) ?_
    refine pm_goto (tgt := 24) C dX16_isType_20 (by decide) ?_
    subst hf
    exact pm_zret C X dX16_isType_24 rfl (by decide) (Nat.le_refl _) (Nat.le_refl _) q
  · have hf := pm_it hf c3
    refine pm_iload_n C dX16_isType_7 rfl rfl ?_
    refine pm_bipush (v := 124) C dX16_isType_8 (by decide) ?_
    refine pm_icmp_lt (tgt := 23) C dX16_isType_10 (by decide) (fun c4 => ?_) (fun c4 => ?_)
    · have hf := pm_it hf c4
      refine pm_iconst (v := 0) C dX16_isType_23 (by decide) ?_
      subst hf
      exact pm_zret C X dX16_isType_24 rfl (by decide) (Nat.le_refl _) (Nat.le_refl _) q
    · have hf := pm_ie hf c4
      refine pm_iload_n C dX16_isType_13 rfl rfl ?_
      refine pm_bipush (v := 127) C dX16_isType_14 (by decide) ?_
      refine pm_icmp_gt (tgt := 23) C dX16_isType_16 (by decide) (fun c5 => ?_) (fun c5 => ?_)
      · have hf := pm_it hf c5
        refine pm_iconst (v := 0) C dX16_isType_23 (by decide) ?_
        subst hf
        exact pm_zret C X dX16_isType_24 rfl (by decide) (Nat.le_refl _) (Nat.le_refl _) q
      · have hf := pm_ie hf c5
        refine pm_iconst (v := 1) C dX16_isType_19 (by decide) ?_
        refine pm_goto (tgt := 24) C dX16_isType_20 (by decide) ?_
        subst hf
        exact pm_zret C X dX16_isType_24 rfl (by decide) (Nat.le_refl _) (Nat.le_refl _) q
theorem dX16_isWhole_0 : decode cX16_isWhole 0 = .ok (.iload_n 0, 1) := by decide +kernel
theorem dX16_isWhole_1 : decode cX16_isWhole 1 = .ok (.tableswitch 159 0 8 #[51, 65, 79, 91, 99, 111, 119, 131, 147], 51) := by decide +kernel
theorem dX16_isWhole_52 : decode cX16_isWhole 52 = .ok (.lload 5, 2) := by decide +kernel
theorem dX16_isWhole_54 : decode cX16_isWhole 54 = .ok (.lload 7, 2) := by decide +kernel
theorem dX16_isWhole_56 : decode cX16_isWhole 56 = .ok (.lcmp, 1) := by decide +kernel
theorem dX16_isWhole_57 : decode cX16_isWhole 57 = .ok (.ifCond .ne 7, 3) := by decide +kernel
theorem dX16_isWhole_60 : decode cX16_isWhole 60 = .ok (.iconst 1, 1) := by decide +kernel
theorem dX16_isWhole_61 : decode cX16_isWhole 61 = .ok (.goto 4, 3) := by decide +kernel
theorem dX16_isWhole_64 : decode cX16_isWhole 64 = .ok (.iconst 0, 1) := by decide +kernel
theorem dX16_isWhole_65 : decode cX16_isWhole 65 = .ok (.ireturn, 1) := by decide +kernel
theorem dX16_isWhole_66 : decode cX16_isWhole 66 = .ok (.lload 5, 2) := by decide +kernel
theorem dX16_isWhole_68 : decode cX16_isWhole 68 = .ok (.lload 7, 2) := by decide +kernel
theorem dX16_isWhole_70 : decode cX16_isWhole 70 = .ok (.lcmp, 1) := by decide +kernel
theorem dX16_isWhole_71 : decode cX16_isWhole 71 = .ok (.ifCond .eq 7, 3) := by decide +kernel
theorem dX16_isWhole_74 : decode cX16_isWhole 74 = .ok (.iconst 1, 1) := by decide +kernel
theorem dX16_isWhole_75 : decode cX16_isWhole 75 = .ok (.goto 4, 3) := by decide +kernel
theorem dX16_isWhole_78 : decode cX16_isWhole 78 = .ok (.iconst 0, 1) := by decide +kernel
theorem dX16_isWhole_79 : decode cX16_isWhole 79 = .ok (.ireturn, 1) := by decide +kernel
theorem dX16_isWhole_80 : decode cX16_isWhole 80 = .ok (.lload_n 1, 1) := by decide +kernel
theorem dX16_isWhole_81 : decode cX16_isWhole 81 = .ok (.lload_n 3, 1) := by decide +kernel
theorem dX16_isWhole_82 : decode cX16_isWhole 82 = .ok (.lcmp, 1) := by decide +kernel
theorem dX16_isWhole_83 : decode cX16_isWhole 83 = .ok (.ifCond .ge 7, 3) := by decide +kernel
theorem dX16_isWhole_86 : decode cX16_isWhole 86 = .ok (.iconst 1, 1) := by decide +kernel
theorem dX16_isWhole_87 : decode cX16_isWhole 87 = .ok (.goto 4, 3) := by decide +kernel
theorem dX16_isWhole_90 : decode cX16_isWhole 90 = .ok (.iconst 0, 1) := by decide +kernel
theorem dX16_isWhole_91 : decode cX16_isWhole 91 = .ok (.ireturn, 1) := by decide +kernel
theorem dX16_isWhole_92 : decode cX16_isWhole 92 = .ok (.lload 5, 2) := by decide +kernel
theorem dX16_isWhole_94 : decode cX16_isWhole 94 = .ok (.lload 7, 2) := by decide +kernel
theorem dX16_isWhole_96 : decode cX16_isWhole 96 = .ok (.invokestatic 827, 3) := by decide +kernel
theorem dX16_isWhole_99 : decode cX16_isWhole 99 = .ok (.ireturn, 1) := by decide +kernel
theorem dX16_isWhole_100 : decode cX16_isWhole 100 = .ok (.lload_n 1, 1) := by decide +kernel
theorem dX16_isWhole_101 : decode cX16_isWhole 101 = .ok (.lload_n 3, 1) := by decide +kernel
theorem dX16_isWhole_102 : decode cX16_isWhole 102 = .ok (.lcmp, 1) := by decide +kernel
theorem dX16_isWhole_103 : decode cX16_isWhole 103 = .ok (.ifCond .le 7, 3) := by decide +kernel
theorem dX16_isWhole_106 : decode cX16_isWhole 106 = .ok (.iconst 1, 1) := by decide +kernel
theorem dX16_isWhole_107 : decode cX16_isWhole 107 = .ok (.goto 4, 3) := by decide +kernel
theorem dX16_isWhole_110 : decode cX16_isWhole 110 = .ok (.iconst 0, 1) := by decide +kernel
theorem dX16_isWhole_111 : decode cX16_isWhole 111 = .ok (.ireturn, 1) := by decide +kernel
theorem dX16_isWhole_112 : decode cX16_isWhole 112 = .ok (.lload 7, 2) := by decide +kernel
theorem dX16_isWhole_114 : decode cX16_isWhole 114 = .ok (.lload 5, 2) := by decide +kernel
theorem dX16_isWhole_116 : decode cX16_isWhole 116 = .ok (.invokestatic 827, 3) := by decide +kernel
theorem dX16_isWhole_119 : decode cX16_isWhole 119 = .ok (.ireturn, 1) := by decide +kernel
theorem dX16_isWhole_120 : decode cX16_isWhole 120 = .ok (.lload_n 1, 1) := by decide +kernel
theorem dX16_isWhole_121 : decode cX16_isWhole 121 = .ok (.lload_n 3, 1) := by decide +kernel
theorem dX16_isWhole_122 : decode cX16_isWhole 122 = .ok (.lcmp, 1) := by decide +kernel
theorem dX16_isWhole_123 : decode cX16_isWhole 123 = .ok (.ifCond .gt 7, 3) := by decide +kernel
theorem dX16_isWhole_126 : decode cX16_isWhole 126 = .ok (.iconst 1, 1) := by decide +kernel
theorem dX16_isWhole_127 : decode cX16_isWhole 127 = .ok (.goto 4, 3) := by decide +kernel
theorem dX16_isWhole_130 : decode cX16_isWhole 130 = .ok (.iconst 0, 1) := by decide +kernel
theorem dX16_isWhole_131 : decode cX16_isWhole 131 = .ok (.ireturn, 1) := by decide +kernel
theorem dX16_isWhole_132 : decode cX16_isWhole 132 = .ok (.lload 7, 2) := by decide +kernel
theorem dX16_isWhole_134 : decode cX16_isWhole 134 = .ok (.lload 5, 2) := by decide +kernel
theorem dX16_isWhole_136 : decode cX16_isWhole 136 = .ok (.invokestatic 827, 3) := by decide +kernel
theorem dX16_isWhole_139 : decode cX16_isWhole 139 = .ok (.ifCond .ne 7, 3) := by decide +kernel
theorem dX16_isWhole_142 : decode cX16_isWhole 142 = .ok (.iconst 1, 1) := by decide +kernel
theorem dX16_isWhole_143 : decode cX16_isWhole 143 = .ok (.goto 4, 3) := by decide +kernel
theorem dX16_isWhole_146 : decode cX16_isWhole 146 = .ok (.iconst 0, 1) := by decide +kernel
theorem dX16_isWhole_147 : decode cX16_isWhole 147 = .ok (.ireturn, 1) := by decide +kernel
theorem dX16_isWhole_148 : decode cX16_isWhole 148 = .ok (.lload_n 1, 1) := by decide +kernel
theorem dX16_isWhole_149 : decode cX16_isWhole 149 = .ok (.lload_n 3, 1) := by decide +kernel
theorem dX16_isWhole_150 : decode cX16_isWhole 150 = .ok (.lcmp, 1) := by decide +kernel
theorem dX16_isWhole_151 : decode cX16_isWhole 151 = .ok (.ifCond .lt 7, 3) := by decide +kernel
theorem dX16_isWhole_154 : decode cX16_isWhole 154 = .ok (.iconst 1, 1) := by decide +kernel
theorem dX16_isWhole_155 : decode cX16_isWhole 155 = .ok (.goto 4, 3) := by decide +kernel
theorem dX16_isWhole_158 : decode cX16_isWhole 158 = .ok (.iconst 0, 1) := by decide +kernel
theorem dX16_isWhole_159 : decode cX16_isWhole 159 = .ok (.ireturn, 1) := by decide +kernel
theorem dX16_isWhole_160 : decode cX16_isWhole 160 = .ok (.lload 5, 2) := by decide +kernel
theorem dX16_isWhole_162 : decode cX16_isWhole 162 = .ok (.lload 7, 2) := by decide +kernel
theorem dX16_isWhole_164 : decode cX16_isWhole 164 = .ok (.invokestatic 827, 3) := by decide +kernel
theorem dX16_isWhole_167 : decode cX16_isWhole 167 = .ok (.ifCond .ne 7, 3) := by decide +kernel
theorem dX16_isWhole_170 : decode cX16_isWhole 170 = .ok (.iconst 1, 1) := by decide +kernel
theorem dX16_isWhole_171 : decode cX16_isWhole 171 = .ok (.goto 4, 3) := by decide +kernel
theorem dX16_isWhole_174 : decode cX16_isWhole 174 = .ok (.iconst 0, 1) := by decide +kernel
theorem dX16_isWhole_175 : decode cX16_isWhole 175 = .ok (.ireturn, 1) := by decide +kernel
def fX16_isWhole (p1 : Int32) (p2 : Int64) (p3 : Int64) (p4 : Int64) (p5 : Int64) : Option Int32 := if p1 = 0 then (if p4 = p5 then (some 1) else (some 0)) else (if p1 = 1 then (if p4 = p5 then (some 0) else (some 1)) else (if p1 = 2 then (if p3 ≤ p2 then (some 0) else (some 1)) else (if p1 = 3 then (pm_let (fX16_isBelow p4 p5) fun v8 => if v8 = 0 ∨ v8 = 1 then some v8 else none) else (if p1 = 4 then (if p2 ≤ p3 then (some 0) else (some 1)) else (if p1 = 5 then (pm_let (fX16_isBelow p5 p4) fun v14 => if v14 = 0 ∨ v14 = 1 then some v14 else none) else (if p1 = 6 then (if p3 < p2 then (some 0) else (some 1)) else (if p1 = 7 then (pm_let (fX16_isBelow p5 p4) fun v20 => if v20 = 0 then (some 1) else (some 0)) else (if p1 = 8 then (if p2 < p3 then (some 0) else (some 1)) else (pm_let (fX16_isBelow p4 p5) fun v25 => if v25 = 0 then (some 1) else (some 0))))))))))
set_option maxHeartbeats 4000000 in
set_option maxRecDepth 100000 in
theorem ctX16_isWhole {l : Launch} {G : pm_Gl} {h : pm_H} {p1 : Int32} {p2 : Int64} {p3 : Int64} {p4 : Int64} {p5 : Int64} {r : Int32} {Qr : Option Value → pm_H → Prop} (hf : fX16_isWhole p1 p2 p3 p4 p5 = some r) (q : Qr (some (.int r)) h) : pm_Ct l G mX16_isWhole [.int p1, .long p2, .long p3, .long p4, .long p5] h 0 0 Qr := by
  refine pm_body pnX16 (Nat.le_of_ble_eq_true rfl) (fun g C X => ?_)
  have C : pm_C g cX16_isWhole RX16 := C
  show pm_G g 0 [(0, .int p1), (1, .long p2), (3, .long p3), (5, .long p4), (7, .long p5)] [] h 0 0
  unfold fX16_isWhole at hf
  refine pm_iload_n C dX16_isWhole_0 rfl rfl ?_
  by_cases c1 : p1 = 0
  · have hf := pm_it hf c1
    refine pm_tableIn (tgt := 52) C dX16_isWhole_1 (by rw [c1]; decide) (by rw [c1]; decide) (by rw [c1]; rfl) (by decide) ?_
    refine pm_lload C dX16_isWhole_52 rfl ?_
    refine pm_lload C dX16_isWhole_54 rfl ?_
    refine pm_lcmp C dX16_isWhole_56 ?_
    refine pm_if_ne (tgt := 64) C dX16_isWhole_57 (by decide) (fun c2 => ?_) (fun c2 => ?_)
    · have hf := pm_ie hf ((fun z => c2 ((pm_lg_eq _ _).mpr z)))
      refine pm_iconst (v := 0) C dX16_isWhole_64 (by decide) ?_
      cases hf
      exact pm_zret C X dX16_isWhole_65 rfl (by decide) (Nat.le_refl _) (Nat.le_refl _) q
    · have hf := pm_it hf ((pm_lg_eq _ _).mp c2)
      refine pm_iconst (v := 1) C dX16_isWhole_60 (by decide) ?_
      refine pm_goto (tgt := 65) C dX16_isWhole_61 (by decide) ?_
      cases hf
      exact pm_zret C X dX16_isWhole_65 rfl (by decide) (Nat.le_refl _) (Nat.le_refl _) q
  have hf := pm_ie hf c1
  by_cases c3 : p1 = 1
  · have hf := pm_it hf c3
    refine pm_tableIn (tgt := 66) C dX16_isWhole_1 (by rw [c3]; decide) (by rw [c3]; decide) (by rw [c3]; rfl) (by decide) ?_
    refine pm_lload C dX16_isWhole_66 rfl ?_
    refine pm_lload C dX16_isWhole_68 rfl ?_
    refine pm_lcmp C dX16_isWhole_70 ?_
    refine pm_if_eq (tgt := 78) C dX16_isWhole_71 (by decide) (fun c4 => ?_) (fun c4 => ?_)
    · have hf := pm_it hf ((pm_lg_eq _ _).mp c4)
      refine pm_iconst (v := 0) C dX16_isWhole_78 (by decide) ?_
      cases hf
      exact pm_zret C X dX16_isWhole_79 rfl (by decide) (Nat.le_refl _) (Nat.le_refl _) q
    · have hf := pm_ie hf ((fun z => c4 ((pm_lg_eq _ _).mpr z)))
      refine pm_iconst (v := 1) C dX16_isWhole_74 (by decide) ?_
      refine pm_goto (tgt := 79) C dX16_isWhole_75 (by decide) ?_
      cases hf
      exact pm_zret C X dX16_isWhole_79 rfl (by decide) (Nat.le_refl _) (Nat.le_refl _) q
  have hf := pm_ie hf c3
  by_cases c5 : p1 = 2
  · have hf := pm_it hf c5
    refine pm_tableIn (tgt := 80) C dX16_isWhole_1 (by rw [c5]; decide) (by rw [c5]; decide) (by rw [c5]; rfl) (by decide) ?_
    refine pm_lload_n C dX16_isWhole_80 rfl rfl ?_
    refine pm_lload_n C dX16_isWhole_81 rfl rfl ?_
    refine pm_lcmp C dX16_isWhole_82 ?_
    refine pm_if_ge (tgt := 90) C dX16_isWhole_83 (by decide) (fun c6 => ?_) (fun c6 => ?_)
    · have hf := pm_it hf ((pm_lg_ge _ _).mp c6)
      refine pm_iconst (v := 0) C dX16_isWhole_90 (by decide) ?_
      cases hf
      exact pm_zret C X dX16_isWhole_91 rfl (by decide) (Nat.le_refl _) (Nat.le_refl _) q
    · have hf := pm_ie hf ((fun z => c6 ((pm_lg_ge _ _).mpr z)))
      refine pm_iconst (v := 1) C dX16_isWhole_86 (by decide) ?_
      refine pm_goto (tgt := 91) C dX16_isWhole_87 (by decide) ?_
      cases hf
      exact pm_zret C X dX16_isWhole_91 rfl (by decide) (Nat.le_refl _) (Nat.le_refl _) q
  have hf := pm_ie hf c5
  by_cases c7 : p1 = 3
  · have hf := pm_it hf c7
    refine pm_tableIn (tgt := 92) C dX16_isWhole_1 (by rw [c7]; decide) (by rw [c7]; decide) (by rw [c7]; rfl) (by decide) ?_
    refine pm_lload C dX16_isWhole_92 rfl ?_
    refine pm_lload C dX16_isWhole_94 rfl ?_
    obtain ⟨v8, e9, hf⟩ := pm_lt hf
    refine pm_callS (as := [.long p4, .long p5]) (st := []) C X dX16_isWhole_96 lnX16_827 myX16_isBelow stX16_isBelow ⟨by decide, by decide⟩ rfl rfl (Nat.le_of_ble_eq_true rfl) (Nat.le_refl _) (Nat.le_refl _) (ctX16_isBelow e9 ?_)
    show pm_G g 99 [(0, .int p1), (1, .long p2), (3, .long p3), (5, .long p4), (7, .long p5)] [.int v8] h 0 0
    obtain ⟨u10, hf⟩ := pm_if hf
    cases hf
    exact pm_zret C X dX16_isWhole_99 rfl (pm_b01 u10).1 (Nat.le_refl _) (Nat.le_refl _) q
  have hf := pm_ie hf c7
  by_cases c11 : p1 = 4
  · have hf := pm_it hf c11
    refine pm_tableIn (tgt := 100) C dX16_isWhole_1 (by rw [c11]; decide) (by rw [c11]; decide) (by rw [c11]; rfl) (by decide) ?_
    refine pm_lload_n C dX16_isWhole_100 rfl rfl ?_
    refine pm_lload_n C dX16_isWhole_101 rfl rfl ?_
    refine pm_lcmp C dX16_isWhole_102 ?_
    refine pm_if_le (tgt := 110) C dX16_isWhole_103 (by decide) (fun c12 => ?_) (fun c12 => ?_)
    · have hf := pm_it hf ((pm_lg_le _ _).mp c12)
      refine pm_iconst (v := 0) C dX16_isWhole_110 (by decide) ?_
      cases hf
      exact pm_zret C X dX16_isWhole_111 rfl (by decide) (Nat.le_refl _) (Nat.le_refl _) q
    · have hf := pm_ie hf ((fun z => c12 ((pm_lg_le _ _).mpr z)))
      refine pm_iconst (v := 1) C dX16_isWhole_106 (by decide) ?_
      refine pm_goto (tgt := 111) C dX16_isWhole_107 (by decide) ?_
      cases hf
      exact pm_zret C X dX16_isWhole_111 rfl (by decide) (Nat.le_refl _) (Nat.le_refl _) q
  have hf := pm_ie hf c11
  by_cases c13 : p1 = 5
  · have hf := pm_it hf c13
    refine pm_tableIn (tgt := 112) C dX16_isWhole_1 (by rw [c13]; decide) (by rw [c13]; decide) (by rw [c13]; rfl) (by decide) ?_
    refine pm_lload C dX16_isWhole_112 rfl ?_
    refine pm_lload C dX16_isWhole_114 rfl ?_
    obtain ⟨v14, e15, hf⟩ := pm_lt hf
    refine pm_callS (as := [.long p5, .long p4]) (st := []) C X dX16_isWhole_116 lnX16_827 myX16_isBelow stX16_isBelow ⟨by decide, by decide⟩ rfl rfl (Nat.le_of_ble_eq_true rfl) (Nat.le_refl _) (Nat.le_refl _) (ctX16_isBelow e15 ?_)
    show pm_G g 119 [(0, .int p1), (1, .long p2), (3, .long p3), (5, .long p4), (7, .long p5)] [.int v14] h 0 0
    obtain ⟨u16, hf⟩ := pm_if hf
    cases hf
    exact pm_zret C X dX16_isWhole_119 rfl (pm_b01 u16).1 (Nat.le_refl _) (Nat.le_refl _) q
  have hf := pm_ie hf c13
  by_cases c17 : p1 = 6
  · have hf := pm_it hf c17
    refine pm_tableIn (tgt := 120) C dX16_isWhole_1 (by rw [c17]; decide) (by rw [c17]; decide) (by rw [c17]; rfl) (by decide) ?_
    refine pm_lload_n C dX16_isWhole_120 rfl rfl ?_
    refine pm_lload_n C dX16_isWhole_121 rfl rfl ?_
    refine pm_lcmp C dX16_isWhole_122 ?_
    refine pm_if_gt (tgt := 130) C dX16_isWhole_123 (by decide) (fun c18 => ?_) (fun c18 => ?_)
    · have hf := pm_it hf ((pm_lg_gt _ _).mp c18)
      refine pm_iconst (v := 0) C dX16_isWhole_130 (by decide) ?_
      cases hf
      exact pm_zret C X dX16_isWhole_131 rfl (by decide) (Nat.le_refl _) (Nat.le_refl _) q
    · have hf := pm_ie hf ((fun z => c18 ((pm_lg_gt _ _).mpr z)))
      refine pm_iconst (v := 1) C dX16_isWhole_126 (by decide) ?_
      refine pm_goto (tgt := 131) C dX16_isWhole_127 (by decide) ?_
      cases hf
      exact pm_zret C X dX16_isWhole_131 rfl (by decide) (Nat.le_refl _) (Nat.le_refl _) q
  have hf := pm_ie hf c17
  by_cases c19 : p1 = 7
  · have hf := pm_it hf c19
    refine pm_tableIn (tgt := 132) C dX16_isWhole_1 (by rw [c19]; decide) (by rw [c19]; decide) (by rw [c19]; rfl) (by decide) ?_
    refine pm_lload C dX16_isWhole_132 rfl ?_
    refine pm_lload C dX16_isWhole_134 rfl ?_
    obtain ⟨v20, e21, hf⟩ := pm_lt hf
    refine pm_callS (as := [.long p5, .long p4]) (st := []) C X dX16_isWhole_136 lnX16_827 myX16_isBelow stX16_isBelow ⟨by decide, by decide⟩ rfl rfl (Nat.le_of_ble_eq_true rfl) (Nat.le_refl _) (Nat.le_refl _) (ctX16_isBelow e21 ?_)
    show pm_G g 139 [(0, .int p1), (1, .long p2), (3, .long p3), (5, .long p4), (7, .long p5)] [.int v20] h 0 0
    refine pm_if_ne (tgt := 146) C dX16_isWhole_139 (by decide) (fun c22 => ?_) (fun c22 => ?_)
    · have hf := pm_ie hf c22
      refine pm_iconst (v := 0) C dX16_isWhole_146 (by decide) ?_
      cases hf
      exact pm_zret C X dX16_isWhole_147 rfl (by decide) (Nat.le_refl _) (Nat.le_refl _) q
    · have hf := pm_it hf c22
      refine pm_iconst (v := 1) C dX16_isWhole_142 (by decide) ?_
      refine pm_goto (tgt := 147) C dX16_isWhole_143 (by decide) ?_
      cases hf
      exact pm_zret C X dX16_isWhole_147 rfl (by decide) (Nat.le_refl _) (Nat.le_refl _) q
  have hf := pm_ie hf c19
  by_cases c23 : p1 = 8
  · have hf := pm_it hf c23
    refine pm_tableIn (tgt := 148) C dX16_isWhole_1 (by rw [c23]; decide) (by rw [c23]; decide) (by rw [c23]; rfl) (by decide) ?_
    refine pm_lload_n C dX16_isWhole_148 rfl rfl ?_
    refine pm_lload_n C dX16_isWhole_149 rfl rfl ?_
    refine pm_lcmp C dX16_isWhole_150 ?_
    refine pm_if_lt (tgt := 158) C dX16_isWhole_151 (by decide) (fun c24 => ?_) (fun c24 => ?_)
    · have hf := pm_it hf ((pm_lg_lt _ _).mp c24)
      refine pm_iconst (v := 0) C dX16_isWhole_158 (by decide) ?_
      cases hf
      exact pm_zret C X dX16_isWhole_159 rfl (by decide) (Nat.le_refl _) (Nat.le_refl _) q
    · have hf := pm_ie hf ((fun z => c24 ((pm_lg_lt _ _).mpr z)))
      refine pm_iconst (v := 1) C dX16_isWhole_154 (by decide) ?_
      refine pm_goto (tgt := 159) C dX16_isWhole_155 (by decide) ?_
      cases hf
      exact pm_zret C X dX16_isWhole_159 rfl (by decide) (Nat.le_refl _) (Nat.le_refl _) q
  have hf := pm_ie hf c23
  have nc1 := lv_neT c1 (by decide : (0 : Int32).toInt = 0)
  have nc3 := lv_neT c3 (by decide : (1 : Int32).toInt = 1)
  have nc5 := lv_neT c5 (by decide : (2 : Int32).toInt = 2)
  have nc7 := lv_neT c7 (by decide : (3 : Int32).toInt = 3)
  have nc11 := lv_neT c11 (by decide : (4 : Int32).toInt = 4)
  have nc13 := lv_neT c13 (by decide : (5 : Int32).toInt = 5)
  have nc17 := lv_neT c17 (by decide : (6 : Int32).toInt = 6)
  have nc19 := lv_neT c19 (by decide : (7 : Int32).toInt = 7)
  have nc23 := lv_neT c23 (by decide : (8 : Int32).toInt = 8)
  refine pm_tableOut (tgt := 160) C dX16_isWhole_1 (by omega) (by decide) ?_
  refine pm_lload C dX16_isWhole_160 rfl ?_
  refine pm_lload C dX16_isWhole_162 rfl ?_
  obtain ⟨v25, e26, hf⟩ := pm_lt hf
  refine pm_callS (as := [.long p4, .long p5]) (st := []) C X dX16_isWhole_164 lnX16_827 myX16_isBelow stX16_isBelow ⟨by decide, by decide⟩ rfl rfl (Nat.le_of_ble_eq_true rfl) (Nat.le_refl _) (Nat.le_refl _) (ctX16_isBelow e26 ?_)
  show pm_G g 167 [(0, .int p1), (1, .long p2), (3, .long p3), (5, .long p4), (7, .long p5)] [.int v25] h 0 0
  refine pm_if_ne (tgt := 174) C dX16_isWhole_167 (by decide) (fun c27 => ?_) (fun c27 => ?_)
  · have hf := pm_ie hf c27
    refine pm_iconst (v := 0) C dX16_isWhole_174 (by decide) ?_
    cases hf
    exact pm_zret C X dX16_isWhole_175 rfl (by decide) (Nat.le_refl _) (Nat.le_refl _) q
  · have hf := pm_it hf c27
    refine pm_iconst (v := 1) C dX16_isWhole_170 (by decide) ?_
    refine pm_goto (tgt := 175) C dX16_isWhole_171 (by decide) ?_
    cases hf
    exact pm_zret C X dX16_isWhole_175 rfl (by decide) (Nat.le_refl _) (Nat.le_refl _) q
theorem dX16_kept_0 : decode cX16_kept 0 = .ok (.aload_n 0, 1) := by decide +kernel
theorem dX16_kept_1 : decode cX16_kept 1 = .ok (.lload_n 1, 1) := by decide +kernel
theorem dX16_kept_2 : decode cX16_kept 2 = .ok (.ldc2_w 363, 3) := by decide +kernel
theorem dX16_kept_5 : decode cX16_kept 5 = .ok (.lcmp, 1) := by decide +kernel
theorem dX16_kept_6 : decode cX16_kept 6 = .ok (.ifCond .le 7, 3) := by decide +kernel
theorem dX16_kept_9 : decode cX16_kept 9 = .ok (.iconst 1, 1) := by decide +kernel
theorem dX16_kept_10 : decode cX16_kept 10 = .ok (.goto 4, 3) := by decide +kernel
theorem dX16_kept_13 : decode cX16_kept 13 = .ok (.iconst 0, 1) := by decide +kernel
theorem dX16_kept_14 : decode cX16_kept 14 = .ok (.invokevirtual 365, 3) := by decide +kernel
theorem dX16_kept_17 : decode cX16_kept 17 = .ok (.lload_n 1, 1) := by decide +kernel
theorem dX16_kept_18 : decode cX16_kept 18 = .ok (.ldc2_w 363, 3) := by decide +kernel
theorem dX16_kept_21 : decode cX16_kept 21 = .ok (.lcmp, 1) := by decide +kernel
theorem dX16_kept_22 : decode cX16_kept 22 = .ok (.ifCond .le 8, 3) := by decide +kernel
theorem dX16_kept_25 : decode cX16_kept 25 = .ok (.bipush 64, 2) := by decide +kernel
theorem dX16_kept_27 : decode cX16_kept 27 = .ok (.goto 5, 3) := by decide +kernel
theorem dX16_kept_30 : decode cX16_kept 30 = .ok (.lload_n 1, 1) := by decide +kernel
theorem dX16_kept_31 : decode cX16_kept 31 = .ok (.l2i, 1) := by decide +kernel
theorem dX16_kept_32 : decode cX16_kept 32 = .ok (.ireturn, 1) := by decide +kernel
def fX16_kept (h : pm_H) (a0 : Nat) (p1 : Int64) : Option (Int32 × pm_H) := if p1 ≤ 64 then (if pm_kd h a0 = 16 then (fX16_exceeds h a0 0).bind fun v3 => if p1 ≤ 64 then (some ((p1.toInt32, v3))) else (some ((64, v3))) else none) else (if pm_kd h a0 = 16 then (fX16_exceeds h a0 1).bind fun v7 => if p1 ≤ 64 then (some ((p1.toInt32, v7))) else (some ((64, v7))) else none)
set_option maxHeartbeats 4000000 in
set_option maxRecDepth 100000 in
theorem ctX16_kept {l : Launch} {G : pm_Gl} {h : pm_H} {a0 : Nat} {p1 : Int64} {r : (Int32 × pm_H)} {Qr : Option Value → pm_H → Prop} (hf : fX16_kept h a0 p1 = some r) (q : Qr (some (.int r.1)) r.2) : pm_Ct l G mX16_kept [.ref a0, .long p1] h 0 0 Qr := by
  refine pm_body pnX16 (Nat.le_of_ble_eq_true rfl) (fun g C X => ?_)
  have C : pm_C g cX16_kept RX16 := C
  show pm_G g 0 [(0, .ref a0), (1, .long p1)] [] h 0 0
  unfold fX16_kept at hf
  refine pm_aload_n C dX16_kept_0 rfl rfl ?_
  refine pm_lload_n C dX16_kept_1 rfl rfl ?_
  refine pm_ldc2 C dX16_kept_2 cnX16_363 ?_
  refine pm_lcmp C dX16_kept_5 ?_
  refine pm_if_le (tgt := 13) C dX16_kept_6 (by decide) (fun c1 => ?_) (fun c1 => ?_)
  · have hf := pm_it hf ((pm_lg_le _ _).mp c1)
    refine pm_iconst (v := 0) C dX16_kept_13 (by decide) ?_
    obtain ⟨k2, hf⟩ := pm_if hf
    obtain ⟨v3, e4, hf⟩ := pm_bd hf
    refine pm_callV (as := [.int 0]) (st := []) C X dX16_kept_14 lnX16_365 myX16_exceeds viX16_exceeds ⟨by decide, by decide⟩ rfl rfl k2 (Nat.le_of_ble_eq_true rfl) (Nat.le_refl _) (Nat.le_refl _) (ctX16_exceeds e4 ?_)
    show pm_G g 17 [(0, .ref a0), (1, .long p1)] [] v3 0 0
    refine pm_lload_n C dX16_kept_17 rfl rfl ?_
    refine pm_ldc2 C dX16_kept_18 cnX16_363 ?_
    refine pm_lcmp C dX16_kept_21 ?_
    refine pm_if_le (tgt := 30) C dX16_kept_22 (by decide) (fun c5 => ?_) (fun c5 => ?_)
    · have hf := pm_it hf ((pm_lg_le _ _).mp c5)
      refine pm_lload_n C dX16_kept_30 rfl rfl ?_
      refine pm_l2i C dX16_kept_31 ?_
      cases hf
      exact pm_iret C X dX16_kept_32 rfl (Nat.le_refl _) (Nat.le_refl _) q
    · have hf := pm_ie hf ((fun z => c5 ((pm_lg_le _ _).mpr z)))
      refine pm_bipush (v := 64) C dX16_kept_25 (by decide) ?_
      refine pm_goto (tgt := 32) C dX16_kept_27 (by decide) ?_
      cases hf
      exact pm_iret C X dX16_kept_32 rfl (Nat.le_refl _) (Nat.le_refl _) q
  · have hf := pm_ie hf ((fun z => c1 ((pm_lg_le _ _).mpr z)))
    refine pm_iconst (v := 1) C dX16_kept_9 (by decide) ?_
    refine pm_goto (tgt := 14) C dX16_kept_10 (by decide) ?_
    obtain ⟨k6, hf⟩ := pm_if hf
    obtain ⟨v7, e8, hf⟩ := pm_bd hf
    refine pm_callV (as := [.int 1]) (st := []) C X dX16_kept_14 lnX16_365 myX16_exceeds viX16_exceeds ⟨by decide, by decide⟩ rfl rfl k6 (Nat.le_of_ble_eq_true rfl) (Nat.le_refl _) (Nat.le_refl _) (ctX16_exceeds e8 ?_)
    show pm_G g 17 [(0, .ref a0), (1, .long p1)] [] v7 0 0
    refine pm_lload_n C dX16_kept_17 rfl rfl ?_
    refine pm_ldc2 C dX16_kept_18 cnX16_363 ?_
    refine pm_lcmp C dX16_kept_21 ?_
    refine pm_if_le (tgt := 30) C dX16_kept_22 (by decide) (fun c9 => ?_) (fun c9 => ?_)
    · have hf := pm_it hf ((pm_lg_le _ _).mp c9)
      refine pm_lload_n C dX16_kept_30 rfl rfl ?_
      refine pm_l2i C dX16_kept_31 ?_
      cases hf
      exact pm_iret C X dX16_kept_32 rfl (Nat.le_refl _) (Nat.le_refl _) q
    · have hf := pm_ie hf ((fun z => c9 ((pm_lg_le _ _).mpr z)))
      refine pm_bipush (v := 64) C dX16_kept_25 (by decide) ?_
      refine pm_goto (tgt := 32) C dX16_kept_27 (by decide) ?_
      cases hf
      exact pm_iret C X dX16_kept_32 rfl (Nat.le_refl _) (Nat.le_refl _) q
theorem dX16_length_0 : decode cX16_length 0 = .ok (.iconst 0, 1) := by decide +kernel
theorem dX16_length_1 : decode cX16_length 1 = .ok (.istore 4, 2) := by decide +kernel
theorem dX16_length_3 : decode cX16_length 3 = .ok (.lload_n 0, 1) := by decide +kernel
theorem dX16_length_4 : decode cX16_length 4 = .ok (.lconst 0, 1) := by decide +kernel
theorem dX16_length_5 : decode cX16_length 5 = .ok (.lcmp, 1) := by decide +kernel
theorem dX16_length_6 : decode cX16_length 6 = .ok (.ifCond .eq 7, 3) := by decide +kernel
theorem dX16_length_9 : decode cX16_length 9 = .ok (.lload_n 0, 1) := by decide +kernel
theorem dX16_length_10 : decode cX16_length 10 = .ok (.goto 4, 3) := by decide +kernel
theorem dX16_length_13 : decode cX16_length 13 = .ok (.lload_n 2, 1) := by decide +kernel
theorem dX16_length_14 : decode cX16_length 14 = .ok (.lstore 5, 2) := by decide +kernel
theorem dX16_length_16 : decode cX16_length 16 = .ok (.iload 4, 2) := by decide +kernel
theorem dX16_length_18 : decode cX16_length 18 = .ok (.bipush 64, 2) := by decide +kernel
theorem dX16_length_20 : decode cX16_length 20 = .ok (.if_icmp .ge 19, 3) := by decide +kernel
theorem dX16_length_23 : decode cX16_length 23 = .ok (.lload 5, 2) := by decide +kernel
theorem dX16_length_25 : decode cX16_length 25 = .ok (.iload 4, 2) := by decide +kernel
theorem dX16_length_27 : decode cX16_length 27 = .ok (.lushr, 1) := by decide +kernel
theorem dX16_length_28 : decode cX16_length 28 = .ok (.lconst 0, 1) := by decide +kernel
theorem dX16_length_29 : decode cX16_length 29 = .ok (.lcmp, 1) := by decide +kernel
theorem dX16_length_30 : decode cX16_length 30 = .ok (.ifCond .eq 9, 3) := by decide +kernel
theorem dX16_length_33 : decode cX16_length 33 = .ok (.iinc 4 1, 3) := by decide +kernel
theorem dX16_length_36 : decode cX16_length 36 = .ok (.goto (-20), 3) := by decide +kernel
theorem dX16_length_39 : decode cX16_length 39 = .ok (.lload_n 0, 1) := by decide +kernel
theorem dX16_length_40 : decode cX16_length 40 = .ok (.lconst 0, 1) := by decide +kernel
theorem dX16_length_41 : decode cX16_length 41 = .ok (.lcmp, 1) := by decide +kernel
theorem dX16_length_42 : decode cX16_length 42 = .ok (.ifCond .eq 11, 3) := by decide +kernel
theorem dX16_length_45 : decode cX16_length 45 = .ok (.bipush 64, 2) := by decide +kernel
theorem dX16_length_47 : decode cX16_length 47 = .ok (.iload 4, 2) := by decide +kernel
theorem dX16_length_49 : decode cX16_length 49 = .ok (.iadd, 1) := by decide +kernel
theorem dX16_length_50 : decode cX16_length 50 = .ok (.goto 5, 3) := by decide +kernel
theorem dX16_length_53 : decode cX16_length 53 = .ok (.iload 4, 2) := by decide +kernel
theorem dX16_length_55 : decode cX16_length 55 = .ok (.ireturn, 1) := by decide +kernel
def tX16_length_16 (x0 : Int64) (x4 : Int32) (x5 : Int64) : Option (((Int64 × Int32 × Int64)) ⊕ Int32) := if 64 ≤ x4 then (if x0 = 0 then (some (.inr (x4))) else (some (.inr (64 + x4)))) else (if ((x5.toUInt64 >>> (x4.toInt64.toUInt64 &&& Int64.toUInt64 63)).toInt64) = 0 then (if x0 = 0 then (some (.inr (x4))) else (some (.inr (64 + x4)))) else (pm_let (x4 + 1) fun y6 => some (.inl ((x0, y6, x5)))))
def sX16_length : ((Int64 × Int32 × Int64)) → Option (((Int64 × Int32 × Int64)) ⊕ Int32) := fun z => match z with
  | (x0, x4, x5) => tX16_length_16 x0 x4 x5
noncomputable def fX16_length (p1 : Int64) (p2 : Int64) : Option Int32 := if p1 = 0 then (pm_lim sX16_length ((p1, 0, p2))) else (pm_lim sX16_length ((p1, 0, p1)))
set_option maxHeartbeats 4000000 in
set_option maxRecDepth 100000 in
theorem lpX16_length {g : pm_Gm} {l : Launch} {G : pm_Gl} {Qr : Option Value → pm_H → Prop} (C : pm_C g cX16_length RX16) (X : pm_X g l G mX16_length 0 0 Qr) {h : pm_H} {r : Int32} (q : Qr (some (.int r)) h) : ∀ n : Nat, (∀ (x0 : Int64) (x4 : Int32) (x5 : Int64), pm_iter sX16_length n (x0, x4, x5) = some r → pm_G g 16 [(0, .long x0), (4, .int x4), (5, .long x5)] [] h 0 0) := by
  intro n
  induction n with
  | zero => exact fun _ _ _ hf => (by cases hf)
  | succ n ih =>
    refine fun x0 x4 x5 hf => ?_
    obtain ⟨y, hf, hi⟩ := pm_iter_s hf
    have hf : tX16_length_16 x0 x4 x5 = some y := hf
    unfold tX16_length_16 at hf
    refine pm_iload C dX16_length_16 rfl ?_
    refine pm_bipush (v := 64) C dX16_length_18 (by decide) ?_
    refine pm_icmp_ge (tgt := 39) C dX16_length_20 (by decide) (fun c2 => ?_) (fun c2 => ?_)
    · have hf := pm_it hf c2
      refine pm_lload_n C dX16_length_39 rfl rfl ?_
      refine pm_lconst (v := 0) C dX16_length_40 (by decide) ?_
      refine pm_lcmp C dX16_length_41 ?_
      refine pm_if_eq (tgt := 53) C dX16_length_42 (by decide) (fun c3 => ?_) (fun c3 => ?_)
      · have hf := pm_it hf ((pm_lg_eq _ _).mp c3)
        refine pm_iload C dX16_length_53 rfl ?_
        cases hf
        cases hi
        exact pm_iret C X dX16_length_55 rfl (Nat.le_refl _) (Nat.le_refl _) q
      · have hf := pm_ie hf ((fun z => c3 ((pm_lg_eq _ _).mpr z)))
        refine pm_bipush (v := 64) C dX16_length_45 (by decide) ?_
        refine pm_iload C dX16_length_47 rfl ?_
        refine pm_iadd C dX16_length_49 ?_
        refine pm_goto (tgt := 55) C dX16_length_50 (by decide) ?_
        cases hf
        cases hi
        exact pm_iret C X dX16_length_55 rfl (Nat.le_refl _) (Nat.le_refl _) q
    · have hf := pm_ie hf c2
      refine pm_lload C dX16_length_23 rfl ?_
      refine pm_iload C dX16_length_25 rfl ?_
      refine pm_lushr C dX16_length_27 ?_
      refine pm_lconst (v := 0) C dX16_length_28 (by decide) ?_
      refine pm_lcmp C dX16_length_29 ?_
      refine pm_if_eq (tgt := 39) C dX16_length_30 (by decide) (fun c4 => ?_) (fun c4 => ?_)
      · have hf := pm_it hf ((pm_lg_eq _ _).mp c4)
        refine pm_lload_n C dX16_length_39 rfl rfl ?_
        refine pm_lconst (v := 0) C dX16_length_40 (by decide) ?_
        refine pm_lcmp C dX16_length_41 ?_
        refine pm_if_eq (tgt := 53) C dX16_length_42 (by decide) (fun c5 => ?_) (fun c5 => ?_)
        · have hf := pm_it hf ((pm_lg_eq _ _).mp c5)
          refine pm_iload C dX16_length_53 rfl ?_
          cases hf
          cases hi
          exact pm_iret C X dX16_length_55 rfl (Nat.le_refl _) (Nat.le_refl _) q
        · have hf := pm_ie hf ((fun z => c5 ((pm_lg_eq _ _).mpr z)))
          refine pm_bipush (v := 64) C dX16_length_45 (by decide) ?_
          refine pm_iload C dX16_length_47 rfl ?_
          refine pm_iadd C dX16_length_49 ?_
          refine pm_goto (tgt := 55) C dX16_length_50 (by decide) ?_
          cases hf
          cases hi
          exact pm_iret C X dX16_length_55 rfl (Nat.le_refl _) (Nat.le_refl _) q
      · have hf := pm_ie hf ((fun z => c4 ((pm_lg_eq _ _).mpr z)))
        obtain ⟨y6, e7, hf⟩ := pm_lt hf
        refine pm_iinc (v := y6) (lv' := [(4, .int y6), (0, .long x0), (5, .long x5)]) C dX16_length_33 rfl ((congrArg (x4 + ·) (by decide : Int32.ofInt 1 = 1)).trans e7) (pm_nl X (by decide)) rfl ?_
        refine pm_goto (tgt := 16) C dX16_length_36 (by decide) ?_
        cases hf
        exact pm_sub [1, 0, 2] rfl (ih x0 y6 x5 hi)
set_option maxHeartbeats 4000000 in
set_option maxRecDepth 100000 in
theorem ctX16_length {l : Launch} {G : pm_Gl} {h : pm_H} {p1 : Int64} {p2 : Int64} {r : Int32} {Qr : Option Value → pm_H → Prop} (hf : fX16_length p1 p2 = some r) (q : Qr (some (.int r)) h) : pm_Ct l G mX16_length [.long p1, .long p2] h 0 0 Qr := by
  refine pm_body pnX16 (Nat.le_of_ble_eq_true rfl) (fun g C X => ?_)
  have C : pm_C g cX16_length RX16 := C
  show pm_G g 0 [(0, .long p1), (2, .long p2)] [] h 0 0
  unfold fX16_length at hf
  refine pm_iconst (v := 0) C dX16_length_0 (by decide) ?_
  refine pm_istore (lv' := [(4, .int 0), (0, .long p1), (2, .long p2)]) C dX16_length_1 (pm_nl X (by decide)) rfl ?_
  refine pm_lload_n C dX16_length_3 rfl rfl ?_
  refine pm_lconst (v := 0) C dX16_length_4 (by decide) ?_
  refine pm_lcmp C dX16_length_5 ?_
  refine pm_if_eq (tgt := 13) C dX16_length_6 (by decide) (fun c1 => ?_) (fun c1 => ?_)
  · have hf := pm_it hf ((pm_lg_eq _ _).mp c1)
    refine pm_lload_n C dX16_length_13 rfl rfl ?_
    refine pm_lstore (lv' := [(5, .long p2), (4, .int 0), (0, .long p1), (2, .long p2)]) C dX16_length_14 (pm_nl X (by decide)) rfl ?_
    obtain ⟨n, hn⟩ := pm_lim_iter hf
    exact pm_sub [2, 1, 0] rfl ((lpX16_length C X q n) p1 0 p2 hn)
  · have hf := pm_ie hf ((fun z => c1 ((pm_lg_eq _ _).mpr z)))
    refine pm_lload_n C dX16_length_9 rfl rfl ?_
    refine pm_goto (tgt := 14) C dX16_length_10 (by decide) ?_
    refine pm_lstore (lv' := [(5, .long p1), (4, .int 0), (0, .long p1), (2, .long p2)]) C dX16_length_14 (pm_nl X (by decide)) rfl ?_
    obtain ⟨n, hn⟩ := pm_lim_iter hf
    exact pm_sub [2, 1, 0] rfl ((lpX16_length C X q n) p1 0 p1 hn)
