theorem dX8_resized_0 : decode cX8_resized 0 = .ok (.iload_n 0, 1) := by decide +kernel
theorem dX8_resized_1 : decode cX8_resized 1 = .ok (.lload_n 2, 1) := by decide +kernel
theorem dX8_resized_2 : decode cX8_resized 2 = .ok (.invokestatic 74, 3) := by decide +kernel
theorem dX8_resized_5 : decode cX8_resized 5 = .ok (.ifCond .eq 8, 3) := by decide +kernel
theorem dX8_resized_8 : decode cX8_resized 8 = .ok (.iload_n 1, 1) := by decide +kernel
theorem dX8_resized_9 : decode cX8_resized 9 = .ok (.invokestatic 136, 3) := by decide +kernel
theorem dX8_resized_12 : decode cX8_resized 12 = .ok (.lreturn, 1) := by decide +kernel
theorem dX8_resized_13 : decode cX8_resized 13 = .ok (.iload_n 0, 1) := by decide +kernel
theorem dX8_resized_14 : decode cX8_resized 14 = .ok (.lload_n 2, 1) := by decide +kernel
theorem dX8_resized_15 : decode cX8_resized 15 = .ok (.invokestatic 162, 3) := by decide +kernel
theorem dX8_resized_18 : decode cX8_resized 18 = .ok (.ifCond .eq 10, 3) := by decide +kernel
theorem dX8_resized_21 : decode cX8_resized 21 = .ok (.iload_n 1, 1) := by decide +kernel
theorem dX8_resized_22 : decode cX8_resized 22 = .ok (.invokestatic 132, 3) := by decide +kernel
theorem dX8_resized_25 : decode cX8_resized 25 = .ok (.goto 4, 3) := by decide +kernel
theorem dX8_resized_28 : decode cX8_resized 28 = .ok (.lconst 0, 1) := by decide +kernel
theorem dX8_resized_29 : decode cX8_resized 29 = .ok (.lstore 4, 2) := by decide +kernel
theorem dX8_resized_31 : decode cX8_resized 31 = .ok (.iload_n 0, 1) := by decide +kernel
theorem dX8_resized_32 : decode cX8_resized 32 = .ok (.lload_n 2, 1) := by decide +kernel
theorem dX8_resized_33 : decode cX8_resized 33 = .ok (.invokestatic 78, 3) := by decide +kernel
theorem dX8_resized_36 : decode cX8_resized 36 = .ok (.ifCond .eq 6, 3) := by decide +kernel
theorem dX8_resized_39 : decode cX8_resized 39 = .ok (.lload 4, 2) := by decide +kernel
theorem dX8_resized_41 : decode cX8_resized 41 = .ok (.lreturn, 1) := by decide +kernel
theorem dX8_resized_42 : decode cX8_resized 42 = .ok (.iload_n 0, 1) := by decide +kernel
theorem dX8_resized_43 : decode cX8_resized 43 = .ok (.lload_n 2, 1) := by decide +kernel
theorem dX8_resized_44 : decode cX8_resized 44 = .ok (.invokestatic 155, 3) := by decide +kernel
theorem dX8_resized_47 : decode cX8_resized 47 = .ok (.ifCond .eq 11, 3) := by decide +kernel
theorem dX8_resized_50 : decode cX8_resized 50 = .ok (.lload 4, 2) := by decide +kernel
theorem dX8_resized_52 : decode cX8_resized 52 = .ok (.iload_n 1, 1) := by decide +kernel
theorem dX8_resized_53 : decode cX8_resized 53 = .ok (.invokestatic 178, 3) := by decide +kernel
theorem dX8_resized_56 : decode cX8_resized 56 = .ok (.lor, 1) := by decide +kernel
theorem dX8_resized_57 : decode cX8_resized 57 = .ok (.lreturn, 1) := by decide +kernel
theorem dX8_resized_58 : decode cX8_resized 58 = .ok (.iload_n 1, 1) := by decide +kernel
theorem dX8_resized_59 : decode cX8_resized 59 = .ok (.lload 4, 2) := by decide +kernel
theorem dX8_resized_61 : decode cX8_resized 61 = .ok (.lconst 0, 1) := by decide +kernel
theorem dX8_resized_62 : decode cX8_resized 62 = .ok (.lcmp, 1) := by decide +kernel
theorem dX8_resized_63 : decode cX8_resized 63 = .ok (.ifCond .eq 7, 3) := by decide +kernel
theorem dX8_resized_66 : decode cX8_resized 66 = .ok (.iconst 1, 1) := by decide +kernel
theorem dX8_resized_67 : decode cX8_resized 67 = .ok (.goto 4, 3) := by decide +kernel
theorem dX8_resized_70 : decode cX8_resized 70 = .ok (.iconst 0, 1) := by decide +kernel
theorem dX8_resized_71 : decode cX8_resized 71 = .ok (.iload_n 0, 1) := by decide +kernel
theorem dX8_resized_72 : decode cX8_resized 72 = .ok (.lload_n 2, 1) := by decide +kernel
theorem dX8_resized_73 : decode cX8_resized 73 = .ok (.invokestatic 165, 3) := by decide +kernel
theorem dX8_resized_76 : decode cX8_resized 76 = .ok (.iload_n 0, 1) := by decide +kernel
theorem dX8_resized_77 : decode cX8_resized 77 = .ok (.lload_n 2, 1) := by decide +kernel
theorem dX8_resized_78 : decode cX8_resized 78 = .ok (.invokestatic 158, 3) := by decide +kernel
theorem dX8_resized_81 : decode cX8_resized 81 = .ok (.invokestatic 168, 3) := by decide +kernel
theorem dX8_resized_84 : decode cX8_resized 84 = .ok (.lreturn, 1) := by decide +kernel
def fX8_resized_b29 (x0 : Int32) (x1 : Int32) (x2 : Int64) (s0 : Int64) : Int64 := pm_let (fX8_isZero x0 x2) fun v11 => if v11 = 0 then (pm_let (fX8_isInfinite x0 x2) fun v14 => if v14 = 0 then (if s0 = 0 then (pm_let (fX8_significand x0 x2) fun v18 => pm_let (fX8_scale x0 x2) fun v20 => pm_let (fX8_round x1 0 v18 v20) fun v22 => v22) else (pm_let (fX8_significand x0 x2) fun v24 => pm_let (fX8_scale x0 x2) fun v26 => pm_let (fX8_round x1 1 v24 v26) fun v28 => v28)) else (pm_let (fX8_infinite x1) fun v30 => s0 ||| v30)) else (s0)
def fX8_resized (p1 : Int32) (p2 : Int32) (p3 : Int64) : Int64 := pm_let (fX8_isNone p1 p3) fun v1 => if v1 = 0 then (pm_let (fX8_isMinus p1 p3) fun v4 => if v4 = 0 then (fX8_resized_b29 p1 p2 p3 0) else (pm_let (fX8_sign p2) fun v7 => fX8_resized_b29 p1 p2 p3 v7)) else (pm_let (fX8_none p2) fun v9 => v9)
set_option maxHeartbeats 4000000 in
set_option maxRecDepth 100000 in
theorem bX8_resized_29 {g : pm_Gm} {l : Launch} {G : pm_Gl} {Qr : Option Value → pm_H → Prop} (C : pm_C g cX8_resized RX8) (X : pm_X g l G mX8_resized 0 0 Qr) {h : pm_H} {x0 : Int32} {x1 : Int32} {x2 : Int64} {s0 : Int64} {r : Int64} (hf : fX8_resized_b29 x0 x1 x2 s0 = r) (q : Qr (some (.long r)) h) : pm_G g 29 [(0, .int x0), (1, .int x1), (2, .long x2)] [.long s0] h 0 0 := by
  unfold fX8_resized_b29 at hf
  refine pm_lstore (lv' := [(4, .long s0), (0, .int x0), (1, .int x1), (2, .long x2)]) C dX8_resized_29 (pm_nl X (by decide)) rfl ?_
  refine pm_iload_n C dX8_resized_31 rfl rfl ?_
  refine pm_lload_n C dX8_resized_32 rfl rfl ?_
  obtain ⟨v11, e12, hf⟩ := pm_lt hf
  refine pm_callS (as := [.int x0, .long x2]) (st := []) C X dX8_resized_33 lnX8_78 myX8_isZero stX8_isZero ⟨by decide, by decide⟩ rfl rfl (Nat.le_of_ble_eq_true rfl) (Nat.le_refl _) (Nat.le_refl _) (ctX8_isZero e12 ?_)
  show pm_G g 36 [(4, .long s0), (0, .int x0), (1, .int x1), (2, .long x2)] [.int v11] h 0 0
  refine pm_if_eq (tgt := 42) C dX8_resized_36 (by decide) (fun c13 => ?_) (fun c13 => ?_)
  · have hf := pm_it hf c13
    refine pm_iload_n C dX8_resized_42 rfl rfl ?_
    refine pm_lload_n C dX8_resized_43 rfl rfl ?_
    obtain ⟨v14, e15, hf⟩ := pm_lt hf
    refine pm_callS (as := [.int x0, .long x2]) (st := []) C X dX8_resized_44 lnX8_155 myX8_isInfinite stX8_isInfinite ⟨by decide, by decide⟩ rfl rfl (Nat.le_of_ble_eq_true rfl) (Nat.le_refl _) (Nat.le_refl _) (ctX8_isInfinite e15 ?_)
    show pm_G g 47 [(4, .long s0), (0, .int x0), (1, .int x1), (2, .long x2)] [.int v14] h 0 0
    refine pm_if_eq (tgt := 58) C dX8_resized_47 (by decide) (fun c16 => ?_) (fun c16 => ?_)
    · have hf := pm_it hf c16
      refine pm_iload_n C dX8_resized_58 rfl rfl ?_
      refine pm_lload C dX8_resized_59 rfl ?_
      refine pm_lconst (v := 0) C dX8_resized_61 (by decide) ?_
      refine pm_lcmp C dX8_resized_62 ?_
      refine pm_if_eq (tgt := 70) C dX8_resized_63 (by decide) (fun c17 => ?_) (fun c17 => ?_)
      · have hf := pm_it hf ((pm_lg_eq _ _).mp c17)
        refine pm_iconst (v := 0) C dX8_resized_70 (by decide) ?_
        refine pm_iload_n C dX8_resized_71 rfl rfl ?_
        refine pm_lload_n C dX8_resized_72 rfl rfl ?_
        obtain ⟨v18, e19, hf⟩ := pm_lt hf
        refine pm_callS (as := [.int x0, .long x2]) (st := [.int 0, .int x1]) C X dX8_resized_73 lnX8_165 myX8_significand stX8_significand ⟨by decide, by decide⟩ rfl rfl (Nat.le_of_ble_eq_true rfl) (Nat.le_refl _) (Nat.le_refl _) (ctX8_significand e19 ?_)
        show pm_G g 76 [(4, .long s0), (0, .int x0), (1, .int x1), (2, .long x2)] [.long v18, .int 0, .int x1] h 0 0
        refine pm_iload_n C dX8_resized_76 rfl rfl ?_
        refine pm_lload_n C dX8_resized_77 rfl rfl ?_
        obtain ⟨v20, e21, hf⟩ := pm_lt hf
        refine pm_callS (as := [.int x0, .long x2]) (st := [.long v18, .int 0, .int x1]) C X dX8_resized_78 lnX8_158 myX8_scale stX8_scale ⟨by decide, by decide⟩ rfl rfl (Nat.le_of_ble_eq_true rfl) (Nat.le_refl _) (Nat.le_refl _) (ctX8_scale e21 ?_)
        show pm_G g 81 [(4, .long s0), (0, .int x0), (1, .int x1), (2, .long x2)] [.int v20, .long v18, .int 0, .int x1] h 0 0
        obtain ⟨v22, e23, hf⟩ := pm_lt hf
        refine pm_callS (as := [.int x1, .int 0, .long v18, .int v20]) (st := []) C X dX8_resized_81 lnX8_168 myX8_round stX8_round ⟨by decide, by decide⟩ rfl rfl (Nat.le_of_ble_eq_true rfl) (Nat.le_refl _) (Nat.le_refl _) (ctX8_round e23 ?_)
        show pm_G g 84 [(4, .long s0), (0, .int x0), (1, .int x1), (2, .long x2)] [.long v22] h 0 0
        subst hf
        exact pm_lret C X dX8_resized_84 rfl (Nat.le_refl _) (Nat.le_refl _) q
      · have hf := pm_ie hf ((fun z => c17 ((pm_lg_eq _ _).mpr z)))
        refine pm_iconst (v := 1) C dX8_resized_66 (by decide) ?_
        refine pm_goto (tgt := 71) C dX8_resized_67 (by decide) ?_
        refine pm_iload_n C dX8_resized_71 rfl rfl ?_
        refine pm_lload_n C dX8_resized_72 rfl rfl ?_
        obtain ⟨v24, e25, hf⟩ := pm_lt hf
        refine pm_callS (as := [.int x0, .long x2]) (st := [.int 1, .int x1]) C X dX8_resized_73 lnX8_165 myX8_significand stX8_significand ⟨by decide, by decide⟩ rfl rfl (Nat.le_of_ble_eq_true rfl) (Nat.le_refl _) (Nat.le_refl _) (ctX8_significand e25 ?_)
        show pm_G g 76 [(4, .long s0), (0, .int x0), (1, .int x1), (2, .long x2)] [.long v24, .int 1, .int x1] h 0 0
        refine pm_iload_n C dX8_resized_76 rfl rfl ?_
        refine pm_lload_n C dX8_resized_77 rfl rfl ?_
        obtain ⟨v26, e27, hf⟩ := pm_lt hf
        refine pm_callS (as := [.int x0, .long x2]) (st := [.long v24, .int 1, .int x1]) C X dX8_resized_78 lnX8_158 myX8_scale stX8_scale ⟨by decide, by decide⟩ rfl rfl (Nat.le_of_ble_eq_true rfl) (Nat.le_refl _) (Nat.le_refl _) (ctX8_scale e27 ?_)
        show pm_G g 81 [(4, .long s0), (0, .int x0), (1, .int x1), (2, .long x2)] [.int v26, .long v24, .int 1, .int x1] h 0 0
        obtain ⟨v28, e29, hf⟩ := pm_lt hf
        refine pm_callS (as := [.int x1, .int 1, .long v24, .int v26]) (st := []) C X dX8_resized_81 lnX8_168 myX8_round stX8_round ⟨by decide, by decide⟩ rfl rfl (Nat.le_of_ble_eq_true rfl) (Nat.le_refl _) (Nat.le_refl _) (ctX8_round e29 ?_)
        show pm_G g 84 [(4, .long s0), (0, .int x0), (1, .int x1), (2, .long x2)] [.long v28] h 0 0
        subst hf
        exact pm_lret C X dX8_resized_84 rfl (Nat.le_refl _) (Nat.le_refl _) q
    · have hf := pm_ie hf c16
      refine pm_lload C dX8_resized_50 rfl ?_
      refine pm_iload_n C dX8_resized_52 rfl rfl ?_
      obtain ⟨v30, e31, hf⟩ := pm_lt hf
      refine pm_callS (as := [.int x1]) (st := [.long s0]) C X dX8_resized_53 lnX8_178 myX8_infinite stX8_infinite ⟨by decide, by decide⟩ rfl rfl (Nat.le_of_ble_eq_true rfl) (Nat.le_refl _) (Nat.le_refl _) (ctX8_infinite e31 ?_)
      show pm_G g 56 [(4, .long s0), (0, .int x0), (1, .int x1), (2, .long x2)] [.long v30, .long s0] h 0 0
      refine pm_lor C dX8_resized_56 ?_
      subst hf
      exact pm_lret C X dX8_resized_57 rfl (Nat.le_refl _) (Nat.le_refl _) q
  · have hf := pm_ie hf c13
    refine pm_lload C dX8_resized_39 rfl ?_
    subst hf
    exact pm_lret C X dX8_resized_41 rfl (Nat.le_refl _) (Nat.le_refl _) q
set_option maxHeartbeats 4000000 in
set_option maxRecDepth 100000 in
theorem ctX8_resized {l : Launch} {G : pm_Gl} {h : pm_H} {p1 : Int32} {p2 : Int32} {p3 : Int64} {r : Int64} {Qr : Option Value → pm_H → Prop} (hf : fX8_resized p1 p2 p3 = r) (q : Qr (some (.long r)) h) : pm_Ct l G mX8_resized [.int p1, .int p2, .long p3] h 0 0 Qr := by
  refine pm_body pnX8 (Nat.le_of_ble_eq_true rfl) (fun g C X => ?_)
  have C : pm_C g cX8_resized RX8 := C
  show pm_G g 0 [(0, .int p1), (1, .int p2), (2, .long p3)] [] h 0 0
  unfold fX8_resized at hf
  refine pm_iload_n C dX8_resized_0 rfl rfl ?_
  refine pm_lload_n C dX8_resized_1 rfl rfl ?_
  obtain ⟨v1, e2, hf⟩ := pm_lt hf
  refine pm_callS (as := [.int p1, .long p3]) (st := []) C X dX8_resized_2 lnX8_74 myX8_isNone stX8_isNone ⟨by decide, by decide⟩ rfl rfl (Nat.le_of_ble_eq_true rfl) (Nat.le_refl _) (Nat.le_refl _) (ctX8_isNone e2 ?_)
  show pm_G g 5 [(0, .int p1), (1, .int p2), (2, .long p3)] [.int v1] h 0 0
  refine pm_if_eq (tgt := 13) C dX8_resized_5 (by decide) (fun c3 => ?_) (fun c3 => ?_)
  · have hf := pm_it hf c3
    refine pm_iload_n C dX8_resized_13 rfl rfl ?_
    refine pm_lload_n C dX8_resized_14 rfl rfl ?_
    obtain ⟨v4, e5, hf⟩ := pm_lt hf
    refine pm_callS (as := [.int p1, .long p3]) (st := []) C X dX8_resized_15 lnX8_162 myX8_isMinus stX8_isMinus ⟨by decide, by decide⟩ rfl rfl (Nat.le_of_ble_eq_true rfl) (Nat.le_refl _) (Nat.le_refl _) (ctX8_isMinus e5 ?_)
    show pm_G g 18 [(0, .int p1), (1, .int p2), (2, .long p3)] [.int v4] h 0 0
    refine pm_if_eq (tgt := 28) C dX8_resized_18 (by decide) (fun c6 => ?_) (fun c6 => ?_)
    · have hf := pm_it hf c6
      refine pm_lconst (v := 0) C dX8_resized_28 (by decide) ?_
      exact pm_sub [0, 1, 2] rfl (bX8_resized_29 C X hf q)
    · have hf := pm_ie hf c6
      refine pm_iload_n C dX8_resized_21 rfl rfl ?_
      obtain ⟨v7, e8, hf⟩ := pm_lt hf
      refine pm_callS (as := [.int p2]) (st := []) C X dX8_resized_22 lnX8_132 myX8_sign stX8_sign ⟨by decide, by decide⟩ rfl rfl (Nat.le_of_ble_eq_true rfl) (Nat.le_refl _) (Nat.le_refl _) (ctX8_sign e8 ?_)
      show pm_G g 25 [(0, .int p1), (1, .int p2), (2, .long p3)] [.long v7] h 0 0
      refine pm_goto (tgt := 29) C dX8_resized_25 (by decide) ?_
      exact pm_sub [0, 1, 2] rfl (bX8_resized_29 C X hf q)
  · have hf := pm_ie hf c3
    refine pm_iload_n C dX8_resized_8 rfl rfl ?_
    obtain ⟨v9, e10, hf⟩ := pm_lt hf
    refine pm_callS (as := [.int p2]) (st := []) C X dX8_resized_9 lnX8_136 myX8_none stX8_none ⟨by decide, by decide⟩ rfl rfl (Nat.le_of_ble_eq_true rfl) (Nat.le_refl _) (Nat.le_refl _) (ctX8_none e10 ?_)
    show pm_G g 12 [(0, .int p1), (1, .int p2), (2, .long p3)] [.long v9] h 0 0
    subst hf
    exact pm_lret C X dX8_resized_12 rfl (Nat.le_refl _) (Nat.le_refl _) q
theorem dX8_root_0 : decode cX8_root 0 = .ok (.iload_n 0, 1) := by decide +kernel
theorem dX8_root_1 : decode cX8_root 1 = .ok (.lload_n 1, 1) := by decide +kernel
theorem dX8_root_2 : decode cX8_root 2 = .ok (.invokestatic 78, 3) := by decide +kernel
theorem dX8_root_5 : decode cX8_root 5 = .ok (.ifCond .eq 5, 3) := by decide +kernel
theorem dX8_root_8 : decode cX8_root 8 = .ok (.lload_n 1, 1) := by decide +kernel
theorem dX8_root_9 : decode cX8_root 9 = .ok (.lreturn, 1) := by decide +kernel
theorem dX8_root_10 : decode cX8_root 10 = .ok (.iload_n 0, 1) := by decide +kernel
theorem dX8_root_11 : decode cX8_root 11 = .ok (.lload_n 1, 1) := by decide +kernel
theorem dX8_root_12 : decode cX8_root 12 = .ok (.invokestatic 162, 3) := by decide +kernel
theorem dX8_root_15 : decode cX8_root 15 = .ok (.ifCond .eq 8, 3) := by decide +kernel
theorem dX8_root_18 : decode cX8_root 18 = .ok (.iload_n 0, 1) := by decide +kernel
theorem dX8_root_19 : decode cX8_root 19 = .ok (.invokestatic 136, 3) := by decide +kernel
theorem dX8_root_22 : decode cX8_root 22 = .ok (.lreturn, 1) := by decide +kernel
theorem dX8_root_23 : decode cX8_root 23 = .ok (.iload_n 0, 1) := by decide +kernel
theorem dX8_root_24 : decode cX8_root 24 = .ok (.lload_n 1, 1) := by decide +kernel
theorem dX8_root_25 : decode cX8_root 25 = .ok (.invokestatic 155, 3) := by decide +kernel
theorem dX8_root_28 : decode cX8_root 28 = .ok (.ifCond .eq 5, 3) := by decide +kernel
theorem dX8_root_31 : decode cX8_root 31 = .ok (.lload_n 1, 1) := by decide +kernel
theorem dX8_root_32 : decode cX8_root 32 = .ok (.lreturn, 1) := by decide +kernel
theorem dX8_root_33 : decode cX8_root 33 = .ok (.iload_n 0, 1) := by decide +kernel
theorem dX8_root_34 : decode cX8_root 34 = .ok (.lload_n 1, 1) := by decide +kernel
theorem dX8_root_35 : decode cX8_root 35 = .ok (.invokestatic 158, 3) := by decide +kernel
theorem dX8_root_38 : decode cX8_root 38 = .ok (.istore_n 3, 1) := by decide +kernel
theorem dX8_root_39 : decode cX8_root 39 = .ok (.iload_n 0, 1) := by decide +kernel
theorem dX8_root_40 : decode cX8_root 40 = .ok (.lload_n 1, 1) := by decide +kernel
theorem dX8_root_41 : decode cX8_root 41 = .ok (.invokestatic 165, 3) := by decide +kernel
theorem dX8_root_44 : decode cX8_root 44 = .ok (.lstore 4, 2) := by decide +kernel
theorem dX8_root_46 : decode cX8_root 46 = .ok (.iload_n 3, 1) := by decide +kernel
theorem dX8_root_47 : decode cX8_root 47 = .ok (.iconst 1, 1) := by decide +kernel
theorem dX8_root_48 : decode cX8_root 48 = .ok (.iand, 1) := by decide +kernel
theorem dX8_root_49 : decode cX8_root 49 = .ok (.ifCond .eq 12, 3) := by decide +kernel
theorem dX8_root_52 : decode cX8_root 52 = .ok (.lload 4, 2) := by decide +kernel
theorem dX8_root_54 : decode cX8_root 54 = .ok (.iconst 1, 1) := by decide +kernel
theorem dX8_root_55 : decode cX8_root 55 = .ok (.lshl, 1) := by decide +kernel
theorem dX8_root_56 : decode cX8_root 56 = .ok (.lstore 4, 2) := by decide +kernel
theorem dX8_root_58 : decode cX8_root 58 = .ok (.iinc 3 (-1), 3) := by decide +kernel
theorem dX8_root_61 : decode cX8_root 61 = .ok (.lconst 0, 1) := by decide +kernel
theorem dX8_root_62 : decode cX8_root 62 = .ok (.lstore 6, 2) := by decide +kernel
theorem dX8_root_64 : decode cX8_root 64 = .ok (.lconst 0, 1) := by decide +kernel
theorem dX8_root_65 : decode cX8_root 65 = .ok (.lstore 8, 2) := by decide +kernel
theorem dX8_root_67 : decode cX8_root 67 = .ok (.bipush 26, 2) := by decide +kernel
theorem dX8_root_69 : decode cX8_root 69 = .ok (.istore 10, 2) := by decide +kernel
theorem dX8_root_71 : decode cX8_root 71 = .ok (.iload 10, 2) := by decide +kernel
theorem dX8_root_73 : decode cX8_root 73 = .ok (.bipush (-30), 2) := by decide +kernel
theorem dX8_root_75 : decode cX8_root 75 = .ok (.if_icmp .le 71, 3) := by decide +kernel
theorem dX8_root_78 : decode cX8_root 78 = .ok (.lload 8, 2) := by decide +kernel
theorem dX8_root_80 : decode cX8_root 80 = .ok (.iconst 2, 1) := by decide +kernel
theorem dX8_root_81 : decode cX8_root 81 = .ok (.lshl, 1) := by decide +kernel
theorem dX8_root_82 : decode cX8_root 82 = .ok (.iload 10, 2) := by decide +kernel
theorem dX8_root_84 : decode cX8_root 84 = .ok (.ifCond .lt 17, 3) := by decide +kernel
theorem dX8_root_87 : decode cX8_root 87 = .ok (.lload 4, 2) := by decide +kernel
theorem dX8_root_89 : decode cX8_root 89 = .ok (.iconst 2, 1) := by decide +kernel
theorem dX8_root_90 : decode cX8_root 90 = .ok (.iload 10, 2) := by decide +kernel
theorem dX8_root_92 : decode cX8_root 92 = .ok (.imul, 1) := by decide +kernel
theorem dX8_root_93 : decode cX8_root 93 = .ok (.lushr, 1) := by decide +kernel
theorem dX8_root_94 : decode cX8_root 94 = .ok (.ldc2_w 172, 3) := by decide +kernel
theorem dX8_root_97 : decode cX8_root 97 = .ok (.land, 1) := by decide +kernel
theorem dX8_root_98 : decode cX8_root 98 = .ok (.goto 4, 3) := by decide +kernel
theorem dX8_root_101 : decode cX8_root 101 = .ok (.lconst 0, 1) := by decide +kernel
theorem dX8_root_102 : decode cX8_root 102 = .ok (.lor, 1) := by decide +kernel
theorem dX8_root_103 : decode cX8_root 103 = .ok (.lstore 8, 2) := by decide +kernel
theorem dX8_root_105 : decode cX8_root 105 = .ok (.lload 6, 2) := by decide +kernel
theorem dX8_root_107 : decode cX8_root 107 = .ok (.iconst 2, 1) := by decide +kernel
theorem dX8_root_108 : decode cX8_root 108 = .ok (.lshl, 1) := by decide +kernel
theorem dX8_root_109 : decode cX8_root 109 = .ok (.lconst 1, 1) := by decide +kernel
theorem dX8_root_110 : decode cX8_root 110 = .ok (.lor, 1) := by decide +kernel
theorem dX8_root_111 : decode cX8_root 111 = .ok (.lstore 11, 2) := by decide +kernel
theorem dX8_root_113 : decode cX8_root 113 = .ok (.lload 6, 2) := by decide +kernel
theorem dX8_root_115 : decode cX8_root 115 = .ok (.iconst 1, 1) := by decide +kernel
theorem dX8_root_116 : decode cX8_root 116 = .ok (.lshl, 1) := by decide +kernel
theorem dX8_root_117 : decode cX8_root 117 = .ok (.lstore 6, 2) := by decide +kernel
theorem dX8_root_119 : decode cX8_root 119 = .ok (.lload 8, 2) := by decide +kernel
theorem dX8_root_121 : decode cX8_root 121 = .ok (.lload 11, 2) := by decide +kernel
theorem dX8_root_123 : decode cX8_root 123 = .ok (.lcmp, 1) := by decide +kernel
theorem dX8_root_124 : decode cX8_root 124 = .ok (.ifCond .lt 16, 3) := by decide +kernel
theorem dX8_root_127 : decode cX8_root 127 = .ok (.lload 8, 2) := by decide +kernel
theorem dX8_root_129 : decode cX8_root 129 = .ok (.lload 11, 2) := by decide +kernel
theorem dX8_root_131 : decode cX8_root 131 = .ok (.lsub, 1) := by decide +kernel
theorem dX8_root_132 : decode cX8_root 132 = .ok (.lstore 8, 2) := by decide +kernel
theorem dX8_root_134 : decode cX8_root 134 = .ok (.lload 6, 2) := by decide +kernel
theorem dX8_root_136 : decode cX8_root 136 = .ok (.lconst 1, 1) := by decide +kernel
theorem dX8_root_137 : decode cX8_root 137 = .ok (.lor, 1) := by decide +kernel
theorem dX8_root_138 : decode cX8_root 138 = .ok (.lstore 6, 2) := by decide +kernel
theorem dX8_root_140 : decode cX8_root 140 = .ok (.iinc 10 (-1), 3) := by decide +kernel
theorem dX8_root_143 : decode cX8_root 143 = .ok (.goto (-72), 3) := by decide +kernel
theorem dX8_root_146 : decode cX8_root 146 = .ok (.iload_n 0, 1) := by decide +kernel
theorem dX8_root_147 : decode cX8_root 147 = .ok (.iconst 0, 1) := by decide +kernel
theorem dX8_root_148 : decode cX8_root 148 = .ok (.lload 8, 2) := by decide +kernel
theorem dX8_root_150 : decode cX8_root 150 = .ok (.lconst 0, 1) := by decide +kernel
theorem dX8_root_151 : decode cX8_root 151 = .ok (.lcmp, 1) := by decide +kernel
theorem dX8_root_152 : decode cX8_root 152 = .ok (.ifCond .eq 10, 3) := by decide +kernel
theorem dX8_root_155 : decode cX8_root 155 = .ok (.lload 6, 2) := by decide +kernel
theorem dX8_root_157 : decode cX8_root 157 = .ok (.lconst 1, 1) := by decide +kernel
theorem dX8_root_158 : decode cX8_root 158 = .ok (.lor, 1) := by decide +kernel
theorem dX8_root_159 : decode cX8_root 159 = .ok (.goto 5, 3) := by decide +kernel
theorem dX8_root_162 : decode cX8_root 162 = .ok (.lload 6, 2) := by decide +kernel
theorem dX8_root_164 : decode cX8_root 164 = .ok (.iload_n 3, 1) := by decide +kernel
theorem dX8_root_165 : decode cX8_root 165 = .ok (.iconst 2, 1) := by decide +kernel
theorem dX8_root_166 : decode cX8_root 166 = .ok (.idiv, 1) := by decide +kernel
theorem dX8_root_167 : decode cX8_root 167 = .ok (.bipush 29, 2) := by decide +kernel
theorem dX8_root_169 : decode cX8_root 169 = .ok (.isub, 1) := by decide +kernel
theorem dX8_root_170 : decode cX8_root 170 = .ok (.invokestatic 168, 3) := by decide +kernel
theorem dX8_root_173 : decode cX8_root 173 = .ok (.lreturn, 1) := by decide +kernel
def tX8_root_71 (x0 : Int32) (x3 : Int32) (x4 : Int64) (x6 : Int64) (x8 : Int64) (x10 : Int32) : Option (((Int32 × Int32 × Int64 × Int64 × Int64 × Int32)) ⊕ Int64) := if x10 ≤ (-30) then (if x8 = 0 then (pm_let (fX8_round x0 0 x6 ((x3 / 2) - 29)) fun v23 => some (.inr (v23))) else (pm_let (fX8_round x0 0 (x6 ||| 1) ((x3 / 2) - 29)) fun v25 => some (.inr (v25)))) else (if x10 < 0 then (pm_let ((x8 <<< ((2 : Int32).toInt64 &&& 63)) ||| 0) fun y28 => pm_let ((x6 <<< ((2 : Int32).toInt64 &&& 63)) ||| 1) fun y30 => pm_let (x6 <<< ((1 : Int32).toInt64 &&& 63)) fun y32 => if y28 < y30 then (pm_let (x10 + (-1)) fun y35 => some (.inl ((x0, x3, x4, y32, y28, y35)))) else (pm_let (y28 - y30) fun y37 => pm_let (y32 ||| 1) fun y39 => pm_let (x10 + (-1)) fun y41 => some (.inl ((x0, x3, x4, y39, y37, y41))))) else (pm_let ((x8 <<< ((2 : Int32).toInt64 &&& 63)) ||| (((x4.toUInt64 >>> ((2 * x10).toInt64.toUInt64 &&& Int64.toUInt64 63)).toInt64) &&& 3)) fun y43 => pm_let ((x6 <<< ((2 : Int32).toInt64 &&& 63)) ||| 1) fun y45 => pm_let (x6 <<< ((1 : Int32).toInt64 &&& 63)) fun y47 => if y43 < y45 then (pm_let (x10 + (-1)) fun y50 => some (.inl ((x0, x3, x4, y47, y43, y50)))) else (pm_let (y43 - y45) fun y52 => pm_let (y47 ||| 1) fun y54 => pm_let (x10 + (-1)) fun y56 => some (.inl ((x0, x3, x4, y54, y52, y56))))))
def sX8_root : ((Int32 × Int32 × Int64 × Int64 × Int64 × Int32)) → Option (((Int32 × Int32 × Int64 × Int64 × Int64 × Int32)) ⊕ Int64) := fun z => match z with
  | (x0, x3, x4, x6, x8, x10) => tX8_root_71 x0 x3 x4 x6 x8 x10
noncomputable def fX8_root (p1 : Int32) (p2 : Int64) : Option Int64 := pm_let (fX8_isZero p1 p2) fun v1 => if v1 = 0 then (pm_let (fX8_isMinus p1 p2) fun v4 => if v4 = 0 then (pm_let (fX8_isInfinite p1 p2) fun v7 => if v7 = 0 then (pm_let (fX8_scale p1 p2) fun v10 => pm_let (fX8_significand p1 p2) fun v12 => if (v10 &&& 1) = 0 then (pm_lim sX8_root ((p1, v10, v12, 0, 0, 26))) else (pm_let (v12 <<< ((1 : Int32).toInt64 &&& 63)) fun y15 => pm_let (v10 + (-1)) fun y17 => pm_lim sX8_root ((p1, y17, y15, 0, 0, 26)))) else (some p2)) else (pm_let (fX8_none p1) fun v19 => some v19)) else (some p2)
set_option maxHeartbeats 4000000 in
set_option maxRecDepth 100000 in
theorem lpX8_root {g : pm_Gm} {l : Launch} {G : pm_Gl} {Qr : Option Value → pm_H → Prop} (C : pm_C g cX8_root RX8) (X : pm_X g l G mX8_root 0 0 Qr) {h : pm_H} {r : Int64} (q : Qr (some (.long r)) h) : ∀ n : Nat, (∀ (x0 : Int32) (x3 : Int32) (x4 : Int64) (x6 : Int64) (x8 : Int64) (x10 : Int32), pm_iter sX8_root n (x0, x3, x4, x6, x8, x10) = some r → pm_G g 71 [(0, .int x0), (3, .int x3), (4, .long x4), (6, .long x6), (8, .long x8), (10, .int x10)] [] h 0 0) := by
  intro n
  induction n with
  | zero => exact fun _ _ _ _ _ _ hf => (by cases hf)
  | succ n ih =>
    refine fun x0 x3 x4 x6 x8 x10 hf => ?_
    obtain ⟨y, hf, hi⟩ := pm_iter_s hf
    have hf : tX8_root_71 x0 x3 x4 x6 x8 x10 = some y := hf
    unfold tX8_root_71 at hf
    refine pm_iload C dX8_root_71 rfl ?_
    refine pm_bipush (v := (-30)) C dX8_root_73 (by decide) ?_
    refine pm_icmp_le (tgt := 146) C dX8_root_75 (by decide) (fun c21 => ?_) (fun c21 => ?_)
    · have hf := pm_it hf c21
      refine pm_iload_n C dX8_root_146 rfl rfl ?_
      refine pm_iconst (v := 0) C dX8_root_147 (by decide) ?_
      refine pm_lload C dX8_root_148 rfl ?_
      refine pm_lconst (v := 0) C dX8_root_150 (by decide) ?_
      refine pm_lcmp C dX8_root_151 ?_
      refine pm_if_eq (tgt := 162) C dX8_root_152 (by decide) (fun c22 => ?_) (fun c22 => ?_)
      · have hf := pm_it hf ((pm_lg_eq _ _).mp c22)
        refine pm_lload C dX8_root_162 rfl ?_
        refine pm_iload_n C dX8_root_164 rfl rfl ?_
        refine pm_iconst (v := 2) C dX8_root_165 (by decide) ?_
        refine pm_idiv C dX8_root_166 (by decide) ?_
        refine pm_bipush (v := 29) C dX8_root_167 (by decide) ?_
        refine pm_isub C dX8_root_169 ?_
        obtain ⟨v23, e24, hf⟩ := pm_lt hf
        refine pm_callS (as := [.int x0, .int 0, .long x6, .int ((x3 / 2) - 29)]) (st := []) C X dX8_root_170 lnX8_168 myX8_round stX8_round ⟨by decide, by decide⟩ rfl rfl (Nat.le_of_ble_eq_true rfl) (Nat.le_refl _) (Nat.le_refl _) (ctX8_round e24 ?_)
        show pm_G g 173 [(0, .int x0), (3, .int x3), (4, .long x4), (6, .long x6), (8, .long x8), (10, .int x10)] [.long v23] h 0 0
        cases hf
        cases hi
        exact pm_lret C X dX8_root_173 rfl (Nat.le_refl _) (Nat.le_refl _) q
      · have hf := pm_ie hf ((fun z => c22 ((pm_lg_eq _ _).mpr z)))
        refine pm_lload C dX8_root_155 rfl ?_
        refine pm_lconst (v := 1) C dX8_root_157 (by decide) ?_
        refine pm_lor C dX8_root_158 ?_
        refine pm_goto (tgt := 164) C dX8_root_159 (by decide) ?_
        refine pm_iload_n C dX8_root_164 rfl rfl ?_
        refine pm_iconst (v := 2) C dX8_root_165 (by decide) ?_
        refine pm_idiv C dX8_root_166 (by decide) ?_
        refine pm_bipush (v := 29) C dX8_root_167 (by decide) ?_
        refine pm_isub C dX8_root_169 ?_
        obtain ⟨v25, e26, hf⟩ := pm_lt hf
        refine pm_callS (as := [.int x0, .int 0, .long (x6 ||| 1), .int ((x3 / 2) - 29)]) (st := []) C X dX8_root_170 lnX8_168 myX8_round stX8_round ⟨by decide, by decide⟩ rfl rfl (Nat.le_of_ble_eq_true rfl) (Nat.le_refl _) (Nat.le_refl _) (ctX8_round e26 ?_)
        show pm_G g 173 [(0, .int x0), (3, .int x3), (4, .long x4), (6, .long x6), (8, .long x8), (10, .int x10)] [.long v25] h 0 0
        cases hf
        cases hi
        exact pm_lret C X dX8_root_173 rfl (Nat.le_refl _) (Nat.le_refl _) q
    · have hf := pm_ie hf c21
      refine pm_lload C dX8_root_78 rfl ?_
      refine pm_iconst (v := 2) C dX8_root_80 (by decide) ?_
      refine pm_lshl C dX8_root_81 ?_
      refine pm_iload C dX8_root_82 rfl ?_
      refine pm_if_lt (tgt := 101) C dX8_root_84 (by decide) (fun c27 => ?_) (fun c27 => ?_)
      · have hf := pm_it hf c27
        refine pm_lconst (v := 0) C dX8_root_101 (by decide) ?_
        refine pm_lor C dX8_root_102 ?_
        obtain ⟨y28, e29, hf⟩ := pm_lt hf
        refine pm_topL e29 ?_
        refine pm_lstore (lv' := [(8, .long y28), (0, .int x0), (3, .int x3), (4, .long x4), (6, .long x6), (10, .int x10)]) C dX8_root_103 (pm_nl X (by decide)) rfl ?_
        refine pm_lload C dX8_root_105 rfl ?_
        refine pm_iconst (v := 2) C dX8_root_107 (by decide) ?_
        refine pm_lshl C dX8_root_108 ?_
        refine pm_lconst (v := 1) C dX8_root_109 (by decide) ?_
        refine pm_lor C dX8_root_110 ?_
        obtain ⟨y30, e31, hf⟩ := pm_lt hf
        refine pm_topL e31 ?_
        refine pm_lstore (lv' := [(11, .long y30), (8, .long y28), (0, .int x0), (3, .int x3), (4, .long x4), (6, .long x6), (10, .int x10)]) C dX8_root_111 (pm_nl X (by decide)) rfl ?_
        refine pm_lload C dX8_root_113 rfl ?_
        refine pm_iconst (v := 1) C dX8_root_115 (by decide) ?_
        refine pm_lshl C dX8_root_116 ?_
        obtain ⟨y32, e33, hf⟩ := pm_lt hf
        refine pm_topL e33 ?_
        refine pm_lstore (lv' := [(6, .long y32), (11, .long y30), (8, .long y28), (0, .int x0), (3, .int x3), (4, .long x4), (10, .int x10)]) C dX8_root_117 (pm_nl X (by decide)) rfl ?_
        refine pm_lload C dX8_root_119 rfl ?_
        refine pm_lload C dX8_root_121 rfl ?_
        refine pm_lcmp C dX8_root_123 ?_
        refine pm_if_lt (tgt := 140) C dX8_root_124 (by decide) (fun c34 => ?_) (fun c34 => ?_)
        · have hf := pm_it hf ((pm_lg_lt _ _).mp c34)
          obtain ⟨y35, e36, hf⟩ := pm_lt hf
          refine pm_iinc (v := y35) (lv' := [(10, .int y35), (6, .long y32), (11, .long y30), (8, .long y28), (0, .int x0), (3, .int x3), (4, .long x4)]) C dX8_root_140 rfl ((congrArg (x10 + ·) (by decide : Int32.ofInt (-1) = (-1))).trans e36) (pm_nl X (by decide)) rfl ?_
          refine pm_goto (tgt := 71) C dX8_root_143 (by decide) ?_
          cases hf
          exact pm_sub [4, 5, 6, 1, 3, 0] rfl (ih x0 x3 x4 y32 y28 y35 hi)
        · have hf := pm_ie hf ((fun z => c34 ((pm_lg_lt _ _).mpr z)))
          refine pm_lload C dX8_root_127 rfl ?_
          refine pm_lload C dX8_root_129 rfl ?_
          refine pm_lsub C dX8_root_131 ?_
          obtain ⟨y37, e38, hf⟩ := pm_lt hf
          refine pm_topL e38 ?_
          refine pm_lstore (lv' := [(8, .long y37), (6, .long y32), (11, .long y30), (0, .int x0), (3, .int x3), (4, .long x4), (10, .int x10)]) C dX8_root_132 (pm_nl X (by decide)) rfl ?_
          refine pm_lload C dX8_root_134 rfl ?_
          refine pm_lconst (v := 1) C dX8_root_136 (by decide) ?_
          refine pm_lor C dX8_root_137 ?_
          obtain ⟨y39, e40, hf⟩ := pm_lt hf
          refine pm_topL e40 ?_
          refine pm_lstore (lv' := [(6, .long y39), (8, .long y37), (11, .long y30), (0, .int x0), (3, .int x3), (4, .long x4), (10, .int x10)]) C dX8_root_138 (pm_nl X (by decide)) rfl ?_
          obtain ⟨y41, e42, hf⟩ := pm_lt hf
          refine pm_iinc (v := y41) (lv' := [(10, .int y41), (6, .long y39), (8, .long y37), (11, .long y30), (0, .int x0), (3, .int x3), (4, .long x4)]) C dX8_root_140 rfl ((congrArg (x10 + ·) (by decide : Int32.ofInt (-1) = (-1))).trans e42) (pm_nl X (by decide)) rfl ?_
          refine pm_goto (tgt := 71) C dX8_root_143 (by decide) ?_
          cases hf
          exact pm_sub [4, 5, 6, 1, 2, 0] rfl (ih x0 x3 x4 y39 y37 y41 hi)
      · have hf := pm_ie hf c27
        refine pm_lload C dX8_root_87 rfl ?_
        refine pm_iconst (v := 2) C dX8_root_89 (by decide) ?_
        refine pm_iload C dX8_root_90 rfl ?_
        refine pm_imul C dX8_root_92 ?_
        refine pm_lushr C dX8_root_93 ?_
        refine pm_ldc2 C dX8_root_94 cnX8_172 ?_
        refine pm_land C dX8_root_97 ?_
        refine pm_goto (tgt := 102) C dX8_root_98 (by decide) ?_
        refine pm_lor C dX8_root_102 ?_
        obtain ⟨y43, e44, hf⟩ := pm_lt hf
        refine pm_topL e44 ?_
        refine pm_lstore (lv' := [(8, .long y43), (0, .int x0), (3, .int x3), (4, .long x4), (6, .long x6), (10, .int x10)]) C dX8_root_103 (pm_nl X (by decide)) rfl ?_
        refine pm_lload C dX8_root_105 rfl ?_
        refine pm_iconst (v := 2) C dX8_root_107 (by decide) ?_
        refine pm_lshl C dX8_root_108 ?_
        refine pm_lconst (v := 1) C dX8_root_109 (by decide) ?_
        refine pm_lor C dX8_root_110 ?_
        obtain ⟨y45, e46, hf⟩ := pm_lt hf
        refine pm_topL e46 ?_
        refine pm_lstore (lv' := [(11, .long y45), (8, .long y43), (0, .int x0), (3, .int x3), (4, .long x4), (6, .long x6), (10, .int x10)]) C dX8_root_111 (pm_nl X (by decide)) rfl ?_
        refine pm_lload C dX8_root_113 rfl ?_
        refine pm_iconst (v := 1) C dX8_root_115 (by decide) ?_
        refine pm_lshl C dX8_root_116 ?_
        obtain ⟨y47, e48, hf⟩ := pm_lt hf
        refine pm_topL e48 ?_
        refine pm_lstore (lv' := [(6, .long y47), (11, .long y45), (8, .long y43), (0, .int x0), (3, .int x3), (4, .long x4), (10, .int x10)]) C dX8_root_117 (pm_nl X (by decide)) rfl ?_
        refine pm_lload C dX8_root_119 rfl ?_
        refine pm_lload C dX8_root_121 rfl ?_
        refine pm_lcmp C dX8_root_123 ?_
        refine pm_if_lt (tgt := 140) C dX8_root_124 (by decide) (fun c49 => ?_) (fun c49 => ?_)
        · have hf := pm_it hf ((pm_lg_lt _ _).mp c49)
          obtain ⟨y50, e51, hf⟩ := pm_lt hf
          refine pm_iinc (v := y50) (lv' := [(10, .int y50), (6, .long y47), (11, .long y45), (8, .long y43), (0, .int x0), (3, .int x3), (4, .long x4)]) C dX8_root_140 rfl ((congrArg (x10 + ·) (by decide : Int32.ofInt (-1) = (-1))).trans e51) (pm_nl X (by decide)) rfl ?_
          refine pm_goto (tgt := 71) C dX8_root_143 (by decide) ?_
          cases hf
          exact pm_sub [4, 5, 6, 1, 3, 0] rfl (ih x0 x3 x4 y47 y43 y50 hi)
        · have hf := pm_ie hf ((fun z => c49 ((pm_lg_lt _ _).mpr z)))
          refine pm_lload C dX8_root_127 rfl ?_
          refine pm_lload C dX8_root_129 rfl ?_
          refine pm_lsub C dX8_root_131 ?_
          obtain ⟨y52, e53, hf⟩ := pm_lt hf
          refine pm_topL e53 ?_
          refine pm_lstore (lv' := [(8, .long y52), (6, .long y47), (11, .long y45), (0, .int x0), (3, .int x3), (4, .long x4), (10, .int x10)]) C dX8_root_132 (pm_nl X (by decide)) rfl ?_
          refine pm_lload C dX8_root_134 rfl ?_
          refine pm_lconst (v := 1) C dX8_root_136 (by decide) ?_
          refine pm_lor C dX8_root_137 ?_
          obtain ⟨y54, e55, hf⟩ := pm_lt hf
          refine pm_topL e55 ?_
          refine pm_lstore (lv' := [(6, .long y54), (8, .long y52), (11, .long y45), (0, .int x0), (3, .int x3), (4, .long x4), (10, .int x10)]) C dX8_root_138 (pm_nl X (by decide)) rfl ?_
          obtain ⟨y56, e57, hf⟩ := pm_lt hf
          refine pm_iinc (v := y56) (lv' := [(10, .int y56), (6, .long y54), (8, .long y52), (11, .long y45), (0, .int x0), (3, .int x3), (4, .long x4)]) C dX8_root_140 rfl ((congrArg (x10 + ·) (by decide : Int32.ofInt (-1) = (-1))).trans e57) (pm_nl X (by decide)) rfl ?_
          refine pm_goto (tgt := 71) C dX8_root_143 (by decide) ?_
          cases hf
          exact pm_sub [4, 5, 6, 1, 2, 0] rfl (ih x0 x3 x4 y54 y52 y56 hi)
set_option maxHeartbeats 4000000 in
set_option maxRecDepth 100000 in
theorem ctX8_root {l : Launch} {G : pm_Gl} {h : pm_H} {p1 : Int32} {p2 : Int64} {r : Int64} {Qr : Option Value → pm_H → Prop} (hf : fX8_root p1 p2 = some r) (q : Qr (some (.long r)) h) : pm_Ct l G mX8_root [.int p1, .long p2] h 0 0 Qr := by
  refine pm_body pnX8 (Nat.le_of_ble_eq_true rfl) (fun g C X => ?_)
  have C : pm_C g cX8_root RX8 := C
  show pm_G g 0 [(0, .int p1), (1, .long p2)] [] h 0 0
  unfold fX8_root at hf
  refine pm_iload_n C dX8_root_0 rfl rfl ?_
  refine pm_lload_n C dX8_root_1 rfl rfl ?_
  obtain ⟨v1, e2, hf⟩ := pm_lt hf
  refine pm_callS (as := [.int p1, .long p2]) (st := []) C X dX8_root_2 lnX8_78 myX8_isZero stX8_isZero ⟨by decide, by decide⟩ rfl rfl (Nat.le_of_ble_eq_true rfl) (Nat.le_refl _) (Nat.le_refl _) (ctX8_isZero e2 ?_)
  show pm_G g 5 [(0, .int p1), (1, .long p2)] [.int v1] h 0 0
  refine pm_if_eq (tgt := 10) C dX8_root_5 (by decide) (fun c3 => ?_) (fun c3 => ?_)
  · have hf := pm_it hf c3
    refine pm_iload_n C dX8_root_10 rfl rfl ?_
    refine pm_lload_n C dX8_root_11 rfl rfl ?_
    obtain ⟨v4, e5, hf⟩ := pm_lt hf
    refine pm_callS (as := [.int p1, .long p2]) (st := []) C X dX8_root_12 lnX8_162 myX8_isMinus stX8_isMinus ⟨by decide, by decide⟩ rfl rfl (Nat.le_of_ble_eq_true rfl) (Nat.le_refl _) (Nat.le_refl _) (ctX8_isMinus e5 ?_)
    show pm_G g 15 [(0, .int p1), (1, .long p2)] [.int v4] h 0 0
    refine pm_if_eq (tgt := 23) C dX8_root_15 (by decide) (fun c6 => ?_) (fun c6 => ?_)
    · have hf := pm_it hf c6
      refine pm_iload_n C dX8_root_23 rfl rfl ?_
      refine pm_lload_n C dX8_root_24 rfl rfl ?_
      obtain ⟨v7, e8, hf⟩ := pm_lt hf
      refine pm_callS (as := [.int p1, .long p2]) (st := []) C X dX8_root_25 lnX8_155 myX8_isInfinite stX8_isInfinite ⟨by decide, by decide⟩ rfl rfl (Nat.le_of_ble_eq_true rfl) (Nat.le_refl _) (Nat.le_refl _) (ctX8_isInfinite e8 ?_)
      show pm_G g 28 [(0, .int p1), (1, .long p2)] [.int v7] h 0 0
      refine pm_if_eq (tgt := 33) C dX8_root_28 (by decide) (fun c9 => ?_) (fun c9 => ?_)
      · have hf := pm_it hf c9
        refine pm_iload_n C dX8_root_33 rfl rfl ?_
        refine pm_lload_n C dX8_root_34 rfl rfl ?_
        obtain ⟨v10, e11, hf⟩ := pm_lt hf
        refine pm_callS (as := [.int p1, .long p2]) (st := []) C X dX8_root_35 lnX8_158 myX8_scale stX8_scale ⟨by decide, by decide⟩ rfl rfl (Nat.le_of_ble_eq_true rfl) (Nat.le_refl _) (Nat.le_refl _) (ctX8_scale e11 ?_)
        show pm_G g 38 [(0, .int p1), (1, .long p2)] [.int v10] h 0 0
        refine pm_istore_n (lv' := [(3, .int v10), (0, .int p1), (1, .long p2)]) C dX8_root_38 rfl (pm_nl X (by decide)) rfl ?_
        refine pm_iload_n C dX8_root_39 rfl rfl ?_
        refine pm_lload_n C dX8_root_40 rfl rfl ?_
        obtain ⟨v12, e13, hf⟩ := pm_lt hf
        refine pm_callS (as := [.int p1, .long p2]) (st := []) C X dX8_root_41 lnX8_165 myX8_significand stX8_significand ⟨by decide, by decide⟩ rfl rfl (Nat.le_of_ble_eq_true rfl) (Nat.le_refl _) (Nat.le_refl _) (ctX8_significand e13 ?_)
        show pm_G g 44 [(3, .int v10), (0, .int p1), (1, .long p2)] [.long v12] h 0 0
        refine pm_lstore (lv' := [(4, .long v12), (3, .int v10), (0, .int p1), (1, .long p2)]) C dX8_root_44 (pm_nl X (by decide)) rfl ?_
        refine pm_iload_n C dX8_root_46 rfl rfl ?_
        refine pm_iconst (v := 1) C dX8_root_47 (by decide) ?_
        refine pm_iand C dX8_root_48 ?_
        refine pm_if_eq (tgt := 61) C dX8_root_49 (by decide) (fun c14 => ?_) (fun c14 => ?_)
        · have hf := pm_it hf c14
          refine pm_lconst (v := 0) C dX8_root_61 (by decide) ?_
          refine pm_lstore (lv' := [(6, .long 0), (4, .long v12), (3, .int v10), (0, .int p1), (1, .long p2)]) C dX8_root_62 (pm_nl X (by decide)) rfl ?_
          refine pm_lconst (v := 0) C dX8_root_64 (by decide) ?_
          refine pm_lstore (lv' := [(8, .long 0), (6, .long 0), (4, .long v12), (3, .int v10), (0, .int p1), (1, .long p2)]) C dX8_root_65 (pm_nl X (by decide)) rfl ?_
          refine pm_bipush (v := 26) C dX8_root_67 (by decide) ?_
          refine pm_istore (lv' := [(10, .int 26), (8, .long 0), (6, .long 0), (4, .long v12), (3, .int v10), (0, .int p1), (1, .long p2)]) C dX8_root_69 (pm_nl X (by decide)) rfl ?_
          obtain ⟨n, hn⟩ := pm_lim_iter hf
          exact pm_sub [5, 4, 3, 2, 1, 0] rfl ((lpX8_root C X q n) p1 v10 v12 0 0 26 hn)
        · have hf := pm_ie hf c14
          refine pm_lload C dX8_root_52 rfl ?_
          refine pm_iconst (v := 1) C dX8_root_54 (by decide) ?_
          refine pm_lshl C dX8_root_55 ?_
          obtain ⟨y15, e16, hf⟩ := pm_lt hf
          refine pm_topL e16 ?_
          refine pm_lstore (lv' := [(4, .long y15), (3, .int v10), (0, .int p1), (1, .long p2)]) C dX8_root_56 (pm_nl X (by decide)) rfl ?_
          obtain ⟨y17, e18, hf⟩ := pm_lt hf
          refine pm_iinc (v := y17) (lv' := [(3, .int y17), (4, .long y15), (0, .int p1), (1, .long p2)]) C dX8_root_58 rfl ((congrArg (v10 + ·) (by decide : Int32.ofInt (-1) = (-1))).trans e18) (pm_nl X (by decide)) rfl ?_
          refine pm_lconst (v := 0) C dX8_root_61 (by decide) ?_
          refine pm_lstore (lv' := [(6, .long 0), (3, .int y17), (4, .long y15), (0, .int p1), (1, .long p2)]) C dX8_root_62 (pm_nl X (by decide)) rfl ?_
          refine pm_lconst (v := 0) C dX8_root_64 (by decide) ?_
          refine pm_lstore (lv' := [(8, .long 0), (6, .long 0), (3, .int y17), (4, .long y15), (0, .int p1), (1, .long p2)]) C dX8_root_65 (pm_nl X (by decide)) rfl ?_
          refine pm_bipush (v := 26) C dX8_root_67 (by decide) ?_
          refine pm_istore (lv' := [(10, .int 26), (8, .long 0), (6, .long 0), (3, .int y17), (4, .long y15), (0, .int p1), (1, .long p2)]) C dX8_root_69 (pm_nl X (by decide)) rfl ?_
          obtain ⟨n, hn⟩ := pm_lim_iter hf
          exact pm_sub [5, 3, 4, 2, 1, 0] rfl ((lpX8_root C X q n) p1 y17 y15 0 0 26 hn)
      · have hf := pm_ie hf c9
        refine pm_lload_n C dX8_root_31 rfl rfl ?_
        cases hf
        exact pm_lret C X dX8_root_32 rfl (Nat.le_refl _) (Nat.le_refl _) q
    · have hf := pm_ie hf c6
      refine pm_iload_n C dX8_root_18 rfl rfl ?_
      obtain ⟨v19, e20, hf⟩ := pm_lt hf
      refine pm_callS (as := [.int p1]) (st := []) C X dX8_root_19 lnX8_136 myX8_none stX8_none ⟨by decide, by decide⟩ rfl rfl (Nat.le_of_ble_eq_true rfl) (Nat.le_refl _) (Nat.le_refl _) (ctX8_none e20 ?_)
      show pm_G g 22 [(0, .int p1), (1, .long p2)] [.long v19] h 0 0
      cases hf
      exact pm_lret C X dX8_root_22 rfl (Nat.le_refl _) (Nat.le_refl _) q
  · have hf := pm_ie hf c3
    refine pm_lload_n C dX8_root_8 rfl rfl ?_
    cases hf
    exact pm_lret C X dX8_root_9 rfl (Nat.le_refl _) (Nat.le_refl _) q
theorem dX8_toFloating_0 : decode cX8_toFloating 0 = .ok (.iload_n 0, 1) := by decide +kernel
theorem dX8_toFloating_1 : decode cX8_toFloating 1 = .ok (.tableswitch 153 178 187 #[55, 55, 79, 79, 139, 97, 97, 121, 121, 146], 55) := by decide +kernel
theorem dX8_toFloating_56 : decode cX8_toFloating 56 = .ok (.iconst 2, 1) := by decide +kernel
theorem dX8_toFloating_57 : decode cX8_toFloating 57 = .ok (.iload_n 0, 1) := by decide +kernel
theorem dX8_toFloating_58 : decode cX8_toFloating 58 = .ok (.sipush 178, 3) := by decide +kernel
theorem dX8_toFloating_61 : decode cX8_toFloating 61 = .ok (.if_icmp .ne 9, 3) := by decide +kernel
theorem dX8_toFloating_64 : decode cX8_toFloating 64 = .ok (.lload_n 1, 1) := by decide +kernel
theorem dX8_toFloating_65 : decode cX8_toFloating 65 = .ok (.l2i, 1) := by decide +kernel
theorem dX8_toFloating_66 : decode cX8_toFloating 66 = .ok (.i2l, 1) := by decide +kernel
theorem dX8_toFloating_67 : decode cX8_toFloating 67 = .ok (.goto 8, 3) := by decide +kernel
theorem dX8_toFloating_70 : decode cX8_toFloating 70 = .ok (.lload_n 1, 1) := by decide +kernel
theorem dX8_toFloating_71 : decode cX8_toFloating 71 = .ok (.ldc2_w 56, 3) := by decide +kernel
theorem dX8_toFloating_74 : decode cX8_toFloating 74 = .ok (.land, 1) := by decide +kernel
theorem dX8_toFloating_75 : decode cX8_toFloating 75 = .ok (.iconst 0, 1) := by decide +kernel
theorem dX8_toFloating_76 : decode cX8_toFloating 76 = .ok (.invokestatic 196, 3) := by decide +kernel
theorem dX8_toFloating_79 : decode cX8_toFloating 79 = .ok (.lreturn, 1) := by decide +kernel
theorem dX8_toFloating_80 : decode cX8_toFloating 80 = .ok (.iconst 2, 1) := by decide +kernel
theorem dX8_toFloating_81 : decode cX8_toFloating 81 = .ok (.lload_n 1, 1) := by decide +kernel
theorem dX8_toFloating_82 : decode cX8_toFloating 82 = .ok (.iload_n 0, 1) := by decide +kernel
theorem dX8_toFloating_83 : decode cX8_toFloating 83 = .ok (.sipush 181, 3) := by decide +kernel
theorem dX8_toFloating_86 : decode cX8_toFloating 86 = .ok (.if_icmp .ne 7, 3) := by decide +kernel
theorem dX8_toFloating_89 : decode cX8_toFloating 89 = .ok (.iconst 1, 1) := by decide +kernel
theorem dX8_toFloating_90 : decode cX8_toFloating 90 = .ok (.goto 4, 3) := by decide +kernel
theorem dX8_toFloating_93 : decode cX8_toFloating 93 = .ok (.iconst 0, 1) := by decide +kernel
theorem dX8_toFloating_94 : decode cX8_toFloating 94 = .ok (.invokestatic 196, 3) := by decide +kernel
theorem dX8_toFloating_97 : decode cX8_toFloating 97 = .ok (.lreturn, 1) := by decide +kernel
theorem dX8_toFloating_98 : decode cX8_toFloating 98 = .ok (.iconst 3, 1) := by decide +kernel
theorem dX8_toFloating_99 : decode cX8_toFloating 99 = .ok (.iload_n 0, 1) := by decide +kernel
theorem dX8_toFloating_100 : decode cX8_toFloating 100 = .ok (.sipush 183, 3) := by decide +kernel
theorem dX8_toFloating_103 : decode cX8_toFloating 103 = .ok (.if_icmp .ne 9, 3) := by decide +kernel
theorem dX8_toFloating_106 : decode cX8_toFloating 106 = .ok (.lload_n 1, 1) := by decide +kernel
theorem dX8_toFloating_107 : decode cX8_toFloating 107 = .ok (.l2i, 1) := by decide +kernel
theorem dX8_toFloating_108 : decode cX8_toFloating 108 = .ok (.i2l, 1) := by decide +kernel
theorem dX8_toFloating_109 : decode cX8_toFloating 109 = .ok (.goto 8, 3) := by decide +kernel
theorem dX8_toFloating_112 : decode cX8_toFloating 112 = .ok (.lload_n 1, 1) := by decide +kernel
theorem dX8_toFloating_113 : decode cX8_toFloating 113 = .ok (.ldc2_w 56, 3) := by decide +kernel
theorem dX8_toFloating_116 : decode cX8_toFloating 116 = .ok (.land, 1) := by decide +kernel
theorem dX8_toFloating_117 : decode cX8_toFloating 117 = .ok (.iconst 0, 1) := by decide +kernel
theorem dX8_toFloating_118 : decode cX8_toFloating 118 = .ok (.invokestatic 196, 3) := by decide +kernel
theorem dX8_toFloating_121 : decode cX8_toFloating 121 = .ok (.lreturn, 1) := by decide +kernel
theorem dX8_toFloating_122 : decode cX8_toFloating 122 = .ok (.iconst 3, 1) := by decide +kernel
theorem dX8_toFloating_123 : decode cX8_toFloating 123 = .ok (.lload_n 1, 1) := by decide +kernel
theorem dX8_toFloating_124 : decode cX8_toFloating 124 = .ok (.iload_n 0, 1) := by decide +kernel
theorem dX8_toFloating_125 : decode cX8_toFloating 125 = .ok (.sipush 186, 3) := by decide +kernel
theorem dX8_toFloating_128 : decode cX8_toFloating 128 = .ok (.if_icmp .ne 7, 3) := by decide +kernel
theorem dX8_toFloating_131 : decode cX8_toFloating 131 = .ok (.iconst 1, 1) := by decide +kernel
theorem dX8_toFloating_132 : decode cX8_toFloating 132 = .ok (.goto 4, 3) := by decide +kernel
theorem dX8_toFloating_135 : decode cX8_toFloating 135 = .ok (.iconst 0, 1) := by decide +kernel
theorem dX8_toFloating_136 : decode cX8_toFloating 136 = .ok (.invokestatic 196, 3) := by decide +kernel
theorem dX8_toFloating_139 : decode cX8_toFloating 139 = .ok (.lreturn, 1) := by decide +kernel
theorem dX8_toFloating_140 : decode cX8_toFloating 140 = .ok (.iconst 3, 1) := by decide +kernel
theorem dX8_toFloating_141 : decode cX8_toFloating 141 = .ok (.iconst 2, 1) := by decide +kernel
theorem dX8_toFloating_142 : decode cX8_toFloating 142 = .ok (.lload_n 1, 1) := by decide +kernel
theorem dX8_toFloating_143 : decode cX8_toFloating 143 = .ok (.invokestatic 200, 3) := by decide +kernel
theorem dX8_toFloating_146 : decode cX8_toFloating 146 = .ok (.lreturn, 1) := by decide +kernel
theorem dX8_toFloating_147 : decode cX8_toFloating 147 = .ok (.iconst 2, 1) := by decide +kernel
theorem dX8_toFloating_148 : decode cX8_toFloating 148 = .ok (.iconst 3, 1) := by decide +kernel
theorem dX8_toFloating_149 : decode cX8_toFloating 149 = .ok (.lload_n 1, 1) := by decide +kernel
theorem dX8_toFloating_150 : decode cX8_toFloating 150 = .ok (.invokestatic 200, 3) := by decide +kernel
theorem dX8_toFloating_153 : decode cX8_toFloating 153 = .ok (.lreturn, 1) := by decide +kernel
theorem dX8_toFloating_154 : decode cX8_toFloating 154 = .ok (.lload_n 1, 1) := by decide +kernel
theorem dX8_toFloating_155 : decode cX8_toFloating 155 = .ok (.lreturn, 1) := by decide +kernel
def fX8_toFloating (p1 : Int32) (p2 : Int64) : Int64 := if p1 = 178 then (if p1 = 178 then (pm_let (fX8_fromWhole 2 p2.toInt32.toInt64 0) fun v5 => v5) else (pm_let (fX8_fromWhole 2 (p2 &&& 4294967295) 0) fun v3 => v3)) else (if p1 = 179 then (if p1 = 178 then (pm_let (fX8_fromWhole 2 p2.toInt32.toInt64 0) fun v11 => v11) else (pm_let (fX8_fromWhole 2 (p2 &&& 4294967295) 0) fun v9 => v9)) else (if p1 = 180 then (if p1 = 181 then (pm_let (fX8_fromWhole 2 p2 1) fun v17 => v17) else (pm_let (fX8_fromWhole 2 p2 0) fun v15 => v15)) else (if p1 = 181 then (if p1 = 181 then (pm_let (fX8_fromWhole 2 p2 1) fun v23 => v23) else (pm_let (fX8_fromWhole 2 p2 0) fun v21 => v21)) else (if p1 = 182 then (pm_let (fX8_resized 3 2 p2) fun v26 => v26) else (if p1 = 183 then (if p1 = 183 then (pm_let (fX8_fromWhole 3 p2.toInt32.toInt64 0) fun v32 => v32) else (pm_let (fX8_fromWhole 3 (p2 &&& 4294967295) 0) fun v30 => v30)) else (if p1 = 184 then (if p1 = 183 then (pm_let (fX8_fromWhole 3 p2.toInt32.toInt64 0) fun v38 => v38) else (pm_let (fX8_fromWhole 3 (p2 &&& 4294967295) 0) fun v36 => v36)) else (if p1 = 185 then (if p1 = 186 then (pm_let (fX8_fromWhole 3 p2 1) fun v44 => v44) else (pm_let (fX8_fromWhole 3 p2 0) fun v42 => v42)) else (if p1 = 186 then (if p1 = 186 then (pm_let (fX8_fromWhole 3 p2 1) fun v50 => v50) else (pm_let (fX8_fromWhole 3 p2 0) fun v48 => v48)) else (if p1 = 187 then (pm_let (fX8_resized 2 3 p2) fun v53 => v53) else (p2))))))))))
set_option maxHeartbeats 4000000 in
set_option maxRecDepth 100000 in
theorem ctX8_toFloating {l : Launch} {G : pm_Gl} {h : pm_H} {p1 : Int32} {p2 : Int64} {r : Int64} {Qr : Option Value → pm_H → Prop} (hf : fX8_toFloating p1 p2 = r) (q : Qr (some (.long r)) h) : pm_Ct l G mX8_toFloating [.int p1, .long p2] h 0 0 Qr := by
  refine pm_body pnX8 (Nat.le_of_ble_eq_true rfl) (fun g C X => ?_)
  have C : pm_C g cX8_toFloating RX8 := C
  show pm_G g 0 [(0, .int p1), (1, .long p2)] [] h 0 0
  unfold fX8_toFloating at hf
  refine pm_iload_n C dX8_toFloating_0 rfl rfl ?_
  by_cases c1 : p1 = 178
  · have hf := pm_it hf c1
    refine pm_tableIn (tgt := 56) C dX8_toFloating_1 (by rw [c1]; decide) (by rw [c1]; decide) (by rw [c1]; rfl) (by decide) ?_
    refine pm_iconst (v := 2) C dX8_toFloating_56 (by decide) ?_
    refine pm_iload_n C dX8_toFloating_57 rfl rfl ?_
    refine pm_sipush (v := 178) C dX8_toFloating_58 (by decide) ?_
    refine pm_icmp_ne (tgt := 70) C dX8_toFloating_61 (by decide) (fun c2 => ?_) (fun c2 => ?_)
    · have hf := pm_ie hf c2
      refine pm_lload_n C dX8_toFloating_70 rfl rfl ?_
      refine pm_ldc2 C dX8_toFloating_71 cnX8_56 ?_
      refine pm_land C dX8_toFloating_74 ?_
      refine pm_iconst (v := 0) C dX8_toFloating_75 (by decide) ?_
      obtain ⟨v3, e4, hf⟩ := pm_lt hf
      refine pm_callS (as := [.int 2, .long (p2 &&& 4294967295), .int 0]) (st := []) C X dX8_toFloating_76 lnX8_196 myX8_fromWhole stX8_fromWhole ⟨by decide, by decide⟩ rfl rfl (Nat.le_of_ble_eq_true rfl) (Nat.le_refl _) (Nat.le_refl _) (ctX8_fromWhole e4 ?_)
      show pm_G g 79 [(0, .int p1), (1, .long p2)] [.long v3] h 0 0
      subst hf
      exact pm_lret C X dX8_toFloating_79 rfl (Nat.le_refl _) (Nat.le_refl _) q
    · have hf := pm_it hf c2
      refine pm_lload_n C dX8_toFloating_64 rfl rfl ?_
      refine pm_l2i C dX8_toFloating_65 ?_
      refine pm_i2l C dX8_toFloating_66 ?_
      refine pm_goto (tgt := 75) C dX8_toFloating_67 (by decide) ?_
      refine pm_iconst (v := 0) C dX8_toFloating_75 (by decide) ?_
      obtain ⟨v5, e6, hf⟩ := pm_lt hf
      refine pm_callS (as := [.int 2, .long p2.toInt32.toInt64, .int 0]) (st := []) C X dX8_toFloating_76 lnX8_196 myX8_fromWhole stX8_fromWhole ⟨by decide, by decide⟩ rfl rfl (Nat.le_of_ble_eq_true rfl) (Nat.le_refl _) (Nat.le_refl _) (ctX8_fromWhole e6 ?_)
      show pm_G g 79 [(0, .int p1), (1, .long p2)] [.long v5] h 0 0
      subst hf
      exact pm_lret C X dX8_toFloating_79 rfl (Nat.le_refl _) (Nat.le_refl _) q
  have hf := pm_ie hf c1
  by_cases c7 : p1 = 179
  · have hf := pm_it hf c7
    refine pm_tableIn (tgt := 56) C dX8_toFloating_1 (by rw [c7]; decide) (by rw [c7]; decide) (by rw [c7]; rfl) (by decide) ?_
    refine pm_iconst (v := 2) C dX8_toFloating_56 (by decide) ?_
    refine pm_iload_n C dX8_toFloating_57 rfl rfl ?_
    refine pm_sipush (v := 178) C dX8_toFloating_58 (by decide) ?_
    refine pm_icmp_ne (tgt := 70) C dX8_toFloating_61 (by decide) (fun c8 => ?_) (fun c8 => ?_)
    · have hf := pm_ie hf c8
      refine pm_lload_n C dX8_toFloating_70 rfl rfl ?_
      refine pm_ldc2 C dX8_toFloating_71 cnX8_56 ?_
      refine pm_land C dX8_toFloating_74 ?_
      refine pm_iconst (v := 0) C dX8_toFloating_75 (by decide) ?_
      obtain ⟨v9, e10, hf⟩ := pm_lt hf
      refine pm_callS (as := [.int 2, .long (p2 &&& 4294967295), .int 0]) (st := []) C X dX8_toFloating_76 lnX8_196 myX8_fromWhole stX8_fromWhole ⟨by decide, by decide⟩ rfl rfl (Nat.le_of_ble_eq_true rfl) (Nat.le_refl _) (Nat.le_refl _) (ctX8_fromWhole e10 ?_)
      show pm_G g 79 [(0, .int p1), (1, .long p2)] [.long v9] h 0 0
      subst hf
      exact pm_lret C X dX8_toFloating_79 rfl (Nat.le_refl _) (Nat.le_refl _) q
    · have hf := pm_it hf c8
      refine pm_lload_n C dX8_toFloating_64 rfl rfl ?_
      refine pm_l2i C dX8_toFloating_65 ?_
      refine pm_i2l C dX8_toFloating_66 ?_
      refine pm_goto (tgt := 75) C dX8_toFloating_67 (by decide) ?_
      refine pm_iconst (v := 0) C dX8_toFloating_75 (by decide) ?_
      obtain ⟨v11, e12, hf⟩ := pm_lt hf
      refine pm_callS (as := [.int 2, .long p2.toInt32.toInt64, .int 0]) (st := []) C X dX8_toFloating_76 lnX8_196 myX8_fromWhole stX8_fromWhole ⟨by decide, by decide⟩ rfl rfl (Nat.le_of_ble_eq_true rfl) (Nat.le_refl _) (Nat.le_refl _) (ctX8_fromWhole e12 ?_)
      show pm_G g 79 [(0, .int p1), (1, .long p2)] [.long v11] h 0 0
      subst hf
      exact pm_lret C X dX8_toFloating_79 rfl (Nat.le_refl _) (Nat.le_refl _) q
  have hf := pm_ie hf c7
  by_cases c13 : p1 = 180
  · have hf := pm_it hf c13
    refine pm_tableIn (tgt := 80) C dX8_toFloating_1 (by rw [c13]; decide) (by rw [c13]; decide) (by rw [c13]; rfl) (by decide) ?_
    refine pm_iconst (v := 2) C dX8_toFloating_80 (by decide) ?_
    refine pm_lload_n C dX8_toFloating_81 rfl rfl ?_
    refine pm_iload_n C dX8_toFloating_82 rfl rfl ?_
    refine pm_sipush (v := 181) C dX8_toFloating_83 (by decide) ?_
    refine pm_icmp_ne (tgt := 93) C dX8_toFloating_86 (by decide) (fun c14 => ?_) (fun c14 => ?_)
    · have hf := pm_ie hf c14
      refine pm_iconst (v := 0) C dX8_toFloating_93 (by decide) ?_
      obtain ⟨v15, e16, hf⟩ := pm_lt hf
      refine pm_callS (as := [.int 2, .long p2, .int 0]) (st := []) C X dX8_toFloating_94 lnX8_196 myX8_fromWhole stX8_fromWhole ⟨by decide, by decide⟩ rfl rfl (Nat.le_of_ble_eq_true rfl) (Nat.le_refl _) (Nat.le_refl _) (ctX8_fromWhole e16 ?_)
      show pm_G g 97 [(0, .int p1), (1, .long p2)] [.long v15] h 0 0
      subst hf
      exact pm_lret C X dX8_toFloating_97 rfl (Nat.le_refl _) (Nat.le_refl _) q
    · have hf := pm_it hf c14
      refine pm_iconst (v := 1) C dX8_toFloating_89 (by decide) ?_
      refine pm_goto (tgt := 94) C dX8_toFloating_90 (by decide) ?_
      obtain ⟨v17, e18, hf⟩ := pm_lt hf
      refine pm_callS (as := [.int 2, .long p2, .int 1]) (st := []) C X dX8_toFloating_94 lnX8_196 myX8_fromWhole stX8_fromWhole ⟨by decide, by decide⟩ rfl rfl (Nat.le_of_ble_eq_true rfl) (Nat.le_refl _) (Nat.le_refl _) (ctX8_fromWhole e18 ?_)
      show pm_G g 97 [(0, .int p1), (1, .long p2)] [.long v17] h 0 0
      subst hf
      exact pm_lret C X dX8_toFloating_97 rfl (Nat.le_refl _) (Nat.le_refl _) q
  have hf := pm_ie hf c13
  by_cases c19 : p1 = 181
  · have hf := pm_it hf c19
    refine pm_tableIn (tgt := 80) C dX8_toFloating_1 (by rw [c19]; decide) (by rw [c19]; decide) (by rw [c19]; rfl) (by decide) ?_
    refine pm_iconst (v := 2) C dX8_toFloating_80 (by decide) ?_
    refine pm_lload_n C dX8_toFloating_81 rfl rfl ?_
    refine pm_iload_n C dX8_toFloating_82 rfl rfl ?_
    refine pm_sipush (v := 181) C dX8_toFloating_83 (by decide) ?_
    refine pm_icmp_ne (tgt := 93) C dX8_toFloating_86 (by decide) (fun c20 => ?_) (fun c20 => ?_)
    · have hf := pm_ie hf c20
      refine pm_iconst (v := 0) C dX8_toFloating_93 (by decide) ?_
      obtain ⟨v21, e22, hf⟩ := pm_lt hf
      refine pm_callS (as := [.int 2, .long p2, .int 0]) (st := []) C X dX8_toFloating_94 lnX8_196 myX8_fromWhole stX8_fromWhole ⟨by decide, by decide⟩ rfl rfl (Nat.le_of_ble_eq_true rfl) (Nat.le_refl _) (Nat.le_refl _) (ctX8_fromWhole e22 ?_)
      show pm_G g 97 [(0, .int p1), (1, .long p2)] [.long v21] h 0 0
      subst hf
      exact pm_lret C X dX8_toFloating_97 rfl (Nat.le_refl _) (Nat.le_refl _) q
    · have hf := pm_it hf c20
      refine pm_iconst (v := 1) C dX8_toFloating_89 (by decide) ?_
      refine pm_goto (tgt := 94) C dX8_toFloating_90 (by decide) ?_
      obtain ⟨v23, e24, hf⟩ := pm_lt hf
      refine pm_callS (as := [.int 2, .long p2, .int 1]) (st := []) C X dX8_toFloating_94 lnX8_196 myX8_fromWhole stX8_fromWhole ⟨by decide, by decide⟩ rfl rfl (Nat.le_of_ble_eq_true rfl) (Nat.le_refl _) (Nat.le_refl _) (ctX8_fromWhole e24 ?_)
      show pm_G g 97 [(0, .int p1), (1, .long p2)] [.long v23] h 0 0
      subst hf
      exact pm_lret C X dX8_toFloating_97 rfl (Nat.le_refl _) (Nat.le_refl _) q
  have hf := pm_ie hf c19
  by_cases c25 : p1 = 182
  · have hf := pm_it hf c25
    refine pm_tableIn (tgt := 140) C dX8_toFloating_1 (by rw [c25]; decide) (by rw [c25]; decide) (by rw [c25]; rfl) (by decide) ?_
    refine pm_iconst (v := 3) C dX8_toFloating_140 (by decide) ?_
    refine pm_iconst (v := 2) C dX8_toFloating_141 (by decide) ?_
    refine pm_lload_n C dX8_toFloating_142 rfl rfl ?_
    obtain ⟨v26, e27, hf⟩ := pm_lt hf
    refine pm_callS (as := [.int 3, .int 2, .long p2]) (st := []) C X dX8_toFloating_143 lnX8_200 myX8_resized stX8_resized ⟨by decide, by decide⟩ rfl rfl (Nat.le_of_ble_eq_true rfl) (Nat.le_refl _) (Nat.le_refl _) (ctX8_resized e27 ?_)
    show pm_G g 146 [(0, .int p1), (1, .long p2)] [.long v26] h 0 0
    subst hf
    exact pm_lret C X dX8_toFloating_146 rfl (Nat.le_refl _) (Nat.le_refl _) q
  have hf := pm_ie hf c25
  by_cases c28 : p1 = 183
  · have hf := pm_it hf c28
    refine pm_tableIn (tgt := 98) C dX8_toFloating_1 (by rw [c28]; decide) (by rw [c28]; decide) (by rw [c28]; rfl) (by decide) ?_
    refine pm_iconst (v := 3) C dX8_toFloating_98 (by decide) ?_
    refine pm_iload_n C dX8_toFloating_99 rfl rfl ?_
    refine pm_sipush (v := 183) C dX8_toFloating_100 (by decide) ?_
    refine pm_icmp_ne (tgt := 112) C dX8_toFloating_103 (by decide) (fun c29 => ?_) (fun c29 => ?_)
    · have hf := pm_ie hf c29
      refine pm_lload_n C dX8_toFloating_112 rfl rfl ?_
      refine pm_ldc2 C dX8_toFloating_113 cnX8_56 ?_
      refine pm_land C dX8_toFloating_116 ?_
      refine pm_iconst (v := 0) C dX8_toFloating_117 (by decide) ?_
      obtain ⟨v30, e31, hf⟩ := pm_lt hf
      refine pm_callS (as := [.int 3, .long (p2 &&& 4294967295), .int 0]) (st := []) C X dX8_toFloating_118 lnX8_196 myX8_fromWhole stX8_fromWhole ⟨by decide, by decide⟩ rfl rfl (Nat.le_of_ble_eq_true rfl) (Nat.le_refl _) (Nat.le_refl _) (ctX8_fromWhole e31 ?_)
      show pm_G g 121 [(0, .int p1), (1, .long p2)] [.long v30] h 0 0
      subst hf
      exact pm_lret C X dX8_toFloating_121 rfl (Nat.le_refl _) (Nat.le_refl _) q
    · have hf := pm_it hf c29
      refine pm_lload_n C dX8_toFloating_106 rfl rfl ?_
      refine pm_l2i C dX8_toFloating_107 ?_
      refine pm_i2l C dX8_toFloating_108 ?_
      refine pm_goto (tgt := 117) C dX8_toFloating_109 (by decide) ?_
      refine pm_iconst (v := 0) C dX8_toFloating_117 (by decide) ?_
      obtain ⟨v32, e33, hf⟩ := pm_lt hf
      refine pm_callS (as := [.int 3, .long p2.toInt32.toInt64, .int 0]) (st := []) C X dX8_toFloating_118 lnX8_196 myX8_fromWhole stX8_fromWhole ⟨by decide, by decide⟩ rfl rfl (Nat.le_of_ble_eq_true rfl) (Nat.le_refl _) (Nat.le_refl _) (ctX8_fromWhole e33 ?_)
      show pm_G g 121 [(0, .int p1), (1, .long p2)] [.long v32] h 0 0
      subst hf
      exact pm_lret C X dX8_toFloating_121 rfl (Nat.le_refl _) (Nat.le_refl _) q
  have hf := pm_ie hf c28
  by_cases c34 : p1 = 184
  · have hf := pm_it hf c34
    refine pm_tableIn (tgt := 98) C dX8_toFloating_1 (by rw [c34]; decide) (by rw [c34]; decide) (by rw [c34]; rfl) (by decide) ?_
    refine pm_iconst (v := 3) C dX8_toFloating_98 (by decide) ?_
    refine pm_iload_n C dX8_toFloating_99 rfl rfl ?_
    refine pm_sipush (v := 183) C dX8_toFloating_100 (by decide) ?_
    refine pm_icmp_ne (tgt := 112) C dX8_toFloating_103 (by decide) (fun c35 => ?_) (fun c35 => ?_)
    · have hf := pm_ie hf c35
      refine pm_lload_n C dX8_toFloating_112 rfl rfl ?_
      refine pm_ldc2 C dX8_toFloating_113 cnX8_56 ?_
      refine pm_land C dX8_toFloating_116 ?_
      refine pm_iconst (v := 0) C dX8_toFloating_117 (by decide) ?_
      obtain ⟨v36, e37, hf⟩ := pm_lt hf
      refine pm_callS (as := [.int 3, .long (p2 &&& 4294967295), .int 0]) (st := []) C X dX8_toFloating_118 lnX8_196 myX8_fromWhole stX8_fromWhole ⟨by decide, by decide⟩ rfl rfl (Nat.le_of_ble_eq_true rfl) (Nat.le_refl _) (Nat.le_refl _) (ctX8_fromWhole e37 ?_)
      show pm_G g 121 [(0, .int p1), (1, .long p2)] [.long v36] h 0 0
      subst hf
      exact pm_lret C X dX8_toFloating_121 rfl (Nat.le_refl _) (Nat.le_refl _) q
    · have hf := pm_it hf c35
      refine pm_lload_n C dX8_toFloating_106 rfl rfl ?_
      refine pm_l2i C dX8_toFloating_107 ?_
      refine pm_i2l C dX8_toFloating_108 ?_
      refine pm_goto (tgt := 117) C dX8_toFloating_109 (by decide) ?_
      refine pm_iconst (v := 0) C dX8_toFloating_117 (by decide) ?_
      obtain ⟨v38, e39, hf⟩ := pm_lt hf
      refine pm_callS (as := [.int 3, .long p2.toInt32.toInt64, .int 0]) (st := []) C X dX8_toFloating_118 lnX8_196 myX8_fromWhole stX8_fromWhole ⟨by decide, by decide⟩ rfl rfl (Nat.le_of_ble_eq_true rfl) (Nat.le_refl _) (Nat.le_refl _) (ctX8_fromWhole e39 ?_)
      show pm_G g 121 [(0, .int p1), (1, .long p2)] [.long v38] h 0 0
      subst hf
      exact pm_lret C X dX8_toFloating_121 rfl (Nat.le_refl _) (Nat.le_refl _) q
  have hf := pm_ie hf c34
  by_cases c40 : p1 = 185
  · have hf := pm_it hf c40
    refine pm_tableIn (tgt := 122) C dX8_toFloating_1 (by rw [c40]; decide) (by rw [c40]; decide) (by rw [c40]; rfl) (by decide) ?_
    refine pm_iconst (v := 3) C dX8_toFloating_122 (by decide) ?_
    refine pm_lload_n C dX8_toFloating_123 rfl rfl ?_
    refine pm_iload_n C dX8_toFloating_124 rfl rfl ?_
    refine pm_sipush (v := 186) C dX8_toFloating_125 (by decide) ?_
    refine pm_icmp_ne (tgt := 135) C dX8_toFloating_128 (by decide) (fun c41 => ?_) (fun c41 => ?_)
    · have hf := pm_ie hf c41
      refine pm_iconst (v := 0) C dX8_toFloating_135 (by decide) ?_
      obtain ⟨v42, e43, hf⟩ := pm_lt hf
      refine pm_callS (as := [.int 3, .long p2, .int 0]) (st := []) C X dX8_toFloating_136 lnX8_196 myX8_fromWhole stX8_fromWhole ⟨by decide, by decide⟩ rfl rfl (Nat.le_of_ble_eq_true rfl) (Nat.le_refl _) (Nat.le_refl _) (ctX8_fromWhole e43 ?_)
      show pm_G g 139 [(0, .int p1), (1, .long p2)] [.long v42] h 0 0
      subst hf
      exact pm_lret C X dX8_toFloating_139 rfl (Nat.le_refl _) (Nat.le_refl _) q
    · have hf := pm_it hf c41
      refine pm_iconst (v := 1) C dX8_toFloating_131 (by decide) ?_
      refine pm_goto (tgt := 136) C dX8_toFloating_132 (by decide) ?_
      obtain ⟨v44, e45, hf⟩ := pm_lt hf
      refine pm_callS (as := [.int 3, .long p2, .int 1]) (st := []) C X dX8_toFloating_136 lnX8_196 myX8_fromWhole stX8_fromWhole ⟨by decide, by decide⟩ rfl rfl (Nat.le_of_ble_eq_true rfl) (Nat.le_refl _) (Nat.le_refl _) (ctX8_fromWhole e45 ?_)
      show pm_G g 139 [(0, .int p1), (1, .long p2)] [.long v44] h 0 0
      subst hf
      exact pm_lret C X dX8_toFloating_139 rfl (Nat.le_refl _) (Nat.le_refl _) q
  have hf := pm_ie hf c40
  by_cases c46 : p1 = 186
  · have hf := pm_it hf c46
    refine pm_tableIn (tgt := 122) C dX8_toFloating_1 (by rw [c46]; decide) (by rw [c46]; decide) (by rw [c46]; rfl) (by decide) ?_
    refine pm_iconst (v := 3) C dX8_toFloating_122 (by decide) ?_
    refine pm_lload_n C dX8_toFloating_123 rfl rfl ?_
    refine pm_iload_n C dX8_toFloating_124 rfl rfl ?_
    refine pm_sipush (v := 186) C dX8_toFloating_125 (by decide) ?_
    refine pm_icmp_ne (tgt := 135) C dX8_toFloating_128 (by decide) (fun c47 => ?_) (fun c47 => ?_)
    · have hf := pm_ie hf c47
      refine pm_iconst (v := 0) C dX8_toFloating_135 (by decide) ?_
      obtain ⟨v48, e49, hf⟩ := pm_lt hf
      refine pm_callS (as := [.int 3, .long p2, .int 0]) (st := []) C X dX8_toFloating_136 lnX8_196 myX8_fromWhole stX8_fromWhole ⟨by decide, by decide⟩ rfl rfl (Nat.le_of_ble_eq_true rfl) (Nat.le_refl _) (Nat.le_refl _) (ctX8_fromWhole e49 ?_)
      show pm_G g 139 [(0, .int p1), (1, .long p2)] [.long v48] h 0 0
      subst hf
      exact pm_lret C X dX8_toFloating_139 rfl (Nat.le_refl _) (Nat.le_refl _) q
    · have hf := pm_it hf c47
      refine pm_iconst (v := 1) C dX8_toFloating_131 (by decide) ?_
      refine pm_goto (tgt := 136) C dX8_toFloating_132 (by decide) ?_
      obtain ⟨v50, e51, hf⟩ := pm_lt hf
      refine pm_callS (as := [.int 3, .long p2, .int 1]) (st := []) C X dX8_toFloating_136 lnX8_196 myX8_fromWhole stX8_fromWhole ⟨by decide, by decide⟩ rfl rfl (Nat.le_of_ble_eq_true rfl) (Nat.le_refl _) (Nat.le_refl _) (ctX8_fromWhole e51 ?_)
      show pm_G g 139 [(0, .int p1), (1, .long p2)] [.long v50] h 0 0
      subst hf
      exact pm_lret C X dX8_toFloating_139 rfl (Nat.le_refl _) (Nat.le_refl _) q
  have hf := pm_ie hf c46
  by_cases c52 : p1 = 187
  · have hf := pm_it hf c52
    refine pm_tableIn (tgt := 147) C dX8_toFloating_1 (by rw [c52]; decide) (by rw [c52]; decide) (by rw [c52]; rfl) (by decide) ?_
    refine pm_iconst (v := 2) C dX8_toFloating_147 (by decide) ?_
    refine pm_iconst (v := 3) C dX8_toFloating_148 (by decide) ?_
    refine pm_lload_n C dX8_toFloating_149 rfl rfl ?_
    obtain ⟨v53, e54, hf⟩ := pm_lt hf
    refine pm_callS (as := [.int 2, .int 3, .long p2]) (st := []) C X dX8_toFloating_150 lnX8_200 myX8_resized stX8_resized ⟨by decide, by decide⟩ rfl rfl (Nat.le_of_ble_eq_true rfl) (Nat.le_refl _) (Nat.le_refl _) (ctX8_resized e54 ?_)
    show pm_G g 153 [(0, .int p1), (1, .long p2)] [.long v53] h 0 0
    subst hf
    exact pm_lret C X dX8_toFloating_153 rfl (Nat.le_refl _) (Nat.le_refl _) q
  have hf := pm_ie hf c52
  have nc1 := lv_neT c1 (by decide : (178 : Int32).toInt = 178)
  have nc7 := lv_neT c7 (by decide : (179 : Int32).toInt = 179)
  have nc13 := lv_neT c13 (by decide : (180 : Int32).toInt = 180)
  have nc19 := lv_neT c19 (by decide : (181 : Int32).toInt = 181)
  have nc25 := lv_neT c25 (by decide : (182 : Int32).toInt = 182)
  have nc28 := lv_neT c28 (by decide : (183 : Int32).toInt = 183)
  have nc34 := lv_neT c34 (by decide : (184 : Int32).toInt = 184)
  have nc40 := lv_neT c40 (by decide : (185 : Int32).toInt = 185)
  have nc46 := lv_neT c46 (by decide : (186 : Int32).toInt = 186)
  have nc52 := lv_neT c52 (by decide : (187 : Int32).toInt = 187)
  refine pm_tableOut (tgt := 154) C dX8_toFloating_1 (by omega) (by decide) ?_
  refine pm_lload_n C dX8_toFloating_154 rfl rfl ?_
  subst hf
  exact pm_lret C X dX8_toFloating_155 rfl (Nat.le_refl _) (Nat.le_refl _) q
theorem dX9_blockType_0 : decode cX9_blockType 0 = .ok (.aload_n 0, 1) := by decide +kernel
theorem dX9_blockType_1 : decode cX9_blockType 1 = .ok (.getfield 51, 3) := by decide +kernel
theorem dX9_blockType_4 : decode cX9_blockType 4 = .ok (.istore_n 1, 1) := by decide +kernel
theorem dX9_blockType_5 : decode cX9_blockType 5 = .ok (.aload_n 0, 1) := by decide +kernel
theorem dX9_blockType_6 : decode cX9_blockType 6 = .ok (.bipush (-33), 2) := by decide +kernel
theorem dX9_blockType_8 : decode cX9_blockType 8 = .ok (.invokevirtual 145, 3) := by decide +kernel
theorem dX9_blockType_11 : decode cX9_blockType 11 = .ok (.lstore_n 2, 1) := by decide +kernel
theorem dX9_blockType_12 : decode cX9_blockType 12 = .ok (.aload_n 0, 1) := by decide +kernel
theorem dX9_blockType_13 : decode cX9_blockType 13 = .ok (.getfield 51, 3) := by decide +kernel
theorem dX9_blockType_16 : decode cX9_blockType 16 = .ok (.iload_n 1, 1) := by decide +kernel
theorem dX9_blockType_17 : decode cX9_blockType 17 = .ok (.isub, 1) := by decide +kernel
theorem dX9_blockType_18 : decode cX9_blockType 18 = .ok (.iconst 1, 1) := by decide +kernel
theorem dX9_blockType_19 : decode cX9_blockType 19 = .ok (.if_icmp .ne 27, 3) := by decide +kernel
theorem dX9_blockType_22 : decode cX9_blockType 22 = .ok (.lload_n 2, 1) := by decide +kernel
theorem dX9_blockType_23 : decode cX9_blockType 23 = .ok (.ldc2_w 301, 3) := by decide +kernel
theorem dX9_blockType_26 : decode cX9_blockType 26 = .ok (.lcmp, 1) := by decide +kernel
theorem dX9_blockType_27 : decode cX9_blockType 27 = .ok (.ifCond .eq 15, 3) := by decide +kernel
theorem dX9_blockType_30 : decode cX9_blockType 30 = .ok (.lload_n 2, 1) := by decide +kernel
theorem dX9_blockType_31 : decode cX9_blockType 31 = .ok (.l2i, 1) := by decide +kernel
theorem dX9_blockType_32 : decode cX9_blockType 32 = .ok (.sipush 128, 3) := by decide +kernel
theorem dX9_blockType_35 : decode cX9_blockType 35 = .ok (.iadd, 1) := by decide +kernel
theorem dX9_blockType_36 : decode cX9_blockType 36 = .ok (.invokestatic 101, 3) := by decide +kernel
theorem dX9_blockType_39 : decode cX9_blockType 39 = .ok (.ifCond .eq 7, 3) := by decide +kernel
theorem dX9_blockType_42 : decode cX9_blockType 42 = .ok (.iconst 1, 1) := by decide +kernel
theorem dX9_blockType_43 : decode cX9_blockType 43 = .ok (.goto 4, 3) := by decide +kernel
theorem dX9_blockType_46 : decode cX9_blockType 46 = .ok (.iconst 0, 1) := by decide +kernel
theorem dX9_blockType_47 : decode cX9_blockType 47 = .ok (.istore 4, 2) := by decide +kernel
theorem dX9_blockType_49 : decode cX9_blockType 49 = .ok (.lload_n 2, 1) := by decide +kernel
theorem dX9_blockType_50 : decode cX9_blockType 50 = .ok (.lconst 0, 1) := by decide +kernel
theorem dX9_blockType_51 : decode cX9_blockType 51 = .ok (.lcmp, 1) := by decide +kernel
theorem dX9_blockType_52 : decode cX9_blockType 52 = .ok (.ifCond .ge 15, 3) := by decide +kernel
theorem dX9_blockType_55 : decode cX9_blockType 55 = .ok (.iload 4, 2) := by decide +kernel
theorem dX9_blockType_57 : decode cX9_blockType 57 = .ok (.ifCond .ne 10, 3) := by decide +kernel
theorem dX9_blockType_60 : decode cX9_blockType 60 = .ok (.aload_n 0, 1) := by decide +kernel
theorem dX9_blockType_61 : decode cX9_blockType 61 = .ok (.bipush 8, 2) := by decide +kernel
theorem dX9_blockType_63 : decode cX9_blockType 63 = .ok (.iload_n 1, 1) := by decide +kernel
theorem dX9_blockType_64 : decode cX9_blockType 64 = .ok (.invokevirtual 47, 3) := by decide +kernel
theorem dX9_blockType_67 : decode cX9_blockType 67 = .ok (.lload_n 2, 1) := by decide +kernel
theorem dX9_blockType_68 : decode cX9_blockType 68 = .ok (.lreturn, 1) := by decide +kernel
noncomputable def fX9_blockType_b47 (h : pm_H) (x0 : Nat) (x1 : Int32) (x2 : Int64) (s0 : Int32) : Option (Int64 × pm_H) := if 0 ≤ x2 then (some ((x2, h))) else (if s0 = 0 then (if pm_kd h x0 = 9 then (fX9_fail h x0 8 x1).bind fun v15 => some ((x2, v15)) else none) else (some ((x2, h))))
noncomputable def fX9_blockType_b42 (h : pm_H) (x0 : Nat) (x1 : Int32) (x2 : Int64) : Option (Int64 × pm_H) := fX9_blockType_b47 h x0 x1 x2 1
noncomputable def fX9_blockType_b46 (h : pm_H) (x0 : Nat) (x1 : Int32) (x2 : Int64) : Option (Int64 × pm_H) := fX9_blockType_b47 h x0 x1 x2 0
noncomputable def fX9_blockType (h : pm_H) (a0 : Nat) : Option (Int64 × pm_H) := if pm_kd h a0 = 9 then pm_let (pm_I h a0 1) fun y2 => (fX9_number h a0 (-33)).bind fun v4 => if pm_kd v4.2 a0 = 9 then if ((pm_I v4.2 a0 1) - y2) = 1 then (if v4.1 = (-64) then (fX9_blockType_b42 v4.2 a0 y2 v4.1) else (pm_let (fX9_isValue (v4.1.toInt32 + 128)) fun v9 => if v9 = 0 then (fX9_blockType_b46 v4.2 a0 y2 v4.1) else (fX9_blockType_b42 v4.2 a0 y2 v4.1))) else (fX9_blockType_b46 v4.2 a0 y2 v4.1) else none else none
set_option maxHeartbeats 4000000 in
set_option maxRecDepth 100000 in
theorem bX9_blockType_47 {g : pm_Gm} {l : Launch} {G : pm_Gl} {Qr : Option Value → pm_H → Prop} (C : pm_C g cX9_blockType RX9) (X : pm_X g l G mX9_blockType 0 0 Qr) {h : pm_H} {x0 : Nat} {x1 : Int32} {x2 : Int64} {s0 : Int32} {r : (Int64 × pm_H)} (hf : fX9_blockType_b47 h x0 x1 x2 s0 = some r) (q : Qr (some (.long r.1)) r.2) : pm_G g 47 [(0, .ref x0), (1, .int x1), (2, .long x2)] [.int s0] h 0 0 := by
  unfold fX9_blockType_b47 at hf
  refine pm_istore (lv' := [(4, .int s0), (0, .ref x0), (1, .int x1), (2, .long x2)]) C dX9_blockType_47 (pm_nl X (by decide)) rfl ?_
  refine pm_lload_n C dX9_blockType_49 rfl rfl ?_
  refine pm_lconst (v := 0) C dX9_blockType_50 (by decide) ?_
  refine pm_lcmp C dX9_blockType_51 ?_
  refine pm_if_ge (tgt := 67) C dX9_blockType_52 (by decide) (fun c12 => ?_) (fun c12 => ?_)
  · have hf := pm_it hf ((pm_lg_ge _ _).mp c12)
    refine pm_lload_n C dX9_blockType_67 rfl rfl ?_
    cases hf
    exact pm_lret C X dX9_blockType_68 rfl (Nat.le_refl _) (Nat.le_refl _) q
  · have hf := pm_ie hf ((fun z => c12 ((pm_lg_ge _ _).mpr z)))
    refine pm_iload C dX9_blockType_55 rfl ?_
    refine pm_if_ne (tgt := 67) C dX9_blockType_57 (by decide) (fun c13 => ?_) (fun c13 => ?_)
    · have hf := pm_ie hf c13
      refine pm_lload_n C dX9_blockType_67 rfl rfl ?_
      cases hf
      exact pm_lret C X dX9_blockType_68 rfl (Nat.le_refl _) (Nat.le_refl _) q
    · have hf := pm_it hf c13
      refine pm_aload_n C dX9_blockType_60 rfl rfl ?_
      refine pm_bipush (v := 8) C dX9_blockType_61 (by decide) ?_
      refine pm_iload_n C dX9_blockType_63 rfl rfl ?_
      obtain ⟨k14, hf⟩ := pm_if hf
      obtain ⟨v15, e16, hf⟩ := pm_bd hf
      refine pm_callV (as := [.int 8, .int x1]) (st := []) C X dX9_blockType_64 lnX9_47 myX9_fail viX9_fail ⟨by decide, by decide⟩ rfl rfl k14 (Nat.le_of_ble_eq_true rfl) (Nat.le_refl _) (Nat.le_refl _) (ctX9_fail e16 ?_)
      show pm_G g 67 [(4, .int s0), (0, .ref x0), (1, .int x1), (2, .long x2)] [] v15 0 0
      refine pm_lload_n C dX9_blockType_67 rfl rfl ?_
      cases hf
      exact pm_lret C X dX9_blockType_68 rfl (Nat.le_refl _) (Nat.le_refl _) q
set_option maxHeartbeats 4000000 in
set_option maxRecDepth 100000 in
theorem bX9_blockType_42 {g : pm_Gm} {l : Launch} {G : pm_Gl} {Qr : Option Value → pm_H → Prop} (C : pm_C g cX9_blockType RX9) (X : pm_X g l G mX9_blockType 0 0 Qr) {h : pm_H} {x0 : Nat} {x1 : Int32} {x2 : Int64} {r : (Int64 × pm_H)} (hf : fX9_blockType_b42 h x0 x1 x2 = some r) (q : Qr (some (.long r.1)) r.2) : pm_G g 42 [(0, .ref x0), (1, .int x1), (2, .long x2)] [] h 0 0 := by
  unfold fX9_blockType_b42 at hf
  refine pm_iconst (v := 1) C dX9_blockType_42 (by decide) ?_
  refine pm_goto (tgt := 47) C dX9_blockType_43 (by decide) ?_
  exact pm_sub [0, 1, 2] rfl (bX9_blockType_47 C X hf q)
set_option maxHeartbeats 4000000 in
set_option maxRecDepth 100000 in
theorem bX9_blockType_46 {g : pm_Gm} {l : Launch} {G : pm_Gl} {Qr : Option Value → pm_H → Prop} (C : pm_C g cX9_blockType RX9) (X : pm_X g l G mX9_blockType 0 0 Qr) {h : pm_H} {x0 : Nat} {x1 : Int32} {x2 : Int64} {r : (Int64 × pm_H)} (hf : fX9_blockType_b46 h x0 x1 x2 = some r) (q : Qr (some (.long r.1)) r.2) : pm_G g 46 [(0, .ref x0), (1, .int x1), (2, .long x2)] [] h 0 0 := by
  unfold fX9_blockType_b46 at hf
  refine pm_iconst (v := 0) C dX9_blockType_46 (by decide) ?_
  exact pm_sub [0, 1, 2] rfl (bX9_blockType_47 C X hf q)
set_option maxHeartbeats 4000000 in
set_option maxRecDepth 100000 in
theorem ctX9_blockType {l : Launch} {G : pm_Gl} {h : pm_H} {a0 : Nat} {r : (Int64 × pm_H)} {Qr : Option Value → pm_H → Prop} (hf : fX9_blockType h a0 = some r) (q : Qr (some (.long r.1)) r.2) : pm_Ct l G mX9_blockType [.ref a0] h 0 0 Qr := by
  refine pm_body pnX9 (Nat.le_of_ble_eq_true rfl) (fun g C X => ?_)
  have C : pm_C g cX9_blockType RX9 := C
  show pm_G g 0 [(0, .ref a0)] [] h 0 0
  unfold fX9_blockType at hf
  refine pm_aload_n C dX9_blockType_0 rfl rfl ?_
  obtain ⟨k1, hf⟩ := pm_if hf
  refine pm_getI C dX9_blockType_1 flX9_51 rfl k1 rfl ?_
  obtain ⟨y2, e3, hf⟩ := pm_lt hf
  refine pm_topI e3 ?_
  refine pm_istore_n (lv' := [(1, .int y2), (0, .ref a0)]) C dX9_blockType_4 rfl (pm_nl X (by decide)) rfl ?_
  refine pm_aload_n C dX9_blockType_5 rfl rfl ?_
  refine pm_bipush (v := (-33)) C dX9_blockType_6 (by decide) ?_
  obtain ⟨v4, e5, hf⟩ := pm_bd hf
  refine pm_callV (as := [.int (-33)]) (st := []) C X dX9_blockType_8 lnX9_145 myX9_number viX9_number ⟨by decide, by decide⟩ rfl rfl k1 (Nat.le_of_ble_eq_true rfl) (Nat.le_refl _) (Nat.le_refl _) (ctX9_number e5 ?_)
  show pm_G g 11 [(1, .int y2), (0, .ref a0)] [.long v4.1] v4.2 0 0
  refine pm_lstore_n (lv' := [(2, .long v4.1), (1, .int y2), (0, .ref a0)]) C dX9_blockType_11 rfl (pm_nl X (by decide)) rfl ?_
  refine pm_aload_n C dX9_blockType_12 rfl rfl ?_
  obtain ⟨k6, hf⟩ := pm_if hf
  refine pm_getI C dX9_blockType_13 flX9_51 rfl k6 rfl ?_
  refine pm_iload_n C dX9_blockType_16 rfl rfl ?_
  refine pm_isub C dX9_blockType_17 ?_
  refine pm_iconst (v := 1) C dX9_blockType_18 (by decide) ?_
  refine pm_icmp_ne (tgt := 46) C dX9_blockType_19 (by decide) (fun c7 => ?_) (fun c7 => ?_)
  · have hf := pm_ie hf c7
    exact pm_sub [2, 1, 0] rfl (bX9_blockType_46 C X hf q)
  · have hf := pm_it hf c7
    refine pm_lload_n C dX9_blockType_22 rfl rfl ?_
    refine pm_ldc2 C dX9_blockType_23 cnX9_301 ?_
    refine pm_lcmp C dX9_blockType_26 ?_
    refine pm_if_eq (tgt := 42) C dX9_blockType_27 (by decide) (fun c8 => ?_) (fun c8 => ?_)
    · have hf := pm_it hf ((pm_lg_eq _ _).mp c8)
      exact pm_sub [2, 1, 0] rfl (bX9_blockType_42 C X hf q)
    · have hf := pm_ie hf ((fun z => c8 ((pm_lg_eq _ _).mpr z)))
      refine pm_lload_n C dX9_blockType_30 rfl rfl ?_
      refine pm_l2i C dX9_blockType_31 ?_
      refine pm_sipush (v := 128) C dX9_blockType_32 (by decide) ?_
      refine pm_iadd C dX9_blockType_35 ?_
      obtain ⟨v9, e10, hf⟩ := pm_lt hf
      refine pm_callS (as := [.int (v4.1.toInt32 + 128)]) (st := []) C X dX9_blockType_36 lnX9_101 myX9_isValue stX9_isValue ⟨by decide, by decide⟩ rfl rfl (Nat.le_of_ble_eq_true rfl) (Nat.le_refl _) (Nat.le_refl _) (ctX9_isValue e10 ?_)
      show pm_G g 39 [(2, .long v4.1), (1, .int y2), (0, .ref a0)] [.int v9] v4.2 0 0
      refine pm_if_eq (tgt := 46) C dX9_blockType_39 (by decide) (fun c11 => ?_) (fun c11 => ?_)
      · have hf := pm_it hf c11
        exact pm_sub [2, 1, 0] rfl (bX9_blockType_46 C X hf q)
      · have hf := pm_ie hf c11
        exact pm_sub [2, 1, 0] rfl (bX9_blockType_42 C X hf q)
theorem dX9_describe_0 : decode cX9_describe 0 = .ok (.aload_n 1, 1) := by decide +kernel
theorem dX9_describe_1 : decode cX9_describe 1 = .ok (.iload_n 2, 1) := by decide +kernel
theorem dX9_describe_2 : decode cX9_describe 2 = .ok (.iconst 0, 1) := by decide +kernel
theorem dX9_describe_3 : decode cX9_describe 3 = .ok (.iadd, 1) := by decide +kernel
theorem dX9_describe_4 : decode cX9_describe 4 = .ok (.iload_n 3, 1) := by decide +kernel
theorem dX9_describe_5 : decode cX9_describe 5 = .ok (.i2l, 1) := by decide +kernel
theorem dX9_describe_6 : decode cX9_describe 6 = .ok (.invokestatic 238, 3) := by decide +kernel
theorem dX9_describe_9 : decode cX9_describe 9 = .ok (.aload_n 1, 1) := by decide +kernel
theorem dX9_describe_10 : decode cX9_describe 10 = .ok (.iload_n 2, 1) := by decide +kernel
theorem dX9_describe_11 : decode cX9_describe 11 = .ok (.iconst 4, 1) := by decide +kernel
theorem dX9_describe_12 : decode cX9_describe 12 = .ok (.iadd, 1) := by decide +kernel
theorem dX9_describe_13 : decode cX9_describe 13 = .ok (.ldc2_w 99, 3) := by decide +kernel
theorem dX9_describe_16 : decode cX9_describe 16 = .ok (.invokestatic 238, 3) := by decide +kernel
theorem dX9_describe_19 : decode cX9_describe 19 = .ok (.iload_n 3, 1) := by decide +kernel
theorem dX9_describe_20 : decode cX9_describe 20 = .ok (.ifCond .ne 16, 3) := by decide +kernel
theorem dX9_describe_23 : decode cX9_describe 23 = .ok (.aload_n 1, 1) := by decide +kernel
theorem dX9_describe_24 : decode cX9_describe 24 = .ok (.iload_n 2, 1) := by decide +kernel
theorem dX9_describe_25 : decode cX9_describe 25 = .ok (.iconst 1, 1) := by decide +kernel
theorem dX9_describe_26 : decode cX9_describe 26 = .ok (.iadd, 1) := by decide +kernel
theorem dX9_describe_27 : decode cX9_describe 27 = .ok (.aload_n 0, 1) := by decide +kernel
theorem dX9_describe_28 : decode cX9_describe 28 = .ok (.bipush 32, 2) := by decide +kernel
theorem dX9_describe_30 : decode cX9_describe 30 = .ok (.invokevirtual 145, 3) := by decide +kernel
theorem dX9_describe_33 : decode cX9_describe 33 = .ok (.invokestatic 238, 3) := by decide +kernel
theorem dX9_describe_36 : decode cX9_describe 36 = .ok (.iload_n 3, 1) := by decide +kernel
theorem dX9_describe_37 : decode cX9_describe 37 = .ok (.iconst 1, 1) := by decide +kernel
theorem dX9_describe_38 : decode cX9_describe 38 = .ok (.if_icmp .ne 15, 3) := by decide +kernel
theorem dX9_describe_41 : decode cX9_describe 41 = .ok (.aload_n 1, 1) := by decide +kernel
theorem dX9_describe_42 : decode cX9_describe 42 = .ok (.iload_n 2, 1) := by decide +kernel
theorem dX9_describe_43 : decode cX9_describe 43 = .ok (.iconst 1, 1) := by decide +kernel
theorem dX9_describe_44 : decode cX9_describe 44 = .ok (.iadd, 1) := by decide +kernel
theorem dX9_describe_45 : decode cX9_describe 45 = .ok (.aload_n 0, 1) := by decide +kernel
theorem dX9_describe_46 : decode cX9_describe 46 = .ok (.invokevirtual 244, 3) := by decide +kernel
theorem dX9_describe_49 : decode cX9_describe 49 = .ok (.i2l, 1) := by decide +kernel
theorem dX9_describe_50 : decode cX9_describe 50 = .ok (.invokestatic 238, 3) := by decide +kernel
theorem dX9_describe_53 : decode cX9_describe 53 = .ok (.iload_n 3, 1) := by decide +kernel
theorem dX9_describe_54 : decode cX9_describe 54 = .ok (.iconst 1, 1) := by decide +kernel
theorem dX9_describe_55 : decode cX9_describe 55 = .ok (.if_icmp .eq 8, 3) := by decide +kernel
theorem dX9_describe_58 : decode cX9_describe 58 = .ok (.iload_n 3, 1) := by decide +kernel
theorem dX9_describe_59 : decode cX9_describe 59 = .ok (.iconst 2, 1) := by decide +kernel
theorem dX9_describe_60 : decode cX9_describe 60 = .ok (.if_icmp .ne 42, 3) := by decide +kernel
theorem dX9_describe_63 : decode cX9_describe 63 = .ok (.aload_n 0, 1) := by decide +kernel
theorem dX9_describe_64 : decode cX9_describe 64 = .ok (.iconst 1, 1) := by decide +kernel
theorem dX9_describe_65 : decode cX9_describe 65 = .ok (.invokevirtual 228, 3) := by decide +kernel
theorem dX9_describe_68 : decode cX9_describe 68 = .ok (.istore 4, 2) := by decide +kernel
theorem dX9_describe_70 : decode cX9_describe 70 = .ok (.aload_n 1, 1) := by decide +kernel
theorem dX9_describe_71 : decode cX9_describe 71 = .ok (.iload_n 2, 1) := by decide +kernel
theorem dX9_describe_72 : decode cX9_describe 72 = .ok (.iconst 3, 1) := by decide +kernel
theorem dX9_describe_73 : decode cX9_describe 73 = .ok (.iadd, 1) := by decide +kernel
theorem dX9_describe_74 : decode cX9_describe 74 = .ok (.aload_n 0, 1) := by decide +kernel
theorem dX9_describe_75 : decode cX9_describe 75 = .ok (.bipush 32, 2) := by decide +kernel
theorem dX9_describe_77 : decode cX9_describe 77 = .ok (.invokevirtual 145, 3) := by decide +kernel
theorem dX9_describe_80 : decode cX9_describe 80 = .ok (.invokestatic 238, 3) := by decide +kernel
theorem dX9_describe_83 : decode cX9_describe 83 = .ok (.iload 4, 2) := by decide +kernel
theorem dX9_describe_85 : decode cX9_describe 85 = .ok (.iconst 1, 1) := by decide +kernel
theorem dX9_describe_86 : decode cX9_describe 86 = .ok (.if_icmp .ne 16, 3) := by decide +kernel
theorem dX9_describe_89 : decode cX9_describe 89 = .ok (.aload_n 1, 1) := by decide +kernel
theorem dX9_describe_90 : decode cX9_describe 90 = .ok (.iload_n 2, 1) := by decide +kernel
theorem dX9_describe_91 : decode cX9_describe 91 = .ok (.iconst 4, 1) := by decide +kernel
theorem dX9_describe_92 : decode cX9_describe 92 = .ok (.iadd, 1) := by decide +kernel
theorem dX9_describe_93 : decode cX9_describe 93 = .ok (.aload_n 0, 1) := by decide +kernel
theorem dX9_describe_94 : decode cX9_describe 94 = .ok (.bipush 32, 2) := by decide +kernel
theorem dX9_describe_96 : decode cX9_describe 96 = .ok (.invokevirtual 145, 3) := by decide +kernel
theorem dX9_describe_99 : decode cX9_describe 99 = .ok (.invokestatic 238, 3) := by decide +kernel
theorem dX9_describe_102 : decode cX9_describe 102 = .ok (.iload_n 3, 1) := by decide +kernel
theorem dX9_describe_103 : decode cX9_describe 103 = .ok (.iconst 3, 1) := by decide +kernel
theorem dX9_describe_104 : decode cX9_describe 104 = .ok (.if_icmp .ne 28, 3) := by decide +kernel
theorem dX9_describe_107 : decode cX9_describe 107 = .ok (.aload_n 1, 1) := by decide +kernel
theorem dX9_describe_108 : decode cX9_describe 108 = .ok (.iload_n 2, 1) := by decide +kernel
theorem dX9_describe_109 : decode cX9_describe 109 = .ok (.iconst 1, 1) := by decide +kernel
theorem dX9_describe_110 : decode cX9_describe 110 = .ok (.iadd, 1) := by decide +kernel
theorem dX9_describe_111 : decode cX9_describe 111 = .ok (.aload_n 0, 1) := by decide +kernel
theorem dX9_describe_112 : decode cX9_describe 112 = .ok (.invokevirtual 219, 3) := by decide +kernel
theorem dX9_describe_115 : decode cX9_describe 115 = .ok (.i2l, 1) := by decide +kernel
theorem dX9_describe_116 : decode cX9_describe 116 = .ok (.invokestatic 238, 3) := by decide +kernel
theorem dX9_describe_119 : decode cX9_describe 119 = .ok (.aload_n 1, 1) := by decide +kernel
theorem dX9_describe_120 : decode cX9_describe 120 = .ok (.iload_n 2, 1) := by decide +kernel
theorem dX9_describe_121 : decode cX9_describe 121 = .ok (.iconst 2, 1) := by decide +kernel
theorem dX9_describe_122 : decode cX9_describe 122 = .ok (.iadd, 1) := by decide +kernel
theorem dX9_describe_123 : decode cX9_describe 123 = .ok (.aload_n 0, 1) := by decide +kernel
theorem dX9_describe_124 : decode cX9_describe 124 = .ok (.iconst 1, 1) := by decide +kernel
theorem dX9_describe_125 : decode cX9_describe 125 = .ok (.invokevirtual 228, 3) := by decide +kernel
theorem dX9_describe_128 : decode cX9_describe 128 = .ok (.i2l, 1) := by decide +kernel
theorem dX9_describe_129 : decode cX9_describe 129 = .ok (.invokestatic 238, 3) := by decide +kernel
theorem dX9_describe_132 : decode cX9_describe 132 = .ok (.return_, 1) := by decide +kernel
noncomputable def fX9_describe_b102 (h : pm_H) (x0 : Nat) (x1 : Nat) (x2 : Int32) (x3 : Int32) : Option pm_H := if x3 = 3 then (if pm_kd h x0 = 9 then (fX9_valueType h x0).bind fun v35 => (fX12_setItem_ v35.2 x1 (x2 + 1) v35.1.toInt64).bind fun v37 => if pm_kd v37 x0 = 9 then (fX9_nextUpTo v37 x0 1).bind fun v40 => (fX12_setItem_ v40.2 x1 (x2 + 2) v40.1.toInt64).bind fun v42 => some v42 else none else none) else (some h)
noncomputable def fX9_describe_b63 (h : pm_H) (x0 : Nat) (x1 : Nat) (x2 : Int32) (x3 : Int32) : Option pm_H := if pm_kd h x0 = 9 then (fX9_nextUpTo h x0 1).bind fun v20 => if pm_kd v20.2 x0 = 9 then (fX9_number v20.2 x0 32).bind fun v23 => (fX12_setItem_ v23.2 x1 (x2 + 3) v23.1).bind fun v25 => if v20.1 = 1 then (if pm_kd v25 x0 = 9 then (fX9_number v25 x0 32).bind fun v29 => (fX12_setItem_ v29.2 x1 (x2 + 4) v29.1).bind fun v31 => fX9_describe_b102 v31 x0 x1 x2 x3 else none) else (fX9_describe_b102 v25 x0 x1 x2 x3) else none else none
noncomputable def fX9_describe_b53 (h : pm_H) (x0 : Nat) (x1 : Nat) (x2 : Int32) (x3 : Int32) : Option pm_H := if x3 = 1 then (fX9_describe_b63 h x0 x1 x2 x3) else (if x3 = 2 then (fX9_describe_b63 h x0 x1 x2 x3) else (fX9_describe_b102 h x0 x1 x2 x3))
noncomputable def fX9_describe_b36 (h : pm_H) (x0 : Nat) (x1 : Nat) (x2 : Int32) (x3 : Int32) : Option pm_H := if x3 = 1 then (if pm_kd h x0 = 9 then (fX9_referenceType h x0).bind fun v13 => (fX12_setItem_ v13.2 x1 (x2 + 1) v13.1.toInt64).bind fun v15 => fX9_describe_b53 v15 x0 x1 x2 x3 else none) else (fX9_describe_b53 h x0 x1 x2 x3)
noncomputable def fX9_describe (h : pm_H) (a0 : Nat) (p1 : Nat) (p2 : Int32) (p3 : Int32) : Option pm_H := (fX12_setItem_ h p1 (p2 + 0) p3.toInt64).bind fun v1 => (fX12_setItem_ v1 p1 (p2 + 4) (-1)).bind fun v3 => if p3 = 0 then (if pm_kd v3 a0 = 9 then (fX9_number v3 a0 32).bind fun v7 => (fX12_setItem_ v7.2 p1 (p2 + 1) v7.1).bind fun v9 => fX9_describe_b36 v9 a0 p1 p2 p3 else none) else (fX9_describe_b36 v3 a0 p1 p2 p3)
set_option maxHeartbeats 4000000 in
set_option maxRecDepth 100000 in
theorem bX9_describe_102 {g : pm_Gm} {l : Launch} {G : pm_Gl} {Qr : Option Value → pm_H → Prop} (C : pm_C g cX9_describe RX9) (X : pm_X g l G mX9_describe 0 0 Qr) {h : pm_H} {x0 : Nat} {x1 : Nat} {x2 : Int32} {x3 : Int32} {r : pm_H} (hf : fX9_describe_b102 h x0 x1 x2 x3 = some r) (q : Qr none r) : pm_G g 102 [(0, .ref x0), (1, .ref x1), (2, .int x2), (3, .int x3)] [] h 0 0 := by
  unfold fX9_describe_b102 at hf
  refine pm_iload_n C dX9_describe_102 rfl rfl ?_
  refine pm_iconst (v := 3) C dX9_describe_103 (by decide) ?_
  refine pm_icmp_ne (tgt := 132) C dX9_describe_104 (by decide) (fun c33 => ?_) (fun c33 => ?_)
  · have hf := pm_ie hf c33
    cases hf
    exact pm_vret C X dX9_describe_132 rfl (Nat.le_refl _) (Nat.le_refl _) q
  · have hf := pm_it hf c33
    refine pm_aload_n C dX9_describe_107 rfl rfl ?_
    refine pm_iload_n C dX9_describe_108 rfl rfl ?_
    refine pm_iconst (v := 1) C dX9_describe_109 (by decide) ?_
    refine pm_iadd C dX9_describe_110 ?_
    refine pm_aload_n C dX9_describe_111 rfl rfl ?_
    obtain ⟨k34, hf⟩ := pm_if hf
    obtain ⟨v35, e36, hf⟩ := pm_bd hf
    refine pm_callV (as := []) (st := [.int (x2 + 1), .ref x1]) C X dX9_describe_112 lnX9_219 myX9_valueType viX9_valueType ⟨by decide, by decide⟩ rfl rfl k34 (Nat.le_of_ble_eq_true rfl) (Nat.le_refl _) (Nat.le_refl _) (ctX9_valueType e36 ?_)
    show pm_G g 115 [(0, .ref x0), (1, .ref x1), (2, .int x2), (3, .int x3)] [.int v35.1, .int (x2 + 1), .ref x1] v35.2 0 0
    refine pm_i2l C dX9_describe_115 ?_
    obtain ⟨v37, e38, hf⟩ := pm_bd hf
    refine pm_callS (as := [.ref x1, .int (x2 + 1), .long v35.1.toInt64]) (st := []) C X dX9_describe_116 lnX9_238 myX12_setItem_ stX12_setItem_ ⟨by decide, by decide⟩ rfl rfl (Nat.le_of_ble_eq_true rfl) (Nat.le_refl _) (Nat.le_refl _) (ctX12_setItem_ e38 ?_)
    show pm_G g 119 [(0, .ref x0), (1, .ref x1), (2, .int x2), (3, .int x3)] [] v37 0 0
    refine pm_aload_n C dX9_describe_119 rfl rfl ?_
    refine pm_iload_n C dX9_describe_120 rfl rfl ?_
    refine pm_iconst (v := 2) C dX9_describe_121 (by decide) ?_
    refine pm_iadd C dX9_describe_122 ?_
    refine pm_aload_n C dX9_describe_123 rfl rfl ?_
    refine pm_iconst (v := 1) C dX9_describe_124 (by decide) ?_
    obtain ⟨k39, hf⟩ := pm_if hf
    obtain ⟨v40, e41, hf⟩ := pm_bd hf
    refine pm_callV (as := [.int 1]) (st := [.int (x2 + 2), .ref x1]) C X dX9_describe_125 lnX9_228 myX9_nextUpTo viX9_nextUpTo ⟨by decide, by decide⟩ rfl rfl k39 (Nat.le_of_ble_eq_true rfl) (Nat.le_refl _) (Nat.le_refl _) (ctX9_nextUpTo e41 ?_)
    show pm_G g 128 [(0, .ref x0), (1, .ref x1), (2, .int x2), (3, .int x3)] [.int v40.1, .int (x2 + 2), .ref x1] v40.2 0 0
    refine pm_i2l C dX9_describe_128 ?_
    obtain ⟨v42, e43, hf⟩ := pm_bd hf
    refine pm_callS (as := [.ref x1, .int (x2 + 2), .long v40.1.toInt64]) (st := []) C X dX9_describe_129 lnX9_238 myX12_setItem_ stX12_setItem_ ⟨by decide, by decide⟩ rfl rfl (Nat.le_of_ble_eq_true rfl) (Nat.le_refl _) (Nat.le_refl _) (ctX12_setItem_ e43 ?_)
    show pm_G g 132 [(0, .ref x0), (1, .ref x1), (2, .int x2), (3, .int x3)] [] v42 0 0
    cases hf
    exact pm_vret C X dX9_describe_132 rfl (Nat.le_refl _) (Nat.le_refl _) q
set_option maxHeartbeats 4000000 in
set_option maxRecDepth 100000 in
theorem bX9_describe_63 {g : pm_Gm} {l : Launch} {G : pm_Gl} {Qr : Option Value → pm_H → Prop} (C : pm_C g cX9_describe RX9) (X : pm_X g l G mX9_describe 0 0 Qr) {h : pm_H} {x0 : Nat} {x1 : Nat} {x2 : Int32} {x3 : Int32} {r : pm_H} (hf : fX9_describe_b63 h x0 x1 x2 x3 = some r) (q : Qr none r) : pm_G g 63 [(0, .ref x0), (1, .ref x1), (2, .int x2), (3, .int x3)] [] h 0 0 := by
  unfold fX9_describe_b63 at hf
  refine pm_aload_n C dX9_describe_63 rfl rfl ?_
  refine pm_iconst (v := 1) C dX9_describe_64 (by decide) ?_
  obtain ⟨k19, hf⟩ := pm_if hf
  obtain ⟨v20, e21, hf⟩ := pm_bd hf
  refine pm_callV (as := [.int 1]) (st := []) C X dX9_describe_65 lnX9_228 myX9_nextUpTo viX9_nextUpTo ⟨by decide, by decide⟩ rfl rfl k19 (Nat.le_of_ble_eq_true rfl) (Nat.le_refl _) (Nat.le_refl _) (ctX9_nextUpTo e21 ?_)
  show pm_G g 68 [(0, .ref x0), (1, .ref x1), (2, .int x2), (3, .int x3)] [.int v20.1] v20.2 0 0
  refine pm_istore (lv' := [(4, .int v20.1), (0, .ref x0), (1, .ref x1), (2, .int x2), (3, .int x3)]) C dX9_describe_68 (pm_nl X (by decide)) rfl ?_
  refine pm_aload_n C dX9_describe_70 rfl rfl ?_
  refine pm_iload_n C dX9_describe_71 rfl rfl ?_
  refine pm_iconst (v := 3) C dX9_describe_72 (by decide) ?_
  refine pm_iadd C dX9_describe_73 ?_
  refine pm_aload_n C dX9_describe_74 rfl rfl ?_
  refine pm_bipush (v := 32) C dX9_describe_75 (by decide) ?_
  obtain ⟨k22, hf⟩ := pm_if hf
  obtain ⟨v23, e24, hf⟩ := pm_bd hf
  refine pm_callV (as := [.int 32]) (st := [.int (x2 + 3), .ref x1]) C X dX9_describe_77 lnX9_145 myX9_number viX9_number ⟨by decide, by decide⟩ rfl rfl k22 (Nat.le_of_ble_eq_true rfl) (Nat.le_refl _) (Nat.le_refl _) (ctX9_number e24 ?_)
  show pm_G g 80 [(4, .int v20.1), (0, .ref x0), (1, .ref x1), (2, .int x2), (3, .int x3)] [.long v23.1, .int (x2 + 3), .ref x1] v23.2 0 0
  obtain ⟨v25, e26, hf⟩ := pm_bd hf
  refine pm_callS (as := [.ref x1, .int (x2 + 3), .long v23.1]) (st := []) C X dX9_describe_80 lnX9_238 myX12_setItem_ stX12_setItem_ ⟨by decide, by decide⟩ rfl rfl (Nat.le_of_ble_eq_true rfl) (Nat.le_refl _) (Nat.le_refl _) (ctX12_setItem_ e26 ?_)
  show pm_G g 83 [(4, .int v20.1), (0, .ref x0), (1, .ref x1), (2, .int x2), (3, .int x3)] [] v25 0 0
  refine pm_iload C dX9_describe_83 rfl ?_
  refine pm_iconst (v := 1) C dX9_describe_85 (by decide) ?_
  refine pm_icmp_ne (tgt := 102) C dX9_describe_86 (by decide) (fun c27 => ?_) (fun c27 => ?_)
  · have hf := pm_ie hf c27
    exact pm_sub [1, 2, 3, 4] rfl (bX9_describe_102 C X hf q)
  · have hf := pm_it hf c27
    refine pm_aload_n C dX9_describe_89 rfl rfl ?_
    refine pm_iload_n C dX9_describe_90 rfl rfl ?_
    refine pm_iconst (v := 4) C dX9_describe_91 (by decide) ?_
    refine pm_iadd C dX9_describe_92 ?_
    refine pm_aload_n C dX9_describe_93 rfl rfl ?_
    refine pm_bipush (v := 32) C dX9_describe_94 (by decide) ?_
    obtain ⟨k28, hf⟩ := pm_if hf
    obtain ⟨v29, e30, hf⟩ := pm_bd hf
    refine pm_callV (as := [.int 32]) (st := [.int (x2 + 4), .ref x1]) C X dX9_describe_96 lnX9_145 myX9_number viX9_number ⟨by decide, by decide⟩ rfl rfl k28 (Nat.le_of_ble_eq_true rfl) (Nat.le_refl _) (Nat.le_refl _) (ctX9_number e30 ?_)
    show pm_G g 99 [(4, .int v20.1), (0, .ref x0), (1, .ref x1), (2, .int x2), (3, .int x3)] [.long v29.1, .int (x2 + 4), .ref x1] v29.2 0 0
    obtain ⟨v31, e32, hf⟩ := pm_bd hf
    refine pm_callS (as := [.ref x1, .int (x2 + 4), .long v29.1]) (st := []) C X dX9_describe_99 lnX9_238 myX12_setItem_ stX12_setItem_ ⟨by decide, by decide⟩ rfl rfl (Nat.le_of_ble_eq_true rfl) (Nat.le_refl _) (Nat.le_refl _) (ctX12_setItem_ e32 ?_)
    show pm_G g 102 [(4, .int v20.1), (0, .ref x0), (1, .ref x1), (2, .int x2), (3, .int x3)] [] v31 0 0
    exact pm_sub [1, 2, 3, 4] rfl (bX9_describe_102 C X hf q)
set_option maxHeartbeats 4000000 in
set_option maxRecDepth 100000 in
theorem bX9_describe_53 {g : pm_Gm} {l : Launch} {G : pm_Gl} {Qr : Option Value → pm_H → Prop} (C : pm_C g cX9_describe RX9) (X : pm_X g l G mX9_describe 0 0 Qr) {h : pm_H} {x0 : Nat} {x1 : Nat} {x2 : Int32} {x3 : Int32} {r : pm_H} (hf : fX9_describe_b53 h x0 x1 x2 x3 = some r) (q : Qr none r) : pm_G g 53 [(0, .ref x0), (1, .ref x1), (2, .int x2), (3, .int x3)] [] h 0 0 := by
  unfold fX9_describe_b53 at hf
  refine pm_iload_n C dX9_describe_53 rfl rfl ?_
  refine pm_iconst (v := 1) C dX9_describe_54 (by decide) ?_
  refine pm_icmp_eq (tgt := 63) C dX9_describe_55 (by decide) (fun c17 => ?_) (fun c17 => ?_)
  · have hf := pm_it hf c17
    exact pm_sub [0, 1, 2, 3] rfl (bX9_describe_63 C X hf q)
  · have hf := pm_ie hf c17
    refine pm_iload_n C dX9_describe_58 rfl rfl ?_
    refine pm_iconst (v := 2) C dX9_describe_59 (by decide) ?_
    refine pm_icmp_ne (tgt := 102) C dX9_describe_60 (by decide) (fun c18 => ?_) (fun c18 => ?_)
    · have hf := pm_ie hf c18
      exact pm_sub [0, 1, 2, 3] rfl (bX9_describe_102 C X hf q)
    · have hf := pm_it hf c18
      exact pm_sub [0, 1, 2, 3] rfl (bX9_describe_63 C X hf q)
set_option maxHeartbeats 4000000 in
set_option maxRecDepth 100000 in
theorem bX9_describe_36 {g : pm_Gm} {l : Launch} {G : pm_Gl} {Qr : Option Value → pm_H → Prop} (C : pm_C g cX9_describe RX9) (X : pm_X g l G mX9_describe 0 0 Qr) {h : pm_H} {x0 : Nat} {x1 : Nat} {x2 : Int32} {x3 : Int32} {r : pm_H} (hf : fX9_describe_b36 h x0 x1 x2 x3 = some r) (q : Qr none r) : pm_G g 36 [(0, .ref x0), (1, .ref x1), (2, .int x2), (3, .int x3)] [] h 0 0 := by
  unfold fX9_describe_b36 at hf
  refine pm_iload_n C dX9_describe_36 rfl rfl ?_
  refine pm_iconst (v := 1) C dX9_describe_37 (by decide) ?_
  refine pm_icmp_ne (tgt := 53) C dX9_describe_38 (by decide) (fun c11 => ?_) (fun c11 => ?_)
  · have hf := pm_ie hf c11
    exact pm_sub [0, 1, 2, 3] rfl (bX9_describe_53 C X hf q)
  · have hf := pm_it hf c11
    refine pm_aload_n C dX9_describe_41 rfl rfl ?_
    refine pm_iload_n C dX9_describe_42 rfl rfl ?_
    refine pm_iconst (v := 1) C dX9_describe_43 (by decide) ?_
    refine pm_iadd C dX9_describe_44 ?_
    refine pm_aload_n C dX9_describe_45 rfl rfl ?_
    obtain ⟨k12, hf⟩ := pm_if hf
    obtain ⟨v13, e14, hf⟩ := pm_bd hf
    refine pm_callV (as := []) (st := [.int (x2 + 1), .ref x1]) C X dX9_describe_46 lnX9_244 myX9_referenceType viX9_referenceType ⟨by decide, by decide⟩ rfl rfl k12 (Nat.le_of_ble_eq_true rfl) (Nat.le_refl _) (Nat.le_refl _) (ctX9_referenceType e14 ?_)
    show pm_G g 49 [(0, .ref x0), (1, .ref x1), (2, .int x2), (3, .int x3)] [.int v13.1, .int (x2 + 1), .ref x1] v13.2 0 0
    refine pm_i2l C dX9_describe_49 ?_
    obtain ⟨v15, e16, hf⟩ := pm_bd hf
    refine pm_callS (as := [.ref x1, .int (x2 + 1), .long v13.1.toInt64]) (st := []) C X dX9_describe_50 lnX9_238 myX12_setItem_ stX12_setItem_ ⟨by decide, by decide⟩ rfl rfl (Nat.le_of_ble_eq_true rfl) (Nat.le_refl _) (Nat.le_refl _) (ctX12_setItem_ e16 ?_)
    show pm_G g 53 [(0, .ref x0), (1, .ref x1), (2, .int x2), (3, .int x3)] [] v15 0 0
    exact pm_sub [0, 1, 2, 3] rfl (bX9_describe_53 C X hf q)
set_option maxHeartbeats 4000000 in
set_option maxRecDepth 100000 in
theorem ctX9_describe {l : Launch} {G : pm_Gl} {h : pm_H} {a0 : Nat} {p1 : Nat} {p2 : Int32} {p3 : Int32} {r : pm_H} {Qr : Option Value → pm_H → Prop} (hf : fX9_describe h a0 p1 p2 p3 = some r) (q : Qr none r) : pm_Ct l G mX9_describe [.ref a0, .ref p1, .int p2, .int p3] h 0 0 Qr := by
  refine pm_body pnX9 (Nat.le_of_ble_eq_true rfl) (fun g C X => ?_)
  have C : pm_C g cX9_describe RX9 := C
  show pm_G g 0 [(0, .ref a0), (1, .ref p1), (2, .int p2), (3, .int p3)] [] h 0 0
  unfold fX9_describe at hf
  refine pm_aload_n C dX9_describe_0 rfl rfl ?_
  refine pm_iload_n C dX9_describe_1 rfl rfl ?_
  refine pm_iconst (v := 0) C dX9_describe_2 (by decide) ?_
  refine pm_iadd C dX9_describe_3 ?_
  refine pm_iload_n C dX9_describe_4 rfl rfl ?_
  refine pm_i2l C dX9_describe_5 ?_
  obtain ⟨v1, e2, hf⟩ := pm_bd hf
  refine pm_callS (as := [.ref p1, .int (p2 + 0), .long p3.toInt64]) (st := []) C X dX9_describe_6 lnX9_238 myX12_setItem_ stX12_setItem_ ⟨by decide, by decide⟩ rfl rfl (Nat.le_of_ble_eq_true rfl) (Nat.le_refl _) (Nat.le_refl _) (ctX12_setItem_ e2 ?_)
  show pm_G g 9 [(0, .ref a0), (1, .ref p1), (2, .int p2), (3, .int p3)] [] v1 0 0
  refine pm_aload_n C dX9_describe_9 rfl rfl ?_
  refine pm_iload_n C dX9_describe_10 rfl rfl ?_
  refine pm_iconst (v := 4) C dX9_describe_11 (by decide) ?_
  refine pm_iadd C dX9_describe_12 ?_
  refine pm_ldc2 C dX9_describe_13 cnX9_99 ?_
  obtain ⟨v3, e4, hf⟩ := pm_bd hf
  refine pm_callS (as := [.ref p1, .int (p2 + 4), .long (-1)]) (st := []) C X dX9_describe_16 lnX9_238 myX12_setItem_ stX12_setItem_ ⟨by decide, by decide⟩ rfl rfl (Nat.le_of_ble_eq_true rfl) (Nat.le_refl _) (Nat.le_refl _) (ctX12_setItem_ e4 ?_)
  show pm_G g 19 [(0, .ref a0), (1, .ref p1), (2, .int p2), (3, .int p3)] [] v3 0 0
  refine pm_iload_n C dX9_describe_19 rfl rfl ?_
  refine pm_if_ne (tgt := 36) C dX9_describe_20 (by decide) (fun c5 => ?_) (fun c5 => ?_)
  · have hf := pm_ie hf c5
    exact pm_sub [0, 1, 2, 3] rfl (bX9_describe_36 C X hf q)
  · have hf := pm_it hf c5
    refine pm_aload_n C dX9_describe_23 rfl rfl ?_
    refine pm_iload_n C dX9_describe_24 rfl rfl ?_
    refine pm_iconst (v := 1) C dX9_describe_25 (by decide) ?_
    refine pm_iadd C dX9_describe_26 ?_
    refine pm_aload_n C dX9_describe_27 rfl rfl ?_
    refine pm_bipush (v := 32) C dX9_describe_28 (by decide) ?_
    obtain ⟨k6, hf⟩ := pm_if hf
    obtain ⟨v7, e8, hf⟩ := pm_bd hf
    refine pm_callV (as := [.int 32]) (st := [.int (p2 + 1), .ref p1]) C X dX9_describe_30 lnX9_145 myX9_number viX9_number ⟨by decide, by decide⟩ rfl rfl k6 (Nat.le_of_ble_eq_true rfl) (Nat.le_refl _) (Nat.le_refl _) (ctX9_number e8 ?_)
    show pm_G g 33 [(0, .ref a0), (1, .ref p1), (2, .int p2), (3, .int p3)] [.long v7.1, .int (p2 + 1), .ref p1] v7.2 0 0
    obtain ⟨v9, e10, hf⟩ := pm_bd hf
    refine pm_callS (as := [.ref p1, .int (p2 + 1), .long v7.1]) (st := []) C X dX9_describe_33 lnX9_238 myX12_setItem_ stX12_setItem_ ⟨by decide, by decide⟩ rfl rfl (Nat.le_of_ble_eq_true rfl) (Nat.le_refl _) (Nat.le_refl _) (ctX12_setItem_ e10 ?_)
    show pm_G g 36 [(0, .ref a0), (1, .ref p1), (2, .int p2), (3, .int p3)] [] v9 0 0
    exact pm_sub [0, 1, 2, 3] rfl (bX9_describe_36 C X hf q)
theorem dX9_labels_0 : decode cX9_labels 0 = .ok (.aload_n 0, 1) := by decide +kernel
theorem dX9_labels_1 : decode cX9_labels 1 = .ok (.aload_n 0, 1) := by decide +kernel
theorem dX9_labels_2 : decode cX9_labels 2 = .ok (.bipush 32, 2) := by decide +kernel
theorem dX9_labels_4 : decode cX9_labels 4 = .ok (.invokevirtual 145, 3) := by decide +kernel
theorem dX9_labels_7 : decode cX9_labels 7 = .ok (.putfield 279, 3) := by decide +kernel
theorem dX9_labels_10 : decode cX9_labels 10 = .ok (.aload_n 0, 1) := by decide +kernel
theorem dX9_labels_11 : decode cX9_labels 11 = .ok (.aload_n 0, 1) := by decide +kernel
theorem dX9_labels_12 : decode cX9_labels 12 = .ok (.getfield 51, 3) := by decide +kernel
theorem dX9_labels_15 : decode cX9_labels 15 = .ok (.i2l, 1) := by decide +kernel
theorem dX9_labels_16 : decode cX9_labels 16 = .ok (.putfield 282, 3) := by decide +kernel
theorem dX9_labels_19 : decode cX9_labels 19 = .ok (.aload_n 0, 1) := by decide +kernel
theorem dX9_labels_20 : decode cX9_labels 20 = .ok (.getfield 66, 3) := by decide +kernel
theorem dX9_labels_23 : decode cX9_labels 23 = .ok (.ifCond .eq 18, 3) := by decide +kernel
theorem dX9_labels_26 : decode cX9_labels 26 = .ok (.aload_n 0, 1) := by decide +kernel
theorem dX9_labels_27 : decode cX9_labels 27 = .ok (.getfield 279, 3) := by decide +kernel
theorem dX9_labels_30 : decode cX9_labels 30 = .ok (.ldc2_w 303, 3) := by decide +kernel
theorem dX9_labels_33 : decode cX9_labels 33 = .ok (.lcmp, 1) := by decide +kernel
theorem dX9_labels_34 : decode cX9_labels 34 = .ok (.ifCond .le 7, 3) := by decide +kernel
theorem dX9_labels_37 : decode cX9_labels 37 = .ok (.aload_n 0, 1) := by decide +kernel
theorem dX9_labels_38 : decode cX9_labels 38 = .ok (.invokevirtual 175, 3) := by decide +kernel
theorem dX9_labels_41 : decode cX9_labels 41 = .ok (.lconst 0, 1) := by decide +kernel
theorem dX9_labels_42 : decode cX9_labels 42 = .ok (.lstore_n 1, 1) := by decide +kernel
theorem dX9_labels_43 : decode cX9_labels 43 = .ok (.lload_n 1, 1) := by decide +kernel
theorem dX9_labels_44 : decode cX9_labels 44 = .ok (.aload_n 0, 1) := by decide +kernel
theorem dX9_labels_45 : decode cX9_labels 45 = .ok (.getfield 279, 3) := by decide +kernel
theorem dX9_labels_48 : decode cX9_labels 48 = .ok (.lcmp, 1) := by decide +kernel
theorem dX9_labels_49 : decode cX9_labels 49 = .ok (.ifCond .gt 24, 3) := by decide +kernel
theorem dX9_labels_52 : decode cX9_labels 52 = .ok (.aload_n 0, 1) := by decide +kernel
theorem dX9_labels_53 : decode cX9_labels 53 = .ok (.getfield 40, 3) := by decide +kernel
theorem dX9_labels_56 : decode cX9_labels 56 = .ok (.ifCond .ne 17, 3) := by decide +kernel
theorem dX9_labels_59 : decode cX9_labels 59 = .ok (.aload_n 0, 1) := by decide +kernel
theorem dX9_labels_60 : decode cX9_labels 60 = .ok (.bipush 32, 2) := by decide +kernel
theorem dX9_labels_62 : decode cX9_labels 62 = .ok (.invokevirtual 145, 3) := by decide +kernel
theorem dX9_labels_65 : decode cX9_labels 65 = .ok (.pop2, 1) := by decide +kernel
theorem dX9_labels_66 : decode cX9_labels 66 = .ok (.lload_n 1, 1) := by decide +kernel
theorem dX9_labels_67 : decode cX9_labels 67 = .ok (.lconst 1, 1) := by decide +kernel
theorem dX9_labels_68 : decode cX9_labels 68 = .ok (.ladd, 1) := by decide +kernel
theorem dX9_labels_69 : decode cX9_labels 69 = .ok (.lstore_n 1, 1) := by decide +kernel
theorem dX9_labels_70 : decode cX9_labels 70 = .ok (.goto (-27), 3) := by decide +kernel
theorem dX9_labels_73 : decode cX9_labels 73 = .ok (.return_, 1) := by decide +kernel
noncomputable def tX9_labels_43 (x0 : Nat) (x1 : Int64) (h : pm_H) : Option (((Nat × Int64 × pm_H)) ⊕ pm_H) := if pm_kd h x0 = 9 then if (pm_L h x0 8) < x1 then (some (.inr (h))) else (if (pm_I h x0 3) = 0 then ((fX9_number h x0 32).bind fun v14 => pm_let (x1 + 1) fun y16 => some (.inl ((x0, y16, v14.2)))) else (some (.inr (h)))) else none
noncomputable def sX9_labels : ((Nat × Int64 × pm_H)) → Option (((Nat × Int64 × pm_H)) ⊕ pm_H) := fun z => match z with
  | (x0, x1, h) => tX9_labels_43 x0 x1 h
noncomputable def fX9_labels (h : pm_H) (a0 : Nat) : Option pm_H := if pm_kd h a0 = 9 then (fX9_number h a0 32).bind fun v2 => if pm_kd v2.2 a0 = 9 then pm_let ((pm_I (pm_setL v2.2 a0 8 v2.1) a0 1).toInt64) fun y5 => if (pm_I (pm_setL (pm_setL v2.2 a0 8 v2.1) a0 9 y5) a0 16) = 0 then (pm_lim sX9_labels ((a0, 0, pm_setL (pm_setL v2.2 a0 8 v2.1) a0 9 y5))) else (if (pm_L (pm_setL (pm_setL v2.2 a0 8 v2.1) a0 9 y5) a0 8) ≤ 200 then (pm_lim sX9_labels ((a0, 0, pm_setL (pm_setL v2.2 a0 8 v2.1) a0 9 y5))) else ((fX9_exceedLimit (pm_setL (pm_setL v2.2 a0 8 v2.1) a0 9 y5) a0).bind fun v9 => pm_lim sX9_labels ((a0, 0, v9)))) else none else none
set_option maxHeartbeats 4000000 in
set_option maxRecDepth 100000 in
theorem lpX9_labels {g : pm_Gm} {l : Launch} {G : pm_Gl} {Qr : Option Value → pm_H → Prop} (C : pm_C g cX9_labels RX9) (X : pm_X g l G mX9_labels 0 0 Qr) {r : pm_H} (q : Qr none r) : ∀ n : Nat, (∀ (x0 : Nat) (x1 : Int64) (h : pm_H), pm_iter sX9_labels n (x0, x1, h) = some r → pm_G g 43 [(0, .ref x0), (1, .long x1)] [] h 0 0) := by
  intro n
  induction n with
  | zero => exact fun _ _ _ hf => (by cases hf)
  | succ n ih =>
    refine fun x0 x1 h hf => ?_
    obtain ⟨y, hf, hi⟩ := pm_iter_s hf
    have hf : tX9_labels_43 x0 x1 h = some y := hf
    unfold tX9_labels_43 at hf
    refine pm_lload_n C dX9_labels_43 rfl rfl ?_
    refine pm_aload_n C dX9_labels_44 rfl rfl ?_
    obtain ⟨k11, hf⟩ := pm_if hf
    refine pm_getL C dX9_labels_45 flX9_279 rfl k11 rfl ?_
    refine pm_lcmp C dX9_labels_48 ?_
    refine pm_if_gt (tgt := 73) C dX9_labels_49 (by decide) (fun c12 => ?_) (fun c12 => ?_)
    · have hf := pm_it hf ((pm_lg_gt _ _).mp c12)
      cases hf
      cases hi
      exact pm_vret C X dX9_labels_73 rfl (Nat.le_refl _) (Nat.le_refl _) q
    · have hf := pm_ie hf ((fun z => c12 ((pm_lg_gt _ _).mpr z)))
      refine pm_aload_n C dX9_labels_52 rfl rfl ?_
      refine pm_getI C dX9_labels_53 flX9_40 rfl k11 rfl ?_
      refine pm_if_ne (tgt := 73) C dX9_labels_56 (by decide) (fun c13 => ?_) (fun c13 => ?_)
      · have hf := pm_ie hf c13
        cases hf
        cases hi
        exact pm_vret C X dX9_labels_73 rfl (Nat.le_refl _) (Nat.le_refl _) q
      · have hf := pm_it hf c13
        refine pm_aload_n C dX9_labels_59 rfl rfl ?_
        refine pm_bipush (v := 32) C dX9_labels_60 (by decide) ?_
        obtain ⟨v14, e15, hf⟩ := pm_bd hf
        refine pm_callV (as := [.int 32]) (st := []) C X dX9_labels_62 lnX9_145 myX9_number viX9_number ⟨by decide, by decide⟩ rfl rfl k11 (Nat.le_of_ble_eq_true rfl) (Nat.le_refl _) (Nat.le_refl _) (ctX9_number e15 ?_)
        show pm_G g 65 [(0, .ref x0), (1, .long x1)] [.long v14.1] v14.2 0 0
        refine pm_pop2_2 C dX9_labels_65 rfl ?_
        refine pm_lload_n C dX9_labels_66 rfl rfl ?_
        refine pm_lconst (v := 1) C dX9_labels_67 (by decide) ?_
        refine pm_ladd C dX9_labels_68 ?_
        obtain ⟨y16, e17, hf⟩ := pm_lt hf
        refine pm_topL e17 ?_
        refine pm_lstore_n (lv' := [(1, .long y16), (0, .ref x0)]) C dX9_labels_69 rfl (pm_nl X (by decide)) rfl ?_
        refine pm_goto (tgt := 43) C dX9_labels_70 (by decide) ?_
        cases hf
        exact pm_sub [1, 0] rfl (ih x0 y16 v14.2 hi)
set_option maxHeartbeats 4000000 in
set_option maxRecDepth 100000 in
theorem ctX9_labels {l : Launch} {G : pm_Gl} {h : pm_H} {a0 : Nat} {r : pm_H} {Qr : Option Value → pm_H → Prop} (hf : fX9_labels h a0 = some r) (q : Qr none r) : pm_Ct l G mX9_labels [.ref a0] h 0 0 Qr := by
  refine pm_body pnX9 (Nat.le_of_ble_eq_true rfl) (fun g C X => ?_)
  have C : pm_C g cX9_labels RX9 := C
  show pm_G g 0 [(0, .ref a0)] [] h 0 0
  unfold fX9_labels at hf
  refine pm_aload_n C dX9_labels_0 rfl rfl ?_
  refine pm_aload_n C dX9_labels_1 rfl rfl ?_
  refine pm_bipush (v := 32) C dX9_labels_2 (by decide) ?_
  obtain ⟨k1, hf⟩ := pm_if hf
  obtain ⟨v2, e3, hf⟩ := pm_bd hf
  refine pm_callV (as := [.int 32]) (st := [.ref a0]) C X dX9_labels_4 lnX9_145 myX9_number viX9_number ⟨by decide, by decide⟩ rfl rfl k1 (Nat.le_of_ble_eq_true rfl) (Nat.le_refl _) (Nat.le_refl _) (ctX9_number e3 ?_)
  show pm_G g 7 [(0, .ref a0)] [.long v2.1, .ref a0] v2.2 0 0
  obtain ⟨k4, hf⟩ := pm_if hf
  refine pm_putL C dX9_labels_7 flX9_279 rfl rfl k4 ?_
  refine pm_aload_n C dX9_labels_10 rfl rfl ?_
  refine pm_aload_n C dX9_labels_11 rfl rfl ?_
  refine pm_getI C dX9_labels_12 flX9_51 rfl k4 rfl ?_
  refine pm_i2l C dX9_labels_15 ?_
  obtain ⟨y5, e6, hf⟩ := pm_lt hf
  refine pm_topL e6 ?_
  refine pm_putL C dX9_labels_16 flX9_282 rfl rfl k4 ?_
  refine pm_aload_n C dX9_labels_19 rfl rfl ?_
  refine pm_getI C dX9_labels_20 flX9_66 rfl k4 rfl ?_
  refine pm_if_eq (tgt := 41) C dX9_labels_23 (by decide) (fun c7 => ?_) (fun c7 => ?_)
  · have hf := pm_it hf c7
    refine pm_lconst (v := 0) C dX9_labels_41 (by decide) ?_
    refine pm_lstore_n (lv' := [(1, .long 0), (0, .ref a0)]) C dX9_labels_42 rfl (pm_nl X (by decide)) rfl ?_
    obtain ⟨n, hn⟩ := pm_lim_iter hf
    exact pm_sub [1, 0] rfl ((lpX9_labels C X q n) a0 0 (pm_setL (pm_setL v2.2 a0 8 v2.1) a0 9 y5) hn)
  · have hf := pm_ie hf c7
    refine pm_aload_n C dX9_labels_26 rfl rfl ?_
    refine pm_getL C dX9_labels_27 flX9_279 rfl k4 rfl ?_
    refine pm_ldc2 C dX9_labels_30 cnX9_303 ?_
    refine pm_lcmp C dX9_labels_33 ?_
    refine pm_if_le (tgt := 41) C dX9_labels_34 (by decide) (fun c8 => ?_) (fun c8 => ?_)
    · have hf := pm_it hf ((pm_lg_le _ _).mp c8)
      refine pm_lconst (v := 0) C dX9_labels_41 (by decide) ?_
      refine pm_lstore_n (lv' := [(1, .long 0), (0, .ref a0)]) C dX9_labels_42 rfl (pm_nl X (by decide)) rfl ?_
      obtain ⟨n, hn⟩ := pm_lim_iter hf
      exact pm_sub [1, 0] rfl ((lpX9_labels C X q n) a0 0 (pm_setL (pm_setL v2.2 a0 8 v2.1) a0 9 y5) hn)
    · have hf := pm_ie hf ((fun z => c8 ((pm_lg_le _ _).mpr z)))
      refine pm_aload_n C dX9_labels_37 rfl rfl ?_
      obtain ⟨v9, e10, hf⟩ := pm_bd hf
      refine pm_callV (as := []) (st := []) C X dX9_labels_38 lnX9_175 myX9_exceedLimit viX9_exceedLimit ⟨by decide, by decide⟩ rfl rfl k4 (Nat.le_of_ble_eq_true rfl) (Nat.le_refl _) (Nat.le_refl _) (ctX9_exceedLimit e10 ?_)
      show pm_G g 41 [(0, .ref a0)] [] v9 0 0
      refine pm_lconst (v := 0) C dX9_labels_41 (by decide) ?_
      refine pm_lstore_n (lv' := [(1, .long 0), (0, .ref a0)]) C dX9_labels_42 rfl (pm_nl X (by decide)) rfl ?_
      obtain ⟨n, hn⟩ := pm_lim_iter hf
      exact pm_sub [1, 0] rfl ((lpX9_labels C X q n) a0 0 v9 hn)
