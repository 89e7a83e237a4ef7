theorem dX8_toWholeFloating_0 : decode cX8_toWholeFloating 0 = .ok (.iload_n 0, 1) := by decide +kernel
theorem dX8_toWholeFloating_1 : decode cX8_toWholeFloating 1 = .ok (.lload_n 2, 1) := by decide +kernel
theorem dX8_toWholeFloating_2 : decode cX8_toWholeFloating 2 = .ok (.invokestatic 78, 3) := by decide +kernel
theorem dX8_toWholeFloating_5 : decode cX8_toWholeFloating 5 = .ok (.ifCond .ne 19, 3) := by decide +kernel
theorem dX8_toWholeFloating_8 : decode cX8_toWholeFloating 8 = .ok (.iload_n 0, 1) := by decide +kernel
theorem dX8_toWholeFloating_9 : decode cX8_toWholeFloating 9 = .ok (.lload_n 2, 1) := by decide +kernel
theorem dX8_toWholeFloating_10 : decode cX8_toWholeFloating 10 = .ok (.invokestatic 155, 3) := by decide +kernel
theorem dX8_toWholeFloating_13 : decode cX8_toWholeFloating 13 = .ok (.ifCond .ne 11, 3) := by decide +kernel
theorem dX8_toWholeFloating_16 : decode cX8_toWholeFloating 16 = .ok (.iload_n 0, 1) := by decide +kernel
theorem dX8_toWholeFloating_17 : decode cX8_toWholeFloating 17 = .ok (.lload_n 2, 1) := by decide +kernel
theorem dX8_toWholeFloating_18 : decode cX8_toWholeFloating 18 = .ok (.invokestatic 158, 3) := by decide +kernel
theorem dX8_toWholeFloating_21 : decode cX8_toWholeFloating 21 = .ok (.ifCond .lt 5, 3) := by decide +kernel
theorem dX8_toWholeFloating_24 : decode cX8_toWholeFloating 24 = .ok (.lload_n 2, 1) := by decide +kernel
theorem dX8_toWholeFloating_25 : decode cX8_toWholeFloating 25 = .ok (.lreturn, 1) := by decide +kernel
theorem dX8_toWholeFloating_26 : decode cX8_toWholeFloating 26 = .ok (.iload_n 0, 1) := by decide +kernel
theorem dX8_toWholeFloating_27 : decode cX8_toWholeFloating 27 = .ok (.lload_n 2, 1) := by decide +kernel
theorem dX8_toWholeFloating_28 : decode cX8_toWholeFloating 28 = .ok (.invokestatic 162, 3) := by decide +kernel
theorem dX8_toWholeFloating_31 : decode cX8_toWholeFloating 31 = .ok (.istore 4, 2) := by decide +kernel
theorem dX8_toWholeFloating_33 : decode cX8_toWholeFloating 33 = .ok (.iload_n 0, 1) := by decide +kernel
theorem dX8_toWholeFloating_34 : decode cX8_toWholeFloating 34 = .ok (.lload_n 2, 1) := by decide +kernel
theorem dX8_toWholeFloating_35 : decode cX8_toWholeFloating 35 = .ok (.invokestatic 165, 3) := by decide +kernel
theorem dX8_toWholeFloating_38 : decode cX8_toWholeFloating 38 = .ok (.lstore 5, 2) := by decide +kernel
theorem dX8_toWholeFloating_40 : decode cX8_toWholeFloating 40 = .ok (.iload_n 0, 1) := by decide +kernel
theorem dX8_toWholeFloating_41 : decode cX8_toWholeFloating 41 = .ok (.lload_n 2, 1) := by decide +kernel
theorem dX8_toWholeFloating_42 : decode cX8_toWholeFloating 42 = .ok (.invokestatic 158, 3) := by decide +kernel
theorem dX8_toWholeFloating_45 : decode cX8_toWholeFloating 45 = .ok (.ineg, 1) := by decide +kernel
theorem dX8_toWholeFloating_46 : decode cX8_toWholeFloating 46 = .ok (.bipush 54, 2) := by decide +kernel
theorem dX8_toWholeFloating_48 : decode cX8_toWholeFloating 48 = .ok (.invokestatic 13, 3) := by decide +kernel
theorem dX8_toWholeFloating_51 : decode cX8_toWholeFloating 51 = .ok (.istore 7, 2) := by decide +kernel
theorem dX8_toWholeFloating_53 : decode cX8_toWholeFloating 53 = .ok (.lload 5, 2) := by decide +kernel
theorem dX8_toWholeFloating_55 : decode cX8_toWholeFloating 55 = .ok (.iload 7, 2) := by decide +kernel
theorem dX8_toWholeFloating_57 : decode cX8_toWholeFloating 57 = .ok (.lushr, 1) := by decide +kernel
theorem dX8_toWholeFloating_58 : decode cX8_toWholeFloating 58 = .ok (.lstore 8, 2) := by decide +kernel
theorem dX8_toWholeFloating_60 : decode cX8_toWholeFloating 60 = .ok (.lload 5, 2) := by decide +kernel
theorem dX8_toWholeFloating_62 : decode cX8_toWholeFloating 62 = .ok (.lload 8, 2) := by decide +kernel
theorem dX8_toWholeFloating_64 : decode cX8_toWholeFloating 64 = .ok (.iload 7, 2) := by decide +kernel
theorem dX8_toWholeFloating_66 : decode cX8_toWholeFloating 66 = .ok (.lshl, 1) := by decide +kernel
theorem dX8_toWholeFloating_67 : decode cX8_toWholeFloating 67 = .ok (.lsub, 1) := by decide +kernel
theorem dX8_toWholeFloating_68 : decode cX8_toWholeFloating 68 = .ok (.lstore 10, 2) := by decide +kernel
theorem dX8_toWholeFloating_70 : decode cX8_toWholeFloating 70 = .ok (.lconst 1, 1) := by decide +kernel
theorem dX8_toWholeFloating_71 : decode cX8_toWholeFloating 71 = .ok (.iload 7, 2) := by decide +kernel
theorem dX8_toWholeFloating_73 : decode cX8_toWholeFloating 73 = .ok (.iconst 1, 1) := by decide +kernel
theorem dX8_toWholeFloating_74 : decode cX8_toWholeFloating 74 = .ok (.isub, 1) := by decide +kernel
theorem dX8_toWholeFloating_75 : decode cX8_toWholeFloating 75 = .ok (.lshl, 1) := by decide +kernel
theorem dX8_toWholeFloating_76 : decode cX8_toWholeFloating 76 = .ok (.lstore 12, 2) := by decide +kernel
theorem dX8_toWholeFloating_78 : decode cX8_toWholeFloating 78 = .ok (.iload_n 1, 1) := by decide +kernel
theorem dX8_toWholeFloating_79 : decode cX8_toWholeFloating 79 = .ok (.iconst 2, 1) := by decide +kernel
theorem dX8_toWholeFloating_80 : decode cX8_toWholeFloating 80 = .ok (.if_icmp .ne 8, 3) := by decide +kernel
theorem dX8_toWholeFloating_83 : decode cX8_toWholeFloating 83 = .ok (.iload 4, 2) := by decide +kernel
theorem dX8_toWholeFloating_85 : decode cX8_toWholeFloating 85 = .ok (.ifCond .eq 13, 3) := by decide +kernel
theorem dX8_toWholeFloating_88 : decode cX8_toWholeFloating 88 = .ok (.iload_n 1, 1) := by decide +kernel
theorem dX8_toWholeFloating_89 : decode cX8_toWholeFloating 89 = .ok (.iconst 3, 1) := by decide +kernel
theorem dX8_toWholeFloating_90 : decode cX8_toWholeFloating 90 = .ok (.if_icmp .ne 12, 3) := by decide +kernel
theorem dX8_toWholeFloating_93 : decode cX8_toWholeFloating 93 = .ok (.iload 4, 2) := by decide +kernel
theorem dX8_toWholeFloating_95 : decode cX8_toWholeFloating 95 = .ok (.ifCond .eq 7, 3) := by decide +kernel
theorem dX8_toWholeFloating_98 : decode cX8_toWholeFloating 98 = .ok (.iconst 1, 1) := by decide +kernel
theorem dX8_toWholeFloating_99 : decode cX8_toWholeFloating 99 = .ok (.goto 4, 3) := by decide +kernel
theorem dX8_toWholeFloating_102 : decode cX8_toWholeFloating 102 = .ok (.iconst 0, 1) := by decide +kernel
theorem dX8_toWholeFloating_103 : decode cX8_toWholeFloating 103 = .ok (.istore 14, 2) := by decide +kernel
theorem dX8_toWholeFloating_105 : decode cX8_toWholeFloating 105 = .ok (.iload 14, 2) := by decide +kernel
theorem dX8_toWholeFloating_107 : decode cX8_toWholeFloating 107 = .ok (.ifCond .eq 16, 3) := by decide +kernel
theorem dX8_toWholeFloating_110 : decode cX8_toWholeFloating 110 = .ok (.lload 10, 2) := by decide +kernel
theorem dX8_toWholeFloating_112 : decode cX8_toWholeFloating 112 = .ok (.lconst 0, 1) := by decide +kernel
theorem dX8_toWholeFloating_113 : decode cX8_toWholeFloating 113 = .ok (.lcmp, 1) := by decide +kernel
theorem dX8_toWholeFloating_114 : decode cX8_toWholeFloating 114 = .ok (.ifCond .eq 9, 3) := by decide +kernel
theorem dX8_toWholeFloating_117 : decode cX8_toWholeFloating 117 = .ok (.lload 8, 2) := by decide +kernel
theorem dX8_toWholeFloating_119 : decode cX8_toWholeFloating 119 = .ok (.lconst 1, 1) := by decide +kernel
theorem dX8_toWholeFloating_120 : decode cX8_toWholeFloating 120 = .ok (.ladd, 1) := by decide +kernel
theorem dX8_toWholeFloating_121 : decode cX8_toWholeFloating 121 = .ok (.lstore 8, 2) := by decide +kernel
theorem dX8_toWholeFloating_123 : decode cX8_toWholeFloating 123 = .ok (.iload_n 1, 1) := by decide +kernel
theorem dX8_toWholeFloating_124 : decode cX8_toWholeFloating 124 = .ok (.iconst 5, 1) := by decide +kernel
theorem dX8_toWholeFloating_125 : decode cX8_toWholeFloating 125 = .ok (.if_icmp .ne 34, 3) := by decide +kernel
theorem dX8_toWholeFloating_128 : decode cX8_toWholeFloating 128 = .ok (.lload 10, 2) := by decide +kernel
theorem dX8_toWholeFloating_130 : decode cX8_toWholeFloating 130 = .ok (.lload 12, 2) := by decide +kernel
theorem dX8_toWholeFloating_132 : decode cX8_toWholeFloating 132 = .ok (.lcmp, 1) := by decide +kernel
theorem dX8_toWholeFloating_133 : decode cX8_toWholeFloating 133 = .ok (.ifCond .gt 20, 3) := by decide +kernel
theorem dX8_toWholeFloating_136 : decode cX8_toWholeFloating 136 = .ok (.lload 10, 2) := by decide +kernel
theorem dX8_toWholeFloating_138 : decode cX8_toWholeFloating 138 = .ok (.lload 12, 2) := by decide +kernel
theorem dX8_toWholeFloating_140 : decode cX8_toWholeFloating 140 = .ok (.lcmp, 1) := by decide +kernel
theorem dX8_toWholeFloating_141 : decode cX8_toWholeFloating 141 = .ok (.ifCond .ne 18, 3) := by decide +kernel
theorem dX8_toWholeFloating_144 : decode cX8_toWholeFloating 144 = .ok (.lload 8, 2) := by decide +kernel
theorem dX8_toWholeFloating_146 : decode cX8_toWholeFloating 146 = .ok (.lconst 1, 1) := by decide +kernel
theorem dX8_toWholeFloating_147 : decode cX8_toWholeFloating 147 = .ok (.land, 1) := by decide +kernel
theorem dX8_toWholeFloating_148 : decode cX8_toWholeFloating 148 = .ok (.lconst 1, 1) := by decide +kernel
theorem dX8_toWholeFloating_149 : decode cX8_toWholeFloating 149 = .ok (.lcmp, 1) := by decide +kernel
theorem dX8_toWholeFloating_150 : decode cX8_toWholeFloating 150 = .ok (.ifCond .ne 9, 3) := by decide +kernel
theorem dX8_toWholeFloating_153 : decode cX8_toWholeFloating 153 = .ok (.lload 8, 2) := by decide +kernel
theorem dX8_toWholeFloating_155 : decode cX8_toWholeFloating 155 = .ok (.lconst 1, 1) := by decide +kernel
theorem dX8_toWholeFloating_156 : decode cX8_toWholeFloating 156 = .ok (.ladd, 1) := by decide +kernel
theorem dX8_toWholeFloating_157 : decode cX8_toWholeFloating 157 = .ok (.lstore 8, 2) := by decide +kernel
theorem dX8_toWholeFloating_159 : decode cX8_toWholeFloating 159 = .ok (.iload_n 0, 1) := by decide +kernel
theorem dX8_toWholeFloating_160 : decode cX8_toWholeFloating 160 = .ok (.iload 4, 2) := by decide +kernel
theorem dX8_toWholeFloating_162 : decode cX8_toWholeFloating 162 = .ok (.lload 8, 2) := by decide +kernel
theorem dX8_toWholeFloating_164 : decode cX8_toWholeFloating 164 = .ok (.iconst 0, 1) := by decide +kernel
theorem dX8_toWholeFloating_165 : decode cX8_toWholeFloating 165 = .ok (.invokestatic 168, 3) := by decide +kernel
theorem dX8_toWholeFloating_168 : decode cX8_toWholeFloating 168 = .ok (.lreturn, 1) := by decide +kernel
def fX8_toWholeFloating_b123 (x0 : Int32) (x1 : Int32) (x4 : Int32) (x8 : Int64) (x10 : Int64) (x12 : Int64) : Int64 := if x1 = 5 then (if x12 < x10 then (pm_let (x8 + 1) fun y36 => pm_let (fX8_round x0 x4 y36 0) fun v38 => v38) else (if x10 = x12 then (if (x8 &&& 1) = 1 then (pm_let (x8 + 1) fun y46 => pm_let (fX8_round x0 x4 y46 0) fun v48 => v48) else (pm_let (fX8_round x0 x4 x8 0) fun v44 => v44)) else (pm_let (fX8_round x0 x4 x8 0) fun v41 => v41))) else (pm_let (fX8_round x0 x4 x8 0) fun v33 => v33)
def fX8_toWholeFloating_b103 (x0 : Int32) (x1 : Int32) (x4 : Int32) (x8 : Int64) (x10 : Int64) (x12 : Int64) (s0 : Int32) : Int64 := if s0 = 0 then (fX8_toWholeFloating_b123 x0 x1 x4 x8 x10 x12) else (if x10 = 0 then (fX8_toWholeFloating_b123 x0 x1 x4 x8 x10 x12) else (pm_let (x8 + 1) fun y30 => fX8_toWholeFloating_b123 x0 x1 x4 y30 x10 x12))
def fX8_toWholeFloating_b102 (x0 : Int32) (x1 : Int32) (x4 : Int32) (x8 : Int64) (x10 : Int64) (x12 : Int64) : Int64 := fX8_toWholeFloating_b103 x0 x1 x4 x8 x10 x12 0
def fX8_toWholeFloating_b98 (x0 : Int32) (x1 : Int32) (x4 : Int32) (x8 : Int64) (x10 : Int64) (x12 : Int64) : Int64 := fX8_toWholeFloating_b103 x0 x1 x4 x8 x10 x12 1
def fX8_toWholeFloating_b88 (x0 : Int32) (x1 : Int32) (x4 : Int32) (x8 : Int64) (x10 : Int64) (x12 : Int64) : Int64 := if x1 = 3 then (if x4 = 0 then (fX8_toWholeFloating_b102 x0 x1 x4 x8 x10 x12) else (fX8_toWholeFloating_b98 x0 x1 x4 x8 x10 x12)) else (fX8_toWholeFloating_b102 x0 x1 x4 x8 x10 x12)
def fX8_toWholeFloating (p1 : Int32) (p2 : Int32) (p3 : Int64) : Int64 := pm_let (fX8_isZero p1 p3) fun v1 => if v1 = 0 then (pm_let (fX8_isInfinite p1 p3) fun v4 => if v4 = 0 then (pm_let (fX8_scale p1 p3) fun v7 => if v7 < 0 then (pm_let (fX8_isMinus p1 p3) fun v10 => pm_let (fX8_significand p1 p3) fun v12 => pm_let (fX8_scale p1 p3) fun v14 => pm_let (if (54 : Int32) < (-v14) then (54 : Int32) else (-v14)) fun y16 => pm_let ((v12.toUInt64 >>> (y16.toInt64.toUInt64 &&& Int64.toUInt64 63)).toInt64) fun y18 => pm_let (v12 - (y18 <<< (y16.toInt64 &&& 63))) fun y20 => pm_let ((1 : Int64) <<< ((y16 - 1).toInt64 &&& 63)) fun y22 => if p2 = 2 then (if v10 = 0 then (fX8_toWholeFloating_b98 p1 p2 v10 y18 y20 y22) else (fX8_toWholeFloating_b88 p1 p2 v10 y18 y20 y22)) else (fX8_toWholeFloating_b88 p1 p2 v10 y18 y20 y22)) else (p3)) else (p3)) else (p3)
set_option maxHeartbeats 4000000 in
set_option maxRecDepth 100000 in
theorem bX8_toWholeFloating_123 {g : pm_Gm} {l : Launch} {G : pm_Gl} {Qr : Option Value → pm_H → Prop} (C : pm_C g cX8_toWholeFloating RX8) (X : pm_X g l G mX8_toWholeFloating 0 0 Qr) {h : pm_H} {x0 : Int32} {x1 : Int32} {x4 : Int32} {x8 : Int64} {x10 : Int64} {x12 : Int64} {r : Int64} (hf : fX8_toWholeFloating_b123 x0 x1 x4 x8 x10 x12 = r) (q : Qr (some (.long r)) h) : pm_G g 123 [(0, .int x0), (1, .int x1), (4, .int x4), (8, .long x8), (10, .long x10), (12, .long x12)] [] h 0 0 := by
  unfold fX8_toWholeFloating_b123 at hf
  refine pm_iload_n C dX8_toWholeFloating_123 rfl rfl ?_
  refine pm_iconst (v := 5) C dX8_toWholeFloating_124 (by decide) ?_
  refine pm_icmp_ne (tgt := 159) C dX8_toWholeFloating_125 (by decide) (fun c32 => ?_) (fun c32 => ?_)
  · have hf := pm_ie hf c32
    refine pm_iload_n C dX8_toWholeFloating_159 rfl rfl ?_
    refine pm_iload C dX8_toWholeFloating_160 rfl ?_
    refine pm_lload C dX8_toWholeFloating_162 rfl ?_
    refine pm_iconst (v := 0) C dX8_toWholeFloating_164 (by decide) ?_
    obtain ⟨v33, e34, hf⟩ := pm_lt hf
    refine pm_callS (as := [.int x0, .int x4, .long x8, .int 0]) (st := []) C X dX8_toWholeFloating_165 lnX8_168 myX8_round stX8_round ⟨by decide, by decide⟩ rfl rfl (Nat.le_of_ble_eq_true rfl) (Nat.le_refl _) (Nat.le_refl _) (ctX8_round e34 ?_)
    show pm_G g 168 [(0, .int x0), (1, .int x1), (4, .int x4), (8, .long x8), (10, .long x10), (12, .long x12)] [.long v33] h 0 0
    subst hf
    exact pm_lret C X dX8_toWholeFloating_168 rfl (Nat.le_refl _) (Nat.le_refl _) q
  · have hf := pm_it hf c32
    refine pm_lload C dX8_toWholeFloating_128 rfl ?_
    refine pm_lload C dX8_toWholeFloating_130 rfl ?_
    refine pm_lcmp C dX8_toWholeFloating_132 ?_
    refine pm_if_gt (tgt := 153) C dX8_toWholeFloating_133 (by decide) (fun c35 => ?_) (fun c35 => ?_)
    · have hf := pm_it hf ((pm_lg_gt _ _).mp c35)
      refine pm_lload C dX8_toWholeFloating_153 rfl ?_
      refine pm_lconst (v := 1) C dX8_toWholeFloating_155 (by decide) ?_
      refine pm_ladd C dX8_toWholeFloating_156 ?_
      obtain ⟨y36, e37, hf⟩ := pm_lt hf
      refine pm_topL e37 ?_
      refine pm_lstore (lv' := [(8, .long y36), (0, .int x0), (1, .int x1), (4, .int x4), (10, .long x10), (12, .long x12)]) C dX8_toWholeFloating_157 (pm_nl X (by decide)) rfl ?_
      refine pm_iload_n C dX8_toWholeFloating_159 rfl rfl ?_
      refine pm_iload C dX8_toWholeFloating_160 rfl ?_
      refine pm_lload C dX8_toWholeFloating_162 rfl ?_
      refine pm_iconst (v := 0) C dX8_toWholeFloating_164 (by decide) ?_
      obtain ⟨v38, e39, hf⟩ := pm_lt hf
      refine pm_callS (as := [.int x0, .int x4, .long y36, .int 0]) (st := []) C X dX8_toWholeFloating_165 lnX8_168 myX8_round stX8_round ⟨by decide, by decide⟩ rfl rfl (Nat.le_of_ble_eq_true rfl) (Nat.le_refl _) (Nat.le_refl _) (ctX8_round e39 ?_)
      show pm_G g 168 [(8, .long y36), (0, .int x0), (1, .int x1), (4, .int x4), (10, .long x10), (12, .long x12)] [.long v38] h 0 0
      subst hf
      exact pm_lret C X dX8_toWholeFloating_168 rfl (Nat.le_refl _) (Nat.le_refl _) q
    · have hf := pm_ie hf ((fun z => c35 ((pm_lg_gt _ _).mpr z)))
      refine pm_lload C dX8_toWholeFloating_136 rfl ?_
      refine pm_lload C dX8_toWholeFloating_138 rfl ?_
      refine pm_lcmp C dX8_toWholeFloating_140 ?_
      refine pm_if_ne (tgt := 159) C dX8_toWholeFloating_141 (by decide) (fun c40 => ?_) (fun c40 => ?_)
      · have hf := pm_ie hf ((fun z => c40 ((pm_lg_eq _ _).mpr z)))
        refine pm_iload_n C dX8_toWholeFloating_159 rfl rfl ?_
        refine pm_iload C dX8_toWholeFloating_160 rfl ?_
        refine pm_lload C dX8_toWholeFloating_162 rfl ?_
        refine pm_iconst (v := 0) C dX8_toWholeFloating_164 (by decide) ?_
        obtain ⟨v41, e42, hf⟩ := pm_lt hf
        refine pm_callS (as := [.int x0, .int x4, .long x8, .int 0]) (st := []) C X dX8_toWholeFloating_165 lnX8_168 myX8_round stX8_round ⟨by decide, by decide⟩ rfl rfl (Nat.le_of_ble_eq_true rfl) (Nat.le_refl _) (Nat.le_refl _) (ctX8_round e42 ?_)
        show pm_G g 168 [(0, .int x0), (1, .int x1), (4, .int x4), (8, .long x8), (10, .long x10), (12, .long x12)] [.long v41] h 0 0
        subst hf
        exact pm_lret C X dX8_toWholeFloating_168 rfl (Nat.le_refl _) (Nat.le_refl _) q
      · have hf := pm_it hf ((pm_lg_eq _ _).mp c40)
        refine pm_lload C dX8_toWholeFloating_144 rfl ?_
        refine pm_lconst (v := 1) C dX8_toWholeFloating_146 (by decide) ?_
        refine pm_land C dX8_toWholeFloating_147 ?_
        refine pm_lconst (v := 1) C dX8_toWholeFloating_148 (by decide) ?_
        refine pm_lcmp C dX8_toWholeFloating_149 ?_
        refine pm_if_ne (tgt := 159) C dX8_toWholeFloating_150 (by decide) (fun c43 => ?_) (fun c43 => ?_)
        · have hf := pm_ie hf ((fun z => c43 ((pm_lg_eq _ _).mpr z)))
          refine pm_iload_n C dX8_toWholeFloating_159 rfl rfl ?_
          refine pm_iload C dX8_toWholeFloating_160 rfl ?_
          refine pm_lload C dX8_toWholeFloating_162 rfl ?_
          refine pm_iconst (v := 0) C dX8_toWholeFloating_164 (by decide) ?_
          obtain ⟨v44, e45, hf⟩ := pm_lt hf
          refine pm_callS (as := [.int x0, .int x4, .long x8, .int 0]) (st := []) C X dX8_toWholeFloating_165 lnX8_168 myX8_round stX8_round ⟨by decide, by decide⟩ rfl rfl (Nat.le_of_ble_eq_true rfl) (Nat.le_refl _) (Nat.le_refl _) (ctX8_round e45 ?_)
          show pm_G g 168 [(0, .int x0), (1, .int x1), (4, .int x4), (8, .long x8), (10, .long x10), (12, .long x12)] [.long v44] h 0 0
          subst hf
          exact pm_lret C X dX8_toWholeFloating_168 rfl (Nat.le_refl _) (Nat.le_refl _) q
        · have hf := pm_it hf ((pm_lg_eq _ _).mp c43)
          refine pm_lload C dX8_toWholeFloating_153 rfl ?_
          refine pm_lconst (v := 1) C dX8_toWholeFloating_155 (by decide) ?_
          refine pm_ladd C dX8_toWholeFloating_156 ?_
          obtain ⟨y46, e47, hf⟩ := pm_lt hf
          refine pm_topL e47 ?_
          refine pm_lstore (lv' := [(8, .long y46), (0, .int x0), (1, .int x1), (4, .int x4), (10, .long x10), (12, .long x12)]) C dX8_toWholeFloating_157 (pm_nl X (by decide)) rfl ?_
          refine pm_iload_n C dX8_toWholeFloating_159 rfl rfl ?_
          refine pm_iload C dX8_toWholeFloating_160 rfl ?_
          refine pm_lload C dX8_toWholeFloating_162 rfl ?_
          refine pm_iconst (v := 0) C dX8_toWholeFloating_164 (by decide) ?_
          obtain ⟨v48, e49, hf⟩ := pm_lt hf
          refine pm_callS (as := [.int x0, .int x4, .long y46, .int 0]) (st := []) C X dX8_toWholeFloating_165 lnX8_168 myX8_round stX8_round ⟨by decide, by decide⟩ rfl rfl (Nat.le_of_ble_eq_true rfl) (Nat.le_refl _) (Nat.le_refl _) (ctX8_round e49 ?_)
          show pm_G g 168 [(8, .long y46), (0, .int x0), (1, .int x1), (4, .int x4), (10, .long x10), (12, .long x12)] [.long v48] h 0 0
          subst hf
          exact pm_lret C X dX8_toWholeFloating_168 rfl (Nat.le_refl _) (Nat.le_refl _) q
set_option maxHeartbeats 4000000 in
set_option maxRecDepth 100000 in
theorem bX8_toWholeFloating_103 {g : pm_Gm} {l : Launch} {G : pm_Gl} {Qr : Option Value → pm_H → Prop} (C : pm_C g cX8_toWholeFloating RX8) (X : pm_X g l G mX8_toWholeFloating 0 0 Qr) {h : pm_H} {x0 : Int32} {x1 : Int32} {x4 : Int32} {x8 : Int64} {x10 : Int64} {x12 : Int64} {s0 : Int32} {r : Int64} (hf : fX8_toWholeFloating_b103 x0 x1 x4 x8 x10 x12 s0 = r) (q : Qr (some (.long r)) h) : pm_G g 103 [(0, .int x0), (1, .int x1), (4, .int x4), (8, .long x8), (10, .long x10), (12, .long x12)] [.int s0] h 0 0 := by
  unfold fX8_toWholeFloating_b103 at hf
  refine pm_istore (lv' := [(14, .int s0), (0, .int x0), (1, .int x1), (4, .int x4), (8, .long x8), (10, .long x10), (12, .long x12)]) C dX8_toWholeFloating_103 (pm_nl X (by decide)) rfl ?_
  refine pm_iload C dX8_toWholeFloating_105 rfl ?_
  refine pm_if_eq (tgt := 123) C dX8_toWholeFloating_107 (by decide) (fun c28 => ?_) (fun c28 => ?_)
  · have hf := pm_it hf c28
    exact pm_sub [1, 2, 3, 4, 5, 6] rfl (bX8_toWholeFloating_123 C X hf q)
  · have hf := pm_ie hf c28
    refine pm_lload C dX8_toWholeFloating_110 rfl ?_
    refine pm_lconst (v := 0) C dX8_toWholeFloating_112 (by decide) ?_
    refine pm_lcmp C dX8_toWholeFloating_113 ?_
    refine pm_if_eq (tgt := 123) C dX8_toWholeFloating_114 (by decide) (fun c29 => ?_) (fun c29 => ?_)
    · have hf := pm_it hf ((pm_lg_eq _ _).mp c29)
      exact pm_sub [1, 2, 3, 4, 5, 6] rfl (bX8_toWholeFloating_123 C X hf q)
    · have hf := pm_ie hf ((fun z => c29 ((pm_lg_eq _ _).mpr z)))
      refine pm_lload C dX8_toWholeFloating_117 rfl ?_
      refine pm_lconst (v := 1) C dX8_toWholeFloating_119 (by decide) ?_
      refine pm_ladd C dX8_toWholeFloating_120 ?_
      obtain ⟨y30, e31, hf⟩ := pm_lt hf
      refine pm_topL e31 ?_
      refine pm_lstore (lv' := [(8, .long y30), (14, .int s0), (0, .int x0), (1, .int x1), (4, .int x4), (10, .long x10), (12, .long x12)]) C dX8_toWholeFloating_121 (pm_nl X (by decide)) rfl ?_
      exact pm_sub [2, 3, 4, 0, 5, 6] rfl (bX8_toWholeFloating_123 C X hf q)
set_option maxHeartbeats 4000000 in
set_option maxRecDepth 100000 in
theorem bX8_toWholeFloating_102 {g : pm_Gm} {l : Launch} {G : pm_Gl} {Qr : Option Value → pm_H → Prop} (C : pm_C g cX8_toWholeFloating RX8) (X : pm_X g l G mX8_toWholeFloating 0 0 Qr) {h : pm_H} {x0 : Int32} {x1 : Int32} {x4 : Int32} {x8 : Int64} {x10 : Int64} {x12 : Int64} {r : Int64} (hf : fX8_toWholeFloating_b102 x0 x1 x4 x8 x10 x12 = r) (q : Qr (some (.long r)) h) : pm_G g 102 [(0, .int x0), (1, .int x1), (4, .int x4), (8, .long x8), (10, .long x10), (12, .long x12)] [] h 0 0 := by
  unfold fX8_toWholeFloating_b102 at hf
  refine pm_iconst (v := 0) C dX8_toWholeFloating_102 (by decide) ?_
  exact pm_sub [0, 1, 2, 3, 4, 5] rfl (bX8_toWholeFloating_103 C X hf q)
set_option maxHeartbeats 4000000 in
set_option maxRecDepth 100000 in
theorem bX8_toWholeFloating_98 {g : pm_Gm} {l : Launch} {G : pm_Gl} {Qr : Option Value → pm_H → Prop} (C : pm_C g cX8_toWholeFloating RX8) (X : pm_X g l G mX8_toWholeFloating 0 0 Qr) {h : pm_H} {x0 : Int32} {x1 : Int32} {x4 : Int32} {x8 : Int64} {x10 : Int64} {x12 : Int64} {r : Int64} (hf : fX8_toWholeFloating_b98 x0 x1 x4 x8 x10 x12 = r) (q : Qr (some (.long r)) h) : pm_G g 98 [(0, .int x0), (1, .int x1), (4, .int x4), (8, .long x8), (10, .long x10), (12, .long x12)] [] h 0 0 := by
  unfold fX8_toWholeFloating_b98 at hf
  refine pm_iconst (v := 1) C dX8_toWholeFloating_98 (by decide) ?_
  refine pm_goto (tgt := 103) C dX8_toWholeFloating_99 (by decide) ?_
  exact pm_sub [0, 1, 2, 3, 4, 5] rfl (bX8_toWholeFloating_103 C X hf q)
set_option maxHeartbeats 4000000 in
set_option maxRecDepth 100000 in
theorem bX8_toWholeFloating_88 {g : pm_Gm} {l : Launch} {G : pm_Gl} {Qr : Option Value → pm_H → Prop} (C : pm_C g cX8_toWholeFloating RX8) (X : pm_X g l G mX8_toWholeFloating 0 0 Qr) {h : pm_H} {x0 : Int32} {x1 : Int32} {x4 : Int32} {x8 : Int64} {x10 : Int64} {x12 : Int64} {r : Int64} (hf : fX8_toWholeFloating_b88 x0 x1 x4 x8 x10 x12 = r) (q : Qr (some (.long r)) h) : pm_G g 88 [(0, .int x0), (1, .int x1), (4, .int x4), (8, .long x8), (10, .long x10), (12, .long x12)] [] h 0 0 := by
  unfold fX8_toWholeFloating_b88 at hf
  refine pm_iload_n C dX8_toWholeFloating_88 rfl rfl ?_
  refine pm_iconst (v := 3) C dX8_toWholeFloating_89 (by decide) ?_
  refine pm_icmp_ne (tgt := 102) C dX8_toWholeFloating_90 (by decide) (fun c26 => ?_) (fun c26 => ?_)
  · have hf := pm_ie hf c26
    exact pm_sub [0, 1, 2, 3, 4, 5] rfl (bX8_toWholeFloating_102 C X hf q)
  · have hf := pm_it hf c26
    refine pm_iload C dX8_toWholeFloating_93 rfl ?_
    refine pm_if_eq (tgt := 102) C dX8_toWholeFloating_95 (by decide) (fun c27 => ?_) (fun c27 => ?_)
    · have hf := pm_it hf c27
      exact pm_sub [0, 1, 2, 3, 4, 5] rfl (bX8_toWholeFloating_102 C X hf q)
    · have hf := pm_ie hf c27
      exact pm_sub [0, 1, 2, 3, 4, 5] rfl (bX8_toWholeFloating_98 C X hf q)
set_option maxHeartbeats 4000000 in
set_option maxRecDepth 100000 in
theorem ctX8_toWholeFloating {l : Launch} {G : pm_Gl} {h : pm_H} {p1 : Int32} {p2 : Int32} {p3 : Int64} {r : Int64} {Qr : Option Value → pm_H → Prop} (hf : fX8_toWholeFloating p1 p2 p3 = r) (q : Qr (some (.long r)) h) : pm_Ct l G mX8_toWholeFloating [.int p1, .int p2, .long p3] h 0 0 Qr := by
  refine pm_body pnX8 (Nat.le_of_ble_eq_true rfl) (fun g C X => ?_)
  have C : pm_C g cX8_toWholeFloating RX8 := C
  show pm_G g 0 [(0, .int p1), (1, .int p2), (2, .long p3)] [] h 0 0
  unfold fX8_toWholeFloating at hf
  refine pm_iload_n C dX8_toWholeFloating_0 rfl rfl ?_
  refine pm_lload_n C dX8_toWholeFloating_1 rfl rfl ?_
  obtain ⟨v1, e2, hf⟩ := pm_lt hf
  refine pm_callS (as := [.int p1, .long p3]) (st := []) C X dX8_toWholeFloating_2 lnX8_78 myX8_isZero stX8_isZero ⟨by decide, by decide⟩ rfl rfl (Nat.le_of_ble_eq_true rfl) (Nat.le_refl _) (Nat.le_refl _) (ctX8_isZero e2 ?_)
  show pm_G g 5 [(0, .int p1), (1, .int p2), (2, .long p3)] [.int v1] h 0 0
  refine pm_if_ne (tgt := 24) C dX8_toWholeFloating_5 (by decide) (fun c3 => ?_) (fun c3 => ?_)
  · have hf := pm_ie hf c3
    refine pm_lload_n C dX8_toWholeFloating_24 rfl rfl ?_
    subst hf
    exact pm_lret C X dX8_toWholeFloating_25 rfl (Nat.le_refl _) (Nat.le_refl _) q
  · have hf := pm_it hf c3
    refine pm_iload_n C dX8_toWholeFloating_8 rfl rfl ?_
    refine pm_lload_n C dX8_toWholeFloating_9 rfl rfl ?_
    obtain ⟨v4, e5, hf⟩ := pm_lt hf
    refine pm_callS (as := [.int p1, .long p3]) (st := []) C X dX8_toWholeFloating_10 lnX8_155 myX8_isInfinite stX8_isInfinite ⟨by decide, by decide⟩ rfl rfl (Nat.le_of_ble_eq_true rfl) (Nat.le_refl _) (Nat.le_refl _) (ctX8_isInfinite e5 ?_)
    show pm_G g 13 [(0, .int p1), (1, .int p2), (2, .long p3)] [.int v4] h 0 0
    refine pm_if_ne (tgt := 24) C dX8_toWholeFloating_13 (by decide) (fun c6 => ?_) (fun c6 => ?_)
    · have hf := pm_ie hf c6
      refine pm_lload_n C dX8_toWholeFloating_24 rfl rfl ?_
      subst hf
      exact pm_lret C X dX8_toWholeFloating_25 rfl (Nat.le_refl _) (Nat.le_refl _) q
    · have hf := pm_it hf c6
      refine pm_iload_n C dX8_toWholeFloating_16 rfl rfl ?_
      refine pm_lload_n C dX8_toWholeFloating_17 rfl rfl ?_
      obtain ⟨v7, e8, hf⟩ := pm_lt hf
      refine pm_callS (as := [.int p1, .long p3]) (st := []) C X dX8_toWholeFloating_18 lnX8_158 myX8_scale stX8_scale ⟨by decide, by decide⟩ rfl rfl (Nat.le_of_ble_eq_true rfl) (Nat.le_refl _) (Nat.le_refl _) (ctX8_scale e8 ?_)
      show pm_G g 21 [(0, .int p1), (1, .int p2), (2, .long p3)] [.int v7] h 0 0
      refine pm_if_lt (tgt := 26) C dX8_toWholeFloating_21 (by decide) (fun c9 => ?_) (fun c9 => ?_)
      · have hf := pm_it hf c9
        refine pm_iload_n C dX8_toWholeFloating_26 rfl rfl ?_
        refine pm_lload_n C dX8_toWholeFloating_27 rfl rfl ?_
        obtain ⟨v10, e11, hf⟩ := pm_lt hf
        refine pm_callS (as := [.int p1, .long p3]) (st := []) C X dX8_toWholeFloating_28 lnX8_162 myX8_isMinus stX8_isMinus ⟨by decide, by decide⟩ rfl rfl (Nat.le_of_ble_eq_true rfl) (Nat.le_refl _) (Nat.le_refl _) (ctX8_isMinus e11 ?_)
        show pm_G g 31 [(0, .int p1), (1, .int p2), (2, .long p3)] [.int v10] h 0 0
        refine pm_istore (lv' := [(4, .int v10), (0, .int p1), (1, .int p2), (2, .long p3)]) C dX8_toWholeFloating_31 (pm_nl X (by decide)) rfl ?_
        refine pm_iload_n C dX8_toWholeFloating_33 rfl rfl ?_
        refine pm_lload_n C dX8_toWholeFloating_34 rfl rfl ?_
        obtain ⟨v12, e13, hf⟩ := pm_lt hf
        refine pm_callS (as := [.int p1, .long p3]) (st := []) C X dX8_toWholeFloating_35 lnX8_165 myX8_significand stX8_significand ⟨by decide, by decide⟩ rfl rfl (Nat.le_of_ble_eq_true rfl) (Nat.le_refl _) (Nat.le_refl _) (ctX8_significand e13 ?_)
        show pm_G g 38 [(4, .int v10), (0, .int p1), (1, .int p2), (2, .long p3)] [.long v12] h 0 0
        refine pm_lstore (lv' := [(5, .long v12), (4, .int v10), (0, .int p1), (1, .int p2), (2, .long p3)]) C dX8_toWholeFloating_38 (pm_nl X (by decide)) rfl ?_
        refine pm_iload_n C dX8_toWholeFloating_40 rfl rfl ?_
        refine pm_lload_n C dX8_toWholeFloating_41 rfl rfl ?_
        obtain ⟨v14, e15, hf⟩ := pm_lt hf
        refine pm_callS (as := [.int p1, .long p3]) (st := []) C X dX8_toWholeFloating_42 lnX8_158 myX8_scale stX8_scale ⟨by decide, by decide⟩ rfl rfl (Nat.le_of_ble_eq_true rfl) (Nat.le_refl _) (Nat.le_refl _) (ctX8_scale e15 ?_)
        show pm_G g 45 [(5, .long v12), (4, .int v10), (0, .int p1), (1, .int p2), (2, .long p3)] [.int v14] h 0 0
        refine pm_ineg C dX8_toWholeFloating_45 ?_
        refine pm_bipush (v := 54) C dX8_toWholeFloating_46 (by decide) ?_
        refine pm_mminI C (pm_XR X) dX8_toWholeFloating_48 mtX8_13 (by decide) (by decide) (Nat.le_of_ble_eq_true rfl) (Nat.zero_le _) (Nat.zero_le _) ?_
        obtain ⟨y16, e17, hf⟩ := pm_lt hf
        refine pm_topI e17 ?_
        refine pm_istore (lv' := [(7, .int y16), (5, .long v12), (4, .int v10), (0, .int p1), (1, .int p2), (2, .long p3)]) C dX8_toWholeFloating_51 (pm_nl X (by decide)) rfl ?_
        refine pm_lload C dX8_toWholeFloating_53 rfl ?_
        refine pm_iload C dX8_toWholeFloating_55 rfl ?_
        refine pm_lushr C dX8_toWholeFloating_57 ?_
        obtain ⟨y18, e19, hf⟩ := pm_lt hf
        refine pm_topL e19 ?_
        refine pm_lstore (lv' := [(8, .long y18), (7, .int y16), (5, .long v12), (4, .int v10), (0, .int p1), (1, .int p2), (2, .long p3)]) C dX8_toWholeFloating_58 (pm_nl X (by decide)) rfl ?_
        refine pm_lload C dX8_toWholeFloating_60 rfl ?_
        refine pm_lload C dX8_toWholeFloating_62 rfl ?_
        refine pm_iload C dX8_toWholeFloating_64 rfl ?_
        refine pm_lshl C dX8_toWholeFloating_66 ?_
        refine pm_lsub C dX8_toWholeFloating_67 ?_
        obtain ⟨y20, e21, hf⟩ := pm_lt hf
        refine pm_topL e21 ?_
        refine pm_lstore (lv' := [(10, .long y20), (8, .long y18), (7, .int y16), (5, .long v12), (4, .int v10), (0, .int p1), (1, .int p2), (2, .long p3)]) C dX8_toWholeFloating_68 (pm_nl X (by decide)) rfl ?_
        refine pm_lconst (v := 1) C dX8_toWholeFloating_70 (by decide) ?_
        refine pm_iload C dX8_toWholeFloating_71 rfl ?_
        refine pm_iconst (v := 1) C dX8_toWholeFloating_73 (by decide) ?_
        refine pm_isub C dX8_toWholeFloating_74 ?_
        refine pm_lshl C dX8_toWholeFloating_75 ?_
        obtain ⟨y22, e23, hf⟩ := pm_lt hf
        refine pm_topL e23 ?_
        refine pm_lstore (lv' := [(12, .long y22), (10, .long y20), (8, .long y18), (7, .int y16), (5, .long v12), (4, .int v10), (0, .int p1), (1, .int p2), (2, .long p3)]) C dX8_toWholeFloating_76 (pm_nl X (by decide)) rfl ?_
        refine pm_iload_n C dX8_toWholeFloating_78 rfl rfl ?_
        refine pm_iconst (v := 2) C dX8_toWholeFloating_79 (by decide) ?_
        refine pm_icmp_ne (tgt := 88) C dX8_toWholeFloating_80 (by decide) (fun c24 => ?_) (fun c24 => ?_)
        · have hf := pm_ie hf c24
          exact pm_sub [6, 7, 5, 2, 1, 0] rfl (bX8_toWholeFloating_88 C X hf q)
        · have hf := pm_it hf c24
          refine pm_iload C dX8_toWholeFloating_83 rfl ?_
          refine pm_if_eq (tgt := 98) C dX8_toWholeFloating_85 (by decide) (fun c25 => ?_) (fun c25 => ?_)
          · have hf := pm_it hf c25
            exact pm_sub [6, 7, 5, 2, 1, 0] rfl (bX8_toWholeFloating_98 C X hf q)
          · have hf := pm_ie hf c25
            exact pm_sub [6, 7, 5, 2, 1, 0] rfl (bX8_toWholeFloating_88 C X hf q)
      · have hf := pm_ie hf c9
        refine pm_lload_n C dX8_toWholeFloating_24 rfl rfl ?_
        subst hf
        exact pm_lret C X dX8_toWholeFloating_25 rfl (Nat.le_refl _) (Nat.le_refl _) q
theorem dX8_truncated_0 : decode cX8_truncated 0 = .ok (.iload_n 3, 1) := by decide +kernel
theorem dX8_truncated_1 : decode cX8_truncated 1 = .ok (.sipush 200, 3) := by decide +kernel
theorem dX8_truncated_4 : decode cX8_truncated 4 = .ok (.if_icmp .lt 7, 3) := by decide +kernel
theorem dX8_truncated_7 : decode cX8_truncated 7 = .ok (.iconst 1, 1) := by decide +kernel
theorem dX8_truncated_8 : decode cX8_truncated 8 = .ok (.goto 4, 3) := by decide +kernel
theorem dX8_truncated_11 : decode cX8_truncated 11 = .ok (.iconst 0, 1) := by decide +kernel
theorem dX8_truncated_12 : decode cX8_truncated 12 = .ok (.istore 6, 2) := by decide +kernel
theorem dX8_truncated_14 : decode cX8_truncated 14 = .ok (.iload_n 1, 1) := by decide +kernel
theorem dX8_truncated_15 : decode cX8_truncated 15 = .ok (.lload 4, 2) := by decide +kernel
theorem dX8_truncated_17 : decode cX8_truncated 17 = .ok (.invokestatic 74, 3) := by decide +kernel
theorem dX8_truncated_20 : decode cX8_truncated 20 = .ok (.ifCond .eq 15, 3) := by decide +kernel
theorem dX8_truncated_23 : decode cX8_truncated 23 = .ok (.iload 6, 2) := by decide +kernel
theorem dX8_truncated_25 : decode cX8_truncated 25 = .ok (.ifCond .ne 8, 3) := by decide +kernel
theorem dX8_truncated_28 : decode cX8_truncated 28 = .ok (.aload_n 0, 1) := by decide +kernel
theorem dX8_truncated_29 : decode cX8_truncated 29 = .ok (.iconst 4, 1) := by decide +kernel
theorem dX8_truncated_30 : decode cX8_truncated 30 = .ok (.putfield 31, 3) := by decide +kernel
theorem dX8_truncated_33 : decode cX8_truncated 33 = .ok (.lconst 0, 1) := by decide +kernel
theorem dX8_truncated_34 : decode cX8_truncated 34 = .ok (.lreturn, 1) := by decide +kernel
theorem dX8_truncated_35 : decode cX8_truncated 35 = .ok (.iload_n 1, 1) := by decide +kernel
theorem dX8_truncated_36 : decode cX8_truncated 36 = .ok (.lload 4, 2) := by decide +kernel
theorem dX8_truncated_38 : decode cX8_truncated 38 = .ok (.invokestatic 162, 3) := by decide +kernel
theorem dX8_truncated_41 : decode cX8_truncated 41 = .ok (.istore 7, 2) := by decide +kernel
theorem dX8_truncated_43 : decode cX8_truncated 43 = .ok (.iload_n 3, 1) := by decide +kernel
theorem dX8_truncated_44 : decode cX8_truncated 44 = .ok (.iconst 1, 1) := by decide +kernel
theorem dX8_truncated_45 : decode cX8_truncated 45 = .ok (.iand, 1) := by decide +kernel
theorem dX8_truncated_46 : decode cX8_truncated 46 = .ok (.ifCond .ne 7, 3) := by decide +kernel
theorem dX8_truncated_49 : decode cX8_truncated 49 = .ok (.iconst 1, 1) := by decide +kernel
theorem dX8_truncated_50 : decode cX8_truncated 50 = .ok (.goto 4, 3) := by decide +kernel
theorem dX8_truncated_53 : decode cX8_truncated 53 = .ok (.iconst 0, 1) := by decide +kernel
theorem dX8_truncated_54 : decode cX8_truncated 54 = .ok (.istore 8, 2) := by decide +kernel
theorem dX8_truncated_56 : decode cX8_truncated 56 = .ok (.lconst 0, 1) := by decide +kernel
theorem dX8_truncated_57 : decode cX8_truncated 57 = .ok (.lstore 9, 2) := by decide +kernel
theorem dX8_truncated_59 : decode cX8_truncated 59 = .ok (.iload_n 1, 1) := by decide +kernel
theorem dX8_truncated_60 : decode cX8_truncated 60 = .ok (.lload 4, 2) := by decide +kernel
theorem dX8_truncated_62 : decode cX8_truncated 62 = .ok (.invokestatic 155, 3) := by decide +kernel
theorem dX8_truncated_65 : decode cX8_truncated 65 = .ok (.istore 11, 2) := by decide +kernel
theorem dX8_truncated_67 : decode cX8_truncated 67 = .ok (.iload 11, 2) := by decide +kernel
theorem dX8_truncated_69 : decode cX8_truncated 69 = .ok (.ifCond .ne 77, 3) := by decide +kernel
theorem dX8_truncated_72 : decode cX8_truncated 72 = .ok (.iload_n 1, 1) := by decide +kernel
theorem dX8_truncated_73 : decode cX8_truncated 73 = .ok (.lload 4, 2) := by decide +kernel
theorem dX8_truncated_75 : decode cX8_truncated 75 = .ok (.invokestatic 78, 3) := by decide +kernel
theorem dX8_truncated_78 : decode cX8_truncated 78 = .ok (.ifCond .ne 68, 3) := by decide +kernel
theorem dX8_truncated_81 : decode cX8_truncated 81 = .ok (.iload_n 1, 1) := by decide +kernel
theorem dX8_truncated_82 : decode cX8_truncated 82 = .ok (.lload 4, 2) := by decide +kernel
theorem dX8_truncated_84 : decode cX8_truncated 84 = .ok (.invokestatic 158, 3) := by decide +kernel
theorem dX8_truncated_87 : decode cX8_truncated 87 = .ok (.istore 12, 2) := by decide +kernel
theorem dX8_truncated_89 : decode cX8_truncated 89 = .ok (.iload 12, 2) := by decide +kernel
theorem dX8_truncated_91 : decode cX8_truncated 91 = .ok (.bipush 11, 2) := by decide +kernel
theorem dX8_truncated_93 : decode cX8_truncated 93 = .ok (.if_icmp .le 7, 3) := by decide +kernel
theorem dX8_truncated_96 : decode cX8_truncated 96 = .ok (.iconst 1, 1) := by decide +kernel
theorem dX8_truncated_97 : decode cX8_truncated 97 = .ok (.goto 4, 3) := by decide +kernel
theorem dX8_truncated_100 : decode cX8_truncated 100 = .ok (.iconst 0, 1) := by decide +kernel
theorem dX8_truncated_101 : decode cX8_truncated 101 = .ok (.istore 11, 2) := by decide +kernel
theorem dX8_truncated_103 : decode cX8_truncated 103 = .ok (.iload 12, 2) := by decide +kernel
theorem dX8_truncated_105 : decode cX8_truncated 105 = .ok (.ifCond .lt 22, 3) := by decide +kernel
theorem dX8_truncated_108 : decode cX8_truncated 108 = .ok (.iload_n 1, 1) := by decide +kernel
theorem dX8_truncated_109 : decode cX8_truncated 109 = .ok (.lload 4, 2) := by decide +kernel
theorem dX8_truncated_111 : decode cX8_truncated 111 = .ok (.invokestatic 165, 3) := by decide +kernel
theorem dX8_truncated_114 : decode cX8_truncated 114 = .ok (.iload 12, 2) := by decide +kernel
theorem dX8_truncated_116 : decode cX8_truncated 116 = .ok (.bipush 11, 2) := by decide +kernel
theorem dX8_truncated_118 : decode cX8_truncated 118 = .ok (.invokestatic 13, 3) := by decide +kernel
theorem dX8_truncated_121 : decode cX8_truncated 121 = .ok (.lshl, 1) := by decide +kernel
theorem dX8_truncated_122 : decode cX8_truncated 122 = .ok (.lstore 9, 2) := by decide +kernel
theorem dX8_truncated_124 : decode cX8_truncated 124 = .ok (.goto 22, 3) := by decide +kernel
theorem dX8_truncated_127 : decode cX8_truncated 127 = .ok (.iload 12, 2) := by decide +kernel
theorem dX8_truncated_129 : decode cX8_truncated 129 = .ok (.bipush (-64), 2) := by decide +kernel
theorem dX8_truncated_131 : decode cX8_truncated 131 = .ok (.if_icmp .le 15, 3) := by decide +kernel
theorem dX8_truncated_134 : decode cX8_truncated 134 = .ok (.iload_n 1, 1) := by decide +kernel
theorem dX8_truncated_135 : decode cX8_truncated 135 = .ok (.lload 4, 2) := by decide +kernel
theorem dX8_truncated_137 : decode cX8_truncated 137 = .ok (.invokestatic 165, 3) := by decide +kernel
theorem dX8_truncated_140 : decode cX8_truncated 140 = .ok (.iload 12, 2) := by decide +kernel
theorem dX8_truncated_142 : decode cX8_truncated 142 = .ok (.ineg, 1) := by decide +kernel
theorem dX8_truncated_143 : decode cX8_truncated 143 = .ok (.lushr, 1) := by decide +kernel
theorem dX8_truncated_144 : decode cX8_truncated 144 = .ok (.lstore 9, 2) := by decide +kernel
theorem dX8_truncated_146 : decode cX8_truncated 146 = .ok (.iload 8, 2) := by decide +kernel
theorem dX8_truncated_148 : decode cX8_truncated 148 = .ok (.ifCond .eq 23, 3) := by decide +kernel
theorem dX8_truncated_151 : decode cX8_truncated 151 = .ok (.lconst 1, 1) := by decide +kernel
theorem dX8_truncated_152 : decode cX8_truncated 152 = .ok (.iload_n 2, 1) := by decide +kernel
theorem dX8_truncated_153 : decode cX8_truncated 153 = .ok (.iconst 1, 1) := by decide +kernel
theorem dX8_truncated_154 : decode cX8_truncated 154 = .ok (.isub, 1) := by decide +kernel
theorem dX8_truncated_155 : decode cX8_truncated 155 = .ok (.lshl, 1) := by decide +kernel
theorem dX8_truncated_156 : decode cX8_truncated 156 = .ok (.iload 7, 2) := by decide +kernel
theorem dX8_truncated_158 : decode cX8_truncated 158 = .ok (.ifCond .eq 7, 3) := by decide +kernel
theorem dX8_truncated_161 : decode cX8_truncated 161 = .ok (.iconst 0, 1) := by decide +kernel
theorem dX8_truncated_162 : decode cX8_truncated 162 = .ok (.goto 4, 3) := by decide +kernel
theorem dX8_truncated_165 : decode cX8_truncated 165 = .ok (.iconst 1, 1) := by decide +kernel
theorem dX8_truncated_166 : decode cX8_truncated 166 = .ok (.i2l, 1) := by decide +kernel
theorem dX8_truncated_167 : decode cX8_truncated 167 = .ok (.lsub, 1) := by decide +kernel
theorem dX8_truncated_168 : decode cX8_truncated 168 = .ok (.goto 20, 3) := by decide +kernel
theorem dX8_truncated_171 : decode cX8_truncated 171 = .ok (.iload 7, 2) := by decide +kernel
theorem dX8_truncated_173 : decode cX8_truncated 173 = .ok (.ifCond .eq 7, 3) := by decide +kernel
theorem dX8_truncated_176 : decode cX8_truncated 176 = .ok (.lconst 0, 1) := by decide +kernel
theorem dX8_truncated_177 : decode cX8_truncated 177 = .ok (.goto 11, 3) := by decide +kernel
theorem dX8_truncated_180 : decode cX8_truncated 180 = .ok (.ldc2_w 113, 3) := by decide +kernel
theorem dX8_truncated_183 : decode cX8_truncated 183 = .ok (.bipush 64, 2) := by decide +kernel
theorem dX8_truncated_185 : decode cX8_truncated 185 = .ok (.iload_n 2, 1) := by decide +kernel
theorem dX8_truncated_186 : decode cX8_truncated 186 = .ok (.isub, 1) := by decide +kernel
theorem dX8_truncated_187 : decode cX8_truncated 187 = .ok (.lushr, 1) := by decide +kernel
theorem dX8_truncated_188 : decode cX8_truncated 188 = .ok (.lstore 12, 2) := by decide +kernel
theorem dX8_truncated_190 : decode cX8_truncated 190 = .ok (.iload 11, 2) := by decide +kernel
theorem dX8_truncated_192 : decode cX8_truncated 192 = .ok (.ifCond .ne 13, 3) := by decide +kernel
theorem dX8_truncated_195 : decode cX8_truncated 195 = .ok (.lload 9, 2) := by decide +kernel
theorem dX8_truncated_197 : decode cX8_truncated 197 = .ok (.lload 12, 2) := by decide +kernel
theorem dX8_truncated_199 : decode cX8_truncated 199 = .ok (.invokestatic 45, 3) := by decide +kernel
theorem dX8_truncated_202 : decode cX8_truncated 202 = .ok (.ifCond .le 26, 3) := by decide +kernel
theorem dX8_truncated_205 : decode cX8_truncated 205 = .ok (.iload 6, 2) := by decide +kernel
theorem dX8_truncated_207 : decode cX8_truncated 207 = .ok (.ifCond .ne 8, 3) := by decide +kernel
theorem dX8_truncated_210 : decode cX8_truncated 210 = .ok (.aload_n 0, 1) := by decide +kernel
theorem dX8_truncated_211 : decode cX8_truncated 211 = .ok (.iconst 3, 1) := by decide +kernel
theorem dX8_truncated_212 : decode cX8_truncated 212 = .ok (.putfield 31, 3) := by decide +kernel
theorem dX8_truncated_215 : decode cX8_truncated 215 = .ok (.iload 6, 2) := by decide +kernel
theorem dX8_truncated_217 : decode cX8_truncated 217 = .ok (.ifCond .eq 8, 3) := by decide +kernel
theorem dX8_truncated_220 : decode cX8_truncated 220 = .ok (.lload 12, 2) := by decide +kernel
theorem dX8_truncated_222 : decode cX8_truncated 222 = .ok (.goto 4, 3) := by decide +kernel
theorem dX8_truncated_225 : decode cX8_truncated 225 = .ok (.lconst 0, 1) := by decide +kernel
theorem dX8_truncated_226 : decode cX8_truncated 226 = .ok (.lstore 9, 2) := by decide +kernel
theorem dX8_truncated_228 : decode cX8_truncated 228 = .ok (.iload 7, 2) := by decide +kernel
theorem dX8_truncated_230 : decode cX8_truncated 230 = .ok (.ifCond .eq 9, 3) := by decide +kernel
theorem dX8_truncated_233 : decode cX8_truncated 233 = .ok (.lload 9, 2) := by decide +kernel
theorem dX8_truncated_235 : decode cX8_truncated 235 = .ok (.lneg, 1) := by decide +kernel
theorem dX8_truncated_236 : decode cX8_truncated 236 = .ok (.goto 5, 3) := by decide +kernel
theorem dX8_truncated_239 : decode cX8_truncated 239 = .ok (.lload 9, 2) := by decide +kernel
theorem dX8_truncated_241 : decode cX8_truncated 241 = .ok (.ldc2_w 113, 3) := by decide +kernel
theorem dX8_truncated_244 : decode cX8_truncated 244 = .ok (.bipush 64, 2) := by decide +kernel
theorem dX8_truncated_246 : decode cX8_truncated 246 = .ok (.iload_n 2, 1) := by decide +kernel
theorem dX8_truncated_247 : decode cX8_truncated 247 = .ok (.isub, 1) := by decide +kernel
theorem dX8_truncated_248 : decode cX8_truncated 248 = .ok (.lushr, 1) := by decide +kernel
theorem dX8_truncated_249 : decode cX8_truncated 249 = .ok (.land, 1) := by decide +kernel
theorem dX8_truncated_250 : decode cX8_truncated 250 = .ok (.lreturn, 1) := by decide +kernel
def fX8_truncated_b215 (h : pm_H) (x2 : Int32) (x6 : Int32) (x7 : Int32) (x12 : Int64) : Option (Int64 × pm_H) := if x6 = 0 then (if x7 = 0 then (some ((0 &&& ((((-1) : Int64).toUInt64 >>> ((64 - x2).toInt64.toUInt64 &&& Int64.toUInt64 63)).toInt64), h))) else (some (((-(0 : Int64)) &&& ((((-1) : Int64).toUInt64 >>> ((64 - x2).toInt64.toUInt64 &&& Int64.toUInt64 63)).toInt64), h)))) else (if x7 = 0 then (some ((x12 &&& ((((-1) : Int64).toUInt64 >>> ((64 - x2).toInt64.toUInt64 &&& Int64.toUInt64 63)).toInt64), h))) else (some (((-x12) &&& ((((-1) : Int64).toUInt64 >>> ((64 - x2).toInt64.toUInt64 &&& Int64.toUInt64 63)).toInt64), h))))
def fX8_truncated_b205 (h : pm_H) (x0 : Nat) (x2 : Int32) (x6 : Int32) (x7 : Int32) (x12 : Int64) : Option (Int64 × pm_H) := if x6 = 0 then (if pm_kd h x0 = 8 then fX8_truncated_b215 (pm_setI h x0 0 3) x2 x6 x7 x12 else none) else (fX8_truncated_b215 h x2 x6 x7 x12)
def fX8_truncated_b188 (h : pm_H) (x0 : Nat) (x2 : Int32) (x6 : Int32) (x7 : Int32) (x9 : Int64) (x11 : Int32) (s0 : Int64) : Option (Int64 × pm_H) := if x11 = 0 then (pm_let (fX8_compareWithoutSign x9 s0) fun v33 => if v33 ≤ 0 then (if x7 = 0 then (some ((x9 &&& ((((-1) : Int64).toUInt64 >>> ((64 - x2).toInt64.toUInt64 &&& Int64.toUInt64 63)).toInt64), h))) else (some (((-x9) &&& ((((-1) : Int64).toUInt64 >>> ((64 - x2).toInt64.toUInt64 &&& Int64.toUInt64 63)).toInt64), h)))) else (fX8_truncated_b205 h x0 x2 x6 x7 s0)) else (fX8_truncated_b205 h x0 x2 x6 x7 s0)
def fX8_truncated_b146 (h : pm_H) (x0 : Nat) (x2 : Int32) (x6 : Int32) (x7 : Int32) (x8 : Int32) (x9 : Int64) (x11 : Int32) : Option (Int64 × pm_H) := if x8 = 0 then (if x7 = 0 then (fX8_truncated_b188 h x0 x2 x6 x7 x9 x11 ((((-1) : Int64).toUInt64 >>> ((64 - x2).toInt64.toUInt64 &&& Int64.toUInt64 63)).toInt64)) else (fX8_truncated_b188 h x0 x2 x6 x7 x9 x11 0)) else (if x7 = 0 then (fX8_truncated_b188 h x0 x2 x6 x7 x9 x11 (((1 : Int64) <<< ((x2 - 1).toInt64 &&& 63)) - ((1 : Int32).toInt64))) else (fX8_truncated_b188 h x0 x2 x6 x7 x9 x11 (((1 : Int64) <<< ((x2 - 1).toInt64 &&& 63)) - ((0 : Int32).toInt64))))
def fX8_truncated_b101 (h : pm_H) (x0 : Nat) (x1 : Int32) (x2 : Int32) (x4 : Int64) (x6 : Int32) (x7 : Int32) (x8 : Int32) (x9 : Int64) (x12 : Int32) (s0 : Int32) : Option (Int64 × pm_H) := if x12 < 0 then (if x12 ≤ (-64) then (fX8_truncated_b146 h x0 x2 x6 x7 x8 x9 s0) else (pm_let (fX8_significand x1 x4) fun v24 => pm_let ((v24.toUInt64 >>> ((-x12).toInt64.toUInt64 &&& Int64.toUInt64 63)).toInt64) fun y26 => fX8_truncated_b146 h x0 x2 x6 x7 x8 y26 s0)) else (pm_let (fX8_significand x1 x4) fun v28 => pm_let (v28 <<< (((if (11 : Int32) < x12 then (11 : Int32) else x12)).toInt64 &&& 63)) fun y30 => fX8_truncated_b146 h x0 x2 x6 x7 x8 y30 s0)
def fX8_truncated_b54 (h : pm_H) (x0 : Nat) (x1 : Int32) (x2 : Int32) (x4 : Int64) (x6 : Int32) (x7 : Int32) (s0 : Int32) : Option (Int64 × pm_H) := pm_let (fX8_isInfinite x1 x4) fun v10 => if v10 = 0 then (pm_let (fX8_isZero x1 x4) fun v13 => if v13 = 0 then (pm_let (fX8_scale x1 x4) fun v16 => if v16 ≤ 11 then (fX8_truncated_b101 h x0 x1 x2 x4 x6 x7 s0 0 v16 0) else (fX8_truncated_b101 h x0 x1 x2 x4 x6 x7 s0 0 v16 1)) else (fX8_truncated_b146 h x0 x2 x6 x7 s0 0 v10)) else (fX8_truncated_b146 h x0 x2 x6 x7 s0 0 v10)
def fX8_truncated_b12 (h : pm_H) (x0 : Nat) (x1 : Int32) (x2 : Int32) (x3 : Int32) (x4 : Int64) (s0 : Int32) : Option (Int64 × pm_H) := pm_let (fX8_isNone x1 x4) fun v2 => if v2 = 0 then (pm_let (fX8_isMinus x1 x4) fun v5 => if (x3 &&& 1) = 0 then (fX8_truncated_b54 h x0 x1 x2 x4 s0 v5 1) else (fX8_truncated_b54 h x0 x1 x2 x4 s0 v5 0)) else (if s0 = 0 then (if pm_kd h x0 = 8 then some ((0, pm_setI h x0 0 4)) else none) else (some ((0, h))))
def fX8_truncated (h : pm_H) (a0 : Nat) (p1 : Int32) (p2 : Int32) (p3 : Int32) (p4 : Int64) : Option (Int64 × pm_H) := if p3 < 200 then (fX8_truncated_b12 h a0 p1 p2 p3 p4 0) else (fX8_truncated_b12 h a0 p1 p2 p3 p4 1)
set_option maxHeartbeats 4000000 in
set_option maxRecDepth 100000 in
theorem bX8_truncated_215 {g : pm_Gm} {l : Launch} {G : pm_Gl} {Qr : Option Value → pm_H → Prop} (C : pm_C g cX8_truncated RX8) (X : pm_X g l G mX8_truncated 0 0 Qr) {h : pm_H} {x2 : Int32} {x6 : Int32} {x7 : Int32} {x12 : Int64} {r : (Int64 × pm_H)} (hf : fX8_truncated_b215 h x2 x6 x7 x12 = some r) (q : Qr (some (.long r.1)) r.2) : pm_G g 215 [(2, .int x2), (6, .int x6), (7, .int x7), (12, .long x12)] [] h 0 0 := by
  unfold fX8_truncated_b215 at hf
  refine pm_iload C dX8_truncated_215 rfl ?_
  refine pm_if_eq (tgt := 225) C dX8_truncated_217 (by decide) (fun c39 => ?_) (fun c39 => ?_)
  · have hf := pm_it hf c39
    refine pm_lconst (v := 0) C dX8_truncated_225 (by decide) ?_
    refine pm_lstore (lv' := [(9, .long 0), (2, .int x2), (6, .int x6), (7, .int x7), (12, .long x12)]) C dX8_truncated_226 (pm_nl X (by decide)) rfl ?_
    refine pm_iload C dX8_truncated_228 rfl ?_
    refine pm_if_eq (tgt := 239) C dX8_truncated_230 (by decide) (fun c40 => ?_) (fun c40 => ?_)
    · have hf := pm_it hf c40
      refine pm_lload C dX8_truncated_239 rfl ?_
      refine pm_ldc2 C dX8_truncated_241 cnX8_113 ?_
      refine pm_bipush (v := 64) C dX8_truncated_244 (by decide) ?_
      refine pm_iload_n C dX8_truncated_246 rfl rfl ?_
      refine pm_isub C dX8_truncated_247 ?_
      refine pm_lushr C dX8_truncated_248 ?_
      refine pm_land C dX8_truncated_249 ?_
      cases hf
      exact pm_lret C X dX8_truncated_250 rfl (Nat.le_refl _) (Nat.le_refl _) q
    · have hf := pm_ie hf c40
      refine pm_lload C dX8_truncated_233 rfl ?_
      refine pm_lneg C dX8_truncated_235 ?_
      refine pm_goto (tgt := 241) C dX8_truncated_236 (by decide) ?_
      refine pm_ldc2 C dX8_truncated_241 cnX8_113 ?_
      refine pm_bipush (v := 64) C dX8_truncated_244 (by decide) ?_
      refine pm_iload_n C dX8_truncated_246 rfl rfl ?_
      refine pm_isub C dX8_truncated_247 ?_
      refine pm_lushr C dX8_truncated_248 ?_
      refine pm_land C dX8_truncated_249 ?_
      cases hf
      exact pm_lret C X dX8_truncated_250 rfl (Nat.le_refl _) (Nat.le_refl _) q
  · have hf := pm_ie hf c39
    refine pm_lload C dX8_truncated_220 rfl ?_
    refine pm_goto (tgt := 226) C dX8_truncated_222 (by decide) ?_
    refine pm_lstore (lv' := [(9, .long x12), (2, .int x2), (6, .int x6), (7, .int x7), (12, .long x12)]) C dX8_truncated_226 (pm_nl X (by decide)) rfl ?_
    refine pm_iload C dX8_truncated_228 rfl ?_
    refine pm_if_eq (tgt := 239) C dX8_truncated_230 (by decide) (fun c41 => ?_) (fun c41 => ?_)
    · have hf := pm_it hf c41
      refine pm_lload C dX8_truncated_239 rfl ?_
      refine pm_ldc2 C dX8_truncated_241 cnX8_113 ?_
      refine pm_bipush (v := 64) C dX8_truncated_244 (by decide) ?_
      refine pm_iload_n C dX8_truncated_246 rfl rfl ?_
      refine pm_isub C dX8_truncated_247 ?_
      refine pm_lushr C dX8_truncated_248 ?_
      refine pm_land C dX8_truncated_249 ?_
      cases hf
      exact pm_lret C X dX8_truncated_250 rfl (Nat.le_refl _) (Nat.le_refl _) q
    · have hf := pm_ie hf c41
      refine pm_lload C dX8_truncated_233 rfl ?_
      refine pm_lneg C dX8_truncated_235 ?_
      refine pm_goto (tgt := 241) C dX8_truncated_236 (by decide) ?_
      refine pm_ldc2 C dX8_truncated_241 cnX8_113 ?_
      refine pm_bipush (v := 64) C dX8_truncated_244 (by decide) ?_
      refine pm_iload_n C dX8_truncated_246 rfl rfl ?_
      refine pm_isub C dX8_truncated_247 ?_
      refine pm_lushr C dX8_truncated_248 ?_
      refine pm_land C dX8_truncated_249 ?_
      cases hf
      exact pm_lret C X dX8_truncated_250 rfl (Nat.le_refl _) (Nat.le_refl _) q
set_option maxHeartbeats 4000000 in
set_option maxRecDepth 100000 in
theorem bX8_truncated_205 {g : pm_Gm} {l : Launch} {G : pm_Gl} {Qr : Option Value → pm_H → Prop} (C : pm_C g cX8_truncated RX8) (X : pm_X g l G mX8_truncated 0 0 Qr) {h : pm_H} {x0 : Nat} {x2 : Int32} {x6 : Int32} {x7 : Int32} {x12 : Int64} {r : (Int64 × pm_H)} (hf : fX8_truncated_b205 h x0 x2 x6 x7 x12 = some r) (q : Qr (some (.long r.1)) r.2) : pm_G g 205 [(0, .ref x0), (2, .int x2), (6, .int x6), (7, .int x7), (12, .long x12)] [] h 0 0 := by
  unfold fX8_truncated_b205 at hf
  refine pm_iload C dX8_truncated_205 rfl ?_
  refine pm_if_ne (tgt := 215) C dX8_truncated_207 (by decide) (fun c37 => ?_) (fun c37 => ?_)
  · have hf := pm_ie hf c37
    exact pm_sub [1, 2, 3, 4] rfl (bX8_truncated_215 C X hf q)
  · have hf := pm_it hf c37
    refine pm_aload_n C dX8_truncated_210 rfl rfl ?_
    refine pm_iconst (v := 3) C dX8_truncated_211 (by decide) ?_
    obtain ⟨k38, hf⟩ := pm_if hf
    refine pm_putI C dX8_truncated_212 flX8_31 rfl rfl k38 rfl rfl ?_
    exact pm_sub [1, 2, 3, 4] rfl (bX8_truncated_215 C X hf q)
set_option maxHeartbeats 4000000 in
set_option maxRecDepth 100000 in
theorem bX8_truncated_188 {g : pm_Gm} {l : Launch} {G : pm_Gl} {Qr : Option Value → pm_H → Prop} (C : pm_C g cX8_truncated RX8) (X : pm_X g l G mX8_truncated 0 0 Qr) {h : pm_H} {x0 : Nat} {x2 : Int32} {x6 : Int32} {x7 : Int32} {x9 : Int64} {x11 : Int32} {s0 : Int64} {r : (Int64 × pm_H)} (hf : fX8_truncated_b188 h x0 x2 x6 x7 x9 x11 s0 = some r) (q : Qr (some (.long r.1)) r.2) : pm_G g 188 [(0, .ref x0), (2, .int x2), (6, .int x6), (7, .int x7), (9, .long x9), (11, .int x11)] [.long s0] h 0 0 := by
  unfold fX8_truncated_b188 at hf
  refine pm_lstore (lv' := [(12, .long s0), (0, .ref x0), (2, .int x2), (6, .int x6), (7, .int x7), (9, .long x9), (11, .int x11)]) C dX8_truncated_188 (pm_nl X (by decide)) rfl ?_
  refine pm_iload C dX8_truncated_190 rfl ?_
  refine pm_if_ne (tgt := 205) C dX8_truncated_192 (by decide) (fun c32 => ?_) (fun c32 => ?_)
  · have hf := pm_ie hf c32
    exact pm_sub [1, 2, 3, 4, 0] rfl (bX8_truncated_205 C X hf q)
  · have hf := pm_it hf c32
    refine pm_lload C dX8_truncated_195 rfl ?_
    refine pm_lload C dX8_truncated_197 rfl ?_
    obtain ⟨v33, e34, hf⟩ := pm_lt hf
    refine pm_callS (as := [.long x9, .long s0]) (st := []) C X dX8_truncated_199 lnX8_45 myX8_compareWithoutSign stX8_compareWithoutSign ⟨by decide, by decide⟩ rfl rfl (Nat.le_of_ble_eq_true rfl) (Nat.le_refl _) (Nat.le_refl _) (ctX8_compareWithoutSign e34 ?_)
    show pm_G g 202 [(12, .long s0), (0, .ref x0), (2, .int x2), (6, .int x6), (7, .int x7), (9, .long x9), (11, .int x11)] [.int v33] h 0 0
    refine pm_if_le (tgt := 228) C dX8_truncated_202 (by decide) (fun c35 => ?_) (fun c35 => ?_)
    · have hf := pm_it hf c35
      refine pm_iload C dX8_truncated_228 rfl ?_
      refine pm_if_eq (tgt := 239) C dX8_truncated_230 (by decide) (fun c36 => ?_) (fun c36 => ?_)
      · have hf := pm_it hf c36
        refine pm_lload C dX8_truncated_239 rfl ?_
        refine pm_ldc2 C dX8_truncated_241 cnX8_113 ?_
        refine pm_bipush (v := 64) C dX8_truncated_244 (by decide) ?_
        refine pm_iload_n C dX8_truncated_246 rfl rfl ?_
        refine pm_isub C dX8_truncated_247 ?_
        refine pm_lushr C dX8_truncated_248 ?_
        refine pm_land C dX8_truncated_249 ?_
        cases hf
        exact pm_lret C X dX8_truncated_250 rfl (Nat.le_refl _) (Nat.le_refl _) q
      · have hf := pm_ie hf c36
        refine pm_lload C dX8_truncated_233 rfl ?_
        refine pm_lneg C dX8_truncated_235 ?_
        refine pm_goto (tgt := 241) C dX8_truncated_236 (by decide) ?_
        refine pm_ldc2 C dX8_truncated_241 cnX8_113 ?_
        refine pm_bipush (v := 64) C dX8_truncated_244 (by decide) ?_
        refine pm_iload_n C dX8_truncated_246 rfl rfl ?_
        refine pm_isub C dX8_truncated_247 ?_
        refine pm_lushr C dX8_truncated_248 ?_
        refine pm_land C dX8_truncated_249 ?_
        cases hf
        exact pm_lret C X dX8_truncated_250 rfl (Nat.le_refl _) (Nat.le_refl _) q
    · have hf := pm_ie hf c35
      exact pm_sub [1, 2, 3, 4, 0] rfl (bX8_truncated_205 C X hf q)
set_option maxHeartbeats 4000000 in
set_option maxRecDepth 100000 in
theorem bX8_truncated_146 {g : pm_Gm} {l : Launch} {G : pm_Gl} {Qr : Option Value → pm_H → Prop} (C : pm_C g cX8_truncated RX8) (X : pm_X g l G mX8_truncated 0 0 Qr) {h : pm_H} {x0 : Nat} {x2 : Int32} {x6 : Int32} {x7 : Int32} {x8 : Int32} {x9 : Int64} {x11 : Int32} {r : (Int64 × pm_H)} (hf : fX8_truncated_b146 h x0 x2 x6 x7 x8 x9 x11 = some r) (q : Qr (some (.long r.1)) r.2) : pm_G g 146 [(0, .ref x0), (2, .int x2), (6, .int x6), (7, .int x7), (8, .int x8), (9, .long x9), (11, .int x11)] [] h 0 0 := by
  unfold fX8_truncated_b146 at hf
  refine pm_iload C dX8_truncated_146 rfl ?_
  refine pm_if_eq (tgt := 171) C dX8_truncated_148 (by decide) (fun c19 => ?_) (fun c19 => ?_)
  · have hf := pm_it hf c19
    refine pm_iload C dX8_truncated_171 rfl ?_
    refine pm_if_eq (tgt := 180) C dX8_truncated_173 (by decide) (fun c20 => ?_) (fun c20 => ?_)
    · have hf := pm_it hf c20
      refine pm_ldc2 C dX8_truncated_180 cnX8_113 ?_
      refine pm_bipush (v := 64) C dX8_truncated_183 (by decide) ?_
      refine pm_iload_n C dX8_truncated_185 rfl rfl ?_
      refine pm_isub C dX8_truncated_186 ?_
      refine pm_lushr C dX8_truncated_187 ?_
      exact pm_sub [0, 1, 2, 3, 5, 6] rfl (bX8_truncated_188 C X hf q)
    · have hf := pm_ie hf c20
      refine pm_lconst (v := 0) C dX8_truncated_176 (by decide) ?_
      refine pm_goto (tgt := 188) C dX8_truncated_177 (by decide) ?_
      exact pm_sub [0, 1, 2, 3, 5, 6] rfl (bX8_truncated_188 C X hf q)
  · have hf := pm_ie hf c19
    refine pm_lconst (v := 1) C dX8_truncated_151 (by decide) ?_
    refine pm_iload_n C dX8_truncated_152 rfl rfl ?_
    refine pm_iconst (v := 1) C dX8_truncated_153 (by decide) ?_
    refine pm_isub C dX8_truncated_154 ?_
    refine pm_lshl C dX8_truncated_155 ?_
    refine pm_iload C dX8_truncated_156 rfl ?_
    refine pm_if_eq (tgt := 165) C dX8_truncated_158 (by decide) (fun c21 => ?_) (fun c21 => ?_)
    · have hf := pm_it hf c21
      refine pm_iconst (v := 1) C dX8_truncated_165 (by decide) ?_
      refine pm_i2l C dX8_truncated_166 ?_
      refine pm_lsub C dX8_truncated_167 ?_
      refine pm_goto (tgt := 188) C dX8_truncated_168 (by decide) ?_
      exact pm_sub [0, 1, 2, 3, 5, 6] rfl (bX8_truncated_188 C X hf q)
    · have hf := pm_ie hf c21
      refine pm_iconst (v := 0) C dX8_truncated_161 (by decide) ?_
      refine pm_goto (tgt := 166) C dX8_truncated_162 (by decide) ?_
      refine pm_i2l C dX8_truncated_166 ?_
      refine pm_lsub C dX8_truncated_167 ?_
      refine pm_goto (tgt := 188) C dX8_truncated_168 (by decide) ?_
      exact pm_sub [0, 1, 2, 3, 5, 6] rfl (bX8_truncated_188 C X hf q)
set_option maxHeartbeats 4000000 in
set_option maxRecDepth 100000 in
theorem bX8_truncated_101 {g : pm_Gm} {l : Launch} {G : pm_Gl} {Qr : Option Value → pm_H → Prop} (C : pm_C g cX8_truncated RX8) (X : pm_X g l G mX8_truncated 0 0 Qr) {h : pm_H} {x0 : Nat} {x1 : Int32} {x2 : Int32} {x4 : Int64} {x6 : Int32} {x7 : Int32} {x8 : Int32} {x9 : Int64} {x12 : Int32} {s0 : Int32} {r : (Int64 × pm_H)} (hf : fX8_truncated_b101 h x0 x1 x2 x4 x6 x7 x8 x9 x12 s0 = some r) (q : Qr (some (.long r.1)) r.2) : pm_G g 101 [(0, .ref x0), (1, .int x1), (2, .int x2), (4, .long x4), (6, .int x6), (7, .int x7), (8, .int x8), (9, .long x9), (12, .int x12)] [.int s0] h 0 0 := by
  unfold fX8_truncated_b101 at hf
  refine pm_istore (lv' := [(11, .int s0), (0, .ref x0), (1, .int x1), (2, .int x2), (4, .long x4), (6, .int x6), (7, .int x7), (8, .int x8), (9, .long x9), (12, .int x12)]) C dX8_truncated_101 (pm_nl X (by decide)) rfl ?_
  refine pm_iload C dX8_truncated_103 rfl ?_
  refine pm_if_lt (tgt := 127) C dX8_truncated_105 (by decide) (fun c22 => ?_) (fun c22 => ?_)
  · have hf := pm_it hf c22
    refine pm_iload C dX8_truncated_127 rfl ?_
    refine pm_bipush (v := (-64)) C dX8_truncated_129 (by decide) ?_
    refine pm_icmp_le (tgt := 146) C dX8_truncated_131 (by decide) (fun c23 => ?_) (fun c23 => ?_)
    · have hf := pm_it hf c23
      exact pm_sub [1, 3, 5, 6, 7, 8, 0] rfl (bX8_truncated_146 C X hf q)
    · have hf := pm_ie hf c23
      refine pm_iload_n C dX8_truncated_134 rfl rfl ?_
      refine pm_lload C dX8_truncated_135 rfl ?_
      obtain ⟨v24, e25, hf⟩ := pm_lt hf
      refine pm_callS (as := [.int x1, .long x4]) (st := []) C X dX8_truncated_137 lnX8_165 myX8_significand stX8_significand ⟨by decide, by decide⟩ rfl rfl (Nat.le_of_ble_eq_true rfl) (Nat.le_refl _) (Nat.le_refl _) (ctX8_significand e25 ?_)
      show pm_G g 140 [(11, .int s0), (0, .ref x0), (1, .int x1), (2, .int x2), (4, .long x4), (6, .int x6), (7, .int x7), (8, .int x8), (9, .long x9), (12, .int x12)] [.long v24] h 0 0
      refine pm_iload C dX8_truncated_140 rfl ?_
      refine pm_ineg C dX8_truncated_142 ?_
      refine pm_lushr C dX8_truncated_143 ?_
      obtain ⟨y26, e27, hf⟩ := pm_lt hf
      refine pm_topL e27 ?_
      refine pm_lstore (lv' := [(9, .long y26), (11, .int s0), (0, .ref x0), (1, .int x1), (2, .int x2), (4, .long x4), (6, .int x6), (7, .int x7), (8, .int x8), (12, .int x12)]) C dX8_truncated_144 (pm_nl X (by decide)) rfl ?_
      exact pm_sub [2, 4, 6, 7, 8, 0, 1] rfl (bX8_truncated_146 C X hf q)
  · have hf := pm_ie hf c22
    refine pm_iload_n C dX8_truncated_108 rfl rfl ?_
    refine pm_lload C dX8_truncated_109 rfl ?_
    obtain ⟨v28, e29, hf⟩ := pm_lt hf
    refine pm_callS (as := [.int x1, .long x4]) (st := []) C X dX8_truncated_111 lnX8_165 myX8_significand stX8_significand ⟨by decide, by decide⟩ rfl rfl (Nat.le_of_ble_eq_true rfl) (Nat.le_refl _) (Nat.le_refl _) (ctX8_significand e29 ?_)
    show pm_G g 114 [(11, .int s0), (0, .ref x0), (1, .int x1), (2, .int x2), (4, .long x4), (6, .int x6), (7, .int x7), (8, .int x8), (9, .long x9), (12, .int x12)] [.long v28] h 0 0
    refine pm_iload C dX8_truncated_114 rfl ?_
    refine pm_bipush (v := 11) C dX8_truncated_116 (by decide) ?_
    refine pm_mminI C (pm_XR X) dX8_truncated_118 mtX8_13 (by decide) (by decide) (Nat.le_of_ble_eq_true rfl) (Nat.zero_le _) (Nat.zero_le _) ?_
    refine pm_lshl C dX8_truncated_121 ?_
    obtain ⟨y30, e31, hf⟩ := pm_lt hf
    refine pm_topL e31 ?_
    refine pm_lstore (lv' := [(9, .long y30), (11, .int s0), (0, .ref x0), (1, .int x1), (2, .int x2), (4, .long x4), (6, .int x6), (7, .int x7), (8, .int x8), (12, .int x12)]) C dX8_truncated_122 (pm_nl X (by decide)) rfl ?_
    refine pm_goto (tgt := 146) C dX8_truncated_124 (by decide) ?_
    exact pm_sub [2, 4, 6, 7, 8, 0, 1] rfl (bX8_truncated_146 C X hf q)
set_option maxHeartbeats 4000000 in
set_option maxRecDepth 100000 in
theorem bX8_truncated_54 {g : pm_Gm} {l : Launch} {G : pm_Gl} {Qr : Option Value → pm_H → Prop} (C : pm_C g cX8_truncated RX8) (X : pm_X g l G mX8_truncated 0 0 Qr) {h : pm_H} {x0 : Nat} {x1 : Int32} {x2 : Int32} {x4 : Int64} {x6 : Int32} {x7 : Int32} {s0 : Int32} {r : (Int64 × pm_H)} (hf : fX8_truncated_b54 h x0 x1 x2 x4 x6 x7 s0 = some r) (q : Qr (some (.long r.1)) r.2) : pm_G g 54 [(0, .ref x0), (1, .int x1), (2, .int x2), (4, .long x4), (6, .int x6), (7, .int x7)] [.int s0] h 0 0 := by
  unfold fX8_truncated_b54 at hf
  refine pm_istore (lv' := [(8, .int s0), (0, .ref x0), (1, .int x1), (2, .int x2), (4, .long x4), (6, .int x6), (7, .int x7)]) C dX8_truncated_54 (pm_nl X (by decide)) rfl ?_
  refine pm_lconst (v := 0) C dX8_truncated_56 (by decide) ?_
  refine pm_lstore (lv' := [(9, .long 0), (8, .int s0), (0, .ref x0), (1, .int x1), (2, .int x2), (4, .long x4), (6, .int x6), (7, .int x7)]) C dX8_truncated_57 (pm_nl X (by decide)) rfl ?_
  refine pm_iload_n C dX8_truncated_59 rfl rfl ?_
  refine pm_lload C dX8_truncated_60 rfl ?_
  obtain ⟨v10, e11, hf⟩ := pm_lt hf
  refine pm_callS (as := [.int x1, .long x4]) (st := []) C X dX8_truncated_62 lnX8_155 myX8_isInfinite stX8_isInfinite ⟨by decide, by decide⟩ rfl rfl (Nat.le_of_ble_eq_true rfl) (Nat.le_refl _) (Nat.le_refl _) (ctX8_isInfinite e11 ?_)
  show pm_G g 65 [(9, .long 0), (8, .int s0), (0, .ref x0), (1, .int x1), (2, .int x2), (4, .long x4), (6, .int x6), (7, .int x7)] [.int v10] h 0 0
  refine pm_istore (lv' := [(11, .int v10), (9, .long 0), (8, .int s0), (0, .ref x0), (1, .int x1), (2, .int x2), (4, .long x4), (6, .int x6), (7, .int x7)]) C dX8_truncated_65 (pm_nl X (by decide)) rfl ?_
  refine pm_iload C dX8_truncated_67 rfl ?_
  refine pm_if_ne (tgt := 146) C dX8_truncated_69 (by decide) (fun c12 => ?_) (fun c12 => ?_)
  · have hf := pm_ie hf c12
    exact pm_sub [3, 5, 7, 8, 2, 1, 0] rfl (bX8_truncated_146 C X hf q)
  · have hf := pm_it hf c12
    refine pm_iload_n C dX8_truncated_72 rfl rfl ?_
    refine pm_lload C dX8_truncated_73 rfl ?_
    obtain ⟨v13, e14, hf⟩ := pm_lt hf
    refine pm_callS (as := [.int x1, .long x4]) (st := []) C X dX8_truncated_75 lnX8_78 myX8_isZero stX8_isZero ⟨by decide, by decide⟩ rfl rfl (Nat.le_of_ble_eq_true rfl) (Nat.le_refl _) (Nat.le_refl _) (ctX8_isZero e14 ?_)
    show pm_G g 78 [(11, .int v10), (9, .long 0), (8, .int s0), (0, .ref x0), (1, .int x1), (2, .int x2), (4, .long x4), (6, .int x6), (7, .int x7)] [.int v13] h 0 0
    refine pm_if_ne (tgt := 146) C dX8_truncated_78 (by decide) (fun c15 => ?_) (fun c15 => ?_)
    · have hf := pm_ie hf c15
      exact pm_sub [3, 5, 7, 8, 2, 1, 0] rfl (bX8_truncated_146 C X hf q)
    · have hf := pm_it hf c15
      refine pm_iload_n C dX8_truncated_81 rfl rfl ?_
      refine pm_lload C dX8_truncated_82 rfl ?_
      obtain ⟨v16, e17, hf⟩ := pm_lt hf
      refine pm_callS (as := [.int x1, .long x4]) (st := []) C X dX8_truncated_84 lnX8_158 myX8_scale stX8_scale ⟨by decide, by decide⟩ rfl rfl (Nat.le_of_ble_eq_true rfl) (Nat.le_refl _) (Nat.le_refl _) (ctX8_scale e17 ?_)
      show pm_G g 87 [(11, .int v10), (9, .long 0), (8, .int s0), (0, .ref x0), (1, .int x1), (2, .int x2), (4, .long x4), (6, .int x6), (7, .int x7)] [.int v16] h 0 0
      refine pm_istore (lv' := [(12, .int v16), (11, .int v10), (9, .long 0), (8, .int s0), (0, .ref x0), (1, .int x1), (2, .int x2), (4, .long x4), (6, .int x6), (7, .int x7)]) C dX8_truncated_87 (pm_nl X (by decide)) rfl ?_
      refine pm_iload C dX8_truncated_89 rfl ?_
      refine pm_bipush (v := 11) C dX8_truncated_91 (by decide) ?_
      refine pm_icmp_le (tgt := 100) C dX8_truncated_93 (by decide) (fun c18 => ?_) (fun c18 => ?_)
      · have hf := pm_it hf c18
        refine pm_iconst (v := 0) C dX8_truncated_100 (by decide) ?_
        exact pm_sub [4, 5, 6, 7, 8, 9, 3, 2, 0] rfl (bX8_truncated_101 C X hf q)
      · have hf := pm_ie hf c18
        refine pm_iconst (v := 1) C dX8_truncated_96 (by decide) ?_
        refine pm_goto (tgt := 101) C dX8_truncated_97 (by decide) ?_
        exact pm_sub [4, 5, 6, 7, 8, 9, 3, 2, 0] rfl (bX8_truncated_101 C X hf q)
set_option maxHeartbeats 4000000 in
set_option maxRecDepth 100000 in
theorem bX8_truncated_12 {g : pm_Gm} {l : Launch} {G : pm_Gl} {Qr : Option Value → pm_H → Prop} (C : pm_C g cX8_truncated RX8) (X : pm_X g l G mX8_truncated 0 0 Qr) {h : pm_H} {x0 : Nat} {x1 : Int32} {x2 : Int32} {x3 : Int32} {x4 : Int64} {s0 : Int32} {r : (Int64 × pm_H)} (hf : fX8_truncated_b12 h x0 x1 x2 x3 x4 s0 = some r) (q : Qr (some (.long r.1)) r.2) : pm_G g 12 [(0, .ref x0), (1, .int x1), (2, .int x2), (3, .int x3), (4, .long x4)] [.int s0] h 0 0 := by
  unfold fX8_truncated_b12 at hf
  refine pm_istore (lv' := [(6, .int s0), (0, .ref x0), (1, .int x1), (2, .int x2), (3, .int x3), (4, .long x4)]) C dX8_truncated_12 (pm_nl X (by decide)) rfl ?_
  refine pm_iload_n C dX8_truncated_14 rfl rfl ?_
  refine pm_lload C dX8_truncated_15 rfl ?_
  obtain ⟨v2, e3, hf⟩ := pm_lt hf
  refine pm_callS (as := [.int x1, .long x4]) (st := []) C X dX8_truncated_17 lnX8_74 myX8_isNone stX8_isNone ⟨by decide, by decide⟩ rfl rfl (Nat.le_of_ble_eq_true rfl) (Nat.le_refl _) (Nat.le_refl _) (ctX8_isNone e3 ?_)
  show pm_G g 20 [(6, .int s0), (0, .ref x0), (1, .int x1), (2, .int x2), (3, .int x3), (4, .long x4)] [.int v2] h 0 0
  refine pm_if_eq (tgt := 35) C dX8_truncated_20 (by decide) (fun c4 => ?_) (fun c4 => ?_)
  · have hf := pm_it hf c4
    refine pm_iload_n C dX8_truncated_35 rfl rfl ?_
    refine pm_lload C dX8_truncated_36 rfl ?_
    obtain ⟨v5, e6, hf⟩ := pm_lt hf
    refine pm_callS (as := [.int x1, .long x4]) (st := []) C X dX8_truncated_38 lnX8_162 myX8_isMinus stX8_isMinus ⟨by decide, by decide⟩ rfl rfl (Nat.le_of_ble_eq_true rfl) (Nat.le_refl _) (Nat.le_refl _) (ctX8_isMinus e6 ?_)
    show pm_G g 41 [(6, .int s0), (0, .ref x0), (1, .int x1), (2, .int x2), (3, .int x3), (4, .long x4)] [.int v5] h 0 0
    refine pm_istore (lv' := [(7, .int v5), (6, .int s0), (0, .ref x0), (1, .int x1), (2, .int x2), (3, .int x3), (4, .long x4)]) C dX8_truncated_41 (pm_nl X (by decide)) rfl ?_
    refine pm_iload_n C dX8_truncated_43 rfl rfl ?_
    refine pm_iconst (v := 1) C dX8_truncated_44 (by decide) ?_
    refine pm_iand C dX8_truncated_45 ?_
    refine pm_if_ne (tgt := 53) C dX8_truncated_46 (by decide) (fun c7 => ?_) (fun c7 => ?_)
    · have hf := pm_ie hf c7
      refine pm_iconst (v := 0) C dX8_truncated_53 (by decide) ?_
      exact pm_sub [2, 3, 4, 6, 1, 0] rfl (bX8_truncated_54 C X hf q)
    · have hf := pm_it hf c7
      refine pm_iconst (v := 1) C dX8_truncated_49 (by decide) ?_
      refine pm_goto (tgt := 54) C dX8_truncated_50 (by decide) ?_
      exact pm_sub [2, 3, 4, 6, 1, 0] rfl (bX8_truncated_54 C X hf q)
  · have hf := pm_ie hf c4
    refine pm_iload C dX8_truncated_23 rfl ?_
    refine pm_if_ne (tgt := 33) C dX8_truncated_25 (by decide) (fun c8 => ?_) (fun c8 => ?_)
    · have hf := pm_ie hf c8
      refine pm_lconst (v := 0) C dX8_truncated_33 (by decide) ?_
      cases hf
      exact pm_lret C X dX8_truncated_34 rfl (Nat.le_refl _) (Nat.le_refl _) q
    · have hf := pm_it hf c8
      refine pm_aload_n C dX8_truncated_28 rfl rfl ?_
      refine pm_iconst (v := 4) C dX8_truncated_29 (by decide) ?_
      obtain ⟨k9, hf⟩ := pm_if hf
      refine pm_putI C dX8_truncated_30 flX8_31 rfl rfl k9 rfl rfl ?_
      refine pm_lconst (v := 0) C dX8_truncated_33 (by decide) ?_
      cases hf
      exact pm_lret C X dX8_truncated_34 rfl (Nat.le_refl _) (Nat.le_refl _) q
set_option maxHeartbeats 4000000 in
set_option maxRecDepth 100000 in
theorem ctX8_truncated {l : Launch} {G : pm_Gl} {h : pm_H} {a0 : Nat} {p1 : Int32} {p2 : Int32} {p3 : Int32} {p4 : Int64} {r : (Int64 × pm_H)} {Qr : Option Value → pm_H → Prop} (hf : fX8_truncated h a0 p1 p2 p3 p4 = some r) (q : Qr (some (.long r.1)) r.2) : pm_Ct l G mX8_truncated [.ref a0, .int p1, .int p2, .int p3, .long p4] h 0 0 Qr := by
  refine pm_body pnX8 (Nat.le_of_ble_eq_true rfl) (fun g C X => ?_)
  have C : pm_C g cX8_truncated RX8 := C
  show pm_G g 0 [(0, .ref a0), (1, .int p1), (2, .int p2), (3, .int p3), (4, .long p4)] [] h 0 0
  unfold fX8_truncated at hf
  refine pm_iload_n C dX8_truncated_0 rfl rfl ?_
  refine pm_sipush (v := 200) C dX8_truncated_1 (by decide) ?_
  refine pm_icmp_lt (tgt := 11) C dX8_truncated_4 (by decide) (fun c1 => ?_) (fun c1 => ?_)
  · have hf := pm_it hf c1
    refine pm_iconst (v := 0) C dX8_truncated_11 (by decide) ?_
    exact pm_sub [0, 1, 2, 3, 4] rfl (bX8_truncated_12 C X hf q)
  · have hf := pm_ie hf c1
    refine pm_iconst (v := 1) C dX8_truncated_7 (by decide) ?_
    refine pm_goto (tgt := 12) C dX8_truncated_8 (by decide) ?_
    exact pm_sub [0, 1, 2, 3, 4] rfl (bX8_truncated_12 C X hf q)
theorem dX9_number_0 : decode cX9_number 0 = .ok (.iload_n 1, 1) := by decide +kernel
theorem dX9_number_1 : decode cX9_number 1 = .ok (.invokestatic 90, 3) := by decide +kernel
theorem dX9_number_4 : decode cX9_number 4 = .ok (.istore_n 2, 1) := by decide +kernel
theorem dX9_number_5 : decode cX9_number 5 = .ok (.lconst 0, 1) := by decide +kernel
theorem dX9_number_6 : decode cX9_number 6 = .ok (.lstore_n 3, 1) := by decide +kernel
theorem dX9_number_7 : decode cX9_number 7 = .ok (.iconst 0, 1) := by decide +kernel
theorem dX9_number_8 : decode cX9_number 8 = .ok (.istore 5, 2) := by decide +kernel
theorem dX9_number_10 : decode cX9_number 10 = .ok (.iload 5, 2) := by decide +kernel
theorem dX9_number_12 : decode cX9_number 12 = .ok (.iload_n 2, 1) := by decide +kernel
theorem dX9_number_13 : decode cX9_number 13 = .ok (.if_icmp .ge 131, 3) := by decide +kernel
theorem dX9_number_16 : decode cX9_number 16 = .ok (.aload_n 0, 1) := by decide +kernel
theorem dX9_number_17 : decode cX9_number 17 = .ok (.getfield 40, 3) := by decide +kernel
theorem dX9_number_20 : decode cX9_number 20 = .ok (.ifCond .ne 124, 3) := by decide +kernel
theorem dX9_number_23 : decode cX9_number 23 = .ok (.aload_n 0, 1) := by decide +kernel
theorem dX9_number_24 : decode cX9_number 24 = .ok (.getfield 51, 3) := by decide +kernel
theorem dX9_number_27 : decode cX9_number 27 = .ok (.istore 6, 2) := by decide +kernel
theorem dX9_number_29 : decode cX9_number 29 = .ok (.aload_n 0, 1) := by decide +kernel
theorem dX9_number_30 : decode cX9_number 30 = .ok (.invokevirtual 43, 3) := by decide +kernel
theorem dX9_number_33 : decode cX9_number 33 = .ok (.istore 7, 2) := by decide +kernel
theorem dX9_number_35 : decode cX9_number 35 = .ok (.aload_n 0, 1) := by decide +kernel
theorem dX9_number_36 : decode cX9_number 36 = .ok (.getfield 40, 3) := by decide +kernel
theorem dX9_number_39 : decode cX9_number 39 = .ok (.ifCond .eq 5, 3) := by decide +kernel
theorem dX9_number_42 : decode cX9_number 42 = .ok (.lconst 0, 1) := by decide +kernel
theorem dX9_number_43 : decode cX9_number 43 = .ok (.lreturn, 1) := by decide +kernel
theorem dX9_number_44 : decode cX9_number 44 = .ok (.iload 5, 2) := by decide +kernel
theorem dX9_number_46 : decode cX9_number 46 = .ok (.bipush 7, 2) := by decide +kernel
theorem dX9_number_48 : decode cX9_number 48 = .ok (.iadd, 1) := by decide +kernel
theorem dX9_number_49 : decode cX9_number 49 = .ok (.iload_n 2, 1) := by decide +kernel
theorem dX9_number_50 : decode cX9_number 50 = .ok (.if_icmp .lt 33, 3) := by decide +kernel
theorem dX9_number_53 : decode cX9_number 53 = .ok (.iload 7, 2) := by decide +kernel
theorem dX9_number_55 : decode cX9_number 55 = .ok (.iload_n 2, 1) := by decide +kernel
theorem dX9_number_56 : decode cX9_number 56 = .ok (.iload 5, 2) := by decide +kernel
theorem dX9_number_58 : decode cX9_number 58 = .ok (.isub, 1) := by decide +kernel
theorem dX9_number_59 : decode cX9_number 59 = .ok (.iload_n 1, 1) := by decide +kernel
theorem dX9_number_60 : decode cX9_number 60 = .ok (.ifCond .ge 7, 3) := by decide +kernel
theorem dX9_number_63 : decode cX9_number 63 = .ok (.iconst 1, 1) := by decide +kernel
theorem dX9_number_64 : decode cX9_number 64 = .ok (.goto 4, 3) := by decide +kernel
theorem dX9_number_67 : decode cX9_number 67 = .ok (.iconst 0, 1) := by decide +kernel
theorem dX9_number_68 : decode cX9_number 68 = .ok (.invokestatic 95, 3) := by decide +kernel
theorem dX9_number_71 : decode cX9_number 71 = .ok (.ifCond .ne 12, 3) := by decide +kernel
theorem dX9_number_74 : decode cX9_number 74 = .ok (.aload_n 0, 1) := by decide +kernel
theorem dX9_number_75 : decode cX9_number 75 = .ok (.iconst 4, 1) := by decide +kernel
theorem dX9_number_76 : decode cX9_number 76 = .ok (.iload 6, 2) := by decide +kernel
theorem dX9_number_78 : decode cX9_number 78 = .ok (.invokevirtual 47, 3) := by decide +kernel
theorem dX9_number_81 : decode cX9_number 81 = .ok (.lconst 0, 1) := by decide +kernel
theorem dX9_number_82 : decode cX9_number 82 = .ok (.lreturn, 1) := by decide +kernel
theorem dX9_number_83 : decode cX9_number 83 = .ok (.lload_n 3, 1) := by decide +kernel
theorem dX9_number_84 : decode cX9_number 84 = .ok (.iload 7, 2) := by decide +kernel
theorem dX9_number_86 : decode cX9_number 86 = .ok (.bipush 127, 2) := by decide +kernel
theorem dX9_number_88 : decode cX9_number 88 = .ok (.iand, 1) := by decide +kernel
theorem dX9_number_89 : decode cX9_number 89 = .ok (.i2l, 1) := by decide +kernel
theorem dX9_number_90 : decode cX9_number 90 = .ok (.iload 5, 2) := by decide +kernel
theorem dX9_number_92 : decode cX9_number 92 = .ok (.lshl, 1) := by decide +kernel
theorem dX9_number_93 : decode cX9_number 93 = .ok (.lor, 1) := by decide +kernel
theorem dX9_number_94 : decode cX9_number 94 = .ok (.lstore_n 3, 1) := by decide +kernel
theorem dX9_number_95 : decode cX9_number 95 = .ok (.iload 7, 2) := by decide +kernel
theorem dX9_number_97 : decode cX9_number 97 = .ok (.sipush 128, 3) := by decide +kernel
theorem dX9_number_100 : decode cX9_number 100 = .ok (.if_icmp .ge 38, 3) := by decide +kernel
theorem dX9_number_103 : decode cX9_number 103 = .ok (.iload_n 1, 1) := by decide +kernel
theorem dX9_number_104 : decode cX9_number 104 = .ok (.ifCond .ge 32, 3) := by decide +kernel
theorem dX9_number_107 : decode cX9_number 107 = .ok (.iload 7, 2) := by decide +kernel
theorem dX9_number_109 : decode cX9_number 109 = .ok (.bipush 64, 2) := by decide +kernel
theorem dX9_number_111 : decode cX9_number 111 = .ok (.iand, 1) := by decide +kernel
theorem dX9_number_112 : decode cX9_number 112 = .ok (.ifCond .eq 24, 3) := by decide +kernel
theorem dX9_number_115 : decode cX9_number 115 = .ok (.iload 5, 2) := by decide +kernel
theorem dX9_number_117 : decode cX9_number 117 = .ok (.bipush 57, 2) := by decide +kernel
theorem dX9_number_119 : decode cX9_number 119 = .ok (.if_icmp .ge 17, 3) := by decide +kernel
theorem dX9_number_122 : decode cX9_number 122 = .ok (.lload_n 3, 1) := by decide +kernel
theorem dX9_number_123 : decode cX9_number 123 = .ok (.ldc2_w 99, 3) := by decide +kernel
theorem dX9_number_126 : decode cX9_number 126 = .ok (.iload 5, 2) := by decide +kernel
theorem dX9_number_128 : decode cX9_number 128 = .ok (.bipush 7, 2) := by decide +kernel
theorem dX9_number_130 : decode cX9_number 130 = .ok (.iadd, 1) := by decide +kernel
theorem dX9_number_131 : decode cX9_number 131 = .ok (.lshl, 1) := by decide +kernel
theorem dX9_number_132 : decode cX9_number 132 = .ok (.lor, 1) := by decide +kernel
theorem dX9_number_133 : decode cX9_number 133 = .ok (.goto 4, 3) := by decide +kernel
theorem dX9_number_136 : decode cX9_number 136 = .ok (.lload_n 3, 1) := by decide +kernel
theorem dX9_number_137 : decode cX9_number 137 = .ok (.lreturn, 1) := by decide +kernel
theorem dX9_number_138 : decode cX9_number 138 = .ok (.iinc 5 7, 3) := by decide +kernel
theorem dX9_number_141 : decode cX9_number 141 = .ok (.goto (-131), 3) := by decide +kernel
theorem dX9_number_144 : decode cX9_number 144 = .ok (.lconst 0, 1) := by decide +kernel
theorem dX9_number_145 : decode cX9_number 145 = .ok (.lreturn, 1) := by decide +kernel
def tX9_number_10 (x0 : Nat) (x1 : Int32) (x2 : Int32) (x3 : Int64) (x5 : Int32) (h : pm_H) : Option (((Nat × Int32 × Int32 × Int64 × Int32 × pm_H) ⊕ (Nat × Int32 × Int32 × Int64 × Int32 × Int32 × pm_H) ⊕ (Nat × Int32 × Int32 × Int64 × Int32 × Int32 × Int32 × Int32 × Int32 × Int32 × pm_H)) ⊕ (Int64 × pm_H)) := if x2 ≤ x5 then (some (.inr ((0, h)))) else (if pm_kd h x0 = 9 then if (pm_I h x0 3) = 0 then (pm_let (pm_I h x0 1) fun y6 => (fX9_next h x0).bind fun v8 => if pm_kd v8.2 x0 = 9 then if (pm_I v8.2 x0 3) = 0 then (if (x5 + 7) < x2 then (some (.inl (.inr (.inl ((x0, x1, x2, x3, x5, v8.1, v8.2)))))) else (if 0 ≤ x1 then (some (.inl (.inr (.inr ((x0, x1, x2, x3, x5, y6, v8.1, 0, x2 - x5, v8.1, v8.2)))))) else (some (.inl (.inr (.inr ((x0, x1, x2, x3, x5, y6, v8.1, 1, x2 - x5, v8.1, v8.2)))))))) else (some (.inr ((0, v8.2)))) else none) else (some (.inr ((0, h)))) else none)
def tX9_number_83 (x0 : Nat) (x1 : Int32) (x2 : Int32) (x3 : Int64) (x5 : Int32) (x7 : Int32) (h : pm_H) : Option (((Nat × Int32 × Int32 × Int64 × Int32 × pm_H) ⊕ (Nat × Int32 × Int32 × Int64 × Int32 × Int32 × pm_H) ⊕ (Nat × Int32 × Int32 × Int64 × Int32 × Int32 × Int32 × Int32 × Int32 × Int32 × pm_H)) ⊕ (Int64 × pm_H)) := pm_let (x3 ||| (((x7 &&& 127).toInt64) <<< (x5.toInt64 &&& 63))) fun y14 => if 128 ≤ x7 then (pm_let (x5 + 7) fun y17 => some (.inl (.inl ((x0, x1, x2, y14, y17, h))))) else (if 0 ≤ x1 then (some (.inr ((y14, h)))) else (if (x7 &&& 64) = 0 then (some (.inr ((y14, h)))) else (if 57 ≤ x5 then (some (.inr ((y14, h)))) else (some (.inr ((y14 ||| (((-1) : Int64) <<< ((x5 + 7).toInt64 &&& 63)), h)))))))
def tX9_number_68 (x0 : Nat) (x1 : Int32) (x2 : Int32) (x3 : Int64) (x5 : Int32) (x6 : Int32) (x7 : Int32) (s0 : Int32) (s1 : Int32) (s2 : Int32) (h : pm_H) : Option (((Nat × Int32 × Int32 × Int64 × Int32 × pm_H) ⊕ (Nat × Int32 × Int32 × Int64 × Int32 × Int32 × pm_H) ⊕ (Nat × Int32 × Int32 × Int64 × Int32 × Int32 × Int32 × Int32 × Int32 × Int32 × pm_H)) ⊕ (Int64 × pm_H)) := pm_let (fX9_endsNumber s2 s1 s0) fun v22 => if v22 = 0 then (if pm_kd h x0 = 9 then (fX9_fail h x0 4 x6).bind fun v26 => some (.inr ((0, v26))) else none) else (some (.inl (.inr (.inl ((x0, x1, x2, x3, x5, x7, h))))))
def sX9_number : ((Nat × Int32 × Int32 × Int64 × Int32 × pm_H) ⊕ (Nat × Int32 × Int32 × Int64 × Int32 × Int32 × pm_H) ⊕ (Nat × Int32 × Int32 × Int64 × Int32 × Int32 × Int32 × Int32 × Int32 × Int32 × pm_H)) → Option (((Nat × Int32 × Int32 × Int64 × Int32 × pm_H) ⊕ (Nat × Int32 × Int32 × Int64 × Int32 × Int32 × pm_H) ⊕ (Nat × Int32 × Int32 × Int64 × Int32 × Int32 × Int32 × Int32 × Int32 × Int32 × pm_H)) ⊕ (Int64 × pm_H)) := fun z => match z with
  | .inl (x0, x1, x2, x3, x5, h) => tX9_number_10 x0 x1 x2 x3 x5 h
  | .inr (.inl (x0, x1, x2, x3, x5, x7, h)) => tX9_number_83 x0 x1 x2 x3 x5 x7 h
  | .inr (.inr (x0, x1, x2, x3, x5, x6, x7, s0, s1, s2, h)) => tX9_number_68 x0 x1 x2 x3 x5 x6 x7 s0 s1 s2 h
noncomputable def fX9_number (h : pm_H) (a0 : Nat) (p1 : Int32) : Option (Int64 × pm_H) := pm_let (if 0 ≤ p1 then p1 else 0 - p1) fun y1 => pm_lim sX9_number (.inl ((a0, p1, y1, 0, 0, h)))
set_option maxHeartbeats 4000000 in
set_option maxRecDepth 100000 in
theorem lpX9_number {g : pm_Gm} {l : Launch} {G : pm_Gl} {Qr : Option Value → pm_H → Prop} (C : pm_C g cX9_number RX9) (X : pm_X g l G mX9_number 0 0 Qr) {r : (Int64 × pm_H)} (q : Qr (some (.long r.1)) r.2) : ∀ n : Nat, (∀ (x0 : Nat) (x1 : Int32) (x2 : Int32) (x3 : Int64) (x5 : Int32) (h : pm_H), pm_iter sX9_number n (.inl (x0, x1, x2, x3, x5, h)) = some r → pm_G g 10 [(0, .ref x0), (1, .int x1), (2, .int x2), (3, .long x3), (5, .int x5)] [] h 0 0) ∧ (∀ (x0 : Nat) (x1 : Int32) (x2 : Int32) (x3 : Int64) (x5 : Int32) (x7 : Int32) (h : pm_H), pm_iter sX9_number n (.inr (.inl (x0, x1, x2, x3, x5, x7, h))) = some r → pm_G g 83 [(0, .ref x0), (1, .int x1), (2, .int x2), (3, .long x3), (5, .int x5), (7, .int x7)] [] h 0 0) ∧ (∀ (x0 : Nat) (x1 : Int32) (x2 : Int32) (x3 : Int64) (x5 : Int32) (x6 : Int32) (x7 : Int32) (s0 : Int32) (s1 : Int32) (s2 : Int32) (h : pm_H), pm_iter sX9_number n (.inr (.inr (x0, x1, x2, x3, x5, x6, x7, s0, s1, s2, h))) = some r → pm_G g 68 [(0, .ref x0), (1, .int x1), (2, .int x2), (3, .long x3), (5, .int x5), (6, .int x6), (7, .int x7)] [.int s0, .int s1, .int s2] h 0 0) := by
  intro n
  induction n with
  | zero => exact ⟨fun _ _ _ _ _ _ hf => (by cases hf), fun _ _ _ _ _ _ _ hf => (by cases hf), fun _ _ _ _ _ _ _ _ _ _ _ hf => (by cases hf)⟩
  | succ n ih =>
    refine ⟨fun x0 x1 x2 x3 x5 h hf => ?_, ?_⟩
    · obtain ⟨y, hf, hi⟩ := pm_iter_s hf
      have hf : tX9_number_10 x0 x1 x2 x3 x5 h = some y := hf
      unfold tX9_number_10 at hf
      refine pm_iload C dX9_number_10 rfl ?_
      refine pm_iload_n C dX9_number_12 rfl rfl ?_
      refine pm_icmp_ge (tgt := 144) C dX9_number_13 (by decide) (fun c3 => ?_) (fun c3 => ?_)
      · have hf := pm_it hf c3
        refine pm_lconst (v := 0) C dX9_number_144 (by decide) ?_
        cases hf
        cases hi
        exact pm_lret C X dX9_number_145 rfl (Nat.le_refl _) (Nat.le_refl _) q
      · have hf := pm_ie hf c3
        refine pm_aload_n C dX9_number_16 rfl rfl ?_
        obtain ⟨k4, hf⟩ := pm_if hf
        refine pm_getI C dX9_number_17 flX9_40 rfl k4 rfl ?_
        refine pm_if_ne (tgt := 144) C dX9_number_20 (by decide) (fun c5 => ?_) (fun c5 => ?_)
        · have hf := pm_ie hf c5
          refine pm_lconst (v := 0) C dX9_number_144 (by decide) ?_
          cases hf
          cases hi
          exact pm_lret C X dX9_number_145 rfl (Nat.le_refl _) (Nat.le_refl _) q
        · have hf := pm_it hf c5
          refine pm_aload_n C dX9_number_23 rfl rfl ?_
          refine pm_getI C dX9_number_24 flX9_51 rfl k4 rfl ?_
          obtain ⟨y6, e7, hf⟩ := pm_lt hf
          refine pm_topI e7 ?_
          refine pm_istore (lv' := [(6, .int y6), (0, .ref x0), (1, .int x1), (2, .int x2), (3, .long x3), (5, .int x5)]) C dX9_number_27 (pm_nl X (by decide)) rfl ?_
          refine pm_aload_n C dX9_number_29 rfl rfl ?_
          obtain ⟨v8, e9, hf⟩ := pm_bd hf
          refine pm_callV (as := []) (st := []) C X dX9_number_30 lnX9_43 myX9_next viX9_next ⟨by decide, by decide⟩ rfl rfl k4 (Nat.le_of_ble_eq_true rfl) (Nat.le_refl _) (Nat.le_refl _) (ctX9_next e9 ?_)
          show pm_G g 33 [(6, .int y6), (0, .ref x0), (1, .int x1), (2, .int x2), (3, .long x3), (5, .int x5)] [.int v8.1] v8.2 0 0
          refine pm_istore (lv' := [(7, .int v8.1), (6, .int y6), (0, .ref x0), (1, .int x1), (2, .int x2), (3, .long x3), (5, .int x5)]) C dX9_number_33 (pm_nl X (by decide)) rfl ?_
          refine pm_aload_n C dX9_number_35 rfl rfl ?_
          obtain ⟨k10, hf⟩ := pm_if hf
          refine pm_getI C dX9_number_36 flX9_40 rfl k10 rfl ?_
          refine pm_if_eq (tgt := 44) C dX9_number_39 (by decide) (fun c11 => ?_) (fun c11 => ?_)
          · have hf := pm_it hf c11
            refine pm_iload C dX9_number_44 rfl ?_
            refine pm_bipush (v := 7) C dX9_number_46 (by decide) ?_
            refine pm_iadd C dX9_number_48 ?_
            refine pm_iload_n C dX9_number_49 rfl rfl ?_
            refine pm_icmp_lt (tgt := 83) C dX9_number_50 (by decide) (fun c12 => ?_) (fun c12 => ?_)
            · have hf := pm_it hf c12
              cases hf
              exact pm_sub [2, 3, 4, 5, 6, 0] rfl (ih.2.1 x0 x1 x2 x3 x5 v8.1 v8.2 hi)
            · have hf := pm_ie hf c12
              refine pm_iload C dX9_number_53 rfl ?_
              refine pm_iload_n C dX9_number_55 rfl rfl ?_
              refine pm_iload C dX9_number_56 rfl ?_
              refine pm_isub C dX9_number_58 ?_
              refine pm_iload_n C dX9_number_59 rfl rfl ?_
              refine pm_if_ge (tgt := 67) C dX9_number_60 (by decide) (fun c13 => ?_) (fun c13 => ?_)
              · have hf := pm_it hf c13
                refine pm_iconst (v := 0) C dX9_number_67 (by decide) ?_
                cases hf
                exact pm_sub [2, 3, 4, 5, 6, 1, 0] rfl (ih.2.2 x0 x1 x2 x3 x5 y6 v8.1 0 (x2 - x5) v8.1 v8.2 hi)
              · have hf := pm_ie hf c13
                refine pm_iconst (v := 1) C dX9_number_63 (by decide) ?_
                refine pm_goto (tgt := 68) C dX9_number_64 (by decide) ?_
                cases hf
                exact pm_sub [2, 3, 4, 5, 6, 1, 0] rfl (ih.2.2 x0 x1 x2 x3 x5 y6 v8.1 1 (x2 - x5) v8.1 v8.2 hi)
          · have hf := pm_ie hf c11
            refine pm_lconst (v := 0) C dX9_number_42 (by decide) ?_
            cases hf
            cases hi
            exact pm_lret C X dX9_number_43 rfl (Nat.le_refl _) (Nat.le_refl _) q
    refine ⟨fun x0 x1 x2 x3 x5 x7 h hf => ?_, ?_⟩
    · obtain ⟨y, hf, hi⟩ := pm_iter_s hf
      have hf : tX9_number_83 x0 x1 x2 x3 x5 x7 h = some y := hf
      unfold tX9_number_83 at hf
      refine pm_lload_n C dX9_number_83 rfl rfl ?_
      refine pm_iload C dX9_number_84 rfl ?_
      refine pm_bipush (v := 127) C dX9_number_86 (by decide) ?_
      refine pm_iand C dX9_number_88 ?_
      refine pm_i2l C dX9_number_89 ?_
      refine pm_iload C dX9_number_90 rfl ?_
      refine pm_lshl C dX9_number_92 ?_
      refine pm_lor C dX9_number_93 ?_
      obtain ⟨y14, e15, hf⟩ := pm_lt hf
      refine pm_topL e15 ?_
      refine pm_lstore_n (lv' := [(3, .long y14), (0, .ref x0), (1, .int x1), (2, .int x2), (5, .int x5), (7, .int x7)]) C dX9_number_94 rfl (pm_nl X (by decide)) rfl ?_
      refine pm_iload C dX9_number_95 rfl ?_
      refine pm_sipush (v := 128) C dX9_number_97 (by decide) ?_
      refine pm_icmp_ge (tgt := 138) C dX9_number_100 (by decide) (fun c16 => ?_) (fun c16 => ?_)
      · have hf := pm_it hf c16
        obtain ⟨y17, e18, hf⟩ := pm_lt hf
        refine pm_iinc (v := y17) (lv' := [(5, .int y17), (3, .long y14), (0, .ref x0), (1, .int x1), (2, .int x2), (7, .int x7)]) C dX9_number_138 rfl ((congrArg (x5 + ·) (by decide : Int32.ofInt 7 = 7)).trans e18) (pm_nl X (by decide)) rfl ?_
        refine pm_goto (tgt := 10) C dX9_number_141 (by decide) ?_
        cases hf
        exact pm_sub [2, 3, 4, 1, 0] rfl (ih.1 x0 x1 x2 y14 y17 h hi)
      · have hf := pm_ie hf c16
        refine pm_iload_n C dX9_number_103 rfl rfl ?_
        refine pm_if_ge (tgt := 136) C dX9_number_104 (by decide) (fun c19 => ?_) (fun c19 => ?_)
        · have hf := pm_it hf c19
          refine pm_lload_n C dX9_number_136 rfl rfl ?_
          cases hf
          cases hi
          exact pm_lret C X dX9_number_137 rfl (Nat.le_refl _) (Nat.le_refl _) q
        · have hf := pm_ie hf c19
          refine pm_iload C dX9_number_107 rfl ?_
          refine pm_bipush (v := 64) C dX9_number_109 (by decide) ?_
          refine pm_iand C dX9_number_111 ?_
          refine pm_if_eq (tgt := 136) C dX9_number_112 (by decide) (fun c20 => ?_) (fun c20 => ?_)
          · have hf := pm_it hf c20
            refine pm_lload_n C dX9_number_136 rfl rfl ?_
            cases hf
            cases hi
            exact pm_lret C X dX9_number_137 rfl (Nat.le_refl _) (Nat.le_refl _) q
          · have hf := pm_ie hf c20
            refine pm_iload C dX9_number_115 rfl ?_
            refine pm_bipush (v := 57) C dX9_number_117 (by decide) ?_
            refine pm_icmp_ge (tgt := 136) C dX9_number_119 (by decide) (fun c21 => ?_) (fun c21 => ?_)
            · have hf := pm_it hf c21
              refine pm_lload_n C dX9_number_136 rfl rfl ?_
              cases hf
              cases hi
              exact pm_lret C X dX9_number_137 rfl (Nat.le_refl _) (Nat.le_refl _) q
            · have hf := pm_ie hf c21
              refine pm_lload_n C dX9_number_122 rfl rfl ?_
              refine pm_ldc2 C dX9_number_123 cnX9_99 ?_
              refine pm_iload C dX9_number_126 rfl ?_
              refine pm_bipush (v := 7) C dX9_number_128 (by decide) ?_
              refine pm_iadd C dX9_number_130 ?_
              refine pm_lshl C dX9_number_131 ?_
              refine pm_lor C dX9_number_132 ?_
              refine pm_goto (tgt := 137) C dX9_number_133 (by decide) ?_
              cases hf
              cases hi
              exact pm_lret C X dX9_number_137 rfl (Nat.le_refl _) (Nat.le_refl _) q
    refine fun x0 x1 x2 x3 x5 x6 x7 s0 s1 s2 h hf => ?_
    obtain ⟨y, hf, hi⟩ := pm_iter_s hf
    have hf : tX9_number_68 x0 x1 x2 x3 x5 x6 x7 s0 s1 s2 h = some y := hf
    unfold tX9_number_68 at hf
    obtain ⟨v22, e23, hf⟩ := pm_lt hf
    refine pm_callS (as := [.int s2, .int s1, .int s0]) (st := []) C X dX9_number_68 lnX9_95 myX9_endsNumber stX9_endsNumber ⟨by decide, by decide⟩ rfl rfl (Nat.le_of_ble_eq_true rfl) (Nat.le_refl _) (Nat.le_refl _) (ctX9_endsNumber e23 ?_)
    show pm_G g 71 [(0, .ref x0), (1, .int x1), (2, .int x2), (3, .long x3), (5, .int x5), (6, .int x6), (7, .int x7)] [.int v22] h 0 0
    refine pm_if_ne (tgt := 83) C dX9_number_71 (by decide) (fun c24 => ?_) (fun c24 => ?_)
    · have hf := pm_ie hf c24
      cases hf
      exact pm_sub [0, 1, 2, 3, 4, 6] rfl (ih.2.1 x0 x1 x2 x3 x5 x7 h hi)
    · have hf := pm_it hf c24
      refine pm_aload_n C dX9_number_74 rfl rfl ?_
      refine pm_iconst (v := 4) C dX9_number_75 (by decide) ?_
      refine pm_iload C dX9_number_76 rfl ?_
      obtain ⟨k25, hf⟩ := pm_if hf
      obtain ⟨v26, e27, hf⟩ := pm_bd hf
      refine pm_callV (as := [.int 4, .int x6]) (st := []) C X dX9_number_78 lnX9_47 myX9_fail viX9_fail ⟨by decide, by decide⟩ rfl rfl k25 (Nat.le_of_ble_eq_true rfl) (Nat.le_refl _) (Nat.le_refl _) (ctX9_fail e27 ?_)
      show pm_G g 81 [(0, .ref x0), (1, .int x1), (2, .int x2), (3, .long x3), (5, .int x5), (6, .int x6), (7, .int x7)] [] v26 0 0
      refine pm_lconst (v := 0) C dX9_number_81 (by decide) ?_
      cases hf
      cases hi
      exact pm_lret C X dX9_number_82 rfl (Nat.le_refl _) (Nat.le_refl _) q
set_option maxHeartbeats 4000000 in
set_option maxRecDepth 100000 in
theorem ctX9_number {l : Launch} {G : pm_Gl} {h : pm_H} {a0 : Nat} {p1 : Int32} {r : (Int64 × pm_H)} {Qr : Option Value → pm_H → Prop} (hf : fX9_number h a0 p1 = some r) (q : Qr (some (.long r.1)) r.2) : pm_Ct l G mX9_number [.ref a0, .int p1] h 0 0 Qr := by
  refine pm_body pnX9 (Nat.le_of_ble_eq_true rfl) (fun g C X => ?_)
  have C : pm_C g cX9_number RX9 := C
  show pm_G g 0 [(0, .ref a0), (1, .int p1)] [] h 0 0
  unfold fX9_number at hf
  refine pm_iload_n C dX9_number_0 rfl rfl ?_
  refine pm_mabsI C (pm_XR X) dX9_number_1 mtX9_90 (by decide) (by decide) (Nat.le_of_ble_eq_true rfl) (Nat.zero_le _) (Nat.zero_le _) ?_
  obtain ⟨y1, e2, hf⟩ := pm_lt hf
  refine pm_topI e2 ?_
  refine pm_istore_n (lv' := [(2, .int y1), (0, .ref a0), (1, .int p1)]) C dX9_number_4 rfl (pm_nl X (by decide)) rfl ?_
  refine pm_lconst (v := 0) C dX9_number_5 (by decide) ?_
  refine pm_lstore_n (lv' := [(3, .long 0), (2, .int y1), (0, .ref a0), (1, .int p1)]) C dX9_number_6 rfl (pm_nl X (by decide)) rfl ?_
  refine pm_iconst (v := 0) C dX9_number_7 (by decide) ?_
  refine pm_istore (lv' := [(5, .int 0), (3, .long 0), (2, .int y1), (0, .ref a0), (1, .int p1)]) C dX9_number_8 (pm_nl X (by decide)) rfl ?_
  obtain ⟨n, hn⟩ := pm_lim_iter hf
  exact pm_sub [3, 4, 2, 1, 0] rfl ((lpX9_number C X q n).1 a0 p1 y1 0 0 h hn)
theorem dX9_selected_0 : decode cX9_selected 0 = .ok (.aload_n 0, 1) := by decide +kernel
theorem dX9_selected_1 : decode cX9_selected 1 = .ok (.aload_n 0, 1) := by decide +kernel
theorem dX9_selected_2 : decode cX9_selected 2 = .ok (.bipush 32, 2) := by decide +kernel
theorem dX9_selected_4 : decode cX9_selected 4 = .ok (.invokevirtual 145, 3) := by decide +kernel
theorem dX9_selected_7 : decode cX9_selected 7 = .ok (.putfield 279, 3) := by decide +kernel
theorem dX9_selected_10 : decode cX9_selected 10 = .ok (.aload_n 0, 1) := by decide +kernel
theorem dX9_selected_11 : decode cX9_selected 11 = .ok (.getfield 66, 3) := by decide +kernel
theorem dX9_selected_14 : decode cX9_selected 14 = .ok (.ifCond .eq 16, 3) := by decide +kernel
theorem dX9_selected_17 : decode cX9_selected 17 = .ok (.aload_n 0, 1) := by decide +kernel
theorem dX9_selected_18 : decode cX9_selected 18 = .ok (.getfield 279, 3) := by decide +kernel
theorem dX9_selected_21 : decode cX9_selected 21 = .ok (.lconst 1, 1) := by decide +kernel
theorem dX9_selected_22 : decode cX9_selected 22 = .ok (.lcmp, 1) := by decide +kernel
theorem dX9_selected_23 : decode cX9_selected 23 = .ok (.ifCond .eq 7, 3) := by decide +kernel
theorem dX9_selected_26 : decode cX9_selected 26 = .ok (.aload_n 0, 1) := by decide +kernel
theorem dX9_selected_27 : decode cX9_selected 27 = .ok (.invokevirtual 175, 3) := by decide +kernel
theorem dX9_selected_30 : decode cX9_selected 30 = .ok (.lconst 0, 1) := by decide +kernel
theorem dX9_selected_31 : decode cX9_selected 31 = .ok (.lstore_n 1, 1) := by decide +kernel
theorem dX9_selected_32 : decode cX9_selected 32 = .ok (.lload_n 1, 1) := by decide +kernel
theorem dX9_selected_33 : decode cX9_selected 33 = .ok (.aload_n 0, 1) := by decide +kernel
theorem dX9_selected_34 : decode cX9_selected 34 = .ok (.getfield 279, 3) := by decide +kernel
theorem dX9_selected_37 : decode cX9_selected 37 = .ok (.lcmp, 1) := by decide +kernel
theorem dX9_selected_38 : decode cX9_selected 38 = .ok (.ifCond .ge 26, 3) := by decide +kernel
theorem dX9_selected_41 : decode cX9_selected 41 = .ok (.aload_n 0, 1) := by decide +kernel
theorem dX9_selected_42 : decode cX9_selected 42 = .ok (.getfield 40, 3) := by decide +kernel
theorem dX9_selected_45 : decode cX9_selected 45 = .ok (.ifCond .ne 19, 3) := by decide +kernel
theorem dX9_selected_48 : decode cX9_selected 48 = .ok (.aload_n 0, 1) := by decide +kernel
theorem dX9_selected_49 : decode cX9_selected 49 = .ok (.aload_n 0, 1) := by decide +kernel
theorem dX9_selected_50 : decode cX9_selected 50 = .ok (.invokevirtual 219, 3) := by decide +kernel
theorem dX9_selected_53 : decode cX9_selected 53 = .ok (.i2l, 1) := by decide +kernel
theorem dX9_selected_54 : decode cX9_selected 54 = .ok (.putfield 282, 3) := by decide +kernel
theorem dX9_selected_57 : decode cX9_selected 57 = .ok (.lload_n 1, 1) := by decide +kernel
theorem dX9_selected_58 : decode cX9_selected 58 = .ok (.lconst 1, 1) := by decide +kernel
theorem dX9_selected_59 : decode cX9_selected 59 = .ok (.ladd, 1) := by decide +kernel
theorem dX9_selected_60 : decode cX9_selected 60 = .ok (.lstore_n 1, 1) := by decide +kernel
theorem dX9_selected_61 : decode cX9_selected 61 = .ok (.goto (-29), 3) := by decide +kernel
theorem dX9_selected_64 : decode cX9_selected 64 = .ok (.return_, 1) := by decide +kernel
noncomputable def tX9_selected_32 (x0 : Nat) (x1 : Int64) (h : pm_H) : Option (((Nat × Int64 × pm_H)) ⊕ pm_H) := if pm_kd h x0 = 9 then if (pm_L h x0 8) ≤ x1 then (some (.inr (h))) else (if (pm_I h x0 3) = 0 then ((fX9_valueType h x0).bind fun v12 => if pm_kd v12.2 x0 = 9 then pm_let (x1 + 1) fun y15 => some (.inl ((x0, y15, pm_setL v12.2 x0 9 v12.1.toInt64))) else none) else (some (.inr (h)))) else none
noncomputable def sX9_selected : ((Nat × Int64 × pm_H)) → Option (((Nat × Int64 × pm_H)) ⊕ pm_H) := fun z => match z with
  | (x0, x1, h) => tX9_selected_32 x0 x1 h
noncomputable def fX9_selected (h : pm_H) (a0 : Nat) : Option pm_H := if pm_kd h a0 = 9 then (fX9_number h a0 32).bind fun v2 => if pm_kd v2.2 a0 = 9 then if (pm_I (pm_setL v2.2 a0 8 v2.1) a0 16) = 0 then (pm_lim sX9_selected ((a0, 0, pm_setL v2.2 a0 8 v2.1))) else (if (pm_L (pm_setL v2.2 a0 8 v2.1) a0 8) = 1 then (pm_lim sX9_selected ((a0, 0, pm_setL v2.2 a0 8 v2.1))) else ((fX9_exceedLimit (pm_setL v2.2 a0 8 v2.1) a0).bind fun v7 => pm_lim sX9_selected ((a0, 0, v7)))) else none else none
set_option maxHeartbeats 4000000 in
set_option maxRecDepth 100000 in
theorem lpX9_selected {g : pm_Gm} {l : Launch} {G : pm_Gl} {Qr : Option Value → pm_H → Prop} (C : pm_C g cX9_selected RX9) (X : pm_X g l G mX9_selected 0 0 Qr) {r : pm_H} (q : Qr none r) : ∀ n : Nat, (∀ (x0 : Nat) (x1 : Int64) (h : pm_H), pm_iter sX9_selected n (x0, x1, h) = some r → pm_G g 32 [(0, .ref x0), (1, .long x1)] [] h 0 0) := by
  intro n
  induction n with
  | zero => exact fun _ _ _ hf => (by cases hf)
  | succ n ih =>
    refine fun x0 x1 h hf => ?_
    obtain ⟨y, hf, hi⟩ := pm_iter_s hf
    have hf : tX9_selected_32 x0 x1 h = some y := hf
    unfold tX9_selected_32 at hf
    refine pm_lload_n C dX9_selected_32 rfl rfl ?_
    refine pm_aload_n C dX9_selected_33 rfl rfl ?_
    obtain ⟨k9, hf⟩ := pm_if hf
    refine pm_getL C dX9_selected_34 flX9_279 rfl k9 rfl ?_
    refine pm_lcmp C dX9_selected_37 ?_
    refine pm_if_ge (tgt := 64) C dX9_selected_38 (by decide) (fun c10 => ?_) (fun c10 => ?_)
    · have hf := pm_it hf ((pm_lg_ge _ _).mp c10)
      cases hf
      cases hi
      exact pm_vret C X dX9_selected_64 rfl (Nat.le_refl _) (Nat.le_refl _) q
    · have hf := pm_ie hf ((fun z => c10 ((pm_lg_ge _ _).mpr z)))
      refine pm_aload_n C dX9_selected_41 rfl rfl ?_
      refine pm_getI C dX9_selected_42 flX9_40 rfl k9 rfl ?_
      refine pm_if_ne (tgt := 64) C dX9_selected_45 (by decide) (fun c11 => ?_) (fun c11 => ?_)
      · have hf := pm_ie hf c11
        cases hf
        cases hi
        exact pm_vret C X dX9_selected_64 rfl (Nat.le_refl _) (Nat.le_refl _) q
      · have hf := pm_it hf c11
        refine pm_aload_n C dX9_selected_48 rfl rfl ?_
        refine pm_aload_n C dX9_selected_49 rfl rfl ?_
        obtain ⟨v12, e13, hf⟩ := pm_bd hf
        refine pm_callV (as := []) (st := [.ref x0]) C X dX9_selected_50 lnX9_219 myX9_valueType viX9_valueType ⟨by decide, by decide⟩ rfl rfl k9 (Nat.le_of_ble_eq_true rfl) (Nat.le_refl _) (Nat.le_refl _) (ctX9_valueType e13 ?_)
        show pm_G g 53 [(0, .ref x0), (1, .long x1)] [.int v12.1, .ref x0] v12.2 0 0
        refine pm_i2l C dX9_selected_53 ?_
        obtain ⟨k14, hf⟩ := pm_if hf
        refine pm_putL C dX9_selected_54 flX9_282 rfl rfl k14 ?_
        refine pm_lload_n C dX9_selected_57 rfl rfl ?_
        refine pm_lconst (v := 1) C dX9_selected_58 (by decide) ?_
        refine pm_ladd C dX9_selected_59 ?_
        obtain ⟨y15, e16, hf⟩ := pm_lt hf
        refine pm_topL e16 ?_
        refine pm_lstore_n (lv' := [(1, .long y15), (0, .ref x0)]) C dX9_selected_60 rfl (pm_nl X (by decide)) rfl ?_
        refine pm_goto (tgt := 32) C dX9_selected_61 (by decide) ?_
        cases hf
        exact pm_sub [1, 0] rfl (ih x0 y15 (pm_setL v12.2 x0 9 v12.1.toInt64) hi)
set_option maxHeartbeats 4000000 in
set_option maxRecDepth 100000 in
theorem ctX9_selected {l : Launch} {G : pm_Gl} {h : pm_H} {a0 : Nat} {r : pm_H} {Qr : Option Value → pm_H → Prop} (hf : fX9_selected h a0 = some r) (q : Qr none r) : pm_Ct l G mX9_selected [.ref a0] h 0 0 Qr := by
  refine pm_body pnX9 (Nat.le_of_ble_eq_true rfl) (fun g C X => ?_)
  have C : pm_C g cX9_selected RX9 := C
  show pm_G g 0 [(0, .ref a0)] [] h 0 0
  unfold fX9_selected at hf
  refine pm_aload_n C dX9_selected_0 rfl rfl ?_
  refine pm_aload_n C dX9_selected_1 rfl rfl ?_
  refine pm_bipush (v := 32) C dX9_selected_2 (by decide) ?_
  obtain ⟨k1, hf⟩ := pm_if hf
  obtain ⟨v2, e3, hf⟩ := pm_bd hf
  refine pm_callV (as := [.int 32]) (st := [.ref a0]) C X dX9_selected_4 lnX9_145 myX9_number viX9_number ⟨by decide, by decide⟩ rfl rfl k1 (Nat.le_of_ble_eq_true rfl) (Nat.le_refl _) (Nat.le_refl _) (ctX9_number e3 ?_)
  show pm_G g 7 [(0, .ref a0)] [.long v2.1, .ref a0] v2.2 0 0
  obtain ⟨k4, hf⟩ := pm_if hf
  refine pm_putL C dX9_selected_7 flX9_279 rfl rfl k4 ?_
  refine pm_aload_n C dX9_selected_10 rfl rfl ?_
  refine pm_getI C dX9_selected_11 flX9_66 rfl k4 rfl ?_
  refine pm_if_eq (tgt := 30) C dX9_selected_14 (by decide) (fun c5 => ?_) (fun c5 => ?_)
  · have hf := pm_it hf c5
    refine pm_lconst (v := 0) C dX9_selected_30 (by decide) ?_
    refine pm_lstore_n (lv' := [(1, .long 0), (0, .ref a0)]) C dX9_selected_31 rfl (pm_nl X (by decide)) rfl ?_
    obtain ⟨n, hn⟩ := pm_lim_iter hf
    exact pm_sub [1, 0] rfl ((lpX9_selected C X q n) a0 0 (pm_setL v2.2 a0 8 v2.1) hn)
  · have hf := pm_ie hf c5
    refine pm_aload_n C dX9_selected_17 rfl rfl ?_
    refine pm_getL C dX9_selected_18 flX9_279 rfl k4 rfl ?_
    refine pm_lconst (v := 1) C dX9_selected_21 (by decide) ?_
    refine pm_lcmp C dX9_selected_22 ?_
    refine pm_if_eq (tgt := 30) C dX9_selected_23 (by decide) (fun c6 => ?_) (fun c6 => ?_)
    · have hf := pm_it hf ((pm_lg_eq _ _).mp c6)
      refine pm_lconst (v := 0) C dX9_selected_30 (by decide) ?_
      refine pm_lstore_n (lv' := [(1, .long 0), (0, .ref a0)]) C dX9_selected_31 rfl (pm_nl X (by decide)) rfl ?_
      obtain ⟨n, hn⟩ := pm_lim_iter hf
      exact pm_sub [1, 0] rfl ((lpX9_selected C X q n) a0 0 (pm_setL v2.2 a0 8 v2.1) hn)
    · have hf := pm_ie hf ((fun z => c6 ((pm_lg_eq _ _).mpr z)))
      refine pm_aload_n C dX9_selected_26 rfl rfl ?_
      obtain ⟨v7, e8, hf⟩ := pm_bd hf
      refine pm_callV (as := []) (st := []) C X dX9_selected_27 lnX9_175 myX9_exceedLimit viX9_exceedLimit ⟨by decide, by decide⟩ rfl rfl k4 (Nat.le_of_ble_eq_true rfl) (Nat.le_refl _) (Nat.le_refl _) (ctX9_exceedLimit e8 ?_)
      show pm_G g 30 [(0, .ref a0)] [] v7 0 0
      refine pm_lconst (v := 0) C dX9_selected_30 (by decide) ?_
      refine pm_lstore_n (lv' := [(1, .long 0), (0, .ref a0)]) C dX9_selected_31 rfl (pm_nl X (by decide)) rfl ?_
      obtain ⟨n, hn⟩ := pm_lim_iter hf
      exact pm_sub [1, 0] rfl ((lpX9_selected C X q n) a0 0 v7 hn)
theorem dX10_addFunction_0 : decode cX10_addFunction 0 = .ok (.aload_n 0, 1) := by decide +kernel
theorem dX10_addFunction_1 : decode cX10_addFunction 1 = .ok (.getfield 157, 3) := by decide +kernel
theorem dX10_addFunction_4 : decode cX10_addFunction 4 = .ok (.istore 4, 2) := by decide +kernel
theorem dX10_addFunction_6 : decode cX10_addFunction 6 = .ok (.iload 4, 2) := by decide +kernel
theorem dX10_addFunction_8 : decode cX10_addFunction 8 = .ok (.sipush 512, 3) := by decide +kernel
theorem dX10_addFunction_11 : decode cX10_addFunction 11 = .ok (.if_icmp .lt 5, 3) := by decide +kernel
theorem dX10_addFunction_14 : decode cX10_addFunction 14 = .ok (.iconst 0, 1) := by decide +kernel
theorem dX10_addFunction_15 : decode cX10_addFunction 15 = .ok (.ireturn, 1) := by decide +kernel
theorem dX10_addFunction_16 : decode cX10_addFunction 16 = .ok (.aload_n 0, 1) := by decide +kernel
theorem dX10_addFunction_17 : decode cX10_addFunction 17 = .ok (.getfield 39, 3) := by decide +kernel
theorem dX10_addFunction_20 : decode cX10_addFunction 20 = .ok (.iload 4, 2) := by decide +kernel
theorem dX10_addFunction_22 : decode cX10_addFunction 22 = .ok (.aload_n 2, 1) := by decide +kernel
theorem dX10_addFunction_23 : decode cX10_addFunction 23 = .ok (.aastore, 1) := by decide +kernel
theorem dX10_addFunction_24 : decode cX10_addFunction 24 = .ok (.aload_n 0, 1) := by decide +kernel
theorem dX10_addFunction_25 : decode cX10_addFunction 25 = .ok (.getfield 45, 3) := by decide +kernel
theorem dX10_addFunction_28 : decode cX10_addFunction 28 = .ok (.iload 4, 2) := by decide +kernel
theorem dX10_addFunction_30 : decode cX10_addFunction 30 = .ok (.aload_n 1, 1) := by decide +kernel
theorem dX10_addFunction_31 : decode cX10_addFunction 31 = .ok (.aastore, 1) := by decide +kernel
theorem dX10_addFunction_32 : decode cX10_addFunction 32 = .ok (.aload_n 0, 1) := by decide +kernel
theorem dX10_addFunction_33 : decode cX10_addFunction 33 = .ok (.getfield 49, 3) := by decide +kernel
theorem dX10_addFunction_36 : decode cX10_addFunction 36 = .ok (.iload 4, 2) := by decide +kernel
theorem dX10_addFunction_38 : decode cX10_addFunction 38 = .ok (.iload_n 3, 1) := by decide +kernel
theorem dX10_addFunction_39 : decode cX10_addFunction 39 = .ok (.iastore, 1) := by decide +kernel
theorem dX10_addFunction_40 : decode cX10_addFunction 40 = .ok (.aload_n 0, 1) := by decide +kernel
theorem dX10_addFunction_41 : decode cX10_addFunction 41 = .ok (.dup, 1) := by decide +kernel
theorem dX10_addFunction_42 : decode cX10_addFunction 42 = .ok (.getfield 157, 3) := by decide +kernel
theorem dX10_addFunction_45 : decode cX10_addFunction 45 = .ok (.iconst 1, 1) := by decide +kernel
theorem dX10_addFunction_46 : decode cX10_addFunction 46 = .ok (.iadd, 1) := by decide +kernel
theorem dX10_addFunction_47 : decode cX10_addFunction 47 = .ok (.putfield 157, 3) := by decide +kernel
theorem dX10_addFunction_50 : decode cX10_addFunction 50 = .ok (.iload 4, 2) := by decide +kernel
theorem dX10_addFunction_52 : decode cX10_addFunction 52 = .ok (.ireturn, 1) := by decide +kernel
def fX10_addFunction (h : pm_H) (a0 : Nat) (p1 : Nat) (p2 : Nat) (p3 : Int32) : Option (Int32 × pm_H) := if pm_kd h a0 = 10 then pm_let (pm_I h a0 1) fun y2 => if y2 < 512 then ((pm_R h a0 10).bind fun v5 => if pm_kd h v5 = 38 then if pm_kd h p2 = 0 then if pm_in y2 (pm_ln h v5) then (pm_R (pm_setR h v5 y2.toNatClampNeg (some p2)) a0 11).bind fun v10 => if pm_kd (pm_setR h v5 y2.toNatClampNeg (some p2)) v10 = 40 then if pm_kd (pm_setR h v5 y2.toNatClampNeg (some p2)) p1 = 4 then if pm_in y2 (pm_ln (pm_setR h v5 y2.toNatClampNeg (some p2)) v10) then (pm_R (pm_setR (pm_setR h v5 y2.toNatClampNeg (some p2)) v10 y2.toNatClampNeg (some p1)) a0 12).bind fun v15 => if pm_kd (pm_setR (pm_setR h v5 y2.toNatClampNeg (some p2)) v10 y2.toNatClampNeg (some p1)) v15 = 34 then if pm_in y2 (pm_ln (pm_setR (pm_setR h v5 y2.toNatClampNeg (some p2)) v10 y2.toNatClampNeg (some p1)) v15) then pm_let ((pm_I (pm_setI (pm_setR (pm_setR h v5 y2.toNatClampNeg (some p2)) v10 y2.toNatClampNeg (some p1)) v15 y2.toNatClampNeg p3) a0 1) + 1) fun y19 => some ((y2, pm_setI (pm_setI (pm_setR (pm_setR h v5 y2.toNatClampNeg (some p2)) v10 y2.toNatClampNeg (some p1)) v15 y2.toNatClampNeg p3) a0 1 y19)) else none else none else none else none else none else none else none else none) else (some ((0, h))) else none
set_option maxHeartbeats 4000000 in
set_option maxRecDepth 100000 in
theorem ctX10_addFunction {l : Launch} {G : pm_Gl} {h : pm_H} {a0 : Nat} {p1 : Nat} {p2 : Nat} {p3 : Int32} {r : (Int32 × pm_H)} {Qr : Option Value → pm_H → Prop} (hf : fX10_addFunction h a0 p1 p2 p3 = some r) (q : Qr (some (.int r.1)) r.2) : pm_Ct l G mX10_addFunction [.ref a0, .ref p1, .ref p2, .int p3] h 0 0 Qr := by
  refine pm_body pnX10 (Nat.le_of_ble_eq_true rfl) (fun g C X => ?_)
  have C : pm_C g cX10_addFunction RX10 := C
  show pm_G g 0 [(0, .ref a0), (1, .ref p1), (2, .ref p2), (3, .int p3)] [] h 0 0
  unfold fX10_addFunction at hf
  refine pm_aload_n C dX10_addFunction_0 rfl rfl ?_
  obtain ⟨k1, hf⟩ := pm_if hf
  refine pm_getI C dX10_addFunction_1 flX10_157 rfl k1 rfl ?_
  obtain ⟨y2, e3, hf⟩ := pm_lt hf
  refine pm_topI e3 ?_
  refine pm_istore (lv' := [(4, .int y2), (0, .ref a0), (1, .ref p1), (2, .ref p2), (3, .int p3)]) C dX10_addFunction_4 (pm_nl X (by decide)) rfl ?_
  refine pm_iload C dX10_addFunction_6 rfl ?_
  refine pm_sipush (v := 512) C dX10_addFunction_8 (by decide) ?_
  refine pm_icmp_lt (tgt := 16) C dX10_addFunction_11 (by decide) (fun c4 => ?_) (fun c4 => ?_)
  · have hf := pm_it hf c4
    refine pm_aload_n C dX10_addFunction_16 rfl rfl ?_
    obtain ⟨v5, e6, hf⟩ := pm_bd hf
    refine pm_getR C dX10_addFunction_17 flX10_39 rfl k1 e6 ?_
    refine pm_iload C dX10_addFunction_20 rfl ?_
    refine pm_aload_n C dX10_addFunction_22 rfl rfl ?_
    obtain ⟨k7, hf⟩ := pm_if hf
    obtain ⟨k8, hf⟩ := pm_if hf
    obtain ⟨u9, hf⟩ := pm_if hf
    refine pm_aast (t := 6) C dX10_addFunction_23 (by decide) pm_Cl0 rfl k7 k8 u9 ?_
    refine pm_aload_n C dX10_addFunction_24 rfl rfl ?_
    obtain ⟨v10, e11, hf⟩ := pm_bd hf
    refine pm_getR C dX10_addFunction_25 flX10_45 rfl k1 e11 ?_
    refine pm_iload C dX10_addFunction_28 rfl ?_
    refine pm_aload_n C dX10_addFunction_30 rfl rfl ?_
    obtain ⟨k12, hf⟩ := pm_if hf
    obtain ⟨k13, hf⟩ := pm_if hf
    obtain ⟨u14, hf⟩ := pm_if hf
    refine pm_aast (t := 8) C dX10_addFunction_31 (by decide) pm_Cl4 rfl k12 k13 u14 ?_
    refine pm_aload_n C dX10_addFunction_32 rfl rfl ?_
    obtain ⟨v15, e16, hf⟩ := pm_bd hf
    refine pm_getR C dX10_addFunction_33 flX10_49 rfl k1 e16 ?_
    refine pm_iload C dX10_addFunction_36 rfl ?_
    refine pm_iload_n C dX10_addFunction_38 rfl rfl ?_
    obtain ⟨k17, hf⟩ := pm_if hf
    obtain ⟨u18, hf⟩ := pm_if hf
    refine pm_iast C dX10_addFunction_39 k17 u18 ?_
    refine pm_aload_n C dX10_addFunction_40 rfl rfl ?_
    refine pm_dup C dX10_addFunction_41 rfl ?_
    refine pm_getI C dX10_addFunction_42 flX10_157 rfl k1 rfl ?_
    refine pm_iconst (v := 1) C dX10_addFunction_45 (by decide) ?_
    refine pm_iadd C dX10_addFunction_46 ?_
    obtain ⟨y19, e20, hf⟩ := pm_lt hf
    refine pm_topI e20 ?_
    refine pm_putI C dX10_addFunction_47 flX10_157 rfl rfl k1 rfl rfl ?_
    refine pm_iload C dX10_addFunction_50 rfl ?_
    cases hf
    exact pm_iret C X dX10_addFunction_52 rfl (Nat.le_refl _) (Nat.le_refl _) q
  · have hf := pm_ie hf c4
    refine pm_iconst (v := 0) C dX10_addFunction_14 (by decide) ?_
    cases hf
    exact pm_iret C X dX10_addFunction_15 rfl (Nat.le_refl _) (Nat.le_refl _) q
theorem dX12_move_0 : decode cX12_move 0 = .ok (.iload_n 3, 1) := by decide +kernel
theorem dX12_move_1 : decode cX12_move 1 = .ok (.ifCond .le 27, 3) := by decide +kernel
theorem dX12_move_4 : decode cX12_move 4 = .ok (.iload_n 1, 1) := by decide +kernel
theorem dX12_move_5 : decode cX12_move 5 = .ok (.ifCond .lt 23, 3) := by decide +kernel
theorem dX12_move_8 : decode cX12_move 8 = .ok (.iload_n 2, 1) := by decide +kernel
theorem dX12_move_9 : decode cX12_move 9 = .ok (.ifCond .lt 19, 3) := by decide +kernel
theorem dX12_move_12 : decode cX12_move 12 = .ok (.iload_n 1, 1) := by decide +kernel
theorem dX12_move_13 : decode cX12_move 13 = .ok (.aload_n 0, 1) := by decide +kernel
theorem dX12_move_14 : decode cX12_move 14 = .ok (.arraylength, 1) := by decide +kernel
theorem dX12_move_15 : decode cX12_move 15 = .ok (.iload_n 3, 1) := by decide +kernel
theorem dX12_move_16 : decode cX12_move 16 = .ok (.isub, 1) := by decide +kernel
theorem dX12_move_17 : decode cX12_move 17 = .ok (.if_icmp .gt 11, 3) := by decide +kernel
theorem dX12_move_20 : decode cX12_move 20 = .ok (.iload_n 2, 1) := by decide +kernel
theorem dX12_move_21 : decode cX12_move 21 = .ok (.aload_n 0, 1) := by decide +kernel
theorem dX12_move_22 : decode cX12_move 22 = .ok (.arraylength, 1) := by decide +kernel
theorem dX12_move_23 : decode cX12_move 23 = .ok (.iload_n 3, 1) := by decide +kernel
theorem dX12_move_24 : decode cX12_move 24 = .ok (.isub, 1) := by decide +kernel
theorem dX12_move_25 : decode cX12_move 25 = .ok (.if_icmp .le 4, 3) := by decide +kernel
theorem dX12_move_28 : decode cX12_move 28 = .ok (.return_, 1) := by decide +kernel
theorem dX12_move_29 : decode cX12_move 29 = .ok (.aload_n 0, 1) := by decide +kernel
theorem dX12_move_30 : decode cX12_move 30 = .ok (.iload_n 1, 1) := by decide +kernel
theorem dX12_move_31 : decode cX12_move 31 = .ok (.aload_n 0, 1) := by decide +kernel
theorem dX12_move_32 : decode cX12_move 32 = .ok (.iload_n 2, 1) := by decide +kernel
theorem dX12_move_33 : decode cX12_move 33 = .ok (.iload_n 3, 1) := by decide +kernel
theorem dX12_move_34 : decode cX12_move 34 = .ok (.invokestatic 298, 3) := by decide +kernel
theorem dX12_move_37 : decode cX12_move 37 = .ok (.return_, 1) := by decide +kernel
def fX12_move (h : pm_H) (p1 : Nat) (p2 : Int32) (p3 : Int32) (p4 : Int32) : Option pm_H := if p4 ≤ 0 then (some h) else (if p2 < 0 then (some h) else (if p3 < 0 then (some h) else (if pm_kd h p1 = 35 then if ((Int32.ofNat (pm_ln h p1)) - p4) < p2 then (some h) else (if p3 ≤ ((Int32.ofNat (pm_ln h p1)) - p4) then (if ¬ p2 < 0 ∧ ¬ p3 < 0 ∧ ¬ p4 < 0 ∧ p2.toNatClampNeg + p4.toNatClampNeg ≤ pm_ln h p1 ∧ p3.toNatClampNeg + p4.toNatClampNeg ≤ pm_ln h p1 then some (pm_cpL h p1 p2.toNatClampNeg p1 p3.toNatClampNeg p4.toNatClampNeg) else none) else (some h)) else none)))
set_option maxHeartbeats 4000000 in
set_option maxRecDepth 100000 in
theorem ctX12_move {l : Launch} {G : pm_Gl} {h : pm_H} {p1 : Nat} {p2 : Int32} {p3 : Int32} {p4 : Int32} {r : pm_H} {Qr : Option Value → pm_H → Prop} (hf : fX12_move h p1 p2 p3 p4 = some r) (q : Qr none r) : pm_Ct l G mX12_move [.ref p1, .int p2, .int p3, .int p4] h 0 0 Qr := by
  refine pm_body pnX12 (Nat.le_of_ble_eq_true rfl) (fun g C X => ?_)
  have C : pm_C g cX12_move RX12 := C
  show pm_G g 0 [(0, .ref p1), (1, .int p2), (2, .int p3), (3, .int p4)] [] h 0 0
  unfold fX12_move at hf
  refine pm_iload_n C dX12_move_0 rfl rfl ?_
  refine pm_if_le (tgt := 28) C dX12_move_1 (by decide) (fun c1 => ?_) (fun c1 => ?_)
  · have hf := pm_it hf c1
    cases hf
    exact pm_vret C X dX12_move_28 rfl (Nat.le_refl _) (Nat.le_refl _) q
  · have hf := pm_ie hf c1
    refine pm_iload_n C dX12_move_4 rfl rfl ?_
    refine pm_if_lt (tgt := 28) C dX12_move_5 (by decide) (fun c2 => ?_) (fun c2 => ?_)
    · have hf := pm_it hf c2
      cases hf
      exact pm_vret C X dX12_move_28 rfl (Nat.le_refl _) (Nat.le_refl _) q
    · have hf := pm_ie hf c2
      refine pm_iload_n C dX12_move_8 rfl rfl ?_
      refine pm_if_lt (tgt := 28) C dX12_move_9 (by decide) (fun c3 => ?_) (fun c3 => ?_)
      · have hf := pm_it hf c3
        cases hf
        exact pm_vret C X dX12_move_28 rfl (Nat.le_refl _) (Nat.le_refl _) q
      · have hf := pm_ie hf c3
        refine pm_iload_n C dX12_move_12 rfl rfl ?_
        refine pm_aload_n C dX12_move_13 rfl rfl ?_
        obtain ⟨k4, hf⟩ := pm_if hf
        refine pm_alen (t := 3) C dX12_move_14 (by decide) k4 rfl ?_
        refine pm_iload_n C dX12_move_15 rfl rfl ?_
        refine pm_isub C dX12_move_16 ?_
        refine pm_icmp_gt (tgt := 28) C dX12_move_17 (by decide) (fun c5 => ?_) (fun c5 => ?_)
        · have hf := pm_it hf c5
          cases hf
          exact pm_vret C X dX12_move_28 rfl (Nat.le_refl _) (Nat.le_refl _) q
        · have hf := pm_ie hf c5
          refine pm_iload_n C dX12_move_20 rfl rfl ?_
          refine pm_aload_n C dX12_move_21 rfl rfl ?_
          refine pm_alen (t := 3) C dX12_move_22 (by decide) k4 rfl ?_
          refine pm_iload_n C dX12_move_23 rfl rfl ?_
          refine pm_isub C dX12_move_24 ?_
          refine pm_icmp_le (tgt := 29) C dX12_move_25 (by decide) (fun c6 => ?_) (fun c6 => ?_)
          · have hf := pm_it hf c6
            refine pm_aload_n C dX12_move_29 rfl rfl ?_
            refine pm_iload_n C dX12_move_30 rfl rfl ?_
            refine pm_aload_n C dX12_move_31 rfl rfl ?_
            refine pm_iload_n C dX12_move_32 rfl rfl ?_
            refine pm_iload_n C dX12_move_33 rfl rfl ?_
            obtain ⟨u7, hf⟩ := pm_if hf
            refine pm_copyL (t := 3) C (pm_XR X) dX12_move_34 acX12_298 rfl k4 k4 u7.1 u7.2.1 u7.2.2.1 u7.2.2.2.1 u7.2.2.2.2 (fun _ _ => rfl) (by decide) (by decide) (Nat.le_of_ble_eq_true rfl) ?_
            cases hf
            exact pm_vret C X dX12_move_37 rfl (Nat.le_refl _) (Nat.le_refl _) q
          · have hf := pm_ie hf c6
            cases hf
            exact pm_vret C X dX12_move_28 rfl (Nat.le_refl _) (Nat.le_refl _) q
theorem dJ7_fill_eb02e_0 : decode cJ7_fill_eb02e 0 = .ok (.aload_n 0, 1) := by decide +kernel
theorem dJ7_fill_eb02e_1 : decode cJ7_fill_eb02e 1 = .ok (.arraylength, 1) := by decide +kernel
theorem dJ7_fill_eb02e_2 : decode cJ7_fill_eb02e 2 = .ok (.iload_n 1, 1) := by decide +kernel
theorem dJ7_fill_eb02e_3 : decode cJ7_fill_eb02e 3 = .ok (.iload_n 2, 1) := by decide +kernel
theorem dJ7_fill_eb02e_4 : decode cJ7_fill_eb02e 4 = .ok (.invokestatic 13, 3) := by decide +kernel
theorem dJ7_fill_eb02e_7 : decode cJ7_fill_eb02e 7 = .ok (.iload_n 1, 1) := by decide +kernel
theorem dJ7_fill_eb02e_8 : decode cJ7_fill_eb02e 8 = .ok (.istore 4, 2) := by decide +kernel
theorem dJ7_fill_eb02e_10 : decode cJ7_fill_eb02e 10 = .ok (.iload 4, 2) := by decide +kernel
theorem dJ7_fill_eb02e_12 : decode cJ7_fill_eb02e 12 = .ok (.iload_n 2, 1) := by decide +kernel
theorem dJ7_fill_eb02e_13 : decode cJ7_fill_eb02e 13 = .ok (.if_icmp .ge 14, 3) := by decide +kernel
theorem dJ7_fill_eb02e_16 : decode cJ7_fill_eb02e 16 = .ok (.aload_n 0, 1) := by decide +kernel
theorem dJ7_fill_eb02e_17 : decode cJ7_fill_eb02e 17 = .ok (.iload 4, 2) := by decide +kernel
theorem dJ7_fill_eb02e_19 : decode cJ7_fill_eb02e 19 = .ok (.iload_n 3, 1) := by decide +kernel
theorem dJ7_fill_eb02e_20 : decode cJ7_fill_eb02e 20 = .ok (.bastore, 1) := by decide +kernel
theorem dJ7_fill_eb02e_21 : decode cJ7_fill_eb02e 21 = .ok (.iinc 4 1, 3) := by decide +kernel
theorem dJ7_fill_eb02e_24 : decode cJ7_fill_eb02e 24 = .ok (.goto (-14), 3) := by decide +kernel
theorem dJ7_fill_eb02e_27 : decode cJ7_fill_eb02e 27 = .ok (.return_, 1) := by decide +kernel
def tJ7_fill_eb02e_10 (x0 : Nat) (x2 : Int32) (x3 : Int32) (x4 : Int32) (h : pm_H) : Option (((Nat × Int32 × Int32 × Int32 × pm_H)) ⊕ pm_H) := if x2 ≤ x4 then (some (.inr (h))) else (if pm_kd h x0 = 33 then if pm_in x4 (pm_ln h x0) then pm_let (x4 + 1) fun y7 => some (.inl ((x0, x2, x3, y7, pm_setI h x0 x4.toNatClampNeg (vp_nar .byte x3)))) else none else none)
def sJ7_fill_eb02e : ((Nat × Int32 × Int32 × Int32 × pm_H)) → Option (((Nat × Int32 × Int32 × Int32 × pm_H)) ⊕ pm_H) := fun z => match z with
  | (x0, x2, x3, x4, h) => tJ7_fill_eb02e_10 x0 x2 x3 x4 h
noncomputable def fJ7_fill_eb02e (h : pm_H) (p1 : Nat) (p2 : Int32) (p3 : Int32) (p4 : Int32) : Option pm_H := if pm_kd h p1 = 33 then (fJ7_rangeCheck_23922 (Int32.ofNat (pm_ln h p1)) p2 p3).bind fun v2 => pm_lim sJ7_fill_eb02e ((p1, p3, p4, p2, h)) else none
set_option maxHeartbeats 4000000 in
set_option maxRecDepth 100000 in
theorem lpJ7_fill_eb02e {g : pm_Gm} {l : Launch} {G : pm_Gl} {Qr : Option Value → pm_H → Prop} (C : pm_C g cJ7_fill_eb02e RJ7) (X : pm_X g l G mJ7_fill_eb02e 0 0 Qr) {r : pm_H} (q : Qr none r) : ∀ n : Nat, (∀ (x0 : Nat) (x2 : Int32) (x3 : Int32) (x4 : Int32) (h : pm_H), pm_iter sJ7_fill_eb02e n (x0, x2, x3, x4, h) = some r → pm_G g 10 [(0, .ref x0), (2, .int x2), (3, .int x3), (4, .int x4)] [] h 0 0) := by
  intro n
  induction n with
  | zero => exact fun _ _ _ _ _ hf => (by cases hf)
  | succ n ih =>
    refine fun x0 x2 x3 x4 h hf => ?_
    obtain ⟨y, hf, hi⟩ := pm_iter_s hf
    have hf : tJ7_fill_eb02e_10 x0 x2 x3 x4 h = some y := hf
    unfold tJ7_fill_eb02e_10 at hf
    refine pm_iload C dJ7_fill_eb02e_10 rfl ?_
    refine pm_iload_n C dJ7_fill_eb02e_12 rfl rfl ?_
    refine pm_icmp_ge (tgt := 27) C dJ7_fill_eb02e_13 (by decide) (fun c4 => ?_) (fun c4 => ?_)
    · have hf := pm_it hf c4
      cases hf
      cases hi
      exact pm_vret C X dJ7_fill_eb02e_27 rfl (Nat.le_refl _) (Nat.le_refl _) q
    · have hf := pm_ie hf c4
      refine pm_aload_n C dJ7_fill_eb02e_16 rfl rfl ?_
      refine pm_iload C dJ7_fill_eb02e_17 rfl ?_
      refine pm_iload_n C dJ7_fill_eb02e_19 rfl rfl ?_
      obtain ⟨k5, hf⟩ := pm_if hf
      obtain ⟨u6, hf⟩ := pm_if hf
      refine pm_bast C dJ7_fill_eb02e_20 k5 u6 ?_
      obtain ⟨y7, e8, hf⟩ := pm_lt hf
      refine pm_iinc (v := y7) (lv' := [(4, .int y7), (0, .ref x0), (2, .int x2), (3, .int x3)]) C dJ7_fill_eb02e_21 rfl ((congrArg (x4 + ·) (by decide : Int32.ofInt 1 = 1)).trans e8) (pm_nl X (by decide)) rfl ?_
      refine pm_goto (tgt := 10) C dJ7_fill_eb02e_24 (by decide) ?_
      cases hf
      exact pm_sub [1, 2, 3, 0] rfl (ih x0 x2 x3 y7 (pm_setI h x0 x4.toNatClampNeg (vp_nar .byte x3)) hi)
set_option maxHeartbeats 4000000 in
set_option maxRecDepth 100000 in
theorem ctJ7_fill_eb02e {l : Launch} {G : pm_Gl} {h : pm_H} {p1 : Nat} {p2 : Int32} {p3 : Int32} {p4 : Int32} {r : pm_H} {Qr : Option Value → pm_H → Prop} (hf : fJ7_fill_eb02e h p1 p2 p3 p4 = some r) (q : Qr none r) : pm_Ct l G mJ7_fill_eb02e [.ref p1, .int p2, .int p3, .int p4] h 0 0 Qr := by
  refine pm_body pnJ7 (Nat.le_of_ble_eq_true rfl) (fun g C X => ?_)
  have C : pm_C g cJ7_fill_eb02e RJ7 := C
  show pm_G g 0 [(0, .ref p1), (1, .int p2), (2, .int p3), (3, .int p4)] [] h 0 0
  unfold fJ7_fill_eb02e at hf
  refine pm_aload_n C dJ7_fill_eb02e_0 rfl rfl ?_
  obtain ⟨k1, hf⟩ := pm_if hf
  refine pm_alen (t := 1) C dJ7_fill_eb02e_1 (by decide) k1 rfl ?_
  refine pm_iload_n C dJ7_fill_eb02e_2 rfl rfl ?_
  refine pm_iload_n C dJ7_fill_eb02e_3 rfl rfl ?_
  obtain ⟨v2, e3, hf⟩ := pm_bd hf
  refine pm_callS (as := [.int (Int32.ofNat (pm_ln h p1)), .int p2, .int p3]) (st := []) C X dJ7_fill_eb02e_4 lnJ7_13 myJ7_rangeCheck_23922 stJ7_rangeCheck_23922 ⟨by decide, by decide⟩ rfl rfl (Nat.le_of_ble_eq_true rfl) (Nat.le_refl _) (Nat.le_refl _) (ctJ7_rangeCheck_23922 e3 ?_)
  show pm_G g 7 [(0, .ref p1), (1, .int p2), (2, .int p3), (3, .int p4)] [] h 0 0
  refine pm_iload_n C dJ7_fill_eb02e_7 rfl rfl ?_
  refine pm_istore (lv' := [(4, .int p2), (0, .ref p1), (1, .int p2), (2, .int p3), (3, .int p4)]) C dJ7_fill_eb02e_8 (pm_nl X (by decide)) rfl ?_
  obtain ⟨n, hn⟩ := pm_lim_iter hf
  exact pm_sub [1, 3, 4, 0] rfl ((lpJ7_fill_eb02e C X q n) p1 p3 p4 p2 h hn)
theorem dJ7_fill_fda19_0 : decode cJ7_fill_fda19 0 = .ok (.aload_n 0, 1) := by decide +kernel
theorem dJ7_fill_fda19_1 : decode cJ7_fill_fda19 1 = .ok (.arraylength, 1) := by decide +kernel
theorem dJ7_fill_fda19_2 : decode cJ7_fill_fda19 2 = .ok (.iload_n 1, 1) := by decide +kernel
theorem dJ7_fill_fda19_3 : decode cJ7_fill_fda19 3 = .ok (.iload_n 2, 1) := by decide +kernel
theorem dJ7_fill_fda19_4 : decode cJ7_fill_fda19 4 = .ok (.invokestatic 13, 3) := by decide +kernel
theorem dJ7_fill_fda19_7 : decode cJ7_fill_fda19 7 = .ok (.iload_n 1, 1) := by decide +kernel
theorem dJ7_fill_fda19_8 : decode cJ7_fill_fda19 8 = .ok (.istore 4, 2) := by decide +kernel
theorem dJ7_fill_fda19_10 : decode cJ7_fill_fda19 10 = .ok (.iload 4, 2) := by decide +kernel
theorem dJ7_fill_fda19_12 : decode cJ7_fill_fda19 12 = .ok (.iload_n 2, 1) := by decide +kernel
theorem dJ7_fill_fda19_13 : decode cJ7_fill_fda19 13 = .ok (.if_icmp .ge 14, 3) := by decide +kernel
theorem dJ7_fill_fda19_16 : decode cJ7_fill_fda19 16 = .ok (.aload_n 0, 1) := by decide +kernel
theorem dJ7_fill_fda19_17 : decode cJ7_fill_fda19 17 = .ok (.iload 4, 2) := by decide +kernel
theorem dJ7_fill_fda19_19 : decode cJ7_fill_fda19 19 = .ok (.iload_n 3, 1) := by decide +kernel
theorem dJ7_fill_fda19_20 : decode cJ7_fill_fda19 20 = .ok (.iastore, 1) := by decide +kernel
theorem dJ7_fill_fda19_21 : decode cJ7_fill_fda19 21 = .ok (.iinc 4 1, 3) := by decide +kernel
theorem dJ7_fill_fda19_24 : decode cJ7_fill_fda19 24 = .ok (.goto (-14), 3) := by decide +kernel
theorem dJ7_fill_fda19_27 : decode cJ7_fill_fda19 27 = .ok (.return_, 1) := by decide +kernel
def tJ7_fill_fda19_10 (x0 : Nat) (x2 : Int32) (x3 : Int32) (x4 : Int32) (h : pm_H) : Option (((Nat × Int32 × Int32 × Int32 × pm_H)) ⊕ pm_H) := if x2 ≤ x4 then (some (.inr (h))) else (if pm_kd h x0 = 34 then if pm_in x4 (pm_ln h x0) then pm_let (x4 + 1) fun y7 => some (.inl ((x0, x2, x3, y7, pm_setI h x0 x4.toNatClampNeg x3))) else none else none)
def sJ7_fill_fda19 : ((Nat × Int32 × Int32 × Int32 × pm_H)) → Option (((Nat × Int32 × Int32 × Int32 × pm_H)) ⊕ pm_H) := fun z => match z with
  | (x0, x2, x3, x4, h) => tJ7_fill_fda19_10 x0 x2 x3 x4 h
noncomputable def fJ7_fill_fda19 (h : pm_H) (p1 : Nat) (p2 : Int32) (p3 : Int32) (p4 : Int32) : Option pm_H := if pm_kd h p1 = 34 then (fJ7_rangeCheck_23922 (Int32.ofNat (pm_ln h p1)) p2 p3).bind fun v2 => pm_lim sJ7_fill_fda19 ((p1, p3, p4, p2, h)) else none
set_option maxHeartbeats 4000000 in
set_option maxRecDepth 100000 in
theorem lpJ7_fill_fda19 {g : pm_Gm} {l : Launch} {G : pm_Gl} {Qr : Option Value → pm_H → Prop} (C : pm_C g cJ7_fill_fda19 RJ7) (X : pm_X g l G mJ7_fill_fda19 0 0 Qr) {r : pm_H} (q : Qr none r) : ∀ n : Nat, (∀ (x0 : Nat) (x2 : Int32) (x3 : Int32) (x4 : Int32) (h : pm_H), pm_iter sJ7_fill_fda19 n (x0, x2, x3, x4, h) = some r → pm_G g 10 [(0, .ref x0), (2, .int x2), (3, .int x3), (4, .int x4)] [] h 0 0) := by
  intro n
  induction n with
  | zero => exact fun _ _ _ _ _ hf => (by cases hf)
  | succ n ih =>
    refine fun x0 x2 x3 x4 h hf => ?_
    obtain ⟨y, hf, hi⟩ := pm_iter_s hf
    have hf : tJ7_fill_fda19_10 x0 x2 x3 x4 h = some y := hf
    unfold tJ7_fill_fda19_10 at hf
    refine pm_iload C dJ7_fill_fda19_10 rfl ?_
    refine pm_iload_n C dJ7_fill_fda19_12 rfl rfl ?_
    refine pm_icmp_ge (tgt := 27) C dJ7_fill_fda19_13 (by decide) (fun c4 => ?_) (fun c4 => ?_)
    · have hf := pm_it hf c4
      cases hf
      cases hi
      exact pm_vret C X dJ7_fill_fda19_27 rfl (Nat.le_refl _) (Nat.le_refl _) q
    · have hf := pm_ie hf c4
      refine pm_aload_n C dJ7_fill_fda19_16 rfl rfl ?_
      refine pm_iload C dJ7_fill_fda19_17 rfl ?_
      refine pm_iload_n C dJ7_fill_fda19_19 rfl rfl ?_
      obtain ⟨k5, hf⟩ := pm_if hf
      obtain ⟨u6, hf⟩ := pm_if hf
      refine pm_iast C dJ7_fill_fda19_20 k5 u6 ?_
      obtain ⟨y7, e8, hf⟩ := pm_lt hf
      refine pm_iinc (v := y7) (lv' := [(4, .int y7), (0, .ref x0), (2, .int x2), (3, .int x3)]) C dJ7_fill_fda19_21 rfl ((congrArg (x4 + ·) (by decide : Int32.ofInt 1 = 1)).trans e8) (pm_nl X (by decide)) rfl ?_
      refine pm_goto (tgt := 10) C dJ7_fill_fda19_24 (by decide) ?_
      cases hf
      exact pm_sub [1, 2, 3, 0] rfl (ih x0 x2 x3 y7 (pm_setI h x0 x4.toNatClampNeg x3) hi)
set_option maxHeartbeats 4000000 in
set_option maxRecDepth 100000 in
theorem ctJ7_fill_fda19 {l : Launch} {G : pm_Gl} {h : pm_H} {p1 : Nat} {p2 : Int32} {p3 : Int32} {p4 : Int32} {r : pm_H} {Qr : Option Value → pm_H → Prop} (hf : fJ7_fill_fda19 h p1 p2 p3 p4 = some r) (q : Qr none r) : pm_Ct l G mJ7_fill_fda19 [.ref p1, .int p2, .int p3, .int p4] h 0 0 Qr := by
  refine pm_body pnJ7 (Nat.le_of_ble_eq_true rfl) (fun g C X => ?_)
  have C : pm_C g cJ7_fill_fda19 RJ7 := C
  show pm_G g 0 [(0, .ref p1), (1, .int p2), (2, .int p3), (3, .int p4)] [] h 0 0
  unfold fJ7_fill_fda19 at hf
  refine pm_aload_n C dJ7_fill_fda19_0 rfl rfl ?_
  obtain ⟨k1, hf⟩ := pm_if hf
  refine pm_alen (t := 2) C dJ7_fill_fda19_1 (by decide) k1 rfl ?_
  refine pm_iload_n C dJ7_fill_fda19_2 rfl rfl ?_
  refine pm_iload_n C dJ7_fill_fda19_3 rfl rfl ?_
  obtain ⟨v2, e3, hf⟩ := pm_bd hf
  refine pm_callS (as := [.int (Int32.ofNat (pm_ln h p1)), .int p2, .int p3]) (st := []) C X dJ7_fill_fda19_4 lnJ7_13 myJ7_rangeCheck_23922 stJ7_rangeCheck_23922 ⟨by decide, by decide⟩ rfl rfl (Nat.le_of_ble_eq_true rfl) (Nat.le_refl _) (Nat.le_refl _) (ctJ7_rangeCheck_23922 e3 ?_)
  show pm_G g 7 [(0, .ref p1), (1, .int p2), (2, .int p3), (3, .int p4)] [] h 0 0
  refine pm_iload_n C dJ7_fill_fda19_7 rfl rfl ?_
  refine pm_istore (lv' := [(4, .int p2), (0, .ref p1), (1, .int p2), (2, .int p3), (3, .int p4)]) C dJ7_fill_fda19_8 (pm_nl X (by decide)) rfl ?_
  obtain ⟨n, hn⟩ := pm_lim_iter hf
  exact pm_sub [1, 3, 4, 0] rfl ((lpJ7_fill_fda19 C X q n) p1 p3 p4 p2 h hn)
