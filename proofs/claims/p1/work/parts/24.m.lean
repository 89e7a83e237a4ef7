theorem dX8_compareFloating_0 : decode cX8_compareFloating 0 = .ok (.iload_n 0, 1) := by decide +kernel
theorem dX8_compareFloating_1 : decode cX8_compareFloating 1 = .ok (.lload_n 2, 1) := by decide +kernel
theorem dX8_compareFloating_2 : decode cX8_compareFloating 2 = .ok (.invokestatic 74, 3) := by decide +kernel
theorem dX8_compareFloating_5 : decode cX8_compareFloating 5 = .ok (.ifCond .ne 12, 3) := by decide +kernel
theorem dX8_compareFloating_8 : decode cX8_compareFloating 8 = .ok (.iload_n 0, 1) := by decide +kernel
theorem dX8_compareFloating_9 : decode cX8_compareFloating 9 = .ok (.lload 4, 2) := by decide +kernel
theorem dX8_compareFloating_11 : decode cX8_compareFloating 11 = .ok (.invokestatic 74, 3) := by decide +kernel
theorem dX8_compareFloating_14 : decode cX8_compareFloating 14 = .ok (.ifCond .eq 14, 3) := by decide +kernel
theorem dX8_compareFloating_17 : decode cX8_compareFloating 17 = .ok (.iload_n 1, 1) := by decide +kernel
theorem dX8_compareFloating_18 : decode cX8_compareFloating 18 = .ok (.iconst 1, 1) := by decide +kernel
theorem dX8_compareFloating_19 : decode cX8_compareFloating 19 = .ok (.if_icmp .ne 7, 3) := by decide +kernel
theorem dX8_compareFloating_22 : decode cX8_compareFloating 22 = .ok (.lconst 1, 1) := by decide +kernel
theorem dX8_compareFloating_23 : decode cX8_compareFloating 23 = .ok (.goto 4, 3) := by decide +kernel
theorem dX8_compareFloating_26 : decode cX8_compareFloating 26 = .ok (.lconst 0, 1) := by decide +kernel
theorem dX8_compareFloating_27 : decode cX8_compareFloating 27 = .ok (.lreturn, 1) := by decide +kernel
theorem dX8_compareFloating_28 : decode cX8_compareFloating 28 = .ok (.iload_n 0, 1) := by decide +kernel
theorem dX8_compareFloating_29 : decode cX8_compareFloating 29 = .ok (.lload_n 2, 1) := by decide +kernel
theorem dX8_compareFloating_30 : decode cX8_compareFloating 30 = .ok (.invokestatic 78, 3) := by decide +kernel
theorem dX8_compareFloating_33 : decode cX8_compareFloating 33 = .ok (.ifCond .eq 7, 3) := by decide +kernel
theorem dX8_compareFloating_36 : decode cX8_compareFloating 36 = .ok (.lconst 0, 1) := by decide +kernel
theorem dX8_compareFloating_37 : decode cX8_compareFloating 37 = .ok (.goto 8, 3) := by decide +kernel
theorem dX8_compareFloating_40 : decode cX8_compareFloating 40 = .ok (.iload_n 0, 1) := by decide +kernel
theorem dX8_compareFloating_41 : decode cX8_compareFloating 41 = .ok (.lload_n 2, 1) := by decide +kernel
theorem dX8_compareFloating_42 : decode cX8_compareFloating 42 = .ok (.invokestatic 81, 3) := by decide +kernel
theorem dX8_compareFloating_45 : decode cX8_compareFloating 45 = .ok (.lstore 6, 2) := by decide +kernel
theorem dX8_compareFloating_47 : decode cX8_compareFloating 47 = .ok (.iload_n 0, 1) := by decide +kernel
theorem dX8_compareFloating_48 : decode cX8_compareFloating 48 = .ok (.lload 4, 2) := by decide +kernel
theorem dX8_compareFloating_50 : decode cX8_compareFloating 50 = .ok (.invokestatic 78, 3) := by decide +kernel
theorem dX8_compareFloating_53 : decode cX8_compareFloating 53 = .ok (.ifCond .eq 7, 3) := by decide +kernel
theorem dX8_compareFloating_56 : decode cX8_compareFloating 56 = .ok (.lconst 0, 1) := by decide +kernel
theorem dX8_compareFloating_57 : decode cX8_compareFloating 57 = .ok (.goto 9, 3) := by decide +kernel
theorem dX8_compareFloating_60 : decode cX8_compareFloating 60 = .ok (.iload_n 0, 1) := by decide +kernel
theorem dX8_compareFloating_61 : decode cX8_compareFloating 61 = .ok (.lload 4, 2) := by decide +kernel
theorem dX8_compareFloating_63 : decode cX8_compareFloating 63 = .ok (.invokestatic 81, 3) := by decide +kernel
theorem dX8_compareFloating_66 : decode cX8_compareFloating 66 = .ok (.lstore 8, 2) := by decide +kernel
theorem dX8_compareFloating_68 : decode cX8_compareFloating 68 = .ok (.iload_n 1, 1) := by decide +kernel
theorem dX8_compareFloating_69 : decode cX8_compareFloating 69 = .ok (.tableswitch 125 0 4 #[35, 53, 71, 89, 107], 35) := by decide +kernel
theorem dX8_compareFloating_104 : decode cX8_compareFloating 104 = .ok (.lload 6, 2) := by decide +kernel
theorem dX8_compareFloating_106 : decode cX8_compareFloating 106 = .ok (.lload 8, 2) := by decide +kernel
theorem dX8_compareFloating_108 : decode cX8_compareFloating 108 = .ok (.lcmp, 1) := by decide +kernel
theorem dX8_compareFloating_109 : decode cX8_compareFloating 109 = .ok (.ifCond .ne 7, 3) := by decide +kernel
theorem dX8_compareFloating_112 : decode cX8_compareFloating 112 = .ok (.iconst 1, 1) := by decide +kernel
theorem dX8_compareFloating_113 : decode cX8_compareFloating 113 = .ok (.goto 4, 3) := by decide +kernel
theorem dX8_compareFloating_116 : decode cX8_compareFloating 116 = .ok (.iconst 0, 1) := by decide +kernel
theorem dX8_compareFloating_117 : decode cX8_compareFloating 117 = .ok (.istore 10, 2) := by decide +kernel
theorem dX8_compareFloating_119 : decode cX8_compareFloating 119 = .ok (.goto 90, 3) := by decide +kernel
theorem dX8_compareFloating_122 : decode cX8_compareFloating 122 = .ok (.lload 6, 2) := by decide +kernel
theorem dX8_compareFloating_124 : decode cX8_compareFloating 124 = .ok (.lload 8, 2) := by decide +kernel
theorem dX8_compareFloating_126 : decode cX8_compareFloating 126 = .ok (.lcmp, 1) := by decide +kernel
theorem dX8_compareFloating_127 : decode cX8_compareFloating 127 = .ok (.ifCond .eq 7, 3) := by decide +kernel
theorem dX8_compareFloating_130 : decode cX8_compareFloating 130 = .ok (.iconst 1, 1) := by decide +kernel
theorem dX8_compareFloating_131 : decode cX8_compareFloating 131 = .ok (.goto 4, 3) := by decide +kernel
theorem dX8_compareFloating_134 : decode cX8_compareFloating 134 = .ok (.iconst 0, 1) := by decide +kernel
theorem dX8_compareFloating_135 : decode cX8_compareFloating 135 = .ok (.istore 10, 2) := by decide +kernel
theorem dX8_compareFloating_137 : decode cX8_compareFloating 137 = .ok (.goto 72, 3) := by decide +kernel
theorem dX8_compareFloating_140 : decode cX8_compareFloating 140 = .ok (.lload 6, 2) := by decide +kernel
theorem dX8_compareFloating_142 : decode cX8_compareFloating 142 = .ok (.lload 8, 2) := by decide +kernel
theorem dX8_compareFloating_144 : decode cX8_compareFloating 144 = .ok (.lcmp, 1) := by decide +kernel
theorem dX8_compareFloating_145 : decode cX8_compareFloating 145 = .ok (.ifCond .ge 7, 3) := by decide +kernel
theorem dX8_compareFloating_148 : decode cX8_compareFloating 148 = .ok (.iconst 1, 1) := by decide +kernel
theorem dX8_compareFloating_149 : decode cX8_compareFloating 149 = .ok (.goto 4, 3) := by decide +kernel
theorem dX8_compareFloating_152 : decode cX8_compareFloating 152 = .ok (.iconst 0, 1) := by decide +kernel
theorem dX8_compareFloating_153 : decode cX8_compareFloating 153 = .ok (.istore 10, 2) := by decide +kernel
theorem dX8_compareFloating_155 : decode cX8_compareFloating 155 = .ok (.goto 54, 3) := by decide +kernel
theorem dX8_compareFloating_158 : decode cX8_compareFloating 158 = .ok (.lload 6, 2) := by decide +kernel
theorem dX8_compareFloating_160 : decode cX8_compareFloating 160 = .ok (.lload 8, 2) := by decide +kernel
theorem dX8_compareFloating_162 : decode cX8_compareFloating 162 = .ok (.lcmp, 1) := by decide +kernel
theorem dX8_compareFloating_163 : decode cX8_compareFloating 163 = .ok (.ifCond .le 7, 3) := by decide +kernel
theorem dX8_compareFloating_166 : decode cX8_compareFloating 166 = .ok (.iconst 1, 1) := by decide +kernel
theorem dX8_compareFloating_167 : decode cX8_compareFloating 167 = .ok (.goto 4, 3) := by decide +kernel
theorem dX8_compareFloating_170 : decode cX8_compareFloating 170 = .ok (.iconst 0, 1) := by decide +kernel
theorem dX8_compareFloating_171 : decode cX8_compareFloating 171 = .ok (.istore 10, 2) := by decide +kernel
theorem dX8_compareFloating_173 : decode cX8_compareFloating 173 = .ok (.goto 36, 3) := by decide +kernel
theorem dX8_compareFloating_176 : decode cX8_compareFloating 176 = .ok (.lload 6, 2) := by decide +kernel
theorem dX8_compareFloating_178 : decode cX8_compareFloating 178 = .ok (.lload 8, 2) := by decide +kernel
theorem dX8_compareFloating_180 : decode cX8_compareFloating 180 = .ok (.lcmp, 1) := by decide +kernel
theorem dX8_compareFloating_181 : decode cX8_compareFloating 181 = .ok (.ifCond .gt 7, 3) := by decide +kernel
theorem dX8_compareFloating_184 : decode cX8_compareFloating 184 = .ok (.iconst 1, 1) := by decide +kernel
theorem dX8_compareFloating_185 : decode cX8_compareFloating 185 = .ok (.goto 4, 3) := by decide +kernel
theorem dX8_compareFloating_188 : decode cX8_compareFloating 188 = .ok (.iconst 0, 1) := by decide +kernel
theorem dX8_compareFloating_189 : decode cX8_compareFloating 189 = .ok (.istore 10, 2) := by decide +kernel
theorem dX8_compareFloating_191 : decode cX8_compareFloating 191 = .ok (.goto 18, 3) := by decide +kernel
theorem dX8_compareFloating_194 : decode cX8_compareFloating 194 = .ok (.lload 6, 2) := by decide +kernel
theorem dX8_compareFloating_196 : decode cX8_compareFloating 196 = .ok (.lload 8, 2) := by decide +kernel
theorem dX8_compareFloating_198 : decode cX8_compareFloating 198 = .ok (.lcmp, 1) := by decide +kernel
theorem dX8_compareFloating_199 : decode cX8_compareFloating 199 = .ok (.ifCond .lt 7, 3) := by decide +kernel
theorem dX8_compareFloating_202 : decode cX8_compareFloating 202 = .ok (.iconst 1, 1) := by decide +kernel
theorem dX8_compareFloating_203 : decode cX8_compareFloating 203 = .ok (.goto 4, 3) := by decide +kernel
theorem dX8_compareFloating_206 : decode cX8_compareFloating 206 = .ok (.iconst 0, 1) := by decide +kernel
theorem dX8_compareFloating_207 : decode cX8_compareFloating 207 = .ok (.istore 10, 2) := by decide +kernel
theorem dX8_compareFloating_209 : decode cX8_compareFloating 209 = .ok (.iload 10, 2) := by decide +kernel
theorem dX8_compareFloating_211 : decode cX8_compareFloating 211 = .ok (.ifCond .eq 7, 3) := by decide +kernel
theorem dX8_compareFloating_214 : decode cX8_compareFloating 214 = .ok (.lconst 1, 1) := by decide +kernel
theorem dX8_compareFloating_215 : decode cX8_compareFloating 215 = .ok (.goto 4, 3) := by decide +kernel
theorem dX8_compareFloating_218 : decode cX8_compareFloating 218 = .ok (.lconst 0, 1) := by decide +kernel
theorem dX8_compareFloating_219 : decode cX8_compareFloating 219 = .ok (.lreturn, 1) := by decide +kernel
def fX8_compareFloating_b209 (x10 : Int32) : Int64 := if x10 = 0 then (0) else (1)
def fX8_compareFloating_b66 (x1 : Int32) (x6 : Int64) (s0 : Int64) : Int64 := if x1 = 0 then (if x6 = s0 then (fX8_compareFloating_b209 1) else (fX8_compareFloating_b209 0)) else (if x1 = 1 then (if x6 = s0 then (fX8_compareFloating_b209 0) else (fX8_compareFloating_b209 1)) else (if x1 = 2 then (if s0 ≤ x6 then (fX8_compareFloating_b209 0) else (fX8_compareFloating_b209 1)) else (if x1 = 3 then (if x6 ≤ s0 then (fX8_compareFloating_b209 0) else (fX8_compareFloating_b209 1)) else (if x1 = 4 then (if s0 < x6 then (fX8_compareFloating_b209 0) else (fX8_compareFloating_b209 1)) else (if x6 < s0 then (fX8_compareFloating_b209 0) else (fX8_compareFloating_b209 1))))))
def fX8_compareFloating_b45 (x0 : Int32) (x1 : Int32) (x4 : Int64) (s0 : Int64) : Int64 := pm_let (fX8_isZero x0 x4) fun v14 => if v14 = 0 then (pm_let (fX8_order x0 x4) fun v17 => fX8_compareFloating_b66 x1 s0 v17) else (fX8_compareFloating_b66 x1 s0 0)
def fX8_compareFloating (p1 : Int32) (p2 : Int32) (p3 : Int64) (p4 : Int64) : Int64 := pm_let (fX8_isNone p1 p3) fun v1 => if v1 = 0 then (pm_let (fX8_isNone p1 p4) fun v5 => if v5 = 0 then (pm_let (fX8_isZero p1 p3) fun v8 => if v8 = 0 then (pm_let (fX8_order p1 p3) fun v11 => fX8_compareFloating_b45 p1 p2 p4 v11) else (fX8_compareFloating_b45 p1 p2 p4 0)) else (if p2 = 1 then (1) else (0))) else (if p2 = 1 then (1) else (0))
set_option maxHeartbeats 4000000 in
set_option maxRecDepth 100000 in
theorem bX8_compareFloating_209 {g : pm_Gm} {l : Launch} {G : pm_Gl} {Qr : Option Value → pm_H → Prop} (C : pm_C g cX8_compareFloating RX8) (X : pm_X g l G mX8_compareFloating 0 0 Qr) {h : pm_H} {x10 : Int32} {r : Int64} (hf : fX8_compareFloating_b209 x10 = r) (q : Qr (some (.long r)) h) : pm_G g 209 [(10, .int x10)] [] h 0 0 := by
  unfold fX8_compareFloating_b209 at hf
  refine pm_iload C dX8_compareFloating_209 rfl ?_
  refine pm_if_eq (tgt := 218) C dX8_compareFloating_211 (by decide) (fun c30 => ?_) (fun c30 => ?_)
  · have hf := pm_it hf c30
    refine pm_lconst (v := 0) C dX8_compareFloating_218 (by decide) ?_
    subst hf
    exact pm_lret C X dX8_compareFloating_219 rfl (Nat.le_refl _) (Nat.le_refl _) q
  · have hf := pm_ie hf c30
    refine pm_lconst (v := 1) C dX8_compareFloating_214 (by decide) ?_
    refine pm_goto (tgt := 219) C dX8_compareFloating_215 (by decide) ?_
    subst hf
    exact pm_lret C X dX8_compareFloating_219 rfl (Nat.le_refl _) (Nat.le_refl _) q
set_option maxHeartbeats 4000000 in
set_option maxRecDepth 100000 in
theorem bX8_compareFloating_66 {g : pm_Gm} {l : Launch} {G : pm_Gl} {Qr : Option Value → pm_H → Prop} (C : pm_C g cX8_compareFloating RX8) (X : pm_X g l G mX8_compareFloating 0 0 Qr) {h : pm_H} {x1 : Int32} {x6 : Int64} {s0 : Int64} {r : Int64} (hf : fX8_compareFloating_b66 x1 x6 s0 = r) (q : Qr (some (.long r)) h) : pm_G g 66 [(1, .int x1), (6, .long x6)] [.long s0] h 0 0 := by
  unfold fX8_compareFloating_b66 at hf
  refine pm_lstore (lv' := [(8, .long s0), (1, .int x1), (6, .long x6)]) C dX8_compareFloating_66 (pm_nl X (by decide)) rfl ?_
  refine pm_iload_n C dX8_compareFloating_68 rfl rfl ?_
  by_cases c19 : x1 = 0
  · have hf := pm_it hf c19
    refine pm_tableIn (tgt := 104) C dX8_compareFloating_69 (by rw [c19]; decide) (by rw [c19]; decide) (by rw [c19]; rfl) (by decide) ?_
    refine pm_lload C dX8_compareFloating_104 rfl ?_
    refine pm_lload C dX8_compareFloating_106 rfl ?_
    refine pm_lcmp C dX8_compareFloating_108 ?_
    refine pm_if_ne (tgt := 116) C dX8_compareFloating_109 (by decide) (fun c20 => ?_) (fun c20 => ?_)
    · have hf := pm_ie hf ((fun z => c20 ((pm_lg_eq _ _).mpr z)))
      refine pm_iconst (v := 0) C dX8_compareFloating_116 (by decide) ?_
      refine pm_istore (lv' := [(10, .int 0), (8, .long s0), (1, .int x1), (6, .long x6)]) C dX8_compareFloating_117 (pm_nl X (by decide)) rfl ?_
      refine pm_goto (tgt := 209) C dX8_compareFloating_119 (by decide) ?_
      exact pm_sub [0] rfl (bX8_compareFloating_209 C X hf q)
    · have hf := pm_it hf ((pm_lg_eq _ _).mp c20)
      refine pm_iconst (v := 1) C dX8_compareFloating_112 (by decide) ?_
      refine pm_goto (tgt := 117) C dX8_compareFloating_113 (by decide) ?_
      refine pm_istore (lv' := [(10, .int 1), (8, .long s0), (1, .int x1), (6, .long x6)]) C dX8_compareFloating_117 (pm_nl X (by decide)) rfl ?_
      refine pm_goto (tgt := 209) C dX8_compareFloating_119 (by decide) ?_
      exact pm_sub [0] rfl (bX8_compareFloating_209 C X hf q)
  have hf := pm_ie hf c19
  by_cases c21 : x1 = 1
  · have hf := pm_it hf c21
    refine pm_tableIn (tgt := 122) C dX8_compareFloating_69 (by rw [c21]; decide) (by rw [c21]; decide) (by rw [c21]; rfl) (by decide) ?_
    refine pm_lload C dX8_compareFloating_122 rfl ?_
    refine pm_lload C dX8_compareFloating_124 rfl ?_
    refine pm_lcmp C dX8_compareFloating_126 ?_
    refine pm_if_eq (tgt := 134) C dX8_compareFloating_127 (by decide) (fun c22 => ?_) (fun c22 => ?_)
    · have hf := pm_it hf ((pm_lg_eq _ _).mp c22)
      refine pm_iconst (v := 0) C dX8_compareFloating_134 (by decide) ?_
      refine pm_istore (lv' := [(10, .int 0), (8, .long s0), (1, .int x1), (6, .long x6)]) C dX8_compareFloating_135 (pm_nl X (by decide)) rfl ?_
      refine pm_goto (tgt := 209) C dX8_compareFloating_137 (by decide) ?_
      exact pm_sub [0] rfl (bX8_compareFloating_209 C X hf q)
    · have hf := pm_ie hf ((fun z => c22 ((pm_lg_eq _ _).mpr z)))
      refine pm_iconst (v := 1) C dX8_compareFloating_130 (by decide) ?_
      refine pm_goto (tgt := 135) C dX8_compareFloating_131 (by decide) ?_
      refine pm_istore (lv' := [(10, .int 1), (8, .long s0), (1, .int x1), (6, .long x6)]) C dX8_compareFloating_135 (pm_nl X (by decide)) rfl ?_
      refine pm_goto (tgt := 209) C dX8_compareFloating_137 (by decide) ?_
      exact pm_sub [0] rfl (bX8_compareFloating_209 C X hf q)
  have hf := pm_ie hf c21
  by_cases c23 : x1 = 2
  · have hf := pm_it hf c23
    refine pm_tableIn (tgt := 140) C dX8_compareFloating_69 (by rw [c23]; decide) (by rw [c23]; decide) (by rw [c23]; rfl) (by decide) ?_
    refine pm_lload C dX8_compareFloating_140 rfl ?_
    refine pm_lload C dX8_compareFloating_142 rfl ?_
    refine pm_lcmp C dX8_compareFloating_144 ?_
    refine pm_if_ge (tgt := 152) C dX8_compareFloating_145 (by decide) (fun c24 => ?_) (fun c24 => ?_)
    · have hf := pm_it hf ((pm_lg_ge _ _).mp c24)
      refine pm_iconst (v := 0) C dX8_compareFloating_152 (by decide) ?_
      refine pm_istore (lv' := [(10, .int 0), (8, .long s0), (1, .int x1), (6, .long x6)]) C dX8_compareFloating_153 (pm_nl X (by decide)) rfl ?_
      refine pm_goto (tgt := 209) C dX8_compareFloating_155 (by decide) ?_
      exact pm_sub [0] rfl (bX8_compareFloating_209 C X hf q)
    · have hf := pm_ie hf ((fun z => c24 ((pm_lg_ge _ _).mpr z)))
      refine pm_iconst (v := 1) C dX8_compareFloating_148 (by decide) ?_
      refine pm_goto (tgt := 153) C dX8_compareFloating_149 (by decide) ?_
      refine pm_istore (lv' := [(10, .int 1), (8, .long s0), (1, .int x1), (6, .long x6)]) C dX8_compareFloating_153 (pm_nl X (by decide)) rfl ?_
      refine pm_goto (tgt := 209) C dX8_compareFloating_155 (by decide) ?_
      exact pm_sub [0] rfl (bX8_compareFloating_209 C X hf q)
  have hf := pm_ie hf c23
  by_cases c25 : x1 = 3
  · have hf := pm_it hf c25
    refine pm_tableIn (tgt := 158) C dX8_compareFloating_69 (by rw [c25]; decide) (by rw [c25]; decide) (by rw [c25]; rfl) (by decide) ?_
    refine pm_lload C dX8_compareFloating_158 rfl ?_
    refine pm_lload C dX8_compareFloating_160 rfl ?_
    refine pm_lcmp C dX8_compareFloating_162 ?_
    refine pm_if_le (tgt := 170) C dX8_compareFloating_163 (by decide) (fun c26 => ?_) (fun c26 => ?_)
    · have hf := pm_it hf ((pm_lg_le _ _).mp c26)
      refine pm_iconst (v := 0) C dX8_compareFloating_170 (by decide) ?_
      refine pm_istore (lv' := [(10, .int 0), (8, .long s0), (1, .int x1), (6, .long x6)]) C dX8_compareFloating_171 (pm_nl X (by decide)) rfl ?_
      refine pm_goto (tgt := 209) C dX8_compareFloating_173 (by decide) ?_
      exact pm_sub [0] rfl (bX8_compareFloating_209 C X hf q)
    · have hf := pm_ie hf ((fun z => c26 ((pm_lg_le _ _).mpr z)))
      refine pm_iconst (v := 1) C dX8_compareFloating_166 (by decide) ?_
      refine pm_goto (tgt := 171) C dX8_compareFloating_167 (by decide) ?_
      refine pm_istore (lv' := [(10, .int 1), (8, .long s0), (1, .int x1), (6, .long x6)]) C dX8_compareFloating_171 (pm_nl X (by decide)) rfl ?_
      refine pm_goto (tgt := 209) C dX8_compareFloating_173 (by decide) ?_
      exact pm_sub [0] rfl (bX8_compareFloating_209 C X hf q)
  have hf := pm_ie hf c25
  by_cases c27 : x1 = 4
  · have hf := pm_it hf c27
    refine pm_tableIn (tgt := 176) C dX8_compareFloating_69 (by rw [c27]; decide) (by rw [c27]; decide) (by rw [c27]; rfl) (by decide) ?_
    refine pm_lload C dX8_compareFloating_176 rfl ?_
    refine pm_lload C dX8_compareFloating_178 rfl ?_
    refine pm_lcmp C dX8_compareFloating_180 ?_
    refine pm_if_gt (tgt := 188) C dX8_compareFloating_181 (by decide) (fun c28 => ?_) (fun c28 => ?_)
    · have hf := pm_it hf ((pm_lg_gt _ _).mp c28)
      refine pm_iconst (v := 0) C dX8_compareFloating_188 (by decide) ?_
      refine pm_istore (lv' := [(10, .int 0), (8, .long s0), (1, .int x1), (6, .long x6)]) C dX8_compareFloating_189 (pm_nl X (by decide)) rfl ?_
      refine pm_goto (tgt := 209) C dX8_compareFloating_191 (by decide) ?_
      exact pm_sub [0] rfl (bX8_compareFloating_209 C X hf q)
    · have hf := pm_ie hf ((fun z => c28 ((pm_lg_gt _ _).mpr z)))
      refine pm_iconst (v := 1) C dX8_compareFloating_184 (by decide) ?_
      refine pm_goto (tgt := 189) C dX8_compareFloating_185 (by decide) ?_
      refine pm_istore (lv' := [(10, .int 1), (8, .long s0), (1, .int x1), (6, .long x6)]) C dX8_compareFloating_189 (pm_nl X (by decide)) rfl ?_
      refine pm_goto (tgt := 209) C dX8_compareFloating_191 (by decide) ?_
      exact pm_sub [0] rfl (bX8_compareFloating_209 C X hf q)
  have hf := pm_ie hf c27
  have nc19 := lv_neT c19 (by decide : (0 : Int32).toInt = 0)
  have nc21 := lv_neT c21 (by decide : (1 : Int32).toInt = 1)
  have nc23 := lv_neT c23 (by decide : (2 : Int32).toInt = 2)
  have nc25 := lv_neT c25 (by decide : (3 : Int32).toInt = 3)
  have nc27 := lv_neT c27 (by decide : (4 : Int32).toInt = 4)
  refine pm_tableOut (tgt := 194) C dX8_compareFloating_69 (by omega) (by decide) ?_
  refine pm_lload C dX8_compareFloating_194 rfl ?_
  refine pm_lload C dX8_compareFloating_196 rfl ?_
  refine pm_lcmp C dX8_compareFloating_198 ?_
  refine pm_if_lt (tgt := 206) C dX8_compareFloating_199 (by decide) (fun c29 => ?_) (fun c29 => ?_)
  · have hf := pm_it hf ((pm_lg_lt _ _).mp c29)
    refine pm_iconst (v := 0) C dX8_compareFloating_206 (by decide) ?_
    refine pm_istore (lv' := [(10, .int 0), (8, .long s0), (1, .int x1), (6, .long x6)]) C dX8_compareFloating_207 (pm_nl X (by decide)) rfl ?_
    exact pm_sub [0] rfl (bX8_compareFloating_209 C X hf q)
  · have hf := pm_ie hf ((fun z => c29 ((pm_lg_lt _ _).mpr z)))
    refine pm_iconst (v := 1) C dX8_compareFloating_202 (by decide) ?_
    refine pm_goto (tgt := 207) C dX8_compareFloating_203 (by decide) ?_
    refine pm_istore (lv' := [(10, .int 1), (8, .long s0), (1, .int x1), (6, .long x6)]) C dX8_compareFloating_207 (pm_nl X (by decide)) rfl ?_
    exact pm_sub [0] rfl (bX8_compareFloating_209 C X hf q)
set_option maxHeartbeats 4000000 in
set_option maxRecDepth 100000 in
theorem bX8_compareFloating_45 {g : pm_Gm} {l : Launch} {G : pm_Gl} {Qr : Option Value → pm_H → Prop} (C : pm_C g cX8_compareFloating RX8) (X : pm_X g l G mX8_compareFloating 0 0 Qr) {h : pm_H} {x0 : Int32} {x1 : Int32} {x4 : Int64} {s0 : Int64} {r : Int64} (hf : fX8_compareFloating_b45 x0 x1 x4 s0 = r) (q : Qr (some (.long r)) h) : pm_G g 45 [(0, .int x0), (1, .int x1), (4, .long x4)] [.long s0] h 0 0 := by
  unfold fX8_compareFloating_b45 at hf
  refine pm_lstore (lv' := [(6, .long s0), (0, .int x0), (1, .int x1), (4, .long x4)]) C dX8_compareFloating_45 (pm_nl X (by decide)) rfl ?_
  refine pm_iload_n C dX8_compareFloating_47 rfl rfl ?_
  refine pm_lload C dX8_compareFloating_48 rfl ?_
  obtain ⟨v14, e15, hf⟩ := pm_lt hf
  refine pm_callS (as := [.int x0, .long x4]) (st := []) C X dX8_compareFloating_50 lnX8_78 myX8_isZero stX8_isZero ⟨by decide, by decide⟩ rfl rfl (Nat.le_of_ble_eq_true rfl) (Nat.le_refl _) (Nat.le_refl _) (ctX8_isZero e15 ?_)
  show pm_G g 53 [(6, .long s0), (0, .int x0), (1, .int x1), (4, .long x4)] [.int v14] h 0 0
  refine pm_if_eq (tgt := 60) C dX8_compareFloating_53 (by decide) (fun c16 => ?_) (fun c16 => ?_)
  · have hf := pm_it hf c16
    refine pm_iload_n C dX8_compareFloating_60 rfl rfl ?_
    refine pm_lload C dX8_compareFloating_61 rfl ?_
    obtain ⟨v17, e18, hf⟩ := pm_lt hf
    refine pm_callS (as := [.int x0, .long x4]) (st := []) C X dX8_compareFloating_63 lnX8_81 myX8_order stX8_order ⟨by decide, by decide⟩ rfl rfl (Nat.le_of_ble_eq_true rfl) (Nat.le_refl _) (Nat.le_refl _) (ctX8_order e18 ?_)
    show pm_G g 66 [(6, .long s0), (0, .int x0), (1, .int x1), (4, .long x4)] [.long v17] h 0 0
    exact pm_sub [2, 0] rfl (bX8_compareFloating_66 C X hf q)
  · have hf := pm_ie hf c16
    refine pm_lconst (v := 0) C dX8_compareFloating_56 (by decide) ?_
    refine pm_goto (tgt := 66) C dX8_compareFloating_57 (by decide) ?_
    exact pm_sub [2, 0] rfl (bX8_compareFloating_66 C X hf q)
set_option maxHeartbeats 4000000 in
set_option maxRecDepth 100000 in
theorem ctX8_compareFloating {l : Launch} {G : pm_Gl} {h : pm_H} {p1 : Int32} {p2 : Int32} {p3 : Int64} {p4 : Int64} {r : Int64} {Qr : Option Value → pm_H → Prop} (hf : fX8_compareFloating p1 p2 p3 p4 = r) (q : Qr (some (.long r)) h) : pm_Ct l G mX8_compareFloating [.int p1, .int p2, .long p3, .long p4] h 0 0 Qr := by
  refine pm_body pnX8 (Nat.le_of_ble_eq_true rfl) (fun g C X => ?_)
  have C : pm_C g cX8_compareFloating RX8 := C
  show pm_G g 0 [(0, .int p1), (1, .int p2), (2, .long p3), (4, .long p4)] [] h 0 0
  unfold fX8_compareFloating at hf
  refine pm_iload_n C dX8_compareFloating_0 rfl rfl ?_
  refine pm_lload_n C dX8_compareFloating_1 rfl rfl ?_
  obtain ⟨v1, e2, hf⟩ := pm_lt hf
  refine pm_callS (as := [.int p1, .long p3]) (st := []) C X dX8_compareFloating_2 lnX8_74 myX8_isNone stX8_isNone ⟨by decide, by decide⟩ rfl rfl (Nat.le_of_ble_eq_true rfl) (Nat.le_refl _) (Nat.le_refl _) (ctX8_isNone e2 ?_)
  show pm_G g 5 [(0, .int p1), (1, .int p2), (2, .long p3), (4, .long p4)] [.int v1] h 0 0
  refine pm_if_ne (tgt := 17) C dX8_compareFloating_5 (by decide) (fun c3 => ?_) (fun c3 => ?_)
  · have hf := pm_ie hf c3
    refine pm_iload_n C dX8_compareFloating_17 rfl rfl ?_
    refine pm_iconst (v := 1) C dX8_compareFloating_18 (by decide) ?_
    refine pm_icmp_ne (tgt := 26) C dX8_compareFloating_19 (by decide) (fun c4 => ?_) (fun c4 => ?_)
    · have hf := pm_ie hf c4
      refine pm_lconst (v := 0) C dX8_compareFloating_26 (by decide) ?_
      subst hf
      exact pm_lret C X dX8_compareFloating_27 rfl (Nat.le_refl _) (Nat.le_refl _) q
    · have hf := pm_it hf c4
      refine pm_lconst (v := 1) C dX8_compareFloating_22 (by decide) ?_
      refine pm_goto (tgt := 27) C dX8_compareFloating_23 (by decide) ?_
      subst hf
      exact pm_lret C X dX8_compareFloating_27 rfl (Nat.le_refl _) (Nat.le_refl _) q
  · have hf := pm_it hf c3
    refine pm_iload_n C dX8_compareFloating_8 rfl rfl ?_
    refine pm_lload C dX8_compareFloating_9 rfl ?_
    obtain ⟨v5, e6, hf⟩ := pm_lt hf
    refine pm_callS (as := [.int p1, .long p4]) (st := []) C X dX8_compareFloating_11 lnX8_74 myX8_isNone stX8_isNone ⟨by decide, by decide⟩ rfl rfl (Nat.le_of_ble_eq_true rfl) (Nat.le_refl _) (Nat.le_refl _) (ctX8_isNone e6 ?_)
    show pm_G g 14 [(0, .int p1), (1, .int p2), (2, .long p3), (4, .long p4)] [.int v5] h 0 0
    refine pm_if_eq (tgt := 28) C dX8_compareFloating_14 (by decide) (fun c7 => ?_) (fun c7 => ?_)
    · have hf := pm_it hf c7
      refine pm_iload_n C dX8_compareFloating_28 rfl rfl ?_
      refine pm_lload_n C dX8_compareFloating_29 rfl rfl ?_
      obtain ⟨v8, e9, hf⟩ := pm_lt hf
      refine pm_callS (as := [.int p1, .long p3]) (st := []) C X dX8_compareFloating_30 lnX8_78 myX8_isZero stX8_isZero ⟨by decide, by decide⟩ rfl rfl (Nat.le_of_ble_eq_true rfl) (Nat.le_refl _) (Nat.le_refl _) (ctX8_isZero e9 ?_)
      show pm_G g 33 [(0, .int p1), (1, .int p2), (2, .long p3), (4, .long p4)] [.int v8] h 0 0
      refine pm_if_eq (tgt := 40) C dX8_compareFloating_33 (by decide) (fun c10 => ?_) (fun c10 => ?_)
      · have hf := pm_it hf c10
        refine pm_iload_n C dX8_compareFloating_40 rfl rfl ?_
        refine pm_lload_n C dX8_compareFloating_41 rfl rfl ?_
        obtain ⟨v11, e12, hf⟩ := pm_lt hf
        refine pm_callS (as := [.int p1, .long p3]) (st := []) C X dX8_compareFloating_42 lnX8_81 myX8_order stX8_order ⟨by decide, by decide⟩ rfl rfl (Nat.le_of_ble_eq_true rfl) (Nat.le_refl _) (Nat.le_refl _) (ctX8_order e12 ?_)
        show pm_G g 45 [(0, .int p1), (1, .int p2), (2, .long p3), (4, .long p4)] [.long v11] h 0 0
        exact pm_sub [0, 1, 3] rfl (bX8_compareFloating_45 C X hf q)
      · have hf := pm_ie hf c10
        refine pm_lconst (v := 0) C dX8_compareFloating_36 (by decide) ?_
        refine pm_goto (tgt := 45) C dX8_compareFloating_37 (by decide) ?_
        exact pm_sub [0, 1, 3] rfl (bX8_compareFloating_45 C X hf q)
    · have hf := pm_ie hf c7
      refine pm_iload_n C dX8_compareFloating_17 rfl rfl ?_
      refine pm_iconst (v := 1) C dX8_compareFloating_18 (by decide) ?_
      refine pm_icmp_ne (tgt := 26) C dX8_compareFloating_19 (by decide) (fun c13 => ?_) (fun c13 => ?_)
      · have hf := pm_ie hf c13
        refine pm_lconst (v := 0) C dX8_compareFloating_26 (by decide) ?_
        subst hf
        exact pm_lret C X dX8_compareFloating_27 rfl (Nat.le_refl _) (Nat.le_refl _) q
      · have hf := pm_it hf c13
        refine pm_lconst (v := 1) C dX8_compareFloating_22 (by decide) ?_
        refine pm_goto (tgt := 27) C dX8_compareFloating_23 (by decide) ?_
        subst hf
        exact pm_lret C X dX8_compareFloating_27 rfl (Nat.le_refl _) (Nat.le_refl _) q
theorem dX8_divide64_0 : decode cX8_divide64 0 = .ok (.lload 4, 2) := by decide +kernel
theorem dX8_divide64_2 : decode cX8_divide64 2 = .ok (.lconst 0, 1) := by decide +kernel
theorem dX8_divide64_3 : decode cX8_divide64 3 = .ok (.lcmp, 1) := by decide +kernel
theorem dX8_divide64_4 : decode cX8_divide64 4 = .ok (.ifCond .ne 10, 3) := by decide +kernel
theorem dX8_divide64_7 : decode cX8_divide64 7 = .ok (.aload_n 0, 1) := by decide +kernel
theorem dX8_divide64_8 : decode cX8_divide64 8 = .ok (.iconst 2, 1) := by decide +kernel
theorem dX8_divide64_9 : decode cX8_divide64 9 = .ok (.putfield 31, 3) := by decide +kernel
theorem dX8_divide64_12 : decode cX8_divide64 12 = .ok (.lconst 0, 1) := by decide +kernel
theorem dX8_divide64_13 : decode cX8_divide64 13 = .ok (.lreturn, 1) := by decide +kernel
theorem dX8_divide64_14 : decode cX8_divide64 14 = .ok (.iload_n 1, 1) := by decide +kernel
theorem dX8_divide64_15 : decode cX8_divide64 15 = .ok (.bipush 7, 2) := by decide +kernel
theorem dX8_divide64_17 : decode cX8_divide64 17 = .ok (.if_icmp .ne 10, 3) := by decide +kernel
theorem dX8_divide64_20 : decode cX8_divide64 20 = .ok (.lload_n 2, 1) := by decide +kernel
theorem dX8_divide64_21 : decode cX8_divide64 21 = .ok (.lload 4, 2) := by decide +kernel
theorem dX8_divide64_23 : decode cX8_divide64 23 = .ok (.invokestatic 109, 3) := by decide +kernel
theorem dX8_divide64_26 : decode cX8_divide64 26 = .ok (.lreturn, 1) := by decide +kernel
theorem dX8_divide64_27 : decode cX8_divide64 27 = .ok (.iload_n 1, 1) := by decide +kernel
theorem dX8_divide64_28 : decode cX8_divide64 28 = .ok (.bipush 9, 2) := by decide +kernel
theorem dX8_divide64_30 : decode cX8_divide64 30 = .ok (.if_icmp .ne 15, 3) := by decide +kernel
theorem dX8_divide64_33 : decode cX8_divide64 33 = .ok (.lload_n 2, 1) := by decide +kernel
theorem dX8_divide64_34 : decode cX8_divide64 34 = .ok (.lload 4, 2) := by decide +kernel
theorem dX8_divide64_36 : decode cX8_divide64 36 = .ok (.lload_n 2, 1) := by decide +kernel
theorem dX8_divide64_37 : decode cX8_divide64 37 = .ok (.lload 4, 2) := by decide +kernel
theorem dX8_divide64_39 : decode cX8_divide64 39 = .ok (.invokestatic 109, 3) := by decide +kernel
theorem dX8_divide64_42 : decode cX8_divide64 42 = .ok (.lmul, 1) := by decide +kernel
theorem dX8_divide64_43 : decode cX8_divide64 43 = .ok (.lsub, 1) := by decide +kernel
theorem dX8_divide64_44 : decode cX8_divide64 44 = .ok (.lreturn, 1) := by decide +kernel
theorem dX8_divide64_45 : decode cX8_divide64 45 = .ok (.lload_n 2, 1) := by decide +kernel
theorem dX8_divide64_46 : decode cX8_divide64 46 = .ok (.ldc2_w 72, 3) := by decide +kernel
theorem dX8_divide64_49 : decode cX8_divide64 49 = .ok (.lcmp, 1) := by decide +kernel
theorem dX8_divide64_50 : decode cX8_divide64 50 = .ok (.ifCond .ne 16, 3) := by decide +kernel
theorem dX8_divide64_53 : decode cX8_divide64 53 = .ok (.lload 4, 2) := by decide +kernel
theorem dX8_divide64_55 : decode cX8_divide64 55 = .ok (.ldc2_w 113, 3) := by decide +kernel
theorem dX8_divide64_58 : decode cX8_divide64 58 = .ok (.lcmp, 1) := by decide +kernel
theorem dX8_divide64_59 : decode cX8_divide64 59 = .ok (.ifCond .ne 7, 3) := by decide +kernel
theorem dX8_divide64_62 : decode cX8_divide64 62 = .ok (.iconst 1, 1) := by decide +kernel
theorem dX8_divide64_63 : decode cX8_divide64 63 = .ok (.goto 4, 3) := by decide +kernel
theorem dX8_divide64_66 : decode cX8_divide64 66 = .ok (.iconst 0, 1) := by decide +kernel
theorem dX8_divide64_67 : decode cX8_divide64 67 = .ok (.istore 6, 2) := by decide +kernel
theorem dX8_divide64_69 : decode cX8_divide64 69 = .ok (.iload 6, 2) := by decide +kernel
theorem dX8_divide64_71 : decode cX8_divide64 71 = .ok (.ifCond .eq 14, 3) := by decide +kernel
theorem dX8_divide64_74 : decode cX8_divide64 74 = .ok (.iload_n 1, 1) := by decide +kernel
theorem dX8_divide64_75 : decode cX8_divide64 75 = .ok (.bipush 6, 2) := by decide +kernel
theorem dX8_divide64_77 : decode cX8_divide64 77 = .ok (.if_icmp .ne 8, 3) := by decide +kernel
theorem dX8_divide64_80 : decode cX8_divide64 80 = .ok (.aload_n 0, 1) := by decide +kernel
theorem dX8_divide64_81 : decode cX8_divide64 81 = .ok (.iconst 3, 1) := by decide +kernel
theorem dX8_divide64_82 : decode cX8_divide64 82 = .ok (.putfield 31, 3) := by decide +kernel
theorem dX8_divide64_85 : decode cX8_divide64 85 = .ok (.iload 6, 2) := by decide +kernel
theorem dX8_divide64_87 : decode cX8_divide64 87 = .ok (.ifCond .eq 5, 3) := by decide +kernel
theorem dX8_divide64_90 : decode cX8_divide64 90 = .ok (.lconst 0, 1) := by decide +kernel
theorem dX8_divide64_91 : decode cX8_divide64 91 = .ok (.lreturn, 1) := by decide +kernel
theorem dX8_divide64_92 : decode cX8_divide64 92 = .ok (.iload_n 1, 1) := by decide +kernel
theorem dX8_divide64_93 : decode cX8_divide64 93 = .ok (.bipush 6, 2) := by decide +kernel
theorem dX8_divide64_95 : decode cX8_divide64 95 = .ok (.if_icmp .ne 10, 3) := by decide +kernel
theorem dX8_divide64_98 : decode cX8_divide64 98 = .ok (.lload_n 2, 1) := by decide +kernel
theorem dX8_divide64_99 : decode cX8_divide64 99 = .ok (.lload 4, 2) := by decide +kernel
theorem dX8_divide64_101 : decode cX8_divide64 101 = .ok (.ldiv, 1) := by decide +kernel
theorem dX8_divide64_102 : decode cX8_divide64 102 = .ok (.goto 7, 3) := by decide +kernel
theorem dX8_divide64_105 : decode cX8_divide64 105 = .ok (.lload_n 2, 1) := by decide +kernel
theorem dX8_divide64_106 : decode cX8_divide64 106 = .ok (.lload 4, 2) := by decide +kernel
theorem dX8_divide64_108 : decode cX8_divide64 108 = .ok (.lrem, 1) := by decide +kernel
theorem dX8_divide64_109 : decode cX8_divide64 109 = .ok (.lreturn, 1) := by decide +kernel
def fX8_divide64_b67 (h : pm_H) (x0 : Nat) (x1 : Int32) (x2 : Int64) (x4 : Int64) (s0 : Int32) : Option (Int64 × pm_H) := if s0 = 0 then (if s0 = 0 then (if x1 = 6 then (if ¬ x4 = 0 then some ((x2 / x4, h)) else none) else (if ¬ x4 = 0 then some ((x2 - x2 / x4 * x4, h)) else none)) else (some ((0, h)))) else (if x1 = 6 then (if pm_kd h x0 = 8 then if s0 = 0 then (if x1 = 6 then (if ¬ x4 = 0 then some ((x2 / x4, pm_setI h x0 0 3)) else none) else (if ¬ x4 = 0 then some ((x2 - x2 / x4 * x4, pm_setI h x0 0 3)) else none)) else (some ((0, pm_setI h x0 0 3))) else none) else (if s0 = 0 then (if x1 = 6 then (if ¬ x4 = 0 then some ((x2 / x4, h)) else none) else (if ¬ x4 = 0 then some ((x2 - x2 / x4 * x4, h)) else none)) else (some ((0, h)))))
def fX8_divide64_b66 (h : pm_H) (x0 : Nat) (x1 : Int32) (x2 : Int64) (x4 : Int64) : Option (Int64 × pm_H) := fX8_divide64_b67 h x0 x1 x2 x4 0
def fX8_divide64 (h : pm_H) (a0 : Nat) (p1 : Int32) (p2 : Int64) (p3 : Int64) : Option (Int64 × pm_H) := if p3 = 0 then (if pm_kd h a0 = 8 then some ((0, pm_setI h a0 0 2)) else none) else (if p1 = 7 then ((fX8_quotientWithoutSign p2 p3).bind fun v8 => some ((v8, h))) else (if p1 = 9 then ((fX8_quotientWithoutSign p2 p3).bind fun v6 => some ((p2 - (p3 * v6), h))) else (if p2 = (-9223372036854775808) then (if p3 = (-1) then (fX8_divide64_b67 h a0 p1 p2 p3 1) else (fX8_divide64_b66 h a0 p1 p2 p3)) else (fX8_divide64_b66 h a0 p1 p2 p3))))
set_option maxHeartbeats 4000000 in
set_option maxRecDepth 100000 in
theorem bX8_divide64_67 {g : pm_Gm} {l : Launch} {G : pm_Gl} {Qr : Option Value → pm_H → Prop} (C : pm_C g cX8_divide64 RX8) (X : pm_X g l G mX8_divide64 0 0 Qr) {h : pm_H} {x0 : Nat} {x1 : Int32} {x2 : Int64} {x4 : Int64} {s0 : Int32} {r : (Int64 × pm_H)} (hf : fX8_divide64_b67 h x0 x1 x2 x4 s0 = some r) (q : Qr (some (.long r.1)) r.2) : pm_G g 67 [(0, .ref x0), (1, .int x1), (2, .long x2), (4, .long x4)] [.int s0] h 0 0 := by
  unfold fX8_divide64_b67 at hf
  refine pm_istore (lv' := [(6, .int s0), (0, .ref x0), (1, .int x1), (2, .long x2), (4, .long x4)]) C dX8_divide64_67 (pm_nl X (by decide)) rfl ?_
  refine pm_iload C dX8_divide64_69 rfl ?_
  refine pm_if_eq (tgt := 85) C dX8_divide64_71 (by decide) (fun c11 => ?_) (fun c11 => ?_)
  · have hf := pm_it hf c11
    refine pm_iload C dX8_divide64_85 rfl ?_
    refine pm_if_eq (tgt := 92) C dX8_divide64_87 (by decide) (fun c12 => ?_) (fun c12 => ?_)
    · have hf := pm_it hf c12
      refine pm_iload_n C dX8_divide64_92 rfl rfl ?_
      refine pm_bipush (v := 6) C dX8_divide64_93 (by decide) ?_
      refine pm_icmp_ne (tgt := 105) C dX8_divide64_95 (by decide) (fun c13 => ?_) (fun c13 => ?_)
      · have hf := pm_ie hf c13
        refine pm_lload_n C dX8_divide64_105 rfl rfl ?_
        refine pm_lload C dX8_divide64_106 rfl ?_
        obtain ⟨u14, hf⟩ := pm_if hf
        refine pm_lrem C dX8_divide64_108 u14 ?_
        cases hf
        exact pm_lret C X dX8_divide64_109 rfl (Nat.le_refl _) (Nat.le_refl _) q
      · have hf := pm_it hf c13
        refine pm_lload_n C dX8_divide64_98 rfl rfl ?_
        refine pm_lload C dX8_divide64_99 rfl ?_
        obtain ⟨u15, hf⟩ := pm_if hf
        refine pm_ldiv C dX8_divide64_101 u15 ?_
        refine pm_goto (tgt := 109) C dX8_divide64_102 (by decide) ?_
        cases hf
        exact pm_lret C X dX8_divide64_109 rfl (Nat.le_refl _) (Nat.le_refl _) q
    · have hf := pm_ie hf c12
      refine pm_lconst (v := 0) C dX8_divide64_90 (by decide) ?_
      cases hf
      exact pm_lret C X dX8_divide64_91 rfl (Nat.le_refl _) (Nat.le_refl _) q
  · have hf := pm_ie hf c11
    refine pm_iload_n C dX8_divide64_74 rfl rfl ?_
    refine pm_bipush (v := 6) C dX8_divide64_75 (by decide) ?_
    refine pm_icmp_ne (tgt := 85) C dX8_divide64_77 (by decide) (fun c16 => ?_) (fun c16 => ?_)
    · have hf := pm_ie hf c16
      refine pm_iload C dX8_divide64_85 rfl ?_
      refine pm_if_eq (tgt := 92) C dX8_divide64_87 (by decide) (fun c17 => ?_) (fun c17 => ?_)
      · have hf := pm_it hf c17
        refine pm_iload_n C dX8_divide64_92 rfl rfl ?_
        refine pm_bipush (v := 6) C dX8_divide64_93 (by decide) ?_
        refine pm_icmp_ne (tgt := 105) C dX8_divide64_95 (by decide) (fun c18 => ?_) (fun c18 => ?_)
        · have hf := pm_ie hf c18
          refine pm_lload_n C dX8_divide64_105 rfl rfl ?_
          refine pm_lload C dX8_divide64_106 rfl ?_
          obtain ⟨u19, hf⟩ := pm_if hf
          refine pm_lrem C dX8_divide64_108 u19 ?_
          cases hf
          exact pm_lret C X dX8_divide64_109 rfl (Nat.le_refl _) (Nat.le_refl _) q
        · have hf := pm_it hf c18
          refine pm_lload_n C dX8_divide64_98 rfl rfl ?_
          refine pm_lload C dX8_divide64_99 rfl ?_
          obtain ⟨u20, hf⟩ := pm_if hf
          refine pm_ldiv C dX8_divide64_101 u20 ?_
          refine pm_goto (tgt := 109) C dX8_divide64_102 (by decide) ?_
          cases hf
          exact pm_lret C X dX8_divide64_109 rfl (Nat.le_refl _) (Nat.le_refl _) q
      · have hf := pm_ie hf c17
        refine pm_lconst (v := 0) C dX8_divide64_90 (by decide) ?_
        cases hf
        exact pm_lret C X dX8_divide64_91 rfl (Nat.le_refl _) (Nat.le_refl _) q
    · have hf := pm_it hf c16
      refine pm_aload_n C dX8_divide64_80 rfl rfl ?_
      refine pm_iconst (v := 3) C dX8_divide64_81 (by decide) ?_
      obtain ⟨k21, hf⟩ := pm_if hf
      refine pm_putI C dX8_divide64_82 flX8_31 rfl rfl k21 rfl rfl ?_
      refine pm_iload C dX8_divide64_85 rfl ?_
      refine pm_if_eq (tgt := 92) C dX8_divide64_87 (by decide) (fun c22 => ?_) (fun c22 => ?_)
      · have hf := pm_it hf c22
        refine pm_iload_n C dX8_divide64_92 rfl rfl ?_
        refine pm_bipush (v := 6) C dX8_divide64_93 (by decide) ?_
        refine pm_icmp_ne (tgt := 105) C dX8_divide64_95 (by decide) (fun c23 => ?_) (fun c23 => ?_)
        · have hf := pm_ie hf c23
          refine pm_lload_n C dX8_divide64_105 rfl rfl ?_
          refine pm_lload C dX8_divide64_106 rfl ?_
          obtain ⟨u24, hf⟩ := pm_if hf
          refine pm_lrem C dX8_divide64_108 u24 ?_
          cases hf
          exact pm_lret C X dX8_divide64_109 rfl (Nat.le_refl _) (Nat.le_refl _) q
        · have hf := pm_it hf c23
          refine pm_lload_n C dX8_divide64_98 rfl rfl ?_
          refine pm_lload C dX8_divide64_99 rfl ?_
          obtain ⟨u25, hf⟩ := pm_if hf
          refine pm_ldiv C dX8_divide64_101 u25 ?_
          refine pm_goto (tgt := 109) C dX8_divide64_102 (by decide) ?_
          cases hf
          exact pm_lret C X dX8_divide64_109 rfl (Nat.le_refl _) (Nat.le_refl _) q
      · have hf := pm_ie hf c22
        refine pm_lconst (v := 0) C dX8_divide64_90 (by decide) ?_
        cases hf
        exact pm_lret C X dX8_divide64_91 rfl (Nat.le_refl _) (Nat.le_refl _) q
set_option maxHeartbeats 4000000 in
set_option maxRecDepth 100000 in
theorem bX8_divide64_66 {g : pm_Gm} {l : Launch} {G : pm_Gl} {Qr : Option Value → pm_H → Prop} (C : pm_C g cX8_divide64 RX8) (X : pm_X g l G mX8_divide64 0 0 Qr) {h : pm_H} {x0 : Nat} {x1 : Int32} {x2 : Int64} {x4 : Int64} {r : (Int64 × pm_H)} (hf : fX8_divide64_b66 h x0 x1 x2 x4 = some r) (q : Qr (some (.long r.1)) r.2) : pm_G g 66 [(0, .ref x0), (1, .int x1), (2, .long x2), (4, .long x4)] [] h 0 0 := by
  unfold fX8_divide64_b66 at hf
  refine pm_iconst (v := 0) C dX8_divide64_66 (by decide) ?_
  exact pm_sub [0, 1, 2, 3] rfl (bX8_divide64_67 C X hf q)
set_option maxHeartbeats 4000000 in
set_option maxRecDepth 100000 in
theorem ctX8_divide64 {l : Launch} {G : pm_Gl} {h : pm_H} {a0 : Nat} {p1 : Int32} {p2 : Int64} {p3 : Int64} {r : (Int64 × pm_H)} {Qr : Option Value → pm_H → Prop} (hf : fX8_divide64 h a0 p1 p2 p3 = some r) (q : Qr (some (.long r.1)) r.2) : pm_Ct l G mX8_divide64 [.ref a0, .int p1, .long p2, .long p3] h 0 0 Qr := by
  refine pm_body pnX8 (Nat.le_of_ble_eq_true rfl) (fun g C X => ?_)
  have C : pm_C g cX8_divide64 RX8 := C
  show pm_G g 0 [(0, .ref a0), (1, .int p1), (2, .long p2), (4, .long p3)] [] h 0 0
  unfold fX8_divide64 at hf
  refine pm_lload C dX8_divide64_0 rfl ?_
  refine pm_lconst (v := 0) C dX8_divide64_2 (by decide) ?_
  refine pm_lcmp C dX8_divide64_3 ?_
  refine pm_if_ne (tgt := 14) C dX8_divide64_4 (by decide) (fun c1 => ?_) (fun c1 => ?_)
  · have hf := pm_ie hf ((fun z => c1 ((pm_lg_eq _ _).mpr z)))
    refine pm_iload_n C dX8_divide64_14 rfl rfl ?_
    refine pm_bipush (v := 7) C dX8_divide64_15 (by decide) ?_
    refine pm_icmp_ne (tgt := 27) C dX8_divide64_17 (by decide) (fun c2 => ?_) (fun c2 => ?_)
    · have hf := pm_ie hf c2
      refine pm_iload_n C dX8_divide64_27 rfl rfl ?_
      refine pm_bipush (v := 9) C dX8_divide64_28 (by decide) ?_
      refine pm_icmp_ne (tgt := 45) C dX8_divide64_30 (by decide) (fun c3 => ?_) (fun c3 => ?_)
      · have hf := pm_ie hf c3
        refine pm_lload_n C dX8_divide64_45 rfl rfl ?_
        refine pm_ldc2 C dX8_divide64_46 cnX8_72 ?_
        refine pm_lcmp C dX8_divide64_49 ?_
        refine pm_if_ne (tgt := 66) C dX8_divide64_50 (by decide) (fun c4 => ?_) (fun c4 => ?_)
        · have hf := pm_ie hf ((fun z => c4 ((pm_lg_eq _ _).mpr z)))
          exact pm_sub [0, 1, 2, 3] rfl (bX8_divide64_66 C X hf q)
        · have hf := pm_it hf ((pm_lg_eq _ _).mp c4)
          refine pm_lload C dX8_divide64_53 rfl ?_
          refine pm_ldc2 C dX8_divide64_55 cnX8_113 ?_
          refine pm_lcmp C dX8_divide64_58 ?_
          refine pm_if_ne (tgt := 66) C dX8_divide64_59 (by decide) (fun c5 => ?_) (fun c5 => ?_)
          · have hf := pm_ie hf ((fun z => c5 ((pm_lg_eq _ _).mpr z)))
            exact pm_sub [0, 1, 2, 3] rfl (bX8_divide64_66 C X hf q)
          · have hf := pm_it hf ((pm_lg_eq _ _).mp c5)
            refine pm_iconst (v := 1) C dX8_divide64_62 (by decide) ?_
            refine pm_goto (tgt := 67) C dX8_divide64_63 (by decide) ?_
            exact pm_sub [0, 1, 2, 3] rfl (bX8_divide64_67 C X hf q)
      · have hf := pm_it hf c3
        refine pm_lload_n C dX8_divide64_33 rfl rfl ?_
        refine pm_lload C dX8_divide64_34 rfl ?_
        refine pm_lload_n C dX8_divide64_36 rfl rfl ?_
        refine pm_lload C dX8_divide64_37 rfl ?_
        obtain ⟨v6, e7, hf⟩ := pm_bd hf
        refine pm_callS (as := [.long p2, .long p3]) (st := [.long p3, .long p2]) C X dX8_divide64_39 lnX8_109 myX8_quotientWithoutSign stX8_quotientWithoutSign ⟨by decide, by decide⟩ rfl rfl (Nat.le_of_ble_eq_true rfl) (Nat.le_refl _) (Nat.le_refl _) (ctX8_quotientWithoutSign e7 ?_)
        show pm_G g 42 [(0, .ref a0), (1, .int p1), (2, .long p2), (4, .long p3)] [.long v6, .long p3, .long p2] h 0 0
        refine pm_lmul C dX8_divide64_42 ?_
        refine pm_lsub C dX8_divide64_43 ?_
        cases hf
        exact pm_lret C X dX8_divide64_44 rfl (Nat.le_refl _) (Nat.le_refl _) q
    · have hf := pm_it hf c2
      refine pm_lload_n C dX8_divide64_20 rfl rfl ?_
      refine pm_lload C dX8_divide64_21 rfl ?_
      obtain ⟨v8, e9, hf⟩ := pm_bd hf
      refine pm_callS (as := [.long p2, .long p3]) (st := []) C X dX8_divide64_23 lnX8_109 myX8_quotientWithoutSign stX8_quotientWithoutSign ⟨by decide, by decide⟩ rfl rfl (Nat.le_of_ble_eq_true rfl) (Nat.le_refl _) (Nat.le_refl _) (ctX8_quotientWithoutSign e9 ?_)
      show pm_G g 26 [(0, .ref a0), (1, .int p1), (2, .long p2), (4, .long p3)] [.long v8] h 0 0
      cases hf
      exact pm_lret C X dX8_divide64_26 rfl (Nat.le_refl _) (Nat.le_refl _) q
  · have hf := pm_it hf ((pm_lg_eq _ _).mp c1)
    refine pm_aload_n C dX8_divide64_7 rfl rfl ?_
    refine pm_iconst (v := 2) C dX8_divide64_8 (by decide) ?_
    obtain ⟨k10, hf⟩ := pm_if hf
    refine pm_putI C dX8_divide64_9 flX8_31 rfl rfl k10 rfl rfl ?_
    refine pm_lconst (v := 0) C dX8_divide64_12 (by decide) ?_
    cases hf
    exact pm_lret C X dX8_divide64_13 rfl (Nat.le_refl _) (Nat.le_refl _) q
theorem dX8_whole64_0 : decode cX8_whole64 0 = .ok (.iload_n 1, 1) := by decide +kernel
theorem dX8_whole64_1 : decode cX8_whole64 1 = .ok (.bipush 6, 2) := by decide +kernel
theorem dX8_whole64_3 : decode cX8_whole64 3 = .ok (.if_icmp .lt 18, 3) := by decide +kernel
theorem dX8_whole64_6 : decode cX8_whole64 6 = .ok (.iload_n 1, 1) := by decide +kernel
theorem dX8_whole64_7 : decode cX8_whole64 7 = .ok (.bipush 9, 2) := by decide +kernel
theorem dX8_whole64_9 : decode cX8_whole64 9 = .ok (.if_icmp .gt 12, 3) := by decide +kernel
theorem dX8_whole64_12 : decode cX8_whole64 12 = .ok (.aload_n 0, 1) := by decide +kernel
theorem dX8_whole64_13 : decode cX8_whole64 13 = .ok (.iload_n 1, 1) := by decide +kernel
theorem dX8_whole64_14 : decode cX8_whole64 14 = .ok (.lload_n 2, 1) := by decide +kernel
theorem dX8_whole64_15 : decode cX8_whole64 15 = .ok (.lload 4, 2) := by decide +kernel
theorem dX8_whole64_17 : decode cX8_whole64 17 = .ok (.invokevirtual 99, 3) := by decide +kernel
theorem dX8_whole64_20 : decode cX8_whole64 20 = .ok (.lreturn, 1) := by decide +kernel
theorem dX8_whole64_21 : decode cX8_whole64 21 = .ok (.lload 4, 2) := by decide +kernel
theorem dX8_whole64_23 : decode cX8_whole64 23 = .ok (.l2i, 1) := by decide +kernel
theorem dX8_whole64_24 : decode cX8_whole64 24 = .ok (.bipush 63, 2) := by decide +kernel
theorem dX8_whole64_26 : decode cX8_whole64 26 = .ok (.iand, 1) := by decide +kernel
theorem dX8_whole64_27 : decode cX8_whole64 27 = .ok (.istore 6, 2) := by decide +kernel
theorem dX8_whole64_29 : decode cX8_whole64 29 = .ok (.iload_n 1, 1) := by decide +kernel
theorem dX8_whole64_30 : decode cX8_whole64 30 = .ok (.tableswitch 159 0 16 #[82, 88, 94, 100, 105, 110, 159, 159, 159, 159, 115, 120, 125, 130, 135, 140, 145], 82) := by decide +kernel
theorem dX8_whole64_112 : decode cX8_whole64 112 = .ok (.lload_n 2, 1) := by decide +kernel
theorem dX8_whole64_113 : decode cX8_whole64 113 = .ok (.invokestatic 102, 3) := by decide +kernel
theorem dX8_whole64_116 : decode cX8_whole64 116 = .ok (.i2l, 1) := by decide +kernel
theorem dX8_whole64_117 : decode cX8_whole64 117 = .ok (.lreturn, 1) := by decide +kernel
theorem dX8_whole64_118 : decode cX8_whole64 118 = .ok (.lload_n 2, 1) := by decide +kernel
theorem dX8_whole64_119 : decode cX8_whole64 119 = .ok (.invokestatic 105, 3) := by decide +kernel
theorem dX8_whole64_122 : decode cX8_whole64 122 = .ok (.i2l, 1) := by decide +kernel
theorem dX8_whole64_123 : decode cX8_whole64 123 = .ok (.lreturn, 1) := by decide +kernel
theorem dX8_whole64_124 : decode cX8_whole64 124 = .ok (.lload_n 2, 1) := by decide +kernel
theorem dX8_whole64_125 : decode cX8_whole64 125 = .ok (.invokestatic 107, 3) := by decide +kernel
theorem dX8_whole64_128 : decode cX8_whole64 128 = .ok (.i2l, 1) := by decide +kernel
theorem dX8_whole64_129 : decode cX8_whole64 129 = .ok (.lreturn, 1) := by decide +kernel
theorem dX8_whole64_130 : decode cX8_whole64 130 = .ok (.lload_n 2, 1) := by decide +kernel
theorem dX8_whole64_131 : decode cX8_whole64 131 = .ok (.lload 4, 2) := by decide +kernel
theorem dX8_whole64_133 : decode cX8_whole64 133 = .ok (.ladd, 1) := by decide +kernel
theorem dX8_whole64_134 : decode cX8_whole64 134 = .ok (.lreturn, 1) := by decide +kernel
theorem dX8_whole64_135 : decode cX8_whole64 135 = .ok (.lload_n 2, 1) := by decide +kernel
theorem dX8_whole64_136 : decode cX8_whole64 136 = .ok (.lload 4, 2) := by decide +kernel
theorem dX8_whole64_138 : decode cX8_whole64 138 = .ok (.lsub, 1) := by decide +kernel
theorem dX8_whole64_139 : decode cX8_whole64 139 = .ok (.lreturn, 1) := by decide +kernel
theorem dX8_whole64_140 : decode cX8_whole64 140 = .ok (.lload_n 2, 1) := by decide +kernel
theorem dX8_whole64_141 : decode cX8_whole64 141 = .ok (.lload 4, 2) := by decide +kernel
theorem dX8_whole64_143 : decode cX8_whole64 143 = .ok (.lmul, 1) := by decide +kernel
theorem dX8_whole64_144 : decode cX8_whole64 144 = .ok (.lreturn, 1) := by decide +kernel
theorem dX8_whole64_145 : decode cX8_whole64 145 = .ok (.lload_n 2, 1) := by decide +kernel
theorem dX8_whole64_146 : decode cX8_whole64 146 = .ok (.lload 4, 2) := by decide +kernel
theorem dX8_whole64_148 : decode cX8_whole64 148 = .ok (.land, 1) := by decide +kernel
theorem dX8_whole64_149 : decode cX8_whole64 149 = .ok (.lreturn, 1) := by decide +kernel
theorem dX8_whole64_150 : decode cX8_whole64 150 = .ok (.lload_n 2, 1) := by decide +kernel
theorem dX8_whole64_151 : decode cX8_whole64 151 = .ok (.lload 4, 2) := by decide +kernel
theorem dX8_whole64_153 : decode cX8_whole64 153 = .ok (.lor, 1) := by decide +kernel
theorem dX8_whole64_154 : decode cX8_whole64 154 = .ok (.lreturn, 1) := by decide +kernel
theorem dX8_whole64_155 : decode cX8_whole64 155 = .ok (.lload_n 2, 1) := by decide +kernel
theorem dX8_whole64_156 : decode cX8_whole64 156 = .ok (.lload 4, 2) := by decide +kernel
theorem dX8_whole64_158 : decode cX8_whole64 158 = .ok (.lxor, 1) := by decide +kernel
theorem dX8_whole64_159 : decode cX8_whole64 159 = .ok (.lreturn, 1) := by decide +kernel
theorem dX8_whole64_160 : decode cX8_whole64 160 = .ok (.lload_n 2, 1) := by decide +kernel
theorem dX8_whole64_161 : decode cX8_whole64 161 = .ok (.iload 6, 2) := by decide +kernel
theorem dX8_whole64_163 : decode cX8_whole64 163 = .ok (.lshl, 1) := by decide +kernel
theorem dX8_whole64_164 : decode cX8_whole64 164 = .ok (.lreturn, 1) := by decide +kernel
theorem dX8_whole64_165 : decode cX8_whole64 165 = .ok (.lload_n 2, 1) := by decide +kernel
theorem dX8_whole64_166 : decode cX8_whole64 166 = .ok (.iload 6, 2) := by decide +kernel
theorem dX8_whole64_168 : decode cX8_whole64 168 = .ok (.lshr, 1) := by decide +kernel
theorem dX8_whole64_169 : decode cX8_whole64 169 = .ok (.lreturn, 1) := by decide +kernel
theorem dX8_whole64_170 : decode cX8_whole64 170 = .ok (.lload_n 2, 1) := by decide +kernel
theorem dX8_whole64_171 : decode cX8_whole64 171 = .ok (.iload 6, 2) := by decide +kernel
theorem dX8_whole64_173 : decode cX8_whole64 173 = .ok (.lushr, 1) := by decide +kernel
theorem dX8_whole64_174 : decode cX8_whole64 174 = .ok (.lreturn, 1) := by decide +kernel
theorem dX8_whole64_175 : decode cX8_whole64 175 = .ok (.lload_n 2, 1) := by decide +kernel
theorem dX8_whole64_176 : decode cX8_whole64 176 = .ok (.iload 6, 2) := by decide +kernel
theorem dX8_whole64_178 : decode cX8_whole64 178 = .ok (.lshl, 1) := by decide +kernel
theorem dX8_whole64_179 : decode cX8_whole64 179 = .ok (.lload_n 2, 1) := by decide +kernel
theorem dX8_whole64_180 : decode cX8_whole64 180 = .ok (.iload 6, 2) := by decide +kernel
theorem dX8_whole64_182 : decode cX8_whole64 182 = .ok (.ineg, 1) := by decide +kernel
theorem dX8_whole64_183 : decode cX8_whole64 183 = .ok (.bipush 63, 2) := by decide +kernel
theorem dX8_whole64_185 : decode cX8_whole64 185 = .ok (.iand, 1) := by decide +kernel
theorem dX8_whole64_186 : decode cX8_whole64 186 = .ok (.lushr, 1) := by decide +kernel
theorem dX8_whole64_187 : decode cX8_whole64 187 = .ok (.lor, 1) := by decide +kernel
theorem dX8_whole64_188 : decode cX8_whole64 188 = .ok (.lreturn, 1) := by decide +kernel
theorem dX8_whole64_189 : decode cX8_whole64 189 = .ok (.lload_n 2, 1) := by decide +kernel
theorem dX8_whole64_190 : decode cX8_whole64 190 = .ok (.iload 6, 2) := by decide +kernel
theorem dX8_whole64_192 : decode cX8_whole64 192 = .ok (.lushr, 1) := by decide +kernel
theorem dX8_whole64_193 : decode cX8_whole64 193 = .ok (.lload_n 2, 1) := by decide +kernel
theorem dX8_whole64_194 : decode cX8_whole64 194 = .ok (.iload 6, 2) := by decide +kernel
theorem dX8_whole64_196 : decode cX8_whole64 196 = .ok (.ineg, 1) := by decide +kernel
theorem dX8_whole64_197 : decode cX8_whole64 197 = .ok (.bipush 63, 2) := by decide +kernel
theorem dX8_whole64_199 : decode cX8_whole64 199 = .ok (.iand, 1) := by decide +kernel
theorem dX8_whole64_200 : decode cX8_whole64 200 = .ok (.lshl, 1) := by decide +kernel
theorem dX8_whole64_201 : decode cX8_whole64 201 = .ok (.lor, 1) := by decide +kernel
theorem dX8_whole64_202 : decode cX8_whole64 202 = .ok (.lreturn, 1) := by decide +kernel
def fX8_whole64_b21 (h : pm_H) (x1 : Int32) (x2 : Int64) (x4 : Int64) : Option (Int64 × pm_H) := pm_let (x4.toInt32 &&& 63) fun y6 => if x1 = 0 then (pm_let (fJ13_numberOfLeadingZeros_95d88 x2) fun v9 => some ((v9.toInt64, h))) else (if x1 = 1 then (pm_let (fJ13_numberOfTrailingZeros_95d88 x2) fun v12 => some ((v12.toInt64, h))) else (if x1 = 2 then (pm_let (fJ13_bitCount_95d88 x2) fun v15 => some ((v15.toInt64, h))) else (if x1 = 3 then (some ((x2 + x4, h))) else (if x1 = 4 then (some ((x2 - x4, h))) else (if x1 = 5 then (some ((x2 * x4, h))) else (if x1 = 6 then (some ((((x2.toUInt64 >>> (y6.toInt64.toUInt64 &&& Int64.toUInt64 63)).toInt64) ||| (x2 <<< (((-y6) &&& 63).toInt64 &&& 63)), h))) else (if x1 = 7 then (some ((((x2.toUInt64 >>> (y6.toInt64.toUInt64 &&& Int64.toUInt64 63)).toInt64) ||| (x2 <<< (((-y6) &&& 63).toInt64 &&& 63)), h))) else (if x1 = 8 then (some ((((x2.toUInt64 >>> (y6.toInt64.toUInt64 &&& Int64.toUInt64 63)).toInt64) ||| (x2 <<< (((-y6) &&& 63).toInt64 &&& 63)), h))) else (if x1 = 9 then (some ((((x2.toUInt64 >>> (y6.toInt64.toUInt64 &&& Int64.toUInt64 63)).toInt64) ||| (x2 <<< (((-y6) &&& 63).toInt64 &&& 63)), h))) else (if x1 = 10 then (some ((x2 &&& x4, h))) else (if x1 = 11 then (some ((x2 ||| x4, h))) else (if x1 = 12 then (some ((x2 ^^^ x4, h))) else (if x1 = 13 then (some ((x2 <<< (y6.toInt64 &&& 63), h))) else (if x1 = 14 then (some ((x2 >>> (y6.toInt64 &&& 63), h))) else (if x1 = 15 then (some (((x2.toUInt64 >>> (y6.toInt64.toUInt64 &&& Int64.toUInt64 63)).toInt64, h))) else (if x1 = 16 then (some (((x2 <<< (y6.toInt64 &&& 63)) ||| ((x2.toUInt64 >>> (((-y6) &&& 63).toInt64.toUInt64 &&& Int64.toUInt64 63)).toInt64), h))) else (some ((((x2.toUInt64 >>> (y6.toInt64.toUInt64 &&& Int64.toUInt64 63)).toInt64) ||| (x2 <<< (((-y6) &&& 63).toInt64 &&& 63)), h)))))))))))))))))))
def fX8_whole64 (h : pm_H) (a0 : Nat) (p1 : Int32) (p2 : Int64) (p3 : Int64) : Option (Int64 × pm_H) := if p1 < 6 then (fX8_whole64_b21 h p1 p2 p3) else (if 9 < p1 then (fX8_whole64_b21 h p1 p2 p3) else (if pm_kd h a0 = 8 then (fX8_divide64 h a0 p1 p2 p3).bind fun v4 => some ((v4.1, v4.2)) else none))
set_option maxHeartbeats 4000000 in
set_option maxRecDepth 100000 in
theorem bX8_whole64_21 {g : pm_Gm} {l : Launch} {G : pm_Gl} {Qr : Option Value → pm_H → Prop} (C : pm_C g cX8_whole64 RX8) (X : pm_X g l G mX8_whole64 0 0 Qr) {h : pm_H} {x1 : Int32} {x2 : Int64} {x4 : Int64} {r : (Int64 × pm_H)} (hf : fX8_whole64_b21 h x1 x2 x4 = some r) (q : Qr (some (.long r.1)) r.2) : pm_G g 21 [(1, .int x1), (2, .long x2), (4, .long x4)] [] h 0 0 := by
  unfold fX8_whole64_b21 at hf
  refine pm_lload C dX8_whole64_21 rfl ?_
  refine pm_l2i C dX8_whole64_23 ?_
  refine pm_bipush (v := 63) C dX8_whole64_24 (by decide) ?_
  refine pm_iand C dX8_whole64_26 ?_
  obtain ⟨y6, e7, hf⟩ := pm_lt hf
  refine pm_topI e7 ?_
  refine pm_istore (lv' := [(6, .int y6), (1, .int x1), (2, .long x2), (4, .long x4)]) C dX8_whole64_27 (pm_nl X (by decide)) rfl ?_
  refine pm_iload_n C dX8_whole64_29 rfl rfl ?_
  by_cases c8 : x1 = 0
  · have hf := pm_it hf c8
    refine pm_tableIn (tgt := 112) C dX8_whole64_30 (by rw [c8]; decide) (by rw [c8]; decide) (by rw [c8]; rfl) (by decide) ?_
    refine pm_lload_n C dX8_whole64_112 rfl rfl ?_
    obtain ⟨v9, e10, hf⟩ := pm_lt hf
    refine pm_callS (as := [.long x2]) (st := []) C X dX8_whole64_113 lnX8_102 myJ13_numberOfLeadingZeros_95d88 stJ13_numberOfLeadingZeros_95d88 ⟨by decide, by decide⟩ rfl rfl (Nat.le_of_ble_eq_true rfl) (Nat.le_refl _) (Nat.le_refl _) (ctJ13_numberOfLeadingZeros_95d88 e10 ?_)
    show pm_G g 116 [(6, .int y6), (1, .int x1), (2, .long x2), (4, .long x4)] [.int v9] h 0 0
    refine pm_i2l C dX8_whole64_116 ?_
    cases hf
    exact pm_lret C X dX8_whole64_117 rfl (Nat.le_refl _) (Nat.le_refl _) q
  have hf := pm_ie hf c8
  by_cases c11 : x1 = 1
  · have hf := pm_it hf c11
    refine pm_tableIn (tgt := 118) C dX8_whole64_30 (by rw [c11]; decide) (by rw [c11]; decide) (by rw [c11]; rfl) (by decide) ?_
    refine pm_lload_n C dX8_whole64_118 rfl rfl ?_
    obtain ⟨v12, e13, hf⟩ := pm_lt hf
    refine pm_callS (as := [.long x2]) (st := []) C X dX8_whole64_119 lnX8_105 myJ13_numberOfTrailingZeros_95d88 stJ13_numberOfTrailingZeros_95d88 ⟨by decide, by decide⟩ rfl rfl (Nat.le_of_ble_eq_true rfl) (Nat.le_refl _) (Nat.le_refl _) (ctJ13_numberOfTrailingZeros_95d88 e13 ?_)
    show pm_G g 122 [(6, .int y6), (1, .int x1), (2, .long x2), (4, .long x4)] [.int v12] h 0 0
    refine pm_i2l C dX8_whole64_122 ?_
    cases hf
    exact pm_lret C X dX8_whole64_123 rfl (Nat.le_refl _) (Nat.le_refl _) q
  have hf := pm_ie hf c11
  by_cases c14 : x1 = 2
  · have hf := pm_it hf c14
    refine pm_tableIn (tgt := 124) C dX8_whole64_30 (by rw [c14]; decide) (by rw [c14]; decide) (by rw [c14]; rfl) (by decide) ?_
    refine pm_lload_n C dX8_whole64_124 rfl rfl ?_
    obtain ⟨v15, e16, hf⟩ := pm_lt hf
    refine pm_callS (as := [.long x2]) (st := []) C X dX8_whole64_125 lnX8_107 myJ13_bitCount_95d88 stJ13_bitCount_95d88 ⟨by decide, by decide⟩ rfl rfl (Nat.le_of_ble_eq_true rfl) (Nat.le_refl _) (Nat.le_refl _) (ctJ13_bitCount_95d88 e16 ?_)
    show pm_G g 128 [(6, .int y6), (1, .int x1), (2, .long x2), (4, .long x4)] [.int v15] h 0 0
    refine pm_i2l C dX8_whole64_128 ?_
    cases hf
    exact pm_lret C X dX8_whole64_129 rfl (Nat.le_refl _) (Nat.le_refl _) q
  have hf := pm_ie hf c14
  by_cases c17 : x1 = 3
  · have hf := pm_it hf c17
    refine pm_tableIn (tgt := 130) C dX8_whole64_30 (by rw [c17]; decide) (by rw [c17]; decide) (by rw [c17]; rfl) (by decide) ?_
    refine pm_lload_n C dX8_whole64_130 rfl rfl ?_
    refine pm_lload C dX8_whole64_131 rfl ?_
    refine pm_ladd C dX8_whole64_133 ?_
    cases hf
    exact pm_lret C X dX8_whole64_134 rfl (Nat.le_refl _) (Nat.le_refl _) q
  have hf := pm_ie hf c17
  by_cases c18 : x1 = 4
  · have hf := pm_it hf c18
    refine pm_tableIn (tgt := 135) C dX8_whole64_30 (by rw [c18]; decide) (by rw [c18]; decide) (by rw [c18]; rfl) (by decide) ?_
    refine pm_lload_n C dX8_whole64_135 rfl rfl ?_
    refine pm_lload C dX8_whole64_136 rfl ?_
    refine pm_lsub C dX8_whole64_138 ?_
    cases hf
    exact pm_lret C X dX8_whole64_139 rfl (Nat.le_refl _) (Nat.le_refl _) q
  have hf := pm_ie hf c18
  by_cases c19 : x1 = 5
  · have hf := pm_it hf c19
    refine pm_tableIn (tgt := 140) C dX8_whole64_30 (by rw [c19]; decide) (by rw [c19]; decide) (by rw [c19]; rfl) (by decide) ?_
    refine pm_lload_n C dX8_whole64_140 rfl rfl ?_
    refine pm_lload C dX8_whole64_141 rfl ?_
    refine pm_lmul C dX8_whole64_143 ?_
    cases hf
    exact pm_lret C X dX8_whole64_144 rfl (Nat.le_refl _) (Nat.le_refl _) q
  have hf := pm_ie hf c19
  by_cases c20 : x1 = 6
  · have hf := pm_it hf c20
    refine pm_tableIn (tgt := 189) C dX8_whole64_30 (by rw [c20]; decide) (by rw [c20]; decide) (by rw [c20]; rfl) (by decide) ?_
    refine pm_lload_n C dX8_whole64_189 rfl rfl ?_
    refine pm_iload C dX8_whole64_190 rfl ?_
    refine pm_lushr C dX8_whole64_192 ?_
    refine pm_lload_n C dX8_whole64_193 rfl rfl ?_
    refine pm_iload C dX8_whole64_194 rfl ?_
    refine pm_ineg C dX8_whole64_196 ?_
    refine pm_bipush (v := 63) C dX8_whole64_197 (by decide) ?_
    refine pm_iand C dX8_whole64_199 ?_
    refine pm_lshl C dX8_whole64_200 ?_
    refine pm_lor C dX8_whole64_201 ?_
    cases hf
    exact pm_lret C X dX8_whole64_202 rfl (Nat.le_refl _) (Nat.le_refl _) q
  have hf := pm_ie hf c20
  by_cases c21 : x1 = 7
  · have hf := pm_it hf c21
    refine pm_tableIn (tgt := 189) C dX8_whole64_30 (by rw [c21]; decide) (by rw [c21]; decide) (by rw [c21]; rfl) (by decide) ?_
    refine pm_lload_n C dX8_whole64_189 rfl rfl ?_
    refine pm_iload C dX8_whole64_190 rfl ?_
    refine pm_lushr C dX8_whole64_192 ?_
    refine pm_lload_n C dX8_whole64_193 rfl rfl ?_
    refine pm_iload C dX8_whole64_194 rfl ?_
    refine pm_ineg C dX8_whole64_196 ?_
    refine pm_bipush (v := 63) C dX8_whole64_197 (by decide) ?_
    refine pm_iand C dX8_whole64_199 ?_
    refine pm_lshl C dX8_whole64_200 ?_
    refine pm_lor C dX8_whole64_201 ?_
    cases hf
    exact pm_lret C X dX8_whole64_202 rfl (Nat.le_refl _) (Nat.le_refl _) q
  have hf := pm_ie hf c21
  by_cases c22 : x1 = 8
  · have hf := pm_it hf c22
    refine pm_tableIn (tgt := 189) C dX8_whole64_30 (by rw [c22]; decide) (by rw [c22]; decide) (by rw [c22]; rfl) (by decide) ?_
    refine pm_lload_n C dX8_whole64_189 rfl rfl ?_
    refine pm_iload C dX8_whole64_190 rfl ?_
    refine pm_lushr C dX8_whole64_192 ?_
    refine pm_lload_n C dX8_whole64_193 rfl rfl ?_
    refine pm_iload C dX8_whole64_194 rfl ?_
    refine pm_ineg C dX8_whole64_196 ?_
    refine pm_bipush (v := 63) C dX8_whole64_197 (by decide) ?_
    refine pm_iand C dX8_whole64_199 ?_
    refine pm_lshl C dX8_whole64_200 ?_
    refine pm_lor C dX8_whole64_201 ?_
    cases hf
    exact pm_lret C X dX8_whole64_202 rfl (Nat.le_refl _) (Nat.le_refl _) q
  have hf := pm_ie hf c22
  by_cases c23 : x1 = 9
  · have hf := pm_it hf c23
    refine pm_tableIn (tgt := 189) C dX8_whole64_30 (by rw [c23]; decide) (by rw [c23]; decide) (by rw [c23]; rfl) (by decide) ?_
    refine pm_lload_n C dX8_whole64_189 rfl rfl ?_
    refine pm_iload C dX8_whole64_190 rfl ?_
    refine pm_lushr C dX8_whole64_192 ?_
    refine pm_lload_n C dX8_whole64_193 rfl rfl ?_
    refine pm_iload C dX8_whole64_194 rfl ?_
    refine pm_ineg C dX8_whole64_196 ?_
    refine pm_bipush (v := 63) C dX8_whole64_197 (by decide) ?_
    refine pm_iand C dX8_whole64_199 ?_
    refine pm_lshl C dX8_whole64_200 ?_
    refine pm_lor C dX8_whole64_201 ?_
    cases hf
    exact pm_lret C X dX8_whole64_202 rfl (Nat.le_refl _) (Nat.le_refl _) q
  have hf := pm_ie hf c23
  by_cases c24 : x1 = 10
  · have hf := pm_it hf c24
    refine pm_tableIn (tgt := 145) C dX8_whole64_30 (by rw [c24]; decide) (by rw [c24]; decide) (by rw [c24]; rfl) (by decide) ?_
    refine pm_lload_n C dX8_whole64_145 rfl rfl ?_
    refine pm_lload C dX8_whole64_146 rfl ?_
    refine pm_land C dX8_whole64_148 ?_
    cases hf
    exact pm_lret C X dX8_whole64_149 rfl (Nat.le_refl _) (Nat.le_refl _) q
  have hf := pm_ie hf c24
  by_cases c25 : x1 = 11
  · have hf := pm_it hf c25
    refine pm_tableIn (tgt := 150) C dX8_whole64_30 (by rw [c25]; decide) (by rw [c25]; decide) (by rw [c25]; rfl) (by decide) ?_
    refine pm_lload_n C dX8_whole64_150 rfl rfl ?_
    refine pm_lload C dX8_whole64_151 rfl ?_
    refine pm_lor C dX8_whole64_153 ?_
    cases hf
    exact pm_lret C X dX8_whole64_154 rfl (Nat.le_refl _) (Nat.le_refl _) q
  have hf := pm_ie hf c25
  by_cases c26 : x1 = 12
  · have hf := pm_it hf c26
    refine pm_tableIn (tgt := 155) C dX8_whole64_30 (by rw [c26]; decide) (by rw [c26]; decide) (by rw [c26]; rfl) (by decide) ?_
    refine pm_lload_n C dX8_whole64_155 rfl rfl ?_
    refine pm_lload C dX8_whole64_156 rfl ?_
    refine pm_lxor C dX8_whole64_158 ?_
    cases hf
    exact pm_lret C X dX8_whole64_159 rfl (Nat.le_refl _) (Nat.le_refl _) q
  have hf := pm_ie hf c26
  by_cases c27 : x1 = 13
  · have hf := pm_it hf c27
    refine pm_tableIn (tgt := 160) C dX8_whole64_30 (by rw [c27]; decide) (by rw [c27]; decide) (by rw [c27]; rfl) (by decide) ?_
    refine pm_lload_n C dX8_whole64_160 rfl rfl ?_
    refine pm_iload C dX8_whole64_161 rfl ?_
    refine pm_lshl C dX8_whole64_163 ?_
    cases hf
    exact pm_lret C X dX8_whole64_164 rfl (Nat.le_refl _) (Nat.le_refl _) q
  have hf := pm_ie hf c27
  by_cases c28 : x1 = 14
  · have hf := pm_it hf c28
    refine pm_tableIn (tgt := 165) C dX8_whole64_30 (by rw [c28]; decide) (by rw [c28]; decide) (by rw [c28]; rfl) (by decide) ?_
    refine pm_lload_n C dX8_whole64_165 rfl rfl ?_
    refine pm_iload C dX8_whole64_166 rfl ?_
    refine pm_lshr C dX8_whole64_168 ?_
    cases hf
    exact pm_lret C X dX8_whole64_169 rfl (Nat.le_refl _) (Nat.le_refl _) q
  have hf := pm_ie hf c28
  by_cases c29 : x1 = 15
  · have hf := pm_it hf c29
    refine pm_tableIn (tgt := 170) C dX8_whole64_30 (by rw [c29]; decide) (by rw [c29]; decide) (by rw [c29]; rfl) (by decide) ?_
    refine pm_lload_n C dX8_whole64_170 rfl rfl ?_
    refine pm_iload C dX8_whole64_171 rfl ?_
    refine pm_lushr C dX8_whole64_173 ?_
    cases hf
    exact pm_lret C X dX8_whole64_174 rfl (Nat.le_refl _) (Nat.le_refl _) q
  have hf := pm_ie hf c29
  by_cases c30 : x1 = 16
  · have hf := pm_it hf c30
    refine pm_tableIn (tgt := 175) C dX8_whole64_30 (by rw [c30]; decide) (by rw [c30]; decide) (by rw [c30]; rfl) (by decide) ?_
    refine pm_lload_n C dX8_whole64_175 rfl rfl ?_
    refine pm_iload C dX8_whole64_176 rfl ?_
    refine pm_lshl C dX8_whole64_178 ?_
    refine pm_lload_n C dX8_whole64_179 rfl rfl ?_
    refine pm_iload C dX8_whole64_180 rfl ?_
    refine pm_ineg C dX8_whole64_182 ?_
    refine pm_bipush (v := 63) C dX8_whole64_183 (by decide) ?_
    refine pm_iand C dX8_whole64_185 ?_
    refine pm_lushr C dX8_whole64_186 ?_
    refine pm_lor C dX8_whole64_187 ?_
    cases hf
    exact pm_lret C X dX8_whole64_188 rfl (Nat.le_refl _) (Nat.le_refl _) q
  have hf := pm_ie hf c30
  have nc8 := lv_neT c8 (by decide : (0 : Int32).toInt = 0)
  have nc11 := lv_neT c11 (by decide : (1 : Int32).toInt = 1)
  have nc14 := lv_neT c14 (by decide : (2 : Int32).toInt = 2)
  have nc17 := lv_neT c17 (by decide : (3 : Int32).toInt = 3)
  have nc18 := lv_neT c18 (by decide : (4 : Int32).toInt = 4)
  have nc19 := lv_neT c19 (by decide : (5 : Int32).toInt = 5)
  have nc20 := lv_neT c20 (by decide : (6 : Int32).toInt = 6)
  have nc21 := lv_neT c21 (by decide : (7 : Int32).toInt = 7)
  have nc22 := lv_neT c22 (by decide : (8 : Int32).toInt = 8)
  have nc23 := lv_neT c23 (by decide : (9 : Int32).toInt = 9)
  have nc24 := lv_neT c24 (by decide : (10 : Int32).toInt = 10)
  have nc25 := lv_neT c25 (by decide : (11 : Int32).toInt = 11)
  have nc26 := lv_neT c26 (by decide : (12 : Int32).toInt = 12)
  have nc27 := lv_neT c27 (by decide : (13 : Int32).toInt = 13)
  have nc28 := lv_neT c28 (by decide : (14 : Int32).toInt = 14)
  have nc29 := lv_neT c29 (by decide : (15 : Int32).toInt = 15)
  have nc30 := lv_neT c30 (by decide : (16 : Int32).toInt = 16)
  refine pm_tableOut (tgt := 189) C dX8_whole64_30 (by omega) (by decide) ?_
  refine pm_lload_n C dX8_whole64_189 rfl rfl ?_
  refine pm_iload C dX8_whole64_190 rfl ?_
  refine pm_lushr C dX8_whole64_192 ?_
  refine pm_lload_n C dX8_whole64_193 rfl rfl ?_
  refine pm_iload C dX8_whole64_194 rfl ?_
  refine pm_ineg C dX8_whole64_196 ?_
  refine pm_bipush (v := 63) C dX8_whole64_197 (by decide) ?_
  refine pm_iand C dX8_whole64_199 ?_
  refine pm_lshl C dX8_whole64_200 ?_
  refine pm_lor C dX8_whole64_201 ?_
  cases hf
  exact pm_lret C X dX8_whole64_202 rfl (Nat.le_refl _) (Nat.le_refl _) q
set_option maxHeartbeats 4000000 in
set_option maxRecDepth 100000 in
theorem ctX8_whole64 {l : Launch} {G : pm_Gl} {h : pm_H} {a0 : Nat} {p1 : Int32} {p2 : Int64} {p3 : Int64} {r : (Int64 × pm_H)} {Qr : Option Value → pm_H → Prop} (hf : fX8_whole64 h a0 p1 p2 p3 = some r) (q : Qr (some (.long r.1)) r.2) : pm_Ct l G mX8_whole64 [.ref a0, .int p1, .long p2, .long p3] h 0 0 Qr := by
  refine pm_body pnX8 (Nat.le_of_ble_eq_true rfl) (fun g C X => ?_)
  have C : pm_C g cX8_whole64 RX8 := C
  show pm_G g 0 [(0, .ref a0), (1, .int p1), (2, .long p2), (4, .long p3)] [] h 0 0
  unfold fX8_whole64 at hf
  refine pm_iload_n C dX8_whole64_0 rfl rfl ?_
  refine pm_bipush (v := 6) C dX8_whole64_1 (by decide) ?_
  refine pm_icmp_lt (tgt := 21) C dX8_whole64_3 (by decide) (fun c1 => ?_) (fun c1 => ?_)
  · have hf := pm_it hf c1
    exact pm_sub [1, 2, 3] rfl (bX8_whole64_21 C X hf q)
  · have hf := pm_ie hf c1
    refine pm_iload_n C dX8_whole64_6 rfl rfl ?_
    refine pm_bipush (v := 9) C dX8_whole64_7 (by decide) ?_
    refine pm_icmp_gt (tgt := 21) C dX8_whole64_9 (by decide) (fun c2 => ?_) (fun c2 => ?_)
    · have hf := pm_it hf c2
      exact pm_sub [1, 2, 3] rfl (bX8_whole64_21 C X hf q)
    · have hf := pm_ie hf c2
      refine pm_aload_n C dX8_whole64_12 rfl rfl ?_
      refine pm_iload_n C dX8_whole64_13 rfl rfl ?_
      refine pm_lload_n C dX8_whole64_14 rfl rfl ?_
      refine pm_lload C dX8_whole64_15 rfl ?_
      obtain ⟨k3, hf⟩ := pm_if hf
      obtain ⟨v4, e5, hf⟩ := pm_bd hf
      refine pm_callV (as := [.int p1, .long p2, .long p3]) (st := []) C X dX8_whole64_17 lnX8_99 myX8_divide64 viX8_divide64 ⟨by decide, by decide⟩ rfl rfl k3 (Nat.le_of_ble_eq_true rfl) (Nat.le_refl _) (Nat.le_refl _) (ctX8_divide64 e5 ?_)
      show pm_G g 20 [(0, .ref a0), (1, .int p1), (2, .long p2), (4, .long p3)] [.long v4.1] v4.2 0 0
      cases hf
      exact pm_lret C X dX8_whole64_20 rfl (Nat.le_refl _) (Nat.le_refl _) q
theorem dX9_finish_0 : decode cX9_finish 0 = .ok (.aload_n 0, 1) := by decide +kernel
theorem dX9_finish_1 : decode cX9_finish 1 = .ok (.getfield 19, 3) := by decide +kernel
theorem dX9_finish_4 : decode cX9_finish 4 = .ok (.iconst 0, 1) := by decide +kernel
theorem dX9_finish_5 : decode cX9_finish 5 = .ok (.invokevirtual 70, 3) := by decide +kernel
theorem dX9_finish_8 : decode cX9_finish 8 = .ok (.aload_n 0, 1) := by decide +kernel
theorem dX9_finish_9 : decode cX9_finish 9 = .ok (.getfield 19, 3) := by decide +kernel
theorem dX9_finish_12 : decode cX9_finish 12 = .ok (.iconst 0, 1) := by decide +kernel
theorem dX9_finish_13 : decode cX9_finish 13 = .ok (.invokevirtual 74, 3) := by decide +kernel
theorem dX9_finish_16 : decode cX9_finish 16 = .ok (.isub, 1) := by decide +kernel
theorem dX9_finish_17 : decode cX9_finish 17 = .ok (.istore_n 1, 1) := by decide +kernel
theorem dX9_finish_18 : decode cX9_finish 18 = .ok (.iload_n 1, 1) := by decide +kernel
theorem dX9_finish_19 : decode cX9_finish 19 = .ok (.aload_n 0, 1) := by decide +kernel
theorem dX9_finish_20 : decode cX9_finish 20 = .ok (.getfield 19, 3) := by decide +kernel
theorem dX9_finish_23 : decode cX9_finish 23 = .ok (.getfield 77, 3) := by decide +kernel
theorem dX9_finish_26 : decode cX9_finish 26 = .ok (.arraylength, 1) := by decide +kernel
theorem dX9_finish_27 : decode cX9_finish 27 = .ok (.iconst 2, 1) := by decide +kernel
theorem dX9_finish_28 : decode cX9_finish 28 = .ok (.idiv, 1) := by decide +kernel
theorem dX9_finish_29 : decode cX9_finish 29 = .ok (.if_icmp .eq 13, 3) := by decide +kernel
theorem dX9_finish_32 : decode cX9_finish 32 = .ok (.aload_n 0, 1) := by decide +kernel
theorem dX9_finish_33 : decode cX9_finish 33 = .ok (.bipush 13, 2) := by decide +kernel
theorem dX9_finish_35 : decode cX9_finish 35 = .ok (.aload_n 0, 1) := by decide +kernel
theorem dX9_finish_36 : decode cX9_finish 36 = .ok (.getfield 60, 3) := by decide +kernel
theorem dX9_finish_39 : decode cX9_finish 39 = .ok (.invokevirtual 47, 3) := by decide +kernel
theorem dX9_finish_42 : decode cX9_finish 42 = .ok (.aload_n 0, 1) := by decide +kernel
theorem dX9_finish_43 : decode cX9_finish 43 = .ok (.getfield 19, 3) := by decide +kernel
theorem dX9_finish_46 : decode cX9_finish 46 = .ok (.getfield 80, 3) := by decide +kernel
theorem dX9_finish_49 : decode cX9_finish 49 = .ok (.lconst 0, 1) := by decide +kernel
theorem dX9_finish_50 : decode cX9_finish 50 = .ok (.lcmp, 1) := by decide +kernel
theorem dX9_finish_51 : decode cX9_finish 51 = .ok (.ifCond .lt 36, 3) := by decide +kernel
theorem dX9_finish_54 : decode cX9_finish 54 = .ok (.aload_n 0, 1) := by decide +kernel
theorem dX9_finish_55 : decode cX9_finish 55 = .ok (.getfield 19, 3) := by decide +kernel
theorem dX9_finish_58 : decode cX9_finish 58 = .ok (.getfield 80, 3) := by decide +kernel
theorem dX9_finish_61 : decode cX9_finish 61 = .ok (.aload_n 0, 1) := by decide +kernel
theorem dX9_finish_62 : decode cX9_finish 62 = .ok (.getfield 19, 3) := by decide +kernel
theorem dX9_finish_65 : decode cX9_finish 65 = .ok (.getfield 84, 3) := by decide +kernel
theorem dX9_finish_68 : decode cX9_finish 68 = .ok (.arraylength, 1) := by decide +kernel
theorem dX9_finish_69 : decode cX9_finish 69 = .ok (.bipush 7, 2) := by decide +kernel
theorem dX9_finish_71 : decode cX9_finish 71 = .ok (.idiv, 1) := by decide +kernel
theorem dX9_finish_72 : decode cX9_finish 72 = .ok (.i2l, 1) := by decide +kernel
theorem dX9_finish_73 : decode cX9_finish 73 = .ok (.lcmp, 1) := by decide +kernel
theorem dX9_finish_74 : decode cX9_finish 74 = .ok (.ifCond .eq 13, 3) := by decide +kernel
theorem dX9_finish_77 : decode cX9_finish 77 = .ok (.aload_n 0, 1) := by decide +kernel
theorem dX9_finish_78 : decode cX9_finish 78 = .ok (.bipush 14, 2) := by decide +kernel
theorem dX9_finish_80 : decode cX9_finish 80 = .ok (.aload_n 0, 1) := by decide +kernel
theorem dX9_finish_81 : decode cX9_finish 81 = .ok (.getfield 60, 3) := by decide +kernel
theorem dX9_finish_84 : decode cX9_finish 84 = .ok (.invokevirtual 47, 3) := by decide +kernel
theorem dX9_finish_87 : decode cX9_finish 87 = .ok (.return_, 1) := by decide +kernel
noncomputable def fX9_finish (h : pm_H) (a0 : Nat) : Option pm_H := if pm_kd h a0 = 9 then (pm_R h a0 0).bind fun v2 => if pm_kd h v2 = 7 then (fX7_count h v2 0).bind fun v5 => (fX7_imported h v2 0).bind fun v7 => pm_let (v5 - v7) fun y9 => (pm_R h v2 11).bind fun v11 => if pm_kd h v11 = 34 then if y9 = ((Int32.ofNat (pm_ln h v11)) / 2) then (if (pm_L h v2 14) < 0 then (some h) else ((pm_R h v2 10).bind fun v16 => if pm_kd h v16 = 34 then if (pm_L h v2 14) = (((Int32.ofNat (pm_ln h v16)) / 7).toInt64) then (some h) else ((fX9_fail h a0 14 (pm_I h a0 2)).bind fun v20 => some v20) else none)) else ((fX9_fail h a0 13 (pm_I h a0 2)).bind fun v22 => if pm_kd v22 a0 = 9 then (pm_R v22 a0 0).bind fun v25 => if pm_kd v22 v25 = 7 then if (pm_L v22 v25 14) < 0 then (some v22) else ((pm_R v22 v25 10).bind fun v29 => if pm_kd v22 v29 = 34 then if (pm_L v22 v25 14) = (((Int32.ofNat (pm_ln v22 v29)) / 7).toInt64) then (some v22) else ((fX9_fail v22 a0 14 (pm_I v22 a0 2)).bind fun v33 => some v33) else none) else none else none) else none else none else none
set_option maxHeartbeats 4000000 in
set_option maxRecDepth 100000 in
theorem ctX9_finish {l : Launch} {G : pm_Gl} {h : pm_H} {a0 : Nat} {r : pm_H} {Qr : Option Value → pm_H → Prop} (hf : fX9_finish h a0 = some r) (q : Qr none r) : pm_Ct l G mX9_finish [.ref a0] h 0 0 Qr := by
  refine pm_body pnX9 (Nat.le_of_ble_eq_true rfl) (fun g C X => ?_)
  have C : pm_C g cX9_finish RX9 := C
  show pm_G g 0 [(0, .ref a0)] [] h 0 0
  unfold fX9_finish at hf
  refine pm_aload_n C dX9_finish_0 rfl rfl ?_
  obtain ⟨k1, hf⟩ := pm_if hf
  obtain ⟨v2, e3, hf⟩ := pm_bd hf
  refine pm_getR C dX9_finish_1 flX9_19 rfl k1 e3 ?_
  refine pm_iconst (v := 0) C dX9_finish_4 (by decide) ?_
  obtain ⟨k4, hf⟩ := pm_if hf
  obtain ⟨v5, e6, hf⟩ := pm_bd hf
  refine pm_callV (as := [.int 0]) (st := []) C X dX9_finish_5 lnX9_70 myX7_count viX7_count ⟨by decide, by decide⟩ rfl rfl k4 (Nat.le_of_ble_eq_true rfl) (Nat.le_refl _) (Nat.le_refl _) (ctX7_count e6 ?_)
  show pm_G g 8 [(0, .ref a0)] [.int v5] h 0 0
  refine pm_aload_n C dX9_finish_8 rfl rfl ?_
  refine pm_getR C dX9_finish_9 flX9_19 rfl k1 e3 ?_
  refine pm_iconst (v := 0) C dX9_finish_12 (by decide) ?_
  obtain ⟨v7, e8, hf⟩ := pm_bd hf
  refine pm_callV (as := [.int 0]) (st := [.int v5]) C X dX9_finish_13 lnX9_74 myX7_imported viX7_imported ⟨by decide, by decide⟩ rfl rfl k4 (Nat.le_of_ble_eq_true rfl) (Nat.le_refl _) (Nat.le_refl _) (ctX7_imported e8 ?_)
  show pm_G g 16 [(0, .ref a0)] [.int v7, .int v5] h 0 0
  refine pm_isub C dX9_finish_16 ?_
  obtain ⟨y9, e10, hf⟩ := pm_lt hf
  refine pm_topI e10 ?_
  refine pm_istore_n (lv' := [(1, .int y9), (0, .ref a0)]) C dX9_finish_17 rfl (pm_nl X (by decide)) rfl ?_
  refine pm_iload_n C dX9_finish_18 rfl rfl ?_
  refine pm_aload_n C dX9_finish_19 rfl rfl ?_
  refine pm_getR C dX9_finish_20 flX9_19 rfl k1 e3 ?_
  obtain ⟨v11, e12, hf⟩ := pm_bd hf
  refine pm_getR C dX9_finish_23 flX9_77 rfl k4 e12 ?_
  obtain ⟨k13, hf⟩ := pm_if hf
  refine pm_alen (t := 2) C dX9_finish_26 (by decide) k13 rfl ?_
  refine pm_iconst (v := 2) C dX9_finish_27 (by decide) ?_
  refine pm_idiv C dX9_finish_28 (by decide) ?_
  refine pm_icmp_eq (tgt := 42) C dX9_finish_29 (by decide) (fun c14 => ?_) (fun c14 => ?_)
  · have hf := pm_it hf c14
    refine pm_aload_n C dX9_finish_42 rfl rfl ?_
    refine pm_getR C dX9_finish_43 flX9_19 rfl k1 e3 ?_
    refine pm_getL C dX9_finish_46 flX9_80 rfl k4 rfl ?_
    refine pm_lconst (v := 0) C dX9_finish_49 (by decide) ?_
    refine pm_lcmp C dX9_finish_50 ?_
    refine pm_if_lt (tgt := 87) C dX9_finish_51 (by decide) (fun c15 => ?_) (fun c15 => ?_)
    · have hf := pm_it hf ((pm_lg_lt _ _).mp c15)
      cases hf
      exact pm_vret C X dX9_finish_87 rfl (Nat.le_refl _) (Nat.le_refl _) q
    · have hf := pm_ie hf ((fun z => c15 ((pm_lg_lt _ _).mpr z)))
      refine pm_aload_n C dX9_finish_54 rfl rfl ?_
      refine pm_getR C dX9_finish_55 flX9_19 rfl k1 e3 ?_
      refine pm_getL C dX9_finish_58 flX9_80 rfl k4 rfl ?_
      refine pm_aload_n C dX9_finish_61 rfl rfl ?_
      refine pm_getR C dX9_finish_62 flX9_19 rfl k1 e3 ?_
      obtain ⟨v16, e17, hf⟩ := pm_bd hf
      refine pm_getR C dX9_finish_65 flX9_84 rfl k4 e17 ?_
      obtain ⟨k18, hf⟩ := pm_if hf
      refine pm_alen (t := 2) C dX9_finish_68 (by decide) k18 rfl ?_
      refine pm_bipush (v := 7) C dX9_finish_69 (by decide) ?_
      refine pm_idiv C dX9_finish_71 (by decide) ?_
      refine pm_i2l C dX9_finish_72 ?_
      refine pm_lcmp C dX9_finish_73 ?_
      refine pm_if_eq (tgt := 87) C dX9_finish_74 (by decide) (fun c19 => ?_) (fun c19 => ?_)
      · have hf := pm_it hf ((pm_lg_eq _ _).mp c19)
        cases hf
        exact pm_vret C X dX9_finish_87 rfl (Nat.le_refl _) (Nat.le_refl _) q
      · have hf := pm_ie hf ((fun z => c19 ((pm_lg_eq _ _).mpr z)))
        refine pm_aload_n C dX9_finish_77 rfl rfl ?_
        refine pm_bipush (v := 14) C dX9_finish_78 (by decide) ?_
        refine pm_aload_n C dX9_finish_80 rfl rfl ?_
        refine pm_getI C dX9_finish_81 flX9_60 rfl k1 rfl ?_
        obtain ⟨v20, e21, hf⟩ := pm_bd hf
        refine pm_callV (as := [.int 14, .int (pm_I h a0 2)]) (st := []) C X dX9_finish_84 lnX9_47 myX9_fail viX9_fail ⟨by decide, by decide⟩ rfl rfl k1 (Nat.le_of_ble_eq_true rfl) (Nat.le_refl _) (Nat.le_refl _) (ctX9_fail e21 ?_)
        show pm_G g 87 [(1, .int y9), (0, .ref a0)] [] v20 0 0
        cases hf
        exact pm_vret C X dX9_finish_87 rfl (Nat.le_refl _) (Nat.le_refl _) q
  · have hf := pm_ie hf c14
    refine pm_aload_n C dX9_finish_32 rfl rfl ?_
    refine pm_bipush (v := 13) C dX9_finish_33 (by decide) ?_
    refine pm_aload_n C dX9_finish_35 rfl rfl ?_
    refine pm_getI C dX9_finish_36 flX9_60 rfl k1 rfl ?_
    obtain ⟨v22, e23, hf⟩ := pm_bd hf
    refine pm_callV (as := [.int 13, .int (pm_I h a0 2)]) (st := []) C X dX9_finish_39 lnX9_47 myX9_fail viX9_fail ⟨by decide, by decide⟩ rfl rfl k1 (Nat.le_of_ble_eq_true rfl) (Nat.le_refl _) (Nat.le_refl _) (ctX9_fail e23 ?_)
    show pm_G g 42 [(1, .int y9), (0, .ref a0)] [] v22 0 0
    refine pm_aload_n C dX9_finish_42 rfl rfl ?_
    obtain ⟨k24, hf⟩ := pm_if hf
    obtain ⟨v25, e26, hf⟩ := pm_bd hf
    refine pm_getR C dX9_finish_43 flX9_19 rfl k24 e26 ?_
    obtain ⟨k27, hf⟩ := pm_if hf
    refine pm_getL C dX9_finish_46 flX9_80 rfl k27 rfl ?_
    refine pm_lconst (v := 0) C dX9_finish_49 (by decide) ?_
    refine pm_lcmp C dX9_finish_50 ?_
    refine pm_if_lt (tgt := 87) C dX9_finish_51 (by decide) (fun c28 => ?_) (fun c28 => ?_)
    · have hf := pm_it hf ((pm_lg_lt _ _).mp c28)
      cases hf
      exact pm_vret C X dX9_finish_87 rfl (Nat.le_refl _) (Nat.le_refl _) q
    · have hf := pm_ie hf ((fun z => c28 ((pm_lg_lt _ _).mpr z)))
      refine pm_aload_n C dX9_finish_54 rfl rfl ?_
      refine pm_getR C dX9_finish_55 flX9_19 rfl k24 e26 ?_
      refine pm_getL C dX9_finish_58 flX9_80 rfl k27 rfl ?_
      refine pm_aload_n C dX9_finish_61 rfl rfl ?_
      refine pm_getR C dX9_finish_62 flX9_19 rfl k24 e26 ?_
      obtain ⟨v29, e30, hf⟩ := pm_bd hf
      refine pm_getR C dX9_finish_65 flX9_84 rfl k27 e30 ?_
      obtain ⟨k31, hf⟩ := pm_if hf
      refine pm_alen (t := 2) C dX9_finish_68 (by decide) k31 rfl ?_
      refine pm_bipush (v := 7) C dX9_finish_69 (by decide) ?_
      refine pm_idiv C dX9_finish_71 (by decide) ?_
      refine pm_i2l C dX9_finish_72 ?_
      refine pm_lcmp C dX9_finish_73 ?_
      refine pm_if_eq (tgt := 87) C dX9_finish_74 (by decide) (fun c32 => ?_) (fun c32 => ?_)
      · have hf := pm_it hf ((pm_lg_eq _ _).mp c32)
        cases hf
        exact pm_vret C X dX9_finish_87 rfl (Nat.le_refl _) (Nat.le_refl _) q
      · have hf := pm_ie hf ((fun z => c32 ((pm_lg_eq _ _).mpr z)))
        refine pm_aload_n C dX9_finish_77 rfl rfl ?_
        refine pm_bipush (v := 14) C dX9_finish_78 (by decide) ?_
        refine pm_aload_n C dX9_finish_80 rfl rfl ?_
        refine pm_getI C dX9_finish_81 flX9_60 rfl k24 rfl ?_
        obtain ⟨v33, e34, hf⟩ := pm_bd hf
        refine pm_callV (as := [.int 14, .int (pm_I v22 a0 2)]) (st := []) C X dX9_finish_84 lnX9_47 myX9_fail viX9_fail ⟨by decide, by decide⟩ rfl rfl k24 (Nat.le_of_ble_eq_true rfl) (Nat.le_refl _) (Nat.le_refl _) (ctX9_fail e34 ?_)
        show pm_G g 87 [(1, .int y9), (0, .ref a0)] [] v33 0 0
        cases hf
        exact pm_vret C X dX9_finish_87 rfl (Nat.le_refl _) (Nat.le_refl _) q
theorem dX9_lowestFirst_0 : decode cX9_lowestFirst 0 = .ok (.lconst 0, 1) := by decide +kernel
theorem dX9_lowestFirst_1 : decode cX9_lowestFirst 1 = .ok (.lstore_n 2, 1) := by decide +kernel
theorem dX9_lowestFirst_2 : decode cX9_lowestFirst 2 = .ok (.iconst 0, 1) := by decide +kernel
theorem dX9_lowestFirst_3 : decode cX9_lowestFirst 3 = .ok (.istore 4, 2) := by decide +kernel
theorem dX9_lowestFirst_5 : decode cX9_lowestFirst 5 = .ok (.iload 4, 2) := by decide +kernel
theorem dX9_lowestFirst_7 : decode cX9_lowestFirst 7 = .ok (.iload_n 1, 1) := by decide +kernel
theorem dX9_lowestFirst_8 : decode cX9_lowestFirst 8 = .ok (.if_icmp .ge 23, 3) := by decide +kernel
theorem dX9_lowestFirst_11 : decode cX9_lowestFirst 11 = .ok (.lload_n 2, 1) := by decide +kernel
theorem dX9_lowestFirst_12 : decode cX9_lowestFirst 12 = .ok (.aload_n 0, 1) := by decide +kernel
theorem dX9_lowestFirst_13 : decode cX9_lowestFirst 13 = .ok (.invokevirtual 43, 3) := by decide +kernel
theorem dX9_lowestFirst_16 : decode cX9_lowestFirst 16 = .ok (.i2l, 1) := by decide +kernel
theorem dX9_lowestFirst_17 : decode cX9_lowestFirst 17 = .ok (.bipush 8, 2) := by decide +kernel
theorem dX9_lowestFirst_19 : decode cX9_lowestFirst 19 = .ok (.iload 4, 2) := by decide +kernel
theorem dX9_lowestFirst_21 : decode cX9_lowestFirst 21 = .ok (.imul, 1) := by decide +kernel
theorem dX9_lowestFirst_22 : decode cX9_lowestFirst 22 = .ok (.lshl, 1) := by decide +kernel
theorem dX9_lowestFirst_23 : decode cX9_lowestFirst 23 = .ok (.lor, 1) := by decide +kernel
theorem dX9_lowestFirst_24 : decode cX9_lowestFirst 24 = .ok (.lstore_n 2, 1) := by decide +kernel
theorem dX9_lowestFirst_25 : decode cX9_lowestFirst 25 = .ok (.iinc 4 1, 3) := by decide +kernel
theorem dX9_lowestFirst_28 : decode cX9_lowestFirst 28 = .ok (.goto (-23), 3) := by decide +kernel
theorem dX9_lowestFirst_31 : decode cX9_lowestFirst 31 = .ok (.lload_n 2, 1) := by decide +kernel
theorem dX9_lowestFirst_32 : decode cX9_lowestFirst 32 = .ok (.lreturn, 1) := by decide +kernel
def tX9_lowestFirst_5 (x0 : Nat) (x1 : Int32) (x2 : Int64) (x4 : Int32) (h : pm_H) : Option (((Nat × Int32 × Int64 × Int32 × pm_H)) ⊕ (Int64 × pm_H)) := if x1 ≤ x4 then (some (.inr ((x2, h)))) else (if pm_kd h x0 = 9 then (fX9_next h x0).bind fun v3 => pm_let (x2 ||| (v3.1.toInt64 <<< ((8 * x4).toInt64 &&& 63))) fun y5 => pm_let (x4 + 1) fun y7 => some (.inl ((x0, x1, y5, y7, v3.2))) else none)
def sX9_lowestFirst : ((Nat × Int32 × Int64 × Int32 × pm_H)) → Option (((Nat × Int32 × Int64 × Int32 × pm_H)) ⊕ (Int64 × pm_H)) := fun z => match z with
  | (x0, x1, x2, x4, h) => tX9_lowestFirst_5 x0 x1 x2 x4 h
noncomputable def fX9_lowestFirst (h : pm_H) (a0 : Nat) (p1 : Int32) : Option (Int64 × pm_H) := pm_lim sX9_lowestFirst ((a0, p1, 0, 0, h))
set_option maxHeartbeats 4000000 in
set_option maxRecDepth 100000 in
theorem lpX9_lowestFirst {g : pm_Gm} {l : Launch} {G : pm_Gl} {Qr : Option Value → pm_H → Prop} (C : pm_C g cX9_lowestFirst RX9) (X : pm_X g l G mX9_lowestFirst 0 0 Qr) {r : (Int64 × pm_H)} (q : Qr (some (.long r.1)) r.2) : ∀ n : Nat, (∀ (x0 : Nat) (x1 : Int32) (x2 : Int64) (x4 : Int32) (h : pm_H), pm_iter sX9_lowestFirst n (x0, x1, x2, x4, h) = some r → pm_G g 5 [(0, .ref x0), (1, .int x1), (2, .long x2), (4, .int x4)] [] h 0 0) := by
  intro n
  induction n with
  | zero => exact fun _ _ _ _ _ hf => (by cases hf)
  | succ n ih =>
    refine fun x0 x1 x2 x4 h hf => ?_
    obtain ⟨y, hf, hi⟩ := pm_iter_s hf
    have hf : tX9_lowestFirst_5 x0 x1 x2 x4 h = some y := hf
    unfold tX9_lowestFirst_5 at hf
    refine pm_iload C dX9_lowestFirst_5 rfl ?_
    refine pm_iload_n C dX9_lowestFirst_7 rfl rfl ?_
    refine pm_icmp_ge (tgt := 31) C dX9_lowestFirst_8 (by decide) (fun c1 => ?_) (fun c1 => ?_)
    · have hf := pm_it hf c1
      refine pm_lload_n C dX9_lowestFirst_31 rfl rfl ?_
      cases hf
      cases hi
      exact pm_lret C X dX9_lowestFirst_32 rfl (Nat.le_refl _) (Nat.le_refl _) q
    · have hf := pm_ie hf c1
      refine pm_lload_n C dX9_lowestFirst_11 rfl rfl ?_
      refine pm_aload_n C dX9_lowestFirst_12 rfl rfl ?_
      obtain ⟨k2, hf⟩ := pm_if hf
      obtain ⟨v3, e4, hf⟩ := pm_bd hf
      refine pm_callV (as := []) (st := [.long x2]) C X dX9_lowestFirst_13 lnX9_43 myX9_next viX9_next ⟨by decide, by decide⟩ rfl rfl k2 (Nat.le_of_ble_eq_true rfl) (Nat.le_refl _) (Nat.le_refl _) (ctX9_next e4 ?_)
      show pm_G g 16 [(0, .ref x0), (1, .int x1), (2, .long x2), (4, .int x4)] [.int v3.1, .long x2] v3.2 0 0
      refine pm_i2l C dX9_lowestFirst_16 ?_
      refine pm_bipush (v := 8) C dX9_lowestFirst_17 (by decide) ?_
      refine pm_iload C dX9_lowestFirst_19 rfl ?_
      refine pm_imul C dX9_lowestFirst_21 ?_
      refine pm_lshl C dX9_lowestFirst_22 ?_
      refine pm_lor C dX9_lowestFirst_23 ?_
      obtain ⟨y5, e6, hf⟩ := pm_lt hf
      refine pm_topL e6 ?_
      refine pm_lstore_n (lv' := [(2, .long y5), (0, .ref x0), (1, .int x1), (4, .int x4)]) C dX9_lowestFirst_24 rfl (pm_nl X (by decide)) rfl ?_
      obtain ⟨y7, e8, hf⟩ := pm_lt hf
      refine pm_iinc (v := y7) (lv' := [(4, .int y7), (2, .long y5), (0, .ref x0), (1, .int x1)]) C dX9_lowestFirst_25 rfl ((congrArg (x4 + ·) (by decide : Int32.ofInt 1 = 1)).trans e8) (pm_nl X (by decide)) rfl ?_
      refine pm_goto (tgt := 5) C dX9_lowestFirst_28 (by decide) ?_
      cases hf
      exact pm_sub [2, 3, 1, 0] rfl (ih x0 x1 y5 y7 v3.2 hi)
set_option maxHeartbeats 4000000 in
set_option maxRecDepth 100000 in
theorem ctX9_lowestFirst {l : Launch} {G : pm_Gl} {h : pm_H} {a0 : Nat} {p1 : Int32} {r : (Int64 × pm_H)} {Qr : Option Value → pm_H → Prop} (hf : fX9_lowestFirst h a0 p1 = some r) (q : Qr (some (.long r.1)) r.2) : pm_Ct l G mX9_lowestFirst [.ref a0, .int p1] h 0 0 Qr := by
  refine pm_body pnX9 (Nat.le_of_ble_eq_true rfl) (fun g C X => ?_)
  have C : pm_C g cX9_lowestFirst RX9 := C
  show pm_G g 0 [(0, .ref a0), (1, .int p1)] [] h 0 0
  unfold fX9_lowestFirst at hf
  refine pm_lconst (v := 0) C dX9_lowestFirst_0 (by decide) ?_
  refine pm_lstore_n (lv' := [(2, .long 0), (0, .ref a0), (1, .int p1)]) C dX9_lowestFirst_1 rfl (pm_nl X (by decide)) rfl ?_
  refine pm_iconst (v := 0) C dX9_lowestFirst_2 (by decide) ?_
  refine pm_istore (lv' := [(4, .int 0), (2, .long 0), (0, .ref a0), (1, .int p1)]) C dX9_lowestFirst_3 (pm_nl X (by decide)) rfl ?_
  obtain ⟨n, hn⟩ := pm_lim_iter hf
  exact pm_sub [2, 3, 1, 0] rfl ((lpX9_lowestFirst C X q n) a0 p1 0 0 h hn)
theorem dX10_isLimited_0 : decode cX10_isLimited 0 = .ok (.aload_n 0, 1) := by decide +kernel
theorem dX10_isLimited_1 : decode cX10_isLimited 1 = .ok (.iload_n 1, 1) := by decide +kernel
theorem dX10_isLimited_2 : decode cX10_isLimited 2 = .ok (.iconst 4, 1) := by decide +kernel
theorem dX10_isLimited_3 : decode cX10_isLimited 3 = .ok (.iadd, 1) := by decide +kernel
theorem dX10_isLimited_4 : decode cX10_isLimited 4 = .ok (.invokestatic 112, 3) := by decide +kernel
theorem dX10_isLimited_7 : decode cX10_isLimited 7 = .ok (.lstore 5, 2) := by decide +kernel
theorem dX10_isLimited_9 : decode cX10_isLimited 9 = .ok (.iload_n 2, 1) := by decide +kernel
theorem dX10_isLimited_10 : decode cX10_isLimited 10 = .ok (.i2l, 1) := by decide +kernel
theorem dX10_isLimited_11 : decode cX10_isLimited 11 = .ok (.aload_n 0, 1) := by decide +kernel
theorem dX10_isLimited_12 : decode cX10_isLimited 12 = .ok (.iload_n 1, 1) := by decide +kernel
theorem dX10_isLimited_13 : decode cX10_isLimited 13 = .ok (.iconst 3, 1) := by decide +kernel
theorem dX10_isLimited_14 : decode cX10_isLimited 14 = .ok (.iadd, 1) := by decide +kernel
theorem dX10_isLimited_15 : decode cX10_isLimited 15 = .ok (.invokestatic 112, 3) := by decide +kernel
theorem dX10_isLimited_18 : decode cX10_isLimited 18 = .ok (.lcmp, 1) := by decide +kernel
theorem dX10_isLimited_19 : decode cX10_isLimited 19 = .ok (.ifCond .ge 5, 3) := by decide +kernel
theorem dX10_isLimited_22 : decode cX10_isLimited 22 = .ok (.iconst 0, 1) := by decide +kernel
theorem dX10_isLimited_23 : decode cX10_isLimited 23 = .ok (.ireturn, 1) := by decide +kernel
theorem dX10_isLimited_24 : decode cX10_isLimited 24 = .ok (.lload 5, 2) := by decide +kernel
theorem dX10_isLimited_26 : decode cX10_isLimited 26 = .ok (.lconst 0, 1) := by decide +kernel
theorem dX10_isLimited_27 : decode cX10_isLimited 27 = .ok (.lcmp, 1) := by decide +kernel
theorem dX10_isLimited_28 : decode cX10_isLimited 28 = .ok (.ifCond .lt 16, 3) := by decide +kernel
theorem dX10_isLimited_31 : decode cX10_isLimited 31 = .ok (.lload_n 3, 1) := by decide +kernel
theorem dX10_isLimited_32 : decode cX10_isLimited 32 = .ok (.lconst 0, 1) := by decide +kernel
theorem dX10_isLimited_33 : decode cX10_isLimited 33 = .ok (.lcmp, 1) := by decide +kernel
theorem dX10_isLimited_34 : decode cX10_isLimited 34 = .ok (.ifCond .lt 14, 3) := by decide +kernel
theorem dX10_isLimited_37 : decode cX10_isLimited 37 = .ok (.lload_n 3, 1) := by decide +kernel
theorem dX10_isLimited_38 : decode cX10_isLimited 38 = .ok (.lload 5, 2) := by decide +kernel
theorem dX10_isLimited_40 : decode cX10_isLimited 40 = .ok (.lcmp, 1) := by decide +kernel
theorem dX10_isLimited_41 : decode cX10_isLimited 41 = .ok (.ifCond .gt 7, 3) := by decide +kernel
theorem dX10_isLimited_44 : decode cX10_isLimited 44 = .ok (.iconst 1, 1) := by decide +kernel
theorem dX10_isLimited_45 : decode cX10_isLimited 45 = .ok (.goto 4, 3) := by decide +kernel
theorem dX10_isLimited_48 : decode cX10_isLimited 48 = .ok (.iconst 0, 1) := by decide +kernel
theorem dX10_isLimited_49 : decode cX10_isLimited 49 = .ok (.ireturn, 1) := by decide +kernel
def fX10_isLimited (h : pm_H) (p1 : Nat) (p2 : Int32) (p3 : Int32) (p4 : Int64) : Option Int32 := (fX12_item_ h p1 (p2 + 4)).bind fun v1 => (fX12_item_ h p1 (p2 + 3)).bind fun v3 => if v3 ≤ p3.toInt64 then (if v1 < 0 then (some 1) else (if p4 < 0 then (some 0) else (if v1 < p4 then (some 0) else (some 1)))) else (some 0)
set_option maxHeartbeats 4000000 in
set_option maxRecDepth 100000 in
theorem ctX10_isLimited {l : Launch} {G : pm_Gl} {h : pm_H} {p1 : Nat} {p2 : Int32} {p3 : Int32} {p4 : Int64} {r : Int32} {Qr : Option Value → pm_H → Prop} (hf : fX10_isLimited h p1 p2 p3 p4 = some r) (q : Qr (some (.int r)) h) : pm_Ct l G mX10_isLimited [.ref p1, .int p2, .int p3, .long p4] h 0 0 Qr := by
  refine pm_body pnX10 (Nat.le_of_ble_eq_true rfl) (fun g C X => ?_)
  have C : pm_C g cX10_isLimited RX10 := C
  show pm_G g 0 [(0, .ref p1), (1, .int p2), (2, .int p3), (3, .long p4)] [] h 0 0
  unfold fX10_isLimited at hf
  refine pm_aload_n C dX10_isLimited_0 rfl rfl ?_
  refine pm_iload_n C dX10_isLimited_1 rfl rfl ?_
  refine pm_iconst (v := 4) C dX10_isLimited_2 (by decide) ?_
  refine pm_iadd C dX10_isLimited_3 ?_
  obtain ⟨v1, e2, hf⟩ := pm_bd hf
  refine pm_callS (as := [.ref p1, .int (p2 + 4)]) (st := []) C X dX10_isLimited_4 lnX10_112 myX12_item_ stX12_item_ ⟨by decide, by decide⟩ rfl rfl (Nat.le_of_ble_eq_true rfl) (Nat.le_refl _) (Nat.le_refl _) (ctX12_item_ e2 ?_)
  show pm_G g 7 [(0, .ref p1), (1, .int p2), (2, .int p3), (3, .long p4)] [.long v1] h 0 0
  refine pm_lstore (lv' := [(5, .long v1), (0, .ref p1), (1, .int p2), (2, .int p3), (3, .long p4)]) C dX10_isLimited_7 (pm_nl X (by decide)) rfl ?_
  refine pm_iload_n C dX10_isLimited_9 rfl rfl ?_
  refine pm_i2l C dX10_isLimited_10 ?_
  refine pm_aload_n C dX10_isLimited_11 rfl rfl ?_
  refine pm_iload_n C dX10_isLimited_12 rfl rfl ?_
  refine pm_iconst (v := 3) C dX10_isLimited_13 (by decide) ?_
  refine pm_iadd C dX10_isLimited_14 ?_
  obtain ⟨v3, e4, hf⟩ := pm_bd hf
  refine pm_callS (as := [.ref p1, .int (p2 + 3)]) (st := [.long p3.toInt64]) C X dX10_isLimited_15 lnX10_112 myX12_item_ stX12_item_ ⟨by decide, by decide⟩ rfl rfl (Nat.le_of_ble_eq_true rfl) (Nat.le_refl _) (Nat.le_refl _) (ctX12_item_ e4 ?_)
  show pm_G g 18 [(5, .long v1), (0, .ref p1), (1, .int p2), (2, .int p3), (3, .long p4)] [.long v3, .long p3.toInt64] h 0 0
  refine pm_lcmp C dX10_isLimited_18 ?_
  refine pm_if_ge (tgt := 24) C dX10_isLimited_19 (by decide) (fun c5 => ?_) (fun c5 => ?_)
  · have hf := pm_it hf ((pm_lg_ge _ _).mp c5)
    refine pm_lload C dX10_isLimited_24 rfl ?_
    refine pm_lconst (v := 0) C dX10_isLimited_26 (by decide) ?_
    refine pm_lcmp C dX10_isLimited_27 ?_
    refine pm_if_lt (tgt := 44) C dX10_isLimited_28 (by decide) (fun c6 => ?_) (fun c6 => ?_)
    · have hf := pm_it hf ((pm_lg_lt _ _).mp c6)
      refine pm_iconst (v := 1) C dX10_isLimited_44 (by decide) ?_
      refine pm_goto (tgt := 49) C dX10_isLimited_45 (by decide) ?_
      cases hf
      exact pm_zret C X dX10_isLimited_49 rfl (by decide) (Nat.le_refl _) (Nat.le_refl _) q
    · have hf := pm_ie hf ((fun z => c6 ((pm_lg_lt _ _).mpr z)))
      refine pm_lload_n C dX10_isLimited_31 rfl rfl ?_
      refine pm_lconst (v := 0) C dX10_isLimited_32 (by decide) ?_
      refine pm_lcmp C dX10_isLimited_33 ?_
      refine pm_if_lt (tgt := 48) C dX10_isLimited_34 (by decide) (fun c7 => ?_) (fun c7 => ?_)
      · have hf := pm_it hf ((pm_lg_lt _ _).mp c7)
        refine pm_iconst (v := 0) C dX10_isLimited_48 (by decide) ?_
        cases hf
        exact pm_zret C X dX10_isLimited_49 rfl (by decide) (Nat.le_refl _) (Nat.le_refl _) q
      · have hf := pm_ie hf ((fun z => c7 ((pm_lg_lt _ _).mpr z)))
        refine pm_lload_n C dX10_isLimited_37 rfl rfl ?_
        refine pm_lload C dX10_isLimited_38 rfl ?_
        refine pm_lcmp C dX10_isLimited_40 ?_
        refine pm_if_gt (tgt := 48) C dX10_isLimited_41 (by decide) (fun c8 => ?_) (fun c8 => ?_)
        · have hf := pm_it hf ((pm_lg_gt _ _).mp c8)
          refine pm_iconst (v := 0) C dX10_isLimited_48 (by decide) ?_
          cases hf
          exact pm_zret C X dX10_isLimited_49 rfl (by decide) (Nat.le_refl _) (Nat.le_refl _) q
        · have hf := pm_ie hf ((fun z => c8 ((pm_lg_gt _ _).mpr z)))
          refine pm_iconst (v := 1) C dX10_isLimited_44 (by decide) ?_
          refine pm_goto (tgt := 49) C dX10_isLimited_45 (by decide) ?_
          cases hf
          exact pm_zret C X dX10_isLimited_49 rfl (by decide) (Nat.le_refl _) (Nat.le_refl _) q
  · have hf := pm_ie hf ((fun z => c5 ((pm_lg_ge _ _).mpr z)))
    refine pm_iconst (v := 0) C dX10_isLimited_22 (by decide) ?_
    cases hf
    exact pm_zret C X dX10_isLimited_23 rfl (by decide) (Nat.le_refl _) (Nat.le_refl _) q
theorem dX10_leastInAll_0 : decode cX10_leastInAll 0 = .ok (.lconst 0, 1) := by decide +kernel
theorem dX10_leastInAll_1 : decode cX10_leastInAll 1 = .ok (.lstore_n 2, 1) := by decide +kernel
theorem dX10_leastInAll_2 : decode cX10_leastInAll 2 = .ok (.aload_n 0, 1) := by decide +kernel
theorem dX10_leastInAll_3 : decode cX10_leastInAll 3 = .ok (.iload_n 1, 1) := by decide +kernel
theorem dX10_leastInAll_4 : decode cX10_leastInAll 4 = .ok (.invokevirtual 151, 3) := by decide +kernel
theorem dX10_leastInAll_7 : decode cX10_leastInAll 7 = .ok (.istore 4, 2) := by decide +kernel
theorem dX10_leastInAll_9 : decode cX10_leastInAll 9 = .ok (.iload 4, 2) := by decide +kernel
theorem dX10_leastInAll_11 : decode cX10_leastInAll 11 = .ok (.aload_n 0, 1) := by decide +kernel
theorem dX10_leastInAll_12 : decode cX10_leastInAll 12 = .ok (.iload_n 1, 1) := by decide +kernel
theorem dX10_leastInAll_13 : decode cX10_leastInAll 13 = .ok (.invokevirtual 147, 3) := by decide +kernel
theorem dX10_leastInAll_16 : decode cX10_leastInAll 16 = .ok (.if_icmp .ge 20, 3) := by decide +kernel
theorem dX10_leastInAll_19 : decode cX10_leastInAll 19 = .ok (.lload_n 2, 1) := by decide +kernel
theorem dX10_leastInAll_20 : decode cX10_leastInAll 20 = .ok (.aload_n 0, 1) := by decide +kernel
theorem dX10_leastInAll_21 : decode cX10_leastInAll 21 = .ok (.iload_n 1, 1) := by decide +kernel
theorem dX10_leastInAll_22 : decode cX10_leastInAll 22 = .ok (.iload 4, 2) := by decide +kernel
theorem dX10_leastInAll_24 : decode cX10_leastInAll 24 = .ok (.iconst 3, 1) := by decide +kernel
theorem dX10_leastInAll_25 : decode cX10_leastInAll 25 = .ok (.invokevirtual 174, 3) := by decide +kernel
theorem dX10_leastInAll_28 : decode cX10_leastInAll 28 = .ok (.ladd, 1) := by decide +kernel
theorem dX10_leastInAll_29 : decode cX10_leastInAll 29 = .ok (.lstore_n 2, 1) := by decide +kernel
theorem dX10_leastInAll_30 : decode cX10_leastInAll 30 = .ok (.iinc 4 1, 3) := by decide +kernel
theorem dX10_leastInAll_33 : decode cX10_leastInAll 33 = .ok (.goto (-24), 3) := by decide +kernel
theorem dX10_leastInAll_36 : decode cX10_leastInAll 36 = .ok (.lload_n 2, 1) := by decide +kernel
theorem dX10_leastInAll_37 : decode cX10_leastInAll 37 = .ok (.lreturn, 1) := by decide +kernel
noncomputable def tX10_leastInAll_9 (h : pm_H) (x0 : Nat) (x1 : Int32) (x2 : Int64) (x4 : Int32) : Option (((Nat × Int32 × Int64 × Int32)) ⊕ Int64) := if pm_kd h x0 = 7 then (fX7_count h x0 x1).bind fun v5 => if v5 ≤ x4 then (some (.inr (x2))) else ((fX7_of h x0 x1 x4 3).bind fun v8 => pm_let (x2 + v8) fun y10 => pm_let (x4 + 1) fun y12 => some (.inl ((x0, x1, y10, y12)))) else none
noncomputable def sX10_leastInAll (h : pm_H) : ((Nat × Int32 × Int64 × Int32)) → Option (((Nat × Int32 × Int64 × Int32)) ⊕ Int64) := fun z => match z with
  | (x0, x1, x2, x4) => tX10_leastInAll_9 h x0 x1 x2 x4
noncomputable def fX10_leastInAll (h : pm_H) (p1 : Nat) (p2 : Int32) : Option Int64 := if pm_kd h p1 = 7 then (fX7_imported h p1 p2).bind fun v2 => pm_lim (sX10_leastInAll h) ((p1, p2, 0, v2)) else none
set_option maxHeartbeats 4000000 in
set_option maxRecDepth 100000 in
theorem lpX10_leastInAll {g : pm_Gm} {l : Launch} {G : pm_Gl} {Qr : Option Value → pm_H → Prop} (C : pm_C g cX10_leastInAll RX10) (X : pm_X g l G mX10_leastInAll 0 0 Qr) {h : pm_H} {r : Int64} (q : Qr (some (.long r)) h) : ∀ n : Nat, (∀ (x0 : Nat) (x1 : Int32) (x2 : Int64) (x4 : Int32), pm_iter (sX10_leastInAll h) n (x0, x1, x2, x4) = some r → pm_G g 9 [(0, .ref x0), (1, .int x1), (2, .long x2), (4, .int x4)] [] h 0 0) := by
  intro n
  induction n with
  | zero => exact fun _ _ _ _ hf => (by cases hf)
  | succ n ih =>
    refine fun x0 x1 x2 x4 hf => ?_
    obtain ⟨y, hf, hi⟩ := pm_iter_s hf
    have hf : tX10_leastInAll_9 h x0 x1 x2 x4 = some y := hf
    unfold tX10_leastInAll_9 at hf
    refine pm_iload C dX10_leastInAll_9 rfl ?_
    refine pm_aload_n C dX10_leastInAll_11 rfl rfl ?_
    refine pm_iload_n C dX10_leastInAll_12 rfl rfl ?_
    obtain ⟨k4, hf⟩ := pm_if hf
    obtain ⟨v5, e6, hf⟩ := pm_bd hf
    refine pm_callV (as := [.int x1]) (st := [.int x4]) C X dX10_leastInAll_13 lnX10_147 myX7_count viX7_count ⟨by decide, by decide⟩ rfl rfl k4 (Nat.le_of_ble_eq_true rfl) (Nat.le_refl _) (Nat.le_refl _) (ctX7_count e6 ?_)
    show pm_G g 16 [(0, .ref x0), (1, .int x1), (2, .long x2), (4, .int x4)] [.int v5, .int x4] h 0 0
    refine pm_icmp_ge (tgt := 36) C dX10_leastInAll_16 (by decide) (fun c7 => ?_) (fun c7 => ?_)
    · have hf := pm_it hf c7
      refine pm_lload_n C dX10_leastInAll_36 rfl rfl ?_
      cases hf
      cases hi
      exact pm_lret C X dX10_leastInAll_37 rfl (Nat.le_refl _) (Nat.le_refl _) q
    · have hf := pm_ie hf c7
      refine pm_lload_n C dX10_leastInAll_19 rfl rfl ?_
      refine pm_aload_n C dX10_leastInAll_20 rfl rfl ?_
      refine pm_iload_n C dX10_leastInAll_21 rfl rfl ?_
      refine pm_iload C dX10_leastInAll_22 rfl ?_
      refine pm_iconst (v := 3) C dX10_leastInAll_24 (by decide) ?_
      obtain ⟨v8, e9, hf⟩ := pm_bd hf
      refine pm_callV (as := [.int x1, .int x4, .int 3]) (st := [.long x2]) C X dX10_leastInAll_25 lnX10_174 myX7_of viX7_of ⟨by decide, by decide⟩ rfl rfl k4 (Nat.le_of_ble_eq_true rfl) (Nat.le_refl _) (Nat.le_refl _) (ctX7_of e9 ?_)
      show pm_G g 28 [(0, .ref x0), (1, .int x1), (2, .long x2), (4, .int x4)] [.long v8, .long x2] h 0 0
      refine pm_ladd C dX10_leastInAll_28 ?_
      obtain ⟨y10, e11, hf⟩ := pm_lt hf
      refine pm_topL e11 ?_
      refine pm_lstore_n (lv' := [(2, .long y10), (0, .ref x0), (1, .int x1), (4, .int x4)]) C dX10_leastInAll_29 rfl (pm_nl X (by decide)) rfl ?_
      obtain ⟨y12, e13, hf⟩ := pm_lt hf
      refine pm_iinc (v := y12) (lv' := [(4, .int y12), (2, .long y10), (0, .ref x0), (1, .int x1)]) C dX10_leastInAll_30 rfl ((congrArg (x4 + ·) (by decide : Int32.ofInt 1 = 1)).trans e13) (pm_nl X (by decide)) rfl ?_
      refine pm_goto (tgt := 9) C dX10_leastInAll_33 (by decide) ?_
      cases hf
      exact pm_sub [2, 3, 1, 0] rfl (ih x0 x1 y10 y12 hi)
set_option maxHeartbeats 4000000 in
set_option maxRecDepth 100000 in
theorem ctX10_leastInAll {l : Launch} {G : pm_Gl} {h : pm_H} {p1 : Nat} {p2 : Int32} {r : Int64} {Qr : Option Value → pm_H → Prop} (hf : fX10_leastInAll h p1 p2 = some r) (q : Qr (some (.long r)) h) : pm_Ct l G mX10_leastInAll [.ref p1, .int p2] h 0 0 Qr := by
  refine pm_body pnX10 (Nat.le_of_ble_eq_true rfl) (fun g C X => ?_)
  have C : pm_C g cX10_leastInAll RX10 := C
  show pm_G g 0 [(0, .ref p1), (1, .int p2)] [] h 0 0
  unfold fX10_leastInAll at hf
  refine pm_lconst (v := 0) C dX10_leastInAll_0 (by decide) ?_
  refine pm_lstore_n (lv' := [(2, .long 0), (0, .ref p1), (1, .int p2)]) C dX10_leastInAll_1 rfl (pm_nl X (by decide)) rfl ?_
  refine pm_aload_n C dX10_leastInAll_2 rfl rfl ?_
  refine pm_iload_n C dX10_leastInAll_3 rfl rfl ?_
  obtain ⟨k1, hf⟩ := pm_if hf
  obtain ⟨v2, e3, hf⟩ := pm_bd hf
  refine pm_callV (as := [.int p2]) (st := []) C X dX10_leastInAll_4 lnX10_151 myX7_imported viX7_imported ⟨by decide, by decide⟩ rfl rfl k1 (Nat.le_of_ble_eq_true rfl) (Nat.le_refl _) (Nat.le_refl _) (ctX7_imported e3 ?_)
  show pm_G g 7 [(2, .long 0), (0, .ref p1), (1, .int p2)] [.int v2] h 0 0
  refine pm_istore (lv' := [(4, .int v2), (2, .long 0), (0, .ref p1), (1, .int p2)]) C dX10_leastInAll_7 (pm_nl X (by decide)) rfl ?_
  obtain ⟨n, hn⟩ := pm_lim_iter hf
  exact pm_sub [2, 3, 1, 0] rfl ((lpX10_leastInAll C X q n) p1 p2 0 v2 hn)
theorem dX11_copy_0 : decode cX11_copy 0 = .ok (.lload_n 3, 1) := by decide +kernel
theorem dX11_copy_1 : decode cX11_copy 1 = .ok (.lload 5, 2) := by decide +kernel
theorem dX11_copy_3 : decode cX11_copy 3 = .ok (.lcmp, 1) := by decide +kernel
theorem dX11_copy_4 : decode cX11_copy 4 = .ok (.ifCond .le 7, 3) := by decide +kernel
theorem dX11_copy_7 : decode cX11_copy 7 = .ok (.iconst 1, 1) := by decide +kernel
theorem dX11_copy_8 : decode cX11_copy 8 = .ok (.goto 4, 3) := by decide +kernel
theorem dX11_copy_11 : decode cX11_copy 11 = .ok (.iconst 0, 1) := by decide +kernel
theorem dX11_copy_12 : decode cX11_copy 12 = .ok (.istore 9, 2) := by decide +kernel
theorem dX11_copy_14 : decode cX11_copy 14 = .ok (.lconst 0, 1) := by decide +kernel
theorem dX11_copy_15 : decode cX11_copy 15 = .ok (.lstore 10, 2) := by decide +kernel
theorem dX11_copy_17 : decode cX11_copy 17 = .ok (.lload 10, 2) := by decide +kernel
theorem dX11_copy_19 : decode cX11_copy 19 = .ok (.lload 7, 2) := by decide +kernel
theorem dX11_copy_21 : decode cX11_copy 21 = .ok (.lcmp, 1) := by decide +kernel
theorem dX11_copy_22 : decode cX11_copy 22 = .ok (.ifCond .ge 50, 3) := by decide +kernel
theorem dX11_copy_25 : decode cX11_copy 25 = .ok (.iload 9, 2) := by decide +kernel
theorem dX11_copy_27 : decode cX11_copy 27 = .ok (.ifCond .eq 13, 3) := by decide +kernel
theorem dX11_copy_30 : decode cX11_copy 30 = .ok (.lload 7, 2) := by decide +kernel
theorem dX11_copy_32 : decode cX11_copy 32 = .ok (.lconst 1, 1) := by decide +kernel
theorem dX11_copy_33 : decode cX11_copy 33 = .ok (.lsub, 1) := by decide +kernel
theorem dX11_copy_34 : decode cX11_copy 34 = .ok (.lload 10, 2) := by decide +kernel
theorem dX11_copy_36 : decode cX11_copy 36 = .ok (.lsub, 1) := by decide +kernel
theorem dX11_copy_37 : decode cX11_copy 37 = .ok (.goto 5, 3) := by decide +kernel
theorem dX11_copy_40 : decode cX11_copy 40 = .ok (.lload 10, 2) := by decide +kernel
theorem dX11_copy_42 : decode cX11_copy 42 = .ok (.lstore 12, 2) := by decide +kernel
theorem dX11_copy_44 : decode cX11_copy 44 = .ok (.aload_n 0, 1) := by decide +kernel
theorem dX11_copy_45 : decode cX11_copy 45 = .ok (.iload_n 1, 1) := by decide +kernel
theorem dX11_copy_46 : decode cX11_copy 46 = .ok (.lload_n 3, 1) := by decide +kernel
theorem dX11_copy_47 : decode cX11_copy 47 = .ok (.lload 12, 2) := by decide +kernel
theorem dX11_copy_49 : decode cX11_copy 49 = .ok (.ladd, 1) := by decide +kernel
theorem dX11_copy_50 : decode cX11_copy 50 = .ok (.aload_n 0, 1) := by decide +kernel
theorem dX11_copy_51 : decode cX11_copy 51 = .ok (.iload_n 2, 1) := by decide +kernel
theorem dX11_copy_52 : decode cX11_copy 52 = .ok (.lload 5, 2) := by decide +kernel
theorem dX11_copy_54 : decode cX11_copy 54 = .ok (.lload 12, 2) := by decide +kernel
theorem dX11_copy_56 : decode cX11_copy 56 = .ok (.ladd, 1) := by decide +kernel
theorem dX11_copy_57 : decode cX11_copy 57 = .ok (.invokevirtual 80, 3) := by decide +kernel
theorem dX11_copy_60 : decode cX11_copy 60 = .ok (.invokevirtual 76, 3) := by decide +kernel
theorem dX11_copy_63 : decode cX11_copy 63 = .ok (.lload 10, 2) := by decide +kernel
theorem dX11_copy_65 : decode cX11_copy 65 = .ok (.lconst 1, 1) := by decide +kernel
theorem dX11_copy_66 : decode cX11_copy 66 = .ok (.ladd, 1) := by decide +kernel
theorem dX11_copy_67 : decode cX11_copy 67 = .ok (.lstore 10, 2) := by decide +kernel
theorem dX11_copy_69 : decode cX11_copy 69 = .ok (.goto (-52), 3) := by decide +kernel
theorem dX11_copy_72 : decode cX11_copy 72 = .ok (.return_, 1) := by decide +kernel
def tX11_copy_17 (x0 : Nat) (x1 : Int32) (x2 : Int32) (x3 : Int64) (x5 : Int64) (x7 : Int64) (x9 : Int32) (x10 : Int64) (h : pm_H) : Option (((Nat × Int32 × Int32 × Int64 × Int64 × Int64 × Int32 × Int64 × pm_H)) ⊕ pm_H) := if x7 ≤ x10 then (some (.inr (h))) else (if x9 = 0 then (if pm_kd h x0 = 11 then (fX11_entry h x0 x2 (x5 + x10)).bind fun v5 => (fX11_setEntry h x0 x1 (x3 + x10) v5).bind fun v7 => pm_let (x10 + 1) fun y9 => some (.inl ((x0, x1, x2, x3, x5, x7, x9, y9, v7))) else none) else (pm_let ((x7 - 1) - x10) fun y11 => if pm_kd h x0 = 11 then (fX11_entry h x0 x2 (x5 + y11)).bind fun v14 => (fX11_setEntry h x0 x1 (x3 + y11) v14).bind fun v16 => pm_let (x10 + 1) fun y18 => some (.inl ((x0, x1, x2, x3, x5, x7, x9, y18, v16))) else none))
def sX11_copy : ((Nat × Int32 × Int32 × Int64 × Int64 × Int64 × Int32 × Int64 × pm_H)) → Option (((Nat × Int32 × Int32 × Int64 × Int64 × Int64 × Int32 × Int64 × pm_H)) ⊕ pm_H) := fun z => match z with
  | (x0, x1, x2, x3, x5, x7, x9, x10, h) => tX11_copy_17 x0 x1 x2 x3 x5 x7 x9 x10 h
noncomputable def fX11_copy (h : pm_H) (a0 : Nat) (p1 : Int32) (p2 : Int32) (p3 : Int64) (p4 : Int64) (p5 : Int64) : Option pm_H := if p3 ≤ p4 then (pm_lim sX11_copy ((a0, p1, p2, p3, p4, p5, 0, 0, h))) else (pm_lim sX11_copy ((a0, p1, p2, p3, p4, p5, 1, 0, h)))
set_option maxHeartbeats 4000000 in
set_option maxRecDepth 100000 in
theorem lpX11_copy {g : pm_Gm} {l : Launch} {G : pm_Gl} {Qr : Option Value → pm_H → Prop} (C : pm_C g cX11_copy RX11) (X : pm_X g l G mX11_copy 0 0 Qr) {r : pm_H} (q : Qr none r) : ∀ n : Nat, (∀ (x0 : Nat) (x1 : Int32) (x2 : Int32) (x3 : Int64) (x5 : Int64) (x7 : Int64) (x9 : Int32) (x10 : Int64) (h : pm_H), pm_iter sX11_copy n (x0, x1, x2, x3, x5, x7, x9, x10, h) = some r → pm_G g 17 [(0, .ref x0), (1, .int x1), (2, .int x2), (3, .long x3), (5, .long x5), (7, .long x7), (9, .int x9), (10, .long x10)] [] h 0 0) := by
  intro n
  induction n with
  | zero => exact fun _ _ _ _ _ _ _ _ _ hf => (by cases hf)
  | succ n ih =>
    refine fun x0 x1 x2 x3 x5 x7 x9 x10 h hf => ?_
    obtain ⟨y, hf, hi⟩ := pm_iter_s hf
    have hf : tX11_copy_17 x0 x1 x2 x3 x5 x7 x9 x10 h = some y := hf
    unfold tX11_copy_17 at hf
    refine pm_lload C dX11_copy_17 rfl ?_
    refine pm_lload C dX11_copy_19 rfl ?_
    refine pm_lcmp C dX11_copy_21 ?_
    refine pm_if_ge (tgt := 72) C dX11_copy_22 (by decide) (fun c2 => ?_) (fun c2 => ?_)
    · have hf := pm_it hf ((pm_lg_ge _ _).mp c2)
      cases hf
      cases hi
      exact pm_vret C X dX11_copy_72 rfl (Nat.le_refl _) (Nat.le_refl _) q
    · have hf := pm_ie hf ((fun z => c2 ((pm_lg_ge _ _).mpr z)))
      refine pm_iload C dX11_copy_25 rfl ?_
      refine pm_if_eq (tgt := 40) C dX11_copy_27 (by decide) (fun c3 => ?_) (fun c3 => ?_)
      · have hf := pm_it hf c3
        refine pm_lload C dX11_copy_40 rfl ?_
        refine pm_lstore (lv' := [(12, .long x10), (0, .ref x0), (1, .int x1), (2, .int x2), (3, .long x3), (5, .long x5), (7, .long x7), (9, .int x9), (10, .long x10)]) C dX11_copy_42 (pm_nl X (by decide)) rfl ?_
        refine pm_aload_n C dX11_copy_44 rfl rfl ?_
        refine pm_iload_n C dX11_copy_45 rfl rfl ?_
        refine pm_lload_n C dX11_copy_46 rfl rfl ?_
        refine pm_lload C dX11_copy_47 rfl ?_
        refine pm_ladd C dX11_copy_49 ?_
        refine pm_aload_n C dX11_copy_50 rfl rfl ?_
        refine pm_iload_n C dX11_copy_51 rfl rfl ?_
        refine pm_lload C dX11_copy_52 rfl ?_
        refine pm_lload C dX11_copy_54 rfl ?_
        refine pm_ladd C dX11_copy_56 ?_
        obtain ⟨k4, hf⟩ := pm_if hf
        obtain ⟨v5, e6, hf⟩ := pm_bd hf
        refine pm_callV (as := [.int x2, .long (x5 + x10)]) (st := [.long (x3 + x10), .int x1, .ref x0]) C X dX11_copy_57 lnX11_80 myX11_entry viX11_entry ⟨by decide, by decide⟩ rfl rfl k4 (Nat.le_of_ble_eq_true rfl) (Nat.le_refl _) (Nat.le_refl _) (ctX11_entry e6 ?_)
        show pm_G g 60 [(12, .long x10), (0, .ref x0), (1, .int x1), (2, .int x2), (3, .long x3), (5, .long x5), (7, .long x7), (9, .int x9), (10, .long x10)] [.int v5, .long (x3 + x10), .int x1, .ref x0] h 0 0
        obtain ⟨v7, e8, hf⟩ := pm_bd hf
        refine pm_callV (as := [.int x1, .long (x3 + x10), .int v5]) (st := []) C X dX11_copy_60 lnX11_76 myX11_setEntry viX11_setEntry ⟨by decide, by decide⟩ rfl rfl k4 (Nat.le_of_ble_eq_true rfl) (Nat.le_refl _) (Nat.le_refl _) (ctX11_setEntry e8 ?_)
        show pm_G g 63 [(12, .long x10), (0, .ref x0), (1, .int x1), (2, .int x2), (3, .long x3), (5, .long x5), (7, .long x7), (9, .int x9), (10, .long x10)] [] v7 0 0
        refine pm_lload C dX11_copy_63 rfl ?_
        refine pm_lconst (v := 1) C dX11_copy_65 (by decide) ?_
        refine pm_ladd C dX11_copy_66 ?_
        obtain ⟨y9, e10, hf⟩ := pm_lt hf
        refine pm_topL e10 ?_
        refine pm_lstore (lv' := [(10, .long y9), (12, .long x10), (0, .ref x0), (1, .int x1), (2, .int x2), (3, .long x3), (5, .long x5), (7, .long x7), (9, .int x9)]) C dX11_copy_67 (pm_nl X (by decide)) rfl ?_
        refine pm_goto (tgt := 17) C dX11_copy_69 (by decide) ?_
        cases hf
        exact pm_sub [2, 3, 4, 5, 6, 7, 8, 0] rfl (ih x0 x1 x2 x3 x5 x7 x9 y9 v7 hi)
      · have hf := pm_ie hf c3
        refine pm_lload C dX11_copy_30 rfl ?_
        refine pm_lconst (v := 1) C dX11_copy_32 (by decide) ?_
        refine pm_lsub C dX11_copy_33 ?_
        refine pm_lload C dX11_copy_34 rfl ?_
        refine pm_lsub C dX11_copy_36 ?_
        refine pm_goto (tgt := 42) C dX11_copy_37 (by decide) ?_
        obtain ⟨y11, e12, hf⟩ := pm_lt hf
        refine pm_topL e12 ?_
        refine pm_lstore (lv' := [(12, .long y11), (0, .ref x0), (1, .int x1), (2, .int x2), (3, .long x3), (5, .long x5), (7, .long x7), (9, .int x9), (10, .long x10)]) C dX11_copy_42 (pm_nl X (by decide)) rfl ?_
        refine pm_aload_n C dX11_copy_44 rfl rfl ?_
        refine pm_iload_n C dX11_copy_45 rfl rfl ?_
        refine pm_lload_n C dX11_copy_46 rfl rfl ?_
        refine pm_lload C dX11_copy_47 rfl ?_
        refine pm_ladd C dX11_copy_49 ?_
        refine pm_aload_n C dX11_copy_50 rfl rfl ?_
        refine pm_iload_n C dX11_copy_51 rfl rfl ?_
        refine pm_lload C dX11_copy_52 rfl ?_
        refine pm_lload C dX11_copy_54 rfl ?_
        refine pm_ladd C dX11_copy_56 ?_
        obtain ⟨k13, hf⟩ := pm_if hf
        obtain ⟨v14, e15, hf⟩ := pm_bd hf
        refine pm_callV (as := [.int x2, .long (x5 + y11)]) (st := [.long (x3 + y11), .int x1, .ref x0]) C X dX11_copy_57 lnX11_80 myX11_entry viX11_entry ⟨by decide, by decide⟩ rfl rfl k13 (Nat.le_of_ble_eq_true rfl) (Nat.le_refl _) (Nat.le_refl _) (ctX11_entry e15 ?_)
        show pm_G g 60 [(12, .long y11), (0, .ref x0), (1, .int x1), (2, .int x2), (3, .long x3), (5, .long x5), (7, .long x7), (9, .int x9), (10, .long x10)] [.int v14, .long (x3 + y11), .int x1, .ref x0] h 0 0
        obtain ⟨v16, e17, hf⟩ := pm_bd hf
        refine pm_callV (as := [.int x1, .long (x3 + y11), .int v14]) (st := []) C X dX11_copy_60 lnX11_76 myX11_setEntry viX11_setEntry ⟨by decide, by decide⟩ rfl rfl k13 (Nat.le_of_ble_eq_true rfl) (Nat.le_refl _) (Nat.le_refl _) (ctX11_setEntry e17 ?_)
        show pm_G g 63 [(12, .long y11), (0, .ref x0), (1, .int x1), (2, .int x2), (3, .long x3), (5, .long x5), (7, .long x7), (9, .int x9), (10, .long x10)] [] v16 0 0
        refine pm_lload C dX11_copy_63 rfl ?_
        refine pm_lconst (v := 1) C dX11_copy_65 (by decide) ?_
        refine pm_ladd C dX11_copy_66 ?_
        obtain ⟨y18, e19, hf⟩ := pm_lt hf
        refine pm_topL e19 ?_
        refine pm_lstore (lv' := [(10, .long y18), (12, .long y11), (0, .ref x0), (1, .int x1), (2, .int x2), (3, .long x3), (5, .long x5), (7, .long x7), (9, .int x9)]) C dX11_copy_67 (pm_nl X (by decide)) rfl ?_
        refine pm_goto (tgt := 17) C dX11_copy_69 (by decide) ?_
        cases hf
        exact pm_sub [2, 3, 4, 5, 6, 7, 8, 0] rfl (ih x0 x1 x2 x3 x5 x7 x9 y18 v16 hi)
set_option maxHeartbeats 4000000 in
set_option maxRecDepth 100000 in
theorem ctX11_copy {l : Launch} {G : pm_Gl} {h : pm_H} {a0 : Nat} {p1 : Int32} {p2 : Int32} {p3 : Int64} {p4 : Int64} {p5 : Int64} {r : pm_H} {Qr : Option Value → pm_H → Prop} (hf : fX11_copy h a0 p1 p2 p3 p4 p5 = some r) (q : Qr none r) : pm_Ct l G mX11_copy [.ref a0, .int p1, .int p2, .long p3, .long p4, .long p5] h 0 0 Qr := by
  refine pm_body pnX11 (Nat.le_of_ble_eq_true rfl) (fun g C X => ?_)
  have C : pm_C g cX11_copy RX11 := C
  show pm_G g 0 [(0, .ref a0), (1, .int p1), (2, .int p2), (3, .long p3), (5, .long p4), (7, .long p5)] [] h 0 0
  unfold fX11_copy at hf
  refine pm_lload_n C dX11_copy_0 rfl rfl ?_
  refine pm_lload C dX11_copy_1 rfl ?_
  refine pm_lcmp C dX11_copy_3 ?_
  refine pm_if_le (tgt := 11) C dX11_copy_4 (by decide) (fun c1 => ?_) (fun c1 => ?_)
  · have hf := pm_it hf ((pm_lg_le _ _).mp c1)
    refine pm_iconst (v := 0) C dX11_copy_11 (by decide) ?_
    refine pm_istore (lv' := [(9, .int 0), (0, .ref a0), (1, .int p1), (2, .int p2), (3, .long p3), (5, .long p4), (7, .long p5)]) C dX11_copy_12 (pm_nl X (by decide)) rfl ?_
    refine pm_lconst (v := 0) C dX11_copy_14 (by decide) ?_
    refine pm_lstore (lv' := [(10, .long 0), (9, .int 0), (0, .ref a0), (1, .int p1), (2, .int p2), (3, .long p3), (5, .long p4), (7, .long p5)]) C dX11_copy_15 (pm_nl X (by decide)) rfl ?_
    obtain ⟨n, hn⟩ := pm_lim_iter hf
    exact pm_sub [2, 3, 4, 5, 6, 7, 1, 0] rfl ((lpX11_copy C X q n) a0 p1 p2 p3 p4 p5 0 0 h hn)
  · have hf := pm_ie hf ((fun z => c1 ((pm_lg_le _ _).mpr z)))
    refine pm_iconst (v := 1) C dX11_copy_7 (by decide) ?_
    refine pm_goto (tgt := 12) C dX11_copy_8 (by decide) ?_
    refine pm_istore (lv' := [(9, .int 1), (0, .ref a0), (1, .int p1), (2, .int p2), (3, .long p3), (5, .long p4), (7, .long p5)]) C dX11_copy_12 (pm_nl X (by decide)) rfl ?_
    refine pm_lconst (v := 0) C dX11_copy_14 (by decide) ?_
    refine pm_lstore (lv' := [(10, .long 0), (9, .int 1), (0, .ref a0), (1, .int p1), (2, .int p2), (3, .long p3), (5, .long p4), (7, .long p5)]) C dX11_copy_15 (pm_nl X (by decide)) rfl ?_
    obtain ⟨n, hn⟩ := pm_lim_iter hf
    exact pm_sub [2, 3, 4, 5, 6, 7, 1, 0] rfl ((lpX11_copy C X q n) a0 p1 p2 p3 p4 p5 1 0 h hn)
