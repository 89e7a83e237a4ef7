theorem dX16_root_0 : decode cX16_root 0 = .ok (.aload_n 0, 1) := by decide +kernel
theorem dX16_root_1 : decode cX16_root 1 = .ok (.getfield 61, 3) := by decide +kernel
theorem dX16_root_4 : decode cX16_root 4 = .ok (.iload_n 1, 1) := by decide +kernel
theorem dX16_root_5 : decode cX16_root 5 = .ok (.lload_n 2, 1) := by decide +kernel
theorem dX16_root_6 : decode cX16_root 6 = .ok (.invokevirtual 868, 3) := by decide +kernel
theorem dX16_root_9 : decode cX16_root 9 = .ok (.aload_n 0, 1) := by decide +kernel
theorem dX16_root_10 : decode cX16_root 10 = .ok (.getfield 61, 3) := by decide +kernel
theorem dX16_root_13 : decode cX16_root 13 = .ok (.getfield 871, 3) := by decide +kernel
theorem dX16_root_16 : decode cX16_root 16 = .ok (.iconst 1, 1) := by decide +kernel
theorem dX16_root_17 : decode cX16_root 17 = .ok (.if_icmp .ne 5, 3) := by decide +kernel
theorem dX16_root_20 : decode cX16_root 20 = .ok (.lload_n 2, 1) := by decide +kernel
theorem dX16_root_21 : decode cX16_root 21 = .ok (.lreturn, 1) := by decide +kernel
theorem dX16_root_22 : decode cX16_root 22 = .ok (.aload_n 0, 1) := by decide +kernel
theorem dX16_root_23 : decode cX16_root 23 = .ok (.getfield 61, 3) := by decide +kernel
theorem dX16_root_26 : decode cX16_root 26 = .ok (.getfield 871, 3) := by decide +kernel
theorem dX16_root_29 : decode cX16_root 29 = .ok (.iconst 3, 1) := by decide +kernel
theorem dX16_root_30 : decode cX16_root 30 = .ok (.if_icmp .eq 13, 3) := by decide +kernel
theorem dX16_root_33 : decode cX16_root 33 = .ok (.aload_n 0, 1) := by decide +kernel
theorem dX16_root_34 : decode cX16_root 34 = .ok (.getfield 61, 3) := by decide +kernel
theorem dX16_root_37 : decode cX16_root 37 = .ok (.getfield 921, 3) := by decide +kernel
theorem dX16_root_40 : decode cX16_root 40 = .ok (.ifCond .eq 8, 3) := by decide +kernel
theorem dX16_root_43 : decode cX16_root 43 = .ok (.iload_n 1, 1) := by decide +kernel
theorem dX16_root_44 : decode cX16_root 44 = .ok (.invokestatic 910, 3) := by decide +kernel
theorem dX16_root_47 : decode cX16_root 47 = .ok (.lreturn, 1) := by decide +kernel
theorem dX16_root_48 : decode cX16_root 48 = .ok (.aload_n 0, 1) := by decide +kernel
theorem dX16_root_49 : decode cX16_root 49 = .ok (.getfield 61, 3) := by decide +kernel
theorem dX16_root_52 : decode cX16_root 52 = .ok (.getfield 871, 3) := by decide +kernel
theorem dX16_root_55 : decode cX16_root 55 = .ok (.iconst 2, 1) := by decide +kernel
theorem dX16_root_56 : decode cX16_root 56 = .ok (.if_icmp .ne 5, 3) := by decide +kernel
theorem dX16_root_59 : decode cX16_root 59 = .ok (.lload_n 2, 1) := by decide +kernel
theorem dX16_root_60 : decode cX16_root 60 = .ok (.lreturn, 1) := by decide +kernel
theorem dX16_root_61 : decode cX16_root 61 = .ok (.aload_n 0, 1) := by decide +kernel
theorem dX16_root_62 : decode cX16_root 62 = .ok (.getfield 61, 3) := by decide +kernel
theorem dX16_root_65 : decode cX16_root 65 = .ok (.getfield 916, 3) := by decide +kernel
theorem dX16_root_68 : decode cX16_root 68 = .ok (.lstore 4, 2) := by decide +kernel
theorem dX16_root_70 : decode cX16_root 70 = .ok (.aload_n 0, 1) := by decide +kernel
theorem dX16_root_71 : decode cX16_root 71 = .ok (.getfield 61, 3) := by decide +kernel
theorem dX16_root_74 : decode cX16_root 74 = .ok (.getfield 913, 3) := by decide +kernel
theorem dX16_root_77 : decode cX16_root 77 = .ok (.istore 6, 2) := by decide +kernel
theorem dX16_root_79 : decode cX16_root 79 = .ok (.lload 4, 2) := by decide +kernel
theorem dX16_root_81 : decode cX16_root 81 = .ok (.ldc2_w 928, 3) := by decide +kernel
theorem dX16_root_84 : decode cX16_root 84 = .ok (.lcmp, 1) := by decide +kernel
theorem dX16_root_85 : decode cX16_root 85 = .ok (.ifCond .lt 10, 3) := by decide +kernel
theorem dX16_root_88 : decode cX16_root 88 = .ok (.iload 6, 2) := by decide +kernel
theorem dX16_root_90 : decode cX16_root 90 = .ok (.iconst 2, 1) := by decide +kernel
theorem dX16_root_91 : decode cX16_root 91 = .ok (.irem, 1) := by decide +kernel
theorem dX16_root_92 : decode cX16_root 92 = .ok (.ifCond .eq 15, 3) := by decide +kernel
theorem dX16_root_95 : decode cX16_root 95 = .ok (.lload 4, 2) := by decide +kernel
theorem dX16_root_97 : decode cX16_root 97 = .ok (.iconst 1, 1) := by decide +kernel
theorem dX16_root_98 : decode cX16_root 98 = .ok (.lshl, 1) := by decide +kernel
theorem dX16_root_99 : decode cX16_root 99 = .ok (.lstore 4, 2) := by decide +kernel
theorem dX16_root_101 : decode cX16_root 101 = .ok (.iinc 6 (-1), 3) := by decide +kernel
theorem dX16_root_104 : decode cX16_root 104 = .ok (.goto (-25), 3) := by decide +kernel
theorem dX16_root_107 : decode cX16_root 107 = .ok (.lconst 0, 1) := by decide +kernel
theorem dX16_root_108 : decode cX16_root 108 = .ok (.lstore 7, 2) := by decide +kernel
theorem dX16_root_110 : decode cX16_root 110 = .ok (.lconst 0, 1) := by decide +kernel
theorem dX16_root_111 : decode cX16_root 111 = .ok (.lstore 9, 2) := by decide +kernel
theorem dX16_root_113 : decode cX16_root 113 = .ok (.bipush 28, 2) := by decide +kernel
theorem dX16_root_115 : decode cX16_root 115 = .ok (.istore 11, 2) := by decide +kernel
theorem dX16_root_117 : decode cX16_root 117 = .ok (.iload 11, 2) := by decide +kernel
theorem dX16_root_119 : decode cX16_root 119 = .ok (.bipush (-30), 2) := by decide +kernel
theorem dX16_root_121 : decode cX16_root 121 = .ok (.if_icmp .le 71, 3) := by decide +kernel
theorem dX16_root_124 : decode cX16_root 124 = .ok (.lload 7, 2) := by decide +kernel
theorem dX16_root_126 : decode cX16_root 126 = .ok (.iconst 2, 1) := by decide +kernel
theorem dX16_root_127 : decode cX16_root 127 = .ok (.lshl, 1) := by decide +kernel
theorem dX16_root_128 : decode cX16_root 128 = .ok (.iload 11, 2) := by decide +kernel
theorem dX16_root_130 : decode cX16_root 130 = .ok (.ifCond .ge 7, 3) := by decide +kernel
theorem dX16_root_133 : decode cX16_root 133 = .ok (.lconst 0, 1) := by decide +kernel
theorem dX16_root_134 : decode cX16_root 134 = .ok (.goto 14, 3) := by decide +kernel
theorem dX16_root_137 : decode cX16_root 137 = .ok (.lload 4, 2) := by decide +kernel
theorem dX16_root_139 : decode cX16_root 139 = .ok (.iconst 2, 1) := by decide +kernel
theorem dX16_root_140 : decode cX16_root 140 = .ok (.iload 11, 2) := by decide +kernel
theorem dX16_root_142 : decode cX16_root 142 = .ok (.imul, 1) := by decide +kernel
theorem dX16_root_143 : decode cX16_root 143 = .ok (.lushr, 1) := by decide +kernel
theorem dX16_root_144 : decode cX16_root 144 = .ok (.ldc2_w 930, 3) := by decide +kernel
theorem dX16_root_147 : decode cX16_root 147 = .ok (.land, 1) := by decide +kernel
theorem dX16_root_148 : decode cX16_root 148 = .ok (.lor, 1) := by decide +kernel
theorem dX16_root_149 : decode cX16_root 149 = .ok (.lstore 7, 2) := by decide +kernel
theorem dX16_root_151 : decode cX16_root 151 = .ok (.lload 9, 2) := by decide +kernel
theorem dX16_root_153 : decode cX16_root 153 = .ok (.iconst 2, 1) := by decide +kernel
theorem dX16_root_154 : decode cX16_root 154 = .ok (.lshl, 1) := by decide +kernel
theorem dX16_root_155 : decode cX16_root 155 = .ok (.lconst 1, 1) := by decide +kernel
theorem dX16_root_156 : decode cX16_root 156 = .ok (.lor, 1) := by decide +kernel
theorem dX16_root_157 : decode cX16_root 157 = .ok (.lstore 12, 2) := by decide +kernel
theorem dX16_root_159 : decode cX16_root 159 = .ok (.lload 9, 2) := by decide +kernel
theorem dX16_root_161 : decode cX16_root 161 = .ok (.iconst 1, 1) := by decide +kernel
theorem dX16_root_162 : decode cX16_root 162 = .ok (.lshl, 1) := by decide +kernel
theorem dX16_root_163 : decode cX16_root 163 = .ok (.lstore 9, 2) := by decide +kernel
theorem dX16_root_165 : decode cX16_root 165 = .ok (.lload 7, 2) := by decide +kernel
theorem dX16_root_167 : decode cX16_root 167 = .ok (.lload 12, 2) := by decide +kernel
theorem dX16_root_169 : decode cX16_root 169 = .ok (.lcmp, 1) := by decide +kernel
theorem dX16_root_170 : decode cX16_root 170 = .ok (.ifCond .lt 16, 3) := by decide +kernel
theorem dX16_root_173 : decode cX16_root 173 = .ok (.lload 7, 2) := by decide +kernel
theorem dX16_root_175 : decode cX16_root 175 = .ok (.lload 12, 2) := by decide +kernel
theorem dX16_root_177 : decode cX16_root 177 = .ok (.lsub, 1) := by decide +kernel
theorem dX16_root_178 : decode cX16_root 178 = .ok (.lstore 7, 2) := by decide +kernel
theorem dX16_root_180 : decode cX16_root 180 = .ok (.lload 9, 2) := by decide +kernel
theorem dX16_root_182 : decode cX16_root 182 = .ok (.lconst 1, 1) := by decide +kernel
theorem dX16_root_183 : decode cX16_root 183 = .ok (.ladd, 1) := by decide +kernel
theorem dX16_root_184 : decode cX16_root 184 = .ok (.lstore 9, 2) := by decide +kernel
theorem dX16_root_186 : decode cX16_root 186 = .ok (.iinc 11 (-1), 3) := by decide +kernel
theorem dX16_root_189 : decode cX16_root 189 = .ok (.goto (-72), 3) := by decide +kernel
theorem dX16_root_192 : decode cX16_root 192 = .ok (.iload_n 1, 1) := by decide +kernel
theorem dX16_root_193 : decode cX16_root 193 = .ok (.iconst 0, 1) := by decide +kernel
theorem dX16_root_194 : decode cX16_root 194 = .ok (.lconst 0, 1) := by decide +kernel
theorem dX16_root_195 : decode cX16_root 195 = .ok (.lload 9, 2) := by decide +kernel
theorem dX16_root_197 : decode cX16_root 197 = .ok (.iload 6, 2) := by decide +kernel
theorem dX16_root_199 : decode cX16_root 199 = .ok (.iconst 2, 1) := by decide +kernel
theorem dX16_root_200 : decode cX16_root 200 = .ok (.idiv, 1) := by decide +kernel
theorem dX16_root_201 : decode cX16_root 201 = .ok (.bipush 29, 2) := by decide +kernel
theorem dX16_root_203 : decode cX16_root 203 = .ok (.isub, 1) := by decide +kernel
theorem dX16_root_204 : decode cX16_root 204 = .ok (.lload 7, 2) := by decide +kernel
theorem dX16_root_206 : decode cX16_root 206 = .ok (.lconst 0, 1) := by decide +kernel
theorem dX16_root_207 : decode cX16_root 207 = .ok (.lcmp, 1) := by decide +kernel
theorem dX16_root_208 : decode cX16_root 208 = .ok (.ifCond .eq 7, 3) := by decide +kernel
theorem dX16_root_211 : decode cX16_root 211 = .ok (.iconst 1, 1) := by decide +kernel
theorem dX16_root_212 : decode cX16_root 212 = .ok (.goto 4, 3) := by decide +kernel
theorem dX16_root_215 : decode cX16_root 215 = .ok (.iconst 0, 1) := by decide +kernel
theorem dX16_root_216 : decode cX16_root 216 = .ok (.invokestatic 924, 3) := by decide +kernel
theorem dX16_root_219 : decode cX16_root 219 = .ok (.lreturn, 1) := by decide +kernel
noncomputable def tX16_root_79 (x1 : Int32) (x4 : Int64) (x6 : Int32) (h : pm_H) : Option (((Int32 × Int64 × Int32 × pm_H) ⊕ (Int32 × Int64 × Int32 × Int64 × Int64 × Int32 × pm_H)) ⊕ (Int64 × pm_H)) := if x4 < 4503599627370496 then (pm_let (x4 <<< ((1 : Int32).toInt64 &&& 63)) fun y24 => pm_let (x6 + (-1)) fun y26 => some (.inl (.inl ((x1, y24, y26, h))))) else (if (x6 - x6 / 2 * 2) = 0 then (some (.inl (.inr ((x1, x4, x6, 0, 0, 28, h))))) else (pm_let (x4 <<< ((1 : Int32).toInt64 &&& 63)) fun y29 => pm_let (x6 + (-1)) fun y31 => some (.inl (.inl ((x1, y29, y31, h))))))
noncomputable def tX16_root_117 (x1 : Int32) (x4 : Int64) (x6 : Int32) (x7 : Int64) (x9 : Int64) (x11 : Int32) (h : pm_H) : Option (((Int32 × Int64 × Int32 × pm_H) ⊕ (Int32 × Int64 × Int32 × Int64 × Int64 × Int32 × pm_H)) ⊕ (Int64 × pm_H)) := if x11 ≤ (-30) then (if x7 = 0 then ((fX16_rounded x1 0 0 x9 ((x6 / 2) - 29) 0).bind fun v35 => some (.inr ((v35, h)))) else ((fX16_rounded x1 0 0 x9 ((x6 / 2) - 29) 1).bind fun v37 => some (.inr ((v37, h))))) else (if 0 ≤ x11 then (pm_let ((x7 <<< ((2 : Int32).toInt64 &&& 63)) ||| (((x4.toUInt64 >>> ((2 * x11).toInt64.toUInt64 &&& Int64.toUInt64 63)).toInt64) &&& 3)) fun y40 => pm_let ((x9 <<< ((2 : Int32).toInt64 &&& 63)) ||| 1) fun y42 => pm_let (x9 <<< ((1 : Int32).toInt64 &&& 63)) fun y44 => if y40 < y42 then (pm_let (x11 + (-1)) fun y47 => some (.inl (.inr ((x1, x4, x6, y40, y44, y47, h))))) else (pm_let (y40 - y42) fun y49 => pm_let (y44 + 1) fun y51 => pm_let (x11 + (-1)) fun y53 => some (.inl (.inr ((x1, x4, x6, y49, y51, y53, h)))))) else (pm_let ((x7 <<< ((2 : Int32).toInt64 &&& 63)) ||| 0) fun y55 => pm_let ((x9 <<< ((2 : Int32).toInt64 &&& 63)) ||| 1) fun y57 => pm_let (x9 <<< ((1 : Int32).toInt64 &&& 63)) fun y59 => if y55 < y57 then (pm_let (x11 + (-1)) fun y62 => some (.inl (.inr ((x1, x4, x6, y55, y59, y62, h))))) else (pm_let (y55 - y57) fun y64 => pm_let (y59 + 1) fun y66 => pm_let (x11 + (-1)) fun y68 => some (.inl (.inr ((x1, x4, x6, y64, y66, y68, h)))))))
noncomputable def sX16_root : ((Int32 × Int64 × Int32 × pm_H) ⊕ (Int32 × Int64 × Int32 × Int64 × Int64 × Int32 × pm_H)) → Option (((Int32 × Int64 × Int32 × pm_H) ⊕ (Int32 × Int64 × Int32 × Int64 × Int64 × Int32 × pm_H)) ⊕ (Int64 × pm_H)) := fun z => match z with
  | .inl (x1, x4, x6, h) => tX16_root_79 x1 x4 x6 h
  | .inr (x1, x4, x6, x7, x9, x11, h) => tX16_root_117 x1 x4 x6 x7 x9 x11 h
noncomputable def fX16_root (h : pm_H) (a0 : Nat) (p1 : Int32) (p2 : Int64) : Option (Int64 × pm_H) := if pm_kd h a0 = 16 then (pm_R h a0 34).bind fun v2 => if pm_kd h v2 = 15 then (fX15_read h v2 p1 p2).bind fun v5 => if pm_kd v5 a0 = 16 then (pm_R v5 a0 34).bind fun v8 => if pm_kd v5 v8 = 15 then if (pm_I v5 v8 1) = 1 then (some ((p2, v5))) else (if (pm_I v5 v8 1) = 3 then (pm_let (fX16_noneOf p1) fun v13 => some ((v13, v5))) else (if (pm_I v5 v8 0) = 0 then (if (pm_I v5 v8 1) = 2 then (some ((p2, v5))) else (pm_let (pm_L v5 v8 2) fun y17 => pm_let (pm_I v5 v8 3) fun y19 => pm_lim sX16_root (.inl ((p1, y17, y19, v5))))) else (pm_let (fX16_noneOf p1) fun v21 => some ((v21, v5))))) else none else none else none else none
set_option maxHeartbeats 4000000 in
set_option maxRecDepth 100000 in
theorem lpX16_root {g : pm_Gm} {l : Launch} {G : pm_Gl} {Qr : Option Value → pm_H → Prop} (C : pm_C g cX16_root RX16) (X : pm_X g l G mX16_root 0 0 Qr) {r : (Int64 × pm_H)} (q : Qr (some (.long r.1)) r.2) : ∀ n : Nat, (∀ (x1 : Int32) (x4 : Int64) (x6 : Int32) (h : pm_H), pm_iter sX16_root n (.inl (x1, x4, x6, h)) = some r → pm_G g 79 [(1, .int x1), (4, .long x4), (6, .int x6)] [] h 0 0) ∧ (∀ (x1 : Int32) (x4 : Int64) (x6 : Int32) (x7 : Int64) (x9 : Int64) (x11 : Int32) (h : pm_H), pm_iter sX16_root n (.inr (x1, x4, x6, x7, x9, x11, h)) = some r → pm_G g 117 [(1, .int x1), (4, .long x4), (6, .int x6), (7, .long x7), (9, .long x9), (11, .int x11)] [] h 0 0) := by
  intro n
  induction n with
  | zero => exact ⟨fun _ _ _ _ hf => (by cases hf), fun _ _ _ _ _ _ _ hf => (by cases hf)⟩
  | succ n ih =>
    refine ⟨fun x1 x4 x6 h hf => ?_, ?_⟩
    · obtain ⟨y, hf, hi⟩ := pm_iter_s hf
      have hf : tX16_root_79 x1 x4 x6 h = some y := hf
      unfold tX16_root_79 at hf
      refine pm_lload C dX16_root_79 rfl ?_
      refine pm_ldc2 C dX16_root_81 cnX16_928 ?_
      refine pm_lcmp C dX16_root_84 ?_
      refine pm_if_lt (tgt := 95) C dX16_root_85 (by decide) (fun c23 => ?_) (fun c23 => ?_)
      · have hf := pm_it hf ((pm_lg_lt _ _).mp c23)
        refine pm_lload C dX16_root_95 rfl ?_
        refine pm_iconst (v := 1) C dX16_root_97 (by decide) ?_
        refine pm_lshl C dX16_root_98 ?_
        obtain ⟨y24, e25, hf⟩ := pm_lt hf
        refine pm_topL e25 ?_
        refine pm_lstore (lv' := [(4, .long y24), (1, .int x1), (6, .int x6)]) C dX16_root_99 (pm_nl X (by decide)) rfl ?_
        obtain ⟨y26, e27, hf⟩ := pm_lt hf
        refine pm_iinc (v := y26) (lv' := [(6, .int y26), (4, .long y24), (1, .int x1)]) C dX16_root_101 rfl ((congrArg (x6 + ·) (by decide : Int32.ofInt (-1) = (-1))).trans e27) (pm_nl X (by decide)) rfl ?_
        refine pm_goto (tgt := 79) C dX16_root_104 (by decide) ?_
        cases hf
        exact pm_sub [2, 1, 0] rfl (ih.1 x1 y24 y26 h hi)
      · have hf := pm_ie hf ((fun z => c23 ((pm_lg_lt _ _).mpr z)))
        refine pm_iload C dX16_root_88 rfl ?_
        refine pm_iconst (v := 2) C dX16_root_90 (by decide) ?_
        refine pm_irem C dX16_root_91 (by decide) ?_
        refine pm_if_eq (tgt := 107) C dX16_root_92 (by decide) (fun c28 => ?_) (fun c28 => ?_)
        · have hf := pm_it hf c28
          refine pm_lconst (v := 0) C dX16_root_107 (by decide) ?_
          refine pm_lstore (lv' := [(7, .long 0), (1, .int x1), (4, .long x4), (6, .int x6)]) C dX16_root_108 (pm_nl X (by decide)) rfl ?_
          refine pm_lconst (v := 0) C dX16_root_110 (by decide) ?_
          refine pm_lstore (lv' := [(9, .long 0), (7, .long 0), (1, .int x1), (4, .long x4), (6, .int x6)]) C dX16_root_111 (pm_nl X (by decide)) rfl ?_
          refine pm_bipush (v := 28) C dX16_root_113 (by decide) ?_
          refine pm_istore (lv' := [(11, .int 28), (9, .long 0), (7, .long 0), (1, .int x1), (4, .long x4), (6, .int x6)]) C dX16_root_115 (pm_nl X (by decide)) rfl ?_
          cases hf
          exact pm_sub [3, 4, 5, 2, 1, 0] rfl (ih.2 x1 x4 x6 0 0 28 h hi)
        · have hf := pm_ie hf c28
          refine pm_lload C dX16_root_95 rfl ?_
          refine pm_iconst (v := 1) C dX16_root_97 (by decide) ?_
          refine pm_lshl C dX16_root_98 ?_
          obtain ⟨y29, e30, hf⟩ := pm_lt hf
          refine pm_topL e30 ?_
          refine pm_lstore (lv' := [(4, .long y29), (1, .int x1), (6, .int x6)]) C dX16_root_99 (pm_nl X (by decide)) rfl ?_
          obtain ⟨y31, e32, hf⟩ := pm_lt hf
          refine pm_iinc (v := y31) (lv' := [(6, .int y31), (4, .long y29), (1, .int x1)]) C dX16_root_101 rfl ((congrArg (x6 + ·) (by decide : Int32.ofInt (-1) = (-1))).trans e32) (pm_nl X (by decide)) rfl ?_
          refine pm_goto (tgt := 79) C dX16_root_104 (by decide) ?_
          cases hf
          exact pm_sub [2, 1, 0] rfl (ih.1 x1 y29 y31 h hi)
    refine fun x1 x4 x6 x7 x9 x11 h hf => ?_
    obtain ⟨y, hf, hi⟩ := pm_iter_s hf
    have hf : tX16_root_117 x1 x4 x6 x7 x9 x11 h = some y := hf
    unfold tX16_root_117 at hf
    refine pm_iload C dX16_root_117 rfl ?_
    refine pm_bipush (v := (-30)) C dX16_root_119 (by decide) ?_
    refine pm_icmp_le (tgt := 192) C dX16_root_121 (by decide) (fun c33 => ?_) (fun c33 => ?_)
    · have hf := pm_it hf c33
      refine pm_iload_n C dX16_root_192 rfl rfl ?_
      refine pm_iconst (v := 0) C dX16_root_193 (by decide) ?_
      refine pm_lconst (v := 0) C dX16_root_194 (by decide) ?_
      refine pm_lload C dX16_root_195 rfl ?_
      refine pm_iload C dX16_root_197 rfl ?_
      refine pm_iconst (v := 2) C dX16_root_199 (by decide) ?_
      refine pm_idiv C dX16_root_200 (by decide) ?_
      refine pm_bipush (v := 29) C dX16_root_201 (by decide) ?_
      refine pm_isub C dX16_root_203 ?_
      refine pm_lload C dX16_root_204 rfl ?_
      refine pm_lconst (v := 0) C dX16_root_206 (by decide) ?_
      refine pm_lcmp C dX16_root_207 ?_
      refine pm_if_eq (tgt := 215) C dX16_root_208 (by decide) (fun c34 => ?_) (fun c34 => ?_)
      · have hf := pm_it hf ((pm_lg_eq _ _).mp c34)
        refine pm_iconst (v := 0) C dX16_root_215 (by decide) ?_
        obtain ⟨v35, e36, hf⟩ := pm_bd hf
        refine pm_callS (as := [.int x1, .int 0, .long 0, .long x9, .int ((x6 / 2) - 29), .int 0]) (st := []) C X dX16_root_216 lnX16_924 myX16_rounded stX16_rounded ⟨by decide, by decide⟩ rfl rfl (Nat.le_of_ble_eq_true rfl) (Nat.le_refl _) (Nat.le_refl _) (ctX16_rounded e36 ?_)
        show pm_G g 219 [(1, .int x1), (4, .long x4), (6, .int x6), (7, .long x7), (9, .long x9), (11, .int x11)] [.long v35] h 0 0
        cases hf
        cases hi
        exact pm_lret C X dX16_root_219 rfl (Nat.le_refl _) (Nat.le_refl _) q
      · have hf := pm_ie hf ((fun z => c34 ((pm_lg_eq _ _).mpr z)))
        refine pm_iconst (v := 1) C dX16_root_211 (by decide) ?_
        refine pm_goto (tgt := 216) C dX16_root_212 (by decide) ?_
        obtain ⟨v37, e38, hf⟩ := pm_bd hf
        refine pm_callS (as := [.int x1, .int 0, .long 0, .long x9, .int ((x6 / 2) - 29), .int 1]) (st := []) C X dX16_root_216 lnX16_924 myX16_rounded stX16_rounded ⟨by decide, by decide⟩ rfl rfl (Nat.le_of_ble_eq_true rfl) (Nat.le_refl _) (Nat.le_refl _) (ctX16_rounded e38 ?_)
        show pm_G g 219 [(1, .int x1), (4, .long x4), (6, .int x6), (7, .long x7), (9, .long x9), (11, .int x11)] [.long v37] h 0 0
        cases hf
        cases hi
        exact pm_lret C X dX16_root_219 rfl (Nat.le_refl _) (Nat.le_refl _) q
    · have hf := pm_ie hf c33
      refine pm_lload C dX16_root_124 rfl ?_
      refine pm_iconst (v := 2) C dX16_root_126 (by decide) ?_
      refine pm_lshl C dX16_root_127 ?_
      refine pm_iload C dX16_root_128 rfl ?_
      refine pm_if_ge (tgt := 137) C dX16_root_130 (by decide) (fun c39 => ?_) (fun c39 => ?_)
      · have hf := pm_it hf c39
        refine pm_lload C dX16_root_137 rfl ?_
        refine pm_iconst (v := 2) C dX16_root_139 (by decide) ?_
        refine pm_iload C dX16_root_140 rfl ?_
        refine pm_imul C dX16_root_142 ?_
        refine pm_lushr C dX16_root_143 ?_
        refine pm_ldc2 C dX16_root_144 cnX16_930 ?_
        refine pm_land C dX16_root_147 ?_
        refine pm_lor C dX16_root_148 ?_
        obtain ⟨y40, e41, hf⟩ := pm_lt hf
        refine pm_topL e41 ?_
        refine pm_lstore (lv' := [(7, .long y40), (1, .int x1), (4, .long x4), (6, .int x6), (9, .long x9), (11, .int x11)]) C dX16_root_149 (pm_nl X (by decide)) rfl ?_
        refine pm_lload C dX16_root_151 rfl ?_
        refine pm_iconst (v := 2) C dX16_root_153 (by decide) ?_
        refine pm_lshl C dX16_root_154 ?_
        refine pm_lconst (v := 1) C dX16_root_155 (by decide) ?_
        refine pm_lor C dX16_root_156 ?_
        obtain ⟨y42, e43, hf⟩ := pm_lt hf
        refine pm_topL e43 ?_
        refine pm_lstore (lv' := [(12, .long y42), (7, .long y40), (1, .int x1), (4, .long x4), (6, .int x6), (9, .long x9), (11, .int x11)]) C dX16_root_157 (pm_nl X (by decide)) rfl ?_
        refine pm_lload C dX16_root_159 rfl ?_
        refine pm_iconst (v := 1) C dX16_root_161 (by decide) ?_
        refine pm_lshl C dX16_root_162 ?_
        obtain ⟨y44, e45, hf⟩ := pm_lt hf
        refine pm_topL e45 ?_
        refine pm_lstore (lv' := [(9, .long y44), (12, .long y42), (7, .long y40), (1, .int x1), (4, .long x4), (6, .int x6), (11, .int x11)]) C dX16_root_163 (pm_nl X (by decide)) rfl ?_
        refine pm_lload C dX16_root_165 rfl ?_
        refine pm_lload C dX16_root_167 rfl ?_
        refine pm_lcmp C dX16_root_169 ?_
        refine pm_if_lt (tgt := 186) C dX16_root_170 (by decide) (fun c46 => ?_) (fun c46 => ?_)
        · have hf := pm_it hf ((pm_lg_lt _ _).mp c46)
          obtain ⟨y47, e48, hf⟩ := pm_lt hf
          refine pm_iinc (v := y47) (lv' := [(11, .int y47), (9, .long y44), (12, .long y42), (7, .long y40), (1, .int x1), (4, .long x4), (6, .int x6)]) C dX16_root_186 rfl ((congrArg (x11 + ·) (by decide : Int32.ofInt (-1) = (-1))).trans e48) (pm_nl X (by decide)) rfl ?_
          refine pm_goto (tgt := 117) C dX16_root_189 (by decide) ?_
          cases hf
          exact pm_sub [4, 5, 6, 3, 1, 0] rfl (ih.2 x1 x4 x6 y40 y44 y47 h hi)
        · have hf := pm_ie hf ((fun z => c46 ((pm_lg_lt _ _).mpr z)))
          refine pm_lload C dX16_root_173 rfl ?_
          refine pm_lload C dX16_root_175 rfl ?_
          refine pm_lsub C dX16_root_177 ?_
          obtain ⟨y49, e50, hf⟩ := pm_lt hf
          refine pm_topL e50 ?_
          refine pm_lstore (lv' := [(7, .long y49), (9, .long y44), (12, .long y42), (1, .int x1), (4, .long x4), (6, .int x6), (11, .int x11)]) C dX16_root_178 (pm_nl X (by decide)) rfl ?_
          refine pm_lload C dX16_root_180 rfl ?_
          refine pm_lconst (v := 1) C dX16_root_182 (by decide) ?_
          refine pm_ladd C dX16_root_183 ?_
          obtain ⟨y51, e52, hf⟩ := pm_lt hf
          refine pm_topL e52 ?_
          refine pm_lstore (lv' := [(9, .long y51), (7, .long y49), (12, .long y42), (1, .int x1), (4, .long x4), (6, .int x6), (11, .int x11)]) C dX16_root_184 (pm_nl X (by decide)) rfl ?_
          obtain ⟨y53, e54, hf⟩ := pm_lt hf
          refine pm_iinc (v := y53) (lv' := [(11, .int y53), (9, .long y51), (7, .long y49), (12, .long y42), (1, .int x1), (4, .long x4), (6, .int x6)]) C dX16_root_186 rfl ((congrArg (x11 + ·) (by decide : Int32.ofInt (-1) = (-1))).trans e54) (pm_nl X (by decide)) rfl ?_
          refine pm_goto (tgt := 117) C dX16_root_189 (by decide) ?_
          cases hf
          exact pm_sub [4, 5, 6, 2, 1, 0] rfl (ih.2 x1 x4 x6 y49 y51 y53 h hi)
      · have hf := pm_ie hf c39
        refine pm_lconst (v := 0) C dX16_root_133 (by decide) ?_
        refine pm_goto (tgt := 148) C dX16_root_134 (by decide) ?_
        refine pm_lor C dX16_root_148 ?_
        obtain ⟨y55, e56, hf⟩ := pm_lt hf
        refine pm_topL e56 ?_
        refine pm_lstore (lv' := [(7, .long y55), (1, .int x1), (4, .long x4), (6, .int x6), (9, .long x9), (11, .int x11)]) C dX16_root_149 (pm_nl X (by decide)) rfl ?_
        refine pm_lload C dX16_root_151 rfl ?_
        refine pm_iconst (v := 2) C dX16_root_153 (by decide) ?_
        refine pm_lshl C dX16_root_154 ?_
        refine pm_lconst (v := 1) C dX16_root_155 (by decide) ?_
        refine pm_lor C dX16_root_156 ?_
        obtain ⟨y57, e58, hf⟩ := pm_lt hf
        refine pm_topL e58 ?_
        refine pm_lstore (lv' := [(12, .long y57), (7, .long y55), (1, .int x1), (4, .long x4), (6, .int x6), (9, .long x9), (11, .int x11)]) C dX16_root_157 (pm_nl X (by decide)) rfl ?_
        refine pm_lload C dX16_root_159 rfl ?_
        refine pm_iconst (v := 1) C dX16_root_161 (by decide) ?_
        refine pm_lshl C dX16_root_162 ?_
        obtain ⟨y59, e60, hf⟩ := pm_lt hf
        refine pm_topL e60 ?_
        refine pm_lstore (lv' := [(9, .long y59), (12, .long y57), (7, .long y55), (1, .int x1), (4, .long x4), (6, .int x6), (11, .int x11)]) C dX16_root_163 (pm_nl X (by decide)) rfl ?_
        refine pm_lload C dX16_root_165 rfl ?_
        refine pm_lload C dX16_root_167 rfl ?_
        refine pm_lcmp C dX16_root_169 ?_
        refine pm_if_lt (tgt := 186) C dX16_root_170 (by decide) (fun c61 => ?_) (fun c61 => ?_)
        · have hf := pm_it hf ((pm_lg_lt _ _).mp c61)
          obtain ⟨y62, e63, hf⟩ := pm_lt hf
          refine pm_iinc (v := y62) (lv' := [(11, .int y62), (9, .long y59), (12, .long y57), (7, .long y55), (1, .int x1), (4, .long x4), (6, .int x6)]) C dX16_root_186 rfl ((congrArg (x11 + ·) (by decide : Int32.ofInt (-1) = (-1))).trans e63) (pm_nl X (by decide)) rfl ?_
          refine pm_goto (tgt := 117) C dX16_root_189 (by decide) ?_
          cases hf
          exact pm_sub [4, 5, 6, 3, 1, 0] rfl (ih.2 x1 x4 x6 y55 y59 y62 h hi)
        · have hf := pm_ie hf ((fun z => c61 ((pm_lg_lt _ _).mpr z)))
          refine pm_lload C dX16_root_173 rfl ?_
          refine pm_lload C dX16_root_175 rfl ?_
          refine pm_lsub C dX16_root_177 ?_
          obtain ⟨y64, e65, hf⟩ := pm_lt hf
          refine pm_topL e65 ?_
          refine pm_lstore (lv' := [(7, .long y64), (9, .long y59), (12, .long y57), (1, .int x1), (4, .long x4), (6, .int x6), (11, .int x11)]) C dX16_root_178 (pm_nl X (by decide)) rfl ?_
          refine pm_lload C dX16_root_180 rfl ?_
          refine pm_lconst (v := 1) C dX16_root_182 (by decide) ?_
          refine pm_ladd C dX16_root_183 ?_
          obtain ⟨y66, e67, hf⟩ := pm_lt hf
          refine pm_topL e67 ?_
          refine pm_lstore (lv' := [(9, .long y66), (7, .long y64), (12, .long y57), (1, .int x1), (4, .long x4), (6, .int x6), (11, .int x11)]) C dX16_root_184 (pm_nl X (by decide)) rfl ?_
          obtain ⟨y68, e69, hf⟩ := pm_lt hf
          refine pm_iinc (v := y68) (lv' := [(11, .int y68), (9, .long y66), (7, .long y64), (12, .long y57), (1, .int x1), (4, .long x4), (6, .int x6)]) C dX16_root_186 rfl ((congrArg (x11 + ·) (by decide : Int32.ofInt (-1) = (-1))).trans e69) (pm_nl X (by decide)) rfl ?_
          refine pm_goto (tgt := 117) C dX16_root_189 (by decide) ?_
          cases hf
          exact pm_sub [4, 5, 6, 2, 1, 0] rfl (ih.2 x1 x4 x6 y64 y66 y68 h hi)
set_option maxHeartbeats 4000000 in
set_option maxRecDepth 100000 in
theorem ctX16_root {l : Launch} {G : pm_Gl} {h : pm_H} {a0 : Nat} {p1 : Int32} {p2 : Int64} {r : (Int64 × pm_H)} {Qr : Option Value → pm_H → Prop} (hf : fX16_root h a0 p1 p2 = some r) (q : Qr (some (.long r.1)) r.2) : pm_Ct l G mX16_root [.ref a0, .int p1, .long p2] h 0 0 Qr := by
  refine pm_body pnX16 (Nat.le_of_ble_eq_true rfl) (fun g C X => ?_)
  have C : pm_C g cX16_root RX16 := C
  show pm_G g 0 [(0, .ref a0), (1, .int p1), (2, .long p2)] [] h 0 0
  unfold fX16_root at hf
  refine pm_aload_n C dX16_root_0 rfl rfl ?_
  obtain ⟨k1, hf⟩ := pm_if hf
  obtain ⟨v2, e3, hf⟩ := pm_bd hf
  refine pm_getR C dX16_root_1 flX16_61 rfl k1 e3 ?_
  refine pm_iload_n C dX16_root_4 rfl rfl ?_
  refine pm_lload_n C dX16_root_5 rfl rfl ?_
  obtain ⟨k4, hf⟩ := pm_if hf
  obtain ⟨v5, e6, hf⟩ := pm_bd hf
  refine pm_callV (as := [.int p1, .long p2]) (st := []) C X dX16_root_6 lnX16_868 myX15_read viX15_read ⟨by decide, by decide⟩ rfl rfl k4 (Nat.le_of_ble_eq_true rfl) (Nat.le_refl _) (Nat.le_refl _) (ctX15_read e6 ?_)
  show pm_G g 9 [(0, .ref a0), (1, .int p1), (2, .long p2)] [] v5 0 0
  refine pm_aload_n C dX16_root_9 rfl rfl ?_
  obtain ⟨k7, hf⟩ := pm_if hf
  obtain ⟨v8, e9, hf⟩ := pm_bd hf
  refine pm_getR C dX16_root_10 flX16_61 rfl k7 e9 ?_
  obtain ⟨k10, hf⟩ := pm_if hf
  refine pm_getI C dX16_root_13 flX16_871 rfl k10 rfl ?_
  refine pm_iconst (v := 1) C dX16_root_16 (by decide) ?_
  refine pm_icmp_ne (tgt := 22) C dX16_root_17 (by decide) (fun c11 => ?_) (fun c11 => ?_)
  · have hf := pm_ie hf c11
    refine pm_aload_n C dX16_root_22 rfl rfl ?_
    refine pm_getR C dX16_root_23 flX16_61 rfl k7 e9 ?_
    refine pm_getI C dX16_root_26 flX16_871 rfl k10 rfl ?_
    refine pm_iconst (v := 3) C dX16_root_29 (by decide) ?_
    refine pm_icmp_eq (tgt := 43) C dX16_root_30 (by decide) (fun c12 => ?_) (fun c12 => ?_)
    · have hf := pm_it hf c12
      refine pm_iload_n C dX16_root_43 rfl rfl ?_
      obtain ⟨v13, e14, hf⟩ := pm_lt hf
      refine pm_callS (as := [.int p1]) (st := []) C X dX16_root_44 lnX16_910 myX16_noneOf stX16_noneOf ⟨by decide, by decide⟩ rfl rfl (Nat.le_of_ble_eq_true rfl) (Nat.le_refl _) (Nat.le_refl _) (ctX16_noneOf e14 ?_)
      show pm_G g 47 [(0, .ref a0), (1, .int p1), (2, .long p2)] [.long v13] v5 0 0
      cases hf
      exact pm_lret C X dX16_root_47 rfl (Nat.le_refl _) (Nat.le_refl _) q
    · have hf := pm_ie hf c12
      refine pm_aload_n C dX16_root_33 rfl rfl ?_
      refine pm_getR C dX16_root_34 flX16_61 rfl k7 e9 ?_
      refine pm_getI C dX16_root_37 flX16_921 rfl k10 rfl ?_
      refine pm_if_eq (tgt := 48) C dX16_root_40 (by decide) (fun c15 => ?_) (fun c15 => ?_)
      · have hf := pm_it hf c15
        refine pm_aload_n C dX16_root_48 rfl rfl ?_
        refine pm_getR C dX16_root_49 flX16_61 rfl k7 e9 ?_
        refine pm_getI C dX16_root_52 flX16_871 rfl k10 rfl ?_
        refine pm_iconst (v := 2) C dX16_root_55 (by decide) ?_
        refine pm_icmp_ne (tgt := 61) C dX16_root_56 (by decide) (fun c16 => ?_) (fun c16 => ?_)
        · have hf := pm_ie hf c16
          refine pm_aload_n C dX16_root_61 rfl rfl ?_
          refine pm_getR C dX16_root_62 flX16_61 rfl k7 e9 ?_
          refine pm_getL C dX16_root_65 flX16_916 rfl k10 rfl ?_
          obtain ⟨y17, e18, hf⟩ := pm_lt hf
          refine pm_topL e18 ?_
          refine pm_lstore (lv' := [(4, .long y17), (0, .ref a0), (1, .int p1), (2, .long p2)]) C dX16_root_68 (pm_nl X (by decide)) rfl ?_
          refine pm_aload_n C dX16_root_70 rfl rfl ?_
          refine pm_getR C dX16_root_71 flX16_61 rfl k7 e9 ?_
          refine pm_getI C dX16_root_74 flX16_913 rfl k10 rfl ?_
          obtain ⟨y19, e20, hf⟩ := pm_lt hf
          refine pm_topI e20 ?_
          refine pm_istore (lv' := [(6, .int y19), (4, .long y17), (0, .ref a0), (1, .int p1), (2, .long p2)]) C dX16_root_77 (pm_nl X (by decide)) rfl ?_
          obtain ⟨n, hn⟩ := pm_lim_iter hf
          exact pm_sub [3, 1, 0] rfl ((lpX16_root C X q n).1 p1 y17 y19 v5 hn)
        · have hf := pm_it hf c16
          refine pm_lload_n C dX16_root_59 rfl rfl ?_
          cases hf
          exact pm_lret C X dX16_root_60 rfl (Nat.le_refl _) (Nat.le_refl _) q
      · have hf := pm_ie hf c15
        refine pm_iload_n C dX16_root_43 rfl rfl ?_
        obtain ⟨v21, e22, hf⟩ := pm_lt hf
        refine pm_callS (as := [.int p1]) (st := []) C X dX16_root_44 lnX16_910 myX16_noneOf stX16_noneOf ⟨by decide, by decide⟩ rfl rfl (Nat.le_of_ble_eq_true rfl) (Nat.le_refl _) (Nat.le_refl _) (ctX16_noneOf e22 ?_)
        show pm_G g 47 [(0, .ref a0), (1, .int p1), (2, .long p2)] [.long v21] v5 0 0
        cases hf
        exact pm_lret C X dX16_root_47 rfl (Nat.le_refl _) (Nat.le_refl _) q
  · have hf := pm_it hf c11
    refine pm_lload_n C dX16_root_20 rfl rfl ?_
    cases hf
    exact pm_lret C X dX16_root_21 rfl (Nat.le_refl _) (Nat.le_refl _) q
theorem dX16_sum_0 : decode cX16_sum 0 = .ok (.aload_n 0, 1) := by decide +kernel
theorem dX16_sum_1 : decode cX16_sum 1 = .ok (.getfield 61, 3) := by decide +kernel
theorem dX16_sum_4 : decode cX16_sum 4 = .ok (.iload_n 1, 1) := by decide +kernel
theorem dX16_sum_5 : decode cX16_sum 5 = .ok (.lload_n 2, 1) := by decide +kernel
theorem dX16_sum_6 : decode cX16_sum 6 = .ok (.invokevirtual 868, 3) := by decide +kernel
theorem dX16_sum_9 : decode cX16_sum 9 = .ok (.aload_n 0, 1) := by decide +kernel
theorem dX16_sum_10 : decode cX16_sum 10 = .ok (.getfield 65, 3) := by decide +kernel
theorem dX16_sum_13 : decode cX16_sum 13 = .ok (.iload_n 1, 1) := by decide +kernel
theorem dX16_sum_14 : decode cX16_sum 14 = .ok (.lload 4, 2) := by decide +kernel
theorem dX16_sum_16 : decode cX16_sum 16 = .ok (.invokevirtual 868, 3) := by decide +kernel
theorem dX16_sum_19 : decode cX16_sum 19 = .ok (.aload_n 0, 1) := by decide +kernel
theorem dX16_sum_20 : decode cX16_sum 20 = .ok (.getfield 65, 3) := by decide +kernel
theorem dX16_sum_23 : decode cX16_sum 23 = .ok (.aload_n 0, 1) := by decide +kernel
theorem dX16_sum_24 : decode cX16_sum 24 = .ok (.getfield 65, 3) := by decide +kernel
theorem dX16_sum_27 : decode cX16_sum 27 = .ok (.getfield 921, 3) := by decide +kernel
theorem dX16_sum_30 : decode cX16_sum 30 = .ok (.iload 6, 2) := by decide +kernel
theorem dX16_sum_32 : decode cX16_sum 32 = .ok (.if_icmp .eq 7, 3) := by decide +kernel
theorem dX16_sum_35 : decode cX16_sum 35 = .ok (.iconst 1, 1) := by decide +kernel
theorem dX16_sum_36 : decode cX16_sum 36 = .ok (.goto 4, 3) := by decide +kernel
theorem dX16_sum_39 : decode cX16_sum 39 = .ok (.iconst 0, 1) := by decide +kernel
theorem dX16_sum_40 : decode cX16_sum 40 = .ok (.putfield 921, 3) := by decide +kernel
theorem dX16_sum_43 : decode cX16_sum 43 = .ok (.aload_n 0, 1) := by decide +kernel
theorem dX16_sum_44 : decode cX16_sum 44 = .ok (.getfield 61, 3) := by decide +kernel
theorem dX16_sum_47 : decode cX16_sum 47 = .ok (.getfield 871, 3) := by decide +kernel
theorem dX16_sum_50 : decode cX16_sum 50 = .ok (.iconst 3, 1) := by decide +kernel
theorem dX16_sum_51 : decode cX16_sum 51 = .ok (.if_icmp .eq 14, 3) := by decide +kernel
theorem dX16_sum_54 : decode cX16_sum 54 = .ok (.aload_n 0, 1) := by decide +kernel
theorem dX16_sum_55 : decode cX16_sum 55 = .ok (.getfield 65, 3) := by decide +kernel
theorem dX16_sum_58 : decode cX16_sum 58 = .ok (.getfield 871, 3) := by decide +kernel
theorem dX16_sum_61 : decode cX16_sum 61 = .ok (.iconst 3, 1) := by decide +kernel
theorem dX16_sum_62 : decode cX16_sum 62 = .ok (.if_icmp .ne 8, 3) := by decide +kernel
theorem dX16_sum_65 : decode cX16_sum 65 = .ok (.iload_n 1, 1) := by decide +kernel
theorem dX16_sum_66 : decode cX16_sum 66 = .ok (.invokestatic 910, 3) := by decide +kernel
theorem dX16_sum_69 : decode cX16_sum 69 = .ok (.lreturn, 1) := by decide +kernel
theorem dX16_sum_70 : decode cX16_sum 70 = .ok (.aload_n 0, 1) := by decide +kernel
theorem dX16_sum_71 : decode cX16_sum 71 = .ok (.getfield 61, 3) := by decide +kernel
theorem dX16_sum_74 : decode cX16_sum 74 = .ok (.getfield 871, 3) := by decide +kernel
theorem dX16_sum_77 : decode cX16_sum 77 = .ok (.iconst 2, 1) := by decide +kernel
theorem dX16_sum_78 : decode cX16_sum 78 = .ok (.if_icmp .ne 36, 3) := by decide +kernel
theorem dX16_sum_81 : decode cX16_sum 81 = .ok (.aload_n 0, 1) := by decide +kernel
theorem dX16_sum_82 : decode cX16_sum 82 = .ok (.getfield 65, 3) := by decide +kernel
theorem dX16_sum_85 : decode cX16_sum 85 = .ok (.getfield 871, 3) := by decide +kernel
theorem dX16_sum_88 : decode cX16_sum 88 = .ok (.iconst 2, 1) := by decide +kernel
theorem dX16_sum_89 : decode cX16_sum 89 = .ok (.if_icmp .ne 25, 3) := by decide +kernel
theorem dX16_sum_92 : decode cX16_sum 92 = .ok (.aload_n 0, 1) := by decide +kernel
theorem dX16_sum_93 : decode cX16_sum 93 = .ok (.getfield 61, 3) := by decide +kernel
theorem dX16_sum_96 : decode cX16_sum 96 = .ok (.getfield 921, 3) := by decide +kernel
theorem dX16_sum_99 : decode cX16_sum 99 = .ok (.aload_n 0, 1) := by decide +kernel
theorem dX16_sum_100 : decode cX16_sum 100 = .ok (.getfield 65, 3) := by decide +kernel
theorem dX16_sum_103 : decode cX16_sum 103 = .ok (.getfield 921, 3) := by decide +kernel
theorem dX16_sum_106 : decode cX16_sum 106 = .ok (.if_icmp .eq 8, 3) := by decide +kernel
theorem dX16_sum_109 : decode cX16_sum 109 = .ok (.iload_n 1, 1) := by decide +kernel
theorem dX16_sum_110 : decode cX16_sum 110 = .ok (.invokestatic 910, 3) := by decide +kernel
theorem dX16_sum_113 : decode cX16_sum 113 = .ok (.lreturn, 1) := by decide +kernel
theorem dX16_sum_114 : decode cX16_sum 114 = .ok (.aload_n 0, 1) := by decide +kernel
theorem dX16_sum_115 : decode cX16_sum 115 = .ok (.getfield 61, 3) := by decide +kernel
theorem dX16_sum_118 : decode cX16_sum 118 = .ok (.getfield 871, 3) := by decide +kernel
theorem dX16_sum_121 : decode cX16_sum 121 = .ok (.iconst 2, 1) := by decide +kernel
theorem dX16_sum_122 : decode cX16_sum 122 = .ok (.if_icmp .ne 5, 3) := by decide +kernel
theorem dX16_sum_125 : decode cX16_sum 125 = .ok (.lload_n 2, 1) := by decide +kernel
theorem dX16_sum_126 : decode cX16_sum 126 = .ok (.lreturn, 1) := by decide +kernel
theorem dX16_sum_127 : decode cX16_sum 127 = .ok (.aload_n 0, 1) := by decide +kernel
theorem dX16_sum_128 : decode cX16_sum 128 = .ok (.getfield 65, 3) := by decide +kernel
theorem dX16_sum_131 : decode cX16_sum 131 = .ok (.getfield 871, 3) := by decide +kernel
theorem dX16_sum_134 : decode cX16_sum 134 = .ok (.iconst 2, 1) := by decide +kernel
theorem dX16_sum_135 : decode cX16_sum 135 = .ok (.if_icmp .ne 19, 3) := by decide +kernel
theorem dX16_sum_138 : decode cX16_sum 138 = .ok (.iload_n 1, 1) := by decide +kernel
theorem dX16_sum_139 : decode cX16_sum 139 = .ok (.aload_n 0, 1) := by decide +kernel
theorem dX16_sum_140 : decode cX16_sum 140 = .ok (.getfield 65, 3) := by decide +kernel
theorem dX16_sum_143 : decode cX16_sum 143 = .ok (.getfield 921, 3) := by decide +kernel
theorem dX16_sum_146 : decode cX16_sum 146 = .ok (.iload_n 1, 1) := by decide +kernel
theorem dX16_sum_147 : decode cX16_sum 147 = .ok (.invokestatic 888, 3) := by decide +kernel
theorem dX16_sum_150 : decode cX16_sum 150 = .ok (.invokestatic 882, 3) := by decide +kernel
theorem dX16_sum_153 : decode cX16_sum 153 = .ok (.lreturn, 1) := by decide +kernel
theorem dX16_sum_154 : decode cX16_sum 154 = .ok (.aload_n 0, 1) := by decide +kernel
theorem dX16_sum_155 : decode cX16_sum 155 = .ok (.getfield 61, 3) := by decide +kernel
theorem dX16_sum_158 : decode cX16_sum 158 = .ok (.getfield 871, 3) := by decide +kernel
theorem dX16_sum_161 : decode cX16_sum 161 = .ok (.iconst 1, 1) := by decide +kernel
theorem dX16_sum_162 : decode cX16_sum 162 = .ok (.if_icmp .ne 45, 3) := by decide +kernel
theorem dX16_sum_165 : decode cX16_sum 165 = .ok (.aload_n 0, 1) := by decide +kernel
theorem dX16_sum_166 : decode cX16_sum 166 = .ok (.getfield 65, 3) := by decide +kernel
theorem dX16_sum_169 : decode cX16_sum 169 = .ok (.getfield 871, 3) := by decide +kernel
theorem dX16_sum_172 : decode cX16_sum 172 = .ok (.iconst 1, 1) := by decide +kernel
theorem dX16_sum_173 : decode cX16_sum 173 = .ok (.if_icmp .ne 34, 3) := by decide +kernel
theorem dX16_sum_176 : decode cX16_sum 176 = .ok (.iload_n 1, 1) := by decide +kernel
theorem dX16_sum_177 : decode cX16_sum 177 = .ok (.aload_n 0, 1) := by decide +kernel
theorem dX16_sum_178 : decode cX16_sum 178 = .ok (.getfield 61, 3) := by decide +kernel
theorem dX16_sum_181 : decode cX16_sum 181 = .ok (.getfield 921, 3) := by decide +kernel
theorem dX16_sum_184 : decode cX16_sum 184 = .ok (.ifCond .eq 17, 3) := by decide +kernel
theorem dX16_sum_187 : decode cX16_sum 187 = .ok (.aload_n 0, 1) := by decide +kernel
theorem dX16_sum_188 : decode cX16_sum 188 = .ok (.getfield 65, 3) := by decide +kernel
theorem dX16_sum_191 : decode cX16_sum 191 = .ok (.getfield 921, 3) := by decide +kernel
theorem dX16_sum_194 : decode cX16_sum 194 = .ok (.ifCond .eq 7, 3) := by decide +kernel
theorem dX16_sum_197 : decode cX16_sum 197 = .ok (.iconst 1, 1) := by decide +kernel
theorem dX16_sum_198 : decode cX16_sum 198 = .ok (.goto 4, 3) := by decide +kernel
theorem dX16_sum_201 : decode cX16_sum 201 = .ok (.iconst 0, 1) := by decide +kernel
theorem dX16_sum_202 : decode cX16_sum 202 = .ok (.lconst 0, 1) := by decide +kernel
theorem dX16_sum_203 : decode cX16_sum 203 = .ok (.invokestatic 882, 3) := by decide +kernel
theorem dX16_sum_206 : decode cX16_sum 206 = .ok (.lreturn, 1) := by decide +kernel
theorem dX16_sum_207 : decode cX16_sum 207 = .ok (.aload_n 0, 1) := by decide +kernel
theorem dX16_sum_208 : decode cX16_sum 208 = .ok (.getfield 61, 3) := by decide +kernel
theorem dX16_sum_211 : decode cX16_sum 211 = .ok (.getfield 871, 3) := by decide +kernel
theorem dX16_sum_214 : decode cX16_sum 214 = .ok (.iconst 1, 1) := by decide +kernel
theorem dX16_sum_215 : decode cX16_sum 215 = .ok (.if_icmp .ne 26, 3) := by decide +kernel
theorem dX16_sum_218 : decode cX16_sum 218 = .ok (.iload_n 1, 1) := by decide +kernel
theorem dX16_sum_219 : decode cX16_sum 219 = .ok (.aload_n 0, 1) := by decide +kernel
theorem dX16_sum_220 : decode cX16_sum 220 = .ok (.getfield 65, 3) := by decide +kernel
theorem dX16_sum_223 : decode cX16_sum 223 = .ok (.getfield 921, 3) := by decide +kernel
theorem dX16_sum_226 : decode cX16_sum 226 = .ok (.lload 4, 2) := by decide +kernel
theorem dX16_sum_228 : decode cX16_sum 228 = .ok (.iload_n 1, 1) := by decide +kernel
theorem dX16_sum_229 : decode cX16_sum 229 = .ok (.invokestatic 865, 3) := by decide +kernel
theorem dX16_sum_232 : decode cX16_sum 232 = .ok (.ldc2_w 268, 3) := by decide +kernel
theorem dX16_sum_235 : decode cX16_sum 235 = .ok (.lxor, 1) := by decide +kernel
theorem dX16_sum_236 : decode cX16_sum 236 = .ok (.land, 1) := by decide +kernel
theorem dX16_sum_237 : decode cX16_sum 237 = .ok (.invokestatic 882, 3) := by decide +kernel
theorem dX16_sum_240 : decode cX16_sum 240 = .ok (.lreturn, 1) := by decide +kernel
theorem dX16_sum_241 : decode cX16_sum 241 = .ok (.aload_n 0, 1) := by decide +kernel
theorem dX16_sum_242 : decode cX16_sum 242 = .ok (.getfield 65, 3) := by decide +kernel
theorem dX16_sum_245 : decode cX16_sum 245 = .ok (.getfield 871, 3) := by decide +kernel
theorem dX16_sum_248 : decode cX16_sum 248 = .ok (.iconst 1, 1) := by decide +kernel
theorem dX16_sum_249 : decode cX16_sum 249 = .ok (.if_icmp .ne 7, 3) := by decide +kernel
theorem dX16_sum_252 : decode cX16_sum 252 = .ok (.lload_n 2, 1) := by decide +kernel
theorem dX16_sum_253 : decode cX16_sum 253 = .ok (.goto 63, 3) := by decide +kernel
theorem dX16_sum_256 : decode cX16_sum 256 = .ok (.iload_n 1, 1) := by decide +kernel
theorem dX16_sum_257 : decode cX16_sum 257 = .ok (.aload_n 0, 1) := by decide +kernel
theorem dX16_sum_258 : decode cX16_sum 258 = .ok (.getfield 61, 3) := by decide +kernel
theorem dX16_sum_261 : decode cX16_sum 261 = .ok (.getfield 913, 3) := by decide +kernel
theorem dX16_sum_264 : decode cX16_sum 264 = .ok (.aload_n 0, 1) := by decide +kernel
theorem dX16_sum_265 : decode cX16_sum 265 = .ok (.getfield 65, 3) := by decide +kernel
theorem dX16_sum_268 : decode cX16_sum 268 = .ok (.getfield 913, 3) := by decide +kernel
theorem dX16_sum_271 : decode cX16_sum 271 = .ok (.if_icmp .lt 10, 3) := by decide +kernel
theorem dX16_sum_274 : decode cX16_sum 274 = .ok (.aload_n 0, 1) := by decide +kernel
theorem dX16_sum_275 : decode cX16_sum 275 = .ok (.getfield 61, 3) := by decide +kernel
theorem dX16_sum_278 : decode cX16_sum 278 = .ok (.goto 7, 3) := by decide +kernel
theorem dX16_sum_281 : decode cX16_sum 281 = .ok (.aload_n 0, 1) := by decide +kernel
theorem dX16_sum_282 : decode cX16_sum 282 = .ok (.getfield 65, 3) := by decide +kernel
theorem dX16_sum_285 : decode cX16_sum 285 = .ok (.aload_n 0, 1) := by decide +kernel
theorem dX16_sum_286 : decode cX16_sum 286 = .ok (.getfield 61, 3) := by decide +kernel
theorem dX16_sum_289 : decode cX16_sum 289 = .ok (.getfield 913, 3) := by decide +kernel
theorem dX16_sum_292 : decode cX16_sum 292 = .ok (.aload_n 0, 1) := by decide +kernel
theorem dX16_sum_293 : decode cX16_sum 293 = .ok (.getfield 65, 3) := by decide +kernel
theorem dX16_sum_296 : decode cX16_sum 296 = .ok (.getfield 913, 3) := by decide +kernel
theorem dX16_sum_299 : decode cX16_sum 299 = .ok (.if_icmp .lt 10, 3) := by decide +kernel
theorem dX16_sum_302 : decode cX16_sum 302 = .ok (.aload_n 0, 1) := by decide +kernel
theorem dX16_sum_303 : decode cX16_sum 303 = .ok (.getfield 65, 3) := by decide +kernel
theorem dX16_sum_306 : decode cX16_sum 306 = .ok (.goto 7, 3) := by decide +kernel
theorem dX16_sum_309 : decode cX16_sum 309 = .ok (.aload_n 0, 1) := by decide +kernel
theorem dX16_sum_310 : decode cX16_sum 310 = .ok (.getfield 61, 3) := by decide +kernel
theorem dX16_sum_313 : decode cX16_sum 313 = .ok (.invokestatic 932, 3) := by decide +kernel
theorem dX16_sum_316 : decode cX16_sum 316 = .ok (.lreturn, 1) := by decide +kernel
noncomputable def fX16_sum_b207 (h : pm_H) (x0 : Nat) (x1 : Int32) (x2 : Int64) (x4 : Int64) : Option (Int64 × pm_H) := if pm_kd h x0 = 16 then (pm_R h x0 34).bind fun v62 => if pm_kd h v62 = 15 then if (pm_I h v62 1) = 1 then ((pm_R h x0 35).bind fun v81 => if pm_kd h v81 = 15 then pm_let (fX16_signOf x1) fun v84 => pm_let (fX16_withSign x1 (pm_I h v81 0) (x4 &&& (v84 ^^^ (-1)))) fun v86 => some ((v86, h)) else none) else ((pm_R h x0 35).bind fun v66 => if pm_kd h v66 = 15 then if (pm_I h v66 1) = 1 then (some ((x2, h))) else (if (pm_I h v62 3) < (pm_I h v66 3) then (if (pm_I h v62 3) < (pm_I h v66 3) then ((fX16_sumOf h x1 v66 v62).bind fun v72 => some ((v72, h))) else ((fX16_sumOf h x1 v66 v66).bind fun v74 => some ((v74, h)))) else (if (pm_I h v62 3) < (pm_I h v66 3) then ((fX16_sumOf h x1 v62 v62).bind fun v77 => some ((v77, h))) else ((fX16_sumOf h x1 v62 v66).bind fun v79 => some ((v79, h))))) else none) else none else none
noncomputable def fX16_sum_b114 (h : pm_H) (x0 : Nat) (x1 : Int32) (x2 : Int64) (x4 : Int64) : Option (Int64 × pm_H) := if pm_kd h x0 = 16 then (pm_R h x0 34).bind fun v39 => if pm_kd h v39 = 15 then if (pm_I h v39 1) = 2 then (some ((x2, h))) else ((pm_R h x0 35).bind fun v43 => if pm_kd h v43 = 15 then if (pm_I h v43 1) = 2 then (pm_let (fX16_infinite x1) fun v57 => pm_let (fX16_withSign x1 (pm_I h v43 0) v57) fun v59 => some ((v59, h))) else (if (pm_I h v39 1) = 1 then (if (pm_I h v43 1) = 1 then (if (pm_I h v39 0) = 0 then (pm_let (fX16_withSign x1 0 0) fun v50 => some ((v50, h))) else (if (pm_I h v43 0) = 0 then (pm_let (fX16_withSign x1 0 0) fun v53 => some ((v53, h))) else (pm_let (fX16_withSign x1 1 0) fun v55 => some ((v55, h))))) else (fX16_sum_b207 h x0 x1 x2 x4)) else (fX16_sum_b207 h x0 x1 x2 x4)) else none) else none else none
noncomputable def fX16_sum_b40 (h : pm_H) (x0 : Nat) (x1 : Int32) (x2 : Int64) (x4 : Int64) (s0 : Int32) (s1 : Nat) : Option (Int64 × pm_H) := if pm_kd h s1 = 15 then if s0 = 0 ∨ s0 = 1 then if pm_kd (pm_setI h s1 0 s0) x0 = 16 then (pm_R (pm_setI h s1 0 s0) x0 34).bind fun v21 => if pm_kd (pm_setI h s1 0 s0) v21 = 15 then if (pm_I (pm_setI h s1 0 s0) v21 1) = 3 then (pm_let (fX16_noneOf x1) fun v25 => some ((v25, pm_setI h s1 0 s0))) else ((pm_R (pm_setI h s1 0 s0) x0 35).bind fun v27 => if pm_kd (pm_setI h s1 0 s0) v27 = 15 then if (pm_I (pm_setI h s1 0 s0) v27 1) = 3 then (pm_let (fX16_noneOf x1) fun v36 => some ((v36, pm_setI h s1 0 s0))) else (if (pm_I (pm_setI h s1 0 s0) v21 1) = 2 then (if (pm_I (pm_setI h s1 0 s0) v27 1) = 2 then (if (pm_I (pm_setI h s1 0 s0) v21 0) = (pm_I (pm_setI h s1 0 s0) v27 0) then (fX16_sum_b114 (pm_setI h s1 0 s0) x0 x1 x2 x4) else (pm_let (fX16_noneOf x1) fun v34 => some ((v34, pm_setI h s1 0 s0)))) else (fX16_sum_b114 (pm_setI h s1 0 s0) x0 x1 x2 x4)) else (fX16_sum_b114 (pm_setI h s1 0 s0) x0 x1 x2 x4)) else none) else none else none else none else none
noncomputable def fX16_sum (h : pm_H) (a0 : Nat) (p1 : Int32) (p2 : Int64) (p3 : Int64) (p4 : Int32) : Option (Int64 × pm_H) := if pm_kd h a0 = 16 then (pm_R h a0 34).bind fun v2 => if pm_kd h v2 = 15 then (fX15_read h v2 p1 p2).bind fun v5 => if pm_kd v5 a0 = 16 then (pm_R v5 a0 35).bind fun v8 => if pm_kd v5 v8 = 15 then (fX15_read v5 v8 p1 p3).bind fun v11 => if pm_kd v11 a0 = 16 then (pm_R v11 a0 35).bind fun v14 => if pm_kd v11 v14 = 15 then if (pm_I v11 v14 0) = p4 then (fX16_sum_b40 v11 a0 p1 p2 p3 0 v14) else (fX16_sum_b40 v11 a0 p1 p2 p3 1 v14) else none else none else none else none else none else none
set_option maxHeartbeats 4000000 in
set_option maxRecDepth 100000 in
theorem bX16_sum_207 {g : pm_Gm} {l : Launch} {G : pm_Gl} {Qr : Option Value → pm_H → Prop} (C : pm_C g cX16_sum RX16) (X : pm_X g l G mX16_sum 0 0 Qr) {h : pm_H} {x0 : Nat} {x1 : Int32} {x2 : Int64} {x4 : Int64} {r : (Int64 × pm_H)} (hf : fX16_sum_b207 h x0 x1 x2 x4 = some r) (q : Qr (some (.long r.1)) r.2) : pm_G g 207 [(0, .ref x0), (1, .int x1), (2, .long x2), (4, .long x4)] [] h 0 0 := by
  unfold fX16_sum_b207 at hf
  refine pm_aload_n C dX16_sum_207 rfl rfl ?_
  obtain ⟨k61, hf⟩ := pm_if hf
  obtain ⟨v62, e63, hf⟩ := pm_bd hf
  refine pm_getR C dX16_sum_208 flX16_61 rfl k61 e63 ?_
  obtain ⟨k64, hf⟩ := pm_if hf
  refine pm_getI C dX16_sum_211 flX16_871 rfl k64 rfl ?_
  refine pm_iconst (v := 1) C dX16_sum_214 (by decide) ?_
  refine pm_icmp_ne (tgt := 241) C dX16_sum_215 (by decide) (fun c65 => ?_) (fun c65 => ?_)
  · have hf := pm_ie hf c65
    refine pm_aload_n C dX16_sum_241 rfl rfl ?_
    obtain ⟨v66, e67, hf⟩ := pm_bd hf
    refine pm_getR C dX16_sum_242 flX16_65 rfl k61 e67 ?_
    obtain ⟨k68, hf⟩ := pm_if hf
    refine pm_getI C dX16_sum_245 flX16_871 rfl k68 rfl ?_
    refine pm_iconst (v := 1) C dX16_sum_248 (by decide) ?_
    refine pm_icmp_ne (tgt := 256) C dX16_sum_249 (by decide) (fun c69 => ?_) (fun c69 => ?_)
    · have hf := pm_ie hf c69
      refine pm_iload_n C dX16_sum_256 rfl rfl ?_
      refine pm_aload_n C dX16_sum_257 rfl rfl ?_
      refine pm_getR C dX16_sum_258 flX16_61 rfl k61 e63 ?_
      refine pm_getI C dX16_sum_261 flX16_913 rfl k64 rfl ?_
      refine pm_aload_n C dX16_sum_264 rfl rfl ?_
      refine pm_getR C dX16_sum_265 flX16_65 rfl k61 e67 ?_
      refine pm_getI C dX16_sum_268 flX16_913 rfl k68 rfl ?_
      refine pm_icmp_lt (tgt := 281) C dX16_sum_271 (by decide) (fun c70 => ?_) (fun c70 => ?_)
      · have hf := pm_it hf c70
        refine pm_aload_n C dX16_sum_281 rfl rfl ?_
        refine pm_getR C dX16_sum_282 flX16_65 rfl k61 e67 ?_
        refine pm_aload_n C dX16_sum_285 rfl rfl ?_
        refine pm_getR C dX16_sum_286 flX16_61 rfl k61 e63 ?_
        refine pm_getI C dX16_sum_289 flX16_913 rfl k64 rfl ?_
        refine pm_aload_n C dX16_sum_292 rfl rfl ?_
        refine pm_getR C dX16_sum_293 flX16_65 rfl k61 e67 ?_
        refine pm_getI C dX16_sum_296 flX16_913 rfl k68 rfl ?_
        refine pm_icmp_lt (tgt := 309) C dX16_sum_299 (by decide) (fun c71 => ?_) (fun c71 => ?_)
        · have hf := pm_it hf c71
          refine pm_aload_n C dX16_sum_309 rfl rfl ?_
          refine pm_getR C dX16_sum_310 flX16_61 rfl k61 e63 ?_
          obtain ⟨v72, e73, hf⟩ := pm_bd hf
          refine pm_callS (as := [.int x1, .ref v66, .ref v62]) (st := []) C X dX16_sum_313 lnX16_932 myX16_sumOf stX16_sumOf ⟨by decide, by decide⟩ rfl rfl (Nat.le_of_ble_eq_true rfl) (Nat.le_refl _) (Nat.le_refl _) (ctX16_sumOf e73 ?_)
          show pm_G g 316 [(0, .ref x0), (1, .int x1), (2, .long x2), (4, .long x4)] [.long v72] h 0 0
          cases hf
          exact pm_lret C X dX16_sum_316 rfl (Nat.le_refl _) (Nat.le_refl _) q
        · have hf := pm_ie hf c71
          refine pm_aload_n C dX16_sum_302 rfl rfl ?_
          refine pm_getR C dX16_sum_303 flX16_65 rfl k61 e67 ?_
          refine pm_goto (tgt := 313) C dX16_sum_306 (by decide) ?_
          obtain ⟨v74, e75, hf⟩ := pm_bd hf
          refine pm_callS (as := [.int x1, .ref v66, .ref v66]) (st := []) C X dX16_sum_313 lnX16_932 myX16_sumOf stX16_sumOf ⟨by decide, by decide⟩ rfl rfl (Nat.le_of_ble_eq_true rfl) (Nat.le_refl _) (Nat.le_refl _) (ctX16_sumOf e75 ?_)
          show pm_G g 316 [(0, .ref x0), (1, .int x1), (2, .long x2), (4, .long x4)] [.long v74] h 0 0
          cases hf
          exact pm_lret C X dX16_sum_316 rfl (Nat.le_refl _) (Nat.le_refl _) q
      · have hf := pm_ie hf c70
        refine pm_aload_n C dX16_sum_274 rfl rfl ?_
        refine pm_getR C dX16_sum_275 flX16_61 rfl k61 e63 ?_
        refine pm_goto (tgt := 285) C dX16_sum_278 (by decide) ?_
        refine pm_aload_n C dX16_sum_285 rfl rfl ?_
        refine pm_getR C dX16_sum_286 flX16_61 rfl k61 e63 ?_
        refine pm_getI C dX16_sum_289 flX16_913 rfl k64 rfl ?_
        refine pm_aload_n C dX16_sum_292 rfl rfl ?_
        refine pm_getR C dX16_sum_293 flX16_65 rfl k61 e67 ?_
        refine pm_getI C dX16_sum_296 flX16_913 rfl k68 rfl ?_
        refine pm_icmp_lt (tgt := 309) C dX16_sum_299 (by decide) (fun c76 => ?_) (fun c76 => ?_)
        · have hf := pm_it hf c76
          refine pm_aload_n C dX16_sum_309 rfl rfl ?_
          refine pm_getR C dX16_sum_310 flX16_61 rfl k61 e63 ?_
          obtain ⟨v77, e78, hf⟩ := pm_bd hf
          refine pm_callS (as := [.int x1, .ref v62, .ref v62]) (st := []) C X dX16_sum_313 lnX16_932 myX16_sumOf stX16_sumOf ⟨by decide, by decide⟩ rfl rfl (Nat.le_of_ble_eq_true rfl) (Nat.le_refl _) (Nat.le_refl _) (ctX16_sumOf e78 ?_)
          show pm_G g 316 [(0, .ref x0), (1, .int x1), (2, .long x2), (4, .long x4)] [.long v77] h 0 0
          cases hf
          exact pm_lret C X dX16_sum_316 rfl (Nat.le_refl _) (Nat.le_refl _) q
        · have hf := pm_ie hf c76
          refine pm_aload_n C dX16_sum_302 rfl rfl ?_
          refine pm_getR C dX16_sum_303 flX16_65 rfl k61 e67 ?_
          refine pm_goto (tgt := 313) C dX16_sum_306 (by decide) ?_
          obtain ⟨v79, e80, hf⟩ := pm_bd hf
          refine pm_callS (as := [.int x1, .ref v62, .ref v66]) (st := []) C X dX16_sum_313 lnX16_932 myX16_sumOf stX16_sumOf ⟨by decide, by decide⟩ rfl rfl (Nat.le_of_ble_eq_true rfl) (Nat.le_refl _) (Nat.le_refl _) (ctX16_sumOf e80 ?_)
          show pm_G g 316 [(0, .ref x0), (1, .int x1), (2, .long x2), (4, .long x4)] [.long v79] h 0 0
          cases hf
          exact pm_lret C X dX16_sum_316 rfl (Nat.le_refl _) (Nat.le_refl _) q
    · have hf := pm_it hf c69
      refine pm_lload_n C dX16_sum_252 rfl rfl ?_
      refine pm_goto (tgt := 316) C dX16_sum_253 (by decide) ?_
      cases hf
      exact pm_lret C X dX16_sum_316 rfl (Nat.le_refl _) (Nat.le_refl _) q
  · have hf := pm_it hf c65
    refine pm_iload_n C dX16_sum_218 rfl rfl ?_
    refine pm_aload_n C dX16_sum_219 rfl rfl ?_
    obtain ⟨v81, e82, hf⟩ := pm_bd hf
    refine pm_getR C dX16_sum_220 flX16_65 rfl k61 e82 ?_
    obtain ⟨k83, hf⟩ := pm_if hf
    refine pm_getI C dX16_sum_223 flX16_921 rfl k83 rfl ?_
    refine pm_lload C dX16_sum_226 rfl ?_
    refine pm_iload_n C dX16_sum_228 rfl rfl ?_
    obtain ⟨v84, e85, hf⟩ := pm_lt hf
    refine pm_callS (as := [.int x1]) (st := [.long x4, .int (pm_I h v81 0), .int x1]) C X dX16_sum_229 lnX16_865 myX16_signOf stX16_signOf ⟨by decide, by decide⟩ rfl rfl (Nat.le_of_ble_eq_true rfl) (Nat.le_refl _) (Nat.le_refl _) (ctX16_signOf e85 ?_)
    show pm_G g 232 [(0, .ref x0), (1, .int x1), (2, .long x2), (4, .long x4)] [.long v84, .long x4, .int (pm_I h v81 0), .int x1] h 0 0
    refine pm_ldc2 C dX16_sum_232 cnX16_268 ?_
    refine pm_lxor C dX16_sum_235 ?_
    refine pm_land C dX16_sum_236 ?_
    obtain ⟨v86, e87, hf⟩ := pm_lt hf
    refine pm_callS (as := [.int x1, .int (pm_I h v81 0), .long (x4 &&& (v84 ^^^ (-1)))]) (st := []) C X dX16_sum_237 lnX16_882 myX16_withSign stX16_withSign ⟨by decide, by decide⟩ rfl rfl (Nat.le_of_ble_eq_true rfl) (Nat.le_refl _) (Nat.le_refl _) (ctX16_withSign e87 ?_)
    show pm_G g 240 [(0, .ref x0), (1, .int x1), (2, .long x2), (4, .long x4)] [.long v86] h 0 0
    cases hf
    exact pm_lret C X dX16_sum_240 rfl (Nat.le_refl _) (Nat.le_refl _) q
set_option maxHeartbeats 4000000 in
set_option maxRecDepth 100000 in
theorem bX16_sum_114 {g : pm_Gm} {l : Launch} {G : pm_Gl} {Qr : Option Value → pm_H → Prop} (C : pm_C g cX16_sum RX16) (X : pm_X g l G mX16_sum 0 0 Qr) {h : pm_H} {x0 : Nat} {x1 : Int32} {x2 : Int64} {x4 : Int64} {r : (Int64 × pm_H)} (hf : fX16_sum_b114 h x0 x1 x2 x4 = some r) (q : Qr (some (.long r.1)) r.2) : pm_G g 114 [(0, .ref x0), (1, .int x1), (2, .long x2), (4, .long x4)] [] h 0 0 := by
  unfold fX16_sum_b114 at hf
  refine pm_aload_n C dX16_sum_114 rfl rfl ?_
  obtain ⟨k38, hf⟩ := pm_if hf
  obtain ⟨v39, e40, hf⟩ := pm_bd hf
  refine pm_getR C dX16_sum_115 flX16_61 rfl k38 e40 ?_
  obtain ⟨k41, hf⟩ := pm_if hf
  refine pm_getI C dX16_sum_118 flX16_871 rfl k41 rfl ?_
  refine pm_iconst (v := 2) C dX16_sum_121 (by decide) ?_
  refine pm_icmp_ne (tgt := 127) C dX16_sum_122 (by decide) (fun c42 => ?_) (fun c42 => ?_)
  · have hf := pm_ie hf c42
    refine pm_aload_n C dX16_sum_127 rfl rfl ?_
    obtain ⟨v43, e44, hf⟩ := pm_bd hf
    refine pm_getR C dX16_sum_128 flX16_65 rfl k38 e44 ?_
    obtain ⟨k45, hf⟩ := pm_if hf
    refine pm_getI C dX16_sum_131 flX16_871 rfl k45 rfl ?_
    refine pm_iconst (v := 2) C dX16_sum_134 (by decide) ?_
    refine pm_icmp_ne (tgt := 154) C dX16_sum_135 (by decide) (fun c46 => ?_) (fun c46 => ?_)
    · have hf := pm_ie hf c46
      refine pm_aload_n C dX16_sum_154 rfl rfl ?_
      refine pm_getR C dX16_sum_155 flX16_61 rfl k38 e40 ?_
      refine pm_getI C dX16_sum_158 flX16_871 rfl k41 rfl ?_
      refine pm_iconst (v := 1) C dX16_sum_161 (by decide) ?_
      refine pm_icmp_ne (tgt := 207) C dX16_sum_162 (by decide) (fun c47 => ?_) (fun c47 => ?_)
      · have hf := pm_ie hf c47
        exact pm_sub [0, 1, 2, 3] rfl (bX16_sum_207 C X hf q)
      · have hf := pm_it hf c47
        refine pm_aload_n C dX16_sum_165 rfl rfl ?_
        refine pm_getR C dX16_sum_166 flX16_65 rfl k38 e44 ?_
        refine pm_getI C dX16_sum_169 flX16_871 rfl k45 rfl ?_
        refine pm_iconst (v := 1) C dX16_sum_172 (by decide) ?_
        refine pm_icmp_ne (tgt := 207) C dX16_sum_173 (by decide) (fun c48 => ?_) (fun c48 => ?_)
        · have hf := pm_ie hf c48
          exact pm_sub [0, 1, 2, 3] rfl (bX16_sum_207 C X hf q)
        · have hf := pm_it hf c48
          refine pm_iload_n C dX16_sum_176 rfl rfl ?_
          refine pm_aload_n C dX16_sum_177 rfl rfl ?_
          refine pm_getR C dX16_sum_178 flX16_61 rfl k38 e40 ?_
          refine pm_getI C dX16_sum_181 flX16_921 rfl k41 rfl ?_
          refine pm_if_eq (tgt := 201) C dX16_sum_184 (by decide) (fun c49 => ?_) (fun c49 => ?_)
          · have hf := pm_it hf c49
            refine pm_iconst (v := 0) C dX16_sum_201 (by decide) ?_
            refine pm_lconst (v := 0) C dX16_sum_202 (by decide) ?_
            obtain ⟨v50, e51, hf⟩ := pm_lt hf
            refine pm_callS (as := [.int x1, .int 0, .long 0]) (st := []) C X dX16_sum_203 lnX16_882 myX16_withSign stX16_withSign ⟨by decide, by decide⟩ rfl rfl (Nat.le_of_ble_eq_true rfl) (Nat.le_refl _) (Nat.le_refl _) (ctX16_withSign e51 ?_)
            show pm_G g 206 [(0, .ref x0), (1, .int x1), (2, .long x2), (4, .long x4)] [.long v50] h 0 0
            cases hf
            exact pm_lret C X dX16_sum_206 rfl (Nat.le_refl _) (Nat.le_refl _) q
          · have hf := pm_ie hf c49
            refine pm_aload_n C dX16_sum_187 rfl rfl ?_
            refine pm_getR C dX16_sum_188 flX16_65 rfl k38 e44 ?_
            refine pm_getI C dX16_sum_191 flX16_921 rfl k45 rfl ?_
            refine pm_if_eq (tgt := 201) C dX16_sum_194 (by decide) (fun c52 => ?_) (fun c52 => ?_)
            · have hf := pm_it hf c52
              refine pm_iconst (v := 0) C dX16_sum_201 (by decide) ?_
              refine pm_lconst (v := 0) C dX16_sum_202 (by decide) ?_
              obtain ⟨v53, e54, hf⟩ := pm_lt hf
              refine pm_callS (as := [.int x1, .int 0, .long 0]) (st := []) C X dX16_sum_203 lnX16_882 myX16_withSign stX16_withSign ⟨by decide, by decide⟩ rfl rfl (Nat.le_of_ble_eq_true rfl) (Nat.le_refl _) (Nat.le_refl _) (ctX16_withSign e54 ?_)
              show pm_G g 206 [(0, .ref x0), (1, .int x1), (2, .long x2), (4, .long x4)] [.long v53] h 0 0
              cases hf
              exact pm_lret C X dX16_sum_206 rfl (Nat.le_refl _) (Nat.le_refl _) q
            · have hf := pm_ie hf c52
              refine pm_iconst (v := 1) C dX16_sum_197 (by decide) ?_
              refine pm_goto (tgt := 202) C dX16_sum_198 (by decide) ?_
              refine pm_lconst (v := 0) C dX16_sum_202 (by decide) ?_
              obtain ⟨v55, e56, hf⟩ := pm_lt hf
              refine pm_callS (as := [.int x1, .int 1, .long 0]) (st := []) C X dX16_sum_203 lnX16_882 myX16_withSign stX16_withSign ⟨by decide, by decide⟩ rfl rfl (Nat.le_of_ble_eq_true rfl) (Nat.le_refl _) (Nat.le_refl _) (ctX16_withSign e56 ?_)
              show pm_G g 206 [(0, .ref x0), (1, .int x1), (2, .long x2), (4, .long x4)] [.long v55] h 0 0
              cases hf
              exact pm_lret C X dX16_sum_206 rfl (Nat.le_refl _) (Nat.le_refl _) q
    · have hf := pm_it hf c46
      refine pm_iload_n C dX16_sum_138 rfl rfl ?_
      refine pm_aload_n C dX16_sum_139 rfl rfl ?_
      refine pm_getR C dX16_sum_140 flX16_65 rfl k38 e44 ?_
      refine pm_getI C dX16_sum_143 flX16_921 rfl k45 rfl ?_
      refine pm_iload_n C dX16_sum_146 rfl rfl ?_
      obtain ⟨v57, e58, hf⟩ := pm_lt hf
      refine pm_callS (as := [.int x1]) (st := [.int (pm_I h v43 0), .int x1]) C X dX16_sum_147 lnX16_888 myX16_infinite stX16_infinite ⟨by decide, by decide⟩ rfl rfl (Nat.le_of_ble_eq_true rfl) (Nat.le_refl _) (Nat.le_refl _) (ctX16_infinite e58 ?_)
      show pm_G g 150 [(0, .ref x0), (1, .int x1), (2, .long x2), (4, .long x4)] [.long v57, .int (pm_I h v43 0), .int x1] h 0 0
      obtain ⟨v59, e60, hf⟩ := pm_lt hf
      refine pm_callS (as := [.int x1, .int (pm_I h v43 0), .long v57]) (st := []) C X dX16_sum_150 lnX16_882 myX16_withSign stX16_withSign ⟨by decide, by decide⟩ rfl rfl (Nat.le_of_ble_eq_true rfl) (Nat.le_refl _) (Nat.le_refl _) (ctX16_withSign e60 ?_)
      show pm_G g 153 [(0, .ref x0), (1, .int x1), (2, .long x2), (4, .long x4)] [.long v59] h 0 0
      cases hf
      exact pm_lret C X dX16_sum_153 rfl (Nat.le_refl _) (Nat.le_refl _) q
  · have hf := pm_it hf c42
    refine pm_lload_n C dX16_sum_125 rfl rfl ?_
    cases hf
    exact pm_lret C X dX16_sum_126 rfl (Nat.le_refl _) (Nat.le_refl _) q
set_option maxHeartbeats 4000000 in
set_option maxRecDepth 100000 in
theorem bX16_sum_40 {g : pm_Gm} {l : Launch} {G : pm_Gl} {Qr : Option Value → pm_H → Prop} (C : pm_C g cX16_sum RX16) (X : pm_X g l G mX16_sum 0 0 Qr) {h : pm_H} {x0 : Nat} {x1 : Int32} {x2 : Int64} {x4 : Int64} {s0 : Int32} {s1 : Nat} {r : (Int64 × pm_H)} (hf : fX16_sum_b40 h x0 x1 x2 x4 s0 s1 = some r) (q : Qr (some (.long r.1)) r.2) : pm_G g 40 [(0, .ref x0), (1, .int x1), (2, .long x2), (4, .long x4)] [.int s0, .ref s1] h 0 0 := by
  unfold fX16_sum_b40 at hf
  obtain ⟨k18, hf⟩ := pm_if hf
  obtain ⟨u19, hf⟩ := pm_if hf
  refine pm_putI C dX16_sum_40 flX16_921 rfl rfl k18 (pm_b01 u19).1 (pm_b01 u19).2 ?_
  refine pm_aload_n C dX16_sum_43 rfl rfl ?_
  obtain ⟨k20, hf⟩ := pm_if hf
  obtain ⟨v21, e22, hf⟩ := pm_bd hf
  refine pm_getR C dX16_sum_44 flX16_61 rfl k20 e22 ?_
  obtain ⟨k23, hf⟩ := pm_if hf
  refine pm_getI C dX16_sum_47 flX16_871 rfl k23 rfl ?_
  refine pm_iconst (v := 3) C dX16_sum_50 (by decide) ?_
  refine pm_icmp_eq (tgt := 65) C dX16_sum_51 (by decide) (fun c24 => ?_) (fun c24 => ?_)
  · have hf := pm_it hf c24
    refine pm_iload_n C dX16_sum_65 rfl rfl ?_
    obtain ⟨v25, e26, hf⟩ := pm_lt hf
    refine pm_callS (as := [.int x1]) (st := []) C X dX16_sum_66 lnX16_910 myX16_noneOf stX16_noneOf ⟨by decide, by decide⟩ rfl rfl (Nat.le_of_ble_eq_true rfl) (Nat.le_refl _) (Nat.le_refl _) (ctX16_noneOf e26 ?_)
    show pm_G g 69 [(0, .ref x0), (1, .int x1), (2, .long x2), (4, .long x4)] [.long v25] (pm_setI h s1 0 s0) 0 0
    cases hf
    exact pm_lret C X dX16_sum_69 rfl (Nat.le_refl _) (Nat.le_refl _) q
  · have hf := pm_ie hf c24
    refine pm_aload_n C dX16_sum_54 rfl rfl ?_
    obtain ⟨v27, e28, hf⟩ := pm_bd hf
    refine pm_getR C dX16_sum_55 flX16_65 rfl k20 e28 ?_
    obtain ⟨k29, hf⟩ := pm_if hf
    refine pm_getI C dX16_sum_58 flX16_871 rfl k29 rfl ?_
    refine pm_iconst (v := 3) C dX16_sum_61 (by decide) ?_
    refine pm_icmp_ne (tgt := 70) C dX16_sum_62 (by decide) (fun c30 => ?_) (fun c30 => ?_)
    · have hf := pm_ie hf c30
      refine pm_aload_n C dX16_sum_70 rfl rfl ?_
      refine pm_getR C dX16_sum_71 flX16_61 rfl k20 e22 ?_
      refine pm_getI C dX16_sum_74 flX16_871 rfl k23 rfl ?_
      refine pm_iconst (v := 2) C dX16_sum_77 (by decide) ?_
      refine pm_icmp_ne (tgt := 114) C dX16_sum_78 (by decide) (fun c31 => ?_) (fun c31 => ?_)
      · have hf := pm_ie hf c31
        exact pm_sub [0, 1, 2, 3] rfl (bX16_sum_114 C X hf q)
      · have hf := pm_it hf c31
        refine pm_aload_n C dX16_sum_81 rfl rfl ?_
        refine pm_getR C dX16_sum_82 flX16_65 rfl k20 e28 ?_
        refine pm_getI C dX16_sum_85 flX16_871 rfl k29 rfl ?_
        refine pm_iconst (v := 2) C dX16_sum_88 (by decide) ?_
        refine pm_icmp_ne (tgt := 114) C dX16_sum_89 (by decide) (fun c32 => ?_) (fun c32 => ?_)
        · have hf := pm_ie hf c32
          exact pm_sub [0, 1, 2, 3] rfl (bX16_sum_114 C X hf q)
        · have hf := pm_it hf c32
          refine pm_aload_n C dX16_sum_92 rfl rfl ?_
          refine pm_getR C dX16_sum_93 flX16_61 rfl k20 e22 ?_
          refine pm_getI C dX16_sum_96 flX16_921 rfl k23 rfl ?_
          refine pm_aload_n C dX16_sum_99 rfl rfl ?_
          refine pm_getR C dX16_sum_100 flX16_65 rfl k20 e28 ?_
          refine pm_getI C dX16_sum_103 flX16_921 rfl k29 rfl ?_
          refine pm_icmp_eq (tgt := 114) C dX16_sum_106 (by decide) (fun c33 => ?_) (fun c33 => ?_)
          · have hf := pm_it hf c33
            exact pm_sub [0, 1, 2, 3] rfl (bX16_sum_114 C X hf q)
          · have hf := pm_ie hf c33
            refine pm_iload_n C dX16_sum_109 rfl rfl ?_
            obtain ⟨v34, e35, hf⟩ := pm_lt hf
            refine pm_callS (as := [.int x1]) (st := []) C X dX16_sum_110 lnX16_910 myX16_noneOf stX16_noneOf ⟨by decide, by decide⟩ rfl rfl (Nat.le_of_ble_eq_true rfl) (Nat.le_refl _) (Nat.le_refl _) (ctX16_noneOf e35 ?_)
            show pm_G g 113 [(0, .ref x0), (1, .int x1), (2, .long x2), (4, .long x4)] [.long v34] (pm_setI h s1 0 s0) 0 0
            cases hf
            exact pm_lret C X dX16_sum_113 rfl (Nat.le_refl _) (Nat.le_refl _) q
    · have hf := pm_it hf c30
      refine pm_iload_n C dX16_sum_65 rfl rfl ?_
      obtain ⟨v36, e37, hf⟩ := pm_lt hf
      refine pm_callS (as := [.int x1]) (st := []) C X dX16_sum_66 lnX16_910 myX16_noneOf stX16_noneOf ⟨by decide, by decide⟩ rfl rfl (Nat.le_of_ble_eq_true rfl) (Nat.le_refl _) (Nat.le_refl _) (ctX16_noneOf e37 ?_)
      show pm_G g 69 [(0, .ref x0), (1, .int x1), (2, .long x2), (4, .long x4)] [.long v36] (pm_setI h s1 0 s0) 0 0
      cases hf
      exact pm_lret C X dX16_sum_69 rfl (Nat.le_refl _) (Nat.le_refl _) q
set_option maxHeartbeats 4000000 in
set_option maxRecDepth 100000 in
theorem ctX16_sum {l : Launch} {G : pm_Gl} {h : pm_H} {a0 : Nat} {p1 : Int32} {p2 : Int64} {p3 : Int64} {p4 : Int32} {r : (Int64 × pm_H)} {Qr : Option Value → pm_H → Prop} (hf : fX16_sum h a0 p1 p2 p3 p4 = some r) (q : Qr (some (.long r.1)) r.2) : pm_Ct l G mX16_sum [.ref a0, .int p1, .long p2, .long p3, .int p4] h 0 0 Qr := by
  refine pm_body pnX16 (Nat.le_of_ble_eq_true rfl) (fun g C X => ?_)
  have C : pm_C g cX16_sum RX16 := C
  show pm_G g 0 [(0, .ref a0), (1, .int p1), (2, .long p2), (4, .long p3), (6, .int p4)] [] h 0 0
  unfold fX16_sum at hf
  refine pm_aload_n C dX16_sum_0 rfl rfl ?_
  obtain ⟨k1, hf⟩ := pm_if hf
  obtain ⟨v2, e3, hf⟩ := pm_bd hf
  refine pm_getR C dX16_sum_1 flX16_61 rfl k1 e3 ?_
  refine pm_iload_n C dX16_sum_4 rfl rfl ?_
  refine pm_lload_n C dX16_sum_5 rfl rfl ?_
  obtain ⟨k4, hf⟩ := pm_if hf
  obtain ⟨v5, e6, hf⟩ := pm_bd hf
  refine pm_callV (as := [.int p1, .long p2]) (st := []) C X dX16_sum_6 lnX16_868 myX15_read viX15_read ⟨by decide, by decide⟩ rfl rfl k4 (Nat.le_of_ble_eq_true rfl) (Nat.le_refl _) (Nat.le_refl _) (ctX15_read e6 ?_)
  show pm_G g 9 [(0, .ref a0), (1, .int p1), (2, .long p2), (4, .long p3), (6, .int p4)] [] v5 0 0
  refine pm_aload_n C dX16_sum_9 rfl rfl ?_
  obtain ⟨k7, hf⟩ := pm_if hf
  obtain ⟨v8, e9, hf⟩ := pm_bd hf
  refine pm_getR C dX16_sum_10 flX16_65 rfl k7 e9 ?_
  refine pm_iload_n C dX16_sum_13 rfl rfl ?_
  refine pm_lload C dX16_sum_14 rfl ?_
  obtain ⟨k10, hf⟩ := pm_if hf
  obtain ⟨v11, e12, hf⟩ := pm_bd hf
  refine pm_callV (as := [.int p1, .long p3]) (st := []) C X dX16_sum_16 lnX16_868 myX15_read viX15_read ⟨by decide, by decide⟩ rfl rfl k10 (Nat.le_of_ble_eq_true rfl) (Nat.le_refl _) (Nat.le_refl _) (ctX15_read e12 ?_)
  show pm_G g 19 [(0, .ref a0), (1, .int p1), (2, .long p2), (4, .long p3), (6, .int p4)] [] v11 0 0
  refine pm_aload_n C dX16_sum_19 rfl rfl ?_
  obtain ⟨k13, hf⟩ := pm_if hf
  obtain ⟨v14, e15, hf⟩ := pm_bd hf
  refine pm_getR C dX16_sum_20 flX16_65 rfl k13 e15 ?_
  refine pm_aload_n C dX16_sum_23 rfl rfl ?_
  refine pm_getR C dX16_sum_24 flX16_65 rfl k13 e15 ?_
  obtain ⟨k16, hf⟩ := pm_if hf
  refine pm_getI C dX16_sum_27 flX16_921 rfl k16 rfl ?_
  refine pm_iload C dX16_sum_30 rfl ?_
  refine pm_icmp_eq (tgt := 39) C dX16_sum_32 (by decide) (fun c17 => ?_) (fun c17 => ?_)
  · have hf := pm_it hf c17
    refine pm_iconst (v := 0) C dX16_sum_39 (by decide) ?_
    exact pm_sub [0, 1, 2, 3] rfl (bX16_sum_40 C X hf q)
  · have hf := pm_ie hf c17
    refine pm_iconst (v := 1) C dX16_sum_35 (by decide) ?_
    refine pm_goto (tgt := 40) C dX16_sum_36 (by decide) ?_
    exact pm_sub [0, 1, 2, 3] rfl (bX16_sum_40 C X hf q)
theorem dX16_table_0 : decode cX16_table 0 = .ok (.aload_n 0, 1) := by decide +kernel
theorem dX16_table_1 : decode cX16_table 1 = .ok (.iconst 1, 1) := by decide +kernel
theorem dX16_table_2 : decode cX16_table 2 = .ok (.iload_n 1, 1) := by decide +kernel
theorem dX16_table_3 : decode cX16_table 3 = .ok (.iload_n 2, 1) := by decide +kernel
theorem dX16_table_4 : decode cX16_table 4 = .ok (.invokevirtual 1074, 3) := by decide +kernel
theorem dX16_table_7 : decode cX16_table 7 = .ok (.istore 4, 2) := by decide +kernel
theorem dX16_table_9 : decode cX16_table 9 = .ok (.iload 4, 2) := by decide +kernel
theorem dX16_table_11 : decode cX16_table 11 = .ok (.ifCond .lt 18, 3) := by decide +kernel
theorem dX16_table_14 : decode cX16_table 14 = .ok (.iload_n 3, 1) := by decide +kernel
theorem dX16_table_15 : decode cX16_table 15 = .ok (.ifCond .lt 14, 3) := by decide +kernel
theorem dX16_table_18 : decode cX16_table 18 = .ok (.iload_n 3, 1) := by decide +kernel
theorem dX16_table_19 : decode cX16_table 19 = .ok (.aload_n 0, 1) := by decide +kernel
theorem dX16_table_20 : decode cX16_table 20 = .ok (.getfield 96, 3) := by decide +kernel
theorem dX16_table_23 : decode cX16_table 23 = .ok (.iload 4, 2) := by decide +kernel
theorem dX16_table_25 : decode cX16_table 25 = .ok (.iaload, 1) := by decide +kernel
theorem dX16_table_26 : decode cX16_table 26 = .ok (.if_icmp .lt 8, 3) := by decide +kernel
theorem dX16_table_29 : decode cX16_table 29 = .ok (.bipush (-2), 2) := by decide +kernel
theorem dX16_table_31 : decode cX16_table 31 = .ok (.goto 16, 3) := by decide +kernel
theorem dX16_table_34 : decode cX16_table 34 = .ok (.aload_n 0, 1) := by decide +kernel
theorem dX16_table_35 : decode cX16_table 35 = .ok (.getfield 103, 3) := by decide +kernel
theorem dX16_table_38 : decode cX16_table 38 = .ok (.sipush 1024, 3) := by decide +kernel
theorem dX16_table_41 : decode cX16_table 41 = .ok (.iload 4, 2) := by decide +kernel
theorem dX16_table_43 : decode cX16_table 43 = .ok (.imul, 1) := by decide +kernel
theorem dX16_table_44 : decode cX16_table 44 = .ok (.iload_n 3, 1) := by decide +kernel
theorem dX16_table_45 : decode cX16_table 45 = .ok (.iadd, 1) := by decide +kernel
theorem dX16_table_46 : decode cX16_table 46 = .ok (.iaload, 1) := by decide +kernel
theorem dX16_table_47 : decode cX16_table 47 = .ok (.ireturn, 1) := by decide +kernel
def fX16_table (h : pm_H) (a0 : Nat) (p1 : Int32) (p2 : Int32) (p3 : Int32) : Option Int32 := if pm_kd h a0 = 16 then (fX16_exportedAs h a0 1 p1 p2).bind fun v2 => if v2 < 0 then (some ((-2))) else (if p3 < 0 then (some ((-2))) else ((pm_R h a0 49).bind fun v6 => if pm_kd h v6 = 34 then if pm_in v2 (pm_ln h v6) then if p3 < (pm_I h v6 v2.toNatClampNeg) then ((pm_R h a0 51).bind fun v11 => pm_let ((1024 * v2) + p3) fun y13 => if pm_kd h v11 = 34 then if pm_in y13 (pm_ln h v11) then some (pm_I h v11 y13.toNatClampNeg) else none else none) else (some ((-2))) else none else none)) else none
set_option maxHeartbeats 4000000 in
set_option maxRecDepth 100000 in
theorem ctX16_table {l : Launch} {G : pm_Gl} {h : pm_H} {a0 : Nat} {p1 : Int32} {p2 : Int32} {p3 : Int32} {r : Int32} {Qr : Option Value → pm_H → Prop} (hf : fX16_table h a0 p1 p2 p3 = some r) (q : Qr (some (.int r)) h) : pm_Ct l G mX16_table [.ref a0, .int p1, .int p2, .int p3] h 0 0 Qr := by
  refine pm_body pnX16 (Nat.le_of_ble_eq_true rfl) (fun g C X => ?_)
  have C : pm_C g cX16_table RX16 := C
  show pm_G g 0 [(0, .ref a0), (1, .int p1), (2, .int p2), (3, .int p3)] [] h 0 0
  unfold fX16_table at hf
  refine pm_aload_n C dX16_table_0 rfl rfl ?_
  refine pm_iconst (v := 1) C dX16_table_1 (by decide) ?_
  refine pm_iload_n C dX16_table_2 rfl rfl ?_
  refine pm_iload_n C dX16_table_3 rfl rfl ?_
  obtain ⟨k1, hf⟩ := pm_if hf
  obtain ⟨v2, e3, hf⟩ := pm_bd hf
  refine pm_callV (as := [.int 1, .int p1, .int p2]) (st := []) C X dX16_table_4 lnX16_1074 myX16_exportedAs viX16_exportedAs ⟨by decide, by decide⟩ rfl rfl k1 (Nat.le_of_ble_eq_true rfl) (Nat.le_refl _) (Nat.le_refl _) (ctX16_exportedAs e3 ?_)
  show pm_G g 7 [(0, .ref a0), (1, .int p1), (2, .int p2), (3, .int p3)] [.int v2] h 0 0
  refine pm_istore (lv' := [(4, .int v2), (0, .ref a0), (1, .int p1), (2, .int p2), (3, .int p3)]) C dX16_table_7 (pm_nl X (by decide)) rfl ?_
  refine pm_iload C dX16_table_9 rfl ?_
  refine pm_if_lt (tgt := 29) C dX16_table_11 (by decide) (fun c4 => ?_) (fun c4 => ?_)
  · have hf := pm_it hf c4
    refine pm_bipush (v := (-2)) C dX16_table_29 (by decide) ?_
    refine pm_goto (tgt := 47) C dX16_table_31 (by decide) ?_
    cases hf
    exact pm_iret C X dX16_table_47 rfl (Nat.le_refl _) (Nat.le_refl _) q
  · have hf := pm_ie hf c4
    refine pm_iload_n C dX16_table_14 rfl rfl ?_
    refine pm_if_lt (tgt := 29) C dX16_table_15 (by decide) (fun c5 => ?_) (fun c5 => ?_)
    · have hf := pm_it hf c5
      refine pm_bipush (v := (-2)) C dX16_table_29 (by decide) ?_
      refine pm_goto (tgt := 47) C dX16_table_31 (by decide) ?_
      cases hf
      exact pm_iret C X dX16_table_47 rfl (Nat.le_refl _) (Nat.le_refl _) q
    · have hf := pm_ie hf c5
      refine pm_iload_n C dX16_table_18 rfl rfl ?_
      refine pm_aload_n C dX16_table_19 rfl rfl ?_
      obtain ⟨v6, e7, hf⟩ := pm_bd hf
      refine pm_getR C dX16_table_20 flX16_96 rfl k1 e7 ?_
      refine pm_iload C dX16_table_23 rfl ?_
      obtain ⟨k8, hf⟩ := pm_if hf
      obtain ⟨u9, hf⟩ := pm_if hf
      refine pm_iald C dX16_table_25 k8 u9 rfl ?_
      refine pm_icmp_lt (tgt := 34) C dX16_table_26 (by decide) (fun c10 => ?_) (fun c10 => ?_)
      · have hf := pm_it hf c10
        refine pm_aload_n C dX16_table_34 rfl rfl ?_
        obtain ⟨v11, e12, hf⟩ := pm_bd hf
        refine pm_getR C dX16_table_35 flX16_103 rfl k1 e12 ?_
        refine pm_sipush (v := 1024) C dX16_table_38 (by decide) ?_
        refine pm_iload C dX16_table_41 rfl ?_
        refine pm_imul C dX16_table_43 ?_
        refine pm_iload_n C dX16_table_44 rfl rfl ?_
        refine pm_iadd C dX16_table_45 ?_
        obtain ⟨y13, e14, hf⟩ := pm_lt hf
        refine pm_topI e14 ?_
        obtain ⟨k15, hf⟩ := pm_if hf
        obtain ⟨u16, hf⟩ := pm_if hf
        refine pm_iald C dX16_table_46 k15 u16 rfl ?_
        cases hf
        exact pm_iret C X dX16_table_47 rfl (Nat.le_refl _) (Nat.le_refl _) q
      · have hf := pm_ie hf c10
        refine pm_bipush (v := (-2)) C dX16_table_29 (by decide) ?_
        refine pm_goto (tgt := 47) C dX16_table_31 (by decide) ?_
        cases hf
        exact pm_iret C X dX16_table_47 rfl (Nat.le_refl _) (Nat.le_refl _) q
