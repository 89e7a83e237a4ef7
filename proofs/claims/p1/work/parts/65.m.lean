theorem dJ7_rangeCheck_23922_0 : decode cJ7_rangeCheck_23922 0 = .ok (.iload_n 1, 1) := by decide +kernel
theorem dJ7_rangeCheck_23922_1 : decode cJ7_rangeCheck_23922 1 = .ok (.iload_n 2, 1) := by decide +kernel
theorem dJ7_rangeCheck_23922_2 : decode cJ7_rangeCheck_23922 2 = .ok (.if_icmp .le 44, 3) := by decide +kernel
theorem dJ7_rangeCheck_23922_5 : decode cJ7_rangeCheck_23922 5 = .ok (.new 43, 3) := by decide +kernel
theorem dJ7_rangeCheck_23922_46 : decode cJ7_rangeCheck_23922 46 = .ok (.iload_n 1, 1) := by decide +kernel
theorem dJ7_rangeCheck_23922_47 : decode cJ7_rangeCheck_23922 47 = .ok (.ifCond .ge 12, 3) := by decide +kernel
theorem dJ7_rangeCheck_23922_50 : decode cJ7_rangeCheck_23922 50 = .ok (.new 68, 3) := by decide +kernel
theorem dJ7_rangeCheck_23922_59 : decode cJ7_rangeCheck_23922 59 = .ok (.iload_n 2, 1) := by decide +kernel
theorem dJ7_rangeCheck_23922_60 : decode cJ7_rangeCheck_23922 60 = .ok (.iload_n 0, 1) := by decide +kernel
theorem dJ7_rangeCheck_23922_61 : decode cJ7_rangeCheck_23922 61 = .ok (.if_icmp .le 12, 3) := by decide +kernel
theorem dJ7_rangeCheck_23922_64 : decode cJ7_rangeCheck_23922 64 = .ok (.new 68, 3) := by decide +kernel
theorem dJ7_rangeCheck_23922_73 : decode cJ7_rangeCheck_23922 73 = .ok (.return_, 1) := by decide +kernel
def fJ7_rangeCheck_23922 (p1 : Int32) (p2 : Int32) (p3 : Int32) : Option Unit := if p2 ≤ p3 then (if 0 ≤ p2 then (if p3 ≤ p1 then (some (())) else (none)) else (none)) else (none)
set_option maxHeartbeats 4000000 in
set_option maxRecDepth 100000 in
theorem ctJ7_rangeCheck_23922 {l : Launch} {G : pm_Gl} {h : pm_H} {p1 : Int32} {p2 : Int32} {p3 : Int32} {r : Unit} {Qr : Option Value → pm_H → Prop} (hf : fJ7_rangeCheck_23922 p1 p2 p3 = some r) (q : Qr none h) : pm_Ct l G mJ7_rangeCheck_23922 [.int p1, .int p2, .int p3] h 0 0 Qr := by
  refine pm_body pnJ7 (Nat.le_of_ble_eq_true rfl) (fun g C X => ?_)
  have C : pm_C g cJ7_rangeCheck_23922 RJ7 := C
  show pm_G g 0 [(0, .int p1), (1, .int p2), (2, .int p3)] [] h 0 0
  unfold fJ7_rangeCheck_23922 at hf
  refine pm_iload_n C dJ7_rangeCheck_23922_0 rfl rfl ?_
  refine pm_iload_n C dJ7_rangeCheck_23922_1 rfl rfl ?_
  refine pm_icmp_le (tgt := 46) C dJ7_rangeCheck_23922_2 (by decide) (fun c1 => ?_) (fun c1 => ?_)
  · have hf := pm_it hf c1
    refine pm_iload_n C dJ7_rangeCheck_23922_46 rfl rfl ?_
    refine pm_if_ge (tgt := 59) C dJ7_rangeCheck_23922_47 (by decide) (fun c2 => ?_) (fun c2 => ?_)
    · have hf := pm_it hf c2
      refine pm_iload_n C dJ7_rangeCheck_23922_59 rfl rfl ?_
      refine pm_iload_n C dJ7_rangeCheck_23922_60 rfl rfl ?_
      refine pm_icmp_le (tgt := 73) C dJ7_rangeCheck_23922_61 (by decide) (fun c3 => ?_) (fun c3 => ?_)
      · have hf := pm_it hf c3
        cases hf
        exact pm_vret C X dJ7_rangeCheck_23922_73 rfl (Nat.le_refl _) (Nat.le_refl _) q
      · have hf := pm_ie hf c3
        cases hf
    · have hf := pm_ie hf c2
      cases hf
  · have hf := pm_ie hf c1
    cases hf
theorem dX6_copy_0 : decode cX6_copy 0 = .ok (.lconst 0, 1) := by decide +kernel
theorem dX6_copy_1 : decode cX6_copy 1 = .ok (.lstore 8, 2) := by decide +kernel
theorem dX6_copy_3 : decode cX6_copy 3 = .ok (.iconst 0, 1) := by decide +kernel
theorem dX6_copy_4 : decode cX6_copy 4 = .ok (.istore 10, 2) := by decide +kernel
theorem dX6_copy_6 : decode cX6_copy 6 = .ok (.iload 10, 2) := by decide +kernel
theorem dX6_copy_8 : decode cX6_copy 8 = .ok (.bipush 32, 2) := by decide +kernel
theorem dX6_copy_10 : decode cX6_copy 10 = .ok (.if_icmp .ge 246, 3) := by decide +kernel
theorem dX6_copy_13 : decode cX6_copy 13 = .ok (.lload 8, 2) := by decide +kernel
theorem dX6_copy_15 : decode cX6_copy 15 = .ok (.lload 6, 2) := by decide +kernel
theorem dX6_copy_17 : decode cX6_copy 17 = .ok (.lcmp, 1) := by decide +kernel
theorem dX6_copy_18 : decode cX6_copy 18 = .ok (.ifCond .ge 238, 3) := by decide +kernel
theorem dX6_copy_21 : decode cX6_copy 21 = .ok (.lload 6, 2) := by decide +kernel
theorem dX6_copy_23 : decode cX6_copy 23 = .ok (.lload 8, 2) := by decide +kernel
theorem dX6_copy_25 : decode cX6_copy 25 = .ok (.lsub, 1) := by decide +kernel
theorem dX6_copy_26 : decode cX6_copy 26 = .ok (.lstore 11, 2) := by decide +kernel
theorem dX6_copy_28 : decode cX6_copy 28 = .ok (.lload_n 2, 1) := by decide +kernel
theorem dX6_copy_29 : decode cX6_copy 29 = .ok (.lload 4, 2) := by decide +kernel
theorem dX6_copy_31 : decode cX6_copy 31 = .ok (.lcmp, 1) := by decide +kernel
theorem dX6_copy_32 : decode cX6_copy 32 = .ok (.ifCond .le 7, 3) := by decide +kernel
theorem dX6_copy_35 : decode cX6_copy 35 = .ok (.iconst 1, 1) := by decide +kernel
theorem dX6_copy_36 : decode cX6_copy 36 = .ok (.goto 4, 3) := by decide +kernel
theorem dX6_copy_39 : decode cX6_copy 39 = .ok (.iconst 0, 1) := by decide +kernel
theorem dX6_copy_40 : decode cX6_copy 40 = .ok (.istore 13, 2) := by decide +kernel
theorem dX6_copy_42 : decode cX6_copy 42 = .ok (.iload 13, 2) := by decide +kernel
theorem dX6_copy_44 : decode cX6_copy 44 = .ok (.ifCond .eq 12, 3) := by decide +kernel
theorem dX6_copy_47 : decode cX6_copy 47 = .ok (.lload_n 2, 1) := by decide +kernel
theorem dX6_copy_48 : decode cX6_copy 48 = .ok (.lload 11, 2) := by decide +kernel
theorem dX6_copy_50 : decode cX6_copy 50 = .ok (.ladd, 1) := by decide +kernel
theorem dX6_copy_51 : decode cX6_copy 51 = .ok (.lconst 1, 1) := by decide +kernel
theorem dX6_copy_52 : decode cX6_copy 52 = .ok (.lsub, 1) := by decide +kernel
theorem dX6_copy_53 : decode cX6_copy 53 = .ok (.goto 7, 3) := by decide +kernel
theorem dX6_copy_56 : decode cX6_copy 56 = .ok (.lload_n 2, 1) := by decide +kernel
theorem dX6_copy_57 : decode cX6_copy 57 = .ok (.lload 8, 2) := by decide +kernel
theorem dX6_copy_59 : decode cX6_copy 59 = .ok (.ladd, 1) := by decide +kernel
theorem dX6_copy_60 : decode cX6_copy 60 = .ok (.lstore 14, 2) := by decide +kernel
theorem dX6_copy_62 : decode cX6_copy 62 = .ok (.iload 13, 2) := by decide +kernel
theorem dX6_copy_64 : decode cX6_copy 64 = .ok (.ifCond .eq 13, 3) := by decide +kernel
theorem dX6_copy_67 : decode cX6_copy 67 = .ok (.lload 4, 2) := by decide +kernel
theorem dX6_copy_69 : decode cX6_copy 69 = .ok (.lload 11, 2) := by decide +kernel
theorem dX6_copy_71 : decode cX6_copy 71 = .ok (.ladd, 1) := by decide +kernel
theorem dX6_copy_72 : decode cX6_copy 72 = .ok (.lconst 1, 1) := by decide +kernel
theorem dX6_copy_73 : decode cX6_copy 73 = .ok (.lsub, 1) := by decide +kernel
theorem dX6_copy_74 : decode cX6_copy 74 = .ok (.goto 8, 3) := by decide +kernel
theorem dX6_copy_77 : decode cX6_copy 77 = .ok (.lload 4, 2) := by decide +kernel
theorem dX6_copy_79 : decode cX6_copy 79 = .ok (.lload 8, 2) := by decide +kernel
theorem dX6_copy_81 : decode cX6_copy 81 = .ok (.ladd, 1) := by decide +kernel
theorem dX6_copy_82 : decode cX6_copy 82 = .ok (.lstore 16, 2) := by decide +kernel
theorem dX6_copy_84 : decode cX6_copy 84 = .ok (.iload 13, 2) := by decide +kernel
theorem dX6_copy_86 : decode cX6_copy 86 = .ok (.ifCond .eq 15, 3) := by decide +kernel
theorem dX6_copy_89 : decode cX6_copy 89 = .ok (.lload 14, 2) := by decide +kernel
theorem dX6_copy_91 : decode cX6_copy 91 = .ok (.ldc2_w 65, 3) := by decide +kernel
theorem dX6_copy_94 : decode cX6_copy 94 = .ok (.land, 1) := by decide +kernel
theorem dX6_copy_95 : decode cX6_copy 95 = .ok (.l2i, 1) := by decide +kernel
theorem dX6_copy_96 : decode cX6_copy 96 = .ok (.iconst 1, 1) := by decide +kernel
theorem dX6_copy_97 : decode cX6_copy 97 = .ok (.iadd, 1) := by decide +kernel
theorem dX6_copy_98 : decode cX6_copy 98 = .ok (.goto 10, 3) := by decide +kernel
theorem dX6_copy_101 : decode cX6_copy 101 = .ok (.aload_n 0, 1) := by decide +kernel
theorem dX6_copy_102 : decode cX6_copy 102 = .ok (.iload_n 1, 1) := by decide +kernel
theorem dX6_copy_103 : decode cX6_copy 103 = .ok (.lload 14, 2) := by decide +kernel
theorem dX6_copy_105 : decode cX6_copy 105 = .ok (.invokevirtual 82, 3) := by decide +kernel
theorem dX6_copy_108 : decode cX6_copy 108 = .ok (.istore 18, 2) := by decide +kernel
theorem dX6_copy_110 : decode cX6_copy 110 = .ok (.iload 13, 2) := by decide +kernel
theorem dX6_copy_112 : decode cX6_copy 112 = .ok (.ifCond .eq 15, 3) := by decide +kernel
theorem dX6_copy_115 : decode cX6_copy 115 = .ok (.lload 16, 2) := by decide +kernel
theorem dX6_copy_117 : decode cX6_copy 117 = .ok (.ldc2_w 65, 3) := by decide +kernel
theorem dX6_copy_120 : decode cX6_copy 120 = .ok (.land, 1) := by decide +kernel
theorem dX6_copy_121 : decode cX6_copy 121 = .ok (.l2i, 1) := by decide +kernel
theorem dX6_copy_122 : decode cX6_copy 122 = .ok (.iconst 1, 1) := by decide +kernel
theorem dX6_copy_123 : decode cX6_copy 123 = .ok (.iadd, 1) := by decide +kernel
theorem dX6_copy_124 : decode cX6_copy 124 = .ok (.goto 10, 3) := by decide +kernel
theorem dX6_copy_127 : decode cX6_copy 127 = .ok (.aload_n 0, 1) := by decide +kernel
theorem dX6_copy_128 : decode cX6_copy 128 = .ok (.iload_n 1, 1) := by decide +kernel
theorem dX6_copy_129 : decode cX6_copy 129 = .ok (.lload 16, 2) := by decide +kernel
theorem dX6_copy_131 : decode cX6_copy 131 = .ok (.invokevirtual 82, 3) := by decide +kernel
theorem dX6_copy_134 : decode cX6_copy 134 = .ok (.istore 19, 2) := by decide +kernel
theorem dX6_copy_136 : decode cX6_copy 136 = .ok (.lload 11, 2) := by decide +kernel
theorem dX6_copy_138 : decode cX6_copy 138 = .ok (.iload 18, 2) := by decide +kernel
theorem dX6_copy_140 : decode cX6_copy 140 = .ok (.iload 19, 2) := by decide +kernel
theorem dX6_copy_142 : decode cX6_copy 142 = .ok (.invokestatic 97, 3) := by decide +kernel
theorem dX6_copy_145 : decode cX6_copy 145 = .ok (.i2l, 1) := by decide +kernel
theorem dX6_copy_146 : decode cX6_copy 146 = .ok (.invokestatic 85, 3) := by decide +kernel
theorem dX6_copy_149 : decode cX6_copy 149 = .ok (.l2i, 1) := by decide +kernel
theorem dX6_copy_150 : decode cX6_copy 150 = .ok (.istore 20, 2) := by decide +kernel
theorem dX6_copy_152 : decode cX6_copy 152 = .ok (.iload 20, 2) := by decide +kernel
theorem dX6_copy_154 : decode cX6_copy 154 = .ok (.ifCond .le 23, 3) := by decide +kernel
theorem dX6_copy_157 : decode cX6_copy 157 = .ok (.aload_n 0, 1) := by decide +kernel
theorem dX6_copy_158 : decode cX6_copy 158 = .ok (.iload_n 1, 1) := by decide +kernel
theorem dX6_copy_159 : decode cX6_copy 159 = .ok (.lload 14, 2) := by decide +kernel
theorem dX6_copy_161 : decode cX6_copy 161 = .ok (.invokevirtual 82, 3) := by decide +kernel
theorem dX6_copy_164 : decode cX6_copy 164 = .ok (.ifCond .eq 13, 3) := by decide +kernel
theorem dX6_copy_167 : decode cX6_copy 167 = .ok (.aload_n 0, 1) := by decide +kernel
theorem dX6_copy_168 : decode cX6_copy 168 = .ok (.iload_n 1, 1) := by decide +kernel
theorem dX6_copy_169 : decode cX6_copy 169 = .ok (.lload 16, 2) := by decide +kernel
theorem dX6_copy_171 : decode cX6_copy 171 = .ok (.invokevirtual 82, 3) := by decide +kernel
theorem dX6_copy_174 : decode cX6_copy 174 = .ok (.ifCond .ne 4, 3) := by decide +kernel
theorem dX6_copy_177 : decode cX6_copy 177 = .ok (.return_, 1) := by decide +kernel
theorem dX6_copy_178 : decode cX6_copy 178 = .ok (.iload 13, 2) := by decide +kernel
theorem dX6_copy_180 : decode cX6_copy 180 = .ok (.ifCond .eq 10, 3) := by decide +kernel
theorem dX6_copy_183 : decode cX6_copy 183 = .ok (.iload 20, 2) := by decide +kernel
theorem dX6_copy_185 : decode cX6_copy 185 = .ok (.iconst 1, 1) := by decide +kernel
theorem dX6_copy_186 : decode cX6_copy 186 = .ok (.isub, 1) := by decide +kernel
theorem dX6_copy_187 : decode cX6_copy 187 = .ok (.goto 4, 3) := by decide +kernel
theorem dX6_copy_190 : decode cX6_copy 190 = .ok (.iconst 0, 1) := by decide +kernel
theorem dX6_copy_191 : decode cX6_copy 191 = .ok (.istore 21, 2) := by decide +kernel
theorem dX6_copy_193 : decode cX6_copy 193 = .ok (.aload_n 0, 1) := by decide +kernel
theorem dX6_copy_194 : decode cX6_copy 194 = .ok (.getfield 25, 3) := by decide +kernel
theorem dX6_copy_197 : decode cX6_copy 197 = .ok (.aload_n 0, 1) := by decide +kernel
theorem dX6_copy_198 : decode cX6_copy 198 = .ok (.iload_n 1, 1) := by decide +kernel
theorem dX6_copy_199 : decode cX6_copy 199 = .ok (.lload 16, 2) := by decide +kernel
theorem dX6_copy_201 : decode cX6_copy 201 = .ok (.invokevirtual 62, 3) := by decide +kernel
theorem dX6_copy_204 : decode cX6_copy 204 = .ok (.aaload, 1) := by decide +kernel
theorem dX6_copy_205 : decode cX6_copy 205 = .ok (.lload 16, 2) := by decide +kernel
theorem dX6_copy_207 : decode cX6_copy 207 = .ok (.ldc2_w 65, 3) := by decide +kernel
theorem dX6_copy_210 : decode cX6_copy 210 = .ok (.land, 1) := by decide +kernel
theorem dX6_copy_211 : decode cX6_copy 211 = .ok (.l2i, 1) := by decide +kernel
theorem dX6_copy_212 : decode cX6_copy 212 = .ok (.iload 21, 2) := by decide +kernel
theorem dX6_copy_214 : decode cX6_copy 214 = .ok (.isub, 1) := by decide +kernel
theorem dX6_copy_215 : decode cX6_copy 215 = .ok (.aload_n 0, 1) := by decide +kernel
theorem dX6_copy_216 : decode cX6_copy 216 = .ok (.getfield 25, 3) := by decide +kernel
theorem dX6_copy_219 : decode cX6_copy 219 = .ok (.aload_n 0, 1) := by decide +kernel
theorem dX6_copy_220 : decode cX6_copy 220 = .ok (.iload_n 1, 1) := by decide +kernel
theorem dX6_copy_221 : decode cX6_copy 221 = .ok (.lload 14, 2) := by decide +kernel
theorem dX6_copy_223 : decode cX6_copy 223 = .ok (.invokevirtual 62, 3) := by decide +kernel
theorem dX6_copy_226 : decode cX6_copy 226 = .ok (.aaload, 1) := by decide +kernel
theorem dX6_copy_227 : decode cX6_copy 227 = .ok (.lload 14, 2) := by decide +kernel
theorem dX6_copy_229 : decode cX6_copy 229 = .ok (.ldc2_w 65, 3) := by decide +kernel
theorem dX6_copy_232 : decode cX6_copy 232 = .ok (.land, 1) := by decide +kernel
theorem dX6_copy_233 : decode cX6_copy 233 = .ok (.l2i, 1) := by decide +kernel
theorem dX6_copy_234 : decode cX6_copy 234 = .ok (.iload 21, 2) := by decide +kernel
theorem dX6_copy_236 : decode cX6_copy 236 = .ok (.isub, 1) := by decide +kernel
theorem dX6_copy_237 : decode cX6_copy 237 = .ok (.iload 20, 2) := by decide +kernel
theorem dX6_copy_239 : decode cX6_copy 239 = .ok (.invokestatic 100, 3) := by decide +kernel
theorem dX6_copy_242 : decode cX6_copy 242 = .ok (.lload 8, 2) := by decide +kernel
theorem dX6_copy_244 : decode cX6_copy 244 = .ok (.iload 20, 2) := by decide +kernel
theorem dX6_copy_246 : decode cX6_copy 246 = .ok (.i2l, 1) := by decide +kernel
theorem dX6_copy_247 : decode cX6_copy 247 = .ok (.ladd, 1) := by decide +kernel
theorem dX6_copy_248 : decode cX6_copy 248 = .ok (.lstore 8, 2) := by decide +kernel
theorem dX6_copy_250 : decode cX6_copy 250 = .ok (.iinc 10 1, 3) := by decide +kernel
theorem dX6_copy_253 : decode cX6_copy 253 = .ok (.goto (-247), 3) := by decide +kernel
theorem dX6_copy_256 : decode cX6_copy 256 = .ok (.return_, 1) := by decide +kernel
def tX6_copy_6 (x0 : Nat) (x1 : Int32) (x2 : Int64) (x4 : Int64) (x6 : Int64) (x8 : Int64) (x10 : Int32) (h : pm_H) : Option (((Nat × Int32 × Int64 × Int64 × Int64 × Int64 × Int32 × pm_H) ⊕ (Nat × Int32 × Int64 × Int64 × Int64 × Int64 × Int32 × Int64 × Int32 × pm_H) ⊕ (Nat × Int32 × Int64 × Int64 × Int64 × Int64 × Int32 × Int64 × Int32 × Int64 × pm_H) ⊕ (Nat × Int32 × Int64 × Int64 × Int64 × Int64 × Int32 × Int64 × Int32 × Int64 × Int64 × pm_H) ⊕ (Nat × Int32 × Int64 × Int64 × Int64 × Int64 × Int32 × Int64 × Int32 × Int64 × Int64 × Int32 × pm_H) ⊕ (Nat × Int32 × Int64 × Int64 × Int64 × Int64 × Int32 × Int64 × Int32 × Int64 × Int64 × Int32 × Int32 × pm_H)) ⊕ pm_H) := if 32 ≤ x10 then (some (.inr (h))) else (if x6 ≤ x8 then (some (.inr (h))) else (pm_let (x6 - x8) fun y3 => if x2 ≤ x4 then (some (.inl (.inr (.inl ((x0, x1, x2, x4, x6, x8, x10, y3, 0, h)))))) else (some (.inl (.inr (.inl ((x0, x1, x2, x4, x6, x8, x10, y3, 1, h))))))))
def tX6_copy_40 (x0 : Nat) (x1 : Int32) (x2 : Int64) (x4 : Int64) (x6 : Int64) (x8 : Int64) (x10 : Int32) (x11 : Int64) (s0 : Int32) (h : pm_H) : Option (((Nat × Int32 × Int64 × Int64 × Int64 × Int64 × Int32 × pm_H) ⊕ (Nat × Int32 × Int64 × Int64 × Int64 × Int64 × Int32 × Int64 × Int32 × pm_H) ⊕ (Nat × Int32 × Int64 × Int64 × Int64 × Int64 × Int32 × Int64 × Int32 × Int64 × pm_H) ⊕ (Nat × Int32 × Int64 × Int64 × Int64 × Int64 × Int32 × Int64 × Int32 × Int64 × Int64 × pm_H) ⊕ (Nat × Int32 × Int64 × Int64 × Int64 × Int64 × Int32 × Int64 × Int32 × Int64 × Int64 × Int32 × pm_H) ⊕ (Nat × Int32 × Int64 × Int64 × Int64 × Int64 × Int32 × Int64 × Int32 × Int64 × Int64 × Int32 × Int32 × pm_H)) ⊕ pm_H) := if s0 = 0 then (some (.inl (.inr (.inr (.inl ((x0, x1, x2, x4, x6, x8, x10, x11, s0, x2 + x8, h))))))) else (some (.inl (.inr (.inr (.inl ((x0, x1, x2, x4, x6, x8, x10, x11, s0, (x2 + x11) - 1, h)))))))
def tX6_copy_60 (x0 : Nat) (x1 : Int32) (x2 : Int64) (x4 : Int64) (x6 : Int64) (x8 : Int64) (x10 : Int32) (x11 : Int64) (x13 : Int32) (s0 : Int64) (h : pm_H) : Option (((Nat × Int32 × Int64 × Int64 × Int64 × Int64 × Int32 × pm_H) ⊕ (Nat × Int32 × Int64 × Int64 × Int64 × Int64 × Int32 × Int64 × Int32 × pm_H) ⊕ (Nat × Int32 × Int64 × Int64 × Int64 × Int64 × Int32 × Int64 × Int32 × Int64 × pm_H) ⊕ (Nat × Int32 × Int64 × Int64 × Int64 × Int64 × Int32 × Int64 × Int32 × Int64 × Int64 × pm_H) ⊕ (Nat × Int32 × Int64 × Int64 × Int64 × Int64 × Int32 × Int64 × Int32 × Int64 × Int64 × Int32 × pm_H) ⊕ (Nat × Int32 × Int64 × Int64 × Int64 × Int64 × Int32 × Int64 × Int32 × Int64 × Int64 × Int32 × Int32 × pm_H)) ⊕ pm_H) := if x13 = 0 then (some (.inl (.inr (.inr (.inr (.inl ((x0, x1, x2, x4, x6, x8, x10, x11, x13, s0, x4 + x8, h)))))))) else (some (.inl (.inr (.inr (.inr (.inl ((x0, x1, x2, x4, x6, x8, x10, x11, x13, s0, (x4 + x11) - 1, h))))))))
def tX6_copy_82 (x0 : Nat) (x1 : Int32) (x2 : Int64) (x4 : Int64) (x6 : Int64) (x8 : Int64) (x10 : Int32) (x11 : Int64) (x13 : Int32) (x14 : Int64) (s0 : Int64) (h : pm_H) : Option (((Nat × Int32 × Int64 × Int64 × Int64 × Int64 × Int32 × pm_H) ⊕ (Nat × Int32 × Int64 × Int64 × Int64 × Int64 × Int32 × Int64 × Int32 × pm_H) ⊕ (Nat × Int32 × Int64 × Int64 × Int64 × Int64 × Int32 × Int64 × Int32 × Int64 × pm_H) ⊕ (Nat × Int32 × Int64 × Int64 × Int64 × Int64 × Int32 × Int64 × Int32 × Int64 × Int64 × pm_H) ⊕ (Nat × Int32 × Int64 × Int64 × Int64 × Int64 × Int32 × Int64 × Int32 × Int64 × Int64 × Int32 × pm_H) ⊕ (Nat × Int32 × Int64 × Int64 × Int64 × Int64 × Int32 × Int64 × Int32 × Int64 × Int64 × Int32 × Int32 × pm_H)) ⊕ pm_H) := if x13 = 0 then (if pm_kd h x0 = 6 then (fX6_leftOfPage h x0 x1 x14).bind fun v10 => some (.inl (.inr (.inr (.inr (.inr (.inl ((x0, x1, x2, x4, x6, x8, x10, x11, x13, x14, s0, v10, h)))))))) else none) else (some (.inl (.inr (.inr (.inr (.inr (.inl ((x0, x1, x2, x4, x6, x8, x10, x11, x13, x14, s0, ((x14 &&& 65535).toInt32) + 1, h)))))))))
def tX6_copy_108 (x0 : Nat) (x1 : Int32) (x2 : Int64) (x4 : Int64) (x6 : Int64) (x8 : Int64) (x10 : Int32) (x11 : Int64) (x13 : Int32) (x14 : Int64) (x16 : Int64) (s0 : Int32) (h : pm_H) : Option (((Nat × Int32 × Int64 × Int64 × Int64 × Int64 × Int32 × pm_H) ⊕ (Nat × Int32 × Int64 × Int64 × Int64 × Int64 × Int32 × Int64 × Int32 × pm_H) ⊕ (Nat × Int32 × Int64 × Int64 × Int64 × Int64 × Int32 × Int64 × Int32 × Int64 × pm_H) ⊕ (Nat × Int32 × Int64 × Int64 × Int64 × Int64 × Int32 × Int64 × Int32 × Int64 × Int64 × pm_H) ⊕ (Nat × Int32 × Int64 × Int64 × Int64 × Int64 × Int32 × Int64 × Int32 × Int64 × Int64 × Int32 × pm_H) ⊕ (Nat × Int32 × Int64 × Int64 × Int64 × Int64 × Int32 × Int64 × Int32 × Int64 × Int64 × Int32 × Int32 × pm_H)) ⊕ pm_H) := if x13 = 0 then (if pm_kd h x0 = 6 then (fX6_leftOfPage h x0 x1 x16).bind fun v14 => some (.inl (.inr (.inr (.inr (.inr (.inr ((x0, x1, x2, x4, x6, x8, x10, x11, x13, x14, x16, s0, v14, h)))))))) else none) else (some (.inl (.inr (.inr (.inr (.inr (.inr ((x0, x1, x2, x4, x6, x8, x10, x11, x13, x14, x16, s0, ((x16 &&& 65535).toInt32) + 1, h)))))))))
def tX6_copy_134 (x0 : Nat) (x1 : Int32) (x2 : Int64) (x4 : Int64) (x6 : Int64) (x8 : Int64) (x10 : Int32) (x11 : Int64) (x13 : Int32) (x14 : Int64) (x16 : Int64) (x18 : Int32) (s0 : Int32) (h : pm_H) : Option (((Nat × Int32 × Int64 × Int64 × Int64 × Int64 × Int32 × pm_H) ⊕ (Nat × Int32 × Int64 × Int64 × Int64 × Int64 × Int32 × Int64 × Int32 × pm_H) ⊕ (Nat × Int32 × Int64 × Int64 × Int64 × Int64 × Int32 × Int64 × Int32 × Int64 × pm_H) ⊕ (Nat × Int32 × Int64 × Int64 × Int64 × Int64 × Int32 × Int64 × Int32 × Int64 × Int64 × pm_H) ⊕ (Nat × Int32 × Int64 × Int64 × Int64 × Int64 × Int32 × Int64 × Int32 × Int64 × Int64 × Int32 × pm_H) ⊕ (Nat × Int32 × Int64 × Int64 × Int64 × Int64 × Int32 × Int64 × Int32 × Int64 × Int64 × Int32 × Int32 × pm_H)) ⊕ pm_H) := pm_let (((if s0 < x18 then s0 else x18)).toInt64) fun y16 => pm_let (((if y16 < x11 then y16 else x11)).toInt32) fun y18 => if y18 ≤ 0 then (some (.inr (h))) else (if pm_kd h x0 = 6 then (fX6_leftOfPage h x0 x1 x14).bind fun v22 => if v22 = 0 then (some (.inr (h))) else ((fX6_leftOfPage h x0 x1 x16).bind fun v25 => if v25 = 0 then (some (.inr (h))) else (if x13 = 0 then ((pm_R h x0 4).bind fun v29 => (fX6_pageOf h x0 x1 x16).bind fun v31 => if pm_kd h v29 = 37 then if pm_in v31 (pm_ln h v29) then (pm_R h v29 v31.toNatClampNeg).bind fun v35 => (fX6_pageOf h x0 x1 x14).bind fun v37 => if pm_in v37 (pm_ln h v29) then (pm_R h v29 v37.toNatClampNeg).bind fun v40 => if pm_kd h v35 = 33 then if pm_kd h v40 = 33 then if ¬ (((x16 &&& 65535).toInt32) - 0) < 0 ∧ ¬ (((x14 &&& 65535).toInt32) - 0) < 0 ∧ ¬ y18 < 0 ∧ (((x16 &&& 65535).toInt32) - 0).toNatClampNeg + y18.toNatClampNeg ≤ pm_ln h v35 ∧ (((x14 &&& 65535).toInt32) - 0).toNatClampNeg + y18.toNatClampNeg ≤ pm_ln h v40 then if (List.range y18.toNatClampNeg).all (fun j => fits .byte (.int (pm_I h v35 ((((x16 &&& 65535).toInt32) - 0).toNatClampNeg + j)))) = true then pm_let (x8 + y18.toInt64) fun y46 => pm_let (x10 + 1) fun y48 => some (.inl (.inl ((x0, x1, x2, x4, x6, y46, y48, pm_cpI h v35 ((((x16 &&& 65535).toInt32) - 0).toNatClampNeg) v40 ((((x14 &&& 65535).toInt32) - 0).toNatClampNeg) y18.toNatClampNeg)))) else none else none else none else none else none else none else none) else (pm_let (y18 - 1) fun y50 => (pm_R h x0 4).bind fun v52 => (fX6_pageOf h x0 x1 x16).bind fun v54 => if pm_kd h v52 = 37 then if pm_in v54 (pm_ln h v52) then (pm_R h v52 v54.toNatClampNeg).bind fun v58 => (fX6_pageOf h x0 x1 x14).bind fun v60 => if pm_in v60 (pm_ln h v52) then (pm_R h v52 v60.toNatClampNeg).bind fun v63 => if pm_kd h v58 = 33 then if pm_kd h v63 = 33 then if ¬ (((x16 &&& 65535).toInt32) - y50) < 0 ∧ ¬ (((x14 &&& 65535).toInt32) - y50) < 0 ∧ ¬ y18 < 0 ∧ (((x16 &&& 65535).toInt32) - y50).toNatClampNeg + y18.toNatClampNeg ≤ pm_ln h v58 ∧ (((x14 &&& 65535).toInt32) - y50).toNatClampNeg + y18.toNatClampNeg ≤ pm_ln h v63 then if (List.range y18.toNatClampNeg).all (fun j => fits .byte (.int (pm_I h v58 ((((x16 &&& 65535).toInt32) - y50).toNatClampNeg + j)))) = true then pm_let (x8 + y18.toInt64) fun y69 => pm_let (x10 + 1) fun y71 => some (.inl (.inl ((x0, x1, x2, x4, x6, y69, y71, pm_cpI h v58 ((((x16 &&& 65535).toInt32) - y50).toNatClampNeg) v63 ((((x14 &&& 65535).toInt32) - y50).toNatClampNeg) y18.toNatClampNeg)))) else none else none else none else none else none else none else none))) else none)
def sX6_copy : ((Nat × Int32 × Int64 × Int64 × Int64 × Int64 × Int32 × pm_H) ⊕ (Nat × Int32 × Int64 × Int64 × Int64 × Int64 × Int32 × Int64 × Int32 × pm_H) ⊕ (Nat × Int32 × Int64 × Int64 × Int64 × Int64 × Int32 × Int64 × Int32 × Int64 × pm_H) ⊕ (Nat × Int32 × Int64 × Int64 × Int64 × Int64 × Int32 × Int64 × Int32 × Int64 × Int64 × pm_H) ⊕ (Nat × Int32 × Int64 × Int64 × Int64 × Int64 × Int32 × Int64 × Int32 × Int64 × Int64 × Int32 × pm_H) ⊕ (Nat × Int32 × Int64 × Int64 × Int64 × Int64 × Int32 × Int64 × Int32 × Int64 × Int64 × Int32 × Int32 × pm_H)) → Option (((Nat × Int32 × Int64 × Int64 × Int64 × Int64 × Int32 × pm_H) ⊕ (Nat × Int32 × Int64 × Int64 × Int64 × Int64 × Int32 × Int64 × Int32 × pm_H) ⊕ (Nat × Int32 × Int64 × Int64 × Int64 × Int64 × Int32 × Int64 × Int32 × Int64 × pm_H) ⊕ (Nat × Int32 × Int64 × Int64 × Int64 × Int64 × Int32 × Int64 × Int32 × Int64 × Int64 × pm_H) ⊕ (Nat × Int32 × Int64 × Int64 × Int64 × Int64 × Int32 × Int64 × Int32 × Int64 × Int64 × Int32 × pm_H) ⊕ (Nat × Int32 × Int64 × Int64 × Int64 × Int64 × Int32 × Int64 × Int32 × Int64 × Int64 × Int32 × Int32 × pm_H)) ⊕ pm_H) := fun z => match z with
  | .inl (x0, x1, x2, x4, x6, x8, x10, h) => tX6_copy_6 x0 x1 x2 x4 x6 x8 x10 h
  | .inr (.inl (x0, x1, x2, x4, x6, x8, x10, x11, s0, h)) => tX6_copy_40 x0 x1 x2 x4 x6 x8 x10 x11 s0 h
  | .inr (.inr (.inl (x0, x1, x2, x4, x6, x8, x10, x11, x13, s0, h))) => tX6_copy_60 x0 x1 x2 x4 x6 x8 x10 x11 x13 s0 h
  | .inr (.inr (.inr (.inl (x0, x1, x2, x4, x6, x8, x10, x11, x13, x14, s0, h)))) => tX6_copy_82 x0 x1 x2 x4 x6 x8 x10 x11 x13 x14 s0 h
  | .inr (.inr (.inr (.inr (.inl (x0, x1, x2, x4, x6, x8, x10, x11, x13, x14, x16, s0, h))))) => tX6_copy_108 x0 x1 x2 x4 x6 x8 x10 x11 x13 x14 x16 s0 h
  | .inr (.inr (.inr (.inr (.inr (x0, x1, x2, x4, x6, x8, x10, x11, x13, x14, x16, x18, s0, h))))) => tX6_copy_134 x0 x1 x2 x4 x6 x8 x10 x11 x13 x14 x16 x18 s0 h
noncomputable def fX6_copy (h : pm_H) (a0 : Nat) (p1 : Int32) (p2 : Int64) (p3 : Int64) (p4 : Int64) : Option pm_H := pm_lim sX6_copy (.inl ((a0, p1, p2, p3, p4, 0, 0, h)))
set_option maxHeartbeats 4000000 in
set_option maxRecDepth 100000 in
theorem lpX6_copy {g : pm_Gm} {l : Launch} {G : pm_Gl} {Qr : Option Value → pm_H → Prop} (C : pm_C g cX6_copy RX6) (X : pm_X g l G mX6_copy 0 0 Qr) {r : pm_H} (q : Qr none r) : ∀ n : Nat, (∀ (x0 : Nat) (x1 : Int32) (x2 : Int64) (x4 : Int64) (x6 : Int64) (x8 : Int64) (x10 : Int32) (h : pm_H), pm_iter sX6_copy n (.inl (x0, x1, x2, x4, x6, x8, x10, h)) = some r → pm_G g 6 [(0, .ref x0), (1, .int x1), (2, .long x2), (4, .long x4), (6, .long x6), (8, .long x8), (10, .int x10)] [] h 0 0) ∧ (∀ (x0 : Nat) (x1 : Int32) (x2 : Int64) (x4 : Int64) (x6 : Int64) (x8 : Int64) (x10 : Int32) (x11 : Int64) (s0 : Int32) (h : pm_H), pm_iter sX6_copy n (.inr (.inl (x0, x1, x2, x4, x6, x8, x10, x11, s0, h))) = some r → pm_G g 40 [(0, .ref x0), (1, .int x1), (2, .long x2), (4, .long x4), (6, .long x6), (8, .long x8), (10, .int x10), (11, .long x11)] [.int s0] h 0 0) ∧ (∀ (x0 : Nat) (x1 : Int32) (x2 : Int64) (x4 : Int64) (x6 : Int64) (x8 : Int64) (x10 : Int32) (x11 : Int64) (x13 : Int32) (s0 : Int64) (h : pm_H), pm_iter sX6_copy n (.inr (.inr (.inl (x0, x1, x2, x4, x6, x8, x10, x11, x13, s0, h)))) = some r → pm_G g 60 [(0, .ref x0), (1, .int x1), (2, .long x2), (4, .long x4), (6, .long x6), (8, .long x8), (10, .int x10), (11, .long x11), (13, .int x13)] [.long s0] h 0 0) ∧ (∀ (x0 : Nat) (x1 : Int32) (x2 : Int64) (x4 : Int64) (x6 : Int64) (x8 : Int64) (x10 : Int32) (x11 : Int64) (x13 : Int32) (x14 : Int64) (s0 : Int64) (h : pm_H), pm_iter sX6_copy n (.inr (.inr (.inr (.inl (x0, x1, x2, x4, x6, x8, x10, x11, x13, x14, s0, h))))) = some r → pm_G g 82 [(0, .ref x0), (1, .int x1), (2, .long x2), (4, .long x4), (6, .long x6), (8, .long x8), (10, .int x10), (11, .long x11), (13, .int x13), (14, .long x14)] [.long s0] h 0 0) ∧ (∀ (x0 : Nat) (x1 : Int32) (x2 : Int64) (x4 : Int64) (x6 : Int64) (x8 : Int64) (x10 : Int32) (x11 : Int64) (x13 : Int32) (x14 : Int64) (x16 : Int64) (s0 : Int32) (h : pm_H), pm_iter sX6_copy n (.inr (.inr (.inr (.inr (.inl (x0, x1, x2, x4, x6, x8, x10, x11, x13, x14, x16, s0, h)))))) = some r → pm_G g 108 [(0, .ref x0), (1, .int x1), (2, .long x2), (4, .long x4), (6, .long x6), (8, .long x8), (10, .int x10), (11, .long x11), (13, .int x13), (14, .long x14), (16, .long x16)] [.int s0] h 0 0) ∧ (∀ (x0 : Nat) (x1 : Int32) (x2 : Int64) (x4 : Int64) (x6 : Int64) (x8 : Int64) (x10 : Int32) (x11 : Int64) (x13 : Int32) (x14 : Int64) (x16 : Int64) (x18 : Int32) (s0 : Int32) (h : pm_H), pm_iter sX6_copy n (.inr (.inr (.inr (.inr (.inr (x0, x1, x2, x4, x6, x8, x10, x11, x13, x14, x16, x18, s0, h)))))) = some r → pm_G g 134 [(0, .ref x0), (1, .int x1), (2, .long x2), (4, .long x4), (6, .long x6), (8, .long x8), (10, .int x10), (11, .long x11), (13, .int x13), (14, .long x14), (16, .long x16), (18, .int x18)] [.int s0] h 0 0) := by
  intro n
  induction n with
  | zero => exact ⟨fun _ _ _ _ _ _ _ _ hf => (by cases hf), fun _ _ _ _ _ _ _ _ _ _ hf => (by cases hf), fun _ _ _ _ _ _ _ _ _ _ _ hf => (by cases hf), fun _ _ _ _ _ _ _ _ _ _ _ _ hf => (by cases hf), fun _ _ _ _ _ _ _ _ _ _ _ _ _ hf => (by cases hf), fun _ _ _ _ _ _ _ _ _ _ _ _ _ _ hf => (by cases hf)⟩
  | succ n ih =>
    refine ⟨fun x0 x1 x2 x4 x6 x8 x10 h hf => ?_, ?_⟩
    · obtain ⟨y, hf, hi⟩ := pm_iter_s hf
      have hf : tX6_copy_6 x0 x1 x2 x4 x6 x8 x10 h = some y := hf
      unfold tX6_copy_6 at hf
      refine pm_iload C dX6_copy_6 rfl ?_
      refine pm_bipush (v := 32) C dX6_copy_8 (by decide) ?_
      refine pm_icmp_ge (tgt := 256) C dX6_copy_10 (by decide) (fun c1 => ?_) (fun c1 => ?_)
      · have hf := pm_it hf c1
        cases hf
        cases hi
        exact pm_vret C X dX6_copy_256 rfl (Nat.le_refl _) (Nat.le_refl _) q
      · have hf := pm_ie hf c1
        refine pm_lload C dX6_copy_13 rfl ?_
        refine pm_lload C dX6_copy_15 rfl ?_
        refine pm_lcmp C dX6_copy_17 ?_
        refine pm_if_ge (tgt := 256) C dX6_copy_18 (by decide) (fun c2 => ?_) (fun c2 => ?_)
        · have hf := pm_it hf ((pm_lg_ge _ _).mp c2)
          cases hf
          cases hi
          exact pm_vret C X dX6_copy_256 rfl (Nat.le_refl _) (Nat.le_refl _) q
        · have hf := pm_ie hf ((fun z => c2 ((pm_lg_ge _ _).mpr z)))
          refine pm_lload C dX6_copy_21 rfl ?_
          refine pm_lload C dX6_copy_23 rfl ?_
          refine pm_lsub C dX6_copy_25 ?_
          obtain ⟨y3, e4, hf⟩ := pm_lt hf
          refine pm_topL e4 ?_
          refine pm_lstore (lv' := [(11, .long y3), (0, .ref x0), (1, .int x1), (2, .long x2), (4, .long x4), (6, .long x6), (8, .long x8), (10, .int x10)]) C dX6_copy_26 (pm_nl X (by decide)) rfl ?_
          refine pm_lload_n C dX6_copy_28 rfl rfl ?_
          refine pm_lload C dX6_copy_29 rfl ?_
          refine pm_lcmp C dX6_copy_31 ?_
          refine pm_if_le (tgt := 39) C dX6_copy_32 (by decide) (fun c5 => ?_) (fun c5 => ?_)
          · have hf := pm_it hf ((pm_lg_le _ _).mp c5)
            refine pm_iconst (v := 0) C dX6_copy_39 (by decide) ?_
            cases hf
            exact pm_sub [1, 2, 3, 4, 5, 6, 7, 0] rfl (ih.2.1 x0 x1 x2 x4 x6 x8 x10 y3 0 h hi)
          · have hf := pm_ie hf ((fun z => c5 ((pm_lg_le _ _).mpr z)))
            refine pm_iconst (v := 1) C dX6_copy_35 (by decide) ?_
            refine pm_goto (tgt := 40) C dX6_copy_36 (by decide) ?_
            cases hf
            exact pm_sub [1, 2, 3, 4, 5, 6, 7, 0] rfl (ih.2.1 x0 x1 x2 x4 x6 x8 x10 y3 1 h hi)
    refine ⟨fun x0 x1 x2 x4 x6 x8 x10 x11 s0 h hf => ?_, ?_⟩
    · obtain ⟨y, hf, hi⟩ := pm_iter_s hf
      have hf : tX6_copy_40 x0 x1 x2 x4 x6 x8 x10 x11 s0 h = some y := hf
      unfold tX6_copy_40 at hf
      refine pm_istore (lv' := [(13, .int s0), (0, .ref x0), (1, .int x1), (2, .long x2), (4, .long x4), (6, .long x6), (8, .long x8), (10, .int x10), (11, .long x11)]) C dX6_copy_40 (pm_nl X (by decide)) rfl ?_
      refine pm_iload C dX6_copy_42 rfl ?_
      refine pm_if_eq (tgt := 56) C dX6_copy_44 (by decide) (fun c6 => ?_) (fun c6 => ?_)
      · have hf := pm_it hf c6
        refine pm_lload_n C dX6_copy_56 rfl rfl ?_
        refine pm_lload C dX6_copy_57 rfl ?_
        refine pm_ladd C dX6_copy_59 ?_
        cases hf
        exact pm_sub [1, 2, 3, 4, 5, 6, 7, 8, 0] rfl (ih.2.2.1 x0 x1 x2 x4 x6 x8 x10 x11 s0 (x2 + x8) h hi)
      · have hf := pm_ie hf c6
        refine pm_lload_n C dX6_copy_47 rfl rfl ?_
        refine pm_lload C dX6_copy_48 rfl ?_
        refine pm_ladd C dX6_copy_50 ?_
        refine pm_lconst (v := 1) C dX6_copy_51 (by decide) ?_
        refine pm_lsub C dX6_copy_52 ?_
        refine pm_goto (tgt := 60) C dX6_copy_53 (by decide) ?_
        cases hf
        exact pm_sub [1, 2, 3, 4, 5, 6, 7, 8, 0] rfl (ih.2.2.1 x0 x1 x2 x4 x6 x8 x10 x11 s0 ((x2 + x11) - 1) h hi)
    refine ⟨fun x0 x1 x2 x4 x6 x8 x10 x11 x13 s0 h hf => ?_, ?_⟩
    · obtain ⟨y, hf, hi⟩ := pm_iter_s hf
      have hf : tX6_copy_60 x0 x1 x2 x4 x6 x8 x10 x11 x13 s0 h = some y := hf
      unfold tX6_copy_60 at hf
      refine pm_lstore (lv' := [(14, .long s0), (0, .ref x0), (1, .int x1), (2, .long x2), (4, .long x4), (6, .long x6), (8, .long x8), (10, .int x10), (11, .long x11), (13, .int x13)]) C dX6_copy_60 (pm_nl X (by decide)) rfl ?_
      refine pm_iload C dX6_copy_62 rfl ?_
      refine pm_if_eq (tgt := 77) C dX6_copy_64 (by decide) (fun c7 => ?_) (fun c7 => ?_)
      · have hf := pm_it hf c7
        refine pm_lload C dX6_copy_77 rfl ?_
        refine pm_lload C dX6_copy_79 rfl ?_
        refine pm_ladd C dX6_copy_81 ?_
        cases hf
        exact pm_sub [1, 2, 3, 4, 5, 6, 7, 8, 9, 0] rfl (ih.2.2.2.1 x0 x1 x2 x4 x6 x8 x10 x11 x13 s0 (x4 + x8) h hi)
      · have hf := pm_ie hf c7
        refine pm_lload C dX6_copy_67 rfl ?_
        refine pm_lload C dX6_copy_69 rfl ?_
        refine pm_ladd C dX6_copy_71 ?_
        refine pm_lconst (v := 1) C dX6_copy_72 (by decide) ?_
        refine pm_lsub C dX6_copy_73 ?_
        refine pm_goto (tgt := 82) C dX6_copy_74 (by decide) ?_
        cases hf
        exact pm_sub [1, 2, 3, 4, 5, 6, 7, 8, 9, 0] rfl (ih.2.2.2.1 x0 x1 x2 x4 x6 x8 x10 x11 x13 s0 ((x4 + x11) - 1) h hi)
    refine ⟨fun x0 x1 x2 x4 x6 x8 x10 x11 x13 x14 s0 h hf => ?_, ?_⟩
    · obtain ⟨y, hf, hi⟩ := pm_iter_s hf
      have hf : tX6_copy_82 x0 x1 x2 x4 x6 x8 x10 x11 x13 x14 s0 h = some y := hf
      unfold tX6_copy_82 at hf
      refine pm_lstore (lv' := [(16, .long s0), (0, .ref x0), (1, .int x1), (2, .long x2), (4, .long x4), (6, .long x6), (8, .long x8), (10, .int x10), (11, .long x11), (13, .int x13), (14, .long x14)]) C dX6_copy_82 (pm_nl X (by decide)) rfl ?_
      refine pm_iload C dX6_copy_84 rfl ?_
      refine pm_if_eq (tgt := 101) C dX6_copy_86 (by decide) (fun c8 => ?_) (fun c8 => ?_)
      · have hf := pm_it hf c8
        refine pm_aload_n C dX6_copy_101 rfl rfl ?_
        refine pm_iload_n C dX6_copy_102 rfl rfl ?_
        refine pm_lload C dX6_copy_103 rfl ?_
        obtain ⟨k9, hf⟩ := pm_if hf
        obtain ⟨v10, e11, hf⟩ := pm_bd hf
        refine pm_callV (as := [.int x1, .long x14]) (st := []) C X dX6_copy_105 lnX6_82 myX6_leftOfPage viX6_leftOfPage ⟨by decide, by decide⟩ rfl rfl k9 (Nat.le_of_ble_eq_true rfl) (Nat.le_refl _) (Nat.le_refl _) (ctX6_leftOfPage e11 ?_)
        show pm_G g 108 [(16, .long s0), (0, .ref x0), (1, .int x1), (2, .long x2), (4, .long x4), (6, .long x6), (8, .long x8), (10, .int x10), (11, .long x11), (13, .int x13), (14, .long x14)] [.int v10] h 0 0
        cases hf
        exact pm_sub [1, 2, 3, 4, 5, 6, 7, 8, 9, 10, 0] rfl (ih.2.2.2.2.1 x0 x1 x2 x4 x6 x8 x10 x11 x13 x14 s0 v10 h hi)
      · have hf := pm_ie hf c8
        refine pm_lload C dX6_copy_89 rfl ?_
        refine pm_ldc2 C dX6_copy_91 cnX6_65 ?_
        refine pm_land C dX6_copy_94 ?_
        refine pm_l2i C dX6_copy_95 ?_
        refine pm_iconst (v := 1) C dX6_copy_96 (by decide) ?_
        refine pm_iadd C dX6_copy_97 ?_
        refine pm_goto (tgt := 108) C dX6_copy_98 (by decide) ?_
        cases hf
        exact pm_sub [1, 2, 3, 4, 5, 6, 7, 8, 9, 10, 0] rfl (ih.2.2.2.2.1 x0 x1 x2 x4 x6 x8 x10 x11 x13 x14 s0 (((x14 &&& 65535).toInt32) + 1) h hi)
    refine ⟨fun x0 x1 x2 x4 x6 x8 x10 x11 x13 x14 x16 s0 h hf => ?_, ?_⟩
    · obtain ⟨y, hf, hi⟩ := pm_iter_s hf
      have hf : tX6_copy_108 x0 x1 x2 x4 x6 x8 x10 x11 x13 x14 x16 s0 h = some y := hf
      unfold tX6_copy_108 at hf
      refine pm_istore (lv' := [(18, .int s0), (0, .ref x0), (1, .int x1), (2, .long x2), (4, .long x4), (6, .long x6), (8, .long x8), (10, .int x10), (11, .long x11), (13, .int x13), (14, .long x14), (16, .long x16)]) C dX6_copy_108 (pm_nl X (by decide)) rfl ?_
      refine pm_iload C dX6_copy_110 rfl ?_
      refine pm_if_eq (tgt := 127) C dX6_copy_112 (by decide) (fun c12 => ?_) (fun c12 => ?_)
      · have hf := pm_it hf c12
        refine pm_aload_n C dX6_copy_127 rfl rfl ?_
        refine pm_iload_n C dX6_copy_128 rfl rfl ?_
        refine pm_lload C dX6_copy_129 rfl ?_
        obtain ⟨k13, hf⟩ := pm_if hf
        obtain ⟨v14, e15, hf⟩ := pm_bd hf
        refine pm_callV (as := [.int x1, .long x16]) (st := []) C X dX6_copy_131 lnX6_82 myX6_leftOfPage viX6_leftOfPage ⟨by decide, by decide⟩ rfl rfl k13 (Nat.le_of_ble_eq_true rfl) (Nat.le_refl _) (Nat.le_refl _) (ctX6_leftOfPage e15 ?_)
        show pm_G g 134 [(18, .int s0), (0, .ref x0), (1, .int x1), (2, .long x2), (4, .long x4), (6, .long x6), (8, .long x8), (10, .int x10), (11, .long x11), (13, .int x13), (14, .long x14), (16, .long x16)] [.int v14] h 0 0
        cases hf
        exact pm_sub [1, 2, 3, 4, 5, 6, 7, 8, 9, 10, 11, 0] rfl (ih.2.2.2.2.2 x0 x1 x2 x4 x6 x8 x10 x11 x13 x14 x16 s0 v14 h hi)
      · have hf := pm_ie hf c12
        refine pm_lload C dX6_copy_115 rfl ?_
        refine pm_ldc2 C dX6_copy_117 cnX6_65 ?_
        refine pm_land C dX6_copy_120 ?_
        refine pm_l2i C dX6_copy_121 ?_
        refine pm_iconst (v := 1) C dX6_copy_122 (by decide) ?_
        refine pm_iadd C dX6_copy_123 ?_
        refine pm_goto (tgt := 134) C dX6_copy_124 (by decide) ?_
        cases hf
        exact pm_sub [1, 2, 3, 4, 5, 6, 7, 8, 9, 10, 11, 0] rfl (ih.2.2.2.2.2 x0 x1 x2 x4 x6 x8 x10 x11 x13 x14 x16 s0 (((x16 &&& 65535).toInt32) + 1) h hi)
    refine fun x0 x1 x2 x4 x6 x8 x10 x11 x13 x14 x16 x18 s0 h hf => ?_
    obtain ⟨y, hf, hi⟩ := pm_iter_s hf
    have hf : tX6_copy_134 x0 x1 x2 x4 x6 x8 x10 x11 x13 x14 x16 x18 s0 h = some y := hf
    unfold tX6_copy_134 at hf
    refine pm_istore (lv' := [(19, .int s0), (0, .ref x0), (1, .int x1), (2, .long x2), (4, .long x4), (6, .long x6), (8, .long x8), (10, .int x10), (11, .long x11), (13, .int x13), (14, .long x14), (16, .long x16), (18, .int x18)]) C dX6_copy_134 (pm_nl X (by decide)) rfl ?_
    refine pm_lload C dX6_copy_136 rfl ?_
    refine pm_iload C dX6_copy_138 rfl ?_
    refine pm_iload C dX6_copy_140 rfl ?_
    refine pm_mminI C (pm_XR X) dX6_copy_142 mtX6_97 (by decide) (by decide) (Nat.le_of_ble_eq_true rfl) (Nat.zero_le _) (Nat.zero_le _) ?_
    refine pm_i2l C dX6_copy_145 ?_
    obtain ⟨y16, e17, hf⟩ := pm_lt hf
    refine pm_topL e17 ?_
    refine pm_mminJ C (pm_XR X) dX6_copy_146 mtX6_85 (by decide) (by decide) (Nat.le_of_ble_eq_true rfl) (Nat.zero_le _) (Nat.zero_le _) ?_
    refine pm_l2i C dX6_copy_149 ?_
    obtain ⟨y18, e19, hf⟩ := pm_lt hf
    refine pm_topI e19 ?_
    refine pm_istore (lv' := [(20, .int y18), (19, .int s0), (0, .ref x0), (1, .int x1), (2, .long x2), (4, .long x4), (6, .long x6), (8, .long x8), (10, .int x10), (11, .long x11), (13, .int x13), (14, .long x14), (16, .long x16), (18, .int x18)]) C dX6_copy_150 (pm_nl X (by decide)) rfl ?_
    refine pm_iload C dX6_copy_152 rfl ?_
    refine pm_if_le (tgt := 177) C dX6_copy_154 (by decide) (fun c20 => ?_) (fun c20 => ?_)
    · have hf := pm_it hf c20
      cases hf
      cases hi
      exact pm_vret C X dX6_copy_177 rfl (Nat.le_refl _) (Nat.le_refl _) q
    · have hf := pm_ie hf c20
      refine pm_aload_n C dX6_copy_157 rfl rfl ?_
      refine pm_iload_n C dX6_copy_158 rfl rfl ?_
      refine pm_lload C dX6_copy_159 rfl ?_
      obtain ⟨k21, hf⟩ := pm_if hf
      obtain ⟨v22, e23, hf⟩ := pm_bd hf
      refine pm_callV (as := [.int x1, .long x14]) (st := []) C X dX6_copy_161 lnX6_82 myX6_leftOfPage viX6_leftOfPage ⟨by decide, by decide⟩ rfl rfl k21 (Nat.le_of_ble_eq_true rfl) (Nat.le_refl _) (Nat.le_refl _) (ctX6_leftOfPage e23 ?_)
      show pm_G g 164 [(20, .int y18), (19, .int s0), (0, .ref x0), (1, .int x1), (2, .long x2), (4, .long x4), (6, .long x6), (8, .long x8), (10, .int x10), (11, .long x11), (13, .int x13), (14, .long x14), (16, .long x16), (18, .int x18)] [.int v22] h 0 0
      refine pm_if_eq (tgt := 177) C dX6_copy_164 (by decide) (fun c24 => ?_) (fun c24 => ?_)
      · have hf := pm_it hf c24
        cases hf
        cases hi
        exact pm_vret C X dX6_copy_177 rfl (Nat.le_refl _) (Nat.le_refl _) q
      · have hf := pm_ie hf c24
        refine pm_aload_n C dX6_copy_167 rfl rfl ?_
        refine pm_iload_n C dX6_copy_168 rfl rfl ?_
        refine pm_lload C dX6_copy_169 rfl ?_
        obtain ⟨v25, e26, hf⟩ := pm_bd hf
        refine pm_callV (as := [.int x1, .long x16]) (st := []) C X dX6_copy_171 lnX6_82 myX6_leftOfPage viX6_leftOfPage ⟨by decide, by decide⟩ rfl rfl k21 (Nat.le_of_ble_eq_true rfl) (Nat.le_refl _) (Nat.le_refl _) (ctX6_leftOfPage e26 ?_)
        show pm_G g 174 [(20, .int y18), (19, .int s0), (0, .ref x0), (1, .int x1), (2, .long x2), (4, .long x4), (6, .long x6), (8, .long x8), (10, .int x10), (11, .long x11), (13, .int x13), (14, .long x14), (16, .long x16), (18, .int x18)] [.int v25] h 0 0
        refine pm_if_ne (tgt := 178) C dX6_copy_174 (by decide) (fun c27 => ?_) (fun c27 => ?_)
        · have hf := pm_ie hf c27
          refine pm_iload C dX6_copy_178 rfl ?_
          refine pm_if_eq (tgt := 190) C dX6_copy_180 (by decide) (fun c28 => ?_) (fun c28 => ?_)
          · have hf := pm_it hf c28
            refine pm_iconst (v := 0) C dX6_copy_190 (by decide) ?_
            refine pm_istore (lv' := [(21, .int 0), (20, .int y18), (19, .int s0), (0, .ref x0), (1, .int x1), (2, .long x2), (4, .long x4), (6, .long x6), (8, .long x8), (10, .int x10), (11, .long x11), (13, .int x13), (14, .long x14), (16, .long x16), (18, .int x18)]) C dX6_copy_191 (pm_nl X (by decide)) rfl ?_
            refine pm_aload_n C dX6_copy_193 rfl rfl ?_
            obtain ⟨v29, e30, hf⟩ := pm_bd hf
            refine pm_getR C dX6_copy_194 flX6_25 rfl k21 e30 ?_
            refine pm_aload_n C dX6_copy_197 rfl rfl ?_
            refine pm_iload_n C dX6_copy_198 rfl rfl ?_
            refine pm_lload C dX6_copy_199 rfl ?_
            obtain ⟨v31, e32, hf⟩ := pm_bd hf
            refine pm_callV (as := [.int x1, .long x16]) (st := [.ref v29]) C X dX6_copy_201 lnX6_62 myX6_pageOf viX6_pageOf ⟨by decide, by decide⟩ rfl rfl k21 (Nat.le_of_ble_eq_true rfl) (Nat.le_refl _) (Nat.le_refl _) (ctX6_pageOf e32 ?_)
            show pm_G g 204 [(21, .int 0), (20, .int y18), (19, .int s0), (0, .ref x0), (1, .int x1), (2, .long x2), (4, .long x4), (6, .long x6), (8, .long x8), (10, .int x10), (11, .long x11), (13, .int x13), (14, .long x14), (16, .long x16), (18, .int x18)] [.int v31, .ref v29] h 0 0
            obtain ⟨k33, hf⟩ := pm_if hf
            obtain ⟨u34, hf⟩ := pm_if hf
            obtain ⟨v35, e36, hf⟩ := pm_bd hf
            refine pm_ald (t := 5) C dX6_copy_204 (by decide) rfl k33 u34 e36 ?_
            refine pm_lload C dX6_copy_205 rfl ?_
            refine pm_ldc2 C dX6_copy_207 cnX6_65 ?_
            refine pm_land C dX6_copy_210 ?_
            refine pm_l2i C dX6_copy_211 ?_
            refine pm_iload C dX6_copy_212 rfl ?_
            refine pm_isub C dX6_copy_214 ?_
            refine pm_aload_n C dX6_copy_215 rfl rfl ?_
            refine pm_getR C dX6_copy_216 flX6_25 rfl k21 e30 ?_
            refine pm_aload_n C dX6_copy_219 rfl rfl ?_
            refine pm_iload_n C dX6_copy_220 rfl rfl ?_
            refine pm_lload C dX6_copy_221 rfl ?_
            obtain ⟨v37, e38, hf⟩ := pm_bd hf
            refine pm_callV (as := [.int x1, .long x14]) (st := [.ref v29, .int (((x16 &&& 65535).toInt32) - 0), .ref v35]) C X dX6_copy_223 lnX6_62 myX6_pageOf viX6_pageOf ⟨by decide, by decide⟩ rfl rfl k21 (Nat.le_of_ble_eq_true rfl) (Nat.le_refl _) (Nat.le_refl _) (ctX6_pageOf e38 ?_)
            show pm_G g 226 [(21, .int 0), (20, .int y18), (19, .int s0), (0, .ref x0), (1, .int x1), (2, .long x2), (4, .long x4), (6, .long x6), (8, .long x8), (10, .int x10), (11, .long x11), (13, .int x13), (14, .long x14), (16, .long x16), (18, .int x18)] [.int v37, .ref v29, .int (((x16 &&& 65535).toInt32) - 0), .ref v35] h 0 0
            obtain ⟨u39, hf⟩ := pm_if hf
            obtain ⟨v40, e41, hf⟩ := pm_bd hf
            refine pm_ald (t := 5) C dX6_copy_226 (by decide) rfl k33 u39 e41 ?_
            refine pm_lload C dX6_copy_227 rfl ?_
            refine pm_ldc2 C dX6_copy_229 cnX6_65 ?_
            refine pm_land C dX6_copy_232 ?_
            refine pm_l2i C dX6_copy_233 ?_
            refine pm_iload C dX6_copy_234 rfl ?_
            refine pm_isub C dX6_copy_236 ?_
            refine pm_iload C dX6_copy_237 rfl ?_
            obtain ⟨k42, hf⟩ := pm_if hf
            obtain ⟨k43, hf⟩ := pm_if hf
            obtain ⟨u44, hf⟩ := pm_if hf
            obtain ⟨u45, hf⟩ := pm_if hf
            refine pm_copyI (t := 1) C (pm_XR X) dX6_copy_239 acX6_100 (Or.inr (Or.inl rfl)) k42 k43 u44.1 u44.2.1 u44.2.2.1 u44.2.2.2.1 u44.2.2.2.2 (fun j hj => List.all_eq_true.mp u45 j (List.mem_range.mpr hj)) (by decide) (by decide) (Nat.le_of_ble_eq_true rfl) ?_
            refine pm_lload C dX6_copy_242 rfl ?_
            refine pm_iload C dX6_copy_244 rfl ?_
            refine pm_i2l C dX6_copy_246 ?_
            refine pm_ladd C dX6_copy_247 ?_
            obtain ⟨y46, e47, hf⟩ := pm_lt hf
            refine pm_topL e47 ?_
            refine pm_lstore (lv' := [(8, .long y46), (21, .int 0), (20, .int y18), (19, .int s0), (0, .ref x0), (1, .int x1), (2, .long x2), (4, .long x4), (6, .long x6), (10, .int x10), (11, .long x11), (13, .int x13), (14, .long x14), (16, .long x16), (18, .int x18)]) C dX6_copy_248 (pm_nl X (by decide)) rfl ?_
            obtain ⟨y48, e49, hf⟩ := pm_lt hf
            refine pm_iinc (v := y48) (lv' := [(10, .int y48), (8, .long y46), (21, .int 0), (20, .int y18), (19, .int s0), (0, .ref x0), (1, .int x1), (2, .long x2), (4, .long x4), (6, .long x6), (11, .long x11), (13, .int x13), (14, .long x14), (16, .long x16), (18, .int x18)]) C dX6_copy_250 rfl ((congrArg (x10 + ·) (by decide : Int32.ofInt 1 = 1)).trans e49) (pm_nl X (by decide)) rfl ?_
            refine pm_goto (tgt := 6) C dX6_copy_253 (by decide) ?_
            cases hf
            exact pm_sub [5, 6, 7, 8, 9, 1, 0] rfl (ih.1 x0 x1 x2 x4 x6 y46 y48 (pm_cpI h v35 ((((x16 &&& 65535).toInt32) - 0).toNatClampNeg) v40 ((((x14 &&& 65535).toInt32) - 0).toNatClampNeg) y18.toNatClampNeg) hi)
          · have hf := pm_ie hf c28
            refine pm_iload C dX6_copy_183 rfl ?_
            refine pm_iconst (v := 1) C dX6_copy_185 (by decide) ?_
            refine pm_isub C dX6_copy_186 ?_
            refine pm_goto (tgt := 191) C dX6_copy_187 (by decide) ?_
            obtain ⟨y50, e51, hf⟩ := pm_lt hf
            refine pm_topI e51 ?_
            refine pm_istore (lv' := [(21, .int y50), (20, .int y18), (19, .int s0), (0, .ref x0), (1, .int x1), (2, .long x2), (4, .long x4), (6, .long x6), (8, .long x8), (10, .int x10), (11, .long x11), (13, .int x13), (14, .long x14), (16, .long x16), (18, .int x18)]) C dX6_copy_191 (pm_nl X (by decide)) rfl ?_
            refine pm_aload_n C dX6_copy_193 rfl rfl ?_
            obtain ⟨v52, e53, hf⟩ := pm_bd hf
            refine pm_getR C dX6_copy_194 flX6_25 rfl k21 e53 ?_
            refine pm_aload_n C dX6_copy_197 rfl rfl ?_
            refine pm_iload_n C dX6_copy_198 rfl rfl ?_
            refine pm_lload C dX6_copy_199 rfl ?_
            obtain ⟨v54, e55, hf⟩ := pm_bd hf
            refine pm_callV (as := [.int x1, .long x16]) (st := [.ref v52]) C X dX6_copy_201 lnX6_62 myX6_pageOf viX6_pageOf ⟨by decide, by decide⟩ rfl rfl k21 (Nat.le_of_ble_eq_true rfl) (Nat.le_refl _) (Nat.le_refl _) (ctX6_pageOf e55 ?_)
            show pm_G g 204 [(21, .int y50), (20, .int y18), (19, .int s0), (0, .ref x0), (1, .int x1), (2, .long x2), (4, .long x4), (6, .long x6), (8, .long x8), (10, .int x10), (11, .long x11), (13, .int x13), (14, .long x14), (16, .long x16), (18, .int x18)] [.int v54, .ref v52] h 0 0
            obtain ⟨k56, hf⟩ := pm_if hf
            obtain ⟨u57, hf⟩ := pm_if hf
            obtain ⟨v58, e59, hf⟩ := pm_bd hf
            refine pm_ald (t := 5) C dX6_copy_204 (by decide) rfl k56 u57 e59 ?_
            refine pm_lload C dX6_copy_205 rfl ?_
            refine pm_ldc2 C dX6_copy_207 cnX6_65 ?_
            refine pm_land C dX6_copy_210 ?_
            refine pm_l2i C dX6_copy_211 ?_
            refine pm_iload C dX6_copy_212 rfl ?_
            refine pm_isub C dX6_copy_214 ?_
            refine pm_aload_n C dX6_copy_215 rfl rfl ?_
            refine pm_getR C dX6_copy_216 flX6_25 rfl k21 e53 ?_
            refine pm_aload_n C dX6_copy_219 rfl rfl ?_
            refine pm_iload_n C dX6_copy_220 rfl rfl ?_
            refine pm_lload C dX6_copy_221 rfl ?_
            obtain ⟨v60, e61, hf⟩ := pm_bd hf
            refine pm_callV (as := [.int x1, .long x14]) (st := [.ref v52, .int (((x16 &&& 65535).toInt32) - y50), .ref v58]) C X dX6_copy_223 lnX6_62 myX6_pageOf viX6_pageOf ⟨by decide, by decide⟩ rfl rfl k21 (Nat.le_of_ble_eq_true rfl) (Nat.le_refl _) (Nat.le_refl _) (ctX6_pageOf e61 ?_)
            show pm_G g 226 [(21, .int y50), (20, .int y18), (19, .int s0), (0, .ref x0), (1, .int x1), (2, .long x2), (4, .long x4), (6, .long x6), (8, .long x8), (10, .int x10), (11, .long x11), (13, .int x13), (14, .long x14), (16, .long x16), (18, .int x18)] [.int v60, .ref v52, .int (((x16 &&& 65535).toInt32) - y50), .ref v58] h 0 0
            obtain ⟨u62, hf⟩ := pm_if hf
            obtain ⟨v63, e64, hf⟩ := pm_bd hf
            refine pm_ald (t := 5) C dX6_copy_226 (by decide) rfl k56 u62 e64 ?_
            refine pm_lload C dX6_copy_227 rfl ?_
            refine pm_ldc2 C dX6_copy_229 cnX6_65 ?_
            refine pm_land C dX6_copy_232 ?_
            refine pm_l2i C dX6_copy_233 ?_
            refine pm_iload C dX6_copy_234 rfl ?_
            refine pm_isub C dX6_copy_236 ?_
            refine pm_iload C dX6_copy_237 rfl ?_
            obtain ⟨k65, hf⟩ := pm_if hf
            obtain ⟨k66, hf⟩ := pm_if hf
            obtain ⟨u67, hf⟩ := pm_if hf
            obtain ⟨u68, hf⟩ := pm_if hf
            refine pm_copyI (t := 1) C (pm_XR X) dX6_copy_239 acX6_100 (Or.inr (Or.inl rfl)) k65 k66 u67.1 u67.2.1 u67.2.2.1 u67.2.2.2.1 u67.2.2.2.2 (fun j hj => List.all_eq_true.mp u68 j (List.mem_range.mpr hj)) (by decide) (by decide) (Nat.le_of_ble_eq_true rfl) ?_
            refine pm_lload C dX6_copy_242 rfl ?_
            refine pm_iload C dX6_copy_244 rfl ?_
            refine pm_i2l C dX6_copy_246 ?_
            refine pm_ladd C dX6_copy_247 ?_
            obtain ⟨y69, e70, hf⟩ := pm_lt hf
            refine pm_topL e70 ?_
            refine pm_lstore (lv' := [(8, .long y69), (21, .int y50), (20, .int y18), (19, .int s0), (0, .ref x0), (1, .int x1), (2, .long x2), (4, .long x4), (6, .long x6), (10, .int x10), (11, .long x11), (13, .int x13), (14, .long x14), (16, .long x16), (18, .int x18)]) C dX6_copy_248 (pm_nl X (by decide)) rfl ?_
            obtain ⟨y71, e72, hf⟩ := pm_lt hf
            refine pm_iinc (v := y71) (lv' := [(10, .int y71), (8, .long y69), (21, .int y50), (20, .int y18), (19, .int s0), (0, .ref x0), (1, .int x1), (2, .long x2), (4, .long x4), (6, .long x6), (11, .long x11), (13, .int x13), (14, .long x14), (16, .long x16), (18, .int x18)]) C dX6_copy_250 rfl ((congrArg (x10 + ·) (by decide : Int32.ofInt 1 = 1)).trans e72) (pm_nl X (by decide)) rfl ?_
            refine pm_goto (tgt := 6) C dX6_copy_253 (by decide) ?_
            cases hf
            exact pm_sub [5, 6, 7, 8, 9, 1, 0] rfl (ih.1 x0 x1 x2 x4 x6 y69 y71 (pm_cpI h v58 ((((x16 &&& 65535).toInt32) - y50).toNatClampNeg) v63 ((((x14 &&& 65535).toInt32) - y50).toNatClampNeg) y18.toNatClampNeg) hi)
        · have hf := pm_it hf c27
          cases hf
          cases hi
          exact pm_vret C X dX6_copy_177 rfl (Nat.le_refl _) (Nat.le_refl _) q
set_option maxHeartbeats 4000000 in
set_option maxRecDepth 100000 in
theorem ctX6_copy {l : Launch} {G : pm_Gl} {h : pm_H} {a0 : Nat} {p1 : Int32} {p2 : Int64} {p3 : Int64} {p4 : Int64} {r : pm_H} {Qr : Option Value → pm_H → Prop} (hf : fX6_copy h a0 p1 p2 p3 p4 = some r) (q : Qr none r) : pm_Ct l G mX6_copy [.ref a0, .int p1, .long p2, .long p3, .long p4] h 0 0 Qr := by
  refine pm_body pnX6 (Nat.le_of_ble_eq_true rfl) (fun g C X => ?_)
  have C : pm_C g cX6_copy RX6 := C
  show pm_G g 0 [(0, .ref a0), (1, .int p1), (2, .long p2), (4, .long p3), (6, .long p4)] [] h 0 0
  unfold fX6_copy at hf
  refine pm_lconst (v := 0) C dX6_copy_0 (by decide) ?_
  refine pm_lstore (lv' := [(8, .long 0), (0, .ref a0), (1, .int p1), (2, .long p2), (4, .long p3), (6, .long p4)]) C dX6_copy_1 (pm_nl X (by decide)) rfl ?_
  refine pm_iconst (v := 0) C dX6_copy_3 (by decide) ?_
  refine pm_istore (lv' := [(10, .int 0), (8, .long 0), (0, .ref a0), (1, .int p1), (2, .long p2), (4, .long p3), (6, .long p4)]) C dX6_copy_4 (pm_nl X (by decide)) rfl ?_
  obtain ⟨n, hn⟩ := pm_lim_iter hf
  exact pm_sub [2, 3, 4, 5, 6, 1, 0] rfl ((lpX6_copy C X q n).1 a0 p1 p2 p3 p4 0 0 h hn)
theorem dX8_round_0 : decode cX8_round 0 = .ok (.iload_n 0, 1) := by decide +kernel
theorem dX8_round_1 : decode cX8_round 1 = .ok (.iconst 2, 1) := by decide +kernel
theorem dX8_round_2 : decode cX8_round 2 = .ok (.if_icmp .ne 8, 3) := by decide +kernel
theorem dX8_round_5 : decode cX8_round 5 = .ok (.bipush 24, 2) := by decide +kernel
theorem dX8_round_7 : decode cX8_round 7 = .ok (.goto 5, 3) := by decide +kernel
theorem dX8_round_10 : decode cX8_round 10 = .ok (.bipush 53, 2) := by decide +kernel
theorem dX8_round_12 : decode cX8_round 12 = .ok (.istore 5, 2) := by decide +kernel
theorem dX8_round_14 : decode cX8_round 14 = .ok (.iload_n 0, 1) := by decide +kernel
theorem dX8_round_15 : decode cX8_round 15 = .ok (.iconst 2, 1) := by decide +kernel
theorem dX8_round_16 : decode cX8_round 16 = .ok (.if_icmp .ne 8, 3) := by decide +kernel
theorem dX8_round_19 : decode cX8_round 19 = .ok (.bipush 127, 2) := by decide +kernel
theorem dX8_round_21 : decode cX8_round 21 = .ok (.goto 6, 3) := by decide +kernel
theorem dX8_round_24 : decode cX8_round 24 = .ok (.sipush 1023, 3) := by decide +kernel
theorem dX8_round_27 : decode cX8_round 27 = .ok (.istore 6, 2) := by decide +kernel
theorem dX8_round_29 : decode cX8_round 29 = .ok (.iload_n 1, 1) := by decide +kernel
theorem dX8_round_30 : decode cX8_round 30 = .ok (.ifCond .ne 7, 3) := by decide +kernel
theorem dX8_round_33 : decode cX8_round 33 = .ok (.lconst 0, 1) := by decide +kernel
theorem dX8_round_34 : decode cX8_round 34 = .ok (.goto 17, 3) := by decide +kernel
theorem dX8_round_37 : decode cX8_round 37 = .ok (.iload_n 0, 1) := by decide +kernel
theorem dX8_round_38 : decode cX8_round 38 = .ok (.iconst 2, 1) := by decide +kernel
theorem dX8_round_39 : decode cX8_round 39 = .ok (.if_icmp .ne 9, 3) := by decide +kernel
theorem dX8_round_42 : decode cX8_round 42 = .ok (.ldc2_w 115, 3) := by decide +kernel
theorem dX8_round_45 : decode cX8_round 45 = .ok (.goto 6, 3) := by decide +kernel
theorem dX8_round_48 : decode cX8_round 48 = .ok (.ldc2_w 72, 3) := by decide +kernel
theorem dX8_round_51 : decode cX8_round 51 = .ok (.lstore 7, 2) := by decide +kernel
theorem dX8_round_53 : decode cX8_round 53 = .ok (.lload_n 2, 1) := by decide +kernel
theorem dX8_round_54 : decode cX8_round 54 = .ok (.lconst 0, 1) := by decide +kernel
theorem dX8_round_55 : decode cX8_round 55 = .ok (.lcmp, 1) := by decide +kernel
theorem dX8_round_56 : decode cX8_round 56 = .ok (.ifCond .ne 6, 3) := by decide +kernel
theorem dX8_round_59 : decode cX8_round 59 = .ok (.lload 7, 2) := by decide +kernel
theorem dX8_round_61 : decode cX8_round 61 = .ok (.lreturn, 1) := by decide +kernel
theorem dX8_round_62 : decode cX8_round 62 = .ok (.lload_n 2, 1) := by decide +kernel
theorem dX8_round_63 : decode cX8_round 63 = .ok (.lconst 0, 1) := by decide +kernel
theorem dX8_round_64 : decode cX8_round 64 = .ok (.lcmp, 1) := by decide +kernel
theorem dX8_round_65 : decode cX8_round 65 = .ok (.ifCond .ge 14, 3) := by decide +kernel
theorem dX8_round_68 : decode cX8_round 68 = .ok (.lload_n 2, 1) := by decide +kernel
theorem dX8_round_69 : decode cX8_round 69 = .ok (.iconst 1, 1) := by decide +kernel
theorem dX8_round_70 : decode cX8_round 70 = .ok (.lushr, 1) := by decide +kernel
theorem dX8_round_71 : decode cX8_round 71 = .ok (.lload_n 2, 1) := by decide +kernel
theorem dX8_round_72 : decode cX8_round 72 = .ok (.lconst 1, 1) := by decide +kernel
theorem dX8_round_73 : decode cX8_round 73 = .ok (.land, 1) := by decide +kernel
theorem dX8_round_74 : decode cX8_round 74 = .ok (.lor, 1) := by decide +kernel
theorem dX8_round_75 : decode cX8_round 75 = .ok (.lstore_n 2, 1) := by decide +kernel
theorem dX8_round_76 : decode cX8_round 76 = .ok (.iinc 4 1, 3) := by decide +kernel
theorem dX8_round_79 : decode cX8_round 79 = .ok (.bipush 64, 2) := by decide +kernel
theorem dX8_round_81 : decode cX8_round 81 = .ok (.lload_n 2, 1) := by decide +kernel
theorem dX8_round_82 : decode cX8_round 82 = .ok (.invokestatic 102, 3) := by decide +kernel
theorem dX8_round_85 : decode cX8_round 85 = .ok (.isub, 1) := by decide +kernel
theorem dX8_round_86 : decode cX8_round 86 = .ok (.istore 9, 2) := by decide +kernel
theorem dX8_round_88 : decode cX8_round 88 = .ok (.iload 4, 2) := by decide +kernel
theorem dX8_round_90 : decode cX8_round 90 = .ok (.iload 9, 2) := by decide +kernel
theorem dX8_round_92 : decode cX8_round 92 = .ok (.iadd, 1) := by decide +kernel
theorem dX8_round_93 : decode cX8_round 93 = .ok (.iload 5, 2) := by decide +kernel
theorem dX8_round_95 : decode cX8_round 95 = .ok (.isub, 1) := by decide +kernel
theorem dX8_round_96 : decode cX8_round 96 = .ok (.iconst 2, 1) := by decide +kernel
theorem dX8_round_97 : decode cX8_round 97 = .ok (.iload 6, 2) := by decide +kernel
theorem dX8_round_99 : decode cX8_round 99 = .ok (.isub, 1) := by decide +kernel
theorem dX8_round_100 : decode cX8_round 100 = .ok (.iload 5, 2) := by decide +kernel
theorem dX8_round_102 : decode cX8_round 102 = .ok (.isub, 1) := by decide +kernel
theorem dX8_round_103 : decode cX8_round 103 = .ok (.invokestatic 129, 3) := by decide +kernel
theorem dX8_round_106 : decode cX8_round 106 = .ok (.istore 10, 2) := by decide +kernel
theorem dX8_round_108 : decode cX8_round 108 = .ok (.iload 10, 2) := by decide +kernel
theorem dX8_round_110 : decode cX8_round 110 = .ok (.iload 4, 2) := by decide +kernel
theorem dX8_round_112 : decode cX8_round 112 = .ok (.isub, 1) := by decide +kernel
theorem dX8_round_113 : decode cX8_round 113 = .ok (.istore 11, 2) := by decide +kernel
theorem dX8_round_115 : decode cX8_round 115 = .ok (.iload 11, 2) := by decide +kernel
theorem dX8_round_117 : decode cX8_round 117 = .ok (.bipush 63, 2) := by decide +kernel
theorem dX8_round_119 : decode cX8_round 119 = .ok (.if_icmp .le 6, 3) := by decide +kernel
theorem dX8_round_122 : decode cX8_round 122 = .ok (.lload 7, 2) := by decide +kernel
theorem dX8_round_124 : decode cX8_round 124 = .ok (.lreturn, 1) := by decide +kernel
theorem dX8_round_125 : decode cX8_round 125 = .ok (.iload 11, 2) := by decide +kernel
theorem dX8_round_127 : decode cX8_round 127 = .ok (.ifCond .gt 11, 3) := by decide +kernel
theorem dX8_round_130 : decode cX8_round 130 = .ok (.lload_n 2, 1) := by decide +kernel
theorem dX8_round_131 : decode cX8_round 131 = .ok (.iload 11, 2) := by decide +kernel
theorem dX8_round_133 : decode cX8_round 133 = .ok (.ineg, 1) := by decide +kernel
theorem dX8_round_134 : decode cX8_round 134 = .ok (.lshl, 1) := by decide +kernel
theorem dX8_round_135 : decode cX8_round 135 = .ok (.goto 7, 3) := by decide +kernel
theorem dX8_round_138 : decode cX8_round 138 = .ok (.lload_n 2, 1) := by decide +kernel
theorem dX8_round_139 : decode cX8_round 139 = .ok (.iload 11, 2) := by decide +kernel
theorem dX8_round_141 : decode cX8_round 141 = .ok (.lushr, 1) := by decide +kernel
theorem dX8_round_142 : decode cX8_round 142 = .ok (.lstore 12, 2) := by decide +kernel
theorem dX8_round_144 : decode cX8_round 144 = .ok (.iload 11, 2) := by decide +kernel
theorem dX8_round_146 : decode cX8_round 146 = .ok (.ifCond .le 51, 3) := by decide +kernel
theorem dX8_round_149 : decode cX8_round 149 = .ok (.lload_n 2, 1) := by decide +kernel
theorem dX8_round_150 : decode cX8_round 150 = .ok (.lload 12, 2) := by decide +kernel
theorem dX8_round_152 : decode cX8_round 152 = .ok (.iload 11, 2) := by decide +kernel
theorem dX8_round_154 : decode cX8_round 154 = .ok (.lshl, 1) := by decide +kernel
theorem dX8_round_155 : decode cX8_round 155 = .ok (.lsub, 1) := by decide +kernel
theorem dX8_round_156 : decode cX8_round 156 = .ok (.lstore 14, 2) := by decide +kernel
theorem dX8_round_158 : decode cX8_round 158 = .ok (.lconst 1, 1) := by decide +kernel
theorem dX8_round_159 : decode cX8_round 159 = .ok (.iload 11, 2) := by decide +kernel
theorem dX8_round_161 : decode cX8_round 161 = .ok (.iconst 1, 1) := by decide +kernel
theorem dX8_round_162 : decode cX8_round 162 = .ok (.isub, 1) := by decide +kernel
theorem dX8_round_163 : decode cX8_round 163 = .ok (.lshl, 1) := by decide +kernel
theorem dX8_round_164 : decode cX8_round 164 = .ok (.lstore 16, 2) := by decide +kernel
theorem dX8_round_166 : decode cX8_round 166 = .ok (.lload 14, 2) := by decide +kernel
theorem dX8_round_168 : decode cX8_round 168 = .ok (.lload 16, 2) := by decide +kernel
theorem dX8_round_170 : decode cX8_round 170 = .ok (.lcmp, 1) := by decide +kernel
theorem dX8_round_171 : decode cX8_round 171 = .ok (.ifCond .gt 20, 3) := by decide +kernel
theorem dX8_round_174 : decode cX8_round 174 = .ok (.lload 14, 2) := by decide +kernel
theorem dX8_round_176 : decode cX8_round 176 = .ok (.lload 16, 2) := by decide +kernel
theorem dX8_round_178 : decode cX8_round 178 = .ok (.lcmp, 1) := by decide +kernel
theorem dX8_round_179 : decode cX8_round 179 = .ok (.ifCond .ne 18, 3) := by decide +kernel
theorem dX8_round_182 : decode cX8_round 182 = .ok (.lload 12, 2) := by decide +kernel
theorem dX8_round_184 : decode cX8_round 184 = .ok (.lconst 1, 1) := by decide +kernel
theorem dX8_round_185 : decode cX8_round 185 = .ok (.land, 1) := by decide +kernel
theorem dX8_round_186 : decode cX8_round 186 = .ok (.lconst 1, 1) := by decide +kernel
theorem dX8_round_187 : decode cX8_round 187 = .ok (.lcmp, 1) := by decide +kernel
theorem dX8_round_188 : decode cX8_round 188 = .ok (.ifCond .ne 9, 3) := by decide +kernel
theorem dX8_round_191 : decode cX8_round 191 = .ok (.lload 12, 2) := by decide +kernel
theorem dX8_round_193 : decode cX8_round 193 = .ok (.lconst 1, 1) := by decide +kernel
theorem dX8_round_194 : decode cX8_round 194 = .ok (.ladd, 1) := by decide +kernel
theorem dX8_round_195 : decode cX8_round 195 = .ok (.lstore 12, 2) := by decide +kernel
theorem dX8_round_197 : decode cX8_round 197 = .ok (.lload 12, 2) := by decide +kernel
theorem dX8_round_199 : decode cX8_round 199 = .ok (.lconst 1, 1) := by decide +kernel
theorem dX8_round_200 : decode cX8_round 200 = .ok (.iload 5, 2) := by decide +kernel
theorem dX8_round_202 : decode cX8_round 202 = .ok (.lshl, 1) := by decide +kernel
theorem dX8_round_203 : decode cX8_round 203 = .ok (.lcmp, 1) := by decide +kernel
theorem dX8_round_204 : decode cX8_round 204 = .ok (.ifCond .ne 12, 3) := by decide +kernel
theorem dX8_round_207 : decode cX8_round 207 = .ok (.lload 12, 2) := by decide +kernel
theorem dX8_round_209 : decode cX8_round 209 = .ok (.iconst 1, 1) := by decide +kernel
theorem dX8_round_210 : decode cX8_round 210 = .ok (.lshr, 1) := by decide +kernel
theorem dX8_round_211 : decode cX8_round 211 = .ok (.lstore 12, 2) := by decide +kernel
theorem dX8_round_213 : decode cX8_round 213 = .ok (.iinc 10 1, 3) := by decide +kernel
theorem dX8_round_216 : decode cX8_round 216 = .ok (.lload 12, 2) := by decide +kernel
theorem dX8_round_218 : decode cX8_round 218 = .ok (.lconst 1, 1) := by decide +kernel
theorem dX8_round_219 : decode cX8_round 219 = .ok (.iload 5, 2) := by decide +kernel
theorem dX8_round_221 : decode cX8_round 221 = .ok (.iconst 1, 1) := by decide +kernel
theorem dX8_round_222 : decode cX8_round 222 = .ok (.isub, 1) := by decide +kernel
theorem dX8_round_223 : decode cX8_round 223 = .ok (.lshl, 1) := by decide +kernel
theorem dX8_round_224 : decode cX8_round 224 = .ok (.lcmp, 1) := by decide +kernel
theorem dX8_round_225 : decode cX8_round 225 = .ok (.ifCond .ge 9, 3) := by decide +kernel
theorem dX8_round_228 : decode cX8_round 228 = .ok (.lload 7, 2) := by decide +kernel
theorem dX8_round_230 : decode cX8_round 230 = .ok (.lload 12, 2) := by decide +kernel
theorem dX8_round_232 : decode cX8_round 232 = .ok (.lor, 1) := by decide +kernel
theorem dX8_round_233 : decode cX8_round 233 = .ok (.lreturn, 1) := by decide +kernel
theorem dX8_round_234 : decode cX8_round 234 = .ok (.iload 10, 2) := by decide +kernel
theorem dX8_round_236 : decode cX8_round 236 = .ok (.iconst 1, 1) := by decide +kernel
theorem dX8_round_237 : decode cX8_round 237 = .ok (.isub, 1) := by decide +kernel
theorem dX8_round_238 : decode cX8_round 238 = .ok (.iload 6, 2) := by decide +kernel
theorem dX8_round_240 : decode cX8_round 240 = .ok (.iadd, 1) := by decide +kernel
theorem dX8_round_241 : decode cX8_round 241 = .ok (.iload 5, 2) := by decide +kernel
theorem dX8_round_243 : decode cX8_round 243 = .ok (.iadd, 1) := by decide +kernel
theorem dX8_round_244 : decode cX8_round 244 = .ok (.istore 14, 2) := by decide +kernel
theorem dX8_round_246 : decode cX8_round 246 = .ok (.iload 14, 2) := by decide +kernel
theorem dX8_round_248 : decode cX8_round 248 = .ok (.iconst 2, 1) := by decide +kernel
theorem dX8_round_249 : decode cX8_round 249 = .ok (.iload 6, 2) := by decide +kernel
theorem dX8_round_251 : decode cX8_round 251 = .ok (.imul, 1) := by decide +kernel
theorem dX8_round_252 : decode cX8_round 252 = .ok (.if_icmp .le 21, 3) := by decide +kernel
theorem dX8_round_255 : decode cX8_round 255 = .ok (.lload 7, 2) := by decide +kernel
theorem dX8_round_257 : decode cX8_round 257 = .ok (.iload_n 0, 1) := by decide +kernel
theorem dX8_round_258 : decode cX8_round 258 = .ok (.iconst 2, 1) := by decide +kernel
theorem dX8_round_259 : decode cX8_round 259 = .ok (.if_icmp .ne 9, 3) := by decide +kernel
theorem dX8_round_262 : decode cX8_round 262 = .ok (.ldc2_w 117, 3) := by decide +kernel
theorem dX8_round_265 : decode cX8_round 265 = .ok (.goto 6, 3) := by decide +kernel
theorem dX8_round_268 : decode cX8_round 268 = .ok (.ldc2_w 119, 3) := by decide +kernel
theorem dX8_round_271 : decode cX8_round 271 = .ok (.lor, 1) := by decide +kernel
theorem dX8_round_272 : decode cX8_round 272 = .ok (.lreturn, 1) := by decide +kernel
theorem dX8_round_273 : decode cX8_round 273 = .ok (.lload 7, 2) := by decide +kernel
theorem dX8_round_275 : decode cX8_round 275 = .ok (.iload 14, 2) := by decide +kernel
theorem dX8_round_277 : decode cX8_round 277 = .ok (.i2l, 1) := by decide +kernel
theorem dX8_round_278 : decode cX8_round 278 = .ok (.iload 5, 2) := by decide +kernel
theorem dX8_round_280 : decode cX8_round 280 = .ok (.iconst 1, 1) := by decide +kernel
theorem dX8_round_281 : decode cX8_round 281 = .ok (.isub, 1) := by decide +kernel
theorem dX8_round_282 : decode cX8_round 282 = .ok (.lshl, 1) := by decide +kernel
theorem dX8_round_283 : decode cX8_round 283 = .ok (.lload 12, 2) := by decide +kernel
theorem dX8_round_285 : decode cX8_round 285 = .ok (.lconst 1, 1) := by decide +kernel
theorem dX8_round_286 : decode cX8_round 286 = .ok (.iload 5, 2) := by decide +kernel
theorem dX8_round_288 : decode cX8_round 288 = .ok (.iconst 1, 1) := by decide +kernel
theorem dX8_round_289 : decode cX8_round 289 = .ok (.isub, 1) := by decide +kernel
theorem dX8_round_290 : decode cX8_round 290 = .ok (.lshl, 1) := by decide +kernel
theorem dX8_round_291 : decode cX8_round 291 = .ok (.lsub, 1) := by decide +kernel
theorem dX8_round_292 : decode cX8_round 292 = .ok (.ladd, 1) := by decide +kernel
theorem dX8_round_293 : decode cX8_round 293 = .ok (.lor, 1) := by decide +kernel
theorem dX8_round_294 : decode cX8_round 294 = .ok (.lreturn, 1) := by decide +kernel
def fX8_round_b197 (x0 : Int32) (x5 : Int32) (x6 : Int32) (x7 : Int64) (x10 : Int32) (x12 : Int64) : Int64 := if x12 = ((1 : Int64) <<< (x5.toInt64 &&& 63)) then (pm_let (x12 >>> ((1 : Int32).toInt64 &&& 63)) fun y41 => pm_let (x10 + 1) fun y43 => if ((1 : Int64) <<< ((x5 - 1).toInt64 &&& 63)) ≤ y41 then (pm_let (((y43 - 1) + x6) + x5) fun y46 => if y46 ≤ (2 * x6) then (x7 ||| ((y46.toInt64 <<< ((x5 - 1).toInt64 &&& 63)) + (y41 - ((1 : Int64) <<< ((x5 - 1).toInt64 &&& 63))))) else (if x0 = 2 then (x7 ||| 2139095040) else (x7 ||| 9218868437227405312))) else (x7 ||| y41)) else (if ((1 : Int64) <<< ((x5 - 1).toInt64 &&& 63)) ≤ x12 then (pm_let (((x10 - 1) + x6) + x5) fun y37 => if y37 ≤ (2 * x6) then (x7 ||| ((y37.toInt64 <<< ((x5 - 1).toInt64 &&& 63)) + (x12 - ((1 : Int64) <<< ((x5 - 1).toInt64 &&& 63))))) else (if x0 = 2 then (x7 ||| 2139095040) else (x7 ||| 9218868437227405312))) else (x7 ||| x12))
def fX8_round_b142 (x0 : Int32) (x2 : Int64) (x5 : Int32) (x6 : Int32) (x7 : Int64) (x10 : Int32) (x11 : Int32) (s0 : Int64) : Int64 := if x11 ≤ 0 then (fX8_round_b197 x0 x5 x6 x7 x10 s0) else (pm_let (x2 - (s0 <<< (x11.toInt64 &&& 63))) fun y24 => pm_let ((1 : Int64) <<< ((x11 - 1).toInt64 &&& 63)) fun y26 => if y26 < y24 then (pm_let (s0 + 1) fun y29 => fX8_round_b197 x0 x5 x6 x7 x10 y29) else (if y24 = y26 then (if (s0 &&& 1) = 1 then (pm_let (s0 + 1) fun y33 => fX8_round_b197 x0 x5 x6 x7 x10 y33) else (fX8_round_b197 x0 x5 x6 x7 x10 s0)) else (fX8_round_b197 x0 x5 x6 x7 x10 s0)))
def fX8_round_b79 (x0 : Int32) (x2 : Int64) (x4 : Int32) (x5 : Int32) (x6 : Int32) (x7 : Int64) : Int64 := pm_let (fJ13_numberOfLeadingZeros_95d88 x2) fun v11 => pm_let (64 - v11) fun y13 => pm_let ((2 - x6) - x5) fun y15 => pm_let (if ((x4 + y13) - x5) < y15 then y15 else ((x4 + y13) - x5)) fun y17 => pm_let (y17 - x4) fun y19 => if y19 ≤ 63 then (if 0 < y19 then (fX8_round_b142 x0 x2 x5 x6 x7 y17 y19 ((x2.toUInt64 >>> (y19.toInt64.toUInt64 &&& Int64.toUInt64 63)).toInt64)) else (fX8_round_b142 x0 x2 x5 x6 x7 y17 y19 (x2 <<< ((-y19).toInt64 &&& 63)))) else (x7)
def fX8_round_b51 (x0 : Int32) (x2 : Int64) (x4 : Int32) (x5 : Int32) (x6 : Int32) (s0 : Int64) : Int64 := if x2 = 0 then (s0) else (if 0 ≤ x2 then (fX8_round_b79 x0 x2 x4 x5 x6 s0) else (pm_let (((x2.toUInt64 >>> ((1 : Int32).toInt64.toUInt64 &&& Int64.toUInt64 63)).toInt64) ||| (x2 &&& 1)) fun y7 => pm_let (x4 + 1) fun y9 => fX8_round_b79 x0 y7 y9 x5 x6 s0))
def fX8_round_b27 (x0 : Int32) (x1 : Int32) (x2 : Int64) (x4 : Int32) (x5 : Int32) (s0 : Int32) : Int64 := if x1 = 0 then (fX8_round_b51 x0 x2 x4 x5 s0 0) else (if x0 = 2 then (fX8_round_b51 x0 x2 x4 x5 s0 2147483648) else (fX8_round_b51 x0 x2 x4 x5 s0 (-9223372036854775808)))
def fX8_round_b12 (x0 : Int32) (x1 : Int32) (x2 : Int64) (x4 : Int32) (s0 : Int32) : Int64 := if x0 = 2 then (fX8_round_b27 x0 x1 x2 x4 s0 127) else (fX8_round_b27 x0 x1 x2 x4 s0 1023)
def fX8_round (p1 : Int32) (p2 : Int32) (p3 : Int64) (p4 : Int32) : Int64 := if p1 = 2 then (fX8_round_b12 p1 p2 p3 p4 24) else (fX8_round_b12 p1 p2 p3 p4 53)
set_option maxHeartbeats 4000000 in
set_option maxRecDepth 100000 in
theorem bX8_round_197 {g : pm_Gm} {l : Launch} {G : pm_Gl} {Qr : Option Value → pm_H → Prop} (C : pm_C g cX8_round RX8) (X : pm_X g l G mX8_round 0 0 Qr) {h : pm_H} {x0 : Int32} {x5 : Int32} {x6 : Int32} {x7 : Int64} {x10 : Int32} {x12 : Int64} {r : Int64} (hf : fX8_round_b197 x0 x5 x6 x7 x10 x12 = r) (q : Qr (some (.long r)) h) : pm_G g 197 [(0, .int x0), (5, .int x5), (6, .int x6), (7, .long x7), (10, .int x10), (12, .long x12)] [] h 0 0 := by
  unfold fX8_round_b197 at hf
  refine pm_lload C dX8_round_197 rfl ?_
  refine pm_lconst (v := 1) C dX8_round_199 (by decide) ?_
  refine pm_iload C dX8_round_200 rfl ?_
  refine pm_lshl C dX8_round_202 ?_
  refine pm_lcmp C dX8_round_203 ?_
  refine pm_if_ne (tgt := 216) C dX8_round_204 (by decide) (fun c35 => ?_) (fun c35 => ?_)
  · have hf := pm_ie hf ((fun z => c35 ((pm_lg_eq _ _).mpr z)))
    refine pm_lload C dX8_round_216 rfl ?_
    refine pm_lconst (v := 1) C dX8_round_218 (by decide) ?_
    refine pm_iload C dX8_round_219 rfl ?_
    refine pm_iconst (v := 1) C dX8_round_221 (by decide) ?_
    refine pm_isub C dX8_round_222 ?_
    refine pm_lshl C dX8_round_223 ?_
    refine pm_lcmp C dX8_round_224 ?_
    refine pm_if_ge (tgt := 234) C dX8_round_225 (by decide) (fun c36 => ?_) (fun c36 => ?_)
    · have hf := pm_it hf ((pm_lg_ge _ _).mp c36)
      refine pm_iload C dX8_round_234 rfl ?_
      refine pm_iconst (v := 1) C dX8_round_236 (by decide) ?_
      refine pm_isub C dX8_round_237 ?_
      refine pm_iload C dX8_round_238 rfl ?_
      refine pm_iadd C dX8_round_240 ?_
      refine pm_iload C dX8_round_241 rfl ?_
      refine pm_iadd C dX8_round_243 ?_
      obtain ⟨y37, e38, hf⟩ := pm_lt hf
      refine pm_topI e38 ?_
      refine pm_istore (lv' := [(14, .int y37), (0, .int x0), (5, .int x5), (6, .int x6), (7, .long x7), (10, .int x10), (12, .long x12)]) C dX8_round_244 (pm_nl X (by decide)) rfl ?_
      refine pm_iload C dX8_round_246 rfl ?_
      refine pm_iconst (v := 2) C dX8_round_248 (by decide) ?_
      refine pm_iload C dX8_round_249 rfl ?_
      refine pm_imul C dX8_round_251 ?_
      refine pm_icmp_le (tgt := 273) C dX8_round_252 (by decide) (fun c39 => ?_) (fun c39 => ?_)
      · have hf := pm_it hf c39
        refine pm_lload C dX8_round_273 rfl ?_
        refine pm_iload C dX8_round_275 rfl ?_
        refine pm_i2l C dX8_round_277 ?_
        refine pm_iload C dX8_round_278 rfl ?_
        refine pm_iconst (v := 1) C dX8_round_280 (by decide) ?_
        refine pm_isub C dX8_round_281 ?_
        refine pm_lshl C dX8_round_282 ?_
        refine pm_lload C dX8_round_283 rfl ?_
        refine pm_lconst (v := 1) C dX8_round_285 (by decide) ?_
        refine pm_iload C dX8_round_286 rfl ?_
        refine pm_iconst (v := 1) C dX8_round_288 (by decide) ?_
        refine pm_isub C dX8_round_289 ?_
        refine pm_lshl C dX8_round_290 ?_
        refine pm_lsub C dX8_round_291 ?_
        refine pm_ladd C dX8_round_292 ?_
        refine pm_lor C dX8_round_293 ?_
        subst hf
        exact pm_lret C X dX8_round_294 rfl (Nat.le_refl _) (Nat.le_refl _) q
      · have hf := pm_ie hf c39
        refine pm_lload C dX8_round_255 rfl ?_
        refine pm_iload_n C dX8_round_257 rfl rfl ?_
        refine pm_iconst (v := 2) C dX8_round_258 (by decide) ?_
        refine pm_icmp_ne (tgt := 268) C dX8_round_259 (by decide) (fun c40 => ?_) (fun c40 => ?_)
        · have hf := pm_ie hf c40
          refine pm_ldc2 C dX8_round_268 cnX8_119 ?_
          refine pm_lor C dX8_round_271 ?_
          subst hf
          exact pm_lret C X dX8_round_272 rfl (Nat.le_refl _) (Nat.le_refl _) q
        · have hf := pm_it hf c40
          refine pm_ldc2 C dX8_round_262 cnX8_117 ?_
          refine pm_goto (tgt := 271) C dX8_round_265 (by decide) ?_
          refine pm_lor C dX8_round_271 ?_
          subst hf
          exact pm_lret C X dX8_round_272 rfl (Nat.le_refl _) (Nat.le_refl _) q
    · have hf := pm_ie hf ((fun z => c36 ((pm_lg_ge _ _).mpr z)))
      refine pm_lload C dX8_round_228 rfl ?_
      refine pm_lload C dX8_round_230 rfl ?_
      refine pm_lor C dX8_round_232 ?_
      subst hf
      exact pm_lret C X dX8_round_233 rfl (Nat.le_refl _) (Nat.le_refl _) q
  · have hf := pm_it hf ((pm_lg_eq _ _).mp c35)
    refine pm_lload C dX8_round_207 rfl ?_
    refine pm_iconst (v := 1) C dX8_round_209 (by decide) ?_
    refine pm_lshr C dX8_round_210 ?_
    obtain ⟨y41, e42, hf⟩ := pm_lt hf
    refine pm_topL e42 ?_
    refine pm_lstore (lv' := [(12, .long y41), (0, .int x0), (5, .int x5), (6, .int x6), (7, .long x7), (10, .int x10)]) C dX8_round_211 (pm_nl X (by decide)) rfl ?_
    obtain ⟨y43, e44, hf⟩ := pm_lt hf
    refine pm_iinc (v := y43) (lv' := [(10, .int y43), (12, .long y41), (0, .int x0), (5, .int x5), (6, .int x6), (7, .long x7)]) C dX8_round_213 rfl ((congrArg (x10 + ·) (by decide : Int32.ofInt 1 = 1)).trans e44) (pm_nl X (by decide)) rfl ?_
    refine pm_lload C dX8_round_216 rfl ?_
    refine pm_lconst (v := 1) C dX8_round_218 (by decide) ?_
    refine pm_iload C dX8_round_219 rfl ?_
    refine pm_iconst (v := 1) C dX8_round_221 (by decide) ?_
    refine pm_isub C dX8_round_222 ?_
    refine pm_lshl C dX8_round_223 ?_
    refine pm_lcmp C dX8_round_224 ?_
    refine pm_if_ge (tgt := 234) C dX8_round_225 (by decide) (fun c45 => ?_) (fun c45 => ?_)
    · have hf := pm_it hf ((pm_lg_ge _ _).mp c45)
      refine pm_iload C dX8_round_234 rfl ?_
      refine pm_iconst (v := 1) C dX8_round_236 (by decide) ?_
      refine pm_isub C dX8_round_237 ?_
      refine pm_iload C dX8_round_238 rfl ?_
      refine pm_iadd C dX8_round_240 ?_
      refine pm_iload C dX8_round_241 rfl ?_
      refine pm_iadd C dX8_round_243 ?_
      obtain ⟨y46, e47, hf⟩ := pm_lt hf
      refine pm_topI e47 ?_
      refine pm_istore (lv' := [(14, .int y46), (10, .int y43), (12, .long y41), (0, .int x0), (5, .int x5), (6, .int x6), (7, .long x7)]) C dX8_round_244 (pm_nl X (by decide)) rfl ?_
      refine pm_iload C dX8_round_246 rfl ?_
      refine pm_iconst (v := 2) C dX8_round_248 (by decide) ?_
      refine pm_iload C dX8_round_249 rfl ?_
      refine pm_imul C dX8_round_251 ?_
      refine pm_icmp_le (tgt := 273) C dX8_round_252 (by decide) (fun c48 => ?_) (fun c48 => ?_)
      · have hf := pm_it hf c48
        refine pm_lload C dX8_round_273 rfl ?_
        refine pm_iload C dX8_round_275 rfl ?_
        refine pm_i2l C dX8_round_277 ?_
        refine pm_iload C dX8_round_278 rfl ?_
        refine pm_iconst (v := 1) C dX8_round_280 (by decide) ?_
        refine pm_isub C dX8_round_281 ?_
        refine pm_lshl C dX8_round_282 ?_
        refine pm_lload C dX8_round_283 rfl ?_
        refine pm_lconst (v := 1) C dX8_round_285 (by decide) ?_
        refine pm_iload C dX8_round_286 rfl ?_
        refine pm_iconst (v := 1) C dX8_round_288 (by decide) ?_
        refine pm_isub C dX8_round_289 ?_
        refine pm_lshl C dX8_round_290 ?_
        refine pm_lsub C dX8_round_291 ?_
        refine pm_ladd C dX8_round_292 ?_
        refine pm_lor C dX8_round_293 ?_
        subst hf
        exact pm_lret C X dX8_round_294 rfl (Nat.le_refl _) (Nat.le_refl _) q
      · have hf := pm_ie hf c48
        refine pm_lload C dX8_round_255 rfl ?_
        refine pm_iload_n C dX8_round_257 rfl rfl ?_
        refine pm_iconst (v := 2) C dX8_round_258 (by decide) ?_
        refine pm_icmp_ne (tgt := 268) C dX8_round_259 (by decide) (fun c49 => ?_) (fun c49 => ?_)
        · have hf := pm_ie hf c49
          refine pm_ldc2 C dX8_round_268 cnX8_119 ?_
          refine pm_lor C dX8_round_271 ?_
          subst hf
          exact pm_lret C X dX8_round_272 rfl (Nat.le_refl _) (Nat.le_refl _) q
        · have hf := pm_it hf c49
          refine pm_ldc2 C dX8_round_262 cnX8_117 ?_
          refine pm_goto (tgt := 271) C dX8_round_265 (by decide) ?_
          refine pm_lor C dX8_round_271 ?_
          subst hf
          exact pm_lret C X dX8_round_272 rfl (Nat.le_refl _) (Nat.le_refl _) q
    · have hf := pm_ie hf ((fun z => c45 ((pm_lg_ge _ _).mpr z)))
      refine pm_lload C dX8_round_228 rfl ?_
      refine pm_lload C dX8_round_230 rfl ?_
      refine pm_lor C dX8_round_232 ?_
      subst hf
      exact pm_lret C X dX8_round_233 rfl (Nat.le_refl _) (Nat.le_refl _) q
set_option maxHeartbeats 4000000 in
set_option maxRecDepth 100000 in
theorem bX8_round_142 {g : pm_Gm} {l : Launch} {G : pm_Gl} {Qr : Option Value → pm_H → Prop} (C : pm_C g cX8_round RX8) (X : pm_X g l G mX8_round 0 0 Qr) {h : pm_H} {x0 : Int32} {x2 : Int64} {x5 : Int32} {x6 : Int32} {x7 : Int64} {x10 : Int32} {x11 : Int32} {s0 : Int64} {r : Int64} (hf : fX8_round_b142 x0 x2 x5 x6 x7 x10 x11 s0 = r) (q : Qr (some (.long r)) h) : pm_G g 142 [(0, .int x0), (2, .long x2), (5, .int x5), (6, .int x6), (7, .long x7), (10, .int x10), (11, .int x11)] [.long s0] h 0 0 := by
  unfold fX8_round_b142 at hf
  refine pm_lstore (lv' := [(12, .long s0), (0, .int x0), (2, .long x2), (5, .int x5), (6, .int x6), (7, .long x7), (10, .int x10), (11, .int x11)]) C dX8_round_142 (pm_nl X (by decide)) rfl ?_
  refine pm_iload C dX8_round_144 rfl ?_
  refine pm_if_le (tgt := 197) C dX8_round_146 (by decide) (fun c23 => ?_) (fun c23 => ?_)
  · have hf := pm_it hf c23
    exact pm_sub [1, 3, 4, 5, 6, 0] rfl (bX8_round_197 C X hf q)
  · have hf := pm_ie hf c23
    refine pm_lload_n C dX8_round_149 rfl rfl ?_
    refine pm_lload C dX8_round_150 rfl ?_
    refine pm_iload C dX8_round_152 rfl ?_
    refine pm_lshl C dX8_round_154 ?_
    refine pm_lsub C dX8_round_155 ?_
    obtain ⟨y24, e25, hf⟩ := pm_lt hf
    refine pm_topL e25 ?_
    refine pm_lstore (lv' := [(14, .long y24), (12, .long s0), (0, .int x0), (2, .long x2), (5, .int x5), (6, .int x6), (7, .long x7), (10, .int x10), (11, .int x11)]) C dX8_round_156 (pm_nl X (by decide)) rfl ?_
    refine pm_lconst (v := 1) C dX8_round_158 (by decide) ?_
    refine pm_iload C dX8_round_159 rfl ?_
    refine pm_iconst (v := 1) C dX8_round_161 (by decide) ?_
    refine pm_isub C dX8_round_162 ?_
    refine pm_lshl C dX8_round_163 ?_
    obtain ⟨y26, e27, hf⟩ := pm_lt hf
    refine pm_topL e27 ?_
    refine pm_lstore (lv' := [(16, .long y26), (14, .long y24), (12, .long s0), (0, .int x0), (2, .long x2), (5, .int x5), (6, .int x6), (7, .long x7), (10, .int x10), (11, .int x11)]) C dX8_round_164 (pm_nl X (by decide)) rfl ?_
    refine pm_lload C dX8_round_166 rfl ?_
    refine pm_lload C dX8_round_168 rfl ?_
    refine pm_lcmp C dX8_round_170 ?_
    refine pm_if_gt (tgt := 191) C dX8_round_171 (by decide) (fun c28 => ?_) (fun c28 => ?_)
    · have hf := pm_it hf ((pm_lg_gt _ _).mp c28)
      refine pm_lload C dX8_round_191 rfl ?_
      refine pm_lconst (v := 1) C dX8_round_193 (by decide) ?_
      refine pm_ladd C dX8_round_194 ?_
      obtain ⟨y29, e30, hf⟩ := pm_lt hf
      refine pm_topL e30 ?_
      refine pm_lstore (lv' := [(12, .long y29), (16, .long y26), (14, .long y24), (0, .int x0), (2, .long x2), (5, .int x5), (6, .int x6), (7, .long x7), (10, .int x10), (11, .int x11)]) C dX8_round_195 (pm_nl X (by decide)) rfl ?_
      exact pm_sub [3, 5, 6, 7, 8, 0] rfl (bX8_round_197 C X hf q)
    · have hf := pm_ie hf ((fun z => c28 ((pm_lg_gt _ _).mpr z)))
      refine pm_lload C dX8_round_174 rfl ?_
      refine pm_lload C dX8_round_176 rfl ?_
      refine pm_lcmp C dX8_round_178 ?_
      refine pm_if_ne (tgt := 197) C dX8_round_179 (by decide) (fun c31 => ?_) (fun c31 => ?_)
      · have hf := pm_ie hf ((fun z => c31 ((pm_lg_eq _ _).mpr z)))
        exact pm_sub [3, 5, 6, 7, 8, 2] rfl (bX8_round_197 C X hf q)
      · have hf := pm_it hf ((pm_lg_eq _ _).mp c31)
        refine pm_lload C dX8_round_182 rfl ?_
        refine pm_lconst (v := 1) C dX8_round_184 (by decide) ?_
        refine pm_land C dX8_round_185 ?_
        refine pm_lconst (v := 1) C dX8_round_186 (by decide) ?_
        refine pm_lcmp C dX8_round_187 ?_
        refine pm_if_ne (tgt := 197) C dX8_round_188 (by decide) (fun c32 => ?_) (fun c32 => ?_)
        · have hf := pm_ie hf ((fun z => c32 ((pm_lg_eq _ _).mpr z)))
          exact pm_sub [3, 5, 6, 7, 8, 2] rfl (bX8_round_197 C X hf q)
        · have hf := pm_it hf ((pm_lg_eq _ _).mp c32)
          refine pm_lload C dX8_round_191 rfl ?_
          refine pm_lconst (v := 1) C dX8_round_193 (by decide) ?_
          refine pm_ladd C dX8_round_194 ?_
          obtain ⟨y33, e34, hf⟩ := pm_lt hf
          refine pm_topL e34 ?_
          refine pm_lstore (lv' := [(12, .long y33), (16, .long y26), (14, .long y24), (0, .int x0), (2, .long x2), (5, .int x5), (6, .int x6), (7, .long x7), (10, .int x10), (11, .int x11)]) C dX8_round_195 (pm_nl X (by decide)) rfl ?_
          exact pm_sub [3, 5, 6, 7, 8, 0] rfl (bX8_round_197 C X hf q)
set_option maxHeartbeats 4000000 in
set_option maxRecDepth 100000 in
theorem bX8_round_79 {g : pm_Gm} {l : Launch} {G : pm_Gl} {Qr : Option Value → pm_H → Prop} (C : pm_C g cX8_round RX8) (X : pm_X g l G mX8_round 0 0 Qr) {h : pm_H} {x0 : Int32} {x2 : Int64} {x4 : Int32} {x5 : Int32} {x6 : Int32} {x7 : Int64} {r : Int64} (hf : fX8_round_b79 x0 x2 x4 x5 x6 x7 = r) (q : Qr (some (.long r)) h) : pm_G g 79 [(0, .int x0), (2, .long x2), (4, .int x4), (5, .int x5), (6, .int x6), (7, .long x7)] [] h 0 0 := by
  unfold fX8_round_b79 at hf
  refine pm_bipush (v := 64) C dX8_round_79 (by decide) ?_
  refine pm_lload_n C dX8_round_81 rfl rfl ?_
  obtain ⟨v11, e12, hf⟩ := pm_lt hf
  refine pm_callS (as := [.long x2]) (st := [.int 64]) C X dX8_round_82 lnX8_102 myJ13_numberOfLeadingZeros_95d88 stJ13_numberOfLeadingZeros_95d88 ⟨by decide, by decide⟩ rfl rfl (Nat.le_of_ble_eq_true rfl) (Nat.le_refl _) (Nat.le_refl _) (ctJ13_numberOfLeadingZeros_95d88 e12 ?_)
  show pm_G g 85 [(0, .int x0), (2, .long x2), (4, .int x4), (5, .int x5), (6, .int x6), (7, .long x7)] [.int v11, .int 64] h 0 0
  refine pm_isub C dX8_round_85 ?_
  obtain ⟨y13, e14, hf⟩ := pm_lt hf
  refine pm_topI e14 ?_
  refine pm_istore (lv' := [(9, .int y13), (0, .int x0), (2, .long x2), (4, .int x4), (5, .int x5), (6, .int x6), (7, .long x7)]) C dX8_round_86 (pm_nl X (by decide)) rfl ?_
  refine pm_iload C dX8_round_88 rfl ?_
  refine pm_iload C dX8_round_90 rfl ?_
  refine pm_iadd C dX8_round_92 ?_
  refine pm_iload C dX8_round_93 rfl ?_
  refine pm_isub C dX8_round_95 ?_
  refine pm_iconst (v := 2) C dX8_round_96 (by decide) ?_
  refine pm_iload C dX8_round_97 rfl ?_
  refine pm_isub C dX8_round_99 ?_
  refine pm_iload C dX8_round_100 rfl ?_
  refine pm_isub C dX8_round_102 ?_
  obtain ⟨y15, e16, hf⟩ := pm_lt hf
  refine pm_topI e16 ?_
  refine pm_mmaxI C (pm_XR X) dX8_round_103 mtX8_129 (by decide) (by decide) (Nat.le_of_ble_eq_true rfl) (Nat.zero_le _) (Nat.zero_le _) ?_
  obtain ⟨y17, e18, hf⟩ := pm_lt hf
  refine pm_topI e18 ?_
  refine pm_istore (lv' := [(10, .int y17), (9, .int y13), (0, .int x0), (2, .long x2), (4, .int x4), (5, .int x5), (6, .int x6), (7, .long x7)]) C dX8_round_106 (pm_nl X (by decide)) rfl ?_
  refine pm_iload C dX8_round_108 rfl ?_
  refine pm_iload C dX8_round_110 rfl ?_
  refine pm_isub C dX8_round_112 ?_
  obtain ⟨y19, e20, hf⟩ := pm_lt hf
  refine pm_topI e20 ?_
  refine pm_istore (lv' := [(11, .int y19), (10, .int y17), (9, .int y13), (0, .int x0), (2, .long x2), (4, .int x4), (5, .int x5), (6, .int x6), (7, .long x7)]) C dX8_round_113 (pm_nl X (by decide)) rfl ?_
  refine pm_iload C dX8_round_115 rfl ?_
  refine pm_bipush (v := 63) C dX8_round_117 (by decide) ?_
  refine pm_icmp_le (tgt := 125) C dX8_round_119 (by decide) (fun c21 => ?_) (fun c21 => ?_)
  · have hf := pm_it hf c21
    refine pm_iload C dX8_round_125 rfl ?_
    refine pm_if_gt (tgt := 138) C dX8_round_127 (by decide) (fun c22 => ?_) (fun c22 => ?_)
    · have hf := pm_it hf c22
      refine pm_lload_n C dX8_round_138 rfl rfl ?_
      refine pm_iload C dX8_round_139 rfl ?_
      refine pm_lushr C dX8_round_141 ?_
      exact pm_sub [3, 4, 6, 7, 8, 1, 0] rfl (bX8_round_142 C X hf q)
    · have hf := pm_ie hf c22
      refine pm_lload_n C dX8_round_130 rfl rfl ?_
      refine pm_iload C dX8_round_131 rfl ?_
      refine pm_ineg C dX8_round_133 ?_
      refine pm_lshl C dX8_round_134 ?_
      refine pm_goto (tgt := 142) C dX8_round_135 (by decide) ?_
      exact pm_sub [3, 4, 6, 7, 8, 1, 0] rfl (bX8_round_142 C X hf q)
  · have hf := pm_ie hf c21
    refine pm_lload C dX8_round_122 rfl ?_
    subst hf
    exact pm_lret C X dX8_round_124 rfl (Nat.le_refl _) (Nat.le_refl _) q
set_option maxHeartbeats 4000000 in
set_option maxRecDepth 100000 in
theorem bX8_round_51 {g : pm_Gm} {l : Launch} {G : pm_Gl} {Qr : Option Value → pm_H → Prop} (C : pm_C g cX8_round RX8) (X : pm_X g l G mX8_round 0 0 Qr) {h : pm_H} {x0 : Int32} {x2 : Int64} {x4 : Int32} {x5 : Int32} {x6 : Int32} {s0 : Int64} {r : Int64} (hf : fX8_round_b51 x0 x2 x4 x5 x6 s0 = r) (q : Qr (some (.long r)) h) : pm_G g 51 [(0, .int x0), (2, .long x2), (4, .int x4), (5, .int x5), (6, .int x6)] [.long s0] h 0 0 := by
  unfold fX8_round_b51 at hf
  refine pm_lstore (lv' := [(7, .long s0), (0, .int x0), (2, .long x2), (4, .int x4), (5, .int x5), (6, .int x6)]) C dX8_round_51 (pm_nl X (by decide)) rfl ?_
  refine pm_lload_n C dX8_round_53 rfl rfl ?_
  refine pm_lconst (v := 0) C dX8_round_54 (by decide) ?_
  refine pm_lcmp C dX8_round_55 ?_
  refine pm_if_ne (tgt := 62) C dX8_round_56 (by decide) (fun c5 => ?_) (fun c5 => ?_)
  · have hf := pm_ie hf ((fun z => c5 ((pm_lg_eq _ _).mpr z)))
    refine pm_lload_n C dX8_round_62 rfl rfl ?_
    refine pm_lconst (v := 0) C dX8_round_63 (by decide) ?_
    refine pm_lcmp C dX8_round_64 ?_
    refine pm_if_ge (tgt := 79) C dX8_round_65 (by decide) (fun c6 => ?_) (fun c6 => ?_)
    · have hf := pm_it hf ((pm_lg_ge _ _).mp c6)
      exact pm_sub [1, 2, 3, 4, 5, 0] rfl (bX8_round_79 C X hf q)
    · have hf := pm_ie hf ((fun z => c6 ((pm_lg_ge _ _).mpr z)))
      refine pm_lload_n C dX8_round_68 rfl rfl ?_
      refine pm_iconst (v := 1) C dX8_round_69 (by decide) ?_
      refine pm_lushr C dX8_round_70 ?_
      refine pm_lload_n C dX8_round_71 rfl rfl ?_
      refine pm_lconst (v := 1) C dX8_round_72 (by decide) ?_
      refine pm_land C dX8_round_73 ?_
      refine pm_lor C dX8_round_74 ?_
      obtain ⟨y7, e8, hf⟩ := pm_lt hf
      refine pm_topL e8 ?_
      refine pm_lstore_n (lv' := [(2, .long y7), (7, .long s0), (0, .int x0), (4, .int x4), (5, .int x5), (6, .int x6)]) C dX8_round_75 rfl (pm_nl X (by decide)) rfl ?_
      obtain ⟨y9, e10, hf⟩ := pm_lt hf
      refine pm_iinc (v := y9) (lv' := [(4, .int y9), (2, .long y7), (7, .long s0), (0, .int x0), (5, .int x5), (6, .int x6)]) C dX8_round_76 rfl ((congrArg (x4 + ·) (by decide : Int32.ofInt 1 = 1)).trans e10) (pm_nl X (by decide)) rfl ?_
      exact pm_sub [3, 1, 0, 4, 5, 2] rfl (bX8_round_79 C X hf q)
  · have hf := pm_it hf ((pm_lg_eq _ _).mp c5)
    refine pm_lload C dX8_round_59 rfl ?_
    subst hf
    exact pm_lret C X dX8_round_61 rfl (Nat.le_refl _) (Nat.le_refl _) q
set_option maxHeartbeats 4000000 in
set_option maxRecDepth 100000 in
theorem bX8_round_27 {g : pm_Gm} {l : Launch} {G : pm_Gl} {Qr : Option Value → pm_H → Prop} (C : pm_C g cX8_round RX8) (X : pm_X g l G mX8_round 0 0 Qr) {h : pm_H} {x0 : Int32} {x1 : Int32} {x2 : Int64} {x4 : Int32} {x5 : Int32} {s0 : Int32} {r : Int64} (hf : fX8_round_b27 x0 x1 x2 x4 x5 s0 = r) (q : Qr (some (.long r)) h) : pm_G g 27 [(0, .int x0), (1, .int x1), (2, .long x2), (4, .int x4), (5, .int x5)] [.int s0] h 0 0 := by
  unfold fX8_round_b27 at hf
  refine pm_istore (lv' := [(6, .int s0), (0, .int x0), (1, .int x1), (2, .long x2), (4, .int x4), (5, .int x5)]) C dX8_round_27 (pm_nl X (by decide)) rfl ?_
  refine pm_iload_n C dX8_round_29 rfl rfl ?_
  refine pm_if_ne (tgt := 37) C dX8_round_30 (by decide) (fun c3 => ?_) (fun c3 => ?_)
  · have hf := pm_ie hf c3
    refine pm_iload_n C dX8_round_37 rfl rfl ?_
    refine pm_iconst (v := 2) C dX8_round_38 (by decide) ?_
    refine pm_icmp_ne (tgt := 48) C dX8_round_39 (by decide) (fun c4 => ?_) (fun c4 => ?_)
    · have hf := pm_ie hf c4
      refine pm_ldc2 C dX8_round_48 cnX8_72 ?_
      exact pm_sub [1, 3, 4, 5, 0] rfl (bX8_round_51 C X hf q)
    · have hf := pm_it hf c4
      refine pm_ldc2 C dX8_round_42 cnX8_115 ?_
      refine pm_goto (tgt := 51) C dX8_round_45 (by decide) ?_
      exact pm_sub [1, 3, 4, 5, 0] rfl (bX8_round_51 C X hf q)
  · have hf := pm_it hf c3
    refine pm_lconst (v := 0) C dX8_round_33 (by decide) ?_
    refine pm_goto (tgt := 51) C dX8_round_34 (by decide) ?_
    exact pm_sub [1, 3, 4, 5, 0] rfl (bX8_round_51 C X hf q)
set_option maxHeartbeats 4000000 in
set_option maxRecDepth 100000 in
theorem bX8_round_12 {g : pm_Gm} {l : Launch} {G : pm_Gl} {Qr : Option Value → pm_H → Prop} (C : pm_C g cX8_round RX8) (X : pm_X g l G mX8_round 0 0 Qr) {h : pm_H} {x0 : Int32} {x1 : Int32} {x2 : Int64} {x4 : Int32} {s0 : Int32} {r : Int64} (hf : fX8_round_b12 x0 x1 x2 x4 s0 = r) (q : Qr (some (.long r)) h) : pm_G g 12 [(0, .int x0), (1, .int x1), (2, .long x2), (4, .int x4)] [.int s0] h 0 0 := by
  unfold fX8_round_b12 at hf
  refine pm_istore (lv' := [(5, .int s0), (0, .int x0), (1, .int x1), (2, .long x2), (4, .int x4)]) C dX8_round_12 (pm_nl X (by decide)) rfl ?_
  refine pm_iload_n C dX8_round_14 rfl rfl ?_
  refine pm_iconst (v := 2) C dX8_round_15 (by decide) ?_
  refine pm_icmp_ne (tgt := 24) C dX8_round_16 (by decide) (fun c2 => ?_) (fun c2 => ?_)
  · have hf := pm_ie hf c2
    refine pm_sipush (v := 1023) C dX8_round_24 (by decide) ?_
    exact pm_sub [1, 2, 3, 4, 0] rfl (bX8_round_27 C X hf q)
  · have hf := pm_it hf c2
    refine pm_bipush (v := 127) C dX8_round_19 (by decide) ?_
    refine pm_goto (tgt := 27) C dX8_round_21 (by decide) ?_
    exact pm_sub [1, 2, 3, 4, 0] rfl (bX8_round_27 C X hf q)
set_option maxHeartbeats 4000000 in
set_option maxRecDepth 100000 in
theorem ctX8_round {l : Launch} {G : pm_Gl} {h : pm_H} {p1 : Int32} {p2 : Int32} {p3 : Int64} {p4 : Int32} {r : Int64} {Qr : Option Value → pm_H → Prop} (hf : fX8_round p1 p2 p3 p4 = r) (q : Qr (some (.long r)) h) : pm_Ct l G mX8_round [.int p1, .int p2, .long p3, .int p4] h 0 0 Qr := by
  refine pm_body pnX8 (Nat.le_of_ble_eq_true rfl) (fun g C X => ?_)
  have C : pm_C g cX8_round RX8 := C
  show pm_G g 0 [(0, .int p1), (1, .int p2), (2, .long p3), (4, .int p4)] [] h 0 0
  unfold fX8_round at hf
  refine pm_iload_n C dX8_round_0 rfl rfl ?_
  refine pm_iconst (v := 2) C dX8_round_1 (by decide) ?_
  refine pm_icmp_ne (tgt := 10) C dX8_round_2 (by decide) (fun c1 => ?_) (fun c1 => ?_)
  · have hf := pm_ie hf c1
    refine pm_bipush (v := 53) C dX8_round_10 (by decide) ?_
    exact pm_sub [0, 1, 2, 3] rfl (bX8_round_12 C X hf q)
  · have hf := pm_it hf c1
    refine pm_bipush (v := 24) C dX8_round_5 (by decide) ?_
    refine pm_goto (tgt := 12) C dX8_round_7 (by decide) ?_
    exact pm_sub [0, 1, 2, 3] rfl (bX8_round_12 C X hf q)
theorem dX8_scale_0 : decode cX8_scale 0 = .ok (.iload_n 0, 1) := by decide +kernel
theorem dX8_scale_1 : decode cX8_scale 1 = .ok (.iconst 2, 1) := by decide +kernel
theorem dX8_scale_2 : decode cX8_scale 2 = .ok (.if_icmp .ne 8, 3) := by decide +kernel
theorem dX8_scale_5 : decode cX8_scale 5 = .ok (.bipush 24, 2) := by decide +kernel
theorem dX8_scale_7 : decode cX8_scale 7 = .ok (.goto 5, 3) := by decide +kernel
theorem dX8_scale_10 : decode cX8_scale 10 = .ok (.bipush 53, 2) := by decide +kernel
theorem dX8_scale_12 : decode cX8_scale 12 = .ok (.istore_n 3, 1) := by decide +kernel
theorem dX8_scale_13 : decode cX8_scale 13 = .ok (.lload_n 1, 1) := by decide +kernel
theorem dX8_scale_14 : decode cX8_scale 14 = .ok (.iload_n 0, 1) := by decide +kernel
theorem dX8_scale_15 : decode cX8_scale 15 = .ok (.iconst 2, 1) := by decide +kernel
theorem dX8_scale_16 : decode cX8_scale 16 = .ok (.if_icmp .ne 9, 3) := by decide +kernel
theorem dX8_scale_19 : decode cX8_scale 19 = .ok (.ldc2_w 115, 3) := by decide +kernel
theorem dX8_scale_22 : decode cX8_scale 22 = .ok (.goto 6, 3) := by decide +kernel
theorem dX8_scale_25 : decode cX8_scale 25 = .ok (.ldc2_w 72, 3) := by decide +kernel
theorem dX8_scale_28 : decode cX8_scale 28 = .ok (.ldc2_w 113, 3) := by decide +kernel
theorem dX8_scale_31 : decode cX8_scale 31 = .ok (.lxor, 1) := by decide +kernel
theorem dX8_scale_32 : decode cX8_scale 32 = .ok (.land, 1) := by decide +kernel
theorem dX8_scale_33 : decode cX8_scale 33 = .ok (.lstore 4, 2) := by decide +kernel
theorem dX8_scale_35 : decode cX8_scale 35 = .ok (.lload 4, 2) := by decide +kernel
theorem dX8_scale_37 : decode cX8_scale 37 = .ok (.iload_n 3, 1) := by decide +kernel
theorem dX8_scale_38 : decode cX8_scale 38 = .ok (.iconst 1, 1) := by decide +kernel
theorem dX8_scale_39 : decode cX8_scale 39 = .ok (.isub, 1) := by decide +kernel
theorem dX8_scale_40 : decode cX8_scale 40 = .ok (.lushr, 1) := by decide +kernel
theorem dX8_scale_41 : decode cX8_scale 41 = .ok (.l2i, 1) := by decide +kernel
theorem dX8_scale_42 : decode cX8_scale 42 = .ok (.istore 6, 2) := by decide +kernel
theorem dX8_scale_44 : decode cX8_scale 44 = .ok (.lload 4, 2) := by decide +kernel
theorem dX8_scale_46 : decode cX8_scale 46 = .ok (.lconst 1, 1) := by decide +kernel
theorem dX8_scale_47 : decode cX8_scale 47 = .ok (.iload_n 3, 1) := by decide +kernel
theorem dX8_scale_48 : decode cX8_scale 48 = .ok (.iconst 1, 1) := by decide +kernel
theorem dX8_scale_49 : decode cX8_scale 49 = .ok (.isub, 1) := by decide +kernel
theorem dX8_scale_50 : decode cX8_scale 50 = .ok (.lshl, 1) := by decide +kernel
theorem dX8_scale_51 : decode cX8_scale 51 = .ok (.lconst 1, 1) := by decide +kernel
theorem dX8_scale_52 : decode cX8_scale 52 = .ok (.lsub, 1) := by decide +kernel
theorem dX8_scale_53 : decode cX8_scale 53 = .ok (.land, 1) := by decide +kernel
theorem dX8_scale_54 : decode cX8_scale 54 = .ok (.lstore 7, 2) := by decide +kernel
theorem dX8_scale_56 : decode cX8_scale 56 = .ok (.iload 6, 2) := by decide +kernel
theorem dX8_scale_58 : decode cX8_scale 58 = .ok (.ifCond .eq 13, 3) := by decide +kernel
theorem dX8_scale_61 : decode cX8_scale 61 = .ok (.lload 7, 2) := by decide +kernel
theorem dX8_scale_63 : decode cX8_scale 63 = .ok (.lconst 1, 1) := by decide +kernel
theorem dX8_scale_64 : decode cX8_scale 64 = .ok (.iload_n 3, 1) := by decide +kernel
theorem dX8_scale_65 : decode cX8_scale 65 = .ok (.iconst 1, 1) := by decide +kernel
theorem dX8_scale_66 : decode cX8_scale 66 = .ok (.isub, 1) := by decide +kernel
theorem dX8_scale_67 : decode cX8_scale 67 = .ok (.lshl, 1) := by decide +kernel
theorem dX8_scale_68 : decode cX8_scale 68 = .ok (.lor, 1) := by decide +kernel
theorem dX8_scale_69 : decode cX8_scale 69 = .ok (.lstore 7, 2) := by decide +kernel
theorem dX8_scale_71 : decode cX8_scale 71 = .ok (.iconst 0, 1) := by decide +kernel
theorem dX8_scale_72 : decode cX8_scale 72 = .ok (.lload 7, 2) := by decide +kernel
theorem dX8_scale_74 : decode cX8_scale 74 = .ok (.invokestatic 102, 3) := by decide +kernel
theorem dX8_scale_77 : decode cX8_scale 77 = .ok (.bipush 11, 2) := by decide +kernel
theorem dX8_scale_79 : decode cX8_scale 79 = .ok (.isub, 1) := by decide +kernel
theorem dX8_scale_80 : decode cX8_scale 80 = .ok (.invokestatic 129, 3) := by decide +kernel
theorem dX8_scale_83 : decode cX8_scale 83 = .ok (.istore 9, 2) := by decide +kernel
theorem dX8_scale_85 : decode cX8_scale 85 = .ok (.iconst 1, 1) := by decide +kernel
theorem dX8_scale_86 : decode cX8_scale 86 = .ok (.iload 6, 2) := by decide +kernel
theorem dX8_scale_88 : decode cX8_scale 88 = .ok (.invokestatic 129, 3) := by decide +kernel
theorem dX8_scale_91 : decode cX8_scale 91 = .ok (.iconst 1, 1) := by decide +kernel
theorem dX8_scale_92 : decode cX8_scale 92 = .ok (.iadd, 1) := by decide +kernel
theorem dX8_scale_93 : decode cX8_scale 93 = .ok (.iload_n 0, 1) := by decide +kernel
theorem dX8_scale_94 : decode cX8_scale 94 = .ok (.iconst 2, 1) := by decide +kernel
theorem dX8_scale_95 : decode cX8_scale 95 = .ok (.if_icmp .ne 8, 3) := by decide +kernel
theorem dX8_scale_98 : decode cX8_scale 98 = .ok (.bipush 127, 2) := by decide +kernel
theorem dX8_scale_100 : decode cX8_scale 100 = .ok (.goto 6, 3) := by decide +kernel
theorem dX8_scale_103 : decode cX8_scale 103 = .ok (.sipush 1023, 3) := by decide +kernel
theorem dX8_scale_106 : decode cX8_scale 106 = .ok (.isub, 1) := by decide +kernel
theorem dX8_scale_107 : decode cX8_scale 107 = .ok (.iload_n 3, 1) := by decide +kernel
theorem dX8_scale_108 : decode cX8_scale 108 = .ok (.isub, 1) := by decide +kernel
theorem dX8_scale_109 : decode cX8_scale 109 = .ok (.iload 9, 2) := by decide +kernel
theorem dX8_scale_111 : decode cX8_scale 111 = .ok (.isub, 1) := by decide +kernel
theorem dX8_scale_112 : decode cX8_scale 112 = .ok (.ireturn, 1) := by decide +kernel
def fX8_scale_b28 (x0 : Int32) (x3 : Int32) (s0 : Int64) (s1 : Int64) : Int32 := pm_let (s1 &&& (s0 ^^^ (-1))) fun y3 => pm_let (((y3.toUInt64 >>> ((x3 - 1).toInt64.toUInt64 &&& Int64.toUInt64 63)).toInt64).toInt32) fun y5 => pm_let (y3 &&& (((1 : Int64) <<< ((x3 - 1).toInt64 &&& 63)) - 1)) fun y7 => if y5 = 0 then (pm_let (fJ13_numberOfLeadingZeros_95d88 y7) fun v10 => pm_let (v10 - 11) fun y12 => pm_let (if (0 : Int32) < y12 then y12 else (0 : Int32)) fun y14 => if x0 = 2 then (((((if (1 : Int32) < y5 then y5 else (1 : Int32)) + 1) - 127) - x3) - y14) else (((((if (1 : Int32) < y5 then y5 else (1 : Int32)) + 1) - 1023) - x3) - y14)) else (pm_let (y7 ||| ((1 : Int64) <<< ((x3 - 1).toInt64 &&& 63))) fun y17 => pm_let (fJ13_numberOfLeadingZeros_95d88 y17) fun v19 => pm_let (v19 - 11) fun y21 => pm_let (if (0 : Int32) < y21 then y21 else (0 : Int32)) fun y23 => if x0 = 2 then (((((if (1 : Int32) < y5 then y5 else (1 : Int32)) + 1) - 127) - x3) - y23) else (((((if (1 : Int32) < y5 then y5 else (1 : Int32)) + 1) - 1023) - x3) - y23))
def fX8_scale_b12 (x0 : Int32) (x1 : Int64) (s0 : Int32) : Int32 := if x0 = 2 then (fX8_scale_b28 x0 s0 2147483648 x1) else (fX8_scale_b28 x0 s0 (-9223372036854775808) x1)
def fX8_scale (p1 : Int32) (p2 : Int64) : Int32 := if p1 = 2 then (fX8_scale_b12 p1 p2 24) else (fX8_scale_b12 p1 p2 53)
set_option maxHeartbeats 4000000 in
set_option maxRecDepth 100000 in
theorem bX8_scale_28 {g : pm_Gm} {l : Launch} {G : pm_Gl} {Qr : Option Value → pm_H → Prop} (C : pm_C g cX8_scale RX8) (X : pm_X g l G mX8_scale 0 0 Qr) {h : pm_H} {x0 : Int32} {x3 : Int32} {s0 : Int64} {s1 : Int64} {r : Int32} (hf : fX8_scale_b28 x0 x3 s0 s1 = r) (q : Qr (some (.int r)) h) : pm_G g 28 [(0, .int x0), (3, .int x3)] [.long s0, .long s1] h 0 0 := by
  unfold fX8_scale_b28 at hf
  refine pm_ldc2 C dX8_scale_28 cnX8_113 ?_
  refine pm_lxor C dX8_scale_31 ?_
  refine pm_land C dX8_scale_32 ?_
  obtain ⟨y3, e4, hf⟩ := pm_lt hf
  refine pm_topL e4 ?_
  refine pm_lstore (lv' := [(4, .long y3), (0, .int x0), (3, .int x3)]) C dX8_scale_33 (pm_nl X (by decide)) rfl ?_
  refine pm_lload C dX8_scale_35 rfl ?_
  refine pm_iload_n C dX8_scale_37 rfl rfl ?_
  refine pm_iconst (v := 1) C dX8_scale_38 (by decide) ?_
  refine pm_isub C dX8_scale_39 ?_
  refine pm_lushr C dX8_scale_40 ?_
  refine pm_l2i C dX8_scale_41 ?_
  obtain ⟨y5, e6, hf⟩ := pm_lt hf
  refine pm_topI e6 ?_
  refine pm_istore (lv' := [(6, .int y5), (4, .long y3), (0, .int x0), (3, .int x3)]) C dX8_scale_42 (pm_nl X (by decide)) rfl ?_
  refine pm_lload C dX8_scale_44 rfl ?_
  refine pm_lconst (v := 1) C dX8_scale_46 (by decide) ?_
  refine pm_iload_n C dX8_scale_47 rfl rfl ?_
  refine pm_iconst (v := 1) C dX8_scale_48 (by decide) ?_
  refine pm_isub C dX8_scale_49 ?_
  refine pm_lshl C dX8_scale_50 ?_
  refine pm_lconst (v := 1) C dX8_scale_51 (by decide) ?_
  refine pm_lsub C dX8_scale_52 ?_
  refine pm_land C dX8_scale_53 ?_
  obtain ⟨y7, e8, hf⟩ := pm_lt hf
  refine pm_topL e8 ?_
  refine pm_lstore (lv' := [(7, .long y7), (6, .int y5), (4, .long y3), (0, .int x0), (3, .int x3)]) C dX8_scale_54 (pm_nl X (by decide)) rfl ?_
  refine pm_iload C dX8_scale_56 rfl ?_
  refine pm_if_eq (tgt := 71) C dX8_scale_58 (by decide) (fun c9 => ?_) (fun c9 => ?_)
  · have hf := pm_it hf c9
    refine pm_iconst (v := 0) C dX8_scale_71 (by decide) ?_
    refine pm_lload C dX8_scale_72 rfl ?_
    obtain ⟨v10, e11, hf⟩ := pm_lt hf
    refine pm_callS (as := [.long y7]) (st := [.int 0]) C X dX8_scale_74 lnX8_102 myJ13_numberOfLeadingZeros_95d88 stJ13_numberOfLeadingZeros_95d88 ⟨by decide, by decide⟩ rfl rfl (Nat.le_of_ble_eq_true rfl) (Nat.le_refl _) (Nat.le_refl _) (ctJ13_numberOfLeadingZeros_95d88 e11 ?_)
    show pm_G g 77 [(7, .long y7), (6, .int y5), (4, .long y3), (0, .int x0), (3, .int x3)] [.int v10, .int 0] h 0 0
    refine pm_bipush (v := 11) C dX8_scale_77 (by decide) ?_
    refine pm_isub C dX8_scale_79 ?_
    obtain ⟨y12, e13, hf⟩ := pm_lt hf
    refine pm_topI e13 ?_
    refine pm_mmaxI C (pm_XR X) dX8_scale_80 mtX8_129 (by decide) (by decide) (Nat.le_of_ble_eq_true rfl) (Nat.zero_le _) (Nat.zero_le _) ?_
    obtain ⟨y14, e15, hf⟩ := pm_lt hf
    refine pm_topI e15 ?_
    refine pm_istore (lv' := [(9, .int y14), (7, .long y7), (6, .int y5), (4, .long y3), (0, .int x0), (3, .int x3)]) C dX8_scale_83 (pm_nl X (by decide)) rfl ?_
    refine pm_iconst (v := 1) C dX8_scale_85 (by decide) ?_
    refine pm_iload C dX8_scale_86 rfl ?_
    refine pm_mmaxI C (pm_XR X) dX8_scale_88 mtX8_129 (by decide) (by decide) (Nat.le_of_ble_eq_true rfl) (Nat.zero_le _) (Nat.zero_le _) ?_
    refine pm_iconst (v := 1) C dX8_scale_91 (by decide) ?_
    refine pm_iadd C dX8_scale_92 ?_
    refine pm_iload_n C dX8_scale_93 rfl rfl ?_
    refine pm_iconst (v := 2) C dX8_scale_94 (by decide) ?_
    refine pm_icmp_ne (tgt := 103) C dX8_scale_95 (by decide) (fun c16 => ?_) (fun c16 => ?_)
    · have hf := pm_ie hf c16
      refine pm_sipush (v := 1023) C dX8_scale_103 (by decide) ?_
      refine pm_isub C dX8_scale_106 ?_
      refine pm_iload_n C dX8_scale_107 rfl rfl ?_
      refine pm_isub C dX8_scale_108 ?_
      refine pm_iload C dX8_scale_109 rfl ?_
      refine pm_isub C dX8_scale_111 ?_
      subst hf
      exact pm_iret C X dX8_scale_112 rfl (Nat.le_refl _) (Nat.le_refl _) q
    · have hf := pm_it hf c16
      refine pm_bipush (v := 127) C dX8_scale_98 (by decide) ?_
      refine pm_goto (tgt := 106) C dX8_scale_100 (by decide) ?_
      refine pm_isub C dX8_scale_106 ?_
      refine pm_iload_n C dX8_scale_107 rfl rfl ?_
      refine pm_isub C dX8_scale_108 ?_
      refine pm_iload C dX8_scale_109 rfl ?_
      refine pm_isub C dX8_scale_111 ?_
      subst hf
      exact pm_iret C X dX8_scale_112 rfl (Nat.le_refl _) (Nat.le_refl _) q
  · have hf := pm_ie hf c9
    refine pm_lload C dX8_scale_61 rfl ?_
    refine pm_lconst (v := 1) C dX8_scale_63 (by decide) ?_
    refine pm_iload_n C dX8_scale_64 rfl rfl ?_
    refine pm_iconst (v := 1) C dX8_scale_65 (by decide) ?_
    refine pm_isub C dX8_scale_66 ?_
    refine pm_lshl C dX8_scale_67 ?_
    refine pm_lor C dX8_scale_68 ?_
    obtain ⟨y17, e18, hf⟩ := pm_lt hf
    refine pm_topL e18 ?_
    refine pm_lstore (lv' := [(7, .long y17), (6, .int y5), (4, .long y3), (0, .int x0), (3, .int x3)]) C dX8_scale_69 (pm_nl X (by decide)) rfl ?_
    refine pm_iconst (v := 0) C dX8_scale_71 (by decide) ?_
    refine pm_lload C dX8_scale_72 rfl ?_
    obtain ⟨v19, e20, hf⟩ := pm_lt hf
    refine pm_callS (as := [.long y17]) (st := [.int 0]) C X dX8_scale_74 lnX8_102 myJ13_numberOfLeadingZeros_95d88 stJ13_numberOfLeadingZeros_95d88 ⟨by decide, by decide⟩ rfl rfl (Nat.le_of_ble_eq_true rfl) (Nat.le_refl _) (Nat.le_refl _) (ctJ13_numberOfLeadingZeros_95d88 e20 ?_)
    show pm_G g 77 [(7, .long y17), (6, .int y5), (4, .long y3), (0, .int x0), (3, .int x3)] [.int v19, .int 0] h 0 0
    refine pm_bipush (v := 11) C dX8_scale_77 (by decide) ?_
    refine pm_isub C dX8_scale_79 ?_
    obtain ⟨y21, e22, hf⟩ := pm_lt hf
    refine pm_topI e22 ?_
    refine pm_mmaxI C (pm_XR X) dX8_scale_80 mtX8_129 (by decide) (by decide) (Nat.le_of_ble_eq_true rfl) (Nat.zero_le _) (Nat.zero_le _) ?_
    obtain ⟨y23, e24, hf⟩ := pm_lt hf
    refine pm_topI e24 ?_
    refine pm_istore (lv' := [(9, .int y23), (7, .long y17), (6, .int y5), (4, .long y3), (0, .int x0), (3, .int x3)]) C dX8_scale_83 (pm_nl X (by decide)) rfl ?_
    refine pm_iconst (v := 1) C dX8_scale_85 (by decide) ?_
    refine pm_iload C dX8_scale_86 rfl ?_
    refine pm_mmaxI C (pm_XR X) dX8_scale_88 mtX8_129 (by decide) (by decide) (Nat.le_of_ble_eq_true rfl) (Nat.zero_le _) (Nat.zero_le _) ?_
    refine pm_iconst (v := 1) C dX8_scale_91 (by decide) ?_
    refine pm_iadd C dX8_scale_92 ?_
    refine pm_iload_n C dX8_scale_93 rfl rfl ?_
    refine pm_iconst (v := 2) C dX8_scale_94 (by decide) ?_
    refine pm_icmp_ne (tgt := 103) C dX8_scale_95 (by decide) (fun c25 => ?_) (fun c25 => ?_)
    · have hf := pm_ie hf c25
      refine pm_sipush (v := 1023) C dX8_scale_103 (by decide) ?_
      refine pm_isub C dX8_scale_106 ?_
      refine pm_iload_n C dX8_scale_107 rfl rfl ?_
      refine pm_isub C dX8_scale_108 ?_
      refine pm_iload C dX8_scale_109 rfl ?_
      refine pm_isub C dX8_scale_111 ?_
      subst hf
      exact pm_iret C X dX8_scale_112 rfl (Nat.le_refl _) (Nat.le_refl _) q
    · have hf := pm_it hf c25
      refine pm_bipush (v := 127) C dX8_scale_98 (by decide) ?_
      refine pm_goto (tgt := 106) C dX8_scale_100 (by decide) ?_
      refine pm_isub C dX8_scale_106 ?_
      refine pm_iload_n C dX8_scale_107 rfl rfl ?_
      refine pm_isub C dX8_scale_108 ?_
      refine pm_iload C dX8_scale_109 rfl ?_
      refine pm_isub C dX8_scale_111 ?_
      subst hf
      exact pm_iret C X dX8_scale_112 rfl (Nat.le_refl _) (Nat.le_refl _) q
set_option maxHeartbeats 4000000 in
set_option maxRecDepth 100000 in
theorem bX8_scale_12 {g : pm_Gm} {l : Launch} {G : pm_Gl} {Qr : Option Value → pm_H → Prop} (C : pm_C g cX8_scale RX8) (X : pm_X g l G mX8_scale 0 0 Qr) {h : pm_H} {x0 : Int32} {x1 : Int64} {s0 : Int32} {r : Int32} (hf : fX8_scale_b12 x0 x1 s0 = r) (q : Qr (some (.int r)) h) : pm_G g 12 [(0, .int x0), (1, .long x1)] [.int s0] h 0 0 := by
  unfold fX8_scale_b12 at hf
  refine pm_istore_n (lv' := [(3, .int s0), (0, .int x0), (1, .long x1)]) C dX8_scale_12 rfl (pm_nl X (by decide)) rfl ?_
  refine pm_lload_n C dX8_scale_13 rfl rfl ?_
  refine pm_iload_n C dX8_scale_14 rfl rfl ?_
  refine pm_iconst (v := 2) C dX8_scale_15 (by decide) ?_
  refine pm_icmp_ne (tgt := 25) C dX8_scale_16 (by decide) (fun c2 => ?_) (fun c2 => ?_)
  · have hf := pm_ie hf c2
    refine pm_ldc2 C dX8_scale_25 cnX8_72 ?_
    exact pm_sub [1, 0] rfl (bX8_scale_28 C X hf q)
  · have hf := pm_it hf c2
    refine pm_ldc2 C dX8_scale_19 cnX8_115 ?_
    refine pm_goto (tgt := 28) C dX8_scale_22 (by decide) ?_
    exact pm_sub [1, 0] rfl (bX8_scale_28 C X hf q)
set_option maxHeartbeats 4000000 in
set_option maxRecDepth 100000 in
theorem ctX8_scale {l : Launch} {G : pm_Gl} {h : pm_H} {p1 : Int32} {p2 : Int64} {r : Int32} {Qr : Option Value → pm_H → Prop} (hf : fX8_scale p1 p2 = r) (q : Qr (some (.int r)) h) : pm_Ct l G mX8_scale [.int p1, .long p2] h 0 0 Qr := by
  refine pm_body pnX8 (Nat.le_of_ble_eq_true rfl) (fun g C X => ?_)
  have C : pm_C g cX8_scale RX8 := C
  show pm_G g 0 [(0, .int p1), (1, .long p2)] [] h 0 0
  unfold fX8_scale at hf
  refine pm_iload_n C dX8_scale_0 rfl rfl ?_
  refine pm_iconst (v := 2) C dX8_scale_1 (by decide) ?_
  refine pm_icmp_ne (tgt := 10) C dX8_scale_2 (by decide) (fun c1 => ?_) (fun c1 => ?_)
  · have hf := pm_ie hf c1
    refine pm_bipush (v := 53) C dX8_scale_10 (by decide) ?_
    exact pm_sub [0, 1] rfl (bX8_scale_12 C X hf q)
  · have hf := pm_it hf c1
    refine pm_bipush (v := 24) C dX8_scale_5 (by decide) ?_
    refine pm_goto (tgt := 12) C dX8_scale_7 (by decide) ?_
    exact pm_sub [0, 1] rfl (bX8_scale_12 C X hf q)
theorem dX8_significand_0 : decode cX8_significand 0 = .ok (.iload_n 0, 1) := by decide +kernel
theorem dX8_significand_1 : decode cX8_significand 1 = .ok (.iconst 2, 1) := by decide +kernel
theorem dX8_significand_2 : decode cX8_significand 2 = .ok (.if_icmp .ne 8, 3) := by decide +kernel
theorem dX8_significand_5 : decode cX8_significand 5 = .ok (.bipush 24, 2) := by decide +kernel
theorem dX8_significand_7 : decode cX8_significand 7 = .ok (.goto 5, 3) := by decide +kernel
theorem dX8_significand_10 : decode cX8_significand 10 = .ok (.bipush 53, 2) := by decide +kernel
theorem dX8_significand_12 : decode cX8_significand 12 = .ok (.istore_n 3, 1) := by decide +kernel
theorem dX8_significand_13 : decode cX8_significand 13 = .ok (.lload_n 1, 1) := by decide +kernel
theorem dX8_significand_14 : decode cX8_significand 14 = .ok (.iload_n 0, 1) := by decide +kernel
theorem dX8_significand_15 : decode cX8_significand 15 = .ok (.iconst 2, 1) := by decide +kernel
theorem dX8_significand_16 : decode cX8_significand 16 = .ok (.if_icmp .ne 9, 3) := by decide +kernel
theorem dX8_significand_19 : decode cX8_significand 19 = .ok (.ldc2_w 115, 3) := by decide +kernel
theorem dX8_significand_22 : decode cX8_significand 22 = .ok (.goto 6, 3) := by decide +kernel
theorem dX8_significand_25 : decode cX8_significand 25 = .ok (.ldc2_w 72, 3) := by decide +kernel
theorem dX8_significand_28 : decode cX8_significand 28 = .ok (.ldc2_w 113, 3) := by decide +kernel
theorem dX8_significand_31 : decode cX8_significand 31 = .ok (.lxor, 1) := by decide +kernel
theorem dX8_significand_32 : decode cX8_significand 32 = .ok (.land, 1) := by decide +kernel
theorem dX8_significand_33 : decode cX8_significand 33 = .ok (.lstore 4, 2) := by decide +kernel
theorem dX8_significand_35 : decode cX8_significand 35 = .ok (.lload 4, 2) := by decide +kernel
theorem dX8_significand_37 : decode cX8_significand 37 = .ok (.lconst 1, 1) := by decide +kernel
theorem dX8_significand_38 : decode cX8_significand 38 = .ok (.iload_n 3, 1) := by decide +kernel
theorem dX8_significand_39 : decode cX8_significand 39 = .ok (.iconst 1, 1) := by decide +kernel
theorem dX8_significand_40 : decode cX8_significand 40 = .ok (.isub, 1) := by decide +kernel
theorem dX8_significand_41 : decode cX8_significand 41 = .ok (.lshl, 1) := by decide +kernel
theorem dX8_significand_42 : decode cX8_significand 42 = .ok (.lconst 1, 1) := by decide +kernel
theorem dX8_significand_43 : decode cX8_significand 43 = .ok (.lsub, 1) := by decide +kernel
theorem dX8_significand_44 : decode cX8_significand 44 = .ok (.land, 1) := by decide +kernel
theorem dX8_significand_45 : decode cX8_significand 45 = .ok (.lstore 6, 2) := by decide +kernel
theorem dX8_significand_47 : decode cX8_significand 47 = .ok (.lload 4, 2) := by decide +kernel
theorem dX8_significand_49 : decode cX8_significand 49 = .ok (.iload_n 3, 1) := by decide +kernel
theorem dX8_significand_50 : decode cX8_significand 50 = .ok (.iconst 1, 1) := by decide +kernel
theorem dX8_significand_51 : decode cX8_significand 51 = .ok (.isub, 1) := by decide +kernel
theorem dX8_significand_52 : decode cX8_significand 52 = .ok (.lushr, 1) := by decide +kernel
theorem dX8_significand_53 : decode cX8_significand 53 = .ok (.lconst 0, 1) := by decide +kernel
theorem dX8_significand_54 : decode cX8_significand 54 = .ok (.lcmp, 1) := by decide +kernel
theorem dX8_significand_55 : decode cX8_significand 55 = .ok (.ifCond .eq 13, 3) := by decide +kernel
theorem dX8_significand_58 : decode cX8_significand 58 = .ok (.lload 6, 2) := by decide +kernel
theorem dX8_significand_60 : decode cX8_significand 60 = .ok (.lconst 1, 1) := by decide +kernel
theorem dX8_significand_61 : decode cX8_significand 61 = .ok (.iload_n 3, 1) := by decide +kernel
theorem dX8_significand_62 : decode cX8_significand 62 = .ok (.iconst 1, 1) := by decide +kernel
theorem dX8_significand_63 : decode cX8_significand 63 = .ok (.isub, 1) := by decide +kernel
theorem dX8_significand_64 : decode cX8_significand 64 = .ok (.lshl, 1) := by decide +kernel
theorem dX8_significand_65 : decode cX8_significand 65 = .ok (.lor, 1) := by decide +kernel
theorem dX8_significand_66 : decode cX8_significand 66 = .ok (.lstore 6, 2) := by decide +kernel
theorem dX8_significand_68 : decode cX8_significand 68 = .ok (.lload 6, 2) := by decide +kernel
theorem dX8_significand_70 : decode cX8_significand 70 = .ok (.iconst 0, 1) := by decide +kernel
theorem dX8_significand_71 : decode cX8_significand 71 = .ok (.lload 6, 2) := by decide +kernel
theorem dX8_significand_73 : decode cX8_significand 73 = .ok (.invokestatic 102, 3) := by decide +kernel
theorem dX8_significand_76 : decode cX8_significand 76 = .ok (.bipush 11, 2) := by decide +kernel
theorem dX8_significand_78 : decode cX8_significand 78 = .ok (.isub, 1) := by decide +kernel
theorem dX8_significand_79 : decode cX8_significand 79 = .ok (.invokestatic 129, 3) := by decide +kernel
theorem dX8_significand_82 : decode cX8_significand 82 = .ok (.lshl, 1) := by decide +kernel
theorem dX8_significand_83 : decode cX8_significand 83 = .ok (.lreturn, 1) := by decide +kernel
def fX8_significand_b28 (x3 : Int32) (s0 : Int64) (s1 : Int64) : Int64 := pm_let (s1 &&& (s0 ^^^ (-1))) fun y3 => pm_let (y3 &&& (((1 : Int64) <<< ((x3 - 1).toInt64 &&& 63)) - 1)) fun y5 => if ((y3.toUInt64 >>> ((x3 - 1).toInt64.toUInt64 &&& Int64.toUInt64 63)).toInt64) = 0 then (pm_let (fJ13_numberOfLeadingZeros_95d88 y5) fun v8 => pm_let (v8 - 11) fun y10 => y5 <<< (((if (0 : Int32) < y10 then y10 else (0 : Int32))).toInt64 &&& 63)) else (pm_let (y5 ||| ((1 : Int64) <<< ((x3 - 1).toInt64 &&& 63))) fun y12 => pm_let (fJ13_numberOfLeadingZeros_95d88 y12) fun v14 => pm_let (v14 - 11) fun y16 => y12 <<< (((if (0 : Int32) < y16 then y16 else (0 : Int32))).toInt64 &&& 63))
def fX8_significand_b12 (x0 : Int32) (x1 : Int64) (s0 : Int32) : Int64 := if x0 = 2 then (fX8_significand_b28 s0 2147483648 x1) else (fX8_significand_b28 s0 (-9223372036854775808) x1)
def fX8_significand (p1 : Int32) (p2 : Int64) : Int64 := if p1 = 2 then (fX8_significand_b12 p1 p2 24) else (fX8_significand_b12 p1 p2 53)
set_option maxHeartbeats 4000000 in
set_option maxRecDepth 100000 in
theorem bX8_significand_28 {g : pm_Gm} {l : Launch} {G : pm_Gl} {Qr : Option Value → pm_H → Prop} (C : pm_C g cX8_significand RX8) (X : pm_X g l G mX8_significand 0 0 Qr) {h : pm_H} {x3 : Int32} {s0 : Int64} {s1 : Int64} {r : Int64} (hf : fX8_significand_b28 x3 s0 s1 = r) (q : Qr (some (.long r)) h) : pm_G g 28 [(3, .int x3)] [.long s0, .long s1] h 0 0 := by
  unfold fX8_significand_b28 at hf
  refine pm_ldc2 C dX8_significand_28 cnX8_113 ?_
  refine pm_lxor C dX8_significand_31 ?_
  refine pm_land C dX8_significand_32 ?_
  obtain ⟨y3, e4, hf⟩ := pm_lt hf
  refine pm_topL e4 ?_
  refine pm_lstore (lv' := [(4, .long y3), (3, .int x3)]) C dX8_significand_33 (pm_nl X (by decide)) rfl ?_
  refine pm_lload C dX8_significand_35 rfl ?_
  refine pm_lconst (v := 1) C dX8_significand_37 (by decide) ?_
  refine pm_iload_n C dX8_significand_38 rfl rfl ?_
  refine pm_iconst (v := 1) C dX8_significand_39 (by decide) ?_
  refine pm_isub C dX8_significand_40 ?_
  refine pm_lshl C dX8_significand_41 ?_
  refine pm_lconst (v := 1) C dX8_significand_42 (by decide) ?_
  refine pm_lsub C dX8_significand_43 ?_
  refine pm_land C dX8_significand_44 ?_
  obtain ⟨y5, e6, hf⟩ := pm_lt hf
  refine pm_topL e6 ?_
  refine pm_lstore (lv' := [(6, .long y5), (4, .long y3), (3, .int x3)]) C dX8_significand_45 (pm_nl X (by decide)) rfl ?_
  refine pm_lload C dX8_significand_47 rfl ?_
  refine pm_iload_n C dX8_significand_49 rfl rfl ?_
  refine pm_iconst (v := 1) C dX8_significand_50 (by decide) ?_
  refine pm_isub C dX8_significand_51 ?_
  refine pm_lushr C dX8_significand_52 ?_
  refine pm_lconst (v := 0) C dX8_significand_53 (by decide) ?_
  refine pm_lcmp C dX8_significand_54 ?_
  refine pm_if_eq (tgt := 68) C dX8_significand_55 (by decide) (fun c7 => ?_) (fun c7 => ?_)
  · have hf := pm_it hf ((pm_lg_eq _ _).mp c7)
    refine pm_lload C dX8_significand_68 rfl ?_
    refine pm_iconst (v := 0) C dX8_significand_70 (by decide) ?_
    refine pm_lload C dX8_significand_71 rfl ?_
    obtain ⟨v8, e9, hf⟩ := pm_lt hf
    refine pm_callS (as := [.long y5]) (st := [.int 0, .long y5]) C X dX8_significand_73 lnX8_102 myJ13_numberOfLeadingZeros_95d88 stJ13_numberOfLeadingZeros_95d88 ⟨by decide, by decide⟩ rfl rfl (Nat.le_of_ble_eq_true rfl) (Nat.le_refl _) (Nat.le_refl _) (ctJ13_numberOfLeadingZeros_95d88 e9 ?_)
    show pm_G g 76 [(6, .long y5), (4, .long y3), (3, .int x3)] [.int v8, .int 0, .long y5] h 0 0
    refine pm_bipush (v := 11) C dX8_significand_76 (by decide) ?_
    refine pm_isub C dX8_significand_78 ?_
    obtain ⟨y10, e11, hf⟩ := pm_lt hf
    refine pm_topI e11 ?_
    refine pm_mmaxI C (pm_XR X) dX8_significand_79 mtX8_129 (by decide) (by decide) (Nat.le_of_ble_eq_true rfl) (Nat.zero_le _) (Nat.zero_le _) ?_
    refine pm_lshl C dX8_significand_82 ?_
    subst hf
    exact pm_lret C X dX8_significand_83 rfl (Nat.le_refl _) (Nat.le_refl _) q
  · have hf := pm_ie hf ((fun z => c7 ((pm_lg_eq _ _).mpr z)))
    refine pm_lload C dX8_significand_58 rfl ?_
    refine pm_lconst (v := 1) C dX8_significand_60 (by decide) ?_
    refine pm_iload_n C dX8_significand_61 rfl rfl ?_
    refine pm_iconst (v := 1) C dX8_significand_62 (by decide) ?_
    refine pm_isub C dX8_significand_63 ?_
    refine pm_lshl C dX8_significand_64 ?_
    refine pm_lor C dX8_significand_65 ?_
    obtain ⟨y12, e13, hf⟩ := pm_lt hf
    refine pm_topL e13 ?_
    refine pm_lstore (lv' := [(6, .long y12), (4, .long y3), (3, .int x3)]) C dX8_significand_66 (pm_nl X (by decide)) rfl ?_
    refine pm_lload C dX8_significand_68 rfl ?_
    refine pm_iconst (v := 0) C dX8_significand_70 (by decide) ?_
    refine pm_lload C dX8_significand_71 rfl ?_
    obtain ⟨v14, e15, hf⟩ := pm_lt hf
    refine pm_callS (as := [.long y12]) (st := [.int 0, .long y12]) C X dX8_significand_73 lnX8_102 myJ13_numberOfLeadingZeros_95d88 stJ13_numberOfLeadingZeros_95d88 ⟨by decide, by decide⟩ rfl rfl (Nat.le_of_ble_eq_true rfl) (Nat.le_refl _) (Nat.le_refl _) (ctJ13_numberOfLeadingZeros_95d88 e15 ?_)
    show pm_G g 76 [(6, .long y12), (4, .long y3), (3, .int x3)] [.int v14, .int 0, .long y12] h 0 0
    refine pm_bipush (v := 11) C dX8_significand_76 (by decide) ?_
    refine pm_isub C dX8_significand_78 ?_
    obtain ⟨y16, e17, hf⟩ := pm_lt hf
    refine pm_topI e17 ?_
    refine pm_mmaxI C (pm_XR X) dX8_significand_79 mtX8_129 (by decide) (by decide) (Nat.le_of_ble_eq_true rfl) (Nat.zero_le _) (Nat.zero_le _) ?_
    refine pm_lshl C dX8_significand_82 ?_
    subst hf
    exact pm_lret C X dX8_significand_83 rfl (Nat.le_refl _) (Nat.le_refl _) q
set_option maxHeartbeats 4000000 in
set_option maxRecDepth 100000 in
theorem bX8_significand_12 {g : pm_Gm} {l : Launch} {G : pm_Gl} {Qr : Option Value → pm_H → Prop} (C : pm_C g cX8_significand RX8) (X : pm_X g l G mX8_significand 0 0 Qr) {h : pm_H} {x0 : Int32} {x1 : Int64} {s0 : Int32} {r : Int64} (hf : fX8_significand_b12 x0 x1 s0 = r) (q : Qr (some (.long r)) h) : pm_G g 12 [(0, .int x0), (1, .long x1)] [.int s0] h 0 0 := by
  unfold fX8_significand_b12 at hf
  refine pm_istore_n (lv' := [(3, .int s0), (0, .int x0), (1, .long x1)]) C dX8_significand_12 rfl (pm_nl X (by decide)) rfl ?_
  refine pm_lload_n C dX8_significand_13 rfl rfl ?_
  refine pm_iload_n C dX8_significand_14 rfl rfl ?_
  refine pm_iconst (v := 2) C dX8_significand_15 (by decide) ?_
  refine pm_icmp_ne (tgt := 25) C dX8_significand_16 (by decide) (fun c2 => ?_) (fun c2 => ?_)
  · have hf := pm_ie hf c2
    refine pm_ldc2 C dX8_significand_25 cnX8_72 ?_
    exact pm_sub [0] rfl (bX8_significand_28 C X hf q)
  · have hf := pm_it hf c2
    refine pm_ldc2 C dX8_significand_19 cnX8_115 ?_
    refine pm_goto (tgt := 28) C dX8_significand_22 (by decide) ?_
    exact pm_sub [0] rfl (bX8_significand_28 C X hf q)
set_option maxHeartbeats 4000000 in
set_option maxRecDepth 100000 in
theorem ctX8_significand {l : Launch} {G : pm_Gl} {h : pm_H} {p1 : Int32} {p2 : Int64} {r : Int64} {Qr : Option Value → pm_H → Prop} (hf : fX8_significand p1 p2 = r) (q : Qr (some (.long r)) h) : pm_Ct l G mX8_significand [.int p1, .long p2] h 0 0 Qr := by
  refine pm_body pnX8 (Nat.le_of_ble_eq_true rfl) (fun g C X => ?_)
  have C : pm_C g cX8_significand RX8 := C
  show pm_G g 0 [(0, .int p1), (1, .long p2)] [] h 0 0
  unfold fX8_significand at hf
  refine pm_iload_n C dX8_significand_0 rfl rfl ?_
  refine pm_iconst (v := 2) C dX8_significand_1 (by decide) ?_
  refine pm_icmp_ne (tgt := 10) C dX8_significand_2 (by decide) (fun c1 => ?_) (fun c1 => ?_)
  · have hf := pm_ie hf c1
    refine pm_bipush (v := 53) C dX8_significand_10 (by decide) ?_
    exact pm_sub [0, 1] rfl (bX8_significand_12 C X hf q)
  · have hf := pm_it hf c1
    refine pm_bipush (v := 24) C dX8_significand_5 (by decide) ?_
    refine pm_goto (tgt := 12) C dX8_significand_7 (by decide) ?_
    exact pm_sub [0, 1] rfl (bX8_significand_12 C X hf q)
