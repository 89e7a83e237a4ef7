theorem dX9_characterLength_0 : decode cX9_characterLength 0 = .ok (.iload_n 1, 1) := by decide +kernel
theorem dX9_characterLength_1 : decode cX9_characterLength 1 = .ok (.ifCond .lt 26, 3) := by decide +kernel
theorem dX9_characterLength_4 : decode cX9_characterLength 4 = .ok (.aload_n 0, 1) := by decide +kernel
theorem dX9_characterLength_5 : decode cX9_characterLength 5 = .ok (.getfield 51, 3) := by decide +kernel
theorem dX9_characterLength_8 : decode cX9_characterLength 8 = .ok (.aload_n 0, 1) := by decide +kernel
theorem dX9_characterLength_9 : decode cX9_characterLength 9 = .ok (.getfield 19, 3) := by decide +kernel
theorem dX9_characterLength_12 : decode cX9_characterLength 12 = .ok (.getfield 54, 3) := by decide +kernel
theorem dX9_characterLength_15 : decode cX9_characterLength 15 = .ok (.arraylength, 1) := by decide +kernel
theorem dX9_characterLength_16 : decode cX9_characterLength 16 = .ok (.if_icmp .gt 11, 3) := by decide +kernel
theorem dX9_characterLength_19 : decode cX9_characterLength 19 = .ok (.iload_n 1, 1) := by decide +kernel
theorem dX9_characterLength_20 : decode cX9_characterLength 20 = .ok (.aload_n 0, 1) := by decide +kernel
theorem dX9_characterLength_21 : decode cX9_characterLength 21 = .ok (.getfield 51, 3) := by decide +kernel
theorem dX9_characterLength_24 : decode cX9_characterLength 24 = .ok (.if_icmp .lt 5, 3) := by decide +kernel
theorem dX9_characterLength_27 : decode cX9_characterLength 27 = .ok (.iconst 0, 1) := by decide +kernel
theorem dX9_characterLength_28 : decode cX9_characterLength 28 = .ok (.ireturn, 1) := by decide +kernel
theorem dX9_characterLength_29 : decode cX9_characterLength 29 = .ok (.aload_n 0, 1) := by decide +kernel
theorem dX9_characterLength_30 : decode cX9_characterLength 30 = .ok (.getfield 19, 3) := by decide +kernel
theorem dX9_characterLength_33 : decode cX9_characterLength 33 = .ok (.getfield 54, 3) := by decide +kernel
theorem dX9_characterLength_36 : decode cX9_characterLength 36 = .ok (.iload_n 1, 1) := by decide +kernel
theorem dX9_characterLength_37 : decode cX9_characterLength 37 = .ok (.baload, 1) := by decide +kernel
theorem dX9_characterLength_38 : decode cX9_characterLength 38 = .ok (.sipush 255, 3) := by decide +kernel
theorem dX9_characterLength_41 : decode cX9_characterLength 41 = .ok (.iand, 1) := by decide +kernel
theorem dX9_characterLength_42 : decode cX9_characterLength 42 = .ok (.istore_n 2, 1) := by decide +kernel
theorem dX9_characterLength_43 : decode cX9_characterLength 43 = .ok (.iload_n 2, 1) := by decide +kernel
theorem dX9_characterLength_44 : decode cX9_characterLength 44 = .ok (.sipush 128, 3) := by decide +kernel
theorem dX9_characterLength_47 : decode cX9_characterLength 47 = .ok (.if_icmp .ge 5, 3) := by decide +kernel
theorem dX9_characterLength_50 : decode cX9_characterLength 50 = .ok (.iconst 1, 1) := by decide +kernel
theorem dX9_characterLength_51 : decode cX9_characterLength 51 = .ok (.ireturn, 1) := by decide +kernel
theorem dX9_characterLength_52 : decode cX9_characterLength 52 = .ok (.iload_n 2, 1) := by decide +kernel
theorem dX9_characterLength_53 : decode cX9_characterLength 53 = .ok (.sipush 192, 3) := by decide +kernel
theorem dX9_characterLength_56 : decode cX9_characterLength 56 = .ok (.if_icmp .ge 7, 3) := by decide +kernel
theorem dX9_characterLength_59 : decode cX9_characterLength 59 = .ok (.iconst 0, 1) := by decide +kernel
theorem dX9_characterLength_60 : decode cX9_characterLength 60 = .ok (.goto 37, 3) := by decide +kernel
theorem dX9_characterLength_63 : decode cX9_characterLength 63 = .ok (.iload_n 2, 1) := by decide +kernel
theorem dX9_characterLength_64 : decode cX9_characterLength 64 = .ok (.sipush 224, 3) := by decide +kernel
theorem dX9_characterLength_67 : decode cX9_characterLength 67 = .ok (.if_icmp .ge 7, 3) := by decide +kernel
theorem dX9_characterLength_70 : decode cX9_characterLength 70 = .ok (.iconst 1, 1) := by decide +kernel
theorem dX9_characterLength_71 : decode cX9_characterLength 71 = .ok (.goto 26, 3) := by decide +kernel
theorem dX9_characterLength_74 : decode cX9_characterLength 74 = .ok (.iload_n 2, 1) := by decide +kernel
theorem dX9_characterLength_75 : decode cX9_characterLength 75 = .ok (.sipush 240, 3) := by decide +kernel
theorem dX9_characterLength_78 : decode cX9_characterLength 78 = .ok (.if_icmp .ge 7, 3) := by decide +kernel
theorem dX9_characterLength_81 : decode cX9_characterLength 81 = .ok (.iconst 2, 1) := by decide +kernel
theorem dX9_characterLength_82 : decode cX9_characterLength 82 = .ok (.goto 15, 3) := by decide +kernel
theorem dX9_characterLength_85 : decode cX9_characterLength 85 = .ok (.iload_n 2, 1) := by decide +kernel
theorem dX9_characterLength_86 : decode cX9_characterLength 86 = .ok (.sipush 248, 3) := by decide +kernel
theorem dX9_characterLength_89 : decode cX9_characterLength 89 = .ok (.if_icmp .ge 7, 3) := by decide +kernel
theorem dX9_characterLength_92 : decode cX9_characterLength 92 = .ok (.iconst 3, 1) := by decide +kernel
theorem dX9_characterLength_93 : decode cX9_characterLength 93 = .ok (.goto 4, 3) := by decide +kernel
theorem dX9_characterLength_96 : decode cX9_characterLength 96 = .ok (.iconst 0, 1) := by decide +kernel
theorem dX9_characterLength_97 : decode cX9_characterLength 97 = .ok (.istore_n 3, 1) := by decide +kernel
theorem dX9_characterLength_98 : decode cX9_characterLength 98 = .ok (.iload_n 3, 1) := by decide +kernel
theorem dX9_characterLength_99 : decode cX9_characterLength 99 = .ok (.ifCond .eq 13, 3) := by decide +kernel
theorem dX9_characterLength_102 : decode cX9_characterLength 102 = .ok (.iload_n 3, 1) := by decide +kernel
theorem dX9_characterLength_103 : decode cX9_characterLength 103 = .ok (.aload_n 0, 1) := by decide +kernel
theorem dX9_characterLength_104 : decode cX9_characterLength 104 = .ok (.getfield 51, 3) := by decide +kernel
theorem dX9_characterLength_107 : decode cX9_characterLength 107 = .ok (.iload_n 1, 1) := by decide +kernel
theorem dX9_characterLength_108 : decode cX9_characterLength 108 = .ok (.isub, 1) := by decide +kernel
theorem dX9_characterLength_109 : decode cX9_characterLength 109 = .ok (.if_icmp .lt 5, 3) := by decide +kernel
theorem dX9_characterLength_112 : decode cX9_characterLength 112 = .ok (.iconst 0, 1) := by decide +kernel
theorem dX9_characterLength_113 : decode cX9_characterLength 113 = .ok (.ireturn, 1) := by decide +kernel
theorem dX9_characterLength_114 : decode cX9_characterLength 114 = .ok (.iload_n 2, 1) := by decide +kernel
theorem dX9_characterLength_115 : decode cX9_characterLength 115 = .ok (.bipush 63, 2) := by decide +kernel
theorem dX9_characterLength_117 : decode cX9_characterLength 117 = .ok (.iload_n 3, 1) := by decide +kernel
theorem dX9_characterLength_118 : decode cX9_characterLength 118 = .ok (.ishr, 1) := by decide +kernel
theorem dX9_characterLength_119 : decode cX9_characterLength 119 = .ok (.iand, 1) := by decide +kernel
theorem dX9_characterLength_120 : decode cX9_characterLength 120 = .ok (.istore 4, 2) := by decide +kernel
theorem dX9_characterLength_122 : decode cX9_characterLength 122 = .ok (.iconst 1, 1) := by decide +kernel
theorem dX9_characterLength_123 : decode cX9_characterLength 123 = .ok (.istore 5, 2) := by decide +kernel
theorem dX9_characterLength_125 : decode cX9_characterLength 125 = .ok (.iload 5, 2) := by decide +kernel
theorem dX9_characterLength_127 : decode cX9_characterLength 127 = .ok (.iload_n 3, 1) := by decide +kernel
theorem dX9_characterLength_128 : decode cX9_characterLength 128 = .ok (.if_icmp .gt 51, 3) := by decide +kernel
theorem dX9_characterLength_131 : decode cX9_characterLength 131 = .ok (.aload_n 0, 1) := by decide +kernel
theorem dX9_characterLength_132 : decode cX9_characterLength 132 = .ok (.getfield 19, 3) := by decide +kernel
theorem dX9_characterLength_135 : decode cX9_characterLength 135 = .ok (.getfield 54, 3) := by decide +kernel
theorem dX9_characterLength_138 : decode cX9_characterLength 138 = .ok (.iload_n 1, 1) := by decide +kernel
theorem dX9_characterLength_139 : decode cX9_characterLength 139 = .ok (.iload 5, 2) := by decide +kernel
theorem dX9_characterLength_141 : decode cX9_characterLength 141 = .ok (.iadd, 1) := by decide +kernel
theorem dX9_characterLength_142 : decode cX9_characterLength 142 = .ok (.baload, 1) := by decide +kernel
theorem dX9_characterLength_143 : decode cX9_characterLength 143 = .ok (.sipush 255, 3) := by decide +kernel
theorem dX9_characterLength_146 : decode cX9_characterLength 146 = .ok (.iand, 1) := by decide +kernel
theorem dX9_characterLength_147 : decode cX9_characterLength 147 = .ok (.istore 6, 2) := by decide +kernel
theorem dX9_characterLength_149 : decode cX9_characterLength 149 = .ok (.iload 6, 2) := by decide +kernel
theorem dX9_characterLength_151 : decode cX9_characterLength 151 = .ok (.bipush 6, 2) := by decide +kernel
theorem dX9_characterLength_153 : decode cX9_characterLength 153 = .ok (.iushr, 1) := by decide +kernel
theorem dX9_characterLength_154 : decode cX9_characterLength 154 = .ok (.iconst 2, 1) := by decide +kernel
theorem dX9_characterLength_155 : decode cX9_characterLength 155 = .ok (.if_icmp .eq 5, 3) := by decide +kernel
theorem dX9_characterLength_158 : decode cX9_characterLength 158 = .ok (.iconst 0, 1) := by decide +kernel
theorem dX9_characterLength_159 : decode cX9_characterLength 159 = .ok (.ireturn, 1) := by decide +kernel
theorem dX9_characterLength_160 : decode cX9_characterLength 160 = .ok (.iload 4, 2) := by decide +kernel
theorem dX9_characterLength_162 : decode cX9_characterLength 162 = .ok (.bipush 6, 2) := by decide +kernel
theorem dX9_characterLength_164 : decode cX9_characterLength 164 = .ok (.ishl, 1) := by decide +kernel
theorem dX9_characterLength_165 : decode cX9_characterLength 165 = .ok (.iload 6, 2) := by decide +kernel
theorem dX9_characterLength_167 : decode cX9_characterLength 167 = .ok (.bipush 63, 2) := by decide +kernel
theorem dX9_characterLength_169 : decode cX9_characterLength 169 = .ok (.iand, 1) := by decide +kernel
theorem dX9_characterLength_170 : decode cX9_characterLength 170 = .ok (.ior, 1) := by decide +kernel
theorem dX9_characterLength_171 : decode cX9_characterLength 171 = .ok (.istore 4, 2) := by decide +kernel
theorem dX9_characterLength_173 : decode cX9_characterLength 173 = .ok (.iinc 5 1, 3) := by decide +kernel
theorem dX9_characterLength_176 : decode cX9_characterLength 176 = .ok (.goto (-51), 3) := by decide +kernel
theorem dX9_characterLength_179 : decode cX9_characterLength 179 = .ok (.iload_n 3, 1) := by decide +kernel
theorem dX9_characterLength_180 : decode cX9_characterLength 180 = .ok (.iconst 1, 1) := by decide +kernel
theorem dX9_characterLength_181 : decode cX9_characterLength 181 = .ok (.if_icmp .ne 9, 3) := by decide +kernel
theorem dX9_characterLength_184 : decode cX9_characterLength 184 = .ok (.sipush 128, 3) := by decide +kernel
theorem dX9_characterLength_187 : decode cX9_characterLength 187 = .ok (.goto 17, 3) := by decide +kernel
theorem dX9_characterLength_190 : decode cX9_characterLength 190 = .ok (.iload_n 3, 1) := by decide +kernel
theorem dX9_characterLength_191 : decode cX9_characterLength 191 = .ok (.iconst 2, 1) := by decide +kernel
theorem dX9_characterLength_192 : decode cX9_characterLength 192 = .ok (.if_icmp .ne 9, 3) := by decide +kernel
theorem dX9_characterLength_195 : decode cX9_characterLength 195 = .ok (.sipush 2048, 3) := by decide +kernel
theorem dX9_characterLength_198 : decode cX9_characterLength 198 = .ok (.goto 6, 3) := by decide +kernel
theorem dX9_characterLength_201 : decode cX9_characterLength 201 = .ok (.ldc_w 266, 3) := by decide +kernel
theorem dX9_characterLength_204 : decode cX9_characterLength 204 = .ok (.istore 5, 2) := by decide +kernel
theorem dX9_characterLength_206 : decode cX9_characterLength 206 = .ok (.iload 4, 2) := by decide +kernel
theorem dX9_characterLength_208 : decode cX9_characterLength 208 = .ok (.ldc_w 267, 3) := by decide +kernel
theorem dX9_characterLength_211 : decode cX9_characterLength 211 = .ok (.if_icmp .lt 15, 3) := by decide +kernel
theorem dX9_characterLength_214 : decode cX9_characterLength 214 = .ok (.iload 4, 2) := by decide +kernel
theorem dX9_characterLength_216 : decode cX9_characterLength 216 = .ok (.ldc_w 268, 3) := by decide +kernel
theorem dX9_characterLength_219 : decode cX9_characterLength 219 = .ok (.if_icmp .gt 7, 3) := by decide +kernel
theorem dX9_characterLength_222 : decode cX9_characterLength 222 = .ok (.iconst 1, 1) := by decide +kernel
theorem dX9_characterLength_223 : decode cX9_characterLength 223 = .ok (.goto 4, 3) := by decide +kernel
theorem dX9_characterLength_226 : decode cX9_characterLength 226 = .ok (.iconst 0, 1) := by decide +kernel
theorem dX9_characterLength_227 : decode cX9_characterLength 227 = .ok (.istore 6, 2) := by decide +kernel
theorem dX9_characterLength_229 : decode cX9_characterLength 229 = .ok (.iload 4, 2) := by decide +kernel
theorem dX9_characterLength_231 : decode cX9_characterLength 231 = .ok (.iload 5, 2) := by decide +kernel
theorem dX9_characterLength_233 : decode cX9_characterLength 233 = .ok (.if_icmp .lt 16, 3) := by decide +kernel
theorem dX9_characterLength_236 : decode cX9_characterLength 236 = .ok (.iload 4, 2) := by decide +kernel
theorem dX9_characterLength_238 : decode cX9_characterLength 238 = .ok (.ldc_w 269, 3) := by decide +kernel
theorem dX9_characterLength_241 : decode cX9_characterLength 241 = .ok (.if_icmp .gt 8, 3) := by decide +kernel
theorem dX9_characterLength_244 : decode cX9_characterLength 244 = .ok (.iload 6, 2) := by decide +kernel
theorem dX9_characterLength_246 : decode cX9_characterLength 246 = .ok (.ifCond .eq 7, 3) := by decide +kernel
theorem dX9_characterLength_249 : decode cX9_characterLength 249 = .ok (.iconst 0, 1) := by decide +kernel
theorem dX9_characterLength_250 : decode cX9_characterLength 250 = .ok (.goto 6, 3) := by decide +kernel
theorem dX9_characterLength_253 : decode cX9_characterLength 253 = .ok (.iload_n 3, 1) := by decide +kernel
theorem dX9_characterLength_254 : decode cX9_characterLength 254 = .ok (.iconst 1, 1) := by decide +kernel
theorem dX9_characterLength_255 : decode cX9_characterLength 255 = .ok (.iadd, 1) := by decide +kernel
theorem dX9_characterLength_256 : decode cX9_characterLength 256 = .ok (.ireturn, 1) := by decide +kernel
def tX9_characterLength_97 (h : pm_H) (x0 : Nat) (x1 : Int32) (x2 : Int32) (s0 : Int32) : Option (((Nat × Int32 × Int32 × Int32) ⊕ (Nat × Int32 × Int32 × Int32 × Int32) ⊕ (Int32 × Int32 × Int32)) ⊕ Int32) := if s0 = 0 then (some (.inr (0))) else (if pm_kd h x0 = 9 then if s0 < ((pm_I h x0 1) - x1) then (pm_let (x2 &&& ((63 : Int32) >>> (s0 &&& 31))) fun y22 => some (.inl (.inr (.inl ((x0, x1, s0, y22, 1)))))) else (some (.inr (0))) else none)
def tX9_characterLength_125 (h : pm_H) (x0 : Nat) (x1 : Int32) (x3 : Int32) (x4 : Int32) (x5 : Int32) : Option (((Nat × Int32 × Int32 × Int32) ⊕ (Nat × Int32 × Int32 × Int32 × Int32) ⊕ (Int32 × Int32 × Int32)) ⊕ Int32) := if x3 < x5 then (if x3 = 1 then (some (.inl (.inr (.inr ((x3, x4, 128)))))) else (if x3 = 2 then (some (.inl (.inr (.inr ((x3, x4, 2048)))))) else (some (.inl (.inr (.inr ((x3, x4, 65536)))))))) else (if pm_kd h x0 = 9 then (pm_R h x0 0).bind fun v28 => if pm_kd h v28 = 7 then (pm_R h v28 0).bind fun v31 => pm_let (x1 + x5) fun y33 => if pm_kd h v31 = 33 then if pm_in y33 (pm_ln h v31) then pm_let ((pm_I h v31 y33.toNatClampNeg) &&& 255) fun y37 => if ((y37.toUInt32 >>> ((6 : Int32).toUInt32 &&& Int32.toUInt32 31)).toInt32) = 2 then (pm_let ((x4 <<< ((6 : Int32) &&& 31)) ||| (y37 &&& 63)) fun y40 => pm_let (x5 + 1) fun y42 => some (.inl (.inr (.inl ((x0, x1, x3, y40, y42)))))) else (some (.inr (0))) else none else none else none else none)
def tX9_characterLength_204 (h : pm_H) (x3 : Int32) (x4 : Int32) (s0 : Int32) : Option (((Nat × Int32 × Int32 × Int32) ⊕ (Nat × Int32 × Int32 × Int32 × Int32) ⊕ (Int32 × Int32 × Int32)) ⊕ Int32) := if x4 < 55296 then (if x4 < s0 then (some (.inr (0))) else (if 1114111 < x4 then (some (.inr (0))) else (if (0 : Int32) = (0 : Int32) then (some (.inr (x3 + 1))) else (some (.inr (0)))))) else (if 57343 < x4 then (if x4 < s0 then (some (.inr (0))) else (if 1114111 < x4 then (some (.inr (0))) else (if (0 : Int32) = (0 : Int32) then (some (.inr (x3 + 1))) else (some (.inr (0)))))) else (if x4 < s0 then (some (.inr (0))) else (if 1114111 < x4 then (some (.inr (0))) else (if (1 : Int32) = (0 : Int32) then (some (.inr (x3 + 1))) else (some (.inr (0)))))))
def sX9_characterLength (h : pm_H) : ((Nat × Int32 × Int32 × Int32) ⊕ (Nat × Int32 × Int32 × Int32 × Int32) ⊕ (Int32 × Int32 × Int32)) → Option (((Nat × Int32 × Int32 × Int32) ⊕ (Nat × Int32 × Int32 × Int32 × Int32) ⊕ (Int32 × Int32 × Int32)) ⊕ Int32) := fun z => match z with
  | .inl (x0, x1, x2, s0) => tX9_characterLength_97 h x0 x1 x2 s0
  | .inr (.inl (x0, x1, x3, x4, x5)) => tX9_characterLength_125 h x0 x1 x3 x4 x5
  | .inr (.inr (x3, x4, s0)) => tX9_characterLength_204 h x3 x4 s0
noncomputable def fX9_characterLength (h : pm_H) (a0 : Nat) (p1 : Int32) : Option Int32 := if p1 < 0 then (some 0) else (if pm_kd h a0 = 9 then (pm_R h a0 0).bind fun v3 => if pm_kd h v3 = 7 then (pm_R h v3 0).bind fun v6 => if pm_kd h v6 = 33 then if (Int32.ofNat (pm_ln h v6)) < (pm_I h a0 1) then (some 0) else (if p1 < (pm_I h a0 1) then (if pm_in p1 (pm_ln h v6) then pm_let ((pm_I h v6 p1.toNatClampNeg) &&& 255) fun y12 => if 128 ≤ y12 then (if 192 ≤ y12 then (if 224 ≤ y12 then (if 240 ≤ y12 then (if 248 ≤ y12 then (pm_lim (sX9_characterLength h) (.inl ((a0, p1, y12, 0)))) else (pm_lim (sX9_characterLength h) (.inl ((a0, p1, y12, 3))))) else (pm_lim (sX9_characterLength h) (.inl ((a0, p1, y12, 2))))) else (pm_lim (sX9_characterLength h) (.inl ((a0, p1, y12, 1))))) else (pm_lim (sX9_characterLength h) (.inl ((a0, p1, y12, 0))))) else (some 1) else none) else (some 0)) else none else none else none)
set_option maxHeartbeats 4000000 in
set_option maxRecDepth 100000 in
theorem lpX9_characterLength {g : pm_Gm} {l : Launch} {G : pm_Gl} {Qr : Option Value → pm_H → Prop} (C : pm_C g cX9_characterLength RX9) (X : pm_X g l G mX9_characterLength 0 0 Qr) {h : pm_H} {r : Int32} (q : Qr (some (.int r)) h) : ∀ n : Nat, (∀ (x0 : Nat) (x1 : Int32) (x2 : Int32) (s0 : Int32), pm_iter (sX9_characterLength h) n (.inl (x0, x1, x2, s0)) = some r → pm_G g 97 [(0, .ref x0), (1, .int x1), (2, .int x2)] [.int s0] h 0 0) ∧ (∀ (x0 : Nat) (x1 : Int32) (x3 : Int32) (x4 : Int32) (x5 : Int32), pm_iter (sX9_characterLength h) n (.inr (.inl (x0, x1, x3, x4, x5))) = some r → pm_G g 125 [(0, .ref x0), (1, .int x1), (3, .int x3), (4, .int x4), (5, .int x5)] [] h 0 0) ∧ (∀ (x3 : Int32) (x4 : Int32) (s0 : Int32), pm_iter (sX9_characterLength h) n (.inr (.inr (x3, x4, s0))) = some r → pm_G g 204 [(3, .int x3), (4, .int x4)] [.int s0] h 0 0) := by
  intro n
  induction n with
  | zero => exact ⟨fun _ _ _ _ hf => (by cases hf), fun _ _ _ _ _ hf => (by cases hf), fun _ _ _ hf => (by cases hf)⟩
  | succ n ih =>
    refine ⟨fun x0 x1 x2 s0 hf => ?_, ?_⟩
    · obtain ⟨y, hf, hi⟩ := pm_iter_s hf
      have hf : tX9_characterLength_97 h x0 x1 x2 s0 = some y := hf
      unfold tX9_characterLength_97 at hf
      refine pm_istore_n (lv' := [(3, .int s0), (0, .ref x0), (1, .int x1), (2, .int x2)]) C dX9_characterLength_97 rfl (pm_nl X (by decide)) rfl ?_
      refine pm_iload_n C dX9_characterLength_98 rfl rfl ?_
      refine pm_if_eq (tgt := 112) C dX9_characterLength_99 (by decide) (fun c19 => ?_) (fun c19 => ?_)
      · have hf := pm_it hf c19
        refine pm_iconst (v := 0) C dX9_characterLength_112 (by decide) ?_
        cases hf
        cases hi
        exact pm_iret C X dX9_characterLength_113 rfl (Nat.le_refl _) (Nat.le_refl _) q
      · have hf := pm_ie hf c19
        refine pm_iload_n C dX9_characterLength_102 rfl rfl ?_
        refine pm_aload_n C dX9_characterLength_103 rfl rfl ?_
        obtain ⟨k20, hf⟩ := pm_if hf
        refine pm_getI C dX9_characterLength_104 flX9_51 rfl k20 rfl ?_
        refine pm_iload_n C dX9_characterLength_107 rfl rfl ?_
        refine pm_isub C dX9_characterLength_108 ?_
        refine pm_icmp_lt (tgt := 114) C dX9_characterLength_109 (by decide) (fun c21 => ?_) (fun c21 => ?_)
        · have hf := pm_it hf c21
          refine pm_iload_n C dX9_characterLength_114 rfl rfl ?_
          refine pm_bipush (v := 63) C dX9_characterLength_115 (by decide) ?_
          refine pm_iload_n C dX9_characterLength_117 rfl rfl ?_
          refine pm_ishr C dX9_characterLength_118 ?_
          refine pm_iand C dX9_characterLength_119 ?_
          obtain ⟨y22, e23, hf⟩ := pm_lt hf
          refine pm_topI e23 ?_
          refine pm_istore (lv' := [(4, .int y22), (3, .int s0), (0, .ref x0), (1, .int x1), (2, .int x2)]) C dX9_characterLength_120 (pm_nl X (by decide)) rfl ?_
          refine pm_iconst (v := 1) C dX9_characterLength_122 (by decide) ?_
          refine pm_istore (lv' := [(5, .int 1), (4, .int y22), (3, .int s0), (0, .ref x0), (1, .int x1), (2, .int x2)]) C dX9_characterLength_123 (pm_nl X (by decide)) rfl ?_
          cases hf
          exact pm_sub [3, 4, 2, 1, 0] rfl (ih.2.1 x0 x1 s0 y22 1 hi)
        · have hf := pm_ie hf c21
          refine pm_iconst (v := 0) C dX9_characterLength_112 (by decide) ?_
          cases hf
          cases hi
          exact pm_iret C X dX9_characterLength_113 rfl (Nat.le_refl _) (Nat.le_refl _) q
    refine ⟨fun x0 x1 x3 x4 x5 hf => ?_, ?_⟩
    · obtain ⟨y, hf, hi⟩ := pm_iter_s hf
      have hf : tX9_characterLength_125 h x0 x1 x3 x4 x5 = some y := hf
      unfold tX9_characterLength_125 at hf
      refine pm_iload C dX9_characterLength_125 rfl ?_
      refine pm_iload_n C dX9_characterLength_127 rfl rfl ?_
      refine pm_icmp_gt (tgt := 179) C dX9_characterLength_128 (by decide) (fun c24 => ?_) (fun c24 => ?_)
      · have hf := pm_it hf c24
        refine pm_iload_n C dX9_characterLength_179 rfl rfl ?_
        refine pm_iconst (v := 1) C dX9_characterLength_180 (by decide) ?_
        refine pm_icmp_ne (tgt := 190) C dX9_characterLength_181 (by decide) (fun c25 => ?_) (fun c25 => ?_)
        · have hf := pm_ie hf c25
          refine pm_iload_n C dX9_characterLength_190 rfl rfl ?_
          refine pm_iconst (v := 2) C dX9_characterLength_191 (by decide) ?_
          refine pm_icmp_ne (tgt := 201) C dX9_characterLength_192 (by decide) (fun c26 => ?_) (fun c26 => ?_)
          · have hf := pm_ie hf c26
            refine pm_ldcw C dX9_characterLength_201 cnX9_266 ?_
            cases hf
            exact pm_sub [2, 3] rfl (ih.2.2 x3 x4 65536 hi)
          · have hf := pm_it hf c26
            refine pm_sipush (v := 2048) C dX9_characterLength_195 (by decide) ?_
            refine pm_goto (tgt := 204) C dX9_characterLength_198 (by decide) ?_
            cases hf
            exact pm_sub [2, 3] rfl (ih.2.2 x3 x4 2048 hi)
        · have hf := pm_it hf c25
          refine pm_sipush (v := 128) C dX9_characterLength_184 (by decide) ?_
          refine pm_goto (tgt := 204) C dX9_characterLength_187 (by decide) ?_
          cases hf
          exact pm_sub [2, 3] rfl (ih.2.2 x3 x4 128 hi)
      · have hf := pm_ie hf c24
        refine pm_aload_n C dX9_characterLength_131 rfl rfl ?_
        obtain ⟨k27, hf⟩ := pm_if hf
        obtain ⟨v28, e29, hf⟩ := pm_bd hf
        refine pm_getR C dX9_characterLength_132 flX9_19 rfl k27 e29 ?_
        obtain ⟨k30, hf⟩ := pm_if hf
        obtain ⟨v31, e32, hf⟩ := pm_bd hf
        refine pm_getR C dX9_characterLength_135 flX9_54 rfl k30 e32 ?_
        refine pm_iload_n C dX9_characterLength_138 rfl rfl ?_
        refine pm_iload C dX9_characterLength_139 rfl ?_
        refine pm_iadd C dX9_characterLength_141 ?_
        obtain ⟨y33, e34, hf⟩ := pm_lt hf
        refine pm_topI e34 ?_
        obtain ⟨k35, hf⟩ := pm_if hf
        obtain ⟨u36, hf⟩ := pm_if hf
        refine pm_bald C dX9_characterLength_142 k35 u36 rfl ?_
        refine pm_sipush (v := 255) C dX9_characterLength_143 (by decide) ?_
        refine pm_iand C dX9_characterLength_146 ?_
        obtain ⟨y37, e38, hf⟩ := pm_lt hf
        refine pm_topI e38 ?_
        refine pm_istore (lv' := [(6, .int y37), (0, .ref x0), (1, .int x1), (3, .int x3), (4, .int x4), (5, .int x5)]) C dX9_characterLength_147 (pm_nl X (by decide)) rfl ?_
        refine pm_iload C dX9_characterLength_149 rfl ?_
        refine pm_bipush (v := 6) C dX9_characterLength_151 (by decide) ?_
        refine pm_iushr C dX9_characterLength_153 ?_
        refine pm_iconst (v := 2) C dX9_characterLength_154 (by decide) ?_
        refine pm_icmp_eq (tgt := 160) C dX9_characterLength_155 (by decide) (fun c39 => ?_) (fun c39 => ?_)
        · have hf := pm_it hf c39
          refine pm_iload C dX9_characterLength_160 rfl ?_
          refine pm_bipush (v := 6) C dX9_characterLength_162 (by decide) ?_
          refine pm_ishl C dX9_characterLength_164 ?_
          refine pm_iload C dX9_characterLength_165 rfl ?_
          refine pm_bipush (v := 63) C dX9_characterLength_167 (by decide) ?_
          refine pm_iand C dX9_characterLength_169 ?_
          refine pm_ior C dX9_characterLength_170 ?_
          obtain ⟨y40, e41, hf⟩ := pm_lt hf
          refine pm_topI e41 ?_
          refine pm_istore (lv' := [(4, .int y40), (6, .int y37), (0, .ref x0), (1, .int x1), (3, .int x3), (5, .int x5)]) C dX9_characterLength_171 (pm_nl X (by decide)) rfl ?_
          obtain ⟨y42, e43, hf⟩ := pm_lt hf
          refine pm_iinc (v := y42) (lv' := [(5, .int y42), (4, .int y40), (6, .int y37), (0, .ref x0), (1, .int x1), (3, .int x3)]) C dX9_characterLength_173 rfl ((congrArg (x5 + ·) (by decide : Int32.ofInt 1 = 1)).trans e43) (pm_nl X (by decide)) rfl ?_
          refine pm_goto (tgt := 125) C dX9_characterLength_176 (by decide) ?_
          cases hf
          exact pm_sub [3, 4, 5, 1, 0] rfl (ih.2.1 x0 x1 x3 y40 y42 hi)
        · have hf := pm_ie hf c39
          refine pm_iconst (v := 0) C dX9_characterLength_158 (by decide) ?_
          cases hf
          cases hi
          exact pm_iret C X dX9_characterLength_159 rfl (Nat.le_refl _) (Nat.le_refl _) q
    refine fun x3 x4 s0 hf => ?_
    obtain ⟨y, hf, hi⟩ := pm_iter_s hf
    have hf : tX9_characterLength_204 h x3 x4 s0 = some y := hf
    unfold tX9_characterLength_204 at hf
    refine pm_istore (lv' := [(5, .int s0), (3, .int x3), (4, .int x4)]) C dX9_characterLength_204 (pm_nl X (by decide)) rfl ?_
    refine pm_iload C dX9_characterLength_206 rfl ?_
    refine pm_ldcw C dX9_characterLength_208 cnX9_267 ?_
    refine pm_icmp_lt (tgt := 226) C dX9_characterLength_211 (by decide) (fun c44 => ?_) (fun c44 => ?_)
    · have hf := pm_it hf c44
      refine pm_iconst (v := 0) C dX9_characterLength_226 (by decide) ?_
      refine pm_istore (lv' := [(6, .int 0), (5, .int s0), (3, .int x3), (4, .int x4)]) C dX9_characterLength_227 (pm_nl X (by decide)) rfl ?_
      refine pm_iload C dX9_characterLength_229 rfl ?_
      refine pm_iload C dX9_characterLength_231 rfl ?_
      refine pm_icmp_lt (tgt := 249) C dX9_characterLength_233 (by decide) (fun c45 => ?_) (fun c45 => ?_)
      · have hf := pm_it hf c45
        refine pm_iconst (v := 0) C dX9_characterLength_249 (by decide) ?_
        refine pm_goto (tgt := 256) C dX9_characterLength_250 (by decide) ?_
        cases hf
        cases hi
        exact pm_iret C X dX9_characterLength_256 rfl (Nat.le_refl _) (Nat.le_refl _) q
      · have hf := pm_ie hf c45
        refine pm_iload C dX9_characterLength_236 rfl ?_
        refine pm_ldcw C dX9_characterLength_238 cnX9_269 ?_
        refine pm_icmp_gt (tgt := 249) C dX9_characterLength_241 (by decide) (fun c46 => ?_) (fun c46 => ?_)
        · have hf := pm_it hf c46
          refine pm_iconst (v := 0) C dX9_characterLength_249 (by decide) ?_
          refine pm_goto (tgt := 256) C dX9_characterLength_250 (by decide) ?_
          cases hf
          cases hi
          exact pm_iret C X dX9_characterLength_256 rfl (Nat.le_refl _) (Nat.le_refl _) q
        · have hf := pm_ie hf c46
          refine pm_iload C dX9_characterLength_244 rfl ?_
          refine pm_if_eq (tgt := 253) C dX9_characterLength_246 (by decide) (fun c47 => ?_) (fun c47 => ?_)
          · have hf := pm_it hf c47
            refine pm_iload_n C dX9_characterLength_253 rfl rfl ?_
            refine pm_iconst (v := 1) C dX9_characterLength_254 (by decide) ?_
            refine pm_iadd C dX9_characterLength_255 ?_
            cases hf
            cases hi
            exact pm_iret C X dX9_characterLength_256 rfl (Nat.le_refl _) (Nat.le_refl _) q
          · have hf := pm_ie hf c47
            refine pm_iconst (v := 0) C dX9_characterLength_249 (by decide) ?_
            refine pm_goto (tgt := 256) C dX9_characterLength_250 (by decide) ?_
            cases hf
            cases hi
            exact pm_iret C X dX9_characterLength_256 rfl (Nat.le_refl _) (Nat.le_refl _) q
    · have hf := pm_ie hf c44
      refine pm_iload C dX9_characterLength_214 rfl ?_
      refine pm_ldcw C dX9_characterLength_216 cnX9_268 ?_
      refine pm_icmp_gt (tgt := 226) C dX9_characterLength_219 (by decide) (fun c48 => ?_) (fun c48 => ?_)
      · have hf := pm_it hf c48
        refine pm_iconst (v := 0) C dX9_characterLength_226 (by decide) ?_
        refine pm_istore (lv' := [(6, .int 0), (5, .int s0), (3, .int x3), (4, .int x4)]) C dX9_characterLength_227 (pm_nl X (by decide)) rfl ?_
        refine pm_iload C dX9_characterLength_229 rfl ?_
        refine pm_iload C dX9_characterLength_231 rfl ?_
        refine pm_icmp_lt (tgt := 249) C dX9_characterLength_233 (by decide) (fun c49 => ?_) (fun c49 => ?_)
        · have hf := pm_it hf c49
          refine pm_iconst (v := 0) C dX9_characterLength_249 (by decide) ?_
          refine pm_goto (tgt := 256) C dX9_characterLength_250 (by decide) ?_
          cases hf
          cases hi
          exact pm_iret C X dX9_characterLength_256 rfl (Nat.le_refl _) (Nat.le_refl _) q
        · have hf := pm_ie hf c49
          refine pm_iload C dX9_characterLength_236 rfl ?_
          refine pm_ldcw C dX9_characterLength_238 cnX9_269 ?_
          refine pm_icmp_gt (tgt := 249) C dX9_characterLength_241 (by decide) (fun c50 => ?_) (fun c50 => ?_)
          · have hf := pm_it hf c50
            refine pm_iconst (v := 0) C dX9_characterLength_249 (by decide) ?_
            refine pm_goto (tgt := 256) C dX9_characterLength_250 (by decide) ?_
            cases hf
            cases hi
            exact pm_iret C X dX9_characterLength_256 rfl (Nat.le_refl _) (Nat.le_refl _) q
          · have hf := pm_ie hf c50
            refine pm_iload C dX9_characterLength_244 rfl ?_
            refine pm_if_eq (tgt := 253) C dX9_characterLength_246 (by decide) (fun c51 => ?_) (fun c51 => ?_)
            · have hf := pm_it hf c51
              refine pm_iload_n C dX9_characterLength_253 rfl rfl ?_
              refine pm_iconst (v := 1) C dX9_characterLength_254 (by decide) ?_
              refine pm_iadd C dX9_characterLength_255 ?_
              cases hf
              cases hi
              exact pm_iret C X dX9_characterLength_256 rfl (Nat.le_refl _) (Nat.le_refl _) q
            · have hf := pm_ie hf c51
              refine pm_iconst (v := 0) C dX9_characterLength_249 (by decide) ?_
              refine pm_goto (tgt := 256) C dX9_characterLength_250 (by decide) ?_
              cases hf
              cases hi
              exact pm_iret C X dX9_characterLength_256 rfl (Nat.le_refl _) (Nat.le_refl _) q
      · have hf := pm_ie hf c48
        refine pm_iconst (v := 1) C dX9_characterLength_222 (by decide) ?_
        refine pm_goto (tgt := 227) C dX9_characterLength_223 (by decide) ?_
        refine pm_istore (lv' := [(6, .int 1), (5, .int s0), (3, .int x3), (4, .int x4)]) C dX9_characterLength_227 (pm_nl X (by decide)) rfl ?_
        refine pm_iload C dX9_characterLength_229 rfl ?_
        refine pm_iload C dX9_characterLength_231 rfl ?_
        refine pm_icmp_lt (tgt := 249) C dX9_characterLength_233 (by decide) (fun c52 => ?_) (fun c52 => ?_)
        · have hf := pm_it hf c52
          refine pm_iconst (v := 0) C dX9_characterLength_249 (by decide) ?_
          refine pm_goto (tgt := 256) C dX9_characterLength_250 (by decide) ?_
          cases hf
          cases hi
          exact pm_iret C X dX9_characterLength_256 rfl (Nat.le_refl _) (Nat.le_refl _) q
        · have hf := pm_ie hf c52
          refine pm_iload C dX9_characterLength_236 rfl ?_
          refine pm_ldcw C dX9_characterLength_238 cnX9_269 ?_
          refine pm_icmp_gt (tgt := 249) C dX9_characterLength_241 (by decide) (fun c53 => ?_) (fun c53 => ?_)
          · have hf := pm_it hf c53
            refine pm_iconst (v := 0) C dX9_characterLength_249 (by decide) ?_
            refine pm_goto (tgt := 256) C dX9_characterLength_250 (by decide) ?_
            cases hf
            cases hi
            exact pm_iret C X dX9_characterLength_256 rfl (Nat.le_refl _) (Nat.le_refl _) q
          · have hf := pm_ie hf c53
            refine pm_iload C dX9_characterLength_244 rfl ?_
            refine pm_if_eq (tgt := 253) C dX9_characterLength_246 (by decide) (fun c54 => ?_) (fun c54 => ?_)
            · have hf := pm_it hf c54
              refine pm_iload_n C dX9_characterLength_253 rfl rfl ?_
              refine pm_iconst (v := 1) C dX9_characterLength_254 (by decide) ?_
              refine pm_iadd C dX9_characterLength_255 ?_
              cases hf
              cases hi
              exact pm_iret C X dX9_characterLength_256 rfl (Nat.le_refl _) (Nat.le_refl _) q
            · have hf := pm_ie hf c54
              refine pm_iconst (v := 0) C dX9_characterLength_249 (by decide) ?_
              refine pm_goto (tgt := 256) C dX9_characterLength_250 (by decide) ?_
              cases hf
              cases hi
              exact pm_iret C X dX9_characterLength_256 rfl (Nat.le_refl _) (Nat.le_refl _) q
set_option maxHeartbeats 4000000 in
set_option maxRecDepth 100000 in
theorem ctX9_characterLength {l : Launch} {G : pm_Gl} {h : pm_H} {a0 : Nat} {p1 : Int32} {r : Int32} {Qr : Option Value → pm_H → Prop} (hf : fX9_characterLength h a0 p1 = some r) (q : Qr (some (.int r)) h) : pm_Ct l G mX9_characterLength [.ref a0, .int p1] h 0 0 Qr := by
  refine pm_body pnX9 (Nat.le_of_ble_eq_true rfl) (fun g C X => ?_)
  have C : pm_C g cX9_characterLength RX9 := C
  show pm_G g 0 [(0, .ref a0), (1, .int p1)] [] h 0 0
  unfold fX9_characterLength at hf
  refine pm_iload_n C dX9_characterLength_0 rfl rfl ?_
  refine pm_if_lt (tgt := 27) C dX9_characterLength_1 (by decide) (fun c1 => ?_) (fun c1 => ?_)
  · have hf := pm_it hf c1
    refine pm_iconst (v := 0) C dX9_characterLength_27 (by decide) ?_
    cases hf
    exact pm_iret C X dX9_characterLength_28 rfl (Nat.le_refl _) (Nat.le_refl _) q
  · have hf := pm_ie hf c1
    refine pm_aload_n C dX9_characterLength_4 rfl rfl ?_
    obtain ⟨k2, hf⟩ := pm_if hf
    refine pm_getI C dX9_characterLength_5 flX9_51 rfl k2 rfl ?_
    refine pm_aload_n C dX9_characterLength_8 rfl rfl ?_
    obtain ⟨v3, e4, hf⟩ := pm_bd hf
    refine pm_getR C dX9_characterLength_9 flX9_19 rfl k2 e4 ?_
    obtain ⟨k5, hf⟩ := pm_if hf
    obtain ⟨v6, e7, hf⟩ := pm_bd hf
    refine pm_getR C dX9_characterLength_12 flX9_54 rfl k5 e7 ?_
    obtain ⟨k8, hf⟩ := pm_if hf
    refine pm_alen (t := 1) C dX9_characterLength_15 (by decide) k8 rfl ?_
    refine pm_icmp_gt (tgt := 27) C dX9_characterLength_16 (by decide) (fun c9 => ?_) (fun c9 => ?_)
    · have hf := pm_it hf c9
      refine pm_iconst (v := 0) C dX9_characterLength_27 (by decide) ?_
      cases hf
      exact pm_iret C X dX9_characterLength_28 rfl (Nat.le_refl _) (Nat.le_refl _) q
    · have hf := pm_ie hf c9
      refine pm_iload_n C dX9_characterLength_19 rfl rfl ?_
      refine pm_aload_n C dX9_characterLength_20 rfl rfl ?_
      refine pm_getI C dX9_characterLength_21 flX9_51 rfl k2 rfl ?_
      refine pm_icmp_lt (tgt := 29) C dX9_characterLength_24 (by decide) (fun c10 => ?_) (fun c10 => ?_)
      · have hf := pm_it hf c10
        refine pm_aload_n C dX9_characterLength_29 rfl rfl ?_
        refine pm_getR C dX9_characterLength_30 flX9_19 rfl k2 e4 ?_
        refine pm_getR C dX9_characterLength_33 flX9_54 rfl k5 e7 ?_
        refine pm_iload_n C dX9_characterLength_36 rfl rfl ?_
        obtain ⟨u11, hf⟩ := pm_if hf
        refine pm_bald C dX9_characterLength_37 k8 u11 rfl ?_
        refine pm_sipush (v := 255) C dX9_characterLength_38 (by decide) ?_
        refine pm_iand C dX9_characterLength_41 ?_
        obtain ⟨y12, e13, hf⟩ := pm_lt hf
        refine pm_topI e13 ?_
        refine pm_istore_n (lv' := [(2, .int y12), (0, .ref a0), (1, .int p1)]) C dX9_characterLength_42 rfl (pm_nl X (by decide)) rfl ?_
        refine pm_iload_n C dX9_characterLength_43 rfl rfl ?_
        refine pm_sipush (v := 128) C dX9_characterLength_44 (by decide) ?_
        refine pm_icmp_ge (tgt := 52) C dX9_characterLength_47 (by decide) (fun c14 => ?_) (fun c14 => ?_)
        · have hf := pm_it hf c14
          refine pm_iload_n C dX9_characterLength_52 rfl rfl ?_
          refine pm_sipush (v := 192) C dX9_characterLength_53 (by decide) ?_
          refine pm_icmp_ge (tgt := 63) C dX9_characterLength_56 (by decide) (fun c15 => ?_) (fun c15 => ?_)
          · have hf := pm_it hf c15
            refine pm_iload_n C dX9_characterLength_63 rfl rfl ?_
            refine pm_sipush (v := 224) C dX9_characterLength_64 (by decide) ?_
            refine pm_icmp_ge (tgt := 74) C dX9_characterLength_67 (by decide) (fun c16 => ?_) (fun c16 => ?_)
            · have hf := pm_it hf c16
              refine pm_iload_n C dX9_characterLength_74 rfl rfl ?_
              refine pm_sipush (v := 240) C dX9_characterLength_75 (by decide) ?_
              refine pm_icmp_ge (tgt := 85) C dX9_characterLength_78 (by decide) (fun c17 => ?_) (fun c17 => ?_)
              · have hf := pm_it hf c17
                refine pm_iload_n C dX9_characterLength_85 rfl rfl ?_
                refine pm_sipush (v := 248) C dX9_characterLength_86 (by decide) ?_
                refine pm_icmp_ge (tgt := 96) C dX9_characterLength_89 (by decide) (fun c18 => ?_) (fun c18 => ?_)
                · have hf := pm_it hf c18
                  refine pm_iconst (v := 0) C dX9_characterLength_96 (by decide) ?_
                  obtain ⟨n, hn⟩ := pm_lim_iter hf
                  exact pm_sub [1, 2, 0] rfl ((lpX9_characterLength C X q n).1 a0 p1 y12 0 hn)
                · have hf := pm_ie hf c18
                  refine pm_iconst (v := 3) C dX9_characterLength_92 (by decide) ?_
                  refine pm_goto (tgt := 97) C dX9_characterLength_93 (by decide) ?_
                  obtain ⟨n, hn⟩ := pm_lim_iter hf
                  exact pm_sub [1, 2, 0] rfl ((lpX9_characterLength C X q n).1 a0 p1 y12 3 hn)
              · have hf := pm_ie hf c17
                refine pm_iconst (v := 2) C dX9_characterLength_81 (by decide) ?_
                refine pm_goto (tgt := 97) C dX9_characterLength_82 (by decide) ?_
                obtain ⟨n, hn⟩ := pm_lim_iter hf
                exact pm_sub [1, 2, 0] rfl ((lpX9_characterLength C X q n).1 a0 p1 y12 2 hn)
            · have hf := pm_ie hf c16
              refine pm_iconst (v := 1) C dX9_characterLength_70 (by decide) ?_
              refine pm_goto (tgt := 97) C dX9_characterLength_71 (by decide) ?_
              obtain ⟨n, hn⟩ := pm_lim_iter hf
              exact pm_sub [1, 2, 0] rfl ((lpX9_characterLength C X q n).1 a0 p1 y12 1 hn)
          · have hf := pm_ie hf c15
            refine pm_iconst (v := 0) C dX9_characterLength_59 (by decide) ?_
            refine pm_goto (tgt := 97) C dX9_characterLength_60 (by decide) ?_
            obtain ⟨n, hn⟩ := pm_lim_iter hf
            exact pm_sub [1, 2, 0] rfl ((lpX9_characterLength C X q n).1 a0 p1 y12 0 hn)
        · have hf := pm_ie hf c14
          refine pm_iconst (v := 1) C dX9_characterLength_50 (by decide) ?_
          cases hf
          exact pm_iret C X dX9_characterLength_51 rfl (Nat.le_refl _) (Nat.le_refl _) q
      · have hf := pm_ie hf c10
        refine pm_iconst (v := 0) C dX9_characterLength_27 (by decide) ?_
        cases hf
        exact pm_iret C X dX9_characterLength_28 rfl (Nat.le_refl _) (Nat.le_refl _) q
theorem dX9_endsNumber_0 : decode cX9_endsNumber 0 = .ok (.iload_n 0, 1) := by decide +kernel
theorem dX9_endsNumber_1 : decode cX9_endsNumber 1 = .ok (.bipush 127, 2) := by decide +kernel
theorem dX9_endsNumber_3 : decode cX9_endsNumber 3 = .ok (.if_icmp .le 5, 3) := by decide +kernel
theorem dX9_endsNumber_6 : decode cX9_endsNumber 6 = .ok (.iconst 0, 1) := by decide +kernel
theorem dX9_endsNumber_7 : decode cX9_endsNumber 7 = .ok (.ireturn, 1) := by decide +kernel
theorem dX9_endsNumber_8 : decode cX9_endsNumber 8 = .ok (.iload_n 2, 1) := by decide +kernel
theorem dX9_endsNumber_9 : decode cX9_endsNumber 9 = .ok (.ifCond .ne 15, 3) := by decide +kernel
theorem dX9_endsNumber_12 : decode cX9_endsNumber 12 = .ok (.iload_n 0, 1) := by decide +kernel
theorem dX9_endsNumber_13 : decode cX9_endsNumber 13 = .ok (.iload_n 1, 1) := by decide +kernel
theorem dX9_endsNumber_14 : decode cX9_endsNumber 14 = .ok (.iushr, 1) := by decide +kernel
theorem dX9_endsNumber_15 : decode cX9_endsNumber 15 = .ok (.ifCond .ne 7, 3) := by decide +kernel
theorem dX9_endsNumber_18 : decode cX9_endsNumber 18 = .ok (.iconst 1, 1) := by decide +kernel
theorem dX9_endsNumber_19 : decode cX9_endsNumber 19 = .ok (.goto 4, 3) := by decide +kernel
theorem dX9_endsNumber_22 : decode cX9_endsNumber 22 = .ok (.iconst 0, 1) := by decide +kernel
theorem dX9_endsNumber_23 : decode cX9_endsNumber 23 = .ok (.ireturn, 1) := by decide +kernel
theorem dX9_endsNumber_24 : decode cX9_endsNumber 24 = .ok (.iload_n 0, 1) := by decide +kernel
theorem dX9_endsNumber_25 : decode cX9_endsNumber 25 = .ok (.iload_n 1, 1) := by decide +kernel
theorem dX9_endsNumber_26 : decode cX9_endsNumber 26 = .ok (.iconst 1, 1) := by decide +kernel
theorem dX9_endsNumber_27 : decode cX9_endsNumber 27 = .ok (.isub, 1) := by decide +kernel
theorem dX9_endsNumber_28 : decode cX9_endsNumber 28 = .ok (.iushr, 1) := by decide +kernel
theorem dX9_endsNumber_29 : decode cX9_endsNumber 29 = .ok (.istore_n 3, 1) := by decide +kernel
theorem dX9_endsNumber_30 : decode cX9_endsNumber 30 = .ok (.iload_n 3, 1) := by decide +kernel
theorem dX9_endsNumber_31 : decode cX9_endsNumber 31 = .ok (.ifCond .eq 13, 3) := by decide +kernel
theorem dX9_endsNumber_34 : decode cX9_endsNumber 34 = .ok (.iload_n 3, 1) := by decide +kernel
theorem dX9_endsNumber_35 : decode cX9_endsNumber 35 = .ok (.bipush 127, 2) := by decide +kernel
theorem dX9_endsNumber_37 : decode cX9_endsNumber 37 = .ok (.iload_n 1, 1) := by decide +kernel
theorem dX9_endsNumber_38 : decode cX9_endsNumber 38 = .ok (.iconst 1, 1) := by decide +kernel
theorem dX9_endsNumber_39 : decode cX9_endsNumber 39 = .ok (.isub, 1) := by decide +kernel
theorem dX9_endsNumber_40 : decode cX9_endsNumber 40 = .ok (.iushr, 1) := by decide +kernel
theorem dX9_endsNumber_41 : decode cX9_endsNumber 41 = .ok (.if_icmp .ne 7, 3) := by decide +kernel
theorem dX9_endsNumber_44 : decode cX9_endsNumber 44 = .ok (.iconst 1, 1) := by decide +kernel
theorem dX9_endsNumber_45 : decode cX9_endsNumber 45 = .ok (.goto 4, 3) := by decide +kernel
theorem dX9_endsNumber_48 : decode cX9_endsNumber 48 = .ok (.iconst 0, 1) := by decide +kernel
theorem dX9_endsNumber_49 : decode cX9_endsNumber 49 = .ok (.ireturn, 1) := by decide +kernel
def fX9_endsNumber (p1 : Int32) (p2 : Int32) (p3 : Int32) : Int32 := if p1 ≤ 127 then (if p3 = 0 then (if ((p1.toUInt32 >>> (p2.toUInt32 &&& Int32.toUInt32 31)).toInt32) = 0 then (1) else (0)) else (pm_let ((p1.toUInt32 >>> ((p2 - 1).toUInt32 &&& Int32.toUInt32 31)).toInt32) fun y3 => if y3 = 0 then (1) else (if y3 = (((127 : Int32).toUInt32 >>> ((p2 - 1).toUInt32 &&& Int32.toUInt32 31)).toInt32) then (1) else (0)))) else (0)
set_option maxHeartbeats 4000000 in
set_option maxRecDepth 100000 in
theorem ctX9_endsNumber {l : Launch} {G : pm_Gl} {h : pm_H} {p1 : Int32} {p2 : Int32} {p3 : Int32} {r : Int32} {Qr : Option Value → pm_H → Prop} (hf : fX9_endsNumber p1 p2 p3 = r) (q : Qr (some (.int r)) h) : pm_Ct l G mX9_endsNumber [.int p1, .int p2, .int p3] h 0 0 Qr := by
  refine pm_body pnX9 (Nat.le_of_ble_eq_true rfl) (fun g C X => ?_)
  have C : pm_C g cX9_endsNumber RX9 := C
  show pm_G g 0 [(0, .int p1), (1, .int p2), (2, .int p3)] [] h 0 0
  unfold fX9_endsNumber at hf
  refine pm_iload_n C dX9_endsNumber_0 rfl rfl ?_
  refine pm_bipush (v := 127) C dX9_endsNumber_1 (by decide) ?_
  refine pm_icmp_le (tgt := 8) C dX9_endsNumber_3 (by decide) (fun c1 => ?_) (fun c1 => ?_)
  · have hf := pm_it hf c1
    refine pm_iload_n C dX9_endsNumber_8 rfl rfl ?_
    refine pm_if_ne (tgt := 24) C dX9_endsNumber_9 (by decide) (fun c2 => ?_) (fun c2 => ?_)
    · have hf := pm_ie hf c2
      refine pm_iload_n C dX9_endsNumber_24 rfl rfl ?_
      refine pm_iload_n C dX9_endsNumber_25 rfl rfl ?_
      refine pm_iconst (v := 1) C dX9_endsNumber_26 (by decide) ?_
      refine pm_isub C dX9_endsNumber_27 ?_
      refine pm_iushr C dX9_endsNumber_28 ?_
      obtain ⟨y3, e4, hf⟩ := pm_lt hf
      refine pm_topI e4 ?_
      refine pm_istore_n (lv' := [(3, .int y3), (0, .int p1), (1, .int p2), (2, .int p3)]) C dX9_endsNumber_29 rfl (pm_nl X (by decide)) rfl ?_
      refine pm_iload_n C dX9_endsNumber_30 rfl rfl ?_
      refine pm_if_eq (tgt := 44) C dX9_endsNumber_31 (by decide) (fun c5 => ?_) (fun c5 => ?_)
      · have hf := pm_it hf c5
        refine pm_iconst (v := 1) C dX9_endsNumber_44 (by decide) ?_
        refine pm_goto (tgt := 49) C dX9_endsNumber_45 (by decide) ?_
        subst hf
        exact pm_zret C X dX9_endsNumber_49 rfl (by decide) (Nat.le_refl _) (Nat.le_refl _) q
      · have hf := pm_ie hf c5
        refine pm_iload_n C dX9_endsNumber_34 rfl rfl ?_
        refine pm_bipush (v := 127) C dX9_endsNumber_35 (by decide) ?_
        refine pm_iload_n C dX9_endsNumber_37 rfl rfl ?_
        refine pm_iconst (v := 1) C dX9_endsNumber_38 (by decide) ?_
        refine pm_isub C dX9_endsNumber_39 ?_
        refine pm_iushr C dX9_endsNumber_40 ?_
        refine pm_icmp_ne (tgt := 48) C dX9_endsNumber_41 (by decide) (fun c6 => ?_) (fun c6 => ?_)
        · have hf := pm_ie hf c6
          refine pm_iconst (v := 0) C dX9_endsNumber_48 (by decide) ?_
          subst hf
          exact pm_zret C X dX9_endsNumber_49 rfl (by decide) (Nat.le_refl _) (Nat.le_refl _) q
        · have hf := pm_it hf c6
          refine pm_iconst (v := 1) C dX9_endsNumber_44 (by decide) ?_
          refine pm_goto (tgt := 49) C dX9_endsNumber_45 (by decide) ?_
          subst hf
          exact pm_zret C X dX9_endsNumber_49 rfl (by decide) (Nat.le_refl _) (Nat.le_refl _) q
    · have hf := pm_it hf c2
      refine pm_iload_n C dX9_endsNumber_12 rfl rfl ?_
      refine pm_iload_n C dX9_endsNumber_13 rfl rfl ?_
      refine pm_iushr C dX9_endsNumber_14 ?_
      refine pm_if_ne (tgt := 22) C dX9_endsNumber_15 (by decide) (fun c7 => ?_) (fun c7 => ?_)
      · have hf := pm_ie hf c7
        refine pm_iconst (v := 0) C dX9_endsNumber_22 (by decide) ?_
        subst hf
        exact pm_zret C X dX9_endsNumber_23 rfl (by decide) (Nat.le_refl _) (Nat.le_refl _) q
      · have hf := pm_it hf c7
        refine pm_iconst (v := 1) C dX9_endsNumber_18 (by decide) ?_
        refine pm_goto (tgt := 23) C dX9_endsNumber_19 (by decide) ?_
        subst hf
        exact pm_zret C X dX9_endsNumber_23 rfl (by decide) (Nat.le_refl _) (Nat.le_refl _) q
  · have hf := pm_ie hf c1
    refine pm_iconst (v := 0) C dX9_endsNumber_6 (by decide) ?_
    subst hf
    exact pm_zret C X dX9_endsNumber_7 rfl (by decide) (Nat.le_refl _) (Nat.le_refl _) q
theorem dX9_exceedLimit_0 : decode cX9_exceedLimit 0 = .ok (.aload_n 0, 1) := by decide +kernel
theorem dX9_exceedLimit_1 : decode cX9_exceedLimit 1 = .ok (.getfield 27, 3) := by decide +kernel
theorem dX9_exceedLimit_4 : decode cX9_exceedLimit 4 = .ok (.ifCond .ge 11, 3) := by decide +kernel
theorem dX9_exceedLimit_7 : decode cX9_exceedLimit 7 = .ok (.aload_n 0, 1) := by decide +kernel
theorem dX9_exceedLimit_8 : decode cX9_exceedLimit 8 = .ok (.aload_n 0, 1) := by decide +kernel
theorem dX9_exceedLimit_9 : decode cX9_exceedLimit 9 = .ok (.getfield 87, 3) := by decide +kernel
theorem dX9_exceedLimit_12 : decode cX9_exceedLimit 12 = .ok (.putfield 27, 3) := by decide +kernel
theorem dX9_exceedLimit_15 : decode cX9_exceedLimit 15 = .ok (.return_, 1) := by decide +kernel
def fX9_exceedLimit (h : pm_H) (a0 : Nat) : Option pm_H := if pm_kd h a0 = 9 then if 0 ≤ (pm_I h a0 5) then (some h) else (pm_let (pm_I h a0 11) fun y3 => some (pm_setI h a0 5 y3)) else none
set_option maxHeartbeats 4000000 in
set_option maxRecDepth 100000 in
theorem ctX9_exceedLimit {l : Launch} {G : pm_Gl} {h : pm_H} {a0 : Nat} {r : pm_H} {Qr : Option Value → pm_H → Prop} (hf : fX9_exceedLimit h a0 = some r) (q : Qr none r) : pm_Ct l G mX9_exceedLimit [.ref a0] h 0 0 Qr := by
  refine pm_body pnX9 (Nat.le_of_ble_eq_true rfl) (fun g C X => ?_)
  have C : pm_C g cX9_exceedLimit RX9 := C
  show pm_G g 0 [(0, .ref a0)] [] h 0 0
  unfold fX9_exceedLimit at hf
  refine pm_aload_n C dX9_exceedLimit_0 rfl rfl ?_
  obtain ⟨k1, hf⟩ := pm_if hf
  refine pm_getI C dX9_exceedLimit_1 flX9_27 rfl k1 rfl ?_
  refine pm_if_ge (tgt := 15) C dX9_exceedLimit_4 (by decide) (fun c2 => ?_) (fun c2 => ?_)
  · have hf := pm_it hf c2
    cases hf
    exact pm_vret C X dX9_exceedLimit_15 rfl (Nat.le_refl _) (Nat.le_refl _) q
  · have hf := pm_ie hf c2
    refine pm_aload_n C dX9_exceedLimit_7 rfl rfl ?_
    refine pm_aload_n C dX9_exceedLimit_8 rfl rfl ?_
    refine pm_getI C dX9_exceedLimit_9 flX9_87 rfl k1 rfl ?_
    obtain ⟨y3, e4, hf⟩ := pm_lt hf
    refine pm_topI e4 ?_
    refine pm_putI C dX9_exceedLimit_12 flX9_27 rfl rfl k1 rfl rfl ?_
    cases hf
    exact pm_vret C X dX9_exceedLimit_15 rfl (Nat.le_refl _) (Nat.le_refl _) q
theorem dX9_fail_0 : decode cX9_fail 0 = .ok (.aload_n 0, 1) := by decide +kernel
theorem dX9_fail_1 : decode cX9_fail 1 = .ok (.getfield 40, 3) := by decide +kernel
theorem dX9_fail_4 : decode cX9_fail 4 = .ok (.ifCond .eq 4, 3) := by decide +kernel
theorem dX9_fail_7 : decode cX9_fail 7 = .ok (.return_, 1) := by decide +kernel
theorem dX9_fail_8 : decode cX9_fail 8 = .ok (.aload_n 0, 1) := by decide +kernel
theorem dX9_fail_9 : decode cX9_fail 9 = .ok (.iload_n 1, 1) := by decide +kernel
theorem dX9_fail_10 : decode cX9_fail 10 = .ok (.putfield 40, 3) := by decide +kernel
theorem dX9_fail_13 : decode cX9_fail 13 = .ok (.aload_n 0, 1) := by decide +kernel
theorem dX9_fail_14 : decode cX9_fail 14 = .ok (.iload_n 2, 1) := by decide +kernel
theorem dX9_fail_15 : decode cX9_fail 15 = .ok (.putfield 63, 3) := by decide +kernel
theorem dX9_fail_18 : decode cX9_fail 18 = .ok (.return_, 1) := by decide +kernel
def fX9_fail (h : pm_H) (a0 : Nat) (p1 : Int32) (p2 : Int32) : Option pm_H := if pm_kd h a0 = 9 then if (pm_I h a0 3) = 0 then (some (pm_setI (pm_setI h a0 3 p1) a0 4 p2)) else (some h) else none
set_option maxHeartbeats 4000000 in
set_option maxRecDepth 100000 in
theorem ctX9_fail {l : Launch} {G : pm_Gl} {h : pm_H} {a0 : Nat} {p1 : Int32} {p2 : Int32} {r : pm_H} {Qr : Option Value → pm_H → Prop} (hf : fX9_fail h a0 p1 p2 = some r) (q : Qr none r) : pm_Ct l G mX9_fail [.ref a0, .int p1, .int p2] h 0 0 Qr := by
  refine pm_body pnX9 (Nat.le_of_ble_eq_true rfl) (fun g C X => ?_)
  have C : pm_C g cX9_fail RX9 := C
  show pm_G g 0 [(0, .ref a0), (1, .int p1), (2, .int p2)] [] h 0 0
  unfold fX9_fail at hf
  refine pm_aload_n C dX9_fail_0 rfl rfl ?_
  obtain ⟨k1, hf⟩ := pm_if hf
  refine pm_getI C dX9_fail_1 flX9_40 rfl k1 rfl ?_
  refine pm_if_eq (tgt := 8) C dX9_fail_4 (by decide) (fun c2 => ?_) (fun c2 => ?_)
  · have hf := pm_it hf c2
    refine pm_aload_n C dX9_fail_8 rfl rfl ?_
    refine pm_iload_n C dX9_fail_9 rfl rfl ?_
    refine pm_putI C dX9_fail_10 flX9_40 rfl rfl k1 rfl rfl ?_
    refine pm_aload_n C dX9_fail_13 rfl rfl ?_
    refine pm_iload_n C dX9_fail_14 rfl rfl ?_
    refine pm_putI C dX9_fail_15 flX9_63 rfl rfl k1 rfl rfl ?_
    cases hf
    exact pm_vret C X dX9_fail_18 rfl (Nat.le_refl _) (Nat.le_refl _) q
  · have hf := pm_ie hf c2
    cases hf
    exact pm_vret C X dX9_fail_7 rfl (Nat.le_refl _) (Nat.le_refl _) q
theorem dX9_goesOn_0 : decode cX9_goesOn 0 = .ok (.aload_n 0, 1) := by decide +kernel
theorem dX9_goesOn_1 : decode cX9_goesOn 1 = .ok (.getfield 40, 3) := by decide +kernel
theorem dX9_goesOn_4 : decode cX9_goesOn 4 = .ok (.ifCond .ne 25, 3) := by decide +kernel
theorem dX9_goesOn_7 : decode cX9_goesOn 7 = .ok (.aload_n 0, 1) := by decide +kernel
theorem dX9_goesOn_8 : decode cX9_goesOn 8 = .ok (.getfield 34, 3) := by decide +kernel
theorem dX9_goesOn_11 : decode cX9_goesOn 11 = .ok (.ifCond .ge 14, 3) := by decide +kernel
theorem dX9_goesOn_14 : decode cX9_goesOn 14 = .ok (.aload_n 0, 1) := by decide +kernel
theorem dX9_goesOn_15 : decode cX9_goesOn 15 = .ok (.getfield 51, 3) := by decide +kernel
theorem dX9_goesOn_18 : decode cX9_goesOn 18 = .ok (.aload_n 0, 1) := by decide +kernel
theorem dX9_goesOn_19 : decode cX9_goesOn 19 = .ok (.getfield 60, 3) := by decide +kernel
theorem dX9_goesOn_22 : decode cX9_goesOn 22 = .ok (.if_icmp .ge 7, 3) := by decide +kernel
theorem dX9_goesOn_25 : decode cX9_goesOn 25 = .ok (.iconst 1, 1) := by decide +kernel
theorem dX9_goesOn_26 : decode cX9_goesOn 26 = .ok (.goto 4, 3) := by decide +kernel
theorem dX9_goesOn_29 : decode cX9_goesOn 29 = .ok (.iconst 0, 1) := by decide +kernel
theorem dX9_goesOn_30 : decode cX9_goesOn 30 = .ok (.ireturn, 1) := by decide +kernel
def fX9_goesOn (h : pm_H) (a0 : Nat) : Option Int32 := if pm_kd h a0 = 9 then if (pm_I h a0 3) = 0 then (if 0 ≤ (pm_I h a0 10) then (some 1) else (if (pm_I h a0 2) ≤ (pm_I h a0 1) then (some 0) else (some 1))) else (some 0) else none
set_option maxHeartbeats 4000000 in
set_option maxRecDepth 100000 in
theorem ctX9_goesOn {l : Launch} {G : pm_Gl} {h : pm_H} {a0 : Nat} {r : Int32} {Qr : Option Value → pm_H → Prop} (hf : fX9_goesOn h a0 = some r) (q : Qr (some (.int r)) h) : pm_Ct l G mX9_goesOn [.ref a0] h 0 0 Qr := by
  refine pm_body pnX9 (Nat.le_of_ble_eq_true rfl) (fun g C X => ?_)
  have C : pm_C g cX9_goesOn RX9 := C
  show pm_G g 0 [(0, .ref a0)] [] h 0 0
  unfold fX9_goesOn at hf
  refine pm_aload_n C dX9_goesOn_0 rfl rfl ?_
  obtain ⟨k1, hf⟩ := pm_if hf
  refine pm_getI C dX9_goesOn_1 flX9_40 rfl k1 rfl ?_
  refine pm_if_ne (tgt := 29) C dX9_goesOn_4 (by decide) (fun c2 => ?_) (fun c2 => ?_)
  · have hf := pm_ie hf c2
    refine pm_iconst (v := 0) C dX9_goesOn_29 (by decide) ?_
    cases hf
    exact pm_zret C X dX9_goesOn_30 rfl (by decide) (Nat.le_refl _) (Nat.le_refl _) q
  · have hf := pm_it hf c2
    refine pm_aload_n C dX9_goesOn_7 rfl rfl ?_
    refine pm_getI C dX9_goesOn_8 flX9_34 rfl k1 rfl ?_
    refine pm_if_ge (tgt := 25) C dX9_goesOn_11 (by decide) (fun c3 => ?_) (fun c3 => ?_)
    · have hf := pm_it hf c3
      refine pm_iconst (v := 1) C dX9_goesOn_25 (by decide) ?_
      refine pm_goto (tgt := 30) C dX9_goesOn_26 (by decide) ?_
      cases hf
      exact pm_zret C X dX9_goesOn_30 rfl (by decide) (Nat.le_refl _) (Nat.le_refl _) q
    · have hf := pm_ie hf c3
      refine pm_aload_n C dX9_goesOn_14 rfl rfl ?_
      refine pm_getI C dX9_goesOn_15 flX9_51 rfl k1 rfl ?_
      refine pm_aload_n C dX9_goesOn_18 rfl rfl ?_
      refine pm_getI C dX9_goesOn_19 flX9_60 rfl k1 rfl ?_
      refine pm_icmp_ge (tgt := 29) C dX9_goesOn_22 (by decide) (fun c4 => ?_) (fun c4 => ?_)
      · have hf := pm_it hf c4
        refine pm_iconst (v := 0) C dX9_goesOn_29 (by decide) ?_
        cases hf
        exact pm_zret C X dX9_goesOn_30 rfl (by decide) (Nat.le_refl _) (Nat.le_refl _) q
      · have hf := pm_ie hf c4
        refine pm_iconst (v := 1) C dX9_goesOn_25 (by decide) ?_
        refine pm_goto (tgt := 30) C dX9_goesOn_26 (by decide) ?_
        cases hf
        exact pm_zret C X dX9_goesOn_30 rfl (by decide) (Nat.le_refl _) (Nat.le_refl _) q
theorem dX9_isReference_0 : decode cX9_isReference 0 = .ok (.iload_n 0, 1) := by decide +kernel
theorem dX9_isReference_1 : decode cX9_isReference 1 = .ok (.bipush 112, 2) := by decide +kernel
theorem dX9_isReference_3 : decode cX9_isReference 3 = .ok (.if_icmp .eq 9, 3) := by decide +kernel
theorem dX9_isReference_6 : decode cX9_isReference 6 = .ok (.iload_n 0, 1) := by decide +kernel
theorem dX9_isReference_7 : decode cX9_isReference 7 = .ok (.bipush 111, 2) := by decide +kernel
theorem dX9_isReference_9 : decode cX9_isReference 9 = .ok (.if_icmp .ne 7, 3) := by decide +kernel
theorem dX9_isReference_12 : decode cX9_isReference 12 = .ok (.iconst 1, 1) := by decide +kernel
theorem dX9_isReference_13 : decode cX9_isReference 13 = .ok (.goto 4, 3) := by decide +kernel
theorem dX9_isReference_16 : decode cX9_isReference 16 = .ok (.iconst 0, 1) := by decide +kernel
theorem dX9_isReference_17 : decode cX9_isReference 17 = .ok (.ireturn, 1) := by decide +kernel
def fX9_isReference (p1 : Int32) : Int32 := if p1 = 112 then (1) else (if p1 = 111 then (1) else (0))
set_option maxHeartbeats 4000000 in
set_option maxRecDepth 100000 in
theorem ctX9_isReference {l : Launch} {G : pm_Gl} {h : pm_H} {p1 : Int32} {r : Int32} {Qr : Option Value → pm_H → Prop} (hf : fX9_isReference p1 = r) (q : Qr (some (.int r)) h) : pm_Ct l G mX9_isReference [.int p1] h 0 0 Qr := by
  refine pm_body pnX9 (Nat.le_of_ble_eq_true rfl) (fun g C X => ?_)
  have C : pm_C g cX9_isReference RX9 := C
  show pm_G g 0 [(0, .int p1)] [] h 0 0
  unfold fX9_isReference at hf
  refine pm_iload_n C dX9_isReference_0 rfl rfl ?_
  refine pm_bipush (v := 112) C dX9_isReference_1 (by decide) ?_
  refine pm_icmp_eq (tgt := 12) C dX9_isReference_3 (by decide) (fun c1 => ?_) (fun c1 => ?_)
  · have hf := pm_it hf c1
    refine pm_iconst (v := 1) C dX9_isReference_12 (by decide) ?_
    refine pm_goto (tgt := 17) C dX9_isReference_13 (by decide) ?_
    subst hf
    exact pm_zret C X dX9_isReference_17 rfl (by decide) (Nat.le_refl _) (Nat.le_refl _) q
  · have hf := pm_ie hf c1
    refine pm_iload_n C dX9_isReference_6 rfl rfl ?_
    refine pm_bipush (v := 111) C dX9_isReference_7 (by decide) ?_
    refine pm_icmp_ne (tgt := 16) C dX9_isReference_9 (by decide) (fun c2 => ?_) (fun c2 => ?_)
    · have hf := pm_ie hf c2
      refine pm_iconst (v := 0) C dX9_isReference_16 (by decide) ?_
      subst hf
      exact pm_zret C X dX9_isReference_17 rfl (by decide) (Nat.le_refl _) (Nat.le_refl _) q
    · have hf := pm_it hf c2
      refine pm_iconst (v := 1) C dX9_isReference_12 (by decide) ?_
      refine pm_goto (tgt := 17) C dX9_isReference_13 (by decide) ?_
      subst hf
      exact pm_zret C X dX9_isReference_17 rfl (by decide) (Nat.le_refl _) (Nat.le_refl _) q
theorem dX9_isValue_0 : decode cX9_isValue 0 = .ok (.iload_n 0, 1) := by decide +kernel
theorem dX9_isValue_1 : decode cX9_isValue 1 = .ok (.bipush 124, 2) := by decide +kernel
theorem dX9_isValue_3 : decode cX9_isValue 3 = .ok (.if_icmp .lt 9, 3) := by decide +kernel
theorem dX9_isValue_6 : decode cX9_isValue 6 = .ok (.iload_n 0, 1) := by decide +kernel
theorem dX9_isValue_7 : decode cX9_isValue 7 = .ok (.bipush 127, 2) := by decide +kernel
theorem dX9_isValue_9 : decode cX9_isValue 9 = .ok (.if_icmp .le 15, 3) := by decide +kernel
theorem dX9_isValue_12 : decode cX9_isValue 12 = .ok (.iload_n 0, 1) := by decide +kernel
theorem dX9_isValue_13 : decode cX9_isValue 13 = .ok (.bipush 112, 2) := by decide +kernel
theorem dX9_isValue_15 : decode cX9_isValue 15 = .ok (.if_icmp .eq 9, 3) := by decide +kernel
theorem dX9_isValue_18 : decode cX9_isValue 18 = .ok (.iload_n 0, 1) := by decide +kernel
theorem dX9_isValue_19 : decode cX9_isValue 19 = .ok (.bipush 111, 2) := by decide +kernel
theorem dX9_isValue_21 : decode cX9_isValue 21 = .ok (.if_icmp .ne 7, 3) := by decide +kernel
theorem dX9_isValue_24 : decode cX9_isValue 24 = .ok (.iconst 1, 1) := by decide +kernel
theorem dX9_isValue_25 : decode cX9_isValue 25 = .ok (.goto 4, 3) := by decide +kernel
theorem dX9_isValue_28 : decode cX9_isValue 28 = .ok (.iconst 0, 1) := by decide +kernel
theorem dX9_isValue_29 : decode cX9_isValue 29 = .ok (.ireturn, 1) := by decide +kernel
def fX9_isValue (p1 : Int32) : Int32 := if p1 < 124 then (if p1 = 112 then (1) else (if p1 = 111 then (1) else (0))) else (if p1 ≤ 127 then (1) else (if p1 = 112 then (1) else (if p1 = 111 then (1) else (0))))
set_option maxHeartbeats 4000000 in
set_option maxRecDepth 100000 in
theorem ctX9_isValue {l : Launch} {G : pm_Gl} {h : pm_H} {p1 : Int32} {r : Int32} {Qr : Option Value → pm_H → Prop} (hf : fX9_isValue p1 = r) (q : Qr (some (.int r)) h) : pm_Ct l G mX9_isValue [.int p1] h 0 0 Qr := by
  refine pm_body pnX9 (Nat.le_of_ble_eq_true rfl) (fun g C X => ?_)
  have C : pm_C g cX9_isValue RX9 := C
  show pm_G g 0 [(0, .int p1)] [] h 0 0
  unfold fX9_isValue at hf
  refine pm_iload_n C dX9_isValue_0 rfl rfl ?_
  refine pm_bipush (v := 124) C dX9_isValue_1 (by decide) ?_
  refine pm_icmp_lt (tgt := 12) C dX9_isValue_3 (by decide) (fun c1 => ?_) (fun c1 => ?_)
  · have hf := pm_it hf c1
    refine pm_iload_n C dX9_isValue_12 rfl rfl ?_
    refine pm_bipush (v := 112) C dX9_isValue_13 (by decide) ?_
    refine pm_icmp_eq (tgt := 24) C dX9_isValue_15 (by decide) (fun c2 => ?_) (fun c2 => ?_)
    · have hf := pm_it hf c2
      refine pm_iconst (v := 1) C dX9_isValue_24 (by decide) ?_
      refine pm_goto (tgt := 29) C dX9_isValue_25 (by decide) ?_
      subst hf
      exact pm_zret C X dX9_isValue_29 rfl (by decide) (Nat.le_refl _) (Nat.le_refl _) q
    · have hf := pm_ie hf c2
      refine pm_iload_n C dX9_isValue_18 rfl rfl ?_
      refine pm_bipush (v := 111) C dX9_isValue_19 (by decide) ?_
      refine pm_icmp_ne (tgt := 28) C dX9_isValue_21 (by decide) (fun c3 => ?_) (fun c3 => ?_)
      · have hf := pm_ie hf c3
        refine pm_iconst (v := 0) C dX9_isValue_28 (by decide) ?_
        subst hf
        exact pm_zret C X dX9_isValue_29 rfl (by decide) (Nat.le_refl _) (Nat.le_refl _) q
      · have hf := pm_it hf c3
        refine pm_iconst (v := 1) C dX9_isValue_24 (by decide) ?_
        refine pm_goto (tgt := 29) C dX9_isValue_25 (by decide) ?_
        subst hf
        exact pm_zret C X dX9_isValue_29 rfl (by decide) (Nat.le_refl _) (Nat.le_refl _) q
  · have hf := pm_ie hf c1
    refine pm_iload_n C dX9_isValue_6 rfl rfl ?_
    refine pm_bipush (v := 127) C dX9_isValue_7 (by decide) ?_
    refine pm_icmp_le (tgt := 24) C dX9_isValue_9 (by decide) (fun c4 => ?_) (fun c4 => ?_)
    · have hf := pm_it hf c4
      refine pm_iconst (v := 1) C dX9_isValue_24 (by decide) ?_
      refine pm_goto (tgt := 29) C dX9_isValue_25 (by decide) ?_
      subst hf
      exact pm_zret C X dX9_isValue_29 rfl (by decide) (Nat.le_refl _) (Nat.le_refl _) q
    · have hf := pm_ie hf c4
      refine pm_iload_n C dX9_isValue_12 rfl rfl ?_
      refine pm_bipush (v := 112) C dX9_isValue_13 (by decide) ?_
      refine pm_icmp_eq (tgt := 24) C dX9_isValue_15 (by decide) (fun c5 => ?_) (fun c5 => ?_)
      · have hf := pm_it hf c5
        refine pm_iconst (v := 1) C dX9_isValue_24 (by decide) ?_
        refine pm_goto (tgt := 29) C dX9_isValue_25 (by decide) ?_
        subst hf
        exact pm_zret C X dX9_isValue_29 rfl (by decide) (Nat.le_refl _) (Nat.le_refl _) q
      · have hf := pm_ie hf c5
        refine pm_iload_n C dX9_isValue_18 rfl rfl ?_
        refine pm_bipush (v := 111) C dX9_isValue_19 (by decide) ?_
        refine pm_icmp_ne (tgt := 28) C dX9_isValue_21 (by decide) (fun c6 => ?_) (fun c6 => ?_)
        · have hf := pm_ie hf c6
          refine pm_iconst (v := 0) C dX9_isValue_28 (by decide) ?_
          subst hf
          exact pm_zret C X dX9_isValue_29 rfl (by decide) (Nat.le_refl _) (Nat.le_refl _) q
        · have hf := pm_it hf c6
          refine pm_iconst (v := 1) C dX9_isValue_24 (by decide) ?_
          refine pm_goto (tgt := 29) C dX9_isValue_25 (by decide) ?_
          subst hf
          exact pm_zret C X dX9_isValue_29 rfl (by decide) (Nat.le_refl _) (Nat.le_refl _) q
theorem dX9_next_0 : decode cX9_next 0 = .ok (.aload_n 0, 1) := by decide +kernel
theorem dX9_next_1 : decode cX9_next 1 = .ok (.getfield 40, 3) := by decide +kernel
theorem dX9_next_4 : decode cX9_next 4 = .ok (.ifCond .eq 5, 3) := by decide +kernel
theorem dX9_next_7 : decode cX9_next 7 = .ok (.iconst 0, 1) := by decide +kernel
theorem dX9_next_8 : decode cX9_next 8 = .ok (.ireturn, 1) := by decide +kernel
theorem dX9_next_9 : decode cX9_next 9 = .ok (.aload_n 0, 1) := by decide +kernel
theorem dX9_next_10 : decode cX9_next 10 = .ok (.getfield 51, 3) := by decide +kernel
theorem dX9_next_13 : decode cX9_next 13 = .ok (.ifCond .lt 29, 3) := by decide +kernel
theorem dX9_next_16 : decode cX9_next 16 = .ok (.aload_n 0, 1) := by decide +kernel
theorem dX9_next_17 : decode cX9_next 17 = .ok (.getfield 51, 3) := by decide +kernel
theorem dX9_next_20 : decode cX9_next 20 = .ok (.aload_n 0, 1) := by decide +kernel
theorem dX9_next_21 : decode cX9_next 21 = .ok (.getfield 60, 3) := by decide +kernel
theorem dX9_next_24 : decode cX9_next 24 = .ok (.if_icmp .ge 18, 3) := by decide +kernel
theorem dX9_next_27 : decode cX9_next 27 = .ok (.aload_n 0, 1) := by decide +kernel
theorem dX9_next_28 : decode cX9_next 28 = .ok (.getfield 51, 3) := by decide +kernel
theorem dX9_next_31 : decode cX9_next 31 = .ok (.aload_n 0, 1) := by decide +kernel
theorem dX9_next_32 : decode cX9_next 32 = .ok (.getfield 19, 3) := by decide +kernel
theorem dX9_next_35 : decode cX9_next 35 = .ok (.getfield 54, 3) := by decide +kernel
theorem dX9_next_38 : decode cX9_next 38 = .ok (.arraylength, 1) := by decide +kernel
theorem dX9_next_39 : decode cX9_next 39 = .ok (.if_icmp .lt 18, 3) := by decide +kernel
theorem dX9_next_42 : decode cX9_next 42 = .ok (.aload_n 0, 1) := by decide +kernel
theorem dX9_next_43 : decode cX9_next 43 = .ok (.iconst 1, 1) := by decide +kernel
theorem dX9_next_44 : decode cX9_next 44 = .ok (.putfield 40, 3) := by decide +kernel
theorem dX9_next_47 : decode cX9_next 47 = .ok (.aload_n 0, 1) := by decide +kernel
theorem dX9_next_48 : decode cX9_next 48 = .ok (.aload_n 0, 1) := by decide +kernel
theorem dX9_next_49 : decode cX9_next 49 = .ok (.getfield 60, 3) := by decide +kernel
theorem dX9_next_52 : decode cX9_next 52 = .ok (.putfield 63, 3) := by decide +kernel
theorem dX9_next_55 : decode cX9_next 55 = .ok (.iconst 0, 1) := by decide +kernel
theorem dX9_next_56 : decode cX9_next 56 = .ok (.ireturn, 1) := by decide +kernel
theorem dX9_next_57 : decode cX9_next 57 = .ok (.aload_n 0, 1) := by decide +kernel
theorem dX9_next_58 : decode cX9_next 58 = .ok (.dup, 1) := by decide +kernel
theorem dX9_next_59 : decode cX9_next 59 = .ok (.getfield 51, 3) := by decide +kernel
theorem dX9_next_62 : decode cX9_next 62 = .ok (.iconst 1, 1) := by decide +kernel
theorem dX9_next_63 : decode cX9_next 63 = .ok (.iadd, 1) := by decide +kernel
theorem dX9_next_64 : decode cX9_next 64 = .ok (.putfield 51, 3) := by decide +kernel
theorem dX9_next_67 : decode cX9_next 67 = .ok (.aload_n 0, 1) := by decide +kernel
theorem dX9_next_68 : decode cX9_next 68 = .ok (.getfield 19, 3) := by decide +kernel
theorem dX9_next_71 : decode cX9_next 71 = .ok (.getfield 54, 3) := by decide +kernel
theorem dX9_next_74 : decode cX9_next 74 = .ok (.aload_n 0, 1) := by decide +kernel
theorem dX9_next_75 : decode cX9_next 75 = .ok (.getfield 51, 3) := by decide +kernel
theorem dX9_next_78 : decode cX9_next 78 = .ok (.iconst 1, 1) := by decide +kernel
theorem dX9_next_79 : decode cX9_next 79 = .ok (.isub, 1) := by decide +kernel
theorem dX9_next_80 : decode cX9_next 80 = .ok (.baload, 1) := by decide +kernel
theorem dX9_next_81 : decode cX9_next 81 = .ok (.sipush 255, 3) := by decide +kernel
theorem dX9_next_84 : decode cX9_next 84 = .ok (.iand, 1) := by decide +kernel
theorem dX9_next_85 : decode cX9_next 85 = .ok (.ireturn, 1) := by decide +kernel
def fX9_next (h : pm_H) (a0 : Nat) : Option (Int32 × pm_H) := if pm_kd h a0 = 9 then if (pm_I h a0 3) = 0 then (if (pm_I h a0 1) < 0 then (pm_let (pm_I (pm_setI h a0 3 1) a0 2) fun y4 => some ((0, pm_setI (pm_setI h a0 3 1) a0 4 y4))) else (if (pm_I h a0 2) ≤ (pm_I h a0 1) then (pm_let (pm_I (pm_setI h a0 3 1) a0 2) fun y7 => some ((0, pm_setI (pm_setI h a0 3 1) a0 4 y7))) else ((pm_R h a0 0).bind fun v9 => if pm_kd h v9 = 7 then (pm_R h v9 0).bind fun v12 => if pm_kd h v12 = 33 then if (pm_I h a0 1) < (Int32.ofNat (pm_ln h v12)) then (pm_let ((pm_I h a0 1) + 1) fun y16 => pm_let ((pm_I (pm_setI h a0 1 y16) a0 1) - 1) fun y18 => if pm_in y18 (pm_ln (pm_setI h a0 1 y16) v12) then some (((pm_I (pm_setI h a0 1 y16) v12 y18.toNatClampNeg) &&& 255, pm_setI h a0 1 y16)) else none) else (pm_let (pm_I (pm_setI h a0 3 1) a0 2) fun y21 => some ((0, pm_setI (pm_setI h a0 3 1) a0 4 y21))) else none else none))) else (some ((0, h))) else none
set_option maxHeartbeats 4000000 in
set_option maxRecDepth 100000 in
theorem ctX9_next {l : Launch} {G : pm_Gl} {h : pm_H} {a0 : Nat} {r : (Int32 × pm_H)} {Qr : Option Value → pm_H → Prop} (hf : fX9_next h a0 = some r) (q : Qr (some (.int r.1)) r.2) : pm_Ct l G mX9_next [.ref a0] h 0 0 Qr := by
  refine pm_body pnX9 (Nat.le_of_ble_eq_true rfl) (fun g C X => ?_)
  have C : pm_C g cX9_next RX9 := C
  show pm_G g 0 [(0, .ref a0)] [] h 0 0
  unfold fX9_next at hf
  refine pm_aload_n C dX9_next_0 rfl rfl ?_
  obtain ⟨k1, hf⟩ := pm_if hf
  refine pm_getI C dX9_next_1 flX9_40 rfl k1 rfl ?_
  refine pm_if_eq (tgt := 9) C dX9_next_4 (by decide) (fun c2 => ?_) (fun c2 => ?_)
  · have hf := pm_it hf c2
    refine pm_aload_n C dX9_next_9 rfl rfl ?_
    refine pm_getI C dX9_next_10 flX9_51 rfl k1 rfl ?_
    refine pm_if_lt (tgt := 42) C dX9_next_13 (by decide) (fun c3 => ?_) (fun c3 => ?_)
    · have hf := pm_it hf c3
      refine pm_aload_n C dX9_next_42 rfl rfl ?_
      refine pm_iconst (v := 1) C dX9_next_43 (by decide) ?_
      refine pm_putI C dX9_next_44 flX9_40 rfl rfl k1 rfl rfl ?_
      refine pm_aload_n C dX9_next_47 rfl rfl ?_
      refine pm_aload_n C dX9_next_48 rfl rfl ?_
      refine pm_getI C dX9_next_49 flX9_60 rfl k1 rfl ?_
      obtain ⟨y4, e5, hf⟩ := pm_lt hf
      refine pm_topI e5 ?_
      refine pm_putI C dX9_next_52 flX9_63 rfl rfl k1 rfl rfl ?_
      refine pm_iconst (v := 0) C dX9_next_55 (by decide) ?_
      cases hf
      exact pm_iret C X dX9_next_56 rfl (Nat.le_refl _) (Nat.le_refl _) q
    · have hf := pm_ie hf c3
      refine pm_aload_n C dX9_next_16 rfl rfl ?_
      refine pm_getI C dX9_next_17 flX9_51 rfl k1 rfl ?_
      refine pm_aload_n C dX9_next_20 rfl rfl ?_
      refine pm_getI C dX9_next_21 flX9_60 rfl k1 rfl ?_
      refine pm_icmp_ge (tgt := 42) C dX9_next_24 (by decide) (fun c6 => ?_) (fun c6 => ?_)
      · have hf := pm_it hf c6
        refine pm_aload_n C dX9_next_42 rfl rfl ?_
        refine pm_iconst (v := 1) C dX9_next_43 (by decide) ?_
        refine pm_putI C dX9_next_44 flX9_40 rfl rfl k1 rfl rfl ?_
        refine pm_aload_n C dX9_next_47 rfl rfl ?_
        refine pm_aload_n C dX9_next_48 rfl rfl ?_
        refine pm_getI C dX9_next_49 flX9_60 rfl k1 rfl ?_
        obtain ⟨y7, e8, hf⟩ := pm_lt hf
        refine pm_topI e8 ?_
        refine pm_putI C dX9_next_52 flX9_63 rfl rfl k1 rfl rfl ?_
        refine pm_iconst (v := 0) C dX9_next_55 (by decide) ?_
        cases hf
        exact pm_iret C X dX9_next_56 rfl (Nat.le_refl _) (Nat.le_refl _) q
      · have hf := pm_ie hf c6
        refine pm_aload_n C dX9_next_27 rfl rfl ?_
        refine pm_getI C dX9_next_28 flX9_51 rfl k1 rfl ?_
        refine pm_aload_n C dX9_next_31 rfl rfl ?_
        obtain ⟨v9, e10, hf⟩ := pm_bd hf
        refine pm_getR C dX9_next_32 flX9_19 rfl k1 e10 ?_
        obtain ⟨k11, hf⟩ := pm_if hf
        obtain ⟨v12, e13, hf⟩ := pm_bd hf
        refine pm_getR C dX9_next_35 flX9_54 rfl k11 e13 ?_
        obtain ⟨k14, hf⟩ := pm_if hf
        refine pm_alen (t := 1) C dX9_next_38 (by decide) k14 rfl ?_
        refine pm_icmp_lt (tgt := 57) C dX9_next_39 (by decide) (fun c15 => ?_) (fun c15 => ?_)
        · have hf := pm_it hf c15
          refine pm_aload_n C dX9_next_57 rfl rfl ?_
          refine pm_dup C dX9_next_58 rfl ?_
          refine pm_getI C dX9_next_59 flX9_51 rfl k1 rfl ?_
          refine pm_iconst (v := 1) C dX9_next_62 (by decide) ?_
          refine pm_iadd C dX9_next_63 ?_
          obtain ⟨y16, e17, hf⟩ := pm_lt hf
          refine pm_topI e17 ?_
          refine pm_putI C dX9_next_64 flX9_51 rfl rfl k1 rfl rfl ?_
          refine pm_aload_n C dX9_next_67 rfl rfl ?_
          refine pm_getR C dX9_next_68 flX9_19 rfl k1 e10 ?_
          refine pm_getR C dX9_next_71 flX9_54 rfl k11 e13 ?_
          refine pm_aload_n C dX9_next_74 rfl rfl ?_
          refine pm_getI C dX9_next_75 flX9_51 rfl k1 rfl ?_
          refine pm_iconst (v := 1) C dX9_next_78 (by decide) ?_
          refine pm_isub C dX9_next_79 ?_
          obtain ⟨y18, e19, hf⟩ := pm_lt hf
          refine pm_topI e19 ?_
          obtain ⟨u20, hf⟩ := pm_if hf
          refine pm_bald C dX9_next_80 k14 u20 rfl ?_
          refine pm_sipush (v := 255) C dX9_next_81 (by decide) ?_
          refine pm_iand C dX9_next_84 ?_
          cases hf
          exact pm_iret C X dX9_next_85 rfl (Nat.le_refl _) (Nat.le_refl _) q
        · have hf := pm_ie hf c15
          refine pm_aload_n C dX9_next_42 rfl rfl ?_
          refine pm_iconst (v := 1) C dX9_next_43 (by decide) ?_
          refine pm_putI C dX9_next_44 flX9_40 rfl rfl k1 rfl rfl ?_
          refine pm_aload_n C dX9_next_47 rfl rfl ?_
          refine pm_aload_n C dX9_next_48 rfl rfl ?_
          refine pm_getI C dX9_next_49 flX9_60 rfl k1 rfl ?_
          obtain ⟨y21, e22, hf⟩ := pm_lt hf
          refine pm_topI e22 ?_
          refine pm_putI C dX9_next_52 flX9_63 rfl rfl k1 rfl rfl ?_
          refine pm_iconst (v := 0) C dX9_next_55 (by decide) ?_
          cases hf
          exact pm_iret C X dX9_next_56 rfl (Nat.le_refl _) (Nat.le_refl _) q
  · have hf := pm_ie hf c2
    refine pm_iconst (v := 0) C dX9_next_7 (by decide) ?_
    cases hf
    exact pm_iret C X dX9_next_8 rfl (Nat.le_refl _) (Nat.le_refl _) q
theorem dX9_nextUpTo_0 : decode cX9_nextUpTo 0 = .ok (.aload_n 0, 1) := by decide +kernel
theorem dX9_nextUpTo_1 : decode cX9_nextUpTo 1 = .ok (.invokevirtual 43, 3) := by decide +kernel
theorem dX9_nextUpTo_4 : decode cX9_nextUpTo 4 = .ok (.istore_n 2, 1) := by decide +kernel
theorem dX9_nextUpTo_5 : decode cX9_nextUpTo 5 = .ok (.iload_n 2, 1) := by decide +kernel
theorem dX9_nextUpTo_6 : decode cX9_nextUpTo 6 = .ok (.iload_n 1, 1) := by decide +kernel
theorem dX9_nextUpTo_7 : decode cX9_nextUpTo 7 = .ok (.if_icmp .le 15, 3) := by decide +kernel
theorem dX9_nextUpTo_10 : decode cX9_nextUpTo 10 = .ok (.aload_n 0, 1) := by decide +kernel
theorem dX9_nextUpTo_11 : decode cX9_nextUpTo 11 = .ok (.bipush 7, 2) := by decide +kernel
theorem dX9_nextUpTo_13 : decode cX9_nextUpTo 13 = .ok (.aload_n 0, 1) := by decide +kernel
theorem dX9_nextUpTo_14 : decode cX9_nextUpTo 14 = .ok (.getfield 51, 3) := by decide +kernel
theorem dX9_nextUpTo_17 : decode cX9_nextUpTo 17 = .ok (.iconst 1, 1) := by decide +kernel
theorem dX9_nextUpTo_18 : decode cX9_nextUpTo 18 = .ok (.isub, 1) := by decide +kernel
theorem dX9_nextUpTo_19 : decode cX9_nextUpTo 19 = .ok (.invokevirtual 47, 3) := by decide +kernel
theorem dX9_nextUpTo_22 : decode cX9_nextUpTo 22 = .ok (.iload_n 2, 1) := by decide +kernel
theorem dX9_nextUpTo_23 : decode cX9_nextUpTo 23 = .ok (.ireturn, 1) := by decide +kernel
def fX9_nextUpTo (h : pm_H) (a0 : Nat) (p1 : Int32) : Option (Int32 × pm_H) := if pm_kd h a0 = 9 then (fX9_next h a0).bind fun v2 => if v2.1 ≤ p1 then (some ((v2.1, v2.2))) else (if pm_kd v2.2 a0 = 9 then (fX9_fail v2.2 a0 7 ((pm_I v2.2 a0 1) - 1)).bind fun v6 => some ((v2.1, v6)) else none) else none
set_option maxHeartbeats 4000000 in
set_option maxRecDepth 100000 in
theorem ctX9_nextUpTo {l : Launch} {G : pm_Gl} {h : pm_H} {a0 : Nat} {p1 : Int32} {r : (Int32 × pm_H)} {Qr : Option Value → pm_H → Prop} (hf : fX9_nextUpTo h a0 p1 = some r) (q : Qr (some (.int r.1)) r.2) : pm_Ct l G mX9_nextUpTo [.ref a0, .int p1] h 0 0 Qr := by
  refine pm_body pnX9 (Nat.le_of_ble_eq_true rfl) (fun g C X => ?_)
  have C : pm_C g cX9_nextUpTo RX9 := C
  show pm_G g 0 [(0, .ref a0), (1, .int p1)] [] h 0 0
  unfold fX9_nextUpTo at hf
  refine pm_aload_n C dX9_nextUpTo_0 rfl rfl ?_
  obtain ⟨k1, hf⟩ := pm_if hf
  obtain ⟨v2, e3, hf⟩ := pm_bd hf
  refine pm_callV (as := []) (st := []) C X dX9_nextUpTo_1 lnX9_43 myX9_next viX9_next ⟨by decide, by decide⟩ rfl rfl k1 (Nat.le_of_ble_eq_true rfl) (Nat.le_refl _) (Nat.le_refl _) (ctX9_next e3 ?_)
  show pm_G g 4 [(0, .ref a0), (1, .int p1)] [.int v2.1] v2.2 0 0
  refine pm_istore_n (lv' := [(2, .int v2.1), (0, .ref a0), (1, .int p1)]) C dX9_nextUpTo_4 rfl (pm_nl X (by decide)) rfl ?_
  refine pm_iload_n C dX9_nextUpTo_5 rfl rfl ?_
  refine pm_iload_n C dX9_nextUpTo_6 rfl rfl ?_
  refine pm_icmp_le (tgt := 22) C dX9_nextUpTo_7 (by decide) (fun c4 => ?_) (fun c4 => ?_)
  · have hf := pm_it hf c4
    refine pm_iload_n C dX9_nextUpTo_22 rfl rfl ?_
    cases hf
    exact pm_iret C X dX9_nextUpTo_23 rfl (Nat.le_refl _) (Nat.le_refl _) q
  · have hf := pm_ie hf c4
    refine pm_aload_n C dX9_nextUpTo_10 rfl rfl ?_
    refine pm_bipush (v := 7) C dX9_nextUpTo_11 (by decide) ?_
    refine pm_aload_n C dX9_nextUpTo_13 rfl rfl ?_
    obtain ⟨k5, hf⟩ := pm_if hf
    refine pm_getI C dX9_nextUpTo_14 flX9_51 rfl k5 rfl ?_
    refine pm_iconst (v := 1) C dX9_nextUpTo_17 (by decide) ?_
    refine pm_isub C dX9_nextUpTo_18 ?_
    obtain ⟨v6, e7, hf⟩ := pm_bd hf
    refine pm_callV (as := [.int 7, .int ((pm_I v2.2 a0 1) - 1)]) (st := []) C X dX9_nextUpTo_19 lnX9_47 myX9_fail viX9_fail ⟨by decide, by decide⟩ rfl rfl k5 (Nat.le_of_ble_eq_true rfl) (Nat.le_refl _) (Nat.le_refl _) (ctX9_fail e7 ?_)
    show pm_G g 22 [(2, .int v2.1), (0, .ref a0), (1, .int p1)] [] v6 0 0
    refine pm_iload_n C dX9_nextUpTo_22 rfl rfl ?_
    cases hf
    exact pm_iret C X dX9_nextUpTo_23 rfl (Nat.le_refl _) (Nat.le_refl _) q
theorem dX9_open_0 : decode cX9_open 0 = .ok (.aload_n 0, 1) := by decide +kernel
theorem dX9_open_1 : decode cX9_open 1 = .ok (.aload_n 1, 1) := by decide +kernel
theorem dX9_open_2 : decode cX9_open 2 = .ok (.putfield 19, 3) := by decide +kernel
theorem dX9_open_5 : decode cX9_open 5 = .ok (.aload_n 0, 1) := by decide +kernel
theorem dX9_open_6 : decode cX9_open 6 = .ok (.iload_n 2, 1) := by decide +kernel
theorem dX9_open_7 : decode cX9_open 7 = .ok (.putfield 51, 3) := by decide +kernel
theorem dX9_open_10 : decode cX9_open 10 = .ok (.aload_n 0, 1) := by decide +kernel
theorem dX9_open_11 : decode cX9_open 11 = .ok (.aload_n 1, 1) := by decide +kernel
theorem dX9_open_12 : decode cX9_open 12 = .ok (.getfield 54, 3) := by decide +kernel
theorem dX9_open_15 : decode cX9_open 15 = .ok (.arraylength, 1) := by decide +kernel
theorem dX9_open_16 : decode cX9_open 16 = .ok (.putfield 60, 3) := by decide +kernel
theorem dX9_open_19 : decode cX9_open 19 = .ok (.aload_n 0, 1) := by decide +kernel
theorem dX9_open_20 : decode cX9_open 20 = .ok (.iconst 0, 1) := by decide +kernel
theorem dX9_open_21 : decode cX9_open 21 = .ok (.putfield 40, 3) := by decide +kernel
theorem dX9_open_24 : decode cX9_open 24 = .ok (.aload_n 0, 1) := by decide +kernel
theorem dX9_open_25 : decode cX9_open 25 = .ok (.iconst (-1), 1) := by decide +kernel
theorem dX9_open_26 : decode cX9_open 26 = .ok (.putfield 63, 3) := by decide +kernel
theorem dX9_open_29 : decode cX9_open 29 = .ok (.aload_n 0, 1) := by decide +kernel
theorem dX9_open_30 : decode cX9_open 30 = .ok (.iconst 0, 1) := by decide +kernel
theorem dX9_open_31 : decode cX9_open 31 = .ok (.putfield 66, 3) := by decide +kernel
theorem dX9_open_34 : decode cX9_open 34 = .ok (.return_, 1) := by decide +kernel
def fX9_open (h : pm_H) (a0 : Nat) (p1 : Nat) (p2 : Int32) : Option pm_H := if pm_kd h a0 = 9 then if pm_kd (pm_setI (pm_setR h a0 0 (some p1)) a0 1 p2) p1 = 7 then (pm_R (pm_setI (pm_setR h a0 0 (some p1)) a0 1 p2) p1 0).bind fun v3 => if pm_kd (pm_setI (pm_setR h a0 0 (some p1)) a0 1 p2) v3 = 33 then pm_let (Int32.ofNat (pm_ln (pm_setI (pm_setR h a0 0 (some p1)) a0 1 p2) v3)) fun y6 => some (pm_setI (pm_setI (pm_setI (pm_setI (pm_setI (pm_setR h a0 0 (some p1)) a0 1 p2) a0 2 y6) a0 3 0) a0 4 (-1)) a0 16 0) else none else none else none
set_option maxHeartbeats 4000000 in
set_option maxRecDepth 100000 in
theorem ctX9_open {l : Launch} {G : pm_Gl} {h : pm_H} {a0 : Nat} {p1 : Nat} {p2 : Int32} {r : pm_H} {Qr : Option Value → pm_H → Prop} (hf : fX9_open h a0 p1 p2 = some r) (q : Qr none r) : pm_Ct l G mX9_open [.ref a0, .ref p1, .int p2] h 0 0 Qr := by
  refine pm_body pnX9 (Nat.le_of_ble_eq_true rfl) (fun g C X => ?_)
  have C : pm_C g cX9_open RX9 := C
  show pm_G g 0 [(0, .ref a0), (1, .ref p1), (2, .int p2)] [] h 0 0
  unfold fX9_open at hf
  refine pm_aload_n C dX9_open_0 rfl rfl ?_
  refine pm_aload_n C dX9_open_1 rfl rfl ?_
  obtain ⟨k1, hf⟩ := pm_if hf
  refine pm_putR C dX9_open_2 flX9_19 rfl rfl k1 ?_
  refine pm_aload_n C dX9_open_5 rfl rfl ?_
  refine pm_iload_n C dX9_open_6 rfl rfl ?_
  refine pm_putI C dX9_open_7 flX9_51 rfl rfl k1 rfl rfl ?_
  refine pm_aload_n C dX9_open_10 rfl rfl ?_
  refine pm_aload_n C dX9_open_11 rfl rfl ?_
  obtain ⟨k2, hf⟩ := pm_if hf
  obtain ⟨v3, e4, hf⟩ := pm_bd hf
  refine pm_getR C dX9_open_12 flX9_54 rfl k2 e4 ?_
  obtain ⟨k5, hf⟩ := pm_if hf
  refine pm_alen (t := 1) C dX9_open_15 (by decide) k5 rfl ?_
  obtain ⟨y6, e7, hf⟩ := pm_lt hf
  refine pm_topI e7 ?_
  refine pm_putI C dX9_open_16 flX9_60 rfl rfl k1 rfl rfl ?_
  refine pm_aload_n C dX9_open_19 rfl rfl ?_
  refine pm_iconst (v := 0) C dX9_open_20 (by decide) ?_
  refine pm_putI C dX9_open_21 flX9_40 rfl rfl k1 rfl rfl ?_
  refine pm_aload_n C dX9_open_24 rfl rfl ?_
  refine pm_iconst (v := (-1)) C dX9_open_25 (by decide) ?_
  refine pm_putI C dX9_open_26 flX9_63 rfl rfl k1 rfl rfl ?_
  refine pm_aload_n C dX9_open_29 rfl rfl ?_
  refine pm_iconst (v := 0) C dX9_open_30 (by decide) ?_
  refine pm_putI C dX9_open_31 flX9_66 rfl rfl k1 (by decide) (by decide) ?_
  cases hf
  exact pm_vret C X dX9_open_34 rfl (Nat.le_refl _) (Nat.le_refl _) q
theorem dX9_rank_0 : decode cX9_rank 0 = .ok (.iload_n 0, 1) := by decide +kernel
theorem dX9_rank_1 : decode cX9_rank 1 = .ok (.bipush 10, 2) := by decide +kernel
theorem dX9_rank_3 : decode cX9_rank 3 = .ok (.if_icmp .ge 7, 3) := by decide +kernel
theorem dX9_rank_6 : decode cX9_rank 6 = .ok (.iload_n 0, 1) := by decide +kernel
theorem dX9_rank_7 : decode cX9_rank 7 = .ok (.goto 17, 3) := by decide +kernel
theorem dX9_rank_10 : decode cX9_rank 10 = .ok (.iload_n 0, 1) := by decide +kernel
theorem dX9_rank_11 : decode cX9_rank 11 = .ok (.bipush 12, 2) := by decide +kernel
theorem dX9_rank_13 : decode cX9_rank 13 = .ok (.if_icmp .ne 8, 3) := by decide +kernel
theorem dX9_rank_16 : decode cX9_rank 16 = .ok (.bipush 10, 2) := by decide +kernel
theorem dX9_rank_18 : decode cX9_rank 18 = .ok (.goto 6, 3) := by decide +kernel
theorem dX9_rank_21 : decode cX9_rank 21 = .ok (.iload_n 0, 1) := by decide +kernel
theorem dX9_rank_22 : decode cX9_rank 22 = .ok (.iconst 1, 1) := by decide +kernel
theorem dX9_rank_23 : decode cX9_rank 23 = .ok (.iadd, 1) := by decide +kernel
theorem dX9_rank_24 : decode cX9_rank 24 = .ok (.ireturn, 1) := by decide +kernel
def fX9_rank (p1 : Int32) : Int32 := if 10 ≤ p1 then (if p1 = 12 then (10) else (p1 + 1)) else (p1)
set_option maxHeartbeats 4000000 in
set_option maxRecDepth 100000 in
theorem ctX9_rank {l : Launch} {G : pm_Gl} {h : pm_H} {p1 : Int32} {r : Int32} {Qr : Option Value → pm_H → Prop} (hf : fX9_rank p1 = r) (q : Qr (some (.int r)) h) : pm_Ct l G mX9_rank [.int p1] h 0 0 Qr := by
  refine pm_body pnX9 (Nat.le_of_ble_eq_true rfl) (fun g C X => ?_)
  have C : pm_C g cX9_rank RX9 := C
  show pm_G g 0 [(0, .int p1)] [] h 0 0
  unfold fX9_rank at hf
  refine pm_iload_n C dX9_rank_0 rfl rfl ?_
  refine pm_bipush (v := 10) C dX9_rank_1 (by decide) ?_
  refine pm_icmp_ge (tgt := 10) C dX9_rank_3 (by decide) (fun c1 => ?_) (fun c1 => ?_)
  · have hf := pm_it hf c1
    refine pm_iload_n C dX9_rank_10 rfl rfl ?_
    refine pm_bipush (v := 12) C dX9_rank_11 (by decide) ?_
    refine pm_icmp_ne (tgt := 21) C dX9_rank_13 (by decide) (fun c2 => ?_) (fun c2 => ?_)
    · have hf := pm_ie hf c2
      refine pm_iload_n C dX9_rank_21 rfl rfl ?_
      refine pm_iconst (v := 1) C dX9_rank_22 (by decide) ?_
      refine pm_iadd C dX9_rank_23 ?_
      subst hf
      exact pm_iret C X dX9_rank_24 rfl (Nat.le_refl _) (Nat.le_refl _) q
    · have hf := pm_it hf c2
      refine pm_bipush (v := 10) C dX9_rank_16 (by decide) ?_
      refine pm_goto (tgt := 24) C dX9_rank_18 (by decide) ?_
      subst hf
      exact pm_iret C X dX9_rank_24 rfl (Nat.le_refl _) (Nat.le_refl _) q
  · have hf := pm_ie hf c1
    refine pm_iload_n C dX9_rank_6 rfl rfl ?_
    refine pm_goto (tgt := 24) C dX9_rank_7 (by decide) ?_
    subst hf
    exact pm_iret C X dX9_rank_24 rfl (Nat.le_refl _) (Nat.le_refl _) q
theorem dX9_referenceType_0 : decode cX9_referenceType 0 = .ok (.aload_n 0, 1) := by decide +kernel
theorem dX9_referenceType_1 : decode cX9_referenceType 1 = .ok (.invokevirtual 43, 3) := by decide +kernel
theorem dX9_referenceType_4 : decode cX9_referenceType 4 = .ok (.istore_n 1, 1) := by decide +kernel
theorem dX9_referenceType_5 : decode cX9_referenceType 5 = .ok (.iload_n 1, 1) := by decide +kernel
theorem dX9_referenceType_6 : decode cX9_referenceType 6 = .ok (.invokestatic 105, 3) := by decide +kernel
theorem dX9_referenceType_9 : decode cX9_referenceType 9 = .ok (.ifCond .ne 15, 3) := by decide +kernel
theorem dX9_referenceType_12 : decode cX9_referenceType 12 = .ok (.aload_n 0, 1) := by decide +kernel
theorem dX9_referenceType_13 : decode cX9_referenceType 13 = .ok (.bipush 8, 2) := by decide +kernel
theorem dX9_referenceType_15 : decode cX9_referenceType 15 = .ok (.aload_n 0, 1) := by decide +kernel
theorem dX9_referenceType_16 : decode cX9_referenceType 16 = .ok (.getfield 51, 3) := by decide +kernel
theorem dX9_referenceType_19 : decode cX9_referenceType 19 = .ok (.iconst 1, 1) := by decide +kernel
theorem dX9_referenceType_20 : decode cX9_referenceType 20 = .ok (.isub, 1) := by decide +kernel
theorem dX9_referenceType_21 : decode cX9_referenceType 21 = .ok (.invokevirtual 47, 3) := by decide +kernel
theorem dX9_referenceType_24 : decode cX9_referenceType 24 = .ok (.iload_n 1, 1) := by decide +kernel
theorem dX9_referenceType_25 : decode cX9_referenceType 25 = .ok (.ireturn, 1) := by decide +kernel
def fX9_referenceType (h : pm_H) (a0 : Nat) : Option (Int32 × pm_H) := if pm_kd h a0 = 9 then (fX9_next h a0).bind fun v2 => pm_let (fX9_isReference v2.1) fun v4 => if v4 = 0 then (if pm_kd v2.2 a0 = 9 then (fX9_fail v2.2 a0 8 ((pm_I v2.2 a0 1) - 1)).bind fun v8 => some ((v2.1, v8)) else none) else (some ((v2.1, v2.2))) else none
set_option maxHeartbeats 4000000 in
set_option maxRecDepth 100000 in
theorem ctX9_referenceType {l : Launch} {G : pm_Gl} {h : pm_H} {a0 : Nat} {r : (Int32 × pm_H)} {Qr : Option Value → pm_H → Prop} (hf : fX9_referenceType h a0 = some r) (q : Qr (some (.int r.1)) r.2) : pm_Ct l G mX9_referenceType [.ref a0] h 0 0 Qr := by
  refine pm_body pnX9 (Nat.le_of_ble_eq_true rfl) (fun g C X => ?_)
  have C : pm_C g cX9_referenceType RX9 := C
  show pm_G g 0 [(0, .ref a0)] [] h 0 0
  unfold fX9_referenceType at hf
  refine pm_aload_n C dX9_referenceType_0 rfl rfl ?_
  obtain ⟨k1, hf⟩ := pm_if hf
  obtain ⟨v2, e3, hf⟩ := pm_bd hf
  refine pm_callV (as := []) (st := []) C X dX9_referenceType_1 lnX9_43 myX9_next viX9_next ⟨by decide, by decide⟩ rfl rfl k1 (Nat.le_of_ble_eq_true rfl) (Nat.le_refl _) (Nat.le_refl _) (ctX9_next e3 ?_)
  show pm_G g 4 [(0, .ref a0)] [.int v2.1] v2.2 0 0
  refine pm_istore_n (lv' := [(1, .int v2.1), (0, .ref a0)]) C dX9_referenceType_4 rfl (pm_nl X (by decide)) rfl ?_
  refine pm_iload_n C dX9_referenceType_5 rfl rfl ?_
  obtain ⟨v4, e5, hf⟩ := pm_lt hf
  refine pm_callS (as := [.int v2.1]) (st := []) C X dX9_referenceType_6 lnX9_105 myX9_isReference stX9_isReference ⟨by decide, by decide⟩ rfl rfl (Nat.le_of_ble_eq_true rfl) (Nat.le_refl _) (Nat.le_refl _) (ctX9_isReference e5 ?_)
  show pm_G g 9 [(1, .int v2.1), (0, .ref a0)] [.int v4] v2.2 0 0
  refine pm_if_ne (tgt := 24) C dX9_referenceType_9 (by decide) (fun c6 => ?_) (fun c6 => ?_)
  · have hf := pm_ie hf c6
    refine pm_iload_n C dX9_referenceType_24 rfl rfl ?_
    cases hf
    exact pm_iret C X dX9_referenceType_25 rfl (Nat.le_refl _) (Nat.le_refl _) q
  · have hf := pm_it hf c6
    refine pm_aload_n C dX9_referenceType_12 rfl rfl ?_
    refine pm_bipush (v := 8) C dX9_referenceType_13 (by decide) ?_
    refine pm_aload_n C dX9_referenceType_15 rfl rfl ?_
    obtain ⟨k7, hf⟩ := pm_if hf
    refine pm_getI C dX9_referenceType_16 flX9_51 rfl k7 rfl ?_
    refine pm_iconst (v := 1) C dX9_referenceType_19 (by decide) ?_
    refine pm_isub C dX9_referenceType_20 ?_
    obtain ⟨v8, e9, hf⟩ := pm_bd hf
    refine pm_callV (as := [.int 8, .int ((pm_I v2.2 a0 1) - 1)]) (st := []) C X dX9_referenceType_21 lnX9_47 myX9_fail viX9_fail ⟨by decide, by decide⟩ rfl rfl k7 (Nat.le_of_ble_eq_true rfl) (Nat.le_refl _) (Nat.le_refl _) (ctX9_fail e9 ?_)
    show pm_G g 24 [(1, .int v2.1), (0, .ref a0)] [] v8 0 0
    refine pm_iload_n C dX9_referenceType_24 rfl rfl ?_
    cases hf
    exact pm_iret C X dX9_referenceType_25 rfl (Nat.le_refl _) (Nat.le_refl _) q
theorem dX9_skip_0 : decode cX9_skip 0 = .ok (.aload_n 0, 1) := by decide +kernel
theorem dX9_skip_1 : decode cX9_skip 1 = .ok (.getfield 40, 3) := by decide +kernel
theorem dX9_skip_4 : decode cX9_skip 4 = .ok (.ifCond .ne 27, 3) := by decide +kernel
theorem dX9_skip_7 : decode cX9_skip 7 = .ok (.lload_n 1, 1) := by decide +kernel
theorem dX9_skip_8 : decode cX9_skip 8 = .ok (.aload_n 0, 1) := by decide +kernel
theorem dX9_skip_9 : decode cX9_skip 9 = .ok (.getfield 60, 3) := by decide +kernel
theorem dX9_skip_12 : decode cX9_skip 12 = .ok (.aload_n 0, 1) := by decide +kernel
theorem dX9_skip_13 : decode cX9_skip 13 = .ok (.getfield 51, 3) := by decide +kernel
theorem dX9_skip_16 : decode cX9_skip 16 = .ok (.isub, 1) := by decide +kernel
theorem dX9_skip_17 : decode cX9_skip 17 = .ok (.i2l, 1) := by decide +kernel
theorem dX9_skip_18 : decode cX9_skip 18 = .ok (.lcmp, 1) := by decide +kernel
theorem dX9_skip_19 : decode cX9_skip 19 = .ok (.ifCond .le 12, 3) := by decide +kernel
theorem dX9_skip_22 : decode cX9_skip 22 = .ok (.aload_n 0, 1) := by decide +kernel
theorem dX9_skip_23 : decode cX9_skip 23 = .ok (.iconst 1, 1) := by decide +kernel
theorem dX9_skip_24 : decode cX9_skip 24 = .ok (.aload_n 0, 1) := by decide +kernel
theorem dX9_skip_25 : decode cX9_skip 25 = .ok (.getfield 60, 3) := by decide +kernel
theorem dX9_skip_28 : decode cX9_skip 28 = .ok (.invokevirtual 47, 3) := by decide +kernel
theorem dX9_skip_31 : decode cX9_skip 31 = .ok (.aload_n 0, 1) := by decide +kernel
theorem dX9_skip_32 : decode cX9_skip 32 = .ok (.getfield 40, 3) := by decide +kernel
theorem dX9_skip_35 : decode cX9_skip 35 = .ok (.ifCond .ne 14, 3) := by decide +kernel
theorem dX9_skip_38 : decode cX9_skip 38 = .ok (.aload_n 0, 1) := by decide +kernel
theorem dX9_skip_39 : decode cX9_skip 39 = .ok (.dup, 1) := by decide +kernel
theorem dX9_skip_40 : decode cX9_skip 40 = .ok (.getfield 51, 3) := by decide +kernel
theorem dX9_skip_43 : decode cX9_skip 43 = .ok (.lload_n 1, 1) := by decide +kernel
theorem dX9_skip_44 : decode cX9_skip 44 = .ok (.l2i, 1) := by decide +kernel
theorem dX9_skip_45 : decode cX9_skip 45 = .ok (.iadd, 1) := by decide +kernel
theorem dX9_skip_46 : decode cX9_skip 46 = .ok (.putfield 51, 3) := by decide +kernel
theorem dX9_skip_49 : decode cX9_skip 49 = .ok (.return_, 1) := by decide +kernel
def fX9_skip (h : pm_H) (a0 : Nat) (p1 : Int64) : Option pm_H := if pm_kd h a0 = 9 then if (pm_I h a0 3) = 0 then (if p1 ≤ (((pm_I h a0 2) - (pm_I h a0 1)).toInt64) then (if (pm_I h a0 3) = 0 then (pm_let ((pm_I h a0 1) + p1.toInt32) fun y8 => some (pm_setI h a0 1 y8)) else (some h)) else ((fX9_fail h a0 1 (pm_I h a0 2)).bind fun v10 => if pm_kd v10 a0 = 9 then if (pm_I v10 a0 3) = 0 then (pm_let ((pm_I v10 a0 1) + p1.toInt32) fun y14 => some (pm_setI v10 a0 1 y14)) else (some v10) else none)) else (if (pm_I h a0 3) = 0 then (pm_let ((pm_I h a0 1) + p1.toInt32) fun y4 => some (pm_setI h a0 1 y4)) else (some h)) else none
set_option maxHeartbeats 4000000 in
set_option maxRecDepth 100000 in
theorem ctX9_skip {l : Launch} {G : pm_Gl} {h : pm_H} {a0 : Nat} {p1 : Int64} {r : pm_H} {Qr : Option Value → pm_H → Prop} (hf : fX9_skip h a0 p1 = some r) (q : Qr none r) : pm_Ct l G mX9_skip [.ref a0, .long p1] h 0 0 Qr := by
  refine pm_body pnX9 (Nat.le_of_ble_eq_true rfl) (fun g C X => ?_)
  have C : pm_C g cX9_skip RX9 := C
  show pm_G g 0 [(0, .ref a0), (1, .long p1)] [] h 0 0
  unfold fX9_skip at hf
  refine pm_aload_n C dX9_skip_0 rfl rfl ?_
  obtain ⟨k1, hf⟩ := pm_if hf
  refine pm_getI C dX9_skip_1 flX9_40 rfl k1 rfl ?_
  refine pm_if_ne (tgt := 31) C dX9_skip_4 (by decide) (fun c2 => ?_) (fun c2 => ?_)
  · have hf := pm_ie hf c2
    refine pm_aload_n C dX9_skip_31 rfl rfl ?_
    refine pm_getI C dX9_skip_32 flX9_40 rfl k1 rfl ?_
    refine pm_if_ne (tgt := 49) C dX9_skip_35 (by decide) (fun c3 => ?_) (fun c3 => ?_)
    · have hf := pm_ie hf c3
      cases hf
      exact pm_vret C X dX9_skip_49 rfl (Nat.le_refl _) (Nat.le_refl _) q
    · have hf := pm_it hf c3
      refine pm_aload_n C dX9_skip_38 rfl rfl ?_
      refine pm_dup C dX9_skip_39 rfl ?_
      refine pm_getI C dX9_skip_40 flX9_51 rfl k1 rfl ?_
      refine pm_lload_n C dX9_skip_43 rfl rfl ?_
      refine pm_l2i C dX9_skip_44 ?_
      refine pm_iadd C dX9_skip_45 ?_
      obtain ⟨y4, e5, hf⟩ := pm_lt hf
      refine pm_topI e5 ?_
      refine pm_putI C dX9_skip_46 flX9_51 rfl rfl k1 rfl rfl ?_
      cases hf
      exact pm_vret C X dX9_skip_49 rfl (Nat.le_refl _) (Nat.le_refl _) q
  · have hf := pm_it hf c2
    refine pm_lload_n C dX9_skip_7 rfl rfl ?_
    refine pm_aload_n C dX9_skip_8 rfl rfl ?_
    refine pm_getI C dX9_skip_9 flX9_60 rfl k1 rfl ?_
    refine pm_aload_n C dX9_skip_12 rfl rfl ?_
    refine pm_getI C dX9_skip_13 flX9_51 rfl k1 rfl ?_
    refine pm_isub C dX9_skip_16 ?_
    refine pm_i2l C dX9_skip_17 ?_
    refine pm_lcmp C dX9_skip_18 ?_
    refine pm_if_le (tgt := 31) C dX9_skip_19 (by decide) (fun c6 => ?_) (fun c6 => ?_)
    · have hf := pm_it hf ((pm_lg_le _ _).mp c6)
      refine pm_aload_n C dX9_skip_31 rfl rfl ?_
      refine pm_getI C dX9_skip_32 flX9_40 rfl k1 rfl ?_
      refine pm_if_ne (tgt := 49) C dX9_skip_35 (by decide) (fun c7 => ?_) (fun c7 => ?_)
      · have hf := pm_ie hf c7
        cases hf
        exact pm_vret C X dX9_skip_49 rfl (Nat.le_refl _) (Nat.le_refl _) q
      · have hf := pm_it hf c7
        refine pm_aload_n C dX9_skip_38 rfl rfl ?_
        refine pm_dup C dX9_skip_39 rfl ?_
        refine pm_getI C dX9_skip_40 flX9_51 rfl k1 rfl ?_
        refine pm_lload_n C dX9_skip_43 rfl rfl ?_
        refine pm_l2i C dX9_skip_44 ?_
        refine pm_iadd C dX9_skip_45 ?_
        obtain ⟨y8, e9, hf⟩ := pm_lt hf
        refine pm_topI e9 ?_
        refine pm_putI C dX9_skip_46 flX9_51 rfl rfl k1 rfl rfl ?_
        cases hf
        exact pm_vret C X dX9_skip_49 rfl (Nat.le_refl _) (Nat.le_refl _) q
    · have hf := pm_ie hf ((fun z => c6 ((pm_lg_le _ _).mpr z)))
      refine pm_aload_n C dX9_skip_22 rfl rfl ?_
      refine pm_iconst (v := 1) C dX9_skip_23 (by decide) ?_
      refine pm_aload_n C dX9_skip_24 rfl rfl ?_
      refine pm_getI C dX9_skip_25 flX9_60 rfl k1 rfl ?_
      obtain ⟨v10, e11, hf⟩ := pm_bd hf
      refine pm_callV (as := [.int 1, .int (pm_I h a0 2)]) (st := []) C X dX9_skip_28 lnX9_47 myX9_fail viX9_fail ⟨by decide, by decide⟩ rfl rfl k1 (Nat.le_of_ble_eq_true rfl) (Nat.le_refl _) (Nat.le_refl _) (ctX9_fail e11 ?_)
      show pm_G g 31 [(0, .ref a0), (1, .long p1)] [] v10 0 0
      refine pm_aload_n C dX9_skip_31 rfl rfl ?_
      obtain ⟨k12, hf⟩ := pm_if hf
      refine pm_getI C dX9_skip_32 flX9_40 rfl k12 rfl ?_
      refine pm_if_ne (tgt := 49) C dX9_skip_35 (by decide) (fun c13 => ?_) (fun c13 => ?_)
      · have hf := pm_ie hf c13
        cases hf
        exact pm_vret C X dX9_skip_49 rfl (Nat.le_refl _) (Nat.le_refl _) q
      · have hf := pm_it hf c13
        refine pm_aload_n C dX9_skip_38 rfl rfl ?_
        refine pm_dup C dX9_skip_39 rfl ?_
        refine pm_getI C dX9_skip_40 flX9_51 rfl k12 rfl ?_
        refine pm_lload_n C dX9_skip_43 rfl rfl ?_
        refine pm_l2i C dX9_skip_44 ?_
        refine pm_iadd C dX9_skip_45 ?_
        obtain ⟨y14, e15, hf⟩ := pm_lt hf
        refine pm_topI e15 ?_
        refine pm_putI C dX9_skip_46 flX9_51 rfl rfl k12 rfl rfl ?_
        cases hf
        exact pm_vret C X dX9_skip_49 rfl (Nat.le_refl _) (Nat.le_refl _) q
theorem dX9_valueType_0 : decode cX9_valueType 0 = .ok (.aload_n 0, 1) := by decide +kernel
theorem dX9_valueType_1 : decode cX9_valueType 1 = .ok (.invokevirtual 43, 3) := by decide +kernel
theorem dX9_valueType_4 : decode cX9_valueType 4 = .ok (.istore_n 1, 1) := by decide +kernel
theorem dX9_valueType_5 : decode cX9_valueType 5 = .ok (.iload_n 1, 1) := by decide +kernel
theorem dX9_valueType_6 : decode cX9_valueType 6 = .ok (.invokestatic 101, 3) := by decide +kernel
theorem dX9_valueType_9 : decode cX9_valueType 9 = .ok (.ifCond .ne 15, 3) := by decide +kernel
theorem dX9_valueType_12 : decode cX9_valueType 12 = .ok (.aload_n 0, 1) := by decide +kernel
theorem dX9_valueType_13 : decode cX9_valueType 13 = .ok (.bipush 8, 2) := by decide +kernel
theorem dX9_valueType_15 : decode cX9_valueType 15 = .ok (.aload_n 0, 1) := by decide +kernel
theorem dX9_valueType_16 : decode cX9_valueType 16 = .ok (.getfield 51, 3) := by decide +kernel
theorem dX9_valueType_19 : decode cX9_valueType 19 = .ok (.iconst 1, 1) := by decide +kernel
theorem dX9_valueType_20 : decode cX9_valueType 20 = .ok (.isub, 1) := by decide +kernel
theorem dX9_valueType_21 : decode cX9_valueType 21 = .ok (.invokevirtual 47, 3) := by decide +kernel
theorem dX9_valueType_24 : decode cX9_valueType 24 = .ok (.iload_n 1, 1) := by decide +kernel
theorem dX9_valueType_25 : decode cX9_valueType 25 = .ok (.ireturn, 1) := by decide +kernel
def fX9_valueType (h : pm_H) (a0 : Nat) : Option (Int32 × pm_H) := if pm_kd h a0 = 9 then (fX9_next h a0).bind fun v2 => pm_let (fX9_isValue v2.1) fun v4 => if v4 = 0 then (if pm_kd v2.2 a0 = 9 then (fX9_fail v2.2 a0 8 ((pm_I v2.2 a0 1) - 1)).bind fun v8 => some ((v2.1, v8)) else none) else (some ((v2.1, v2.2))) else none
set_option maxHeartbeats 4000000 in
set_option maxRecDepth 100000 in
theorem ctX9_valueType {l : Launch} {G : pm_Gl} {h : pm_H} {a0 : Nat} {r : (Int32 × pm_H)} {Qr : Option Value → pm_H → Prop} (hf : fX9_valueType h a0 = some r) (q : Qr (some (.int r.1)) r.2) : pm_Ct l G mX9_valueType [.ref a0] h 0 0 Qr := by
  refine pm_body pnX9 (Nat.le_of_ble_eq_true rfl) (fun g C X => ?_)
  have C : pm_C g cX9_valueType RX9 := C
  show pm_G g 0 [(0, .ref a0)] [] h 0 0
  unfold fX9_valueType at hf
  refine pm_aload_n C dX9_valueType_0 rfl rfl ?_
  obtain ⟨k1, hf⟩ := pm_if hf
  obtain ⟨v2, e3, hf⟩ := pm_bd hf
  refine pm_callV (as := []) (st := []) C X dX9_valueType_1 lnX9_43 myX9_next viX9_next ⟨by decide, by decide⟩ rfl rfl k1 (Nat.le_of_ble_eq_true rfl) (Nat.le_refl _) (Nat.le_refl _) (ctX9_next e3 ?_)
  show pm_G g 4 [(0, .ref a0)] [.int v2.1] v2.2 0 0
  refine pm_istore_n (lv' := [(1, .int v2.1), (0, .ref a0)]) C dX9_valueType_4 rfl (pm_nl X (by decide)) rfl ?_
  refine pm_iload_n C dX9_valueType_5 rfl rfl ?_
  obtain ⟨v4, e5, hf⟩ := pm_lt hf
  refine pm_callS (as := [.int v2.1]) (st := []) C X dX9_valueType_6 lnX9_101 myX9_isValue stX9_isValue ⟨by decide, by decide⟩ rfl rfl (Nat.le_of_ble_eq_true rfl) (Nat.le_refl _) (Nat.le_refl _) (ctX9_isValue e5 ?_)
  show pm_G g 9 [(1, .int v2.1), (0, .ref a0)] [.int v4] v2.2 0 0
  refine pm_if_ne (tgt := 24) C dX9_valueType_9 (by decide) (fun c6 => ?_) (fun c6 => ?_)
  · have hf := pm_ie hf c6
    refine pm_iload_n C dX9_valueType_24 rfl rfl ?_
    cases hf
    exact pm_iret C X dX9_valueType_25 rfl (Nat.le_refl _) (Nat.le_refl _) q
  · have hf := pm_it hf c6
    refine pm_aload_n C dX9_valueType_12 rfl rfl ?_
    refine pm_bipush (v := 8) C dX9_valueType_13 (by decide) ?_
    refine pm_aload_n C dX9_valueType_15 rfl rfl ?_
    obtain ⟨k7, hf⟩ := pm_if hf
    refine pm_getI C dX9_valueType_16 flX9_51 rfl k7 rfl ?_
    refine pm_iconst (v := 1) C dX9_valueType_19 (by decide) ?_
    refine pm_isub C dX9_valueType_20 ?_
    obtain ⟨v8, e9, hf⟩ := pm_bd hf
    refine pm_callV (as := [.int 8, .int ((pm_I v2.2 a0 1) - 1)]) (st := []) C X dX9_valueType_21 lnX9_47 myX9_fail viX9_fail ⟨by decide, by decide⟩ rfl rfl k7 (Nat.le_of_ble_eq_true rfl) (Nat.le_refl _) (Nat.le_refl _) (ctX9_fail e9 ?_)
    show pm_G g 24 [(1, .int v2.1), (0, .ref a0)] [] v8 0 0
    refine pm_iload_n C dX9_valueType_24 rfl rfl ?_
    cases hf
    exact pm_iret C X dX9_valueType_25 rfl (Nat.le_refl _) (Nat.le_refl _) q
theorem dX10_bodyOf_0 : decode cX10_bodyOf 0 = .ok (.aload_n 0, 1) := by decide +kernel
theorem dX10_bodyOf_1 : decode cX10_bodyOf 1 = .ok (.getfield 39, 3) := by decide +kernel
theorem dX10_bodyOf_4 : decode cX10_bodyOf 4 = .ok (.iload_n 1, 1) := by decide +kernel
theorem dX10_bodyOf_5 : decode cX10_bodyOf 5 = .ok (.ifCond .lt 16, 3) := by decide +kernel
theorem dX10_bodyOf_8 : decode cX10_bodyOf 8 = .ok (.iload_n 1, 1) := by decide +kernel
theorem dX10_bodyOf_9 : decode cX10_bodyOf 9 = .ok (.aload_n 0, 1) := by decide +kernel
theorem dX10_bodyOf_10 : decode cX10_bodyOf 10 = .ok (.getfield 39, 3) := by decide +kernel
theorem dX10_bodyOf_13 : decode cX10_bodyOf 13 = .ok (.arraylength, 1) := by decide +kernel
theorem dX10_bodyOf_14 : decode cX10_bodyOf 14 = .ok (.if_icmp .ge 7, 3) := by decide +kernel
theorem dX10_bodyOf_17 : decode cX10_bodyOf 17 = .ok (.iload_n 1, 1) := by decide +kernel
theorem dX10_bodyOf_18 : decode cX10_bodyOf 18 = .ok (.goto 4, 3) := by decide +kernel
theorem dX10_bodyOf_21 : decode cX10_bodyOf 21 = .ok (.iconst 0, 1) := by decide +kernel
theorem dX10_bodyOf_22 : decode cX10_bodyOf 22 = .ok (.aaload, 1) := by decide +kernel
theorem dX10_bodyOf_23 : decode cX10_bodyOf 23 = .ok (.areturn, 1) := by decide +kernel
def fX10_bodyOf (h : pm_H) (a0 : Nat) (p1 : Int32) : Option Nat := if pm_kd h a0 = 10 then (pm_R h a0 10).bind fun v2 => if p1 < 0 then (if pm_kd h v2 = 38 then if pm_in 0 (pm_ln h v2) then (pm_R h v2 (0 : Int32).toNatClampNeg).bind fun v7 => some v7 else none else none) else (if pm_kd h v2 = 38 then if (Int32.ofNat (pm_ln h v2)) ≤ p1 then (if pm_in 0 (pm_ln h v2) then (pm_R h v2 (0 : Int32).toNatClampNeg).bind fun v12 => some v12 else none) else (if pm_in p1 (pm_ln h v2) then (pm_R h v2 p1.toNatClampNeg).bind fun v15 => some v15 else none) else none) else none
set_option maxHeartbeats 4000000 in
set_option maxRecDepth 100000 in
theorem ctX10_bodyOf {l : Launch} {G : pm_Gl} {h : pm_H} {a0 : Nat} {p1 : Int32} {r : Nat} {Qr : Option Value → pm_H → Prop} (hf : fX10_bodyOf h a0 p1 = some r) (q : Qr (some (.ref r)) h) : pm_Ct l G mX10_bodyOf [.ref a0, .int p1] h 0 0 Qr := by
  refine pm_body pnX10 (Nat.le_of_ble_eq_true rfl) (fun g C X => ?_)
  have C : pm_C g cX10_bodyOf RX10 := C
  show pm_G g 0 [(0, .ref a0), (1, .int p1)] [] h 0 0
  unfold fX10_bodyOf at hf
  refine pm_aload_n C dX10_bodyOf_0 rfl rfl ?_
  obtain ⟨k1, hf⟩ := pm_if hf
  obtain ⟨v2, e3, hf⟩ := pm_bd hf
  refine pm_getR C dX10_bodyOf_1 flX10_39 rfl k1 e3 ?_
  refine pm_iload_n C dX10_bodyOf_4 rfl rfl ?_
  refine pm_if_lt (tgt := 21) C dX10_bodyOf_5 (by decide) (fun c4 => ?_) (fun c4 => ?_)
  · have hf := pm_it hf c4
    refine pm_iconst (v := 0) C dX10_bodyOf_21 (by decide) ?_
    obtain ⟨k5, hf⟩ := pm_if hf
    obtain ⟨u6, hf⟩ := pm_if hf
    obtain ⟨v7, e8, hf⟩ := pm_bd hf
    refine pm_ald (t := 6) C dX10_bodyOf_22 (by decide) rfl k5 u6 e8 ?_
    cases hf
    exact pm_aret C X dX10_bodyOf_23 rfl (Or.inl ⟨_, rfl⟩) (Nat.le_refl _) (Nat.le_refl _) q
  · have hf := pm_ie hf c4
    refine pm_iload_n C dX10_bodyOf_8 rfl rfl ?_
    refine pm_aload_n C dX10_bodyOf_9 rfl rfl ?_
    refine pm_getR C dX10_bodyOf_10 flX10_39 rfl k1 e3 ?_
    obtain ⟨k9, hf⟩ := pm_if hf
    refine pm_alen (t := 6) C dX10_bodyOf_13 (by decide) k9 rfl ?_
    refine pm_icmp_ge (tgt := 21) C dX10_bodyOf_14 (by decide) (fun c10 => ?_) (fun c10 => ?_)
    · have hf := pm_it hf c10
      refine pm_iconst (v := 0) C dX10_bodyOf_21 (by decide) ?_
      obtain ⟨u11, hf⟩ := pm_if hf
      obtain ⟨v12, e13, hf⟩ := pm_bd hf
      refine pm_ald (t := 6) C dX10_bodyOf_22 (by decide) rfl k9 u11 e13 ?_
      cases hf
      exact pm_aret C X dX10_bodyOf_23 rfl (Or.inl ⟨_, rfl⟩) (Nat.le_refl _) (Nat.le_refl _) q
    · have hf := pm_ie hf c10
      refine pm_iload_n C dX10_bodyOf_17 rfl rfl ?_
      refine pm_goto (tgt := 22) C dX10_bodyOf_18 (by decide) ?_
      obtain ⟨u14, hf⟩ := pm_if hf
      obtain ⟨v15, e16, hf⟩ := pm_bd hf
      refine pm_ald (t := 6) C dX10_bodyOf_22 (by decide) rfl k9 u14 e16 ?_
      cases hf
      exact pm_aret C X dX10_bodyOf_23 rfl (Or.inl ⟨_, rfl⟩) (Nat.le_refl _) (Nat.le_refl _) q
