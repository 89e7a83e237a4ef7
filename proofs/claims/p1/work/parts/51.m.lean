theorem dX16_checksLimits_0 : decode cX16_checksLimits 0 = .ok (.iconst 0, 1) := by decide +kernel
theorem dX16_checksLimits_1 : decode cX16_checksLimits 1 = .ok (.istore_n 1, 1) := by decide +kernel
theorem dX16_checksLimits_2 : decode cX16_checksLimits 2 = .ok (.iload_n 1, 1) := by decide +kernel
theorem dX16_checksLimits_3 : decode cX16_checksLimits 3 = .ok (.aload_n 0, 1) := by decide +kernel
theorem dX16_checksLimits_4 : decode cX16_checksLimits 4 = .ok (.getfield 221, 3) := by decide +kernel
theorem dX16_checksLimits_7 : decode cX16_checksLimits 7 = .ok (.getfield 402, 3) := by decide +kernel
theorem dX16_checksLimits_10 : decode cX16_checksLimits 10 = .ok (.if_icmp .ge 78, 3) := by decide +kernel
theorem dX16_checksLimits_13 : decode cX16_checksLimits 13 = .ok (.aload_n 0, 1) := by decide +kernel
theorem dX16_checksLimits_14 : decode cX16_checksLimits 14 = .ok (.getfield 221, 3) := by decide +kernel
theorem dX16_checksLimits_17 : decode cX16_checksLimits 17 = .ok (.getfield 411, 3) := by decide +kernel
theorem dX16_checksLimits_20 : decode cX16_checksLimits 20 = .ok (.iload_n 1, 1) := by decide +kernel
theorem dX16_checksLimits_21 : decode cX16_checksLimits 21 = .ok (.iaload, 1) := by decide +kernel
theorem dX16_checksLimits_22 : decode cX16_checksLimits 22 = .ok (.istore_n 2, 1) := by decide +kernel
theorem dX16_checksLimits_23 : decode cX16_checksLimits 23 = .ok (.iload_n 2, 1) := by decide +kernel
theorem dX16_checksLimits_24 : decode cX16_checksLimits 24 = .ok (.iconst 1, 1) := by decide +kernel
theorem dX16_checksLimits_25 : decode cX16_checksLimits 25 = .ok (.if_icmp .eq 8, 3) := by decide +kernel
theorem dX16_checksLimits_28 : decode cX16_checksLimits 28 = .ok (.iload_n 2, 1) := by decide +kernel
theorem dX16_checksLimits_29 : decode cX16_checksLimits 29 = .ok (.iconst 2, 1) := by decide +kernel
theorem dX16_checksLimits_30 : decode cX16_checksLimits 30 = .ok (.if_icmp .ne 52, 3) := by decide +kernel
theorem dX16_checksLimits_33 : decode cX16_checksLimits 33 = .ok (.aload_n 0, 1) := by decide +kernel
theorem dX16_checksLimits_34 : decode cX16_checksLimits 34 = .ok (.getfield 221, 3) := by decide +kernel
theorem dX16_checksLimits_37 : decode cX16_checksLimits 37 = .ok (.getfield 417, 3) := by decide +kernel
theorem dX16_checksLimits_40 : decode cX16_checksLimits 40 = .ok (.iload_n 1, 1) := by decide +kernel
theorem dX16_checksLimits_41 : decode cX16_checksLimits 41 = .ok (.laload, 1) := by decide +kernel
theorem dX16_checksLimits_42 : decode cX16_checksLimits 42 = .ok (.aload_n 0, 1) := by decide +kernel
theorem dX16_checksLimits_43 : decode cX16_checksLimits 43 = .ok (.getfield 221, 3) := by decide +kernel
theorem dX16_checksLimits_46 : decode cX16_checksLimits 46 = .ok (.getfield 420, 3) := by decide +kernel
theorem dX16_checksLimits_49 : decode cX16_checksLimits 49 = .ok (.iload_n 1, 1) := by decide +kernel
theorem dX16_checksLimits_50 : decode cX16_checksLimits 50 = .ok (.laload, 1) := by decide +kernel
theorem dX16_checksLimits_51 : decode cX16_checksLimits 51 = .ok (.iload_n 2, 1) := by decide +kernel
theorem dX16_checksLimits_52 : decode cX16_checksLimits 52 = .ok (.iconst 2, 1) := by decide +kernel
theorem dX16_checksLimits_53 : decode cX16_checksLimits 53 = .ok (.if_icmp .ne 7, 3) := by decide +kernel
theorem dX16_checksLimits_56 : decode cX16_checksLimits 56 = .ok (.iconst 1, 1) := by decide +kernel
theorem dX16_checksLimits_57 : decode cX16_checksLimits 57 = .ok (.goto 4, 3) := by decide +kernel
theorem dX16_checksLimits_60 : decode cX16_checksLimits 60 = .ok (.iconst 0, 1) := by decide +kernel
theorem dX16_checksLimits_61 : decode cX16_checksLimits 61 = .ok (.invokestatic 638, 3) := by decide +kernel
theorem dX16_checksLimits_64 : decode cX16_checksLimits 64 = .ok (.ifCond .ne 18, 3) := by decide +kernel
theorem dX16_checksLimits_67 : decode cX16_checksLimits 67 = .ok (.aload_n 0, 1) := by decide +kernel
theorem dX16_checksLimits_68 : decode cX16_checksLimits 68 = .ok (.bipush 21, 2) := by decide +kernel
theorem dX16_checksLimits_70 : decode cX16_checksLimits 70 = .ok (.aload_n 0, 1) := by decide +kernel
theorem dX16_checksLimits_71 : decode cX16_checksLimits 71 = .ok (.getfield 221, 3) := by decide +kernel
theorem dX16_checksLimits_74 : decode cX16_checksLimits 74 = .ok (.getfield 302, 3) := by decide +kernel
theorem dX16_checksLimits_77 : decode cX16_checksLimits 77 = .ok (.iconst 2, 1) := by decide +kernel
theorem dX16_checksLimits_78 : decode cX16_checksLimits 78 = .ok (.iaload, 1) := by decide +kernel
theorem dX16_checksLimits_79 : decode cX16_checksLimits 79 = .ok (.invokevirtual 257, 3) := by decide +kernel
theorem dX16_checksLimits_82 : decode cX16_checksLimits 82 = .ok (.iinc 1 1, 3) := by decide +kernel
theorem dX16_checksLimits_85 : decode cX16_checksLimits 85 = .ok (.goto (-83), 3) := by decide +kernel
theorem dX16_checksLimits_88 : decode cX16_checksLimits 88 = .ok (.iconst 0, 1) := by decide +kernel
theorem dX16_checksLimits_89 : decode cX16_checksLimits 89 = .ok (.istore_n 1, 1) := by decide +kernel
theorem dX16_checksLimits_90 : decode cX16_checksLimits 90 = .ok (.iload_n 1, 1) := by decide +kernel
theorem dX16_checksLimits_91 : decode cX16_checksLimits 91 = .ok (.aload_n 0, 1) := by decide +kernel
theorem dX16_checksLimits_92 : decode cX16_checksLimits 92 = .ok (.getfield 221, 3) := by decide +kernel
theorem dX16_checksLimits_95 : decode cX16_checksLimits 95 = .ok (.getfield 432, 3) := by decide +kernel
theorem dX16_checksLimits_98 : decode cX16_checksLimits 98 = .ok (.if_icmp .ge 49, 3) := by decide +kernel
theorem dX16_checksLimits_101 : decode cX16_checksLimits 101 = .ok (.aload_n 0, 1) := by decide +kernel
theorem dX16_checksLimits_102 : decode cX16_checksLimits 102 = .ok (.getfield 221, 3) := by decide +kernel
theorem dX16_checksLimits_105 : decode cX16_checksLimits 105 = .ok (.getfield 438, 3) := by decide +kernel
theorem dX16_checksLimits_108 : decode cX16_checksLimits 108 = .ok (.iload_n 1, 1) := by decide +kernel
theorem dX16_checksLimits_109 : decode cX16_checksLimits 109 = .ok (.laload, 1) := by decide +kernel
theorem dX16_checksLimits_110 : decode cX16_checksLimits 110 = .ok (.aload_n 0, 1) := by decide +kernel
theorem dX16_checksLimits_111 : decode cX16_checksLimits 111 = .ok (.getfield 221, 3) := by decide +kernel
theorem dX16_checksLimits_114 : decode cX16_checksLimits 114 = .ok (.getfield 441, 3) := by decide +kernel
theorem dX16_checksLimits_117 : decode cX16_checksLimits 117 = .ok (.iload_n 1, 1) := by decide +kernel
theorem dX16_checksLimits_118 : decode cX16_checksLimits 118 = .ok (.laload, 1) := by decide +kernel
theorem dX16_checksLimits_119 : decode cX16_checksLimits 119 = .ok (.iconst 0, 1) := by decide +kernel
theorem dX16_checksLimits_120 : decode cX16_checksLimits 120 = .ok (.invokestatic 638, 3) := by decide +kernel
theorem dX16_checksLimits_123 : decode cX16_checksLimits 123 = .ok (.ifCond .ne 18, 3) := by decide +kernel
theorem dX16_checksLimits_126 : decode cX16_checksLimits 126 = .ok (.aload_n 0, 1) := by decide +kernel
theorem dX16_checksLimits_127 : decode cX16_checksLimits 127 = .ok (.bipush 21, 2) := by decide +kernel
theorem dX16_checksLimits_129 : decode cX16_checksLimits 129 = .ok (.aload_n 0, 1) := by decide +kernel
theorem dX16_checksLimits_130 : decode cX16_checksLimits 130 = .ok (.getfield 221, 3) := by decide +kernel
theorem dX16_checksLimits_133 : decode cX16_checksLimits 133 = .ok (.getfield 302, 3) := by decide +kernel
theorem dX16_checksLimits_136 : decode cX16_checksLimits 136 = .ok (.iconst 4, 1) := by decide +kernel
theorem dX16_checksLimits_137 : decode cX16_checksLimits 137 = .ok (.iaload, 1) := by decide +kernel
theorem dX16_checksLimits_138 : decode cX16_checksLimits 138 = .ok (.invokevirtual 257, 3) := by decide +kernel
theorem dX16_checksLimits_141 : decode cX16_checksLimits 141 = .ok (.iinc 1 1, 3) := by decide +kernel
theorem dX16_checksLimits_144 : decode cX16_checksLimits 144 = .ok (.goto (-54), 3) := by decide +kernel
theorem dX16_checksLimits_147 : decode cX16_checksLimits 147 = .ok (.iconst 0, 1) := by decide +kernel
theorem dX16_checksLimits_148 : decode cX16_checksLimits 148 = .ok (.istore_n 1, 1) := by decide +kernel
theorem dX16_checksLimits_149 : decode cX16_checksLimits 149 = .ok (.iload_n 1, 1) := by decide +kernel
theorem dX16_checksLimits_150 : decode cX16_checksLimits 150 = .ok (.aload_n 0, 1) := by decide +kernel
theorem dX16_checksLimits_151 : decode cX16_checksLimits 151 = .ok (.getfield 221, 3) := by decide +kernel
theorem dX16_checksLimits_154 : decode cX16_checksLimits 154 = .ok (.getfield 444, 3) := by decide +kernel
theorem dX16_checksLimits_157 : decode cX16_checksLimits 157 = .ok (.if_icmp .ge 49, 3) := by decide +kernel
theorem dX16_checksLimits_160 : decode cX16_checksLimits 160 = .ok (.aload_n 0, 1) := by decide +kernel
theorem dX16_checksLimits_161 : decode cX16_checksLimits 161 = .ok (.getfield 221, 3) := by decide +kernel
theorem dX16_checksLimits_164 : decode cX16_checksLimits 164 = .ok (.getfield 447, 3) := by decide +kernel
theorem dX16_checksLimits_167 : decode cX16_checksLimits 167 = .ok (.iload_n 1, 1) := by decide +kernel
theorem dX16_checksLimits_168 : decode cX16_checksLimits 168 = .ok (.laload, 1) := by decide +kernel
theorem dX16_checksLimits_169 : decode cX16_checksLimits 169 = .ok (.aload_n 0, 1) := by decide +kernel
theorem dX16_checksLimits_170 : decode cX16_checksLimits 170 = .ok (.getfield 221, 3) := by decide +kernel
theorem dX16_checksLimits_173 : decode cX16_checksLimits 173 = .ok (.getfield 450, 3) := by decide +kernel
theorem dX16_checksLimits_176 : decode cX16_checksLimits 176 = .ok (.iload_n 1, 1) := by decide +kernel
theorem dX16_checksLimits_177 : decode cX16_checksLimits 177 = .ok (.laload, 1) := by decide +kernel
theorem dX16_checksLimits_178 : decode cX16_checksLimits 178 = .ok (.iconst 1, 1) := by decide +kernel
theorem dX16_checksLimits_179 : decode cX16_checksLimits 179 = .ok (.invokestatic 638, 3) := by decide +kernel
theorem dX16_checksLimits_182 : decode cX16_checksLimits 182 = .ok (.ifCond .ne 18, 3) := by decide +kernel
theorem dX16_checksLimits_185 : decode cX16_checksLimits 185 = .ok (.aload_n 0, 1) := by decide +kernel
theorem dX16_checksLimits_186 : decode cX16_checksLimits 186 = .ok (.bipush 21, 2) := by decide +kernel
theorem dX16_checksLimits_188 : decode cX16_checksLimits 188 = .ok (.aload_n 0, 1) := by decide +kernel
theorem dX16_checksLimits_189 : decode cX16_checksLimits 189 = .ok (.getfield 221, 3) := by decide +kernel
theorem dX16_checksLimits_192 : decode cX16_checksLimits 192 = .ok (.getfield 302, 3) := by decide +kernel
theorem dX16_checksLimits_195 : decode cX16_checksLimits 195 = .ok (.iconst 5, 1) := by decide +kernel
theorem dX16_checksLimits_196 : decode cX16_checksLimits 196 = .ok (.iaload, 1) := by decide +kernel
theorem dX16_checksLimits_197 : decode cX16_checksLimits 197 = .ok (.invokevirtual 257, 3) := by decide +kernel
theorem dX16_checksLimits_200 : decode cX16_checksLimits 200 = .ok (.iinc 1 1, 3) := by decide +kernel
theorem dX16_checksLimits_203 : decode cX16_checksLimits 203 = .ok (.goto (-54), 3) := by decide +kernel
theorem dX16_checksLimits_206 : decode cX16_checksLimits 206 = .ok (.return_, 1) := by decide +kernel
def tX16_checksLimits_2 (x0 : Nat) (x1 : Int32) (h : pm_H) : Option (((Nat × Int32 × pm_H) ⊕ (Nat × Int32 × pm_H) ⊕ (Nat × Int32 × Int32 × pm_H) ⊕ (Nat × Int32 × pm_H)) ⊕ ((Nat × pm_H) ⊕ pm_H)) := if pm_kd h x0 = 16 then (pm_R h x0 10).bind fun v2 => if pm_kd h v2 = 14 then if (pm_I h v2 8) ≤ x1 then (some (.inl (.inr (.inl ((x0, 0, h)))))) else ((pm_R h v2 9).bind fun v6 => if pm_kd h v6 = 34 then if pm_in x1 (pm_ln h v6) then pm_let (pm_I h v6 x1.toNatClampNeg) fun y10 => if y10 = 1 then (some (.inl (.inr (.inr (.inl ((x0, x1, y10, h))))))) else (if y10 = 2 then (some (.inl (.inr (.inr (.inl ((x0, x1, y10, h))))))) else (pm_let (x1 + 1) fun y14 => some (.inl (.inl ((x0, y14, h)))))) else none else none) else none else none
def tX16_checksLimits_90 (x0 : Nat) (x1 : Int32) (h : pm_H) : Option (((Nat × Int32 × pm_H) ⊕ (Nat × Int32 × pm_H) ⊕ (Nat × Int32 × Int32 × pm_H) ⊕ (Nat × Int32 × pm_H)) ⊕ ((Nat × pm_H) ⊕ pm_H)) := if pm_kd h x0 = 16 then (pm_R h x0 10).bind fun v17 => if pm_kd h v17 = 14 then if (pm_I h v17 17) ≤ x1 then (some (.inl (.inr (.inr (.inr ((x0, 0, h))))))) else ((pm_R h v17 19).bind fun v21 => if pm_kd h v21 = 35 then if pm_in x1 (pm_ln h v21) then (pm_R h v17 20).bind fun v25 => if pm_kd h v25 = 35 then if pm_in x1 (pm_ln h v25) then pm_let (fX16_areLimits (pm_L h v21 x1.toNatClampNeg) (pm_L h v25 x1.toNatClampNeg) 0) fun v29 => if v29 = 0 then ((pm_R h v17 2).bind fun v34 => if pm_kd h v34 = 34 then if pm_in 4 (pm_ln h v34) then (fX16_stops h x0 21 (pm_I h v34 (4 : Int32).toNatClampNeg)).bind fun v38 => pt_s v38 fun w40 => pm_let (x1 + 1) fun y42 => some (.inl (.inr (.inl ((x0, y42, w40))))) else none else none) else (pm_let (x1 + 1) fun y32 => some (.inl (.inr (.inl ((x0, y32, h)))))) else none else none else none else none) else none else none
def tX16_checksLimits_33 (x0 : Nat) (x1 : Int32) (x2 : Int32) (h : pm_H) : Option (((Nat × Int32 × pm_H) ⊕ (Nat × Int32 × pm_H) ⊕ (Nat × Int32 × Int32 × pm_H) ⊕ (Nat × Int32 × pm_H)) ⊕ ((Nat × pm_H) ⊕ pm_H)) := if pm_kd h x0 = 16 then (pm_R h x0 10).bind fun v45 => if pm_kd h v45 = 14 then (pm_R h v45 11).bind fun v48 => if pm_kd h v48 = 35 then if pm_in x1 (pm_ln h v48) then (pm_R h v45 12).bind fun v52 => if pm_kd h v52 = 35 then if pm_in x1 (pm_ln h v52) then if x2 = 2 then (pm_let (fX16_areLimits (pm_L h v48 x1.toNatClampNeg) (pm_L h v52 x1.toNatClampNeg) 1) fun v72 => if v72 = 0 then ((pm_R h v45 2).bind fun v77 => if pm_kd h v77 = 34 then if pm_in 2 (pm_ln h v77) then (fX16_stops h x0 21 (pm_I h v77 (2 : Int32).toNatClampNeg)).bind fun v81 => pt_s v81 fun w83 => pm_let (x1 + 1) fun y85 => some (.inl (.inl ((x0, y85, w83)))) else none else none) else (pm_let (x1 + 1) fun y75 => some (.inl (.inl ((x0, y75, h)))))) else (pm_let (fX16_areLimits (pm_L h v48 x1.toNatClampNeg) (pm_L h v52 x1.toNatClampNeg) 0) fun v57 => if v57 = 0 then ((pm_R h v45 2).bind fun v62 => if pm_kd h v62 = 34 then if pm_in 2 (pm_ln h v62) then (fX16_stops h x0 21 (pm_I h v62 (2 : Int32).toNatClampNeg)).bind fun v66 => pt_s v66 fun w68 => pm_let (x1 + 1) fun y70 => some (.inl (.inl ((x0, y70, w68)))) else none else none) else (pm_let (x1 + 1) fun y60 => some (.inl (.inl ((x0, y60, h)))))) else none else none else none else none else none else none
def tX16_checksLimits_149 (x0 : Nat) (x1 : Int32) (h : pm_H) : Option (((Nat × Int32 × pm_H) ⊕ (Nat × Int32 × pm_H) ⊕ (Nat × Int32 × Int32 × pm_H) ⊕ (Nat × Int32 × pm_H)) ⊕ ((Nat × pm_H) ⊕ pm_H)) := if pm_kd h x0 = 16 then (pm_R h x0 10).bind fun v88 => if pm_kd h v88 = 14 then if (pm_I h v88 21) ≤ x1 then (some (.inr (.inr (h)))) else ((pm_R h v88 22).bind fun v92 => if pm_kd h v92 = 35 then if pm_in x1 (pm_ln h v92) then (pm_R h v88 23).bind fun v96 => if pm_kd h v96 = 35 then if pm_in x1 (pm_ln h v96) then pm_let (fX16_areLimits (pm_L h v92 x1.toNatClampNeg) (pm_L h v96 x1.toNatClampNeg) 1) fun v100 => if v100 = 0 then ((pm_R h v88 2).bind fun v105 => if pm_kd h v105 = 34 then if pm_in 5 (pm_ln h v105) then (fX16_stops h x0 21 (pm_I h v105 (5 : Int32).toNatClampNeg)).bind fun v109 => pt_s v109 fun w111 => pm_let (x1 + 1) fun y113 => some (.inl (.inr (.inr (.inr ((x0, y113, w111)))))) else none else none) else (pm_let (x1 + 1) fun y103 => some (.inl (.inr (.inr (.inr ((x0, y103, h))))))) else none else none else none else none) else none else none
def sX16_checksLimits : ((Nat × Int32 × pm_H) ⊕ (Nat × Int32 × pm_H) ⊕ (Nat × Int32 × Int32 × pm_H) ⊕ (Nat × Int32 × pm_H)) → Option (((Nat × Int32 × pm_H) ⊕ (Nat × Int32 × pm_H) ⊕ (Nat × Int32 × Int32 × pm_H) ⊕ (Nat × Int32 × pm_H)) ⊕ ((Nat × pm_H) ⊕ pm_H)) := fun z => match z with
  | .inl (x0, x1, h) => tX16_checksLimits_2 x0 x1 h
  | .inr (.inl (x0, x1, h)) => tX16_checksLimits_90 x0 x1 h
  | .inr (.inr (.inl (x0, x1, x2, h))) => tX16_checksLimits_33 x0 x1 x2 h
  | .inr (.inr (.inr (x0, x1, h))) => tX16_checksLimits_149 x0 x1 h
noncomputable def fX16_checksLimits (h : pm_H) (a0 : Nat) : Option ((Nat × pm_H) ⊕ pm_H) := pm_lim sX16_checksLimits (.inl ((a0, 0, h)))
set_option maxHeartbeats 4000000 in
set_option maxRecDepth 100000 in
theorem lpX16_checksLimits {g : pm_Gm} {l : Launch} {G : pm_Gl} {Qr : Option Value → pm_H → Prop} {Qt : Nat → pm_H → Prop} (C : pm_C g cX16_checksLimits RX16) (X : pm_XT g l G mX16_checksLimits 0 0 Qr Qt) {r : ((Nat × pm_H) ⊕ pm_H)} (q : pt_eV Qr Qt r) : ∀ n : Nat, (∀ (x0 : Nat) (x1 : Int32) (h : pm_H), pm_iter sX16_checksLimits n (.inl (x0, x1, h)) = some r → pm_G g 2 [(0, .ref x0), (1, .int x1)] [] h 0 0) ∧ (∀ (x0 : Nat) (x1 : Int32) (h : pm_H), pm_iter sX16_checksLimits n (.inr (.inl (x0, x1, h))) = some r → pm_G g 90 [(0, .ref x0), (1, .int x1)] [] h 0 0) ∧ (∀ (x0 : Nat) (x1 : Int32) (x2 : Int32) (h : pm_H), pm_iter sX16_checksLimits n (.inr (.inr (.inl (x0, x1, x2, h)))) = some r → pm_G g 33 [(0, .ref x0), (1, .int x1), (2, .int x2)] [] h 0 0) ∧ (∀ (x0 : Nat) (x1 : Int32) (h : pm_H), pm_iter sX16_checksLimits n (.inr (.inr (.inr (x0, x1, h)))) = some r → pm_G g 149 [(0, .ref x0), (1, .int x1)] [] h 0 0) := by
  intro n
  induction n with
  | zero => exact ⟨fun _ _ _ hf => (by cases hf), fun _ _ _ hf => (by cases hf), fun _ _ _ _ hf => (by cases hf), fun _ _ _ hf => (by cases hf)⟩
  | succ n ih =>
    refine ⟨fun x0 x1 h hf => ?_, ?_⟩
    · obtain ⟨y, hf, hi⟩ := pm_iter_s hf
      have hf : tX16_checksLimits_2 x0 x1 h = some y := hf
      unfold tX16_checksLimits_2 at hf
      refine pm_iload_n C dX16_checksLimits_2 rfl rfl ?_
      refine pm_aload_n C dX16_checksLimits_3 rfl rfl ?_
      obtain ⟨k1, hf⟩ := pm_if hf
      obtain ⟨v2, e3, hf⟩ := pm_bd hf
      refine pm_getR C dX16_checksLimits_4 flX16_221 rfl k1 e3 ?_
      obtain ⟨k4, hf⟩ := pm_if hf
      refine pm_getI C dX16_checksLimits_7 flX16_402 rfl k4 rfl ?_
      refine pm_icmp_ge (tgt := 88) C dX16_checksLimits_10 (by decide) (fun c5 => ?_) (fun c5 => ?_)
      · have hf := pm_it hf c5
        refine pm_iconst (v := 0) C dX16_checksLimits_88 (by decide) ?_
        refine pm_istore_n (lv' := [(1, .int 0), (0, .ref x0)]) C dX16_checksLimits_89 rfl (pt_nl X (by decide)) rfl ?_
        cases hf
        exact pm_sub [1, 0] rfl (ih.2.1 x0 0 h hi)
      · have hf := pm_ie hf c5
        refine pm_aload_n C dX16_checksLimits_13 rfl rfl ?_
        refine pm_getR C dX16_checksLimits_14 flX16_221 rfl k1 e3 ?_
        obtain ⟨v6, e7, hf⟩ := pm_bd hf
        refine pm_getR C dX16_checksLimits_17 flX16_411 rfl k4 e7 ?_
        refine pm_iload_n C dX16_checksLimits_20 rfl rfl ?_
        obtain ⟨k8, hf⟩ := pm_if hf
        obtain ⟨u9, hf⟩ := pm_if hf
        refine pm_iald C dX16_checksLimits_21 k8 u9 rfl ?_
        obtain ⟨y10, e11, hf⟩ := pm_lt hf
        refine pm_topI e11 ?_
        refine pm_istore_n (lv' := [(2, .int y10), (0, .ref x0), (1, .int x1)]) C dX16_checksLimits_22 rfl (pt_nl X (by decide)) rfl ?_
        refine pm_iload_n C dX16_checksLimits_23 rfl rfl ?_
        refine pm_iconst (v := 1) C dX16_checksLimits_24 (by decide) ?_
        refine pm_icmp_eq (tgt := 33) C dX16_checksLimits_25 (by decide) (fun c12 => ?_) (fun c12 => ?_)
        · have hf := pm_it hf c12
          cases hf
          exact pm_sub [1, 2, 0] rfl (ih.2.2.1 x0 x1 y10 h hi)
        · have hf := pm_ie hf c12
          refine pm_iload_n C dX16_checksLimits_28 rfl rfl ?_
          refine pm_iconst (v := 2) C dX16_checksLimits_29 (by decide) ?_
          refine pm_icmp_ne (tgt := 82) C dX16_checksLimits_30 (by decide) (fun c13 => ?_) (fun c13 => ?_)
          · have hf := pm_ie hf c13
            obtain ⟨y14, e15, hf⟩ := pm_lt hf
            refine pm_iinc (v := y14) (lv' := [(1, .int y14), (2, .int y10), (0, .ref x0)]) C dX16_checksLimits_82 rfl ((congrArg (x1 + ·) (by decide : Int32.ofInt 1 = 1)).trans e15) (pt_nl X (by decide)) rfl ?_
            refine pm_goto (tgt := 2) C dX16_checksLimits_85 (by decide) ?_
            cases hf
            exact pm_sub [2, 0] rfl (ih.1 x0 y14 h hi)
          · have hf := pm_it hf c13
            cases hf
            exact pm_sub [1, 2, 0] rfl (ih.2.2.1 x0 x1 y10 h hi)
    refine ⟨fun x0 x1 h hf => ?_, ?_⟩
    · obtain ⟨y, hf, hi⟩ := pm_iter_s hf
      have hf : tX16_checksLimits_90 x0 x1 h = some y := hf
      unfold tX16_checksLimits_90 at hf
      refine pm_iload_n C dX16_checksLimits_90 rfl rfl ?_
      refine pm_aload_n C dX16_checksLimits_91 rfl rfl ?_
      obtain ⟨k16, hf⟩ := pm_if hf
      obtain ⟨v17, e18, hf⟩ := pm_bd hf
      refine pm_getR C dX16_checksLimits_92 flX16_221 rfl k16 e18 ?_
      obtain ⟨k19, hf⟩ := pm_if hf
      refine pm_getI C dX16_checksLimits_95 flX16_432 rfl k19 rfl ?_
      refine pm_icmp_ge (tgt := 147) C dX16_checksLimits_98 (by decide) (fun c20 => ?_) (fun c20 => ?_)
      · have hf := pm_it hf c20
        refine pm_iconst (v := 0) C dX16_checksLimits_147 (by decide) ?_
        refine pm_istore_n (lv' := [(1, .int 0), (0, .ref x0)]) C dX16_checksLimits_148 rfl (pt_nl X (by decide)) rfl ?_
        cases hf
        exact pm_sub [1, 0] rfl (ih.2.2.2 x0 0 h hi)
      · have hf := pm_ie hf c20
        refine pm_aload_n C dX16_checksLimits_101 rfl rfl ?_
        refine pm_getR C dX16_checksLimits_102 flX16_221 rfl k16 e18 ?_
        obtain ⟨v21, e22, hf⟩ := pm_bd hf
        refine pm_getR C dX16_checksLimits_105 flX16_438 rfl k19 e22 ?_
        refine pm_iload_n C dX16_checksLimits_108 rfl rfl ?_
        obtain ⟨k23, hf⟩ := pm_if hf
        obtain ⟨u24, hf⟩ := pm_if hf
        refine pm_lald C dX16_checksLimits_109 k23 u24 rfl ?_
        refine pm_aload_n C dX16_checksLimits_110 rfl rfl ?_
        refine pm_getR C dX16_checksLimits_111 flX16_221 rfl k16 e18 ?_
        obtain ⟨v25, e26, hf⟩ := pm_bd hf
        refine pm_getR C dX16_checksLimits_114 flX16_441 rfl k19 e26 ?_
        refine pm_iload_n C dX16_checksLimits_117 rfl rfl ?_
        obtain ⟨k27, hf⟩ := pm_if hf
        obtain ⟨u28, hf⟩ := pm_if hf
        refine pm_lald C dX16_checksLimits_118 k27 u28 rfl ?_
        refine pm_iconst (v := 0) C dX16_checksLimits_119 (by decide) ?_
        obtain ⟨v29, e30, hf⟩ := pm_lt hf
        refine pt_callS (as := [.long (pm_L h v21 x1.toNatClampNeg), .long (pm_L h v25 x1.toNatClampNeg), .int 0]) (st := []) C X dX16_checksLimits_120 lnX16_638 myX16_areLimits stX16_areLimits ⟨by decide, by decide⟩ rfl rfl (Nat.le_of_ble_eq_true rfl) (Nat.le_refl _) (Nat.le_refl _) (ctX16_areLimits e30 ?_)
        show pm_G g 123 [(0, .ref x0), (1, .int x1)] [.int v29] h 0 0
        refine pm_if_ne (tgt := 141) C dX16_checksLimits_123 (by decide) (fun c31 => ?_) (fun c31 => ?_)
        · have hf := pm_ie hf c31
          obtain ⟨y32, e33, hf⟩ := pm_lt hf
          refine pm_iinc (v := y32) (lv' := [(1, .int y32), (0, .ref x0)]) C dX16_checksLimits_141 rfl ((congrArg (x1 + ·) (by decide : Int32.ofInt 1 = 1)).trans e33) (pt_nl X (by decide)) rfl ?_
          refine pm_goto (tgt := 90) C dX16_checksLimits_144 (by decide) ?_
          cases hf
          exact pm_sub [1, 0] rfl (ih.2.1 x0 y32 h hi)
        · have hf := pm_it hf c31
          refine pm_aload_n C dX16_checksLimits_126 rfl rfl ?_
          refine pm_bipush (v := 21) C dX16_checksLimits_127 (by decide) ?_
          refine pm_aload_n C dX16_checksLimits_129 rfl rfl ?_
          refine pm_getR C dX16_checksLimits_130 flX16_221 rfl k16 e18 ?_
          obtain ⟨v34, e35, hf⟩ := pm_bd hf
          refine pm_getR C dX16_checksLimits_133 flX16_302 rfl k19 e35 ?_
          refine pm_iconst (v := 4) C dX16_checksLimits_136 (by decide) ?_
          obtain ⟨k36, hf⟩ := pm_if hf
          obtain ⟨u37, hf⟩ := pm_if hf
          refine pm_iald C dX16_checksLimits_137 k36 u37 rfl ?_
          obtain ⟨v38, e39, hf⟩ := pm_bd hf
          refine pt_callVT (as := [.int 21, .int (pm_I h v34 (4 : Int32).toNatClampNeg)]) (st := []) C X dX16_checksLimits_138 ltX16_257 myX16_stops viX16_stops ⟨by decide, by decide⟩ rfl rfl k16 (Nat.le_of_ble_eq_true rfl) (Nat.le_refl _) (Nat.le_refl _) (ctX16_stops e39 ?_)
          rcases v38 with z41 | w40
          · have hf := pt_sl hf
            cases hf
            cases hi
            exact q
          have hf := pt_sr hf
          show pm_G g 141 [(0, .ref x0), (1, .int x1)] [] w40 0 0
          obtain ⟨y42, e43, hf⟩ := pm_lt hf
          refine pm_iinc (v := y42) (lv' := [(1, .int y42), (0, .ref x0)]) C dX16_checksLimits_141 rfl ((congrArg (x1 + ·) (by decide : Int32.ofInt 1 = 1)).trans e43) (pt_nl X (by decide)) rfl ?_
          refine pm_goto (tgt := 90) C dX16_checksLimits_144 (by decide) ?_
          cases hf
          exact pm_sub [1, 0] rfl (ih.2.1 x0 y42 w40 hi)
    refine ⟨fun x0 x1 x2 h hf => ?_, ?_⟩
    · obtain ⟨y, hf, hi⟩ := pm_iter_s hf
      have hf : tX16_checksLimits_33 x0 x1 x2 h = some y := hf
      unfold tX16_checksLimits_33 at hf
      refine pm_aload_n C dX16_checksLimits_33 rfl rfl ?_
      obtain ⟨k44, hf⟩ := pm_if hf
      obtain ⟨v45, e46, hf⟩ := pm_bd hf
      refine pm_getR C dX16_checksLimits_34 flX16_221 rfl k44 e46 ?_
      obtain ⟨k47, hf⟩ := pm_if hf
      obtain ⟨v48, e49, hf⟩ := pm_bd hf
      refine pm_getR C dX16_checksLimits_37 flX16_417 rfl k47 e49 ?_
      refine pm_iload_n C dX16_checksLimits_40 rfl rfl ?_
      obtain ⟨k50, hf⟩ := pm_if hf
      obtain ⟨u51, hf⟩ := pm_if hf
      refine pm_lald C dX16_checksLimits_41 k50 u51 rfl ?_
      refine pm_aload_n C dX16_checksLimits_42 rfl rfl ?_
      refine pm_getR C dX16_checksLimits_43 flX16_221 rfl k44 e46 ?_
      obtain ⟨v52, e53, hf⟩ := pm_bd hf
      refine pm_getR C dX16_checksLimits_46 flX16_420 rfl k47 e53 ?_
      refine pm_iload_n C dX16_checksLimits_49 rfl rfl ?_
      obtain ⟨k54, hf⟩ := pm_if hf
      obtain ⟨u55, hf⟩ := pm_if hf
      refine pm_lald C dX16_checksLimits_50 k54 u55 rfl ?_
      refine pm_iload_n C dX16_checksLimits_51 rfl rfl ?_
      refine pm_iconst (v := 2) C dX16_checksLimits_52 (by decide) ?_
      refine pm_icmp_ne (tgt := 60) C dX16_checksLimits_53 (by decide) (fun c56 => ?_) (fun c56 => ?_)
      · have hf := pm_ie hf c56
        refine pm_iconst (v := 0) C dX16_checksLimits_60 (by decide) ?_
        obtain ⟨v57, e58, hf⟩ := pm_lt hf
        refine pt_callS (as := [.long (pm_L h v48 x1.toNatClampNeg), .long (pm_L h v52 x1.toNatClampNeg), .int 0]) (st := []) C X dX16_checksLimits_61 lnX16_638 myX16_areLimits stX16_areLimits ⟨by decide, by decide⟩ rfl rfl (Nat.le_of_ble_eq_true rfl) (Nat.le_refl _) (Nat.le_refl _) (ctX16_areLimits e58 ?_)
        show pm_G g 64 [(0, .ref x0), (1, .int x1), (2, .int x2)] [.int v57] h 0 0
        refine pm_if_ne (tgt := 82) C dX16_checksLimits_64 (by decide) (fun c59 => ?_) (fun c59 => ?_)
        · have hf := pm_ie hf c59
          obtain ⟨y60, e61, hf⟩ := pm_lt hf
          refine pm_iinc (v := y60) (lv' := [(1, .int y60), (0, .ref x0), (2, .int x2)]) C dX16_checksLimits_82 rfl ((congrArg (x1 + ·) (by decide : Int32.ofInt 1 = 1)).trans e61) (pt_nl X (by decide)) rfl ?_
          refine pm_goto (tgt := 2) C dX16_checksLimits_85 (by decide) ?_
          cases hf
          exact pm_sub [1, 0] rfl (ih.1 x0 y60 h hi)
        · have hf := pm_it hf c59
          refine pm_aload_n C dX16_checksLimits_67 rfl rfl ?_
          refine pm_bipush (v := 21) C dX16_checksLimits_68 (by decide) ?_
          refine pm_aload_n C dX16_checksLimits_70 rfl rfl ?_
          refine pm_getR C dX16_checksLimits_71 flX16_221 rfl k44 e46 ?_
          obtain ⟨v62, e63, hf⟩ := pm_bd hf
          refine pm_getR C dX16_checksLimits_74 flX16_302 rfl k47 e63 ?_
          refine pm_iconst (v := 2) C dX16_checksLimits_77 (by decide) ?_
          obtain ⟨k64, hf⟩ := pm_if hf
          obtain ⟨u65, hf⟩ := pm_if hf
          refine pm_iald C dX16_checksLimits_78 k64 u65 rfl ?_
          obtain ⟨v66, e67, hf⟩ := pm_bd hf
          refine pt_callVT (as := [.int 21, .int (pm_I h v62 (2 : Int32).toNatClampNeg)]) (st := []) C X dX16_checksLimits_79 ltX16_257 myX16_stops viX16_stops ⟨by decide, by decide⟩ rfl rfl k44 (Nat.le_of_ble_eq_true rfl) (Nat.le_refl _) (Nat.le_refl _) (ctX16_stops e67 ?_)
          rcases v66 with z69 | w68
          · have hf := pt_sl hf
            cases hf
            cases hi
            exact q
          have hf := pt_sr hf
          show pm_G g 82 [(0, .ref x0), (1, .int x1), (2, .int x2)] [] w68 0 0
          obtain ⟨y70, e71, hf⟩ := pm_lt hf
          refine pm_iinc (v := y70) (lv' := [(1, .int y70), (0, .ref x0), (2, .int x2)]) C dX16_checksLimits_82 rfl ((congrArg (x1 + ·) (by decide : Int32.ofInt 1 = 1)).trans e71) (pt_nl X (by decide)) rfl ?_
          refine pm_goto (tgt := 2) C dX16_checksLimits_85 (by decide) ?_
          cases hf
          exact pm_sub [1, 0] rfl (ih.1 x0 y70 w68 hi)
      · have hf := pm_it hf c56
        refine pm_iconst (v := 1) C dX16_checksLimits_56 (by decide) ?_
        refine pm_goto (tgt := 61) C dX16_checksLimits_57 (by decide) ?_
        obtain ⟨v72, e73, hf⟩ := pm_lt hf
        refine pt_callS (as := [.long (pm_L h v48 x1.toNatClampNeg), .long (pm_L h v52 x1.toNatClampNeg), .int 1]) (st := []) C X dX16_checksLimits_61 lnX16_638 myX16_areLimits stX16_areLimits ⟨by decide, by decide⟩ rfl rfl (Nat.le_of_ble_eq_true rfl) (Nat.le_refl _) (Nat.le_refl _) (ctX16_areLimits e73 ?_)
        show pm_G g 64 [(0, .ref x0), (1, .int x1), (2, .int x2)] [.int v72] h 0 0
        refine pm_if_ne (tgt := 82) C dX16_checksLimits_64 (by decide) (fun c74 => ?_) (fun c74 => ?_)
        · have hf := pm_ie hf c74
          obtain ⟨y75, e76, hf⟩ := pm_lt hf
          refine pm_iinc (v := y75) (lv' := [(1, .int y75), (0, .ref x0), (2, .int x2)]) C dX16_checksLimits_82 rfl ((congrArg (x1 + ·) (by decide : Int32.ofInt 1 = 1)).trans e76) (pt_nl X (by decide)) rfl ?_
          refine pm_goto (tgt := 2) C dX16_checksLimits_85 (by decide) ?_
          cases hf
          exact pm_sub [1, 0] rfl (ih.1 x0 y75 h hi)
        · have hf := pm_it hf c74
          refine pm_aload_n C dX16_checksLimits_67 rfl rfl ?_
          refine pm_bipush (v := 21) C dX16_checksLimits_68 (by decide) ?_
          refine pm_aload_n C dX16_checksLimits_70 rfl rfl ?_
          refine pm_getR C dX16_checksLimits_71 flX16_221 rfl k44 e46 ?_
          obtain ⟨v77, e78, hf⟩ := pm_bd hf
          refine pm_getR C dX16_checksLimits_74 flX16_302 rfl k47 e78 ?_
          refine pm_iconst (v := 2) C dX16_checksLimits_77 (by decide) ?_
          obtain ⟨k79, hf⟩ := pm_if hf
          obtain ⟨u80, hf⟩ := pm_if hf
          refine pm_iald C dX16_checksLimits_78 k79 u80 rfl ?_
          obtain ⟨v81, e82, hf⟩ := pm_bd hf
          refine pt_callVT (as := [.int 21, .int (pm_I h v77 (2 : Int32).toNatClampNeg)]) (st := []) C X dX16_checksLimits_79 ltX16_257 myX16_stops viX16_stops ⟨by decide, by decide⟩ rfl rfl k44 (Nat.le_of_ble_eq_true rfl) (Nat.le_refl _) (Nat.le_refl _) (ctX16_stops e82 ?_)
          rcases v81 with z84 | w83
          · have hf := pt_sl hf
            cases hf
            cases hi
            exact q
          have hf := pt_sr hf
          show pm_G g 82 [(0, .ref x0), (1, .int x1), (2, .int x2)] [] w83 0 0
          obtain ⟨y85, e86, hf⟩ := pm_lt hf
          refine pm_iinc (v := y85) (lv' := [(1, .int y85), (0, .ref x0), (2, .int x2)]) C dX16_checksLimits_82 rfl ((congrArg (x1 + ·) (by decide : Int32.ofInt 1 = 1)).trans e86) (pt_nl X (by decide)) rfl ?_
          refine pm_goto (tgt := 2) C dX16_checksLimits_85 (by decide) ?_
          cases hf
          exact pm_sub [1, 0] rfl (ih.1 x0 y85 w83 hi)
    refine fun x0 x1 h hf => ?_
    obtain ⟨y, hf, hi⟩ := pm_iter_s hf
    have hf : tX16_checksLimits_149 x0 x1 h = some y := hf
    unfold tX16_checksLimits_149 at hf
    refine pm_iload_n C dX16_checksLimits_149 rfl rfl ?_
    refine pm_aload_n C dX16_checksLimits_150 rfl rfl ?_
    obtain ⟨k87, hf⟩ := pm_if hf
    obtain ⟨v88, e89, hf⟩ := pm_bd hf
    refine pm_getR C dX16_checksLimits_151 flX16_221 rfl k87 e89 ?_
    obtain ⟨k90, hf⟩ := pm_if hf
    refine pm_getI C dX16_checksLimits_154 flX16_444 rfl k90 rfl ?_
    refine pm_icmp_ge (tgt := 206) C dX16_checksLimits_157 (by decide) (fun c91 => ?_) (fun c91 => ?_)
    · have hf := pm_it hf c91
      cases hf
      cases hi
      exact pt_vret C X dX16_checksLimits_206 rfl (Nat.le_refl _) (Nat.le_refl _) q
    · have hf := pm_ie hf c91
      refine pm_aload_n C dX16_checksLimits_160 rfl rfl ?_
      refine pm_getR C dX16_checksLimits_161 flX16_221 rfl k87 e89 ?_
      obtain ⟨v92, e93, hf⟩ := pm_bd hf
      refine pm_getR C dX16_checksLimits_164 flX16_447 rfl k90 e93 ?_
      refine pm_iload_n C dX16_checksLimits_167 rfl rfl ?_
      obtain ⟨k94, hf⟩ := pm_if hf
      obtain ⟨u95, hf⟩ := pm_if hf
      refine pm_lald C dX16_checksLimits_168 k94 u95 rfl ?_
      refine pm_aload_n C dX16_checksLimits_169 rfl rfl ?_
      refine pm_getR C dX16_checksLimits_170 flX16_221 rfl k87 e89 ?_
      obtain ⟨v96, e97, hf⟩ := pm_bd hf
      refine pm_getR C dX16_checksLimits_173 flX16_450 rfl k90 e97 ?_
      refine pm_iload_n C dX16_checksLimits_176 rfl rfl ?_
      obtain ⟨k98, hf⟩ := pm_if hf
      obtain ⟨u99, hf⟩ := pm_if hf
      refine pm_lald C dX16_checksLimits_177 k98 u99 rfl ?_
      refine pm_iconst (v := 1) C dX16_checksLimits_178 (by decide) ?_
      obtain ⟨v100, e101, hf⟩ := pm_lt hf
      refine pt_callS (as := [.long (pm_L h v92 x1.toNatClampNeg), .long (pm_L h v96 x1.toNatClampNeg), .int 1]) (st := []) C X dX16_checksLimits_179 lnX16_638 myX16_areLimits stX16_areLimits ⟨by decide, by decide⟩ rfl rfl (Nat.le_of_ble_eq_true rfl) (Nat.le_refl _) (Nat.le_refl _) (ctX16_areLimits e101 ?_)
      show pm_G g 182 [(0, .ref x0), (1, .int x1)] [.int v100] h 0 0
      refine pm_if_ne (tgt := 200) C dX16_checksLimits_182 (by decide) (fun c102 => ?_) (fun c102 => ?_)
      · have hf := pm_ie hf c102
        obtain ⟨y103, e104, hf⟩ := pm_lt hf
        refine pm_iinc (v := y103) (lv' := [(1, .int y103), (0, .ref x0)]) C dX16_checksLimits_200 rfl ((congrArg (x1 + ·) (by decide : Int32.ofInt 1 = 1)).trans e104) (pt_nl X (by decide)) rfl ?_
        refine pm_goto (tgt := 149) C dX16_checksLimits_203 (by decide) ?_
        cases hf
        exact pm_sub [1, 0] rfl (ih.2.2.2 x0 y103 h hi)
      · have hf := pm_it hf c102
        refine pm_aload_n C dX16_checksLimits_185 rfl rfl ?_
        refine pm_bipush (v := 21) C dX16_checksLimits_186 (by decide) ?_
        refine pm_aload_n C dX16_checksLimits_188 rfl rfl ?_
        refine pm_getR C dX16_checksLimits_189 flX16_221 rfl k87 e89 ?_
        obtain ⟨v105, e106, hf⟩ := pm_bd hf
        refine pm_getR C dX16_checksLimits_192 flX16_302 rfl k90 e106 ?_
        refine pm_iconst (v := 5) C dX16_checksLimits_195 (by decide) ?_
        obtain ⟨k107, hf⟩ := pm_if hf
        obtain ⟨u108, hf⟩ := pm_if hf
        refine pm_iald C dX16_checksLimits_196 k107 u108 rfl ?_
        obtain ⟨v109, e110, hf⟩ := pm_bd hf
        refine pt_callVT (as := [.int 21, .int (pm_I h v105 (5 : Int32).toNatClampNeg)]) (st := []) C X dX16_checksLimits_197 ltX16_257 myX16_stops viX16_stops ⟨by decide, by decide⟩ rfl rfl k87 (Nat.le_of_ble_eq_true rfl) (Nat.le_refl _) (Nat.le_refl _) (ctX16_stops e110 ?_)
        rcases v109 with z112 | w111
        · have hf := pt_sl hf
          cases hf
          cases hi
          exact q
        have hf := pt_sr hf
        show pm_G g 200 [(0, .ref x0), (1, .int x1)] [] w111 0 0
        obtain ⟨y113, e114, hf⟩ := pm_lt hf
        refine pm_iinc (v := y113) (lv' := [(1, .int y113), (0, .ref x0)]) C dX16_checksLimits_200 rfl ((congrArg (x1 + ·) (by decide : Int32.ofInt 1 = 1)).trans e114) (pt_nl X (by decide)) rfl ?_
        refine pm_goto (tgt := 149) C dX16_checksLimits_203 (by decide) ?_
        cases hf
        exact pm_sub [1, 0] rfl (ih.2.2.2 x0 y113 w111 hi)
set_option maxHeartbeats 4000000 in
set_option maxRecDepth 100000 in
theorem ctX16_checksLimits {l : Launch} {G : pm_Gl} {h : pm_H} {a0 : Nat} {r : ((Nat × pm_H) ⊕ pm_H)} {Qr : Option Value → pm_H → Prop} {Qt : Nat → pm_H → Prop} (hf : fX16_checksLimits h a0 = some r) (q : pt_eV Qr Qt r) : pm_Ctt l G mX16_checksLimits [.ref a0] h 0 0 Qr Qt := by
  refine pm_bodyT pnX16 (Nat.le_of_ble_eq_true rfl) (fun g C X => ?_)
  have C : pm_C g cX16_checksLimits RX16 := C
  show pm_G g 0 [(0, .ref a0)] [] h 0 0
  unfold fX16_checksLimits at hf
  refine pm_iconst (v := 0) C dX16_checksLimits_0 (by decide) ?_
  refine pm_istore_n (lv' := [(1, .int 0), (0, .ref a0)]) C dX16_checksLimits_1 rfl (pt_nl X (by decide)) rfl ?_
  obtain ⟨n, hn⟩ := pm_lim_iter hf
  exact pm_sub [1, 0] rfl ((lpX16_checksLimits C X q n).1 a0 0 h hn)
theorem dX16_checksTypes_0 : decode cX16_checksTypes 0 = .ok (.iconst 0, 1) := by decide +kernel
theorem dX16_checksTypes_1 : decode cX16_checksTypes 1 = .ok (.istore_n 1, 1) := by decide +kernel
theorem dX16_checksTypes_2 : decode cX16_checksTypes 2 = .ok (.iload_n 1, 1) := by decide +kernel
theorem dX16_checksTypes_3 : decode cX16_checksTypes 3 = .ok (.aload_n 0, 1) := by decide +kernel
theorem dX16_checksTypes_4 : decode cX16_checksTypes 4 = .ok (.getfield 221, 3) := by decide +kernel
theorem dX16_checksTypes_7 : decode cX16_checksTypes 7 = .ok (.getfield 402, 3) := by decide +kernel
theorem dX16_checksTypes_10 : decode cX16_checksTypes 10 = .ok (.if_icmp .ge 57, 3) := by decide +kernel
theorem dX16_checksTypes_13 : decode cX16_checksTypes 13 = .ok (.aload_n 0, 1) := by decide +kernel
theorem dX16_checksTypes_14 : decode cX16_checksTypes 14 = .ok (.getfield 221, 3) := by decide +kernel
theorem dX16_checksTypes_17 : decode cX16_checksTypes 17 = .ok (.getfield 411, 3) := by decide +kernel
theorem dX16_checksTypes_20 : decode cX16_checksTypes 20 = .ok (.iload_n 1, 1) := by decide +kernel
theorem dX16_checksTypes_21 : decode cX16_checksTypes 21 = .ok (.iaload, 1) := by decide +kernel
theorem dX16_checksTypes_22 : decode cX16_checksTypes 22 = .ok (.ifCond .ne 39, 3) := by decide +kernel
theorem dX16_checksTypes_25 : decode cX16_checksTypes 25 = .ok (.aload_n 0, 1) := by decide +kernel
theorem dX16_checksTypes_26 : decode cX16_checksTypes 26 = .ok (.getfield 221, 3) := by decide +kernel
theorem dX16_checksTypes_29 : decode cX16_checksTypes 29 = .ok (.getfield 414, 3) := by decide +kernel
theorem dX16_checksTypes_32 : decode cX16_checksTypes 32 = .ok (.iload_n 1, 1) := by decide +kernel
theorem dX16_checksTypes_33 : decode cX16_checksTypes 33 = .ok (.laload, 1) := by decide +kernel
theorem dX16_checksTypes_34 : decode cX16_checksTypes 34 = .ok (.aload_n 0, 1) := by decide +kernel
theorem dX16_checksTypes_35 : decode cX16_checksTypes 35 = .ok (.getfield 221, 3) := by decide +kernel
theorem dX16_checksTypes_38 : decode cX16_checksTypes 38 = .ok (.getfield 381, 3) := by decide +kernel
theorem dX16_checksTypes_41 : decode cX16_checksTypes 41 = .ok (.i2l, 1) := by decide +kernel
theorem dX16_checksTypes_42 : decode cX16_checksTypes 42 = .ok (.lcmp, 1) := by decide +kernel
theorem dX16_checksTypes_43 : decode cX16_checksTypes 43 = .ok (.ifCond .lt 18, 3) := by decide +kernel
theorem dX16_checksTypes_46 : decode cX16_checksTypes 46 = .ok (.aload_n 0, 1) := by decide +kernel
theorem dX16_checksTypes_47 : decode cX16_checksTypes 47 = .ok (.bipush 20, 2) := by decide +kernel
theorem dX16_checksTypes_49 : decode cX16_checksTypes 49 = .ok (.aload_n 0, 1) := by decide +kernel
theorem dX16_checksTypes_50 : decode cX16_checksTypes 50 = .ok (.getfield 221, 3) := by decide +kernel
theorem dX16_checksTypes_53 : decode cX16_checksTypes 53 = .ok (.getfield 302, 3) := by decide +kernel
theorem dX16_checksTypes_56 : decode cX16_checksTypes 56 = .ok (.iconst 2, 1) := by decide +kernel
theorem dX16_checksTypes_57 : decode cX16_checksTypes 57 = .ok (.iaload, 1) := by decide +kernel
theorem dX16_checksTypes_58 : decode cX16_checksTypes 58 = .ok (.invokevirtual 257, 3) := by decide +kernel
theorem dX16_checksTypes_61 : decode cX16_checksTypes 61 = .ok (.iinc 1 1, 3) := by decide +kernel
theorem dX16_checksTypes_64 : decode cX16_checksTypes 64 = .ok (.goto (-62), 3) := by decide +kernel
theorem dX16_checksTypes_67 : decode cX16_checksTypes 67 = .ok (.iconst 0, 1) := by decide +kernel
theorem dX16_checksTypes_68 : decode cX16_checksTypes 68 = .ok (.istore_n 1, 1) := by decide +kernel
theorem dX16_checksTypes_69 : decode cX16_checksTypes 69 = .ok (.iload_n 1, 1) := by decide +kernel
theorem dX16_checksTypes_70 : decode cX16_checksTypes 70 = .ok (.aload_n 0, 1) := by decide +kernel
theorem dX16_checksTypes_71 : decode cX16_checksTypes 71 = .ok (.getfield 221, 3) := by decide +kernel
theorem dX16_checksTypes_74 : decode cX16_checksTypes 74 = .ok (.getfield 426, 3) := by decide +kernel
theorem dX16_checksTypes_77 : decode cX16_checksTypes 77 = .ok (.if_icmp .ge 45, 3) := by decide +kernel
theorem dX16_checksTypes_80 : decode cX16_checksTypes 80 = .ok (.aload_n 0, 1) := by decide +kernel
theorem dX16_checksTypes_81 : decode cX16_checksTypes 81 = .ok (.getfield 221, 3) := by decide +kernel
theorem dX16_checksTypes_84 : decode cX16_checksTypes 84 = .ok (.getfield 429, 3) := by decide +kernel
theorem dX16_checksTypes_87 : decode cX16_checksTypes 87 = .ok (.iload_n 1, 1) := by decide +kernel
theorem dX16_checksTypes_88 : decode cX16_checksTypes 88 = .ok (.laload, 1) := by decide +kernel
theorem dX16_checksTypes_89 : decode cX16_checksTypes 89 = .ok (.aload_n 0, 1) := by decide +kernel
theorem dX16_checksTypes_90 : decode cX16_checksTypes 90 = .ok (.getfield 221, 3) := by decide +kernel
theorem dX16_checksTypes_93 : decode cX16_checksTypes 93 = .ok (.getfield 381, 3) := by decide +kernel
theorem dX16_checksTypes_96 : decode cX16_checksTypes 96 = .ok (.i2l, 1) := by decide +kernel
theorem dX16_checksTypes_97 : decode cX16_checksTypes 97 = .ok (.lcmp, 1) := by decide +kernel
theorem dX16_checksTypes_98 : decode cX16_checksTypes 98 = .ok (.ifCond .lt 18, 3) := by decide +kernel
theorem dX16_checksTypes_101 : decode cX16_checksTypes 101 = .ok (.aload_n 0, 1) := by decide +kernel
theorem dX16_checksTypes_102 : decode cX16_checksTypes 102 = .ok (.bipush 20, 2) := by decide +kernel
theorem dX16_checksTypes_104 : decode cX16_checksTypes 104 = .ok (.aload_n 0, 1) := by decide +kernel
theorem dX16_checksTypes_105 : decode cX16_checksTypes 105 = .ok (.getfield 221, 3) := by decide +kernel
theorem dX16_checksTypes_108 : decode cX16_checksTypes 108 = .ok (.getfield 302, 3) := by decide +kernel
theorem dX16_checksTypes_111 : decode cX16_checksTypes 111 = .ok (.iconst 3, 1) := by decide +kernel
theorem dX16_checksTypes_112 : decode cX16_checksTypes 112 = .ok (.iaload, 1) := by decide +kernel
theorem dX16_checksTypes_113 : decode cX16_checksTypes 113 = .ok (.invokevirtual 257, 3) := by decide +kernel
theorem dX16_checksTypes_116 : decode cX16_checksTypes 116 = .ok (.iinc 1 1, 3) := by decide +kernel
theorem dX16_checksTypes_119 : decode cX16_checksTypes 119 = .ok (.goto (-50), 3) := by decide +kernel
theorem dX16_checksTypes_122 : decode cX16_checksTypes 122 = .ok (.return_, 1) := by decide +kernel
def tX16_checksTypes_2 (x0 : Nat) (x1 : Int32) (h : pm_H) : Option (((Nat × Int32 × pm_H) ⊕ (Nat × Int32 × pm_H)) ⊕ ((Nat × pm_H) ⊕ pm_H)) := if pm_kd h x0 = 16 then (pm_R h x0 10).bind fun v2 => if pm_kd h v2 = 14 then if (pm_I h v2 8) ≤ x1 then (some (.inl (.inr ((x0, 0, h))))) else ((pm_R h v2 9).bind fun v6 => if pm_kd h v6 = 34 then if pm_in x1 (pm_ln h v6) then if (pm_I h v6 x1.toNatClampNeg) = 0 then ((pm_R h v2 10).bind fun v13 => if pm_kd h v13 = 35 then if pm_in x1 (pm_ln h v13) then if (pm_L h v13 x1.toNatClampNeg) < ((pm_I h v2 4).toInt64) then (pm_let (x1 + 1) fun y18 => some (.inl (.inl ((x0, y18, h))))) else ((pm_R h v2 2).bind fun v20 => if pm_kd h v20 = 34 then if pm_in 2 (pm_ln h v20) then (fX16_stops h x0 20 (pm_I h v20 (2 : Int32).toNatClampNeg)).bind fun v24 => pt_s v24 fun w26 => pm_let (x1 + 1) fun y28 => some (.inl (.inl ((x0, y28, w26)))) else none else none) else none else none) else (pm_let (x1 + 1) fun y11 => some (.inl (.inl ((x0, y11, h))))) else none else none) else none else none
def tX16_checksTypes_69 (x0 : Nat) (x1 : Int32) (h : pm_H) : Option (((Nat × Int32 × pm_H) ⊕ (Nat × Int32 × pm_H)) ⊕ ((Nat × pm_H) ⊕ pm_H)) := if pm_kd h x0 = 16 then (pm_R h x0 10).bind fun v31 => if pm_kd h v31 = 14 then if (pm_I h v31 15) ≤ x1 then (some (.inr (.inr (h)))) else ((pm_R h v31 16).bind fun v35 => if pm_kd h v35 = 35 then if pm_in x1 (pm_ln h v35) then if (pm_L h v35 x1.toNatClampNeg) < ((pm_I h v31 4).toInt64) then (pm_let (x1 + 1) fun y40 => some (.inl (.inr ((x0, y40, h))))) else ((pm_R h v31 2).bind fun v42 => if pm_kd h v42 = 34 then if pm_in 3 (pm_ln h v42) then (fX16_stops h x0 20 (pm_I h v42 (3 : Int32).toNatClampNeg)).bind fun v46 => pt_s v46 fun w48 => pm_let (x1 + 1) fun y50 => some (.inl (.inr ((x0, y50, w48)))) else none else none) else none else none) else none else none
def sX16_checksTypes : ((Nat × Int32 × pm_H) ⊕ (Nat × Int32 × pm_H)) → Option (((Nat × Int32 × pm_H) ⊕ (Nat × Int32 × pm_H)) ⊕ ((Nat × pm_H) ⊕ pm_H)) := fun z => match z with
  | .inl (x0, x1, h) => tX16_checksTypes_2 x0 x1 h
  | .inr (x0, x1, h) => tX16_checksTypes_69 x0 x1 h
noncomputable def fX16_checksTypes (h : pm_H) (a0 : Nat) : Option ((Nat × pm_H) ⊕ pm_H) := pm_lim sX16_checksTypes (.inl ((a0, 0, h)))
set_option maxHeartbeats 4000000 in
set_option maxRecDepth 100000 in
theorem lpX16_checksTypes {g : pm_Gm} {l : Launch} {G : pm_Gl} {Qr : Option Value → pm_H → Prop} {Qt : Nat → pm_H → Prop} (C : pm_C g cX16_checksTypes RX16) (X : pm_XT g l G mX16_checksTypes 0 0 Qr Qt) {r : ((Nat × pm_H) ⊕ pm_H)} (q : pt_eV Qr Qt r) : ∀ n : Nat, (∀ (x0 : Nat) (x1 : Int32) (h : pm_H), pm_iter sX16_checksTypes n (.inl (x0, x1, h)) = some r → pm_G g 2 [(0, .ref x0), (1, .int x1)] [] h 0 0) ∧ (∀ (x0 : Nat) (x1 : Int32) (h : pm_H), pm_iter sX16_checksTypes n (.inr (x0, x1, h)) = some r → pm_G g 69 [(0, .ref x0), (1, .int x1)] [] h 0 0) := by
  intro n
  induction n with
  | zero => exact ⟨fun _ _ _ hf => (by cases hf), fun _ _ _ hf => (by cases hf)⟩
  | succ n ih =>
    refine ⟨fun x0 x1 h hf => ?_, ?_⟩
    · obtain ⟨y, hf, hi⟩ := pm_iter_s hf
      have hf : tX16_checksTypes_2 x0 x1 h = some y := hf
      unfold tX16_checksTypes_2 at hf
      refine pm_iload_n C dX16_checksTypes_2 rfl rfl ?_
      refine pm_aload_n C dX16_checksTypes_3 rfl rfl ?_
      obtain ⟨k1, hf⟩ := pm_if hf
      obtain ⟨v2, e3, hf⟩ := pm_bd hf
      refine pm_getR C dX16_checksTypes_4 flX16_221 rfl k1 e3 ?_
      obtain ⟨k4, hf⟩ := pm_if hf
      refine pm_getI C dX16_checksTypes_7 flX16_402 rfl k4 rfl ?_
      refine pm_icmp_ge (tgt := 67) C dX16_checksTypes_10 (by decide) (fun c5 => ?_) (fun c5 => ?_)
      · have hf := pm_it hf c5
        refine pm_iconst (v := 0) C dX16_checksTypes_67 (by decide) ?_
        refine pm_istore_n (lv' := [(1, .int 0), (0, .ref x0)]) C dX16_checksTypes_68 rfl (pt_nl X (by decide)) rfl ?_
        cases hf
        exact pm_sub [1, 0] rfl (ih.2 x0 0 h hi)
      · have hf := pm_ie hf c5
        refine pm_aload_n C dX16_checksTypes_13 rfl rfl ?_
        refine pm_getR C dX16_checksTypes_14 flX16_221 rfl k1 e3 ?_
        obtain ⟨v6, e7, hf⟩ := pm_bd hf
        refine pm_getR C dX16_checksTypes_17 flX16_411 rfl k4 e7 ?_
        refine pm_iload_n C dX16_checksTypes_20 rfl rfl ?_
        obtain ⟨k8, hf⟩ := pm_if hf
        obtain ⟨u9, hf⟩ := pm_if hf
        refine pm_iald C dX16_checksTypes_21 k8 u9 rfl ?_
        refine pm_if_ne (tgt := 61) C dX16_checksTypes_22 (by decide) (fun c10 => ?_) (fun c10 => ?_)
        · have hf := pm_ie hf c10
          obtain ⟨y11, e12, hf⟩ := pm_lt hf
          refine pm_iinc (v := y11) (lv' := [(1, .int y11), (0, .ref x0)]) C dX16_checksTypes_61 rfl ((congrArg (x1 + ·) (by decide : Int32.ofInt 1 = 1)).trans e12) (pt_nl X (by decide)) rfl ?_
          refine pm_goto (tgt := 2) C dX16_checksTypes_64 (by decide) ?_
          cases hf
          exact pm_sub [1, 0] rfl (ih.1 x0 y11 h hi)
        · have hf := pm_it hf c10
          refine pm_aload_n C dX16_checksTypes_25 rfl rfl ?_
          refine pm_getR C dX16_checksTypes_26 flX16_221 rfl k1 e3 ?_
          obtain ⟨v13, e14, hf⟩ := pm_bd hf
          refine pm_getR C dX16_checksTypes_29 flX16_414 rfl k4 e14 ?_
          refine pm_iload_n C dX16_checksTypes_32 rfl rfl ?_
          obtain ⟨k15, hf⟩ := pm_if hf
          obtain ⟨u16, hf⟩ := pm_if hf
          refine pm_lald C dX16_checksTypes_33 k15 u16 rfl ?_
          refine pm_aload_n C dX16_checksTypes_34 rfl rfl ?_
          refine pm_getR C dX16_checksTypes_35 flX16_221 rfl k1 e3 ?_
          refine pm_getI C dX16_checksTypes_38 flX16_381 rfl k4 rfl ?_
          refine pm_i2l C dX16_checksTypes_41 ?_
          refine pm_lcmp C dX16_checksTypes_42 ?_
          refine pm_if_lt (tgt := 61) C dX16_checksTypes_43 (by decide) (fun c17 => ?_) (fun c17 => ?_)
          · have hf := pm_it hf ((pm_lg_lt _ _).mp c17)
            obtain ⟨y18, e19, hf⟩ := pm_lt hf
            refine pm_iinc (v := y18) (lv' := [(1, .int y18), (0, .ref x0)]) C dX16_checksTypes_61 rfl ((congrArg (x1 + ·) (by decide : Int32.ofInt 1 = 1)).trans e19) (pt_nl X (by decide)) rfl ?_
            refine pm_goto (tgt := 2) C dX16_checksTypes_64 (by decide) ?_
            cases hf
            exact pm_sub [1, 0] rfl (ih.1 x0 y18 h hi)
          · have hf := pm_ie hf ((fun z => c17 ((pm_lg_lt _ _).mpr z)))
            refine pm_aload_n C dX16_checksTypes_46 rfl rfl ?_
            refine pm_bipush (v := 20) C dX16_checksTypes_47 (by decide) ?_
            refine pm_aload_n C dX16_checksTypes_49 rfl rfl ?_
            refine pm_getR C dX16_checksTypes_50 flX16_221 rfl k1 e3 ?_
            obtain ⟨v20, e21, hf⟩ := pm_bd hf
            refine pm_getR C dX16_checksTypes_53 flX16_302 rfl k4 e21 ?_
            refine pm_iconst (v := 2) C dX16_checksTypes_56 (by decide) ?_
            obtain ⟨k22, hf⟩ := pm_if hf
            obtain ⟨u23, hf⟩ := pm_if hf
            refine pm_iald C dX16_checksTypes_57 k22 u23 rfl ?_
            obtain ⟨v24, e25, hf⟩ := pm_bd hf
            refine pt_callVT (as := [.int 20, .int (pm_I h v20 (2 : Int32).toNatClampNeg)]) (st := []) C X dX16_checksTypes_58 ltX16_257 myX16_stops viX16_stops ⟨by decide, by decide⟩ rfl rfl k1 (Nat.le_of_ble_eq_true rfl) (Nat.le_refl _) (Nat.le_refl _) (ctX16_stops e25 ?_)
            rcases v24 with z27 | w26
            · have hf := pt_sl hf
              cases hf
              cases hi
              exact q
            have hf := pt_sr hf
            show pm_G g 61 [(0, .ref x0), (1, .int x1)] [] w26 0 0
            obtain ⟨y28, e29, hf⟩ := pm_lt hf
            refine pm_iinc (v := y28) (lv' := [(1, .int y28), (0, .ref x0)]) C dX16_checksTypes_61 rfl ((congrArg (x1 + ·) (by decide : Int32.ofInt 1 = 1)).trans e29) (pt_nl X (by decide)) rfl ?_
            refine pm_goto (tgt := 2) C dX16_checksTypes_64 (by decide) ?_
            cases hf
            exact pm_sub [1, 0] rfl (ih.1 x0 y28 w26 hi)
    refine fun x0 x1 h hf => ?_
    obtain ⟨y, hf, hi⟩ := pm_iter_s hf
    have hf : tX16_checksTypes_69 x0 x1 h = some y := hf
    unfold tX16_checksTypes_69 at hf
    refine pm_iload_n C dX16_checksTypes_69 rfl rfl ?_
    refine pm_aload_n C dX16_checksTypes_70 rfl rfl ?_
    obtain ⟨k30, hf⟩ := pm_if hf
    obtain ⟨v31, e32, hf⟩ := pm_bd hf
    refine pm_getR C dX16_checksTypes_71 flX16_221 rfl k30 e32 ?_
    obtain ⟨k33, hf⟩ := pm_if hf
    refine pm_getI C dX16_checksTypes_74 flX16_426 rfl k33 rfl ?_
    refine pm_icmp_ge (tgt := 122) C dX16_checksTypes_77 (by decide) (fun c34 => ?_) (fun c34 => ?_)
    · have hf := pm_it hf c34
      cases hf
      cases hi
      exact pt_vret C X dX16_checksTypes_122 rfl (Nat.le_refl _) (Nat.le_refl _) q
    · have hf := pm_ie hf c34
      refine pm_aload_n C dX16_checksTypes_80 rfl rfl ?_
      refine pm_getR C dX16_checksTypes_81 flX16_221 rfl k30 e32 ?_
      obtain ⟨v35, e36, hf⟩ := pm_bd hf
      refine pm_getR C dX16_checksTypes_84 flX16_429 rfl k33 e36 ?_
      refine pm_iload_n C dX16_checksTypes_87 rfl rfl ?_
      obtain ⟨k37, hf⟩ := pm_if hf
      obtain ⟨u38, hf⟩ := pm_if hf
      refine pm_lald C dX16_checksTypes_88 k37 u38 rfl ?_
      refine pm_aload_n C dX16_checksTypes_89 rfl rfl ?_
      refine pm_getR C dX16_checksTypes_90 flX16_221 rfl k30 e32 ?_
      refine pm_getI C dX16_checksTypes_93 flX16_381 rfl k33 rfl ?_
      refine pm_i2l C dX16_checksTypes_96 ?_
      refine pm_lcmp C dX16_checksTypes_97 ?_
      refine pm_if_lt (tgt := 116) C dX16_checksTypes_98 (by decide) (fun c39 => ?_) (fun c39 => ?_)
      · have hf := pm_it hf ((pm_lg_lt _ _).mp c39)
        obtain ⟨y40, e41, hf⟩ := pm_lt hf
        refine pm_iinc (v := y40) (lv' := [(1, .int y40), (0, .ref x0)]) C dX16_checksTypes_116 rfl ((congrArg (x1 + ·) (by decide : Int32.ofInt 1 = 1)).trans e41) (pt_nl X (by decide)) rfl ?_
        refine pm_goto (tgt := 69) C dX16_checksTypes_119 (by decide) ?_
        cases hf
        exact pm_sub [1, 0] rfl (ih.2 x0 y40 h hi)
      · have hf := pm_ie hf ((fun z => c39 ((pm_lg_lt _ _).mpr z)))
        refine pm_aload_n C dX16_checksTypes_101 rfl rfl ?_
        refine pm_bipush (v := 20) C dX16_checksTypes_102 (by decide) ?_
        refine pm_aload_n C dX16_checksTypes_104 rfl rfl ?_
        refine pm_getR C dX16_checksTypes_105 flX16_221 rfl k30 e32 ?_
        obtain ⟨v42, e43, hf⟩ := pm_bd hf
        refine pm_getR C dX16_checksTypes_108 flX16_302 rfl k33 e43 ?_
        refine pm_iconst (v := 3) C dX16_checksTypes_111 (by decide) ?_
        obtain ⟨k44, hf⟩ := pm_if hf
        obtain ⟨u45, hf⟩ := pm_if hf
        refine pm_iald C dX16_checksTypes_112 k44 u45 rfl ?_
        obtain ⟨v46, e47, hf⟩ := pm_bd hf
        refine pt_callVT (as := [.int 20, .int (pm_I h v42 (3 : Int32).toNatClampNeg)]) (st := []) C X dX16_checksTypes_113 ltX16_257 myX16_stops viX16_stops ⟨by decide, by decide⟩ rfl rfl k30 (Nat.le_of_ble_eq_true rfl) (Nat.le_refl _) (Nat.le_refl _) (ctX16_stops e47 ?_)
        rcases v46 with z49 | w48
        · have hf := pt_sl hf
          cases hf
          cases hi
          exact q
        have hf := pt_sr hf
        show pm_G g 116 [(0, .ref x0), (1, .int x1)] [] w48 0 0
        obtain ⟨y50, e51, hf⟩ := pm_lt hf
        refine pm_iinc (v := y50) (lv' := [(1, .int y50), (0, .ref x0)]) C dX16_checksTypes_116 rfl ((congrArg (x1 + ·) (by decide : Int32.ofInt 1 = 1)).trans e51) (pt_nl X (by decide)) rfl ?_
        refine pm_goto (tgt := 69) C dX16_checksTypes_119 (by decide) ?_
        cases hf
        exact pm_sub [1, 0] rfl (ih.2 x0 y50 w48 hi)
set_option maxHeartbeats 4000000 in
set_option maxRecDepth 100000 in
theorem ctX16_checksTypes {l : Launch} {G : pm_Gl} {h : pm_H} {a0 : Nat} {r : ((Nat × pm_H) ⊕ pm_H)} {Qr : Option Value → pm_H → Prop} {Qt : Nat → pm_H → Prop} (hf : fX16_checksTypes h a0 = some r) (q : pt_eV Qr Qt r) : pm_Ctt l G mX16_checksTypes [.ref a0] h 0 0 Qr Qt := by
  refine pm_bodyT pnX16 (Nat.le_of_ble_eq_true rfl) (fun g C X => ?_)
  have C : pm_C g cX16_checksTypes RX16 := C
  show pm_G g 0 [(0, .ref a0)] [] h 0 0
  unfold fX16_checksTypes at hf
  refine pm_iconst (v := 0) C dX16_checksTypes_0 (by decide) ?_
  refine pm_istore_n (lv' := [(1, .int 0), (0, .ref a0)]) C dX16_checksTypes_1 rfl (pt_nl X (by decide)) rfl ?_
  obtain ⟨n, hn⟩ := pm_lim_iter hf
  exact pm_sub [1, 0] rfl ((lpX16_checksTypes C X q n).1 a0 0 h hn)
theorem dX16_constantly_0 : decode cX16_constantly 0 = .ok (.iload_n 1, 1) := by decide +kernel
theorem dX16_constantly_1 : decode cX16_constantly 1 = .ok (.istore_n 3, 1) := by decide +kernel
theorem dX16_constantly_2 : decode cX16_constantly 2 = .ok (.iconst 0, 1) := by decide +kernel
theorem dX16_constantly_3 : decode cX16_constantly 3 = .ok (.istore 4, 2) := by decide +kernel
theorem dX16_constantly_5 : decode cX16_constantly 5 = .ok (.iconst 0, 1) := by decide +kernel
theorem dX16_constantly_6 : decode cX16_constantly 6 = .ok (.istore 5, 2) := by decide +kernel
theorem dX16_constantly_8 : decode cX16_constantly 8 = .ok (.aload_n 0, 1) := by decide +kernel
theorem dX16_constantly_9 : decode cX16_constantly 9 = .ok (.getfield 221, 3) := by decide +kernel
theorem dX16_constantly_12 : decode cX16_constantly 12 = .ok (.iload_n 3, 1) := by decide +kernel
theorem dX16_constantly_13 : decode cX16_constantly 13 = .ok (.invokevirtual 261, 3) := by decide +kernel
theorem dX16_constantly_16 : decode cX16_constantly 16 = .ok (.bipush 11, 2) := by decide +kernel
theorem dX16_constantly_18 : decode cX16_constantly 18 = .ok (.if_icmp .eq 34, 3) := by decide +kernel
theorem dX16_constantly_21 : decode cX16_constantly 21 = .ok (.aload_n 0, 1) := by decide +kernel
theorem dX16_constantly_22 : decode cX16_constantly 22 = .ok (.iload_n 3, 1) := by decide +kernel
theorem dX16_constantly_23 : decode cX16_constantly 23 = .ok (.invokevirtual 673, 3) := by decide +kernel
theorem dX16_constantly_26 : decode cX16_constantly 26 = .ok (.istore 5, 2) := by decide +kernel
theorem dX16_constantly_28 : decode cX16_constantly 28 = .ok (.iload 5, 2) := by decide +kernel
theorem dX16_constantly_30 : decode cX16_constantly 30 = .ok (.ifCond .ne 10, 3) := by decide +kernel
theorem dX16_constantly_33 : decode cX16_constantly 33 = .ok (.aload_n 0, 1) := by decide +kernel
theorem dX16_constantly_34 : decode cX16_constantly 34 = .ok (.bipush 26, 2) := by decide +kernel
theorem dX16_constantly_36 : decode cX16_constantly 36 = .ok (.iload_n 3, 1) := by decide +kernel
theorem dX16_constantly_37 : decode cX16_constantly 37 = .ok (.invokevirtual 257, 3) := by decide +kernel
theorem dX16_constantly_40 : decode cX16_constantly 40 = .ok (.iinc 4 1, 3) := by decide +kernel
theorem dX16_constantly_43 : decode cX16_constantly 43 = .ok (.aload_n 0, 1) := by decide +kernel
theorem dX16_constantly_44 : decode cX16_constantly 44 = .ok (.iload_n 3, 1) := by decide +kernel
theorem dX16_constantly_45 : decode cX16_constantly 45 = .ok (.invokevirtual 655, 3) := by decide +kernel
theorem dX16_constantly_48 : decode cX16_constantly 48 = .ok (.istore_n 3, 1) := by decide +kernel
theorem dX16_constantly_49 : decode cX16_constantly 49 = .ok (.goto (-41), 3) := by decide +kernel
theorem dX16_constantly_52 : decode cX16_constantly 52 = .ok (.iload_n 3, 1) := by decide +kernel
theorem dX16_constantly_53 : decode cX16_constantly 53 = .ok (.istore 6, 2) := by decide +kernel
theorem dX16_constantly_55 : decode cX16_constantly 55 = .ok (.iload_n 1, 1) := by decide +kernel
theorem dX16_constantly_56 : decode cX16_constantly 56 = .ok (.istore_n 3, 1) := by decide +kernel
theorem dX16_constantly_57 : decode cX16_constantly 57 = .ok (.iload_n 3, 1) := by decide +kernel
theorem dX16_constantly_58 : decode cX16_constantly 58 = .ok (.iload 6, 2) := by decide +kernel
theorem dX16_constantly_60 : decode cX16_constantly 60 = .ok (.if_icmp .ge 57, 3) := by decide +kernel
theorem dX16_constantly_63 : decode cX16_constantly 63 = .ok (.aload_n 0, 1) := by decide +kernel
theorem dX16_constantly_64 : decode cX16_constantly 64 = .ok (.iload_n 3, 1) := by decide +kernel
theorem dX16_constantly_65 : decode cX16_constantly 65 = .ok (.iconst 1, 1) := by decide +kernel
theorem dX16_constantly_66 : decode cX16_constantly 66 = .ok (.iadd, 1) := by decide +kernel
theorem dX16_constantly_67 : decode cX16_constantly 67 = .ok (.putfield 594, 3) := by decide +kernel
theorem dX16_constantly_70 : decode cX16_constantly 70 = .ok (.aload_n 0, 1) := by decide +kernel
theorem dX16_constantly_71 : decode cX16_constantly 71 = .ok (.getfield 221, 3) := by decide +kernel
theorem dX16_constantly_74 : decode cX16_constantly 74 = .ok (.iload_n 3, 1) := by decide +kernel
theorem dX16_constantly_75 : decode cX16_constantly 75 = .ok (.invokevirtual 261, 3) := by decide +kernel
theorem dX16_constantly_78 : decode cX16_constantly 78 = .ok (.sipush 210, 3) := by decide +kernel
theorem dX16_constantly_81 : decode cX16_constantly 81 = .ok (.if_icmp .ne 27, 3) := by decide +kernel
theorem dX16_constantly_84 : decode cX16_constantly 84 = .ok (.aload_n 0, 1) := by decide +kernel
theorem dX16_constantly_85 : decode cX16_constantly 85 = .ok (.invokevirtual 603, 3) := by decide +kernel
theorem dX16_constantly_88 : decode cX16_constantly 88 = .ok (.aload_n 0, 1) := by decide +kernel
theorem dX16_constantly_89 : decode cX16_constantly 89 = .ok (.getfield 221, 3) := by decide +kernel
theorem dX16_constantly_92 : decode cX16_constantly 92 = .ok (.iconst 0, 1) := by decide +kernel
theorem dX16_constantly_93 : decode cX16_constantly 93 = .ok (.invokevirtual 615, 3) := by decide +kernel
theorem dX16_constantly_96 : decode cX16_constantly 96 = .ok (.i2l, 1) := by decide +kernel
theorem dX16_constantly_97 : decode cX16_constantly 97 = .ok (.lcmp, 1) := by decide +kernel
theorem dX16_constantly_98 : decode cX16_constantly 98 = .ok (.ifCond .lt 10, 3) := by decide +kernel
theorem dX16_constantly_101 : decode cX16_constantly 101 = .ok (.aload_n 0, 1) := by decide +kernel
theorem dX16_constantly_102 : decode cX16_constantly 102 = .ok (.bipush 28, 2) := by decide +kernel
theorem dX16_constantly_104 : decode cX16_constantly 104 = .ok (.iload_n 3, 1) := by decide +kernel
theorem dX16_constantly_105 : decode cX16_constantly 105 = .ok (.invokevirtual 257, 3) := by decide +kernel
theorem dX16_constantly_108 : decode cX16_constantly 108 = .ok (.aload_n 0, 1) := by decide +kernel
theorem dX16_constantly_109 : decode cX16_constantly 109 = .ok (.iload_n 3, 1) := by decide +kernel
theorem dX16_constantly_110 : decode cX16_constantly 110 = .ok (.invokevirtual 655, 3) := by decide +kernel
theorem dX16_constantly_113 : decode cX16_constantly 113 = .ok (.istore_n 3, 1) := by decide +kernel
theorem dX16_constantly_114 : decode cX16_constantly 114 = .ok (.goto (-57), 3) := by decide +kernel
theorem dX16_constantly_117 : decode cX16_constantly 117 = .ok (.iload 4, 2) := by decide +kernel
theorem dX16_constantly_119 : decode cX16_constantly 119 = .ok (.iconst 1, 1) := by decide +kernel
theorem dX16_constantly_120 : decode cX16_constantly 120 = .ok (.if_icmp .ne 9, 3) := by decide +kernel
theorem dX16_constantly_123 : decode cX16_constantly 123 = .ok (.iload 5, 2) := by decide +kernel
theorem dX16_constantly_125 : decode cX16_constantly 125 = .ok (.iload_n 2, 1) := by decide +kernel
theorem dX16_constantly_126 : decode cX16_constantly 126 = .ok (.if_icmp .eq 11, 3) := by decide +kernel
theorem dX16_constantly_129 : decode cX16_constantly 129 = .ok (.aload_n 0, 1) := by decide +kernel
theorem dX16_constantly_130 : decode cX16_constantly 130 = .ok (.bipush 27, 2) := by decide +kernel
theorem dX16_constantly_132 : decode cX16_constantly 132 = .ok (.iload 6, 2) := by decide +kernel
theorem dX16_constantly_134 : decode cX16_constantly 134 = .ok (.invokevirtual 257, 3) := by decide +kernel
theorem dX16_constantly_137 : decode cX16_constantly 137 = .ok (.aload_n 0, 1) := by decide +kernel
theorem dX16_constantly_138 : decode cX16_constantly 138 = .ok (.iload 6, 2) := by decide +kernel
theorem dX16_constantly_140 : decode cX16_constantly 140 = .ok (.iconst 1, 1) := by decide +kernel
theorem dX16_constantly_141 : decode cX16_constantly 141 = .ok (.iadd, 1) := by decide +kernel
theorem dX16_constantly_142 : decode cX16_constantly 142 = .ok (.putfield 594, 3) := by decide +kernel
theorem dX16_constantly_145 : decode cX16_constantly 145 = .ok (.return_, 1) := by decide +kernel
noncomputable def tX16_constantly_8 (x0 : Nat) (x1 : Int32) (x2 : Int32) (x3 : Int32) (x4 : Int32) (x5 : Int32) (h : pm_H) : Option (((Nat × Int32 × Int32 × Int32 × Int32 × Int32 × pm_H) ⊕ (Nat × Int32 × Int32 × Int32 × Int32 × Int32 × pm_H)) ⊕ ((Nat × pm_H) ⊕ pm_H)) := if pm_kd h x0 = 16 then (pm_R h x0 10).bind fun v2 => if pm_kd h v2 = 14 then (fX14_at h v2 x3).bind fun v5 => if v5 = 11 then (some (.inl (.inr ((x0, x2, x1, x4, x5, x3, h))))) else ((fX16_constantType h x0 x3).bind fun v8 => if v8.1 = 0 then (if pm_kd v8.2 x0 = 16 then (fX16_stops v8.2 x0 26 x3).bind fun v17 => pt_s v17 fun w19 => pm_let (x4 + 1) fun y21 => if pm_kd w19 x0 = 16 then (fX16_behind w19 x0 x3).bind fun v24 => some (.inl (.inl ((x0, x1, x2, v24.1, y21, v8.1, v24.2)))) else none else none) else (pm_let (x4 + 1) fun y11 => if pm_kd v8.2 x0 = 16 then (fX16_behind v8.2 x0 x3).bind fun v14 => some (.inl (.inl ((x0, x1, x2, v14.1, y11, v8.1, v14.2)))) else none)) else none else none
noncomputable def tX16_constantly_57 (x0 : Nat) (x2 : Int32) (x3 : Int32) (x4 : Int32) (x5 : Int32) (x6 : Int32) (h : pm_H) : Option (((Nat × Int32 × Int32 × Int32 × Int32 × Int32 × pm_H) ⊕ (Nat × Int32 × Int32 × Int32 × Int32 × Int32 × pm_H)) ⊕ ((Nat × pm_H) ⊕ pm_H)) := if x6 ≤ x3 then (if x4 = 1 then (if x5 = x2 then (pm_let (x6 + 1) fun y37 => if pm_kd h x0 = 16 then some (.inr (.inr (pm_setI h x0 19 y37))) else none) else (if pm_kd h x0 = 16 then (fX16_stops h x0 27 x6).bind fun v41 => pt_s v41 fun w43 => pm_let (x6 + 1) fun y45 => if pm_kd w43 x0 = 16 then some (.inr (.inr (pm_setI w43 x0 19 y45))) else none else none)) else (if pm_kd h x0 = 16 then (fX16_stops h x0 27 x6).bind fun v29 => pt_s v29 fun w31 => pm_let (x6 + 1) fun y33 => if pm_kd w31 x0 = 16 then some (.inr (.inr (pm_setI w31 x0 19 y33))) else none else none)) else (pm_let (x3 + 1) fun y48 => if pm_kd h x0 = 16 then (pm_R (pm_setI h x0 19 y48) x0 10).bind fun v51 => if pm_kd (pm_setI h x0 19 y48) v51 = 14 then (fX14_at (pm_setI h x0 19 y48) v51 x3).bind fun v54 => if v54 = 210 then ((fX16_word (pm_setI h x0 19 y48) x0).bind fun v59 => if pm_kd v59.2 x0 = 16 then (pm_R v59.2 x0 10).bind fun v62 => if pm_kd v59.2 v62 = 14 then (fX14_all v59.2 v62 0).bind fun v65 => if v59.1 < v65.toInt64 then ((fX16_behind v59.2 x0 x3).bind fun v68 => some (.inl (.inr ((x0, x2, v68.1, x4, x5, x6, v68.2))))) else ((fX16_stops v59.2 x0 28 x3).bind fun v70 => pt_s v70 fun w72 => if pm_kd w72 x0 = 16 then (fX16_behind w72 x0 x3).bind fun v75 => some (.inl (.inr ((x0, x2, v75.1, x4, x5, x6, v75.2)))) else none) else none else none) else ((fX16_behind (pm_setI h x0 19 y48) x0 x3).bind fun v57 => some (.inl (.inr ((x0, x2, v57.1, x4, x5, x6, v57.2))))) else none else none)
noncomputable def sX16_constantly : ((Nat × Int32 × Int32 × Int32 × Int32 × Int32 × pm_H) ⊕ (Nat × Int32 × Int32 × Int32 × Int32 × Int32 × pm_H)) → Option (((Nat × Int32 × Int32 × Int32 × Int32 × Int32 × pm_H) ⊕ (Nat × Int32 × Int32 × Int32 × Int32 × Int32 × pm_H)) ⊕ ((Nat × pm_H) ⊕ pm_H)) := fun z => match z with
  | .inl (x0, x1, x2, x3, x4, x5, h) => tX16_constantly_8 x0 x1 x2 x3 x4 x5 h
  | .inr (x0, x2, x3, x4, x5, x6, h) => tX16_constantly_57 x0 x2 x3 x4 x5 x6 h
noncomputable def fX16_constantly (h : pm_H) (a0 : Nat) (p1 : Int32) (p2 : Int32) : Option ((Nat × pm_H) ⊕ pm_H) := pm_lim sX16_constantly (.inl ((a0, p1, p2, p1, 0, 0, h)))
set_option maxHeartbeats 4000000 in
set_option maxRecDepth 100000 in
theorem lpX16_constantly {g : pm_Gm} {l : Launch} {G : pm_Gl} {Qr : Option Value → pm_H → Prop} {Qt : Nat → pm_H → Prop} (C : pm_C g cX16_constantly RX16) (X : pm_XT g l G mX16_constantly 0 0 Qr Qt) {r : ((Nat × pm_H) ⊕ pm_H)} (q : pt_eV Qr Qt r) : ∀ n : Nat, (∀ (x0 : Nat) (x1 : Int32) (x2 : Int32) (x3 : Int32) (x4 : Int32) (x5 : Int32) (h : pm_H), pm_iter sX16_constantly n (.inl (x0, x1, x2, x3, x4, x5, h)) = some r → pm_G g 8 [(0, .ref x0), (1, .int x1), (2, .int x2), (3, .int x3), (4, .int x4), (5, .int x5)] [] h 0 0) ∧ (∀ (x0 : Nat) (x2 : Int32) (x3 : Int32) (x4 : Int32) (x5 : Int32) (x6 : Int32) (h : pm_H), pm_iter sX16_constantly n (.inr (x0, x2, x3, x4, x5, x6, h)) = some r → pm_G g 57 [(0, .ref x0), (2, .int x2), (3, .int x3), (4, .int x4), (5, .int x5), (6, .int x6)] [] h 0 0) := by
  intro n
  induction n with
  | zero => exact ⟨fun _ _ _ _ _ _ _ hf => (by cases hf), fun _ _ _ _ _ _ _ hf => (by cases hf)⟩
  | succ n ih =>
    refine ⟨fun x0 x1 x2 x3 x4 x5 h hf => ?_, ?_⟩
    · obtain ⟨y, hf, hi⟩ := pm_iter_s hf
      have hf : tX16_constantly_8 x0 x1 x2 x3 x4 x5 h = some y := hf
      unfold tX16_constantly_8 at hf
      refine pm_aload_n C dX16_constantly_8 rfl rfl ?_
      obtain ⟨k1, hf⟩ := pm_if hf
      obtain ⟨v2, e3, hf⟩ := pm_bd hf
      refine pm_getR C dX16_constantly_9 flX16_221 rfl k1 e3 ?_
      refine pm_iload_n C dX16_constantly_12 rfl rfl ?_
      obtain ⟨k4, hf⟩ := pm_if hf
      obtain ⟨v5, e6, hf⟩ := pm_bd hf
      refine pt_callV (as := [.int x3]) (st := []) C X dX16_constantly_13 lnX16_261 myX14_at viX14_at ⟨by decide, by decide⟩ rfl rfl k4 (Nat.le_of_ble_eq_true rfl) (Nat.le_refl _) (Nat.le_refl _) (ctX14_at e6 ?_)
      show pm_G g 16 [(0, .ref x0), (1, .int x1), (2, .int x2), (3, .int x3), (4, .int x4), (5, .int x5)] [.int v5] h 0 0
      refine pm_bipush (v := 11) C dX16_constantly_16 (by decide) ?_
      refine pm_icmp_eq (tgt := 52) C dX16_constantly_18 (by decide) (fun c7 => ?_) (fun c7 => ?_)
      · have hf := pm_it hf c7
        refine pm_iload_n C dX16_constantly_52 rfl rfl ?_
        refine pm_istore (lv' := [(6, .int x3), (0, .ref x0), (1, .int x1), (2, .int x2), (3, .int x3), (4, .int x4), (5, .int x5)]) C dX16_constantly_53 (pt_nl X (by decide)) rfl ?_
        refine pm_iload_n C dX16_constantly_55 rfl rfl ?_
        refine pm_istore_n (lv' := [(3, .int x1), (6, .int x3), (0, .ref x0), (1, .int x1), (2, .int x2), (4, .int x4), (5, .int x5)]) C dX16_constantly_56 rfl (pt_nl X (by decide)) rfl ?_
        cases hf
        exact pm_sub [2, 4, 0, 5, 6, 1] rfl (ih.2 x0 x2 x1 x4 x5 x3 h hi)
      · have hf := pm_ie hf c7
        refine pm_aload_n C dX16_constantly_21 rfl rfl ?_
        refine pm_iload_n C dX16_constantly_22 rfl rfl ?_
        obtain ⟨v8, e9, hf⟩ := pm_bd hf
        refine pt_callV (as := [.int x3]) (st := []) C X dX16_constantly_23 lnX16_673 myX16_constantType viX16_constantType ⟨by decide, by decide⟩ rfl rfl k1 (Nat.le_of_ble_eq_true rfl) (Nat.le_refl _) (Nat.le_refl _) (ctX16_constantType e9 ?_)
        show pm_G g 26 [(0, .ref x0), (1, .int x1), (2, .int x2), (3, .int x3), (4, .int x4), (5, .int x5)] [.int v8.1] v8.2 0 0
        refine pm_istore (lv' := [(5, .int v8.1), (0, .ref x0), (1, .int x1), (2, .int x2), (3, .int x3), (4, .int x4)]) C dX16_constantly_26 (pt_nl X (by decide)) rfl ?_
        refine pm_iload C dX16_constantly_28 rfl ?_
        refine pm_if_ne (tgt := 40) C dX16_constantly_30 (by decide) (fun c10 => ?_) (fun c10 => ?_)
        · have hf := pm_ie hf c10
          obtain ⟨y11, e12, hf⟩ := pm_lt hf
          refine pm_iinc (v := y11) (lv' := [(4, .int y11), (5, .int v8.1), (0, .ref x0), (1, .int x1), (2, .int x2), (3, .int x3)]) C dX16_constantly_40 rfl ((congrArg (x4 + ·) (by decide : Int32.ofInt 1 = 1)).trans e12) (pt_nl X (by decide)) rfl ?_
          refine pm_aload_n C dX16_constantly_43 rfl rfl ?_
          refine pm_iload_n C dX16_constantly_44 rfl rfl ?_
          obtain ⟨k13, hf⟩ := pm_if hf
          obtain ⟨v14, e15, hf⟩ := pm_bd hf
          refine pt_callV (as := [.int x3]) (st := []) C X dX16_constantly_45 lnX16_655 myX16_behind viX16_behind ⟨by decide, by decide⟩ rfl rfl k13 (Nat.le_of_ble_eq_true rfl) (Nat.le_refl _) (Nat.le_refl _) (ctX16_behind e15 ?_)
          show pm_G g 48 [(4, .int y11), (5, .int v8.1), (0, .ref x0), (1, .int x1), (2, .int x2), (3, .int x3)] [.int v14.1] v14.2 0 0
          refine pm_istore_n (lv' := [(3, .int v14.1), (4, .int y11), (5, .int v8.1), (0, .ref x0), (1, .int x1), (2, .int x2)]) C dX16_constantly_48 rfl (pt_nl X (by decide)) rfl ?_
          refine pm_goto (tgt := 8) C dX16_constantly_49 (by decide) ?_
          cases hf
          exact pm_sub [3, 4, 5, 0, 1, 2] rfl (ih.1 x0 x1 x2 v14.1 y11 v8.1 v14.2 hi)
        · have hf := pm_it hf c10
          refine pm_aload_n C dX16_constantly_33 rfl rfl ?_
          refine pm_bipush (v := 26) C dX16_constantly_34 (by decide) ?_
          refine pm_iload_n C dX16_constantly_36 rfl rfl ?_
          obtain ⟨k16, hf⟩ := pm_if hf
          obtain ⟨v17, e18, hf⟩ := pm_bd hf
          refine pt_callVT (as := [.int 26, .int x3]) (st := []) C X dX16_constantly_37 ltX16_257 myX16_stops viX16_stops ⟨by decide, by decide⟩ rfl rfl k16 (Nat.le_of_ble_eq_true rfl) (Nat.le_refl _) (Nat.le_refl _) (ctX16_stops e18 ?_)
          rcases v17 with z20 | w19
          · have hf := pt_sl hf
            cases hf
            cases hi
            exact q
          have hf := pt_sr hf
          show pm_G g 40 [(5, .int v8.1), (0, .ref x0), (1, .int x1), (2, .int x2), (3, .int x3), (4, .int x4)] [] w19 0 0
          obtain ⟨y21, e22, hf⟩ := pm_lt hf
          refine pm_iinc (v := y21) (lv' := [(4, .int y21), (5, .int v8.1), (0, .ref x0), (1, .int x1), (2, .int x2), (3, .int x3)]) C dX16_constantly_40 rfl ((congrArg (x4 + ·) (by decide : Int32.ofInt 1 = 1)).trans e22) (pt_nl X (by decide)) rfl ?_
          refine pm_aload_n C dX16_constantly_43 rfl rfl ?_
          refine pm_iload_n C dX16_constantly_44 rfl rfl ?_
          obtain ⟨k23, hf⟩ := pm_if hf
          obtain ⟨v24, e25, hf⟩ := pm_bd hf
          refine pt_callV (as := [.int x3]) (st := []) C X dX16_constantly_45 lnX16_655 myX16_behind viX16_behind ⟨by decide, by decide⟩ rfl rfl k23 (Nat.le_of_ble_eq_true rfl) (Nat.le_refl _) (Nat.le_refl _) (ctX16_behind e25 ?_)
          show pm_G g 48 [(4, .int y21), (5, .int v8.1), (0, .ref x0), (1, .int x1), (2, .int x2), (3, .int x3)] [.int v24.1] v24.2 0 0
          refine pm_istore_n (lv' := [(3, .int v24.1), (4, .int y21), (5, .int v8.1), (0, .ref x0), (1, .int x1), (2, .int x2)]) C dX16_constantly_48 rfl (pt_nl X (by decide)) rfl ?_
          refine pm_goto (tgt := 8) C dX16_constantly_49 (by decide) ?_
          cases hf
          exact pm_sub [3, 4, 5, 0, 1, 2] rfl (ih.1 x0 x1 x2 v24.1 y21 v8.1 v24.2 hi)
    refine fun x0 x2 x3 x4 x5 x6 h hf => ?_
    obtain ⟨y, hf, hi⟩ := pm_iter_s hf
    have hf : tX16_constantly_57 x0 x2 x3 x4 x5 x6 h = some y := hf
    unfold tX16_constantly_57 at hf
    refine pm_iload_n C dX16_constantly_57 rfl rfl ?_
    refine pm_iload C dX16_constantly_58 rfl ?_
    refine pm_icmp_ge (tgt := 117) C dX16_constantly_60 (by decide) (fun c26 => ?_) (fun c26 => ?_)
    · have hf := pm_it hf c26
      refine pm_iload C dX16_constantly_117 rfl ?_
      refine pm_iconst (v := 1) C dX16_constantly_119 (by decide) ?_
      refine pm_icmp_ne (tgt := 129) C dX16_constantly_120 (by decide) (fun c27 => ?_) (fun c27 => ?_)
      · have hf := pm_ie hf c27
        refine pm_aload_n C dX16_constantly_129 rfl rfl ?_
        refine pm_bipush (v := 27) C dX16_constantly_130 (by decide) ?_
        refine pm_iload C dX16_constantly_132 rfl ?_
        obtain ⟨k28, hf⟩ := pm_if hf
        obtain ⟨v29, e30, hf⟩ := pm_bd hf
        refine pt_callVT (as := [.int 27, .int x6]) (st := []) C X dX16_constantly_134 ltX16_257 myX16_stops viX16_stops ⟨by decide, by decide⟩ rfl rfl k28 (Nat.le_of_ble_eq_true rfl) (Nat.le_refl _) (Nat.le_refl _) (ctX16_stops e30 ?_)
        rcases v29 with z32 | w31
        · have hf := pt_sl hf
          cases hf
          cases hi
          exact q
        have hf := pt_sr hf
        show pm_G g 137 [(0, .ref x0), (2, .int x2), (3, .int x3), (4, .int x4), (5, .int x5), (6, .int x6)] [] w31 0 0
        refine pm_aload_n C dX16_constantly_137 rfl rfl ?_
        refine pm_iload C dX16_constantly_138 rfl ?_
        refine pm_iconst (v := 1) C dX16_constantly_140 (by decide) ?_
        refine pm_iadd C dX16_constantly_141 ?_
        obtain ⟨y33, e34, hf⟩ := pm_lt hf
        refine pm_topI e34 ?_
        obtain ⟨k35, hf⟩ := pm_if hf
        refine pm_putI C dX16_constantly_142 flX16_594 rfl rfl k35 rfl rfl ?_
        cases hf
        cases hi
        exact pt_vret C X dX16_constantly_145 rfl (Nat.le_refl _) (Nat.le_refl _) q
      · have hf := pm_it hf c27
        refine pm_iload C dX16_constantly_123 rfl ?_
        refine pm_iload_n C dX16_constantly_125 rfl rfl ?_
        refine pm_icmp_eq (tgt := 137) C dX16_constantly_126 (by decide) (fun c36 => ?_) (fun c36 => ?_)
        · have hf := pm_it hf c36
          refine pm_aload_n C dX16_constantly_137 rfl rfl ?_
          refine pm_iload C dX16_constantly_138 rfl ?_
          refine pm_iconst (v := 1) C dX16_constantly_140 (by decide) ?_
          refine pm_iadd C dX16_constantly_141 ?_
          obtain ⟨y37, e38, hf⟩ := pm_lt hf
          refine pm_topI e38 ?_
          obtain ⟨k39, hf⟩ := pm_if hf
          refine pm_putI C dX16_constantly_142 flX16_594 rfl rfl k39 rfl rfl ?_
          cases hf
          cases hi
          exact pt_vret C X dX16_constantly_145 rfl (Nat.le_refl _) (Nat.le_refl _) q
        · have hf := pm_ie hf c36
          refine pm_aload_n C dX16_constantly_129 rfl rfl ?_
          refine pm_bipush (v := 27) C dX16_constantly_130 (by decide) ?_
          refine pm_iload C dX16_constantly_132 rfl ?_
          obtain ⟨k40, hf⟩ := pm_if hf
          obtain ⟨v41, e42, hf⟩ := pm_bd hf
          refine pt_callVT (as := [.int 27, .int x6]) (st := []) C X dX16_constantly_134 ltX16_257 myX16_stops viX16_stops ⟨by decide, by decide⟩ rfl rfl k40 (Nat.le_of_ble_eq_true rfl) (Nat.le_refl _) (Nat.le_refl _) (ctX16_stops e42 ?_)
          rcases v41 with z44 | w43
          · have hf := pt_sl hf
            cases hf
            cases hi
            exact q
          have hf := pt_sr hf
          show pm_G g 137 [(0, .ref x0), (2, .int x2), (3, .int x3), (4, .int x4), (5, .int x5), (6, .int x6)] [] w43 0 0
          refine pm_aload_n C dX16_constantly_137 rfl rfl ?_
          refine pm_iload C dX16_constantly_138 rfl ?_
          refine pm_iconst (v := 1) C dX16_constantly_140 (by decide) ?_
          refine pm_iadd C dX16_constantly_141 ?_
          obtain ⟨y45, e46, hf⟩ := pm_lt hf
          refine pm_topI e46 ?_
          obtain ⟨k47, hf⟩ := pm_if hf
          refine pm_putI C dX16_constantly_142 flX16_594 rfl rfl k47 rfl rfl ?_
          cases hf
          cases hi
          exact pt_vret C X dX16_constantly_145 rfl (Nat.le_refl _) (Nat.le_refl _) q
    · have hf := pm_ie hf c26
      refine pm_aload_n C dX16_constantly_63 rfl rfl ?_
      refine pm_iload_n C dX16_constantly_64 rfl rfl ?_
      refine pm_iconst (v := 1) C dX16_constantly_65 (by decide) ?_
      refine pm_iadd C dX16_constantly_66 ?_
      obtain ⟨y48, e49, hf⟩ := pm_lt hf
      refine pm_topI e49 ?_
      obtain ⟨k50, hf⟩ := pm_if hf
      refine pm_putI C dX16_constantly_67 flX16_594 rfl rfl k50 rfl rfl ?_
      refine pm_aload_n C dX16_constantly_70 rfl rfl ?_
      obtain ⟨v51, e52, hf⟩ := pm_bd hf
      refine pm_getR C dX16_constantly_71 flX16_221 rfl k50 e52 ?_
      refine pm_iload_n C dX16_constantly_74 rfl rfl ?_
      obtain ⟨k53, hf⟩ := pm_if hf
      obtain ⟨v54, e55, hf⟩ := pm_bd hf
      refine pt_callV (as := [.int x3]) (st := []) C X dX16_constantly_75 lnX16_261 myX14_at viX14_at ⟨by decide, by decide⟩ rfl rfl k53 (Nat.le_of_ble_eq_true rfl) (Nat.le_refl _) (Nat.le_refl _) (ctX14_at e55 ?_)
      show pm_G g 78 [(0, .ref x0), (2, .int x2), (3, .int x3), (4, .int x4), (5, .int x5), (6, .int x6)] [.int v54] (pm_setI h x0 19 y48) 0 0
      refine pm_sipush (v := 210) C dX16_constantly_78 (by decide) ?_
      refine pm_icmp_ne (tgt := 108) C dX16_constantly_81 (by decide) (fun c56 => ?_) (fun c56 => ?_)
      · have hf := pm_ie hf c56
        refine pm_aload_n C dX16_constantly_108 rfl rfl ?_
        refine pm_iload_n C dX16_constantly_109 rfl rfl ?_
        obtain ⟨v57, e58, hf⟩ := pm_bd hf
        refine pt_callV (as := [.int x3]) (st := []) C X dX16_constantly_110 lnX16_655 myX16_behind viX16_behind ⟨by decide, by decide⟩ rfl rfl k50 (Nat.le_of_ble_eq_true rfl) (Nat.le_refl _) (Nat.le_refl _) (ctX16_behind e58 ?_)
        show pm_G g 113 [(0, .ref x0), (2, .int x2), (3, .int x3), (4, .int x4), (5, .int x5), (6, .int x6)] [.int v57.1] v57.2 0 0
        refine pm_istore_n (lv' := [(3, .int v57.1), (0, .ref x0), (2, .int x2), (4, .int x4), (5, .int x5), (6, .int x6)]) C dX16_constantly_113 rfl (pt_nl X (by decide)) rfl ?_
        refine pm_goto (tgt := 57) C dX16_constantly_114 (by decide) ?_
        cases hf
        exact pm_sub [1, 2, 0, 3, 4, 5] rfl (ih.2 x0 x2 v57.1 x4 x5 x6 v57.2 hi)
      · have hf := pm_it hf c56
        refine pm_aload_n C dX16_constantly_84 rfl rfl ?_
        obtain ⟨v59, e60, hf⟩ := pm_bd hf
        refine pt_callV (as := []) (st := []) C X dX16_constantly_85 lnX16_603 myX16_word viX16_word ⟨by decide, by decide⟩ rfl rfl k50 (Nat.le_of_ble_eq_true rfl) (Nat.le_refl _) (Nat.le_refl _) (ctX16_word e60 ?_)
        show pm_G g 88 [(0, .ref x0), (2, .int x2), (3, .int x3), (4, .int x4), (5, .int x5), (6, .int x6)] [.long v59.1] v59.2 0 0
        refine pm_aload_n C dX16_constantly_88 rfl rfl ?_
        obtain ⟨k61, hf⟩ := pm_if hf
        obtain ⟨v62, e63, hf⟩ := pm_bd hf
        refine pm_getR C dX16_constantly_89 flX16_221 rfl k61 e63 ?_
        refine pm_iconst (v := 0) C dX16_constantly_92 (by decide) ?_
        obtain ⟨k64, hf⟩ := pm_if hf
        obtain ⟨v65, e66, hf⟩ := pm_bd hf
        refine pt_callV (as := [.int 0]) (st := [.long v59.1]) C X dX16_constantly_93 lnX16_615 myX14_all viX14_all ⟨by decide, by decide⟩ rfl rfl k64 (Nat.le_of_ble_eq_true rfl) (Nat.le_refl _) (Nat.le_refl _) (ctX14_all e66 ?_)
        show pm_G g 96 [(0, .ref x0), (2, .int x2), (3, .int x3), (4, .int x4), (5, .int x5), (6, .int x6)] [.int v65, .long v59.1] v59.2 0 0
        refine pm_i2l C dX16_constantly_96 ?_
        refine pm_lcmp C dX16_constantly_97 ?_
        refine pm_if_lt (tgt := 108) C dX16_constantly_98 (by decide) (fun c67 => ?_) (fun c67 => ?_)
        · have hf := pm_it hf ((pm_lg_lt _ _).mp c67)
          refine pm_aload_n C dX16_constantly_108 rfl rfl ?_
          refine pm_iload_n C dX16_constantly_109 rfl rfl ?_
          obtain ⟨v68, e69, hf⟩ := pm_bd hf
          refine pt_callV (as := [.int x3]) (st := []) C X dX16_constantly_110 lnX16_655 myX16_behind viX16_behind ⟨by decide, by decide⟩ rfl rfl k61 (Nat.le_of_ble_eq_true rfl) (Nat.le_refl _) (Nat.le_refl _) (ctX16_behind e69 ?_)
          show pm_G g 113 [(0, .ref x0), (2, .int x2), (3, .int x3), (4, .int x4), (5, .int x5), (6, .int x6)] [.int v68.1] v68.2 0 0
          refine pm_istore_n (lv' := [(3, .int v68.1), (0, .ref x0), (2, .int x2), (4, .int x4), (5, .int x5), (6, .int x6)]) C dX16_constantly_113 rfl (pt_nl X (by decide)) rfl ?_
          refine pm_goto (tgt := 57) C dX16_constantly_114 (by decide) ?_
          cases hf
          exact pm_sub [1, 2, 0, 3, 4, 5] rfl (ih.2 x0 x2 v68.1 x4 x5 x6 v68.2 hi)
        · have hf := pm_ie hf ((fun z => c67 ((pm_lg_lt _ _).mpr z)))
          refine pm_aload_n C dX16_constantly_101 rfl rfl ?_
          refine pm_bipush (v := 28) C dX16_constantly_102 (by decide) ?_
          refine pm_iload_n C dX16_constantly_104 rfl rfl ?_
          obtain ⟨v70, e71, hf⟩ := pm_bd hf
          refine pt_callVT (as := [.int 28, .int x3]) (st := []) C X dX16_constantly_105 ltX16_257 myX16_stops viX16_stops ⟨by decide, by decide⟩ rfl rfl k61 (Nat.le_of_ble_eq_true rfl) (Nat.le_refl _) (Nat.le_refl _) (ctX16_stops e71 ?_)
          rcases v70 with z73 | w72
          · have hf := pt_sl hf
            cases hf
            cases hi
            exact q
          have hf := pt_sr hf
          show pm_G g 108 [(0, .ref x0), (2, .int x2), (3, .int x3), (4, .int x4), (5, .int x5), (6, .int x6)] [] w72 0 0
          refine pm_aload_n C dX16_constantly_108 rfl rfl ?_
          refine pm_iload_n C dX16_constantly_109 rfl rfl ?_
          obtain ⟨k74, hf⟩ := pm_if hf
          obtain ⟨v75, e76, hf⟩ := pm_bd hf
          refine pt_callV (as := [.int x3]) (st := []) C X dX16_constantly_110 lnX16_655 myX16_behind viX16_behind ⟨by decide, by decide⟩ rfl rfl k74 (Nat.le_of_ble_eq_true rfl) (Nat.le_refl _) (Nat.le_refl _) (ctX16_behind e76 ?_)
          show pm_G g 113 [(0, .ref x0), (2, .int x2), (3, .int x3), (4, .int x4), (5, .int x5), (6, .int x6)] [.int v75.1] v75.2 0 0
          refine pm_istore_n (lv' := [(3, .int v75.1), (0, .ref x0), (2, .int x2), (4, .int x4), (5, .int x5), (6, .int x6)]) C dX16_constantly_113 rfl (pt_nl X (by decide)) rfl ?_
          refine pm_goto (tgt := 57) C dX16_constantly_114 (by decide) ?_
          cases hf
          exact pm_sub [1, 2, 0, 3, 4, 5] rfl (ih.2 x0 x2 v75.1 x4 x5 x6 v75.2 hi)
set_option maxHeartbeats 4000000 in
set_option maxRecDepth 100000 in
theorem ctX16_constantly {l : Launch} {G : pm_Gl} {h : pm_H} {a0 : Nat} {p1 : Int32} {p2 : Int32} {r : ((Nat × pm_H) ⊕ pm_H)} {Qr : Option Value → pm_H → Prop} {Qt : Nat → pm_H → Prop} (hf : fX16_constantly h a0 p1 p2 = some r) (q : pt_eV Qr Qt r) : pm_Ctt l G mX16_constantly [.ref a0, .int p1, .int p2] h 0 0 Qr Qt := by
  refine pm_bodyT pnX16 (Nat.le_of_ble_eq_true rfl) (fun g C X => ?_)
  have C : pm_C g cX16_constantly RX16 := C
  show pm_G g 0 [(0, .ref a0), (1, .int p1), (2, .int p2)] [] h 0 0
  unfold fX16_constantly at hf
  refine pm_iload_n C dX16_constantly_0 rfl rfl ?_
  refine pm_istore_n (lv' := [(3, .int p1), (0, .ref a0), (1, .int p1), (2, .int p2)]) C dX16_constantly_1 rfl (pt_nl X (by decide)) rfl ?_
  refine pm_iconst (v := 0) C dX16_constantly_2 (by decide) ?_
  refine pm_istore (lv' := [(4, .int 0), (3, .int p1), (0, .ref a0), (1, .int p1), (2, .int p2)]) C dX16_constantly_3 (pt_nl X (by decide)) rfl ?_
  refine pm_iconst (v := 0) C dX16_constantly_5 (by decide) ?_
  refine pm_istore (lv' := [(5, .int 0), (4, .int 0), (3, .int p1), (0, .ref a0), (1, .int p1), (2, .int p2)]) C dX16_constantly_6 (pt_nl X (by decide)) rfl ?_
  obtain ⟨n, hn⟩ := pm_lim_iter hf
  exact pm_sub [3, 4, 5, 2, 1, 0] rfl ((lpX16_constantly C X q n).1 a0 p1 p2 p1 0 0 h hn)
theorem dX16_next_0 : decode cX16_next 0 = .ok (.aload_n 0, 1) := by decide +kernel
theorem dX16_next_1 : decode cX16_next 1 = .ok (.getfield 251, 3) := by decide +kernel
theorem dX16_next_4 : decode cX16_next 4 = .ok (.aload_n 0, 1) := by decide +kernel
theorem dX16_next_5 : decode cX16_next 5 = .ok (.getfield 254, 3) := by decide +kernel
theorem dX16_next_8 : decode cX16_next 8 = .ok (.if_icmp .lt 12, 3) := by decide +kernel
theorem dX16_next_11 : decode cX16_next 11 = .ok (.aload_n 0, 1) := by decide +kernel
theorem dX16_next_12 : decode cX16_next 12 = .ok (.iconst 1, 1) := by decide +kernel
theorem dX16_next_13 : decode cX16_next 13 = .ok (.aload_n 0, 1) := by decide +kernel
theorem dX16_next_14 : decode cX16_next 14 = .ok (.getfield 254, 3) := by decide +kernel
theorem dX16_next_17 : decode cX16_next 17 = .ok (.invokevirtual 257, 3) := by decide +kernel
theorem dX16_next_20 : decode cX16_next 20 = .ok (.aload_n 0, 1) := by decide +kernel
theorem dX16_next_21 : decode cX16_next 21 = .ok (.dup, 1) := by decide +kernel
theorem dX16_next_22 : decode cX16_next 22 = .ok (.getfield 251, 3) := by decide +kernel
theorem dX16_next_25 : decode cX16_next 25 = .ok (.iconst 1, 1) := by decide +kernel
theorem dX16_next_26 : decode cX16_next 26 = .ok (.iadd, 1) := by decide +kernel
theorem dX16_next_27 : decode cX16_next 27 = .ok (.putfield 251, 3) := by decide +kernel
theorem dX16_next_30 : decode cX16_next 30 = .ok (.aload_n 0, 1) := by decide +kernel
theorem dX16_next_31 : decode cX16_next 31 = .ok (.getfield 221, 3) := by decide +kernel
theorem dX16_next_34 : decode cX16_next 34 = .ok (.aload_n 0, 1) := by decide +kernel
theorem dX16_next_35 : decode cX16_next 35 = .ok (.getfield 251, 3) := by decide +kernel
theorem dX16_next_38 : decode cX16_next 38 = .ok (.iconst 1, 1) := by decide +kernel
theorem dX16_next_39 : decode cX16_next 39 = .ok (.isub, 1) := by decide +kernel
theorem dX16_next_40 : decode cX16_next 40 = .ok (.invokevirtual 261, 3) := by decide +kernel
theorem dX16_next_43 : decode cX16_next 43 = .ok (.ireturn, 1) := by decide +kernel
def fX16_next (h : pm_H) (a0 : Nat) : Option ((Nat × pm_H) ⊕ (Int32 × pm_H)) := if pm_kd h a0 = 16 then if (pm_I h a0 11) < (pm_I h a0 12) then (pm_let ((pm_I h a0 11) + 1) fun y3 => (pm_R (pm_setI h a0 11 y3) a0 10).bind fun v5 => if pm_kd (pm_setI h a0 11 y3) v5 = 14 then (fX14_at (pm_setI h a0 11 y3) v5 ((pm_I (pm_setI h a0 11 y3) a0 11) - 1)).bind fun v8 => some (.inr (v8, pm_setI h a0 11 y3)) else none) else ((fX16_stops h a0 1 (pm_I h a0 12)).bind fun v10 => pt_k v10 fun w12 => if pm_kd w12 a0 = 16 then pm_let ((pm_I w12 a0 11) + 1) fun y15 => (pm_R (pm_setI w12 a0 11 y15) a0 10).bind fun v17 => if pm_kd (pm_setI w12 a0 11 y15) v17 = 14 then (fX14_at (pm_setI w12 a0 11 y15) v17 ((pm_I (pm_setI w12 a0 11 y15) a0 11) - 1)).bind fun v20 => some (.inr (v20, pm_setI w12 a0 11 y15)) else none else none) else none
set_option maxHeartbeats 4000000 in
set_option maxRecDepth 100000 in
theorem ctX16_next {l : Launch} {G : pm_Gl} {h : pm_H} {a0 : Nat} {r : ((Nat × pm_H) ⊕ (Int32 × pm_H))} {Qr : Option Value → pm_H → Prop} {Qt : Nat → pm_H → Prop} (hf : fX16_next h a0 = some r) (q : pt_eI Qr Qt r) : pm_Ctt l G mX16_next [.ref a0] h 0 0 Qr Qt := by
  refine pm_bodyT pnX16 (Nat.le_of_ble_eq_true rfl) (fun g C X => ?_)
  have C : pm_C g cX16_next RX16 := C
  show pm_G g 0 [(0, .ref a0)] [] h 0 0
  unfold fX16_next at hf
  refine pm_aload_n C dX16_next_0 rfl rfl ?_
  obtain ⟨k1, hf⟩ := pm_if hf
  refine pm_getI C dX16_next_1 flX16_251 rfl k1 rfl ?_
  refine pm_aload_n C dX16_next_4 rfl rfl ?_
  refine pm_getI C dX16_next_5 flX16_254 rfl k1 rfl ?_
  refine pm_icmp_lt (tgt := 20) C dX16_next_8 (by decide) (fun c2 => ?_) (fun c2 => ?_)
  · have hf := pm_it hf c2
    refine pm_aload_n C dX16_next_20 rfl rfl ?_
    refine pm_dup C dX16_next_21 rfl ?_
    refine pm_getI C dX16_next_22 flX16_251 rfl k1 rfl ?_
    refine pm_iconst (v := 1) C dX16_next_25 (by decide) ?_
    refine pm_iadd C dX16_next_26 ?_
    obtain ⟨y3, e4, hf⟩ := pm_lt hf
    refine pm_topI e4 ?_
    refine pm_putI C dX16_next_27 flX16_251 rfl rfl k1 rfl rfl ?_
    refine pm_aload_n C dX16_next_30 rfl rfl ?_
    obtain ⟨v5, e6, hf⟩ := pm_bd hf
    refine pm_getR C dX16_next_31 flX16_221 rfl k1 e6 ?_
    refine pm_aload_n C dX16_next_34 rfl rfl ?_
    refine pm_getI C dX16_next_35 flX16_251 rfl k1 rfl ?_
    refine pm_iconst (v := 1) C dX16_next_38 (by decide) ?_
    refine pm_isub C dX16_next_39 ?_
    obtain ⟨k7, hf⟩ := pm_if hf
    obtain ⟨v8, e9, hf⟩ := pm_bd hf
    refine pt_callV (as := [.int ((pm_I (pm_setI h a0 11 y3) a0 11) - 1)]) (st := []) C X dX16_next_40 lnX16_261 myX14_at viX14_at ⟨by decide, by decide⟩ rfl rfl k7 (Nat.le_of_ble_eq_true rfl) (Nat.le_refl _) (Nat.le_refl _) (ctX14_at e9 ?_)
    show pm_G g 43 [(0, .ref a0)] [.int v8] (pm_setI h a0 11 y3) 0 0
    cases hf
    exact pt_iret C X dX16_next_43 rfl (Nat.le_refl _) (Nat.le_refl _) q
  · have hf := pm_ie hf c2
    refine pm_aload_n C dX16_next_11 rfl rfl ?_
    refine pm_iconst (v := 1) C dX16_next_12 (by decide) ?_
    refine pm_aload_n C dX16_next_13 rfl rfl ?_
    refine pm_getI C dX16_next_14 flX16_254 rfl k1 rfl ?_
    obtain ⟨v10, e11, hf⟩ := pm_bd hf
    refine pt_callVT (as := [.int 1, .int (pm_I h a0 12)]) (st := []) C X dX16_next_17 ltX16_257 myX16_stops viX16_stops ⟨by decide, by decide⟩ rfl rfl k1 (Nat.le_of_ble_eq_true rfl) (Nat.le_refl _) (Nat.le_refl _) (ctX16_stops e11 ?_)
    rcases v10 with z13 | w12
    · have hf := pt_kl hf
      cases hf
      exact q
    have hf := pt_kr hf
    show pm_G g 20 [(0, .ref a0)] [] w12 0 0
    refine pm_aload_n C dX16_next_20 rfl rfl ?_
    refine pm_dup C dX16_next_21 rfl ?_
    obtain ⟨k14, hf⟩ := pm_if hf
    refine pm_getI C dX16_next_22 flX16_251 rfl k14 rfl ?_
    refine pm_iconst (v := 1) C dX16_next_25 (by decide) ?_
    refine pm_iadd C dX16_next_26 ?_
    obtain ⟨y15, e16, hf⟩ := pm_lt hf
    refine pm_topI e16 ?_
    refine pm_putI C dX16_next_27 flX16_251 rfl rfl k14 rfl rfl ?_
    refine pm_aload_n C dX16_next_30 rfl rfl ?_
    obtain ⟨v17, e18, hf⟩ := pm_bd hf
    refine pm_getR C dX16_next_31 flX16_221 rfl k14 e18 ?_
    refine pm_aload_n C dX16_next_34 rfl rfl ?_
    refine pm_getI C dX16_next_35 flX16_251 rfl k14 rfl ?_
    refine pm_iconst (v := 1) C dX16_next_38 (by decide) ?_
    refine pm_isub C dX16_next_39 ?_
    obtain ⟨k19, hf⟩ := pm_if hf
    obtain ⟨v20, e21, hf⟩ := pm_bd hf
    refine pt_callV (as := [.int ((pm_I (pm_setI w12 a0 11 y15) a0 11) - 1)]) (st := []) C X dX16_next_40 lnX16_261 myX14_at viX14_at ⟨by decide, by decide⟩ rfl rfl k19 (Nat.le_of_ble_eq_true rfl) (Nat.le_refl _) (Nat.le_refl _) (ctX14_at e21 ?_)
    show pm_G g 43 [(0, .ref a0)] [.int v20] (pm_setI w12 a0 11 y15) 0 0
    cases hf
    exact pt_iret C X dX16_next_43 rfl (Nat.le_refl _) (Nat.le_refl _) q
theorem dX16_number_0 : decode cX16_number 0 = .ok (.lconst 0, 1) := by decide +kernel
theorem dX16_number_1 : decode cX16_number 1 = .ok (.lstore_n 1, 1) := by decide +kernel
theorem dX16_number_2 : decode cX16_number 2 = .ok (.iconst 0, 1) := by decide +kernel
theorem dX16_number_3 : decode cX16_number 3 = .ok (.istore_n 3, 1) := by decide +kernel
theorem dX16_number_4 : decode cX16_number 4 = .ok (.iload_n 3, 1) := by decide +kernel
theorem dX16_number_5 : decode cX16_number 5 = .ok (.iconst 5, 1) := by decide +kernel
theorem dX16_number_6 : decode cX16_number 6 = .ok (.if_icmp .ge 62, 3) := by decide +kernel
theorem dX16_number_9 : decode cX16_number 9 = .ok (.aload_n 0, 1) := by decide +kernel
theorem dX16_number_10 : decode cX16_number 10 = .ok (.invokevirtual 264, 3) := by decide +kernel
theorem dX16_number_13 : decode cX16_number 13 = .ok (.istore 4, 2) := by decide +kernel
theorem dX16_number_15 : decode cX16_number 15 = .ok (.iload_n 3, 1) := by decide +kernel
theorem dX16_number_16 : decode cX16_number 16 = .ok (.iconst 4, 1) := by decide +kernel
theorem dX16_number_17 : decode cX16_number 17 = .ok (.if_icmp .ne 21, 3) := by decide +kernel
theorem dX16_number_20 : decode cX16_number 20 = .ok (.iload 4, 2) := by decide +kernel
theorem dX16_number_22 : decode cX16_number 22 = .ok (.bipush 15, 2) := by decide +kernel
theorem dX16_number_24 : decode cX16_number 24 = .ok (.if_icmp .le 14, 3) := by decide +kernel
theorem dX16_number_27 : decode cX16_number 27 = .ok (.aload_n 0, 1) := by decide +kernel
theorem dX16_number_28 : decode cX16_number 28 = .ok (.iconst 4, 1) := by decide +kernel
theorem dX16_number_29 : decode cX16_number 29 = .ok (.aload_n 0, 1) := by decide +kernel
theorem dX16_number_30 : decode cX16_number 30 = .ok (.getfield 251, 3) := by decide +kernel
theorem dX16_number_33 : decode cX16_number 33 = .ok (.iconst 1, 1) := by decide +kernel
theorem dX16_number_34 : decode cX16_number 34 = .ok (.isub, 1) := by decide +kernel
theorem dX16_number_35 : decode cX16_number 35 = .ok (.invokevirtual 257, 3) := by decide +kernel
theorem dX16_number_38 : decode cX16_number 38 = .ok (.lload_n 1, 1) := by decide +kernel
theorem dX16_number_39 : decode cX16_number 39 = .ok (.iload 4, 2) := by decide +kernel
theorem dX16_number_41 : decode cX16_number 41 = .ok (.bipush 127, 2) := by decide +kernel
theorem dX16_number_43 : decode cX16_number 43 = .ok (.iand, 1) := by decide +kernel
theorem dX16_number_44 : decode cX16_number 44 = .ok (.i2l, 1) := by decide +kernel
theorem dX16_number_45 : decode cX16_number 45 = .ok (.bipush 7, 2) := by decide +kernel
theorem dX16_number_47 : decode cX16_number 47 = .ok (.iload_n 3, 1) := by decide +kernel
theorem dX16_number_48 : decode cX16_number 48 = .ok (.imul, 1) := by decide +kernel
theorem dX16_number_49 : decode cX16_number 49 = .ok (.lshl, 1) := by decide +kernel
theorem dX16_number_50 : decode cX16_number 50 = .ok (.lor, 1) := by decide +kernel
theorem dX16_number_51 : decode cX16_number 51 = .ok (.lstore_n 1, 1) := by decide +kernel
theorem dX16_number_52 : decode cX16_number 52 = .ok (.iload 4, 2) := by decide +kernel
theorem dX16_number_54 : decode cX16_number 54 = .ok (.sipush 128, 3) := by decide +kernel
theorem dX16_number_57 : decode cX16_number 57 = .ok (.if_icmp .ge 5, 3) := by decide +kernel
theorem dX16_number_60 : decode cX16_number 60 = .ok (.lload_n 1, 1) := by decide +kernel
theorem dX16_number_61 : decode cX16_number 61 = .ok (.lreturn, 1) := by decide +kernel
theorem dX16_number_62 : decode cX16_number 62 = .ok (.iinc 3 1, 3) := by decide +kernel
theorem dX16_number_65 : decode cX16_number 65 = .ok (.goto (-61), 3) := by decide +kernel
theorem dX16_number_68 : decode cX16_number 68 = .ok (.lload_n 1, 1) := by decide +kernel
theorem dX16_number_69 : decode cX16_number 69 = .ok (.lreturn, 1) := by decide +kernel
def tX16_number_4 (x0 : Nat) (x1 : Int64) (x3 : Int32) (h : pm_H) : Option (((Nat × Int64 × Int32 × pm_H) ⊕ (Nat × Int64 × Int32 × Int32 × pm_H)) ⊕ ((Nat × pm_H) ⊕ (Int64 × pm_H))) := if 5 ≤ x3 then (some (.inr (.inr (x1, h)))) else (if pm_kd h x0 = 16 then (fX16_next h x0).bind fun v3 => pt_s v3 fun w5 => if x3 = 4 then (if w5.1 ≤ 15 then (some (.inl (.inr ((x0, x1, x3, w5.1, w5.2))))) else (if pm_kd w5.2 x0 = 16 then (fX16_stops w5.2 x0 4 ((pm_I w5.2 x0 11) - 1)).bind fun v10 => pt_s v10 fun w12 => some (.inl (.inr ((x0, x1, x3, w5.1, w12)))) else none)) else (some (.inl (.inr ((x0, x1, x3, w5.1, w5.2))))) else none)
def tX16_number_38 (x0 : Nat) (x1 : Int64) (x3 : Int32) (x4 : Int32) (h : pm_H) : Option (((Nat × Int64 × Int32 × pm_H) ⊕ (Nat × Int64 × Int32 × Int32 × pm_H)) ⊕ ((Nat × pm_H) ⊕ (Int64 × pm_H))) := pm_let (x1 ||| (((x4 &&& 127).toInt64) <<< ((7 * x3).toInt64 &&& 63))) fun y14 => if 128 ≤ x4 then (pm_let (x3 + 1) fun y17 => some (.inl (.inl ((x0, y14, y17, h))))) else (some (.inr (.inr (y14, h))))
def sX16_number : ((Nat × Int64 × Int32 × pm_H) ⊕ (Nat × Int64 × Int32 × Int32 × pm_H)) → Option (((Nat × Int64 × Int32 × pm_H) ⊕ (Nat × Int64 × Int32 × Int32 × pm_H)) ⊕ ((Nat × pm_H) ⊕ (Int64 × pm_H))) := fun z => match z with
  | .inl (x0, x1, x3, h) => tX16_number_4 x0 x1 x3 h
  | .inr (x0, x1, x3, x4, h) => tX16_number_38 x0 x1 x3 x4 h
noncomputable def fX16_number (h : pm_H) (a0 : Nat) : Option ((Nat × pm_H) ⊕ (Int64 × pm_H)) := pm_lim sX16_number (.inl ((a0, 0, 0, h)))
set_option maxHeartbeats 4000000 in
set_option maxRecDepth 100000 in
theorem lpX16_number {g : pm_Gm} {l : Launch} {G : pm_Gl} {Qr : Option Value → pm_H → Prop} {Qt : Nat → pm_H → Prop} (C : pm_C g cX16_number RX16) (X : pm_XT g l G mX16_number 0 0 Qr Qt) {r : ((Nat × pm_H) ⊕ (Int64 × pm_H))} (q : pt_eJ Qr Qt r) : ∀ n : Nat, (∀ (x0 : Nat) (x1 : Int64) (x3 : Int32) (h : pm_H), pm_iter sX16_number n (.inl (x0, x1, x3, h)) = some r → pm_G g 4 [(0, .ref x0), (1, .long x1), (3, .int x3)] [] h 0 0) ∧ (∀ (x0 : Nat) (x1 : Int64) (x3 : Int32) (x4 : Int32) (h : pm_H), pm_iter sX16_number n (.inr (x0, x1, x3, x4, h)) = some r → pm_G g 38 [(0, .ref x0), (1, .long x1), (3, .int x3), (4, .int x4)] [] h 0 0) := by
  intro n
  induction n with
  | zero => exact ⟨fun _ _ _ _ hf => (by cases hf), fun _ _ _ _ _ hf => (by cases hf)⟩
  | succ n ih =>
    refine ⟨fun x0 x1 x3 h hf => ?_, ?_⟩
    · obtain ⟨y, hf, hi⟩ := pm_iter_s hf
      have hf : tX16_number_4 x0 x1 x3 h = some y := hf
      unfold tX16_number_4 at hf
      refine pm_iload_n C dX16_number_4 rfl rfl ?_
      refine pm_iconst (v := 5) C dX16_number_5 (by decide) ?_
      refine pm_icmp_ge (tgt := 68) C dX16_number_6 (by decide) (fun c1 => ?_) (fun c1 => ?_)
      · have hf := pm_it hf c1
        refine pm_lload_n C dX16_number_68 rfl rfl ?_
        cases hf
        cases hi
        exact pt_lret C X dX16_number_69 rfl (Nat.le_refl _) (Nat.le_refl _) q
      · have hf := pm_ie hf c1
        refine pm_aload_n C dX16_number_9 rfl rfl ?_
        obtain ⟨k2, hf⟩ := pm_if hf
        obtain ⟨v3, e4, hf⟩ := pm_bd hf
        refine pt_callVT (as := []) (st := []) C X dX16_number_10 ltX16_264 myX16_next viX16_next ⟨by decide, by decide⟩ rfl rfl k2 (Nat.le_of_ble_eq_true rfl) (Nat.le_refl _) (Nat.le_refl _) (ctX16_next e4 ?_)
        rcases v3 with z6 | w5
        · have hf := pt_sl hf
          cases hf
          cases hi
          exact q
        have hf := pt_sr hf
        show pm_G g 13 [(0, .ref x0), (1, .long x1), (3, .int x3)] [.int w5.1] w5.2 0 0
        refine pm_istore (lv' := [(4, .int w5.1), (0, .ref x0), (1, .long x1), (3, .int x3)]) C dX16_number_13 (pt_nl X (by decide)) rfl ?_
        refine pm_iload_n C dX16_number_15 rfl rfl ?_
        refine pm_iconst (v := 4) C dX16_number_16 (by decide) ?_
        refine pm_icmp_ne (tgt := 38) C dX16_number_17 (by decide) (fun c7 => ?_) (fun c7 => ?_)
        · have hf := pm_ie hf c7
          cases hf
          exact pm_sub [1, 2, 3, 0] rfl (ih.2 x0 x1 x3 w5.1 w5.2 hi)
        · have hf := pm_it hf c7
          refine pm_iload C dX16_number_20 rfl ?_
          refine pm_bipush (v := 15) C dX16_number_22 (by decide) ?_
          refine pm_icmp_le (tgt := 38) C dX16_number_24 (by decide) (fun c8 => ?_) (fun c8 => ?_)
          · have hf := pm_it hf c8
            cases hf
            exact pm_sub [1, 2, 3, 0] rfl (ih.2 x0 x1 x3 w5.1 w5.2 hi)
          · have hf := pm_ie hf c8
            refine pm_aload_n C dX16_number_27 rfl rfl ?_
            refine pm_iconst (v := 4) C dX16_number_28 (by decide) ?_
            refine pm_aload_n C dX16_number_29 rfl rfl ?_
            obtain ⟨k9, hf⟩ := pm_if hf
            refine pm_getI C dX16_number_30 flX16_251 rfl k9 rfl ?_
            refine pm_iconst (v := 1) C dX16_number_33 (by decide) ?_
            refine pm_isub C dX16_number_34 ?_
            obtain ⟨v10, e11, hf⟩ := pm_bd hf
            refine pt_callVT (as := [.int 4, .int ((pm_I w5.2 x0 11) - 1)]) (st := []) C X dX16_number_35 ltX16_257 myX16_stops viX16_stops ⟨by decide, by decide⟩ rfl rfl k9 (Nat.le_of_ble_eq_true rfl) (Nat.le_refl _) (Nat.le_refl _) (ctX16_stops e11 ?_)
            rcases v10 with z13 | w12
            · have hf := pt_sl hf
              cases hf
              cases hi
              exact q
            have hf := pt_sr hf
            show pm_G g 38 [(4, .int w5.1), (0, .ref x0), (1, .long x1), (3, .int x3)] [] w12 0 0
            cases hf
            exact pm_sub [1, 2, 3, 0] rfl (ih.2 x0 x1 x3 w5.1 w12 hi)
    refine fun x0 x1 x3 x4 h hf => ?_
    obtain ⟨y, hf, hi⟩ := pm_iter_s hf
    have hf : tX16_number_38 x0 x1 x3 x4 h = some y := hf
    unfold tX16_number_38 at hf
    refine pm_lload_n C dX16_number_38 rfl rfl ?_
    refine pm_iload C dX16_number_39 rfl ?_
    refine pm_bipush (v := 127) C dX16_number_41 (by decide) ?_
    refine pm_iand C dX16_number_43 ?_
    refine pm_i2l C dX16_number_44 ?_
    refine pm_bipush (v := 7) C dX16_number_45 (by decide) ?_
    refine pm_iload_n C dX16_number_47 rfl rfl ?_
    refine pm_imul C dX16_number_48 ?_
    refine pm_lshl C dX16_number_49 ?_
    refine pm_lor C dX16_number_50 ?_
    obtain ⟨y14, e15, hf⟩ := pm_lt hf
    refine pm_topL e15 ?_
    refine pm_lstore_n (lv' := [(1, .long y14), (0, .ref x0), (3, .int x3), (4, .int x4)]) C dX16_number_51 rfl (pt_nl X (by decide)) rfl ?_
    refine pm_iload C dX16_number_52 rfl ?_
    refine pm_sipush (v := 128) C dX16_number_54 (by decide) ?_
    refine pm_icmp_ge (tgt := 62) C dX16_number_57 (by decide) (fun c16 => ?_) (fun c16 => ?_)
    · have hf := pm_it hf c16
      obtain ⟨y17, e18, hf⟩ := pm_lt hf
      refine pm_iinc (v := y17) (lv' := [(3, .int y17), (1, .long y14), (0, .ref x0), (4, .int x4)]) C dX16_number_62 rfl ((congrArg (x3 + ·) (by decide : Int32.ofInt 1 = 1)).trans e18) (pt_nl X (by decide)) rfl ?_
      refine pm_goto (tgt := 4) C dX16_number_65 (by decide) ?_
      cases hf
      exact pm_sub [2, 1, 0] rfl (ih.1 x0 y14 y17 h hi)
    · have hf := pm_ie hf c16
      refine pm_lload_n C dX16_number_60 rfl rfl ?_
      cases hf
      cases hi
      exact pt_lret C X dX16_number_61 rfl (Nat.le_refl _) (Nat.le_refl _) q
set_option maxHeartbeats 4000000 in
set_option maxRecDepth 100000 in
theorem ctX16_number {l : Launch} {G : pm_Gl} {h : pm_H} {a0 : Nat} {r : ((Nat × pm_H) ⊕ (Int64 × pm_H))} {Qr : Option Value → pm_H → Prop} {Qt : Nat → pm_H → Prop} (hf : fX16_number h a0 = some r) (q : pt_eJ Qr Qt r) : pm_Ctt l G mX16_number [.ref a0] h 0 0 Qr Qt := by
  refine pm_bodyT pnX16 (Nat.le_of_ble_eq_true rfl) (fun g C X => ?_)
  have C : pm_C g cX16_number RX16 := C
  show pm_G g 0 [(0, .ref a0)] [] h 0 0
  unfold fX16_number at hf
  refine pm_lconst (v := 0) C dX16_number_0 (by decide) ?_
  refine pm_lstore_n (lv' := [(1, .long 0), (0, .ref a0)]) C dX16_number_1 rfl (pt_nl X (by decide)) rfl ?_
  refine pm_iconst (v := 0) C dX16_number_2 (by decide) ?_
  refine pm_istore_n (lv' := [(3, .int 0), (1, .long 0), (0, .ref a0)]) C dX16_number_3 rfl (pt_nl X (by decide)) rfl ?_
  obtain ⟨n, hn⟩ := pm_lim_iter hf
  exact pm_sub [2, 1, 0] rfl ((lpX16_number C X q n).1 a0 0 0 h hn)
theorem dX16_put_0 : decode cX16_put 0 = .ok (.aload_n 0, 1) := by decide +kernel
theorem dX16_put_1 : decode cX16_put 1 = .ok (.getfield 685, 3) := by decide +kernel
theorem dX16_put_4 : decode cX16_put 4 = .ok (.sipush 1000, 3) := by decide +kernel
theorem dX16_put_7 : decode cX16_put 7 = .ok (.if_icmp .ne 13, 3) := by decide +kernel
theorem dX16_put_10 : decode cX16_put 10 = .ok (.aload_n 0, 1) := by decide +kernel
theorem dX16_put_11 : decode cX16_put 11 = .ok (.bipush 40, 2) := by decide +kernel
theorem dX16_put_13 : decode cX16_put 13 = .ok (.aload_n 0, 1) := by decide +kernel
theorem dX16_put_14 : decode cX16_put 14 = .ok (.getfield 686, 3) := by decide +kernel
theorem dX16_put_17 : decode cX16_put 17 = .ok (.invokevirtual 257, 3) := by decide +kernel
theorem dX16_put_20 : decode cX16_put 20 = .ok (.aload_n 0, 1) := by decide +kernel
theorem dX16_put_21 : decode cX16_put 21 = .ok (.getfield 39, 3) := by decide +kernel
theorem dX16_put_24 : decode cX16_put 24 = .ok (.aload_n 0, 1) := by decide +kernel
theorem dX16_put_25 : decode cX16_put 25 = .ok (.getfield 685, 3) := by decide +kernel
theorem dX16_put_28 : decode cX16_put 28 = .ok (.iload_n 1, 1) := by decide +kernel
theorem dX16_put_29 : decode cX16_put 29 = .ok (.iastore, 1) := by decide +kernel
theorem dX16_put_30 : decode cX16_put 30 = .ok (.aload_n 0, 1) := by decide +kernel
theorem dX16_put_31 : decode cX16_put 31 = .ok (.dup, 1) := by decide +kernel
theorem dX16_put_32 : decode cX16_put 32 = .ok (.getfield 685, 3) := by decide +kernel
theorem dX16_put_35 : decode cX16_put 35 = .ok (.iconst 1, 1) := by decide +kernel
theorem dX16_put_36 : decode cX16_put 36 = .ok (.iadd, 1) := by decide +kernel
theorem dX16_put_37 : decode cX16_put 37 = .ok (.putfield 685, 3) := by decide +kernel
theorem dX16_put_40 : decode cX16_put 40 = .ok (.return_, 1) := by decide +kernel
def fX16_put (h : pm_H) (a0 : Nat) (p1 : Int32) : Option ((Nat × pm_H) ⊕ pm_H) := if pm_kd h a0 = 16 then if (pm_I h a0 23) = 1000 then ((fX16_stops h a0 40 (pm_I h a0 31)).bind fun v9 => pt_k v9 fun w11 => if pm_kd w11 a0 = 16 then (pm_R w11 a0 22).bind fun v14 => if pm_kd w11 v14 = 34 then if pm_in (pm_I w11 a0 23) (pm_ln w11 v14) then pm_let ((pm_I (pm_setI w11 v14 ((pm_I w11 a0 23).toNatClampNeg) p1) a0 23) + 1) fun y18 => some (.inr (pm_setI (pm_setI w11 v14 ((pm_I w11 a0 23).toNatClampNeg) p1) a0 23 y18)) else none else none else none) else ((pm_R h a0 22).bind fun v3 => if pm_kd h v3 = 34 then if pm_in (pm_I h a0 23) (pm_ln h v3) then pm_let ((pm_I (pm_setI h v3 ((pm_I h a0 23).toNatClampNeg) p1) a0 23) + 1) fun y7 => some (.inr (pm_setI (pm_setI h v3 ((pm_I h a0 23).toNatClampNeg) p1) a0 23 y7)) else none else none) else none
set_option maxHeartbeats 4000000 in
set_option maxRecDepth 100000 in
theorem ctX16_put {l : Launch} {G : pm_Gl} {h : pm_H} {a0 : Nat} {p1 : Int32} {r : ((Nat × pm_H) ⊕ pm_H)} {Qr : Option Value → pm_H → Prop} {Qt : Nat → pm_H → Prop} (hf : fX16_put h a0 p1 = some r) (q : pt_eV Qr Qt r) : pm_Ctt l G mX16_put [.ref a0, .int p1] h 0 0 Qr Qt := by
  refine pm_bodyT pnX16 (Nat.le_of_ble_eq_true rfl) (fun g C X => ?_)
  have C : pm_C g cX16_put RX16 := C
  show pm_G g 0 [(0, .ref a0), (1, .int p1)] [] h 0 0
  unfold fX16_put at hf
  refine pm_aload_n C dX16_put_0 rfl rfl ?_
  obtain ⟨k1, hf⟩ := pm_if hf
  refine pm_getI C dX16_put_1 flX16_685 rfl k1 rfl ?_
  refine pm_sipush (v := 1000) C dX16_put_4 (by decide) ?_
  refine pm_icmp_ne (tgt := 20) C dX16_put_7 (by decide) (fun c2 => ?_) (fun c2 => ?_)
  · have hf := pm_ie hf c2
    refine pm_aload_n C dX16_put_20 rfl rfl ?_
    obtain ⟨v3, e4, hf⟩ := pm_bd hf
    refine pm_getR C dX16_put_21 flX16_39 rfl k1 e4 ?_
    refine pm_aload_n C dX16_put_24 rfl rfl ?_
    refine pm_getI C dX16_put_25 flX16_685 rfl k1 rfl ?_
    refine pm_iload_n C dX16_put_28 rfl rfl ?_
    obtain ⟨k5, hf⟩ := pm_if hf
    obtain ⟨u6, hf⟩ := pm_if hf
    refine pm_iast C dX16_put_29 k5 u6 ?_
    refine pm_aload_n C dX16_put_30 rfl rfl ?_
    refine pm_dup C dX16_put_31 rfl ?_
    refine pm_getI C dX16_put_32 flX16_685 rfl k1 rfl ?_
    refine pm_iconst (v := 1) C dX16_put_35 (by decide) ?_
    refine pm_iadd C dX16_put_36 ?_
    obtain ⟨y7, e8, hf⟩ := pm_lt hf
    refine pm_topI e8 ?_
    refine pm_putI C dX16_put_37 flX16_685 rfl rfl k1 rfl rfl ?_
    cases hf
    exact pt_vret C X dX16_put_40 rfl (Nat.le_refl _) (Nat.le_refl _) q
  · have hf := pm_it hf c2
    refine pm_aload_n C dX16_put_10 rfl rfl ?_
    refine pm_bipush (v := 40) C dX16_put_11 (by decide) ?_
    refine pm_aload_n C dX16_put_13 rfl rfl ?_
    refine pm_getI C dX16_put_14 flX16_686 rfl k1 rfl ?_
    obtain ⟨v9, e10, hf⟩ := pm_bd hf
    refine pt_callVT (as := [.int 40, .int (pm_I h a0 31)]) (st := []) C X dX16_put_17 ltX16_257 myX16_stops viX16_stops ⟨by decide, by decide⟩ rfl rfl k1 (Nat.le_of_ble_eq_true rfl) (Nat.le_refl _) (Nat.le_refl _) (ctX16_stops e10 ?_)
    rcases v9 with z12 | w11
    · have hf := pt_kl hf
      cases hf
      exact q
    have hf := pt_kr hf
    show pm_G g 20 [(0, .ref a0), (1, .int p1)] [] w11 0 0
    refine pm_aload_n C dX16_put_20 rfl rfl ?_
    obtain ⟨k13, hf⟩ := pm_if hf
    obtain ⟨v14, e15, hf⟩ := pm_bd hf
    refine pm_getR C dX16_put_21 flX16_39 rfl k13 e15 ?_
    refine pm_aload_n C dX16_put_24 rfl rfl ?_
    refine pm_getI C dX16_put_25 flX16_685 rfl k13 rfl ?_
    refine pm_iload_n C dX16_put_28 rfl rfl ?_
    obtain ⟨k16, hf⟩ := pm_if hf
    obtain ⟨u17, hf⟩ := pm_if hf
    refine pm_iast C dX16_put_29 k16 u17 ?_
    refine pm_aload_n C dX16_put_30 rfl rfl ?_
    refine pm_dup C dX16_put_31 rfl ?_
    refine pm_getI C dX16_put_32 flX16_685 rfl k13 rfl ?_
    refine pm_iconst (v := 1) C dX16_put_35 (by decide) ?_
    refine pm_iadd C dX16_put_36 ?_
    obtain ⟨y18, e19, hf⟩ := pm_lt hf
    refine pm_topI e19 ?_
    refine pm_putI C dX16_put_37 flX16_685 rfl rfl k13 rfl rfl ?_
    cases hf
    exact pt_vret C X dX16_put_40 rfl (Nat.le_refl _) (Nat.le_refl _) q
theorem dX16_putParameters_0 : decode cX16_putParameters 0 = .ok (.iconst 0, 1) := by decide +kernel
theorem dX16_putParameters_1 : decode cX16_putParameters 1 = .ok (.istore_n 3, 1) := by decide +kernel
theorem dX16_putParameters_2 : decode cX16_putParameters 2 = .ok (.iload_n 3, 1) := by decide +kernel
theorem dX16_putParameters_3 : decode cX16_putParameters 3 = .ok (.aload_n 0, 1) := by decide +kernel
theorem dX16_putParameters_4 : decode cX16_putParameters 4 = .ok (.lload_n 1, 1) := by decide +kernel
theorem dX16_putParameters_5 : decode cX16_putParameters 5 = .ok (.invokevirtual 689, 3) := by decide +kernel
theorem dX16_putParameters_8 : decode cX16_putParameters 8 = .ok (.if_icmp .ge 19, 3) := by decide +kernel
theorem dX16_putParameters_11 : decode cX16_putParameters 11 = .ok (.aload_n 0, 1) := by decide +kernel
theorem dX16_putParameters_12 : decode cX16_putParameters 12 = .ok (.aload_n 0, 1) := by decide +kernel
theorem dX16_putParameters_13 : decode cX16_putParameters 13 = .ok (.lload_n 1, 1) := by decide +kernel
theorem dX16_putParameters_14 : decode cX16_putParameters 14 = .ok (.iload_n 3, 1) := by decide +kernel
theorem dX16_putParameters_15 : decode cX16_putParameters 15 = .ok (.invokevirtual 678, 3) := by decide +kernel
theorem dX16_putParameters_18 : decode cX16_putParameters 18 = .ok (.invokevirtual 695, 3) := by decide +kernel
theorem dX16_putParameters_21 : decode cX16_putParameters 21 = .ok (.iinc 3 1, 3) := by decide +kernel
theorem dX16_putParameters_24 : decode cX16_putParameters 24 = .ok (.goto (-22), 3) := by decide +kernel
theorem dX16_putParameters_27 : decode cX16_putParameters 27 = .ok (.return_, 1) := by decide +kernel
def tX16_putParameters_2 (x0 : Nat) (x1 : Int64) (x3 : Int32) (h : pm_H) : Option (((Nat × Int64 × Int32 × pm_H)) ⊕ ((Nat × pm_H) ⊕ pm_H)) := if pm_kd h x0 = 16 then (fX16_parametersOf h x0 x1).bind fun v2 => if v2 ≤ x3 then (some (.inr (.inr (h)))) else ((fX16_parameterAt h x0 x1 x3).bind fun v5 => (fX16_put h x0 v5).bind fun v7 => pt_s v7 fun w9 => pm_let (x3 + 1) fun y11 => some (.inl ((x0, x1, y11, w9)))) else none
def sX16_putParameters : ((Nat × Int64 × Int32 × pm_H)) → Option (((Nat × Int64 × Int32 × pm_H)) ⊕ ((Nat × pm_H) ⊕ pm_H)) := fun z => match z with
  | (x0, x1, x3, h) => tX16_putParameters_2 x0 x1 x3 h
noncomputable def fX16_putParameters (h : pm_H) (a0 : Nat) (p1 : Int64) : Option ((Nat × pm_H) ⊕ pm_H) := pm_lim sX16_putParameters ((a0, p1, 0, h))
set_option maxHeartbeats 4000000 in
set_option maxRecDepth 100000 in
theorem lpX16_putParameters {g : pm_Gm} {l : Launch} {G : pm_Gl} {Qr : Option Value → pm_H → Prop} {Qt : Nat → pm_H → Prop} (C : pm_C g cX16_putParameters RX16) (X : pm_XT g l G mX16_putParameters 0 0 Qr Qt) {r : ((Nat × pm_H) ⊕ pm_H)} (q : pt_eV Qr Qt r) : ∀ n : Nat, (∀ (x0 : Nat) (x1 : Int64) (x3 : Int32) (h : pm_H), pm_iter sX16_putParameters n (x0, x1, x3, h) = some r → pm_G g 2 [(0, .ref x0), (1, .long x1), (3, .int x3)] [] h 0 0) := by
  intro n
  induction n with
  | zero => exact fun _ _ _ _ hf => (by cases hf)
  | succ n ih =>
    refine fun x0 x1 x3 h hf => ?_
    obtain ⟨y, hf, hi⟩ := pm_iter_s hf
    have hf : tX16_putParameters_2 x0 x1 x3 h = some y := hf
    unfold tX16_putParameters_2 at hf
    refine pm_iload_n C dX16_putParameters_2 rfl rfl ?_
    refine pm_aload_n C dX16_putParameters_3 rfl rfl ?_
    refine pm_lload_n C dX16_putParameters_4 rfl rfl ?_
    obtain ⟨k1, hf⟩ := pm_if hf
    obtain ⟨v2, e3, hf⟩ := pm_bd hf
    refine pt_callV (as := [.long x1]) (st := [.int x3]) C X dX16_putParameters_5 lnX16_689 myX16_parametersOf viX16_parametersOf ⟨by decide, by decide⟩ rfl rfl k1 (Nat.le_of_ble_eq_true rfl) (Nat.le_refl _) (Nat.le_refl _) (ctX16_parametersOf e3 ?_)
    show pm_G g 8 [(0, .ref x0), (1, .long x1), (3, .int x3)] [.int v2, .int x3] h 0 0
    refine pm_icmp_ge (tgt := 27) C dX16_putParameters_8 (by decide) (fun c4 => ?_) (fun c4 => ?_)
    · have hf := pm_it hf c4
      cases hf
      cases hi
      exact pt_vret C X dX16_putParameters_27 rfl (Nat.le_refl _) (Nat.le_refl _) q
    · have hf := pm_ie hf c4
      refine pm_aload_n C dX16_putParameters_11 rfl rfl ?_
      refine pm_aload_n C dX16_putParameters_12 rfl rfl ?_
      refine pm_lload_n C dX16_putParameters_13 rfl rfl ?_
      refine pm_iload_n C dX16_putParameters_14 rfl rfl ?_
      obtain ⟨v5, e6, hf⟩ := pm_bd hf
      refine pt_callV (as := [.long x1, .int x3]) (st := [.ref x0]) C X dX16_putParameters_15 lnX16_678 myX16_parameterAt viX16_parameterAt ⟨by decide, by decide⟩ rfl rfl k1 (Nat.le_of_ble_eq_true rfl) (Nat.le_refl _) (Nat.le_refl _) (ctX16_parameterAt e6 ?_)
      show pm_G g 18 [(0, .ref x0), (1, .long x1), (3, .int x3)] [.int v5, .ref x0] h 0 0
      obtain ⟨v7, e8, hf⟩ := pm_bd hf
      refine pt_callVT (as := [.int v5]) (st := []) C X dX16_putParameters_18 ltX16_695 myX16_put viX16_put ⟨by decide, by decide⟩ rfl rfl k1 (Nat.le_of_ble_eq_true rfl) (Nat.le_refl _) (Nat.le_refl _) (ctX16_put e8 ?_)
      rcases v7 with z10 | w9
      · have hf := pt_sl hf
        cases hf
        cases hi
        exact q
      have hf := pt_sr hf
      show pm_G g 21 [(0, .ref x0), (1, .long x1), (3, .int x3)] [] w9 0 0
      obtain ⟨y11, e12, hf⟩ := pm_lt hf
      refine pm_iinc (v := y11) (lv' := [(3, .int y11), (0, .ref x0), (1, .long x1)]) C dX16_putParameters_21 rfl ((congrArg (x3 + ·) (by decide : Int32.ofInt 1 = 1)).trans e12) (pt_nl X (by decide)) rfl ?_
      refine pm_goto (tgt := 2) C dX16_putParameters_24 (by decide) ?_
      cases hf
      exact pm_sub [1, 2, 0] rfl (ih x0 x1 y11 w9 hi)
set_option maxHeartbeats 4000000 in
set_option maxRecDepth 100000 in
theorem ctX16_putParameters {l : Launch} {G : pm_Gl} {h : pm_H} {a0 : Nat} {p1 : Int64} {r : ((Nat × pm_H) ⊕ pm_H)} {Qr : Option Value → pm_H → Prop} {Qt : Nat → pm_H → Prop} (hf : fX16_putParameters h a0 p1 = some r) (q : pt_eV Qr Qt r) : pm_Ctt l G mX16_putParameters [.ref a0, .long p1] h 0 0 Qr Qt := by
  refine pm_bodyT pnX16 (Nat.le_of_ble_eq_true rfl) (fun g C X => ?_)
  have C : pm_C g cX16_putParameters RX16 := C
  show pm_G g 0 [(0, .ref a0), (1, .long p1)] [] h 0 0
  unfold fX16_putParameters at hf
  refine pm_iconst (v := 0) C dX16_putParameters_0 (by decide) ?_
  refine pm_istore_n (lv' := [(3, .int 0), (0, .ref a0), (1, .long p1)]) C dX16_putParameters_1 rfl (pt_nl X (by decide)) rfl ?_
  obtain ⟨n, hn⟩ := pm_lim_iter hf
  exact pm_sub [1, 2, 0] rfl ((lpX16_putParameters C X q n) a0 p1 0 h hn)
theorem dX16_putResults_0 : decode cX16_putResults 0 = .ok (.iconst 0, 1) := by decide +kernel
theorem dX16_putResults_1 : decode cX16_putResults 1 = .ok (.istore_n 3, 1) := by decide +kernel
theorem dX16_putResults_2 : decode cX16_putResults 2 = .ok (.iload_n 3, 1) := by decide +kernel
theorem dX16_putResults_3 : decode cX16_putResults 3 = .ok (.aload_n 0, 1) := by decide +kernel
theorem dX16_putResults_4 : decode cX16_putResults 4 = .ok (.lload_n 1, 1) := by decide +kernel
theorem dX16_putResults_5 : decode cX16_putResults 5 = .ok (.invokevirtual 698, 3) := by decide +kernel
theorem dX16_putResults_8 : decode cX16_putResults 8 = .ok (.if_icmp .ge 19, 3) := by decide +kernel
theorem dX16_putResults_11 : decode cX16_putResults 11 = .ok (.aload_n 0, 1) := by decide +kernel
theorem dX16_putResults_12 : decode cX16_putResults 12 = .ok (.aload_n 0, 1) := by decide +kernel
theorem dX16_putResults_13 : decode cX16_putResults 13 = .ok (.lload_n 1, 1) := by decide +kernel
theorem dX16_putResults_14 : decode cX16_putResults 14 = .ok (.iload_n 3, 1) := by decide +kernel
theorem dX16_putResults_15 : decode cX16_putResults 15 = .ok (.invokevirtual 701, 3) := by decide +kernel
theorem dX16_putResults_18 : decode cX16_putResults 18 = .ok (.invokevirtual 695, 3) := by decide +kernel
theorem dX16_putResults_21 : decode cX16_putResults 21 = .ok (.iinc 3 1, 3) := by decide +kernel
theorem dX16_putResults_24 : decode cX16_putResults 24 = .ok (.goto (-22), 3) := by decide +kernel
theorem dX16_putResults_27 : decode cX16_putResults 27 = .ok (.return_, 1) := by decide +kernel
def tX16_putResults_2 (x0 : Nat) (x1 : Int64) (x3 : Int32) (h : pm_H) : Option (((Nat × Int64 × Int32 × pm_H)) ⊕ ((Nat × pm_H) ⊕ pm_H)) := if pm_kd h x0 = 16 then (fX16_resultsOf h x0 x1).bind fun v2 => if v2 ≤ x3 then (some (.inr (.inr (h)))) else ((fX16_resultAt h x0 x1 x3).bind fun v5 => (fX16_put h x0 v5).bind fun v7 => pt_s v7 fun w9 => pm_let (x3 + 1) fun y11 => some (.inl ((x0, x1, y11, w9)))) else none
def sX16_putResults : ((Nat × Int64 × Int32 × pm_H)) → Option (((Nat × Int64 × Int32 × pm_H)) ⊕ ((Nat × pm_H) ⊕ pm_H)) := fun z => match z with
  | (x0, x1, x3, h) => tX16_putResults_2 x0 x1 x3 h
noncomputable def fX16_putResults (h : pm_H) (a0 : Nat) (p1 : Int64) : Option ((Nat × pm_H) ⊕ pm_H) := pm_lim sX16_putResults ((a0, p1, 0, h))
set_option maxHeartbeats 4000000 in
set_option maxRecDepth 100000 in
theorem lpX16_putResults {g : pm_Gm} {l : Launch} {G : pm_Gl} {Qr : Option Value → pm_H → Prop} {Qt : Nat → pm_H → Prop} (C : pm_C g cX16_putResults RX16) (X : pm_XT g l G mX16_putResults 0 0 Qr Qt) {r : ((Nat × pm_H) ⊕ pm_H)} (q : pt_eV Qr Qt r) : ∀ n : Nat, (∀ (x0 : Nat) (x1 : Int64) (x3 : Int32) (h : pm_H), pm_iter sX16_putResults n (x0, x1, x3, h) = some r → pm_G g 2 [(0, .ref x0), (1, .long x1), (3, .int x3)] [] h 0 0) := by
  intro n
  induction n with
  | zero => exact fun _ _ _ _ hf => (by cases hf)
  | succ n ih =>
    refine fun x0 x1 x3 h hf => ?_
    obtain ⟨y, hf, hi⟩ := pm_iter_s hf
    have hf : tX16_putResults_2 x0 x1 x3 h = some y := hf
    unfold tX16_putResults_2 at hf
    refine pm_iload_n C dX16_putResults_2 rfl rfl ?_
    refine pm_aload_n C dX16_putResults_3 rfl rfl ?_
    refine pm_lload_n C dX16_putResults_4 rfl rfl ?_
    obtain ⟨k1, hf⟩ := pm_if hf
    obtain ⟨v2, e3, hf⟩ := pm_bd hf
    refine pt_callV (as := [.long x1]) (st := [.int x3]) C X dX16_putResults_5 lnX16_698 myX16_resultsOf viX16_resultsOf ⟨by decide, by decide⟩ rfl rfl k1 (Nat.le_of_ble_eq_true rfl) (Nat.le_refl _) (Nat.le_refl _) (ctX16_resultsOf e3 ?_)
    show pm_G g 8 [(0, .ref x0), (1, .long x1), (3, .int x3)] [.int v2, .int x3] h 0 0
    refine pm_icmp_ge (tgt := 27) C dX16_putResults_8 (by decide) (fun c4 => ?_) (fun c4 => ?_)
    · have hf := pm_it hf c4
      cases hf
      cases hi
      exact pt_vret C X dX16_putResults_27 rfl (Nat.le_refl _) (Nat.le_refl _) q
    · have hf := pm_ie hf c4
      refine pm_aload_n C dX16_putResults_11 rfl rfl ?_
      refine pm_aload_n C dX16_putResults_12 rfl rfl ?_
      refine pm_lload_n C dX16_putResults_13 rfl rfl ?_
      refine pm_iload_n C dX16_putResults_14 rfl rfl ?_
      obtain ⟨v5, e6, hf⟩ := pm_bd hf
      refine pt_callV (as := [.long x1, .int x3]) (st := [.ref x0]) C X dX16_putResults_15 lnX16_701 myX16_resultAt viX16_resultAt ⟨by decide, by decide⟩ rfl rfl k1 (Nat.le_of_ble_eq_true rfl) (Nat.le_refl _) (Nat.le_refl _) (ctX16_resultAt e6 ?_)
      show pm_G g 18 [(0, .ref x0), (1, .long x1), (3, .int x3)] [.int v5, .ref x0] h 0 0
      obtain ⟨v7, e8, hf⟩ := pm_bd hf
      refine pt_callVT (as := [.int v5]) (st := []) C X dX16_putResults_18 ltX16_695 myX16_put viX16_put ⟨by decide, by decide⟩ rfl rfl k1 (Nat.le_of_ble_eq_true rfl) (Nat.le_refl _) (Nat.le_refl _) (ctX16_put e8 ?_)
      rcases v7 with z10 | w9
      · have hf := pt_sl hf
        cases hf
        cases hi
        exact q
      have hf := pt_sr hf
      show pm_G g 21 [(0, .ref x0), (1, .long x1), (3, .int x3)] [] w9 0 0
      obtain ⟨y11, e12, hf⟩ := pm_lt hf
      refine pm_iinc (v := y11) (lv' := [(3, .int y11), (0, .ref x0), (1, .long x1)]) C dX16_putResults_21 rfl ((congrArg (x3 + ·) (by decide : Int32.ofInt 1 = 1)).trans e12) (pt_nl X (by decide)) rfl ?_
      refine pm_goto (tgt := 2) C dX16_putResults_24 (by decide) ?_
      cases hf
      exact pm_sub [1, 2, 0] rfl (ih x0 x1 y11 w9 hi)
set_option maxHeartbeats 4000000 in
set_option maxRecDepth 100000 in
theorem ctX16_putResults {l : Launch} {G : pm_Gl} {h : pm_H} {a0 : Nat} {p1 : Int64} {r : ((Nat × pm_H) ⊕ pm_H)} {Qr : Option Value → pm_H → Prop} {Qt : Nat → pm_H → Prop} (hf : fX16_putResults h a0 p1 = some r) (q : pt_eV Qr Qt r) : pm_Ctt l G mX16_putResults [.ref a0, .long p1] h 0 0 Qr Qt := by
  refine pm_bodyT pnX16 (Nat.le_of_ble_eq_true rfl) (fun g C X => ?_)
  have C : pm_C g cX16_putResults RX16 := C
  show pm_G g 0 [(0, .ref a0), (1, .long p1)] [] h 0 0
  unfold fX16_putResults at hf
  refine pm_iconst (v := 0) C dX16_putResults_0 (by decide) ?_
  refine pm_istore_n (lv' := [(3, .int 0), (0, .ref a0), (1, .long p1)]) C dX16_putResults_1 rfl (pt_nl X (by decide)) rfl ?_
  obtain ⟨n, hn⟩ := pm_lim_iter hf
  exact pm_sub [1, 2, 0] rfl ((lpX16_putResults C X q n) a0 p1 0 h hn)
