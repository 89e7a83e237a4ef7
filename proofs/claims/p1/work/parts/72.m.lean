theorem dX1_constant_0 : decode cX1_constant 0 = .ok (.iconst 0, 1) := by decide +kernel
theorem dX1_constant_1 : decode cX1_constant 1 = .ok (.istore_n 2, 1) := by decide +kernel
theorem dX1_constant_2 : decode cX1_constant 2 = .ok (.iconst 0, 1) := by decide +kernel
theorem dX1_constant_3 : decode cX1_constant 3 = .ok (.istore_n 3, 1) := by decide +kernel
theorem dX1_constant_4 : decode cX1_constant 4 = .ok (.iconst (-1), 1) := by decide +kernel
theorem dX1_constant_5 : decode cX1_constant 5 = .ok (.istore 4, 2) := by decide +kernel
theorem dX1_constant_7 : decode cX1_constant 7 = .ok (.iconst 0, 1) := by decide +kernel
theorem dX1_constant_8 : decode cX1_constant 8 = .ok (.istore 5, 2) := by decide +kernel
theorem dX1_constant_10 : decode cX1_constant 10 = .ok (.iload 5, 2) := by decide +kernel
theorem dX1_constant_12 : decode cX1_constant 12 = .ok (.aload_n 0, 1) := by decide +kernel
theorem dX1_constant_13 : decode cX1_constant 13 = .ok (.getfield 40, 3) := by decide +kernel
theorem dX1_constant_16 : decode cX1_constant 16 = .ok (.getfield 158, 3) := by decide +kernel
theorem dX1_constant_19 : decode cX1_constant 19 = .ok (.arraylength, 1) := by decide +kernel
theorem dX1_constant_20 : decode cX1_constant 20 = .ok (.if_icmp .gt 125, 3) := by decide +kernel
theorem dX1_constant_23 : decode cX1_constant 23 = .ok (.aload_n 0, 1) := by decide +kernel
theorem dX1_constant_24 : decode cX1_constant 24 = .ok (.getfield 53, 3) := by decide +kernel
theorem dX1_constant_27 : decode cX1_constant 27 = .ok (.ifCond .ne 118, 3) := by decide +kernel
theorem dX1_constant_30 : decode cX1_constant 30 = .ok (.aload_n 0, 1) := by decide +kernel
theorem dX1_constant_31 : decode cX1_constant 31 = .ok (.getfield 36, 3) := by decide +kernel
theorem dX1_constant_34 : decode cX1_constant 34 = .ok (.invokevirtual 188, 3) := by decide +kernel
theorem dX1_constant_37 : decode cX1_constant 37 = .ok (.aload_n 0, 1) := by decide +kernel
theorem dX1_constant_38 : decode cX1_constant 38 = .ok (.getfield 36, 3) := by decide +kernel
theorem dX1_constant_41 : decode cX1_constant 41 = .ok (.getfield 191, 3) := by decide +kernel
theorem dX1_constant_44 : decode cX1_constant 44 = .ok (.bipush 11, 2) := by decide +kernel
theorem dX1_constant_46 : decode cX1_constant 46 = .ok (.if_icmp .ne 6, 3) := by decide +kernel
theorem dX1_constant_49 : decode cX1_constant 49 = .ok (.goto 96, 3) := by decide +kernel
theorem dX1_constant_52 : decode cX1_constant 52 = .ok (.aload_n 0, 1) := by decide +kernel
theorem dX1_constant_53 : decode cX1_constant 53 = .ok (.invokevirtual 194, 3) := by decide +kernel
theorem dX1_constant_56 : decode cX1_constant 56 = .ok (.istore_n 3, 1) := by decide +kernel
theorem dX1_constant_57 : decode cX1_constant 57 = .ok (.iload_n 3, 1) := by decide +kernel
theorem dX1_constant_58 : decode cX1_constant 58 = .ok (.ifCond .ne 9, 3) := by decide +kernel
theorem dX1_constant_61 : decode cX1_constant 61 = .ok (.aload_n 0, 1) := by decide +kernel
theorem dX1_constant_62 : decode cX1_constant 62 = .ok (.bipush 26, 2) := by decide +kernel
theorem dX1_constant_64 : decode cX1_constant 64 = .ok (.invokevirtual 198, 3) := by decide +kernel
theorem dX1_constant_67 : decode cX1_constant 67 = .ok (.aload_n 0, 1) := by decide +kernel
theorem dX1_constant_68 : decode cX1_constant 68 = .ok (.getfield 36, 3) := by decide +kernel
theorem dX1_constant_71 : decode cX1_constant 71 = .ok (.getfield 191, 3) := by decide +kernel
theorem dX1_constant_74 : decode cX1_constant 74 = .ok (.sipush 210, 3) := by decide +kernel
theorem dX1_constant_77 : decode cX1_constant 77 = .ok (.if_icmp .ne 35, 3) := by decide +kernel
theorem dX1_constant_80 : decode cX1_constant 80 = .ok (.aload_n 0, 1) := by decide +kernel
theorem dX1_constant_81 : decode cX1_constant 81 = .ok (.getfield 40, 3) := by decide +kernel
theorem dX1_constant_84 : decode cX1_constant 84 = .ok (.iconst 0, 1) := by decide +kernel
theorem dX1_constant_85 : decode cX1_constant 85 = .ok (.aload_n 0, 1) := by decide +kernel
theorem dX1_constant_86 : decode cX1_constant 86 = .ok (.getfield 36, 3) := by decide +kernel
theorem dX1_constant_89 : decode cX1_constant 89 = .ok (.getfield 201, 3) := by decide +kernel
theorem dX1_constant_92 : decode cX1_constant 92 = .ok (.invokevirtual 146, 3) := by decide +kernel
theorem dX1_constant_95 : decode cX1_constant 95 = .ok (.ifCond .ne 17, 3) := by decide +kernel
theorem dX1_constant_98 : decode cX1_constant 98 = .ok (.iload 4, 2) := by decide +kernel
theorem dX1_constant_100 : decode cX1_constant 100 = .ok (.ifCond .ge 12, 3) := by decide +kernel
theorem dX1_constant_103 : decode cX1_constant 103 = .ok (.aload_n 0, 1) := by decide +kernel
theorem dX1_constant_104 : decode cX1_constant 104 = .ok (.getfield 36, 3) := by decide +kernel
theorem dX1_constant_107 : decode cX1_constant 107 = .ok (.getfield 97, 3) := by decide +kernel
theorem dX1_constant_110 : decode cX1_constant 110 = .ok (.istore 4, 2) := by decide +kernel
theorem dX1_constant_112 : decode cX1_constant 112 = .ok (.aload_n 0, 1) := by decide +kernel
theorem dX1_constant_113 : decode cX1_constant 113 = .ok (.getfield 36, 3) := by decide +kernel
theorem dX1_constant_116 : decode cX1_constant 116 = .ok (.getfield 191, 3) := by decide +kernel
theorem dX1_constant_119 : decode cX1_constant 119 = .ok (.sipush 210, 3) := by decide +kernel
theorem dX1_constant_122 : decode cX1_constant 122 = .ok (.if_icmp .ne 14, 3) := by decide +kernel
theorem dX1_constant_125 : decode cX1_constant 125 = .ok (.aload_n 0, 1) := by decide +kernel
theorem dX1_constant_126 : decode cX1_constant 126 = .ok (.aload_n 0, 1) := by decide +kernel
theorem dX1_constant_127 : decode cX1_constant 127 = .ok (.getfield 36, 3) := by decide +kernel
theorem dX1_constant_130 : decode cX1_constant 130 = .ok (.getfield 201, 3) := by decide +kernel
theorem dX1_constant_133 : decode cX1_constant 133 = .ok (.invokevirtual 150, 3) := by decide +kernel
theorem dX1_constant_136 : decode cX1_constant 136 = .ok (.iinc 2 1, 3) := by decide +kernel
theorem dX1_constant_139 : decode cX1_constant 139 = .ok (.iinc 5 1, 3) := by decide +kernel
theorem dX1_constant_142 : decode cX1_constant 142 = .ok (.goto (-132), 3) := by decide +kernel
theorem dX1_constant_145 : decode cX1_constant 145 = .ok (.iload 4, 2) := by decide +kernel
theorem dX1_constant_147 : decode cX1_constant 147 = .ok (.ifCond .lt 11, 3) := by decide +kernel
theorem dX1_constant_150 : decode cX1_constant 150 = .ok (.aload_n 0, 1) := by decide +kernel
theorem dX1_constant_151 : decode cX1_constant 151 = .ok (.bipush 28, 2) := by decide +kernel
theorem dX1_constant_153 : decode cX1_constant 153 = .ok (.iload 4, 2) := by decide +kernel
theorem dX1_constant_155 : decode cX1_constant 155 = .ok (.invokevirtual 66, 3) := by decide +kernel
theorem dX1_constant_158 : decode cX1_constant 158 = .ok (.iload_n 2, 1) := by decide +kernel
theorem dX1_constant_159 : decode cX1_constant 159 = .ok (.iconst 1, 1) := by decide +kernel
theorem dX1_constant_160 : decode cX1_constant 160 = .ok (.if_icmp .ne 8, 3) := by decide +kernel
theorem dX1_constant_163 : decode cX1_constant 163 = .ok (.iload_n 3, 1) := by decide +kernel
theorem dX1_constant_164 : decode cX1_constant 164 = .ok (.iload_n 1, 1) := by decide +kernel
theorem dX1_constant_165 : decode cX1_constant 165 = .ok (.if_icmp .eq 9, 3) := by decide +kernel
theorem dX1_constant_168 : decode cX1_constant 168 = .ok (.aload_n 0, 1) := by decide +kernel
theorem dX1_constant_169 : decode cX1_constant 169 = .ok (.bipush 27, 2) := by decide +kernel
theorem dX1_constant_171 : decode cX1_constant 171 = .ok (.invokevirtual 198, 3) := by decide +kernel
theorem dX1_constant_174 : decode cX1_constant 174 = .ok (.return_, 1) := by decide +kernel
noncomputable def tX1_constant_10 (x0 : Nat) (x1 : Int32) (x2 : Int32) (x3 : Int32) (x4 : Int32) (x5 : Int32) (h : pm_H) : Option (((Nat × Int32 × Int32 × Int32 × Int32 × Int32 × pm_H) ⊕ (Nat × Int32 × Int32 × Int32 × Int32 × pm_H) ⊕ (Nat × Int32 × Int32 × Int32 × Int32 × Int32 × pm_H) ⊕ (Nat × Int32 × Int32 × Int32 × Int32 × Int32 × pm_H)) ⊕ pm_H) := if pm_kd h x0 = 1 then (pm_R h x0 2).bind fun v2 => if pm_kd h v2 = 7 then (pm_R h v2 0).bind fun v5 => if pm_kd h v5 = 33 then if (Int32.ofNat (pm_ln h v5)) < x5 then (some (.inl (.inr (.inl ((x0, x1, x2, x3, x4, h)))))) else (if (pm_I h x0 0) = 0 then ((pm_R h x0 3).bind fun v10 => if pm_kd h v10 = 9 then (fX9_instruction h v10).bind fun v13 => if pm_kd v13 x0 = 1 then (pm_R v13 x0 3).bind fun v16 => if pm_kd v13 v16 = 9 then if (pm_I v13 v16 6) = 11 then (some (.inl (.inr (.inl ((x0, x1, x2, x3, x4, v13)))))) else ((fX1_constantType v13 x0).bind fun v20 => if v20 = 0 then ((fX1_fail v13 x0 26).bind fun v23 => some (.inl (.inr (.inr (.inl ((x0, x1, x2, v20, x4, x5, v23))))))) else (some (.inl (.inr (.inr (.inl ((x0, x1, x2, v20, x4, x5, v13)))))))) else none else none else none) else (some (.inl (.inr (.inl ((x0, x1, x2, x3, x4, h))))))) else none else none else none
noncomputable def tX1_constant_145 (x0 : Nat) (x1 : Int32) (x2 : Int32) (x3 : Int32) (x4 : Int32) (h : pm_H) : Option (((Nat × Int32 × Int32 × Int32 × Int32 × Int32 × pm_H) ⊕ (Nat × Int32 × Int32 × Int32 × Int32 × pm_H) ⊕ (Nat × Int32 × Int32 × Int32 × Int32 × Int32 × pm_H) ⊕ (Nat × Int32 × Int32 × Int32 × Int32 × Int32 × pm_H)) ⊕ pm_H) := if x4 < 0 then (if x2 = 1 then (if x3 = x1 then (some (.inr (h))) else (if pm_kd h x0 = 1 then (fX1_fail h x0 27).bind fun v32 => some (.inr (v32)) else none)) else (if pm_kd h x0 = 1 then (fX1_fail h x0 27).bind fun v28 => some (.inr (v28)) else none)) else (if pm_kd h x0 = 1 then (fX1_failAt h x0 28 x4).bind fun v35 => if x2 = 1 then (if x3 = x1 then (some (.inr (v35))) else (if pm_kd v35 x0 = 1 then (fX1_fail v35 x0 27).bind fun v43 => some (.inr (v43)) else none)) else (if pm_kd v35 x0 = 1 then (fX1_fail v35 x0 27).bind fun v39 => some (.inr (v39)) else none) else none)
noncomputable def tX1_constant_67 (x0 : Nat) (x1 : Int32) (x2 : Int32) (x3 : Int32) (x4 : Int32) (x5 : Int32) (h : pm_H) : Option (((Nat × Int32 × Int32 × Int32 × Int32 × Int32 × pm_H) ⊕ (Nat × Int32 × Int32 × Int32 × Int32 × pm_H) ⊕ (Nat × Int32 × Int32 × Int32 × Int32 × Int32 × pm_H) ⊕ (Nat × Int32 × Int32 × Int32 × Int32 × Int32 × pm_H)) ⊕ pm_H) := if pm_kd h x0 = 1 then (pm_R h x0 3).bind fun v46 => if pm_kd h v46 = 9 then if (pm_I h v46 6) = 210 then ((pm_R h x0 2).bind fun v50 => if pm_kd h v50 = 7 then (fX7_has h v50 0 (pm_L h v46 8)).bind fun v53 => if v53 = 0 then (if 0 ≤ x4 then (some (.inl (.inr (.inr (.inr ((x0, x1, x2, x3, x4, x5, h))))))) else (pm_let (pm_I h v46 7) fun y57 => some (.inl (.inr (.inr (.inr ((x0, x1, x2, x3, y57, x5, h)))))))) else (some (.inl (.inr (.inr (.inr ((x0, x1, x2, x3, x4, x5, h))))))) else none) else (some (.inl (.inr (.inr (.inr ((x0, x1, x2, x3, x4, x5, h))))))) else none else none
noncomputable def tX1_constant_112 (x0 : Nat) (x1 : Int32) (x2 : Int32) (x3 : Int32) (x4 : Int32) (x5 : Int32) (h : pm_H) : Option (((Nat × Int32 × Int32 × Int32 × Int32 × Int32 × pm_H) ⊕ (Nat × Int32 × Int32 × Int32 × Int32 × pm_H) ⊕ (Nat × Int32 × Int32 × Int32 × Int32 × Int32 × pm_H) ⊕ (Nat × Int32 × Int32 × Int32 × Int32 × Int32 × pm_H)) ⊕ pm_H) := if pm_kd h x0 = 1 then (pm_R h x0 3).bind fun v60 => if pm_kd h v60 = 9 then if (pm_I h v60 6) = 210 then ((fX1_declare h x0 (pm_L h v60 8)).bind fun v68 => pm_let (x2 + 1) fun y70 => pm_let (x5 + 1) fun y72 => some (.inl (.inl ((x0, x1, y70, x3, x4, y72, v68))))) else (pm_let (x2 + 1) fun y64 => pm_let (x5 + 1) fun y66 => some (.inl (.inl ((x0, x1, y64, x3, x4, y66, h))))) else none else none
noncomputable def sX1_constant : ((Nat × Int32 × Int32 × Int32 × Int32 × Int32 × pm_H) ⊕ (Nat × Int32 × Int32 × Int32 × Int32 × pm_H) ⊕ (Nat × Int32 × Int32 × Int32 × Int32 × Int32 × pm_H) ⊕ (Nat × Int32 × Int32 × Int32 × Int32 × Int32 × pm_H)) → Option (((Nat × Int32 × Int32 × Int32 × Int32 × Int32 × pm_H) ⊕ (Nat × Int32 × Int32 × Int32 × Int32 × pm_H) ⊕ (Nat × Int32 × Int32 × Int32 × Int32 × Int32 × pm_H) ⊕ (Nat × Int32 × Int32 × Int32 × Int32 × Int32 × pm_H)) ⊕ pm_H) := fun z => match z with
  | .inl (x0, x1, x2, x3, x4, x5, h) => tX1_constant_10 x0 x1 x2 x3 x4 x5 h
  | .inr (.inl (x0, x1, x2, x3, x4, h)) => tX1_constant_145 x0 x1 x2 x3 x4 h
  | .inr (.inr (.inl (x0, x1, x2, x3, x4, x5, h))) => tX1_constant_67 x0 x1 x2 x3 x4 x5 h
  | .inr (.inr (.inr (x0, x1, x2, x3, x4, x5, h))) => tX1_constant_112 x0 x1 x2 x3 x4 x5 h
noncomputable def fX1_constant (h : pm_H) (a0 : Nat) (p1 : Int32) : Option pm_H := pm_lim sX1_constant (.inl ((a0, p1, 0, 0, (-1), 0, h)))
set_option maxHeartbeats 4000000 in
set_option maxRecDepth 100000 in
theorem lpX1_constant {g : pm_Gm} {l : Launch} {G : pm_Gl} {Qr : Option Value → pm_H → Prop} (C : pm_C g cX1_constant RX1) (X : pm_X g l G mX1_constant 0 0 Qr) {r : pm_H} (q : Qr none r) : ∀ n : Nat, (∀ (x0 : Nat) (x1 : Int32) (x2 : Int32) (x3 : Int32) (x4 : Int32) (x5 : Int32) (h : pm_H), pm_iter sX1_constant n (.inl (x0, x1, x2, x3, x4, x5, h)) = some r → pm_G g 10 [(0, .ref x0), (1, .int x1), (2, .int x2), (3, .int x3), (4, .int x4), (5, .int x5)] [] h 0 0) ∧ (∀ (x0 : Nat) (x1 : Int32) (x2 : Int32) (x3 : Int32) (x4 : Int32) (h : pm_H), pm_iter sX1_constant n (.inr (.inl (x0, x1, x2, x3, x4, h))) = some r → pm_G g 145 [(0, .ref x0), (1, .int x1), (2, .int x2), (3, .int x3), (4, .int x4)] [] h 0 0) ∧ (∀ (x0 : Nat) (x1 : Int32) (x2 : Int32) (x3 : Int32) (x4 : Int32) (x5 : Int32) (h : pm_H), pm_iter sX1_constant n (.inr (.inr (.inl (x0, x1, x2, x3, x4, x5, h)))) = some r → pm_G g 67 [(0, .ref x0), (1, .int x1), (2, .int x2), (3, .int x3), (4, .int x4), (5, .int x5)] [] h 0 0) ∧ (∀ (x0 : Nat) (x1 : Int32) (x2 : Int32) (x3 : Int32) (x4 : Int32) (x5 : Int32) (h : pm_H), pm_iter sX1_constant n (.inr (.inr (.inr (x0, x1, x2, x3, x4, x5, h)))) = some r → pm_G g 112 [(0, .ref x0), (1, .int x1), (2, .int x2), (3, .int x3), (4, .int x4), (5, .int x5)] [] h 0 0) := by
  intro n
  induction n with
  | zero => exact ⟨fun _ _ _ _ _ _ _ hf => (by cases hf), fun _ _ _ _ _ _ hf => (by cases hf), fun _ _ _ _ _ _ _ hf => (by cases hf), fun _ _ _ _ _ _ _ hf => (by cases hf)⟩
  | succ n ih =>
    refine ⟨fun x0 x1 x2 x3 x4 x5 h hf => ?_, ?_⟩
    · obtain ⟨y, hf, hi⟩ := pm_iter_s hf
      have hf : tX1_constant_10 x0 x1 x2 x3 x4 x5 h = some y := hf
      unfold tX1_constant_10 at hf
      refine pm_iload C dX1_constant_10 rfl ?_
      refine pm_aload_n C dX1_constant_12 rfl rfl ?_
      obtain ⟨k1, hf⟩ := pm_if hf
      obtain ⟨v2, e3, hf⟩ := pm_bd hf
      refine pm_getR C dX1_constant_13 flX1_40 rfl k1 e3 ?_
      obtain ⟨k4, hf⟩ := pm_if hf
      obtain ⟨v5, e6, hf⟩ := pm_bd hf
      refine pm_getR C dX1_constant_16 flX1_158 rfl k4 e6 ?_
      obtain ⟨k7, hf⟩ := pm_if hf
      refine pm_alen (t := 1) C dX1_constant_19 (by decide) k7 rfl ?_
      refine pm_icmp_gt (tgt := 145) C dX1_constant_20 (by decide) (fun c8 => ?_) (fun c8 => ?_)
      · have hf := pm_it hf c8
        cases hf
        exact pm_sub [0, 1, 2, 3, 4] rfl (ih.2.1 x0 x1 x2 x3 x4 h hi)
      · have hf := pm_ie hf c8
        refine pm_aload_n C dX1_constant_23 rfl rfl ?_
        refine pm_getI C dX1_constant_24 flX1_53 rfl k1 rfl ?_
        refine pm_if_ne (tgt := 145) C dX1_constant_27 (by decide) (fun c9 => ?_) (fun c9 => ?_)
        · have hf := pm_ie hf c9
          cases hf
          exact pm_sub [0, 1, 2, 3, 4] rfl (ih.2.1 x0 x1 x2 x3 x4 h hi)
        · have hf := pm_it hf c9
          refine pm_aload_n C dX1_constant_30 rfl rfl ?_
          obtain ⟨v10, e11, hf⟩ := pm_bd hf
          refine pm_getR C dX1_constant_31 flX1_36 rfl k1 e11 ?_
          obtain ⟨k12, hf⟩ := pm_if hf
          obtain ⟨v13, e14, hf⟩ := pm_bd hf
          refine pm_callV (as := []) (st := []) C X dX1_constant_34 lnX1_188 myX9_instruction viX9_instruction ⟨by decide, by decide⟩ rfl rfl k12 (Nat.le_of_ble_eq_true rfl) (Nat.le_refl _) (Nat.le_refl _) (ctX9_instruction e14 ?_)
          show pm_G g 37 [(0, .ref x0), (1, .int x1), (2, .int x2), (3, .int x3), (4, .int x4), (5, .int x5)] [] v13 0 0
          refine pm_aload_n C dX1_constant_37 rfl rfl ?_
          obtain ⟨k15, hf⟩ := pm_if hf
          obtain ⟨v16, e17, hf⟩ := pm_bd hf
          refine pm_getR C dX1_constant_38 flX1_36 rfl k15 e17 ?_
          obtain ⟨k18, hf⟩ := pm_if hf
          refine pm_getI C dX1_constant_41 flX1_191 rfl k18 rfl ?_
          refine pm_bipush (v := 11) C dX1_constant_44 (by decide) ?_
          refine pm_icmp_ne (tgt := 52) C dX1_constant_46 (by decide) (fun c19 => ?_) (fun c19 => ?_)
          · have hf := pm_ie hf c19
            refine pm_aload_n C dX1_constant_52 rfl rfl ?_
            obtain ⟨v20, e21, hf⟩ := pm_bd hf
            refine pm_callV (as := []) (st := []) C X dX1_constant_53 lnX1_194 myX1_constantType viX1_constantType ⟨by decide, by decide⟩ rfl rfl k15 (Nat.le_of_ble_eq_true rfl) (Nat.le_refl _) (Nat.le_refl _) (ctX1_constantType e21 ?_)
            show pm_G g 56 [(0, .ref x0), (1, .int x1), (2, .int x2), (3, .int x3), (4, .int x4), (5, .int x5)] [.int v20] v13 0 0
            refine pm_istore_n (lv' := [(3, .int v20), (0, .ref x0), (1, .int x1), (2, .int x2), (4, .int x4), (5, .int x5)]) C dX1_constant_56 rfl (pm_nl X (by decide)) rfl ?_
            refine pm_iload_n C dX1_constant_57 rfl rfl ?_
            refine pm_if_ne (tgt := 67) C dX1_constant_58 (by decide) (fun c22 => ?_) (fun c22 => ?_)
            · have hf := pm_ie hf c22
              cases hf
              exact pm_sub [1, 2, 3, 0, 4, 5] rfl (ih.2.2.1 x0 x1 x2 v20 x4 x5 v13 hi)
            · have hf := pm_it hf c22
              refine pm_aload_n C dX1_constant_61 rfl rfl ?_
              refine pm_bipush (v := 26) C dX1_constant_62 (by decide) ?_
              obtain ⟨v23, e24, hf⟩ := pm_bd hf
              refine pm_callV (as := [.int 26]) (st := []) C X dX1_constant_64 lnX1_198 myX1_fail viX1_fail ⟨by decide, by decide⟩ rfl rfl k15 (Nat.le_of_ble_eq_true rfl) (Nat.le_refl _) (Nat.le_refl _) (ctX1_fail e24 ?_)
              show pm_G g 67 [(3, .int v20), (0, .ref x0), (1, .int x1), (2, .int x2), (4, .int x4), (5, .int x5)] [] v23 0 0
              cases hf
              exact pm_sub [1, 2, 3, 0, 4, 5] rfl (ih.2.2.1 x0 x1 x2 v20 x4 x5 v23 hi)
          · have hf := pm_it hf c19
            refine pm_goto (tgt := 145) C dX1_constant_49 (by decide) ?_
            cases hf
            exact pm_sub [0, 1, 2, 3, 4] rfl (ih.2.1 x0 x1 x2 x3 x4 v13 hi)
    refine ⟨fun x0 x1 x2 x3 x4 h hf => ?_, ?_⟩
    · obtain ⟨y, hf, hi⟩ := pm_iter_s hf
      have hf : tX1_constant_145 x0 x1 x2 x3 x4 h = some y := hf
      unfold tX1_constant_145 at hf
      refine pm_iload C dX1_constant_145 rfl ?_
      refine pm_if_lt (tgt := 158) C dX1_constant_147 (by decide) (fun c25 => ?_) (fun c25 => ?_)
      · have hf := pm_it hf c25
        refine pm_iload_n C dX1_constant_158 rfl rfl ?_
        refine pm_iconst (v := 1) C dX1_constant_159 (by decide) ?_
        refine pm_icmp_ne (tgt := 168) C dX1_constant_160 (by decide) (fun c26 => ?_) (fun c26 => ?_)
        · have hf := pm_ie hf c26
          refine pm_aload_n C dX1_constant_168 rfl rfl ?_
          refine pm_bipush (v := 27) C dX1_constant_169 (by decide) ?_
          obtain ⟨k27, hf⟩ := pm_if hf
          obtain ⟨v28, e29, hf⟩ := pm_bd hf
          refine pm_callV (as := [.int 27]) (st := []) C X dX1_constant_171 lnX1_198 myX1_fail viX1_fail ⟨by decide, by decide⟩ rfl rfl k27 (Nat.le_of_ble_eq_true rfl) (Nat.le_refl _) (Nat.le_refl _) (ctX1_fail e29 ?_)
          show pm_G g 174 [(0, .ref x0), (1, .int x1), (2, .int x2), (3, .int x3), (4, .int x4)] [] v28 0 0
          cases hf
          cases hi
          exact pm_vret C X dX1_constant_174 rfl (Nat.le_refl _) (Nat.le_refl _) q
        · have hf := pm_it hf c26
          refine pm_iload_n C dX1_constant_163 rfl rfl ?_
          refine pm_iload_n C dX1_constant_164 rfl rfl ?_
          refine pm_icmp_eq (tgt := 174) C dX1_constant_165 (by decide) (fun c30 => ?_) (fun c30 => ?_)
          · have hf := pm_it hf c30
            cases hf
            cases hi
            exact pm_vret C X dX1_constant_174 rfl (Nat.le_refl _) (Nat.le_refl _) q
          · have hf := pm_ie hf c30
            refine pm_aload_n C dX1_constant_168 rfl rfl ?_
            refine pm_bipush (v := 27) C dX1_constant_169 (by decide) ?_
            obtain ⟨k31, hf⟩ := pm_if hf
            obtain ⟨v32, e33, hf⟩ := pm_bd hf
            refine pm_callV (as := [.int 27]) (st := []) C X dX1_constant_171 lnX1_198 myX1_fail viX1_fail ⟨by decide, by decide⟩ rfl rfl k31 (Nat.le_of_ble_eq_true rfl) (Nat.le_refl _) (Nat.le_refl _) (ctX1_fail e33 ?_)
            show pm_G g 174 [(0, .ref x0), (1, .int x1), (2, .int x2), (3, .int x3), (4, .int x4)] [] v32 0 0
            cases hf
            cases hi
            exact pm_vret C X dX1_constant_174 rfl (Nat.le_refl _) (Nat.le_refl _) q
      · have hf := pm_ie hf c25
        refine pm_aload_n C dX1_constant_150 rfl rfl ?_
        refine pm_bipush (v := 28) C dX1_constant_151 (by decide) ?_
        refine pm_iload C dX1_constant_153 rfl ?_
        obtain ⟨k34, hf⟩ := pm_if hf
        obtain ⟨v35, e36, hf⟩ := pm_bd hf
        refine pm_callV (as := [.int 28, .int x4]) (st := []) C X dX1_constant_155 lnX1_66 myX1_failAt viX1_failAt ⟨by decide, by decide⟩ rfl rfl k34 (Nat.le_of_ble_eq_true rfl) (Nat.le_refl _) (Nat.le_refl _) (ctX1_failAt e36 ?_)
        show pm_G g 158 [(0, .ref x0), (1, .int x1), (2, .int x2), (3, .int x3), (4, .int x4)] [] v35 0 0
        refine pm_iload_n C dX1_constant_158 rfl rfl ?_
        refine pm_iconst (v := 1) C dX1_constant_159 (by decide) ?_
        refine pm_icmp_ne (tgt := 168) C dX1_constant_160 (by decide) (fun c37 => ?_) (fun c37 => ?_)
        · have hf := pm_ie hf c37
          refine pm_aload_n C dX1_constant_168 rfl rfl ?_
          refine pm_bipush (v := 27) C dX1_constant_169 (by decide) ?_
          obtain ⟨k38, hf⟩ := pm_if hf
          obtain ⟨v39, e40, hf⟩ := pm_bd hf
          refine pm_callV (as := [.int 27]) (st := []) C X dX1_constant_171 lnX1_198 myX1_fail viX1_fail ⟨by decide, by decide⟩ rfl rfl k38 (Nat.le_of_ble_eq_true rfl) (Nat.le_refl _) (Nat.le_refl _) (ctX1_fail e40 ?_)
          show pm_G g 174 [(0, .ref x0), (1, .int x1), (2, .int x2), (3, .int x3), (4, .int x4)] [] v39 0 0
          cases hf
          cases hi
          exact pm_vret C X dX1_constant_174 rfl (Nat.le_refl _) (Nat.le_refl _) q
        · have hf := pm_it hf c37
          refine pm_iload_n C dX1_constant_163 rfl rfl ?_
          refine pm_iload_n C dX1_constant_164 rfl rfl ?_
          refine pm_icmp_eq (tgt := 174) C dX1_constant_165 (by decide) (fun c41 => ?_) (fun c41 => ?_)
          · have hf := pm_it hf c41
            cases hf
            cases hi
            exact pm_vret C X dX1_constant_174 rfl (Nat.le_refl _) (Nat.le_refl _) q
          · have hf := pm_ie hf c41
            refine pm_aload_n C dX1_constant_168 rfl rfl ?_
            refine pm_bipush (v := 27) C dX1_constant_169 (by decide) ?_
            obtain ⟨k42, hf⟩ := pm_if hf
            obtain ⟨v43, e44, hf⟩ := pm_bd hf
            refine pm_callV (as := [.int 27]) (st := []) C X dX1_constant_171 lnX1_198 myX1_fail viX1_fail ⟨by decide, by decide⟩ rfl rfl k42 (Nat.le_of_ble_eq_true rfl) (Nat.le_refl _) (Nat.le_refl _) (ctX1_fail e44 ?_)
            show pm_G g 174 [(0, .ref x0), (1, .int x1), (2, .int x2), (3, .int x3), (4, .int x4)] [] v43 0 0
            cases hf
            cases hi
            exact pm_vret C X dX1_constant_174 rfl (Nat.le_refl _) (Nat.le_refl _) q
    refine ⟨fun x0 x1 x2 x3 x4 x5 h hf => ?_, ?_⟩
    · obtain ⟨y, hf, hi⟩ := pm_iter_s hf
      have hf : tX1_constant_67 x0 x1 x2 x3 x4 x5 h = some y := hf
      unfold tX1_constant_67 at hf
      refine pm_aload_n C dX1_constant_67 rfl rfl ?_
      obtain ⟨k45, hf⟩ := pm_if hf
      obtain ⟨v46, e47, hf⟩ := pm_bd hf
      refine pm_getR C dX1_constant_68 flX1_36 rfl k45 e47 ?_
      obtain ⟨k48, hf⟩ := pm_if hf
      refine pm_getI C dX1_constant_71 flX1_191 rfl k48 rfl ?_
      refine pm_sipush (v := 210) C dX1_constant_74 (by decide) ?_
      refine pm_icmp_ne (tgt := 112) C dX1_constant_77 (by decide) (fun c49 => ?_) (fun c49 => ?_)
      · have hf := pm_ie hf c49
        cases hf
        exact pm_sub [0, 1, 2, 3, 4, 5] rfl (ih.2.2.2 x0 x1 x2 x3 x4 x5 h hi)
      · have hf := pm_it hf c49
        refine pm_aload_n C dX1_constant_80 rfl rfl ?_
        obtain ⟨v50, e51, hf⟩ := pm_bd hf
        refine pm_getR C dX1_constant_81 flX1_40 rfl k45 e51 ?_
        refine pm_iconst (v := 0) C dX1_constant_84 (by decide) ?_
        refine pm_aload_n C dX1_constant_85 rfl rfl ?_
        refine pm_getR C dX1_constant_86 flX1_36 rfl k45 e47 ?_
        refine pm_getL C dX1_constant_89 flX1_201 rfl k48 rfl ?_
        obtain ⟨k52, hf⟩ := pm_if hf
        obtain ⟨v53, e54, hf⟩ := pm_bd hf
        refine pm_callV (as := [.int 0, .long (pm_L h v46 8)]) (st := []) C X dX1_constant_92 lnX1_146 myX7_has viX7_has ⟨by decide, by decide⟩ rfl rfl k52 (Nat.le_of_ble_eq_true rfl) (Nat.le_refl _) (Nat.le_refl _) (ctX7_has e54 ?_)
        show pm_G g 95 [(0, .ref x0), (1, .int x1), (2, .int x2), (3, .int x3), (4, .int x4), (5, .int x5)] [.int v53] h 0 0
        refine pm_if_ne (tgt := 112) C dX1_constant_95 (by decide) (fun c55 => ?_) (fun c55 => ?_)
        · have hf := pm_ie hf c55
          cases hf
          exact pm_sub [0, 1, 2, 3, 4, 5] rfl (ih.2.2.2 x0 x1 x2 x3 x4 x5 h hi)
        · have hf := pm_it hf c55
          refine pm_iload C dX1_constant_98 rfl ?_
          refine pm_if_ge (tgt := 112) C dX1_constant_100 (by decide) (fun c56 => ?_) (fun c56 => ?_)
          · have hf := pm_it hf c56
            cases hf
            exact pm_sub [0, 1, 2, 3, 4, 5] rfl (ih.2.2.2 x0 x1 x2 x3 x4 x5 h hi)
          · have hf := pm_ie hf c56
            refine pm_aload_n C dX1_constant_103 rfl rfl ?_
            refine pm_getR C dX1_constant_104 flX1_36 rfl k45 e47 ?_
            refine pm_getI C dX1_constant_107 flX1_97 rfl k48 rfl ?_
            obtain ⟨y57, e58, hf⟩ := pm_lt hf
            refine pm_topI e58 ?_
            refine pm_istore (lv' := [(4, .int y57), (0, .ref x0), (1, .int x1), (2, .int x2), (3, .int x3), (5, .int x5)]) C dX1_constant_110 (pm_nl X (by decide)) rfl ?_
            cases hf
            exact pm_sub [1, 2, 3, 4, 0, 5] rfl (ih.2.2.2 x0 x1 x2 x3 y57 x5 h hi)
    refine fun x0 x1 x2 x3 x4 x5 h hf => ?_
    obtain ⟨y, hf, hi⟩ := pm_iter_s hf
    have hf : tX1_constant_112 x0 x1 x2 x3 x4 x5 h = some y := hf
    unfold tX1_constant_112 at hf
    refine pm_aload_n C dX1_constant_112 rfl rfl ?_
    obtain ⟨k59, hf⟩ := pm_if hf
    obtain ⟨v60, e61, hf⟩ := pm_bd hf
    refine pm_getR C dX1_constant_113 flX1_36 rfl k59 e61 ?_
    obtain ⟨k62, hf⟩ := pm_if hf
    refine pm_getI C dX1_constant_116 flX1_191 rfl k62 rfl ?_
    refine pm_sipush (v := 210) C dX1_constant_119 (by decide) ?_
    refine pm_icmp_ne (tgt := 136) C dX1_constant_122 (by decide) (fun c63 => ?_) (fun c63 => ?_)
    · have hf := pm_ie hf c63
      obtain ⟨y64, e65, hf⟩ := pm_lt hf
      refine pm_iinc (v := y64) (lv' := [(2, .int y64), (0, .ref x0), (1, .int x1), (3, .int x3), (4, .int x4), (5, .int x5)]) C dX1_constant_136 rfl ((congrArg (x2 + ·) (by decide : Int32.ofInt 1 = 1)).trans e65) (pm_nl X (by decide)) rfl ?_
      obtain ⟨y66, e67, hf⟩ := pm_lt hf
      refine pm_iinc (v := y66) (lv' := [(5, .int y66), (2, .int y64), (0, .ref x0), (1, .int x1), (3, .int x3), (4, .int x4)]) C dX1_constant_139 rfl ((congrArg (x5 + ·) (by decide : Int32.ofInt 1 = 1)).trans e67) (pm_nl X (by decide)) rfl ?_
      refine pm_goto (tgt := 10) C dX1_constant_142 (by decide) ?_
      cases hf
      exact pm_sub [2, 3, 1, 4, 5, 0] rfl (ih.1 x0 x1 y64 x3 x4 y66 h hi)
    · have hf := pm_it hf c63
      refine pm_aload_n C dX1_constant_125 rfl rfl ?_
      refine pm_aload_n C dX1_constant_126 rfl rfl ?_
      refine pm_getR C dX1_constant_127 flX1_36 rfl k59 e61 ?_
      refine pm_getL C dX1_constant_130 flX1_201 rfl k62 rfl ?_
      obtain ⟨v68, e69, hf⟩ := pm_bd hf
      refine pm_callV (as := [.long (pm_L h v60 8)]) (st := []) C X dX1_constant_133 lnX1_150 myX1_declare viX1_declare ⟨by decide, by decide⟩ rfl rfl k59 (Nat.le_of_ble_eq_true rfl) (Nat.le_refl _) (Nat.le_refl _) (ctX1_declare e69 ?_)
      show pm_G g 136 [(0, .ref x0), (1, .int x1), (2, .int x2), (3, .int x3), (4, .int x4), (5, .int x5)] [] v68 0 0
      obtain ⟨y70, e71, hf⟩ := pm_lt hf
      refine pm_iinc (v := y70) (lv' := [(2, .int y70), (0, .ref x0), (1, .int x1), (3, .int x3), (4, .int x4), (5, .int x5)]) C dX1_constant_136 rfl ((congrArg (x2 + ·) (by decide : Int32.ofInt 1 = 1)).trans e71) (pm_nl X (by decide)) rfl ?_
      obtain ⟨y72, e73, hf⟩ := pm_lt hf
      refine pm_iinc (v := y72) (lv' := [(5, .int y72), (2, .int y70), (0, .ref x0), (1, .int x1), (3, .int x3), (4, .int x4)]) C dX1_constant_139 rfl ((congrArg (x5 + ·) (by decide : Int32.ofInt 1 = 1)).trans e73) (pm_nl X (by decide)) rfl ?_
      refine pm_goto (tgt := 10) C dX1_constant_142 (by decide) ?_
      cases hf
      exact pm_sub [2, 3, 1, 4, 5, 0] rfl (ih.1 x0 x1 y70 x3 x4 y72 v68 hi)
set_option maxHeartbeats 4000000 in
set_option maxRecDepth 100000 in
theorem ctX1_constant {l : Launch} {G : pm_Gl} {h : pm_H} {a0 : Nat} {p1 : Int32} {r : pm_H} {Qr : Option Value → pm_H → Prop} (hf : fX1_constant h a0 p1 = some r) (q : Qr none r) : pm_Ct l G mX1_constant [.ref a0, .int p1] h 0 0 Qr := by
  refine pm_body pnX1 (Nat.le_of_ble_eq_true rfl) (fun g C X => ?_)
  have C : pm_C g cX1_constant RX1 := C
  show pm_G g 0 [(0, .ref a0), (1, .int p1)] [] h 0 0
  unfold fX1_constant at hf
  refine pm_iconst (v := 0) C dX1_constant_0 (by decide) ?_
  refine pm_istore_n (lv' := [(2, .int 0), (0, .ref a0), (1, .int p1)]) C dX1_constant_1 rfl (pm_nl X (by decide)) rfl ?_
  refine pm_iconst (v := 0) C dX1_constant_2 (by decide) ?_
  refine pm_istore_n (lv' := [(3, .int 0), (2, .int 0), (0, .ref a0), (1, .int p1)]) C dX1_constant_3 rfl (pm_nl X (by decide)) rfl ?_
  refine pm_iconst (v := (-1)) C dX1_constant_4 (by decide) ?_
  refine pm_istore (lv' := [(4, .int (-1)), (3, .int 0), (2, .int 0), (0, .ref a0), (1, .int p1)]) C dX1_constant_5 (pm_nl X (by decide)) rfl ?_
  refine pm_iconst (v := 0) C dX1_constant_7 (by decide) ?_
  refine pm_istore (lv' := [(5, .int 0), (4, .int (-1)), (3, .int 0), (2, .int 0), (0, .ref a0), (1, .int p1)]) C dX1_constant_8 (pm_nl X (by decide)) rfl ?_
  obtain ⟨n, hn⟩ := pm_lim_iter hf
  exact pm_sub [4, 5, 3, 2, 1, 0] rfl ((lpX1_constant C X q n).1 a0 p1 0 0 (-1) 0 h hn)
theorem dX1_dataAreRight_0 : decode cX1_dataAreRight 0 = .ok (.iconst 0, 1) := by decide +kernel
theorem dX1_dataAreRight_1 : decode cX1_dataAreRight 1 = .ok (.istore_n 1, 1) := by decide +kernel
theorem dX1_dataAreRight_2 : decode cX1_dataAreRight 2 = .ok (.iload_n 1, 1) := by decide +kernel
theorem dX1_dataAreRight_3 : decode cX1_dataAreRight 3 = .ok (.aload_n 0, 1) := by decide +kernel
theorem dX1_dataAreRight_4 : decode cX1_dataAreRight 4 = .ok (.getfield 40, 3) := by decide +kernel
theorem dX1_dataAreRight_7 : decode cX1_dataAreRight 7 = .ok (.getfield 185, 3) := by decide +kernel
theorem dX1_dataAreRight_10 : decode cX1_dataAreRight 10 = .ok (.arraylength, 1) := by decide +kernel
theorem dX1_dataAreRight_11 : decode cX1_dataAreRight 11 = .ok (.if_icmp .ge 98, 3) := by decide +kernel
theorem dX1_dataAreRight_14 : decode cX1_dataAreRight 14 = .ok (.aload_n 0, 1) := by decide +kernel
theorem dX1_dataAreRight_15 : decode cX1_dataAreRight 15 = .ok (.getfield 53, 3) := by decide +kernel
theorem dX1_dataAreRight_18 : decode cX1_dataAreRight 18 = .ok (.ifCond .ne 91, 3) := by decide +kernel
theorem dX1_dataAreRight_21 : decode cX1_dataAreRight 21 = .ok (.aload_n 0, 1) := by decide +kernel
theorem dX1_dataAreRight_22 : decode cX1_dataAreRight 22 = .ok (.getfield 40, 3) := by decide +kernel
theorem dX1_dataAreRight_25 : decode cX1_dataAreRight 25 = .ok (.getfield 185, 3) := by decide +kernel
theorem dX1_dataAreRight_28 : decode cX1_dataAreRight 28 = .ok (.iload_n 1, 1) := by decide +kernel
theorem dX1_dataAreRight_29 : decode cX1_dataAreRight 29 = .ok (.iconst 0, 1) := by decide +kernel
theorem dX1_dataAreRight_30 : decode cX1_dataAreRight 30 = .ok (.iadd, 1) := by decide +kernel
theorem dX1_dataAreRight_31 : decode cX1_dataAreRight 31 = .ok (.invokestatic 105, 3) := by decide +kernel
theorem dX1_dataAreRight_34 : decode cX1_dataAreRight 34 = .ok (.ifCond .eq 6, 3) := by decide +kernel
theorem dX1_dataAreRight_37 : decode cX1_dataAreRight 37 = .ok (.goto 66, 3) := by decide +kernel
theorem dX1_dataAreRight_40 : decode cX1_dataAreRight 40 = .ok (.aload_n 0, 1) := by decide +kernel
theorem dX1_dataAreRight_41 : decode cX1_dataAreRight 41 = .ok (.getfield 40, 3) := by decide +kernel
theorem dX1_dataAreRight_44 : decode cX1_dataAreRight 44 = .ok (.iconst 2, 1) := by decide +kernel
theorem dX1_dataAreRight_45 : decode cX1_dataAreRight 45 = .ok (.aload_n 0, 1) := by decide +kernel
theorem dX1_dataAreRight_46 : decode cX1_dataAreRight 46 = .ok (.getfield 40, 3) := by decide +kernel
theorem dX1_dataAreRight_49 : decode cX1_dataAreRight 49 = .ok (.getfield 185, 3) := by decide +kernel
theorem dX1_dataAreRight_52 : decode cX1_dataAreRight 52 = .ok (.iload_n 1, 1) := by decide +kernel
theorem dX1_dataAreRight_53 : decode cX1_dataAreRight 53 = .ok (.iconst 1, 1) := by decide +kernel
theorem dX1_dataAreRight_54 : decode cX1_dataAreRight 54 = .ok (.iadd, 1) := by decide +kernel
theorem dX1_dataAreRight_55 : decode cX1_dataAreRight 55 = .ok (.invokestatic 105, 3) := by decide +kernel
theorem dX1_dataAreRight_58 : decode cX1_dataAreRight 58 = .ok (.i2l, 1) := by decide +kernel
theorem dX1_dataAreRight_59 : decode cX1_dataAreRight 59 = .ok (.invokevirtual 146, 3) := by decide +kernel
theorem dX1_dataAreRight_62 : decode cX1_dataAreRight 62 = .ok (.ifCond .ne 11, 3) := by decide +kernel
theorem dX1_dataAreRight_65 : decode cX1_dataAreRight 65 = .ok (.aload_n 0, 1) := by decide +kernel
theorem dX1_dataAreRight_66 : decode cX1_dataAreRight 66 = .ok (.bipush 28, 2) := by decide +kernel
theorem dX1_dataAreRight_68 : decode cX1_dataAreRight 68 = .ok (.bipush 11, 2) := by decide +kernel
theorem dX1_dataAreRight_70 : decode cX1_dataAreRight 70 = .ok (.invokevirtual 119, 3) := by decide +kernel
theorem dX1_dataAreRight_73 : decode cX1_dataAreRight 73 = .ok (.aload_n 0, 1) := by decide +kernel
theorem dX1_dataAreRight_74 : decode cX1_dataAreRight 74 = .ok (.getfield 36, 3) := by decide +kernel
theorem dX1_dataAreRight_77 : decode cX1_dataAreRight 77 = .ok (.aload_n 0, 1) := by decide +kernel
theorem dX1_dataAreRight_78 : decode cX1_dataAreRight 78 = .ok (.getfield 40, 3) := by decide +kernel
theorem dX1_dataAreRight_81 : decode cX1_dataAreRight 81 = .ok (.aload_n 0, 1) := by decide +kernel
theorem dX1_dataAreRight_82 : decode cX1_dataAreRight 82 = .ok (.getfield 40, 3) := by decide +kernel
theorem dX1_dataAreRight_85 : decode cX1_dataAreRight 85 = .ok (.getfield 185, 3) := by decide +kernel
theorem dX1_dataAreRight_88 : decode cX1_dataAreRight 88 = .ok (.iload_n 1, 1) := by decide +kernel
theorem dX1_dataAreRight_89 : decode cX1_dataAreRight 89 = .ok (.iconst 2, 1) := by decide +kernel
theorem dX1_dataAreRight_90 : decode cX1_dataAreRight 90 = .ok (.iadd, 1) := by decide +kernel
theorem dX1_dataAreRight_91 : decode cX1_dataAreRight 91 = .ok (.invokestatic 105, 3) := by decide +kernel
theorem dX1_dataAreRight_94 : decode cX1_dataAreRight 94 = .ok (.invokevirtual 170, 3) := by decide +kernel
theorem dX1_dataAreRight_97 : decode cX1_dataAreRight 97 = .ok (.aload_n 0, 1) := by decide +kernel
theorem dX1_dataAreRight_98 : decode cX1_dataAreRight 98 = .ok (.bipush 127, 2) := by decide +kernel
theorem dX1_dataAreRight_100 : decode cX1_dataAreRight 100 = .ok (.invokevirtual 174, 3) := by decide +kernel
theorem dX1_dataAreRight_103 : decode cX1_dataAreRight 103 = .ok (.iinc 1 7, 3) := by decide +kernel
theorem dX1_dataAreRight_106 : decode cX1_dataAreRight 106 = .ok (.goto (-104), 3) := by decide +kernel
theorem dX1_dataAreRight_109 : decode cX1_dataAreRight 109 = .ok (.return_, 1) := by decide +kernel
noncomputable def tX1_dataAreRight_2 (x0 : Nat) (x1 : Int32) (h : pm_H) : Option (((Nat × Int32 × pm_H)) ⊕ pm_H) := if pm_kd h x0 = 1 then (pm_R h x0 2).bind fun v2 => if pm_kd h v2 = 7 then (pm_R h v2 10).bind fun v5 => if pm_kd h v5 = 34 then if (Int32.ofNat (pm_ln h v5)) ≤ x1 then (some (.inr (h))) else (if (pm_I h x0 0) = 0 then ((fX12_item h v5 (x1 + 0)).bind fun v10 => if v10 = 0 then ((fX12_item h v5 (x1 + 1)).bind fun v13 => (fX7_has h v2 2 v13.toInt64).bind fun v15 => if v15 = 0 then ((fX1_failSection h x0 28 11).bind fun v30 => if pm_kd v30 x0 = 1 then (pm_R v30 x0 3).bind fun v33 => (pm_R v30 x0 2).bind fun v35 => if pm_kd v30 v35 = 7 then (pm_R v30 v35 10).bind fun v38 => (fX12_item v30 v38 (x1 + 2)).bind fun v40 => if pm_kd v30 v33 = 9 then (fX9_open v30 v33 v35 v40).bind fun v43 => if pm_kd v43 x0 = 1 then (fX1_constant v43 x0 127).bind fun v46 => pm_let (x1 + 7) fun y48 => some (.inl ((x0, y48, v46))) else none else none else none else none) else ((pm_R h x0 3).bind fun v18 => (fX12_item h v5 (x1 + 2)).bind fun v20 => if pm_kd h v18 = 9 then (fX9_open h v18 v2 v20).bind fun v23 => if pm_kd v23 x0 = 1 then (fX1_constant v23 x0 127).bind fun v26 => pm_let (x1 + 7) fun y28 => some (.inl ((x0, y28, v26))) else none else none)) else (pm_let (x1 + 7) fun y50 => some (.inl ((x0, y50, h))))) else (some (.inr (h)))) else none else none else none
noncomputable def sX1_dataAreRight : ((Nat × Int32 × pm_H)) → Option (((Nat × Int32 × pm_H)) ⊕ pm_H) := fun z => match z with
  | (x0, x1, h) => tX1_dataAreRight_2 x0 x1 h
noncomputable def fX1_dataAreRight (h : pm_H) (a0 : Nat) : Option pm_H := pm_lim sX1_dataAreRight ((a0, 0, h))
set_option maxHeartbeats 4000000 in
set_option maxRecDepth 100000 in
theorem lpX1_dataAreRight {g : pm_Gm} {l : Launch} {G : pm_Gl} {Qr : Option Value → pm_H → Prop} (C : pm_C g cX1_dataAreRight RX1) (X : pm_X g l G mX1_dataAreRight 0 0 Qr) {r : pm_H} (q : Qr none r) : ∀ n : Nat, (∀ (x0 : Nat) (x1 : Int32) (h : pm_H), pm_iter sX1_dataAreRight n (x0, x1, h) = some r → pm_G g 2 [(0, .ref x0), (1, .int x1)] [] h 0 0) := by
  intro n
  induction n with
  | zero => exact fun _ _ _ hf => (by cases hf)
  | succ n ih =>
    refine fun x0 x1 h hf => ?_
    obtain ⟨y, hf, hi⟩ := pm_iter_s hf
    have hf : tX1_dataAreRight_2 x0 x1 h = some y := hf
    unfold tX1_dataAreRight_2 at hf
    refine pm_iload_n C dX1_dataAreRight_2 rfl rfl ?_
    refine pm_aload_n C dX1_dataAreRight_3 rfl rfl ?_
    obtain ⟨k1, hf⟩ := pm_if hf
    obtain ⟨v2, e3, hf⟩ := pm_bd hf
    refine pm_getR C dX1_dataAreRight_4 flX1_40 rfl k1 e3 ?_
    obtain ⟨k4, hf⟩ := pm_if hf
    obtain ⟨v5, e6, hf⟩ := pm_bd hf
    refine pm_getR C dX1_dataAreRight_7 flX1_185 rfl k4 e6 ?_
    obtain ⟨k7, hf⟩ := pm_if hf
    refine pm_alen (t := 2) C dX1_dataAreRight_10 (by decide) k7 rfl ?_
    refine pm_icmp_ge (tgt := 109) C dX1_dataAreRight_11 (by decide) (fun c8 => ?_) (fun c8 => ?_)
    · have hf := pm_it hf c8
      cases hf
      cases hi
      exact pm_vret C X dX1_dataAreRight_109 rfl (Nat.le_refl _) (Nat.le_refl _) q
    · have hf := pm_ie hf c8
      refine pm_aload_n C dX1_dataAreRight_14 rfl rfl ?_
      refine pm_getI C dX1_dataAreRight_15 flX1_53 rfl k1 rfl ?_
      refine pm_if_ne (tgt := 109) C dX1_dataAreRight_18 (by decide) (fun c9 => ?_) (fun c9 => ?_)
      · have hf := pm_ie hf c9
        cases hf
        cases hi
        exact pm_vret C X dX1_dataAreRight_109 rfl (Nat.le_refl _) (Nat.le_refl _) q
      · have hf := pm_it hf c9
        refine pm_aload_n C dX1_dataAreRight_21 rfl rfl ?_
        refine pm_getR C dX1_dataAreRight_22 flX1_40 rfl k1 e3 ?_
        refine pm_getR C dX1_dataAreRight_25 flX1_185 rfl k4 e6 ?_
        refine pm_iload_n C dX1_dataAreRight_28 rfl rfl ?_
        refine pm_iconst (v := 0) C dX1_dataAreRight_29 (by decide) ?_
        refine pm_iadd C dX1_dataAreRight_30 ?_
        obtain ⟨v10, e11, hf⟩ := pm_bd hf
        refine pm_callS (as := [.ref v5, .int (x1 + 0)]) (st := []) C X dX1_dataAreRight_31 lnX1_105 myX12_item stX12_item ⟨by decide, by decide⟩ rfl rfl (Nat.le_of_ble_eq_true rfl) (Nat.le_refl _) (Nat.le_refl _) (ctX12_item e11 ?_)
        show pm_G g 34 [(0, .ref x0), (1, .int x1)] [.int v10] h 0 0
        refine pm_if_eq (tgt := 40) C dX1_dataAreRight_34 (by decide) (fun c12 => ?_) (fun c12 => ?_)
        · have hf := pm_it hf c12
          refine pm_aload_n C dX1_dataAreRight_40 rfl rfl ?_
          refine pm_getR C dX1_dataAreRight_41 flX1_40 rfl k1 e3 ?_
          refine pm_iconst (v := 2) C dX1_dataAreRight_44 (by decide) ?_
          refine pm_aload_n C dX1_dataAreRight_45 rfl rfl ?_
          refine pm_getR C dX1_dataAreRight_46 flX1_40 rfl k1 e3 ?_
          refine pm_getR C dX1_dataAreRight_49 flX1_185 rfl k4 e6 ?_
          refine pm_iload_n C dX1_dataAreRight_52 rfl rfl ?_
          refine pm_iconst (v := 1) C dX1_dataAreRight_53 (by decide) ?_
          refine pm_iadd C dX1_dataAreRight_54 ?_
          obtain ⟨v13, e14, hf⟩ := pm_bd hf
          refine pm_callS (as := [.ref v5, .int (x1 + 1)]) (st := [.int 2, .ref v2]) C X dX1_dataAreRight_55 lnX1_105 myX12_item stX12_item ⟨by decide, by decide⟩ rfl rfl (Nat.le_of_ble_eq_true rfl) (Nat.le_refl _) (Nat.le_refl _) (ctX12_item e14 ?_)
          show pm_G g 58 [(0, .ref x0), (1, .int x1)] [.int v13, .int 2, .ref v2] h 0 0
          refine pm_i2l C dX1_dataAreRight_58 ?_
          obtain ⟨v15, e16, hf⟩ := pm_bd hf
          refine pm_callV (as := [.int 2, .long v13.toInt64]) (st := []) C X dX1_dataAreRight_59 lnX1_146 myX7_has viX7_has ⟨by decide, by decide⟩ rfl rfl k4 (Nat.le_of_ble_eq_true rfl) (Nat.le_refl _) (Nat.le_refl _) (ctX7_has e16 ?_)
          show pm_G g 62 [(0, .ref x0), (1, .int x1)] [.int v15] h 0 0
          refine pm_if_ne (tgt := 73) C dX1_dataAreRight_62 (by decide) (fun c17 => ?_) (fun c17 => ?_)
          · have hf := pm_ie hf c17
            refine pm_aload_n C dX1_dataAreRight_73 rfl rfl ?_
            obtain ⟨v18, e19, hf⟩ := pm_bd hf
            refine pm_getR C dX1_dataAreRight_74 flX1_36 rfl k1 e19 ?_
            refine pm_aload_n C dX1_dataAreRight_77 rfl rfl ?_
            refine pm_getR C dX1_dataAreRight_78 flX1_40 rfl k1 e3 ?_
            refine pm_aload_n C dX1_dataAreRight_81 rfl rfl ?_
            refine pm_getR C dX1_dataAreRight_82 flX1_40 rfl k1 e3 ?_
            refine pm_getR C dX1_dataAreRight_85 flX1_185 rfl k4 e6 ?_
            refine pm_iload_n C dX1_dataAreRight_88 rfl rfl ?_
            refine pm_iconst (v := 2) C dX1_dataAreRight_89 (by decide) ?_
            refine pm_iadd C dX1_dataAreRight_90 ?_
            obtain ⟨v20, e21, hf⟩ := pm_bd hf
            refine pm_callS (as := [.ref v5, .int (x1 + 2)]) (st := [.ref v2, .ref v18]) C X dX1_dataAreRight_91 lnX1_105 myX12_item stX12_item ⟨by decide, by decide⟩ rfl rfl (Nat.le_of_ble_eq_true rfl) (Nat.le_refl _) (Nat.le_refl _) (ctX12_item e21 ?_)
            show pm_G g 94 [(0, .ref x0), (1, .int x1)] [.int v20, .ref v2, .ref v18] h 0 0
            obtain ⟨k22, hf⟩ := pm_if hf
            obtain ⟨v23, e24, hf⟩ := pm_bd hf
            refine pm_callV (as := [.ref v2, .int v20]) (st := []) C X dX1_dataAreRight_94 lnX1_170 myX9_open viX9_open ⟨by decide, by decide⟩ rfl rfl k22 (Nat.le_of_ble_eq_true rfl) (Nat.le_refl _) (Nat.le_refl _) (ctX9_open e24 ?_)
            show pm_G g 97 [(0, .ref x0), (1, .int x1)] [] v23 0 0
            refine pm_aload_n C dX1_dataAreRight_97 rfl rfl ?_
            refine pm_bipush (v := 127) C dX1_dataAreRight_98 (by decide) ?_
            obtain ⟨k25, hf⟩ := pm_if hf
            obtain ⟨v26, e27, hf⟩ := pm_bd hf
            refine pm_callV (as := [.int 127]) (st := []) C X dX1_dataAreRight_100 lnX1_174 myX1_constant viX1_constant ⟨by decide, by decide⟩ rfl rfl k25 (Nat.le_of_ble_eq_true rfl) (Nat.le_refl _) (Nat.le_refl _) (ctX1_constant e27 ?_)
            show pm_G g 103 [(0, .ref x0), (1, .int x1)] [] v26 0 0
            obtain ⟨y28, e29, hf⟩ := pm_lt hf
            refine pm_iinc (v := y28) (lv' := [(1, .int y28), (0, .ref x0)]) C dX1_dataAreRight_103 rfl ((congrArg (x1 + ·) (by decide : Int32.ofInt 7 = 7)).trans e29) (pm_nl X (by decide)) rfl ?_
            refine pm_goto (tgt := 2) C dX1_dataAreRight_106 (by decide) ?_
            cases hf
            exact pm_sub [1, 0] rfl (ih x0 y28 v26 hi)
          · have hf := pm_it hf c17
            refine pm_aload_n C dX1_dataAreRight_65 rfl rfl ?_
            refine pm_bipush (v := 28) C dX1_dataAreRight_66 (by decide) ?_
            refine pm_bipush (v := 11) C dX1_dataAreRight_68 (by decide) ?_
            obtain ⟨v30, e31, hf⟩ := pm_bd hf
            refine pm_callV (as := [.int 28, .int 11]) (st := []) C X dX1_dataAreRight_70 lnX1_119 myX1_failSection viX1_failSection ⟨by decide, by decide⟩ rfl rfl k1 (Nat.le_of_ble_eq_true rfl) (Nat.le_refl _) (Nat.le_refl _) (ctX1_failSection e31 ?_)
            show pm_G g 73 [(0, .ref x0), (1, .int x1)] [] v30 0 0
            refine pm_aload_n C dX1_dataAreRight_73 rfl rfl ?_
            obtain ⟨k32, hf⟩ := pm_if hf
            obtain ⟨v33, e34, hf⟩ := pm_bd hf
            refine pm_getR C dX1_dataAreRight_74 flX1_36 rfl k32 e34 ?_
            refine pm_aload_n C dX1_dataAreRight_77 rfl rfl ?_
            obtain ⟨v35, e36, hf⟩ := pm_bd hf
            refine pm_getR C dX1_dataAreRight_78 flX1_40 rfl k32 e36 ?_
            refine pm_aload_n C dX1_dataAreRight_81 rfl rfl ?_
            refine pm_getR C dX1_dataAreRight_82 flX1_40 rfl k32 e36 ?_
            obtain ⟨k37, hf⟩ := pm_if hf
            obtain ⟨v38, e39, hf⟩ := pm_bd hf
            refine pm_getR C dX1_dataAreRight_85 flX1_185 rfl k37 e39 ?_
            refine pm_iload_n C dX1_dataAreRight_88 rfl rfl ?_
            refine pm_iconst (v := 2) C dX1_dataAreRight_89 (by decide) ?_
            refine pm_iadd C dX1_dataAreRight_90 ?_
            obtain ⟨v40, e41, hf⟩ := pm_bd hf
            refine pm_callS (as := [.ref v38, .int (x1 + 2)]) (st := [.ref v35, .ref v33]) C X dX1_dataAreRight_91 lnX1_105 myX12_item stX12_item ⟨by decide, by decide⟩ rfl rfl (Nat.le_of_ble_eq_true rfl) (Nat.le_refl _) (Nat.le_refl _) (ctX12_item e41 ?_)
            show pm_G g 94 [(0, .ref x0), (1, .int x1)] [.int v40, .ref v35, .ref v33] v30 0 0
            obtain ⟨k42, hf⟩ := pm_if hf
            obtain ⟨v43, e44, hf⟩ := pm_bd hf
            refine pm_callV (as := [.ref v35, .int v40]) (st := []) C X dX1_dataAreRight_94 lnX1_170 myX9_open viX9_open ⟨by decide, by decide⟩ rfl rfl k42 (Nat.le_of_ble_eq_true rfl) (Nat.le_refl _) (Nat.le_refl _) (ctX9_open e44 ?_)
            show pm_G g 97 [(0, .ref x0), (1, .int x1)] [] v43 0 0
            refine pm_aload_n C dX1_dataAreRight_97 rfl rfl ?_
            refine pm_bipush (v := 127) C dX1_dataAreRight_98 (by decide) ?_
            obtain ⟨k45, hf⟩ := pm_if hf
            obtain ⟨v46, e47, hf⟩ := pm_bd hf
            refine pm_callV (as := [.int 127]) (st := []) C X dX1_dataAreRight_100 lnX1_174 myX1_constant viX1_constant ⟨by decide, by decide⟩ rfl rfl k45 (Nat.le_of_ble_eq_true rfl) (Nat.le_refl _) (Nat.le_refl _) (ctX1_constant e47 ?_)
            show pm_G g 103 [(0, .ref x0), (1, .int x1)] [] v46 0 0
            obtain ⟨y48, e49, hf⟩ := pm_lt hf
            refine pm_iinc (v := y48) (lv' := [(1, .int y48), (0, .ref x0)]) C dX1_dataAreRight_103 rfl ((congrArg (x1 + ·) (by decide : Int32.ofInt 7 = 7)).trans e49) (pm_nl X (by decide)) rfl ?_
            refine pm_goto (tgt := 2) C dX1_dataAreRight_106 (by decide) ?_
            cases hf
            exact pm_sub [1, 0] rfl (ih x0 y48 v46 hi)
        · have hf := pm_ie hf c12
          refine pm_goto (tgt := 103) C dX1_dataAreRight_37 (by decide) ?_
          obtain ⟨y50, e51, hf⟩ := pm_lt hf
          refine pm_iinc (v := y50) (lv' := [(1, .int y50), (0, .ref x0)]) C dX1_dataAreRight_103 rfl ((congrArg (x1 + ·) (by decide : Int32.ofInt 7 = 7)).trans e51) (pm_nl X (by decide)) rfl ?_
          refine pm_goto (tgt := 2) C dX1_dataAreRight_106 (by decide) ?_
          cases hf
          exact pm_sub [1, 0] rfl (ih x0 y50 h hi)
set_option maxHeartbeats 4000000 in
set_option maxRecDepth 100000 in
theorem ctX1_dataAreRight {l : Launch} {G : pm_Gl} {h : pm_H} {a0 : Nat} {r : pm_H} {Qr : Option Value → pm_H → Prop} (hf : fX1_dataAreRight h a0 = some r) (q : Qr none r) : pm_Ct l G mX1_dataAreRight [.ref a0] h 0 0 Qr := by
  refine pm_body pnX1 (Nat.le_of_ble_eq_true rfl) (fun g C X => ?_)
  have C : pm_C g cX1_dataAreRight RX1 := C
  show pm_G g 0 [(0, .ref a0)] [] h 0 0
  unfold fX1_dataAreRight at hf
  refine pm_iconst (v := 0) C dX1_dataAreRight_0 (by decide) ?_
  refine pm_istore_n (lv' := [(1, .int 0), (0, .ref a0)]) C dX1_dataAreRight_1 rfl (pm_nl X (by decide)) rfl ?_
  obtain ⟨n, hn⟩ := pm_lim_iter hf
  exact pm_sub [1, 0] rfl ((lpX1_dataAreRight C X q n) a0 0 h hn)
theorem dX1_elementsAreRight_0 : decode cX1_elementsAreRight 0 = .ok (.iconst 0, 1) := by decide +kernel
theorem dX1_elementsAreRight_1 : decode cX1_elementsAreRight 1 = .ok (.istore_n 1, 1) := by decide +kernel
theorem dX1_elementsAreRight_2 : decode cX1_elementsAreRight 2 = .ok (.iload_n 1, 1) := by decide +kernel
theorem dX1_elementsAreRight_3 : decode cX1_elementsAreRight 3 = .ok (.aload_n 0, 1) := by decide +kernel
theorem dX1_elementsAreRight_4 : decode cX1_elementsAreRight 4 = .ok (.getfield 40, 3) := by decide +kernel
theorem dX1_elementsAreRight_7 : decode cX1_elementsAreRight 7 = .ok (.getfield 178, 3) := by decide +kernel
theorem dX1_elementsAreRight_10 : decode cX1_elementsAreRight 10 = .ok (.arraylength, 1) := by decide +kernel
theorem dX1_elementsAreRight_11 : decode cX1_elementsAreRight 11 = .ok (.if_icmp .ge 323, 3) := by decide +kernel
theorem dX1_elementsAreRight_14 : decode cX1_elementsAreRight 14 = .ok (.aload_n 0, 1) := by decide +kernel
theorem dX1_elementsAreRight_15 : decode cX1_elementsAreRight 15 = .ok (.getfield 53, 3) := by decide +kernel
theorem dX1_elementsAreRight_18 : decode cX1_elementsAreRight 18 = .ok (.ifCond .ne 316, 3) := by decide +kernel
theorem dX1_elementsAreRight_21 : decode cX1_elementsAreRight 21 = .ok (.aload_n 0, 1) := by decide +kernel
theorem dX1_elementsAreRight_22 : decode cX1_elementsAreRight 22 = .ok (.getfield 40, 3) := by decide +kernel
theorem dX1_elementsAreRight_25 : decode cX1_elementsAreRight 25 = .ok (.getfield 178, 3) := by decide +kernel
theorem dX1_elementsAreRight_28 : decode cX1_elementsAreRight 28 = .ok (.iload_n 1, 1) := by decide +kernel
theorem dX1_elementsAreRight_29 : decode cX1_elementsAreRight 29 = .ok (.iconst 4, 1) := by decide +kernel
theorem dX1_elementsAreRight_30 : decode cX1_elementsAreRight 30 = .ok (.iadd, 1) := by decide +kernel
theorem dX1_elementsAreRight_31 : decode cX1_elementsAreRight 31 = .ok (.invokestatic 105, 3) := by decide +kernel
theorem dX1_elementsAreRight_34 : decode cX1_elementsAreRight 34 = .ok (.istore_n 2, 1) := by decide +kernel
theorem dX1_elementsAreRight_35 : decode cX1_elementsAreRight 35 = .ok (.aload_n 0, 1) := by decide +kernel
theorem dX1_elementsAreRight_36 : decode cX1_elementsAreRight 36 = .ok (.getfield 40, 3) := by decide +kernel
theorem dX1_elementsAreRight_39 : decode cX1_elementsAreRight 39 = .ok (.getfield 178, 3) := by decide +kernel
theorem dX1_elementsAreRight_42 : decode cX1_elementsAreRight 42 = .ok (.iload_n 1, 1) := by decide +kernel
theorem dX1_elementsAreRight_43 : decode cX1_elementsAreRight 43 = .ok (.iconst 5, 1) := by decide +kernel
theorem dX1_elementsAreRight_44 : decode cX1_elementsAreRight 44 = .ok (.iadd, 1) := by decide +kernel
theorem dX1_elementsAreRight_45 : decode cX1_elementsAreRight 45 = .ok (.invokestatic 105, 3) := by decide +kernel
theorem dX1_elementsAreRight_48 : decode cX1_elementsAreRight 48 = .ok (.istore_n 3, 1) := by decide +kernel
theorem dX1_elementsAreRight_49 : decode cX1_elementsAreRight 49 = .ok (.aload_n 0, 1) := by decide +kernel
theorem dX1_elementsAreRight_50 : decode cX1_elementsAreRight 50 = .ok (.getfield 40, 3) := by decide +kernel
theorem dX1_elementsAreRight_53 : decode cX1_elementsAreRight 53 = .ok (.getfield 178, 3) := by decide +kernel
theorem dX1_elementsAreRight_56 : decode cX1_elementsAreRight 56 = .ok (.iload_n 1, 1) := by decide +kernel
theorem dX1_elementsAreRight_57 : decode cX1_elementsAreRight 57 = .ok (.iconst 1, 1) := by decide +kernel
theorem dX1_elementsAreRight_58 : decode cX1_elementsAreRight 58 = .ok (.iadd, 1) := by decide +kernel
theorem dX1_elementsAreRight_59 : decode cX1_elementsAreRight 59 = .ok (.invokestatic 105, 3) := by decide +kernel
theorem dX1_elementsAreRight_62 : decode cX1_elementsAreRight 62 = .ok (.istore 4, 2) := by decide +kernel
theorem dX1_elementsAreRight_64 : decode cX1_elementsAreRight 64 = .ok (.aload_n 0, 1) := by decide +kernel
theorem dX1_elementsAreRight_65 : decode cX1_elementsAreRight 65 = .ok (.getfield 40, 3) := by decide +kernel
theorem dX1_elementsAreRight_68 : decode cX1_elementsAreRight 68 = .ok (.getfield 178, 3) := by decide +kernel
theorem dX1_elementsAreRight_71 : decode cX1_elementsAreRight 71 = .ok (.iload_n 1, 1) := by decide +kernel
theorem dX1_elementsAreRight_72 : decode cX1_elementsAreRight 72 = .ok (.bipush 6, 2) := by decide +kernel
theorem dX1_elementsAreRight_74 : decode cX1_elementsAreRight 74 = .ok (.iadd, 1) := by decide +kernel
theorem dX1_elementsAreRight_75 : decode cX1_elementsAreRight 75 = .ok (.invokestatic 105, 3) := by decide +kernel
theorem dX1_elementsAreRight_78 : decode cX1_elementsAreRight 78 = .ok (.ifCond .eq 7, 3) := by decide +kernel
theorem dX1_elementsAreRight_81 : decode cX1_elementsAreRight 81 = .ok (.iconst 1, 1) := by decide +kernel
theorem dX1_elementsAreRight_82 : decode cX1_elementsAreRight 82 = .ok (.goto 4, 3) := by decide +kernel
theorem dX1_elementsAreRight_85 : decode cX1_elementsAreRight 85 = .ok (.iconst 0, 1) := by decide +kernel
theorem dX1_elementsAreRight_86 : decode cX1_elementsAreRight 86 = .ok (.istore 5, 2) := by decide +kernel
theorem dX1_elementsAreRight_88 : decode cX1_elementsAreRight 88 = .ok (.aload_n 0, 1) := by decide +kernel
theorem dX1_elementsAreRight_89 : decode cX1_elementsAreRight 89 = .ok (.getfield 40, 3) := by decide +kernel
theorem dX1_elementsAreRight_92 : decode cX1_elementsAreRight 92 = .ok (.getfield 178, 3) := by decide +kernel
theorem dX1_elementsAreRight_95 : decode cX1_elementsAreRight 95 = .ok (.iload_n 1, 1) := by decide +kernel
theorem dX1_elementsAreRight_96 : decode cX1_elementsAreRight 96 = .ok (.iconst 0, 1) := by decide +kernel
theorem dX1_elementsAreRight_97 : decode cX1_elementsAreRight 97 = .ok (.iadd, 1) := by decide +kernel
theorem dX1_elementsAreRight_98 : decode cX1_elementsAreRight 98 = .ok (.invokestatic 105, 3) := by decide +kernel
theorem dX1_elementsAreRight_101 : decode cX1_elementsAreRight 101 = .ok (.ifCond .ne 7, 3) := by decide +kernel
theorem dX1_elementsAreRight_104 : decode cX1_elementsAreRight 104 = .ok (.iconst 1, 1) := by decide +kernel
theorem dX1_elementsAreRight_105 : decode cX1_elementsAreRight 105 = .ok (.goto 4, 3) := by decide +kernel
theorem dX1_elementsAreRight_108 : decode cX1_elementsAreRight 108 = .ok (.iconst 0, 1) := by decide +kernel
theorem dX1_elementsAreRight_109 : decode cX1_elementsAreRight 109 = .ok (.istore 6, 2) := by decide +kernel
theorem dX1_elementsAreRight_111 : decode cX1_elementsAreRight 111 = .ok (.aload_n 0, 1) := by decide +kernel
theorem dX1_elementsAreRight_112 : decode cX1_elementsAreRight 112 = .ok (.getfield 36, 3) := by decide +kernel
theorem dX1_elementsAreRight_115 : decode cX1_elementsAreRight 115 = .ok (.aload_n 0, 1) := by decide +kernel
theorem dX1_elementsAreRight_116 : decode cX1_elementsAreRight 116 = .ok (.getfield 40, 3) := by decide +kernel
theorem dX1_elementsAreRight_119 : decode cX1_elementsAreRight 119 = .ok (.aload_n 0, 1) := by decide +kernel
theorem dX1_elementsAreRight_120 : decode cX1_elementsAreRight 120 = .ok (.getfield 40, 3) := by decide +kernel
theorem dX1_elementsAreRight_123 : decode cX1_elementsAreRight 123 = .ok (.getfield 178, 3) := by decide +kernel
theorem dX1_elementsAreRight_126 : decode cX1_elementsAreRight 126 = .ok (.iload_n 1, 1) := by decide +kernel
theorem dX1_elementsAreRight_127 : decode cX1_elementsAreRight 127 = .ok (.iconst 3, 1) := by decide +kernel
theorem dX1_elementsAreRight_128 : decode cX1_elementsAreRight 128 = .ok (.iadd, 1) := by decide +kernel
theorem dX1_elementsAreRight_129 : decode cX1_elementsAreRight 129 = .ok (.invokestatic 105, 3) := by decide +kernel
theorem dX1_elementsAreRight_132 : decode cX1_elementsAreRight 132 = .ok (.invokevirtual 170, 3) := by decide +kernel
theorem dX1_elementsAreRight_135 : decode cX1_elementsAreRight 135 = .ok (.iconst 0, 1) := by decide +kernel
theorem dX1_elementsAreRight_136 : decode cX1_elementsAreRight 136 = .ok (.istore 7, 2) := by decide +kernel
theorem dX1_elementsAreRight_138 : decode cX1_elementsAreRight 138 = .ok (.iload 7, 2) := by decide +kernel
theorem dX1_elementsAreRight_140 : decode cX1_elementsAreRight 140 = .ok (.iload_n 2, 1) := by decide +kernel
theorem dX1_elementsAreRight_141 : decode cX1_elementsAreRight 141 = .ok (.if_icmp .ge 52, 3) := by decide +kernel
theorem dX1_elementsAreRight_144 : decode cX1_elementsAreRight 144 = .ok (.iload 5, 2) := by decide +kernel
theorem dX1_elementsAreRight_146 : decode cX1_elementsAreRight 146 = .ok (.ifCond .ne 47, 3) := by decide +kernel
theorem dX1_elementsAreRight_149 : decode cX1_elementsAreRight 149 = .ok (.aload_n 0, 1) := by decide +kernel
theorem dX1_elementsAreRight_150 : decode cX1_elementsAreRight 150 = .ok (.getfield 36, 3) := by decide +kernel
theorem dX1_elementsAreRight_153 : decode cX1_elementsAreRight 153 = .ok (.bipush 32, 2) := by decide +kernel
theorem dX1_elementsAreRight_155 : decode cX1_elementsAreRight 155 = .ok (.invokevirtual 181, 3) := by decide +kernel
theorem dX1_elementsAreRight_158 : decode cX1_elementsAreRight 158 = .ok (.lstore 8, 2) := by decide +kernel
theorem dX1_elementsAreRight_160 : decode cX1_elementsAreRight 160 = .ok (.aload_n 0, 1) := by decide +kernel
theorem dX1_elementsAreRight_161 : decode cX1_elementsAreRight 161 = .ok (.getfield 40, 3) := by decide +kernel
theorem dX1_elementsAreRight_164 : decode cX1_elementsAreRight 164 = .ok (.iconst 0, 1) := by decide +kernel
theorem dX1_elementsAreRight_165 : decode cX1_elementsAreRight 165 = .ok (.lload 8, 2) := by decide +kernel
theorem dX1_elementsAreRight_167 : decode cX1_elementsAreRight 167 = .ok (.invokevirtual 146, 3) := by decide +kernel
theorem dX1_elementsAreRight_170 : decode cX1_elementsAreRight 170 = .ok (.ifCond .ne 11, 3) := by decide +kernel
theorem dX1_elementsAreRight_173 : decode cX1_elementsAreRight 173 = .ok (.aload_n 0, 1) := by decide +kernel
theorem dX1_elementsAreRight_174 : decode cX1_elementsAreRight 174 = .ok (.bipush 28, 2) := by decide +kernel
theorem dX1_elementsAreRight_176 : decode cX1_elementsAreRight 176 = .ok (.bipush 9, 2) := by decide +kernel
theorem dX1_elementsAreRight_178 : decode cX1_elementsAreRight 178 = .ok (.invokevirtual 119, 3) := by decide +kernel
theorem dX1_elementsAreRight_181 : decode cX1_elementsAreRight 181 = .ok (.aload_n 0, 1) := by decide +kernel
theorem dX1_elementsAreRight_182 : decode cX1_elementsAreRight 182 = .ok (.lload 8, 2) := by decide +kernel
theorem dX1_elementsAreRight_184 : decode cX1_elementsAreRight 184 = .ok (.invokevirtual 150, 3) := by decide +kernel
theorem dX1_elementsAreRight_187 : decode cX1_elementsAreRight 187 = .ok (.iinc 7 1, 3) := by decide +kernel
theorem dX1_elementsAreRight_190 : decode cX1_elementsAreRight 190 = .ok (.goto (-52), 3) := by decide +kernel
theorem dX1_elementsAreRight_193 : decode cX1_elementsAreRight 193 = .ok (.iload 6, 2) := by decide +kernel
theorem dX1_elementsAreRight_195 : decode cX1_elementsAreRight 195 = .ok (.ifCond .eq 42, 3) := by decide +kernel
theorem dX1_elementsAreRight_198 : decode cX1_elementsAreRight 198 = .ok (.aload_n 0, 1) := by decide +kernel
theorem dX1_elementsAreRight_199 : decode cX1_elementsAreRight 199 = .ok (.getfield 40, 3) := by decide +kernel
theorem dX1_elementsAreRight_202 : decode cX1_elementsAreRight 202 = .ok (.iconst 1, 1) := by decide +kernel
theorem dX1_elementsAreRight_203 : decode cX1_elementsAreRight 203 = .ok (.iload 4, 2) := by decide +kernel
theorem dX1_elementsAreRight_205 : decode cX1_elementsAreRight 205 = .ok (.i2l, 1) := by decide +kernel
theorem dX1_elementsAreRight_206 : decode cX1_elementsAreRight 206 = .ok (.invokevirtual 146, 3) := by decide +kernel
theorem dX1_elementsAreRight_209 : decode cX1_elementsAreRight 209 = .ok (.ifCond .eq 20, 3) := by decide +kernel
theorem dX1_elementsAreRight_212 : decode cX1_elementsAreRight 212 = .ok (.aload_n 0, 1) := by decide +kernel
theorem dX1_elementsAreRight_213 : decode cX1_elementsAreRight 213 = .ok (.getfield 40, 3) := by decide +kernel
theorem dX1_elementsAreRight_216 : decode cX1_elementsAreRight 216 = .ok (.iconst 1, 1) := by decide +kernel
theorem dX1_elementsAreRight_217 : decode cX1_elementsAreRight 217 = .ok (.iload 4, 2) := by decide +kernel
theorem dX1_elementsAreRight_219 : decode cX1_elementsAreRight 219 = .ok (.iconst 1, 1) := by decide +kernel
theorem dX1_elementsAreRight_220 : decode cX1_elementsAreRight 220 = .ok (.invokevirtual 122, 3) := by decide +kernel
theorem dX1_elementsAreRight_223 : decode cX1_elementsAreRight 223 = .ok (.iload_n 3, 1) := by decide +kernel
theorem dX1_elementsAreRight_224 : decode cX1_elementsAreRight 224 = .ok (.i2l, 1) := by decide +kernel
theorem dX1_elementsAreRight_225 : decode cX1_elementsAreRight 225 = .ok (.lcmp, 1) := by decide +kernel
theorem dX1_elementsAreRight_226 : decode cX1_elementsAreRight 226 = .ok (.ifCond .eq 11, 3) := by decide +kernel
theorem dX1_elementsAreRight_229 : decode cX1_elementsAreRight 229 = .ok (.aload_n 0, 1) := by decide +kernel
theorem dX1_elementsAreRight_230 : decode cX1_elementsAreRight 230 = .ok (.bipush 28, 2) := by decide +kernel
theorem dX1_elementsAreRight_232 : decode cX1_elementsAreRight 232 = .ok (.bipush 9, 2) := by decide +kernel
theorem dX1_elementsAreRight_234 : decode cX1_elementsAreRight 234 = .ok (.invokevirtual 119, 3) := by decide +kernel
theorem dX1_elementsAreRight_237 : decode cX1_elementsAreRight 237 = .ok (.aload_n 0, 1) := by decide +kernel
theorem dX1_elementsAreRight_238 : decode cX1_elementsAreRight 238 = .ok (.getfield 36, 3) := by decide +kernel
theorem dX1_elementsAreRight_241 : decode cX1_elementsAreRight 241 = .ok (.aload_n 0, 1) := by decide +kernel
theorem dX1_elementsAreRight_242 : decode cX1_elementsAreRight 242 = .ok (.getfield 40, 3) := by decide +kernel
theorem dX1_elementsAreRight_245 : decode cX1_elementsAreRight 245 = .ok (.aload_n 0, 1) := by decide +kernel
theorem dX1_elementsAreRight_246 : decode cX1_elementsAreRight 246 = .ok (.getfield 40, 3) := by decide +kernel
theorem dX1_elementsAreRight_249 : decode cX1_elementsAreRight 249 = .ok (.getfield 178, 3) := by decide +kernel
theorem dX1_elementsAreRight_252 : decode cX1_elementsAreRight 252 = .ok (.iload_n 1, 1) := by decide +kernel
theorem dX1_elementsAreRight_253 : decode cX1_elementsAreRight 253 = .ok (.iconst 2, 1) := by decide +kernel
theorem dX1_elementsAreRight_254 : decode cX1_elementsAreRight 254 = .ok (.iadd, 1) := by decide +kernel
theorem dX1_elementsAreRight_255 : decode cX1_elementsAreRight 255 = .ok (.invokestatic 105, 3) := by decide +kernel
theorem dX1_elementsAreRight_258 : decode cX1_elementsAreRight 258 = .ok (.invokevirtual 170, 3) := by decide +kernel
theorem dX1_elementsAreRight_261 : decode cX1_elementsAreRight 261 = .ok (.iload 6, 2) := by decide +kernel
theorem dX1_elementsAreRight_263 : decode cX1_elementsAreRight 263 = .ok (.ifCond .eq 9, 3) := by decide +kernel
theorem dX1_elementsAreRight_266 : decode cX1_elementsAreRight 266 = .ok (.aload_n 0, 1) := by decide +kernel
theorem dX1_elementsAreRight_267 : decode cX1_elementsAreRight 267 = .ok (.bipush 127, 2) := by decide +kernel
theorem dX1_elementsAreRight_269 : decode cX1_elementsAreRight 269 = .ok (.invokevirtual 174, 3) := by decide +kernel
theorem dX1_elementsAreRight_272 : decode cX1_elementsAreRight 272 = .ok (.aload_n 0, 1) := by decide +kernel
theorem dX1_elementsAreRight_273 : decode cX1_elementsAreRight 273 = .ok (.getfield 36, 3) := by decide +kernel
theorem dX1_elementsAreRight_276 : decode cX1_elementsAreRight 276 = .ok (.aload_n 0, 1) := by decide +kernel
theorem dX1_elementsAreRight_277 : decode cX1_elementsAreRight 277 = .ok (.getfield 40, 3) := by decide +kernel
theorem dX1_elementsAreRight_280 : decode cX1_elementsAreRight 280 = .ok (.aload_n 0, 1) := by decide +kernel
theorem dX1_elementsAreRight_281 : decode cX1_elementsAreRight 281 = .ok (.getfield 40, 3) := by decide +kernel
theorem dX1_elementsAreRight_284 : decode cX1_elementsAreRight 284 = .ok (.getfield 178, 3) := by decide +kernel
theorem dX1_elementsAreRight_287 : decode cX1_elementsAreRight 287 = .ok (.iload_n 1, 1) := by decide +kernel
theorem dX1_elementsAreRight_288 : decode cX1_elementsAreRight 288 = .ok (.iconst 3, 1) := by decide +kernel
theorem dX1_elementsAreRight_289 : decode cX1_elementsAreRight 289 = .ok (.iadd, 1) := by decide +kernel
theorem dX1_elementsAreRight_290 : decode cX1_elementsAreRight 290 = .ok (.invokestatic 105, 3) := by decide +kernel
theorem dX1_elementsAreRight_293 : decode cX1_elementsAreRight 293 = .ok (.invokevirtual 170, 3) := by decide +kernel
theorem dX1_elementsAreRight_296 : decode cX1_elementsAreRight 296 = .ok (.iconst 0, 1) := by decide +kernel
theorem dX1_elementsAreRight_297 : decode cX1_elementsAreRight 297 = .ok (.istore 7, 2) := by decide +kernel
theorem dX1_elementsAreRight_299 : decode cX1_elementsAreRight 299 = .ok (.iload 7, 2) := by decide +kernel
theorem dX1_elementsAreRight_301 : decode cX1_elementsAreRight 301 = .ok (.iload_n 2, 1) := by decide +kernel
theorem dX1_elementsAreRight_302 : decode cX1_elementsAreRight 302 = .ok (.if_icmp .ge 26, 3) := by decide +kernel
theorem dX1_elementsAreRight_305 : decode cX1_elementsAreRight 305 = .ok (.iload 5, 2) := by decide +kernel
theorem dX1_elementsAreRight_307 : decode cX1_elementsAreRight 307 = .ok (.ifCond .eq 21, 3) := by decide +kernel
theorem dX1_elementsAreRight_310 : decode cX1_elementsAreRight 310 = .ok (.aload_n 0, 1) := by decide +kernel
theorem dX1_elementsAreRight_311 : decode cX1_elementsAreRight 311 = .ok (.getfield 53, 3) := by decide +kernel
theorem dX1_elementsAreRight_314 : decode cX1_elementsAreRight 314 = .ok (.ifCond .ne 14, 3) := by decide +kernel
theorem dX1_elementsAreRight_317 : decode cX1_elementsAreRight 317 = .ok (.aload_n 0, 1) := by decide +kernel
theorem dX1_elementsAreRight_318 : decode cX1_elementsAreRight 318 = .ok (.iload_n 3, 1) := by decide +kernel
theorem dX1_elementsAreRight_319 : decode cX1_elementsAreRight 319 = .ok (.invokevirtual 174, 3) := by decide +kernel
theorem dX1_elementsAreRight_322 : decode cX1_elementsAreRight 322 = .ok (.iinc 7 1, 3) := by decide +kernel
theorem dX1_elementsAreRight_325 : decode cX1_elementsAreRight 325 = .ok (.goto (-26), 3) := by decide +kernel
theorem dX1_elementsAreRight_328 : decode cX1_elementsAreRight 328 = .ok (.iinc 1 7, 3) := by decide +kernel
theorem dX1_elementsAreRight_331 : decode cX1_elementsAreRight 331 = .ok (.goto (-329), 3) := by decide +kernel
theorem dX1_elementsAreRight_334 : decode cX1_elementsAreRight 334 = .ok (.return_, 1) := by decide +kernel
noncomputable def tX1_elementsAreRight_2 (x0 : Nat) (x1 : Int32) (h : pm_H) : Option (((Nat × Int32 × pm_H) ⊕ (Nat × Int32 × Int32 × Int32 × Int32 × Int32 × pm_H) ⊕ (Nat × Int32 × Int32 × Int32 × Int32 × Int32 × Int32 × Int32 × pm_H) ⊕ (Nat × Int32 × Int32 × Int32 × Int32 × Int32 × Int32 × pm_H) ⊕ (Nat × Int32 × Int32 × Int32 × Int32 × Int32 × pm_H) ⊕ (Nat × Int32 × Int32 × Int32 × Int32 × Int32 × pm_H)) ⊕ pm_H) := if pm_kd h x0 = 1 then (pm_R h x0 2).bind fun v2 => if pm_kd h v2 = 7 then (pm_R h v2 9).bind fun v5 => if pm_kd h v5 = 34 then if (Int32.ofNat (pm_ln h v5)) ≤ x1 then (some (.inr (h))) else (if (pm_I h x0 0) = 0 then ((fX12_item h v5 (x1 + 4)).bind fun v10 => (fX12_item h v5 (x1 + 5)).bind fun v12 => (fX12_item h v5 (x1 + 1)).bind fun v14 => (fX12_item h v5 (x1 + 6)).bind fun v16 => if v16 = 0 then (some (.inl (.inr (.inl ((x0, x1, v10, v12, v14, 0, h)))))) else (some (.inl (.inr (.inl ((x0, x1, v10, v12, v14, 1, h))))))) else (some (.inr (h)))) else none else none else none
noncomputable def tX1_elementsAreRight_86 (x0 : Nat) (x1 : Int32) (x2 : Int32) (x3 : Int32) (x4 : Int32) (s0 : Int32) (h : pm_H) : Option (((Nat × Int32 × pm_H) ⊕ (Nat × Int32 × Int32 × Int32 × Int32 × Int32 × pm_H) ⊕ (Nat × Int32 × Int32 × Int32 × Int32 × Int32 × Int32 × Int32 × pm_H) ⊕ (Nat × Int32 × Int32 × Int32 × Int32 × Int32 × Int32 × pm_H) ⊕ (Nat × Int32 × Int32 × Int32 × Int32 × Int32 × pm_H) ⊕ (Nat × Int32 × Int32 × Int32 × Int32 × Int32 × pm_H)) ⊕ pm_H) := if pm_kd h x0 = 1 then (pm_R h x0 2).bind fun v20 => if pm_kd h v20 = 7 then (pm_R h v20 9).bind fun v23 => (fX12_item h v23 (x1 + 0)).bind fun v25 => if v25 = 0 then ((pm_R h x0 3).bind fun v35 => (fX12_item h v23 (x1 + 3)).bind fun v37 => if pm_kd h v35 = 9 then (fX9_open h v35 v20 v37).bind fun v40 => some (.inl (.inr (.inr (.inl ((x0, x1, x2, x3, x4, s0, 1, 0, v40)))))) else none) else ((pm_R h x0 3).bind fun v28 => (fX12_item h v23 (x1 + 3)).bind fun v30 => if pm_kd h v28 = 9 then (fX9_open h v28 v20 v30).bind fun v33 => some (.inl (.inr (.inr (.inl ((x0, x1, x2, x3, x4, s0, 0, 0, v33)))))) else none) else none else none
noncomputable def tX1_elementsAreRight_138 (x0 : Nat) (x1 : Int32) (x2 : Int32) (x3 : Int32) (x4 : Int32) (x5 : Int32) (x6 : Int32) (x7 : Int32) (h : pm_H) : Option (((Nat × Int32 × pm_H) ⊕ (Nat × Int32 × Int32 × Int32 × Int32 × Int32 × pm_H) ⊕ (Nat × Int32 × Int32 × Int32 × Int32 × Int32 × Int32 × Int32 × pm_H) ⊕ (Nat × Int32 × Int32 × Int32 × Int32 × Int32 × Int32 × pm_H) ⊕ (Nat × Int32 × Int32 × Int32 × Int32 × Int32 × pm_H) ⊕ (Nat × Int32 × Int32 × Int32 × Int32 × Int32 × pm_H)) ⊕ pm_H) := if x2 ≤ x7 then (some (.inl (.inr (.inr (.inr (.inl ((x0, x1, x2, x3, x4, x5, x6, h)))))))) else (if x5 = 0 then (if pm_kd h x0 = 1 then (pm_R h x0 3).bind fun v45 => if pm_kd h v45 = 9 then (fX9_number h v45 32).bind fun v48 => if pm_kd v48.2 x0 = 1 then (pm_R v48.2 x0 2).bind fun v51 => if pm_kd v48.2 v51 = 7 then (fX7_has v48.2 v51 0 v48.1).bind fun v54 => if v54 = 0 then ((fX1_failSection v48.2 x0 28 9).bind fun v61 => if pm_kd v61 x0 = 1 then (fX1_declare v61 x0 v48.1).bind fun v64 => pm_let (x7 + 1) fun y66 => some (.inl (.inr (.inr (.inl ((x0, x1, x2, x3, x4, x5, x6, y66, v64)))))) else none) else ((fX1_declare v48.2 x0 v48.1).bind fun v57 => pm_let (x7 + 1) fun y59 => some (.inl (.inr (.inr (.inl ((x0, x1, x2, x3, x4, x5, x6, y59, v57))))))) else none else none else none else none) else (some (.inl (.inr (.inr (.inr (.inl ((x0, x1, x2, x3, x4, x5, x6, h)))))))))
noncomputable def tX1_elementsAreRight_193 (x0 : Nat) (x1 : Int32) (x2 : Int32) (x3 : Int32) (x4 : Int32) (x5 : Int32) (x6 : Int32) (h : pm_H) : Option (((Nat × Int32 × pm_H) ⊕ (Nat × Int32 × Int32 × Int32 × Int32 × Int32 × pm_H) ⊕ (Nat × Int32 × Int32 × Int32 × Int32 × Int32 × Int32 × Int32 × pm_H) ⊕ (Nat × Int32 × Int32 × Int32 × Int32 × Int32 × Int32 × pm_H) ⊕ (Nat × Int32 × Int32 × Int32 × Int32 × Int32 × pm_H) ⊕ (Nat × Int32 × Int32 × Int32 × Int32 × Int32 × pm_H)) ⊕ pm_H) := if x6 = 0 then (some (.inl (.inr (.inr (.inr (.inr (.inl ((x0, x1, x2, x3, x5, x6, h))))))))) else (if pm_kd h x0 = 1 then (pm_R h x0 2).bind fun v70 => if pm_kd h v70 = 7 then (fX7_has h v70 1 x4.toInt64).bind fun v73 => if v73 = 0 then ((fX1_failSection h x0 28 9).bind fun v76 => some (.inl (.inr (.inr (.inr (.inr (.inl ((x0, x1, x2, x3, x5, x6, v76))))))))) else ((fX7_of h v70 1 x4 1).bind fun v78 => if v78 = x3.toInt64 then (some (.inl (.inr (.inr (.inr (.inr (.inl ((x0, x1, x2, x3, x5, x6, h))))))))) else ((fX1_failSection h x0 28 9).bind fun v81 => some (.inl (.inr (.inr (.inr (.inr (.inl ((x0, x1, x2, x3, x5, x6, v81)))))))))) else none else none)
noncomputable def tX1_elementsAreRight_237 (x0 : Nat) (x1 : Int32) (x2 : Int32) (x3 : Int32) (x5 : Int32) (x6 : Int32) (h : pm_H) : Option (((Nat × Int32 × pm_H) ⊕ (Nat × Int32 × Int32 × Int32 × Int32 × Int32 × pm_H) ⊕ (Nat × Int32 × Int32 × Int32 × Int32 × Int32 × Int32 × Int32 × pm_H) ⊕ (Nat × Int32 × Int32 × Int32 × Int32 × Int32 × Int32 × pm_H) ⊕ (Nat × Int32 × Int32 × Int32 × Int32 × Int32 × pm_H) ⊕ (Nat × Int32 × Int32 × Int32 × Int32 × Int32 × pm_H)) ⊕ pm_H) := if pm_kd h x0 = 1 then (pm_R h x0 3).bind fun v84 => (pm_R h x0 2).bind fun v86 => if pm_kd h v86 = 7 then (pm_R h v86 9).bind fun v89 => (fX12_item h v89 (x1 + 2)).bind fun v91 => if pm_kd h v84 = 9 then (fX9_open h v84 v86 v91).bind fun v94 => if x6 = 0 then (if pm_kd v94 x0 = 1 then (pm_R v94 x0 3).bind fun v98 => (pm_R v94 x0 2).bind fun v100 => if pm_kd v94 v100 = 7 then (pm_R v94 v100 9).bind fun v103 => (fX12_item v94 v103 (x1 + 3)).bind fun v105 => if pm_kd v94 v98 = 9 then (fX9_open v94 v98 v100 v105).bind fun v108 => some (.inl (.inr (.inr (.inr (.inr (.inr ((x0, x1, x2, x3, x5, 0, v108)))))))) else none else none else none) else (if pm_kd v94 x0 = 1 then (fX1_constant v94 x0 127).bind fun v111 => if pm_kd v111 x0 = 1 then (pm_R v111 x0 3).bind fun v114 => (pm_R v111 x0 2).bind fun v116 => if pm_kd v111 v116 = 7 then (pm_R v111 v116 9).bind fun v119 => (fX12_item v111 v119 (x1 + 3)).bind fun v121 => if pm_kd v111 v114 = 9 then (fX9_open v111 v114 v116 v121).bind fun v124 => some (.inl (.inr (.inr (.inr (.inr (.inr ((x0, x1, x2, x3, x5, 0, v124)))))))) else none else none else none else none) else none else none else none
noncomputable def tX1_elementsAreRight_299 (x0 : Nat) (x1 : Int32) (x2 : Int32) (x3 : Int32) (x5 : Int32) (x7 : Int32) (h : pm_H) : Option (((Nat × Int32 × pm_H) ⊕ (Nat × Int32 × Int32 × Int32 × Int32 × Int32 × pm_H) ⊕ (Nat × Int32 × Int32 × Int32 × Int32 × Int32 × Int32 × Int32 × pm_H) ⊕ (Nat × Int32 × Int32 × Int32 × Int32 × Int32 × Int32 × pm_H) ⊕ (Nat × Int32 × Int32 × Int32 × Int32 × Int32 × pm_H) ⊕ (Nat × Int32 × Int32 × Int32 × Int32 × Int32 × pm_H)) ⊕ pm_H) := if x2 ≤ x7 then (pm_let (x1 + 7) fun y127 => some (.inl (.inl ((x0, y127, h))))) else (if x5 = 0 then (pm_let (x1 + 7) fun y130 => some (.inl (.inl ((x0, y130, h))))) else (if pm_kd h x0 = 1 then if (pm_I h x0 0) = 0 then ((fX1_constant h x0 x3).bind fun v136 => pm_let (x7 + 1) fun y138 => some (.inl (.inr (.inr (.inr (.inr (.inr ((x0, x1, x2, x3, x5, y138, v136))))))))) else (pm_let (x1 + 7) fun y134 => some (.inl (.inl ((x0, y134, h))))) else none))
noncomputable def sX1_elementsAreRight : ((Nat × Int32 × pm_H) ⊕ (Nat × Int32 × Int32 × Int32 × Int32 × Int32 × pm_H) ⊕ (Nat × Int32 × Int32 × Int32 × Int32 × Int32 × Int32 × Int32 × pm_H) ⊕ (Nat × Int32 × Int32 × Int32 × Int32 × Int32 × Int32 × pm_H) ⊕ (Nat × Int32 × Int32 × Int32 × Int32 × Int32 × pm_H) ⊕ (Nat × Int32 × Int32 × Int32 × Int32 × Int32 × pm_H)) → Option (((Nat × Int32 × pm_H) ⊕ (Nat × Int32 × Int32 × Int32 × Int32 × Int32 × pm_H) ⊕ (Nat × Int32 × Int32 × Int32 × Int32 × Int32 × Int32 × Int32 × pm_H) ⊕ (Nat × Int32 × Int32 × Int32 × Int32 × Int32 × Int32 × pm_H) ⊕ (Nat × Int32 × Int32 × Int32 × Int32 × Int32 × pm_H) ⊕ (Nat × Int32 × Int32 × Int32 × Int32 × Int32 × pm_H)) ⊕ pm_H) := fun z => match z with
  | .inl (x0, x1, h) => tX1_elementsAreRight_2 x0 x1 h
  | .inr (.inl (x0, x1, x2, x3, x4, s0, h)) => tX1_elementsAreRight_86 x0 x1 x2 x3 x4 s0 h
  | .inr (.inr (.inl (x0, x1, x2, x3, x4, x5, x6, x7, h))) => tX1_elementsAreRight_138 x0 x1 x2 x3 x4 x5 x6 x7 h
  | .inr (.inr (.inr (.inl (x0, x1, x2, x3, x4, x5, x6, h)))) => tX1_elementsAreRight_193 x0 x1 x2 x3 x4 x5 x6 h
  | .inr (.inr (.inr (.inr (.inl (x0, x1, x2, x3, x5, x6, h))))) => tX1_elementsAreRight_237 x0 x1 x2 x3 x5 x6 h
  | .inr (.inr (.inr (.inr (.inr (x0, x1, x2, x3, x5, x7, h))))) => tX1_elementsAreRight_299 x0 x1 x2 x3 x5 x7 h
noncomputable def fX1_elementsAreRight (h : pm_H) (a0 : Nat) : Option pm_H := pm_lim sX1_elementsAreRight (.inl ((a0, 0, h)))
set_option maxHeartbeats 4000000 in
set_option maxRecDepth 100000 in
theorem lpX1_elementsAreRight {g : pm_Gm} {l : Launch} {G : pm_Gl} {Qr : Option Value → pm_H → Prop} (C : pm_C g cX1_elementsAreRight RX1) (X : pm_X g l G mX1_elementsAreRight 0 0 Qr) {r : pm_H} (q : Qr none r) : ∀ n : Nat, (∀ (x0 : Nat) (x1 : Int32) (h : pm_H), pm_iter sX1_elementsAreRight n (.inl (x0, x1, h)) = some r → pm_G g 2 [(0, .ref x0), (1, .int x1)] [] h 0 0) ∧ (∀ (x0 : Nat) (x1 : Int32) (x2 : Int32) (x3 : Int32) (x4 : Int32) (s0 : Int32) (h : pm_H), pm_iter sX1_elementsAreRight n (.inr (.inl (x0, x1, x2, x3, x4, s0, h))) = some r → pm_G g 86 [(0, .ref x0), (1, .int x1), (2, .int x2), (3, .int x3), (4, .int x4)] [.int s0] h 0 0) ∧ (∀ (x0 : Nat) (x1 : Int32) (x2 : Int32) (x3 : Int32) (x4 : Int32) (x5 : Int32) (x6 : Int32) (x7 : Int32) (h : pm_H), pm_iter sX1_elementsAreRight n (.inr (.inr (.inl (x0, x1, x2, x3, x4, x5, x6, x7, h)))) = some r → pm_G g 138 [(0, .ref x0), (1, .int x1), (2, .int x2), (3, .int x3), (4, .int x4), (5, .int x5), (6, .int x6), (7, .int x7)] [] h 0 0) ∧ (∀ (x0 : Nat) (x1 : Int32) (x2 : Int32) (x3 : Int32) (x4 : Int32) (x5 : Int32) (x6 : Int32) (h : pm_H), pm_iter sX1_elementsAreRight n (.inr (.inr (.inr (.inl (x0, x1, x2, x3, x4, x5, x6, h))))) = some r → pm_G g 193 [(0, .ref x0), (1, .int x1), (2, .int x2), (3, .int x3), (4, .int x4), (5, .int x5), (6, .int x6)] [] h 0 0) ∧ (∀ (x0 : Nat) (x1 : Int32) (x2 : Int32) (x3 : Int32) (x5 : Int32) (x6 : Int32) (h : pm_H), pm_iter sX1_elementsAreRight n (.inr (.inr (.inr (.inr (.inl (x0, x1, x2, x3, x5, x6, h)))))) = some r → pm_G g 237 [(0, .ref x0), (1, .int x1), (2, .int x2), (3, .int x3), (5, .int x5), (6, .int x6)] [] h 0 0) ∧ (∀ (x0 : Nat) (x1 : Int32) (x2 : Int32) (x3 : Int32) (x5 : Int32) (x7 : Int32) (h : pm_H), pm_iter sX1_elementsAreRight n (.inr (.inr (.inr (.inr (.inr (x0, x1, x2, x3, x5, x7, h)))))) = some r → pm_G g 299 [(0, .ref x0), (1, .int x1), (2, .int x2), (3, .int x3), (5, .int x5), (7, .int x7)] [] h 0 0) := by
  intro n
  induction n with
  | zero => exact ⟨fun _ _ _ hf => (by cases hf), fun _ _ _ _ _ _ _ hf => (by cases hf), fun _ _ _ _ _ _ _ _ _ hf => (by cases hf), fun _ _ _ _ _ _ _ _ hf => (by cases hf), fun _ _ _ _ _ _ _ hf => (by cases hf), fun _ _ _ _ _ _ _ hf => (by cases hf)⟩
  | succ n ih =>
    refine ⟨fun x0 x1 h hf => ?_, ?_⟩
    · obtain ⟨y, hf, hi⟩ := pm_iter_s hf
      have hf : tX1_elementsAreRight_2 x0 x1 h = some y := hf
      unfold tX1_elementsAreRight_2 at hf
      refine pm_iload_n C dX1_elementsAreRight_2 rfl rfl ?_
      refine pm_aload_n C dX1_elementsAreRight_3 rfl rfl ?_
      obtain ⟨k1, hf⟩ := pm_if hf
      obtain ⟨v2, e3, hf⟩ := pm_bd hf
      refine pm_getR C dX1_elementsAreRight_4 flX1_40 rfl k1 e3 ?_
      obtain ⟨k4, hf⟩ := pm_if hf
      obtain ⟨v5, e6, hf⟩ := pm_bd hf
      refine pm_getR C dX1_elementsAreRight_7 flX1_178 rfl k4 e6 ?_
      obtain ⟨k7, hf⟩ := pm_if hf
      refine pm_alen (t := 2) C dX1_elementsAreRight_10 (by decide) k7 rfl ?_
      refine pm_icmp_ge (tgt := 334) C dX1_elementsAreRight_11 (by decide) (fun c8 => ?_) (fun c8 => ?_)
      · have hf := pm_it hf c8
        cases hf
        cases hi
        exact pm_vret C X dX1_elementsAreRight_334 rfl (Nat.le_refl _) (Nat.le_refl _) q
      · have hf := pm_ie hf c8
        refine pm_aload_n C dX1_elementsAreRight_14 rfl rfl ?_
        refine pm_getI C dX1_elementsAreRight_15 flX1_53 rfl k1 rfl ?_
        refine pm_if_ne (tgt := 334) C dX1_elementsAreRight_18 (by decide) (fun c9 => ?_) (fun c9 => ?_)
        · have hf := pm_ie hf c9
          cases hf
          cases hi
          exact pm_vret C X dX1_elementsAreRight_334 rfl (Nat.le_refl _) (Nat.le_refl _) q
        · have hf := pm_it hf c9
          refine pm_aload_n C dX1_elementsAreRight_21 rfl rfl ?_
          refine pm_getR C dX1_elementsAreRight_22 flX1_40 rfl k1 e3 ?_
          refine pm_getR C dX1_elementsAreRight_25 flX1_178 rfl k4 e6 ?_
          refine pm_iload_n C dX1_elementsAreRight_28 rfl rfl ?_
          refine pm_iconst (v := 4) C dX1_elementsAreRight_29 (by decide) ?_
          refine pm_iadd C dX1_elementsAreRight_30 ?_
          obtain ⟨v10, e11, hf⟩ := pm_bd hf
          refine pm_callS (as := [.ref v5, .int (x1 + 4)]) (st := []) C X dX1_elementsAreRight_31 lnX1_105 myX12_item stX12_item ⟨by decide, by decide⟩ rfl rfl (Nat.le_of_ble_eq_true rfl) (Nat.le_refl _) (Nat.le_refl _) (ctX12_item e11 ?_)
          show pm_G g 34 [(0, .ref x0), (1, .int x1)] [.int v10] h 0 0
          refine pm_istore_n (lv' := [(2, .int v10), (0, .ref x0), (1, .int x1)]) C dX1_elementsAreRight_34 rfl (pm_nl X (by decide)) rfl ?_
          refine pm_aload_n C dX1_elementsAreRight_35 rfl rfl ?_
          refine pm_getR C dX1_elementsAreRight_36 flX1_40 rfl k1 e3 ?_
          refine pm_getR C dX1_elementsAreRight_39 flX1_178 rfl k4 e6 ?_
          refine pm_iload_n C dX1_elementsAreRight_42 rfl rfl ?_
          refine pm_iconst (v := 5) C dX1_elementsAreRight_43 (by decide) ?_
          refine pm_iadd C dX1_elementsAreRight_44 ?_
          obtain ⟨v12, e13, hf⟩ := pm_bd hf
          refine pm_callS (as := [.ref v5, .int (x1 + 5)]) (st := []) C X dX1_elementsAreRight_45 lnX1_105 myX12_item stX12_item ⟨by decide, by decide⟩ rfl rfl (Nat.le_of_ble_eq_true rfl) (Nat.le_refl _) (Nat.le_refl _) (ctX12_item e13 ?_)
          show pm_G g 48 [(2, .int v10), (0, .ref x0), (1, .int x1)] [.int v12] h 0 0
          refine pm_istore_n (lv' := [(3, .int v12), (2, .int v10), (0, .ref x0), (1, .int x1)]) C dX1_elementsAreRight_48 rfl (pm_nl X (by decide)) rfl ?_
          refine pm_aload_n C dX1_elementsAreRight_49 rfl rfl ?_
          refine pm_getR C dX1_elementsAreRight_50 flX1_40 rfl k1 e3 ?_
          refine pm_getR C dX1_elementsAreRight_53 flX1_178 rfl k4 e6 ?_
          refine pm_iload_n C dX1_elementsAreRight_56 rfl rfl ?_
          refine pm_iconst (v := 1) C dX1_elementsAreRight_57 (by decide) ?_
          refine pm_iadd C dX1_elementsAreRight_58 ?_
          obtain ⟨v14, e15, hf⟩ := pm_bd hf
          refine pm_callS (as := [.ref v5, .int (x1 + 1)]) (st := []) C X dX1_elementsAreRight_59 lnX1_105 myX12_item stX12_item ⟨by decide, by decide⟩ rfl rfl (Nat.le_of_ble_eq_true rfl) (Nat.le_refl _) (Nat.le_refl _) (ctX12_item e15 ?_)
          show pm_G g 62 [(3, .int v12), (2, .int v10), (0, .ref x0), (1, .int x1)] [.int v14] h 0 0
          refine pm_istore (lv' := [(4, .int v14), (3, .int v12), (2, .int v10), (0, .ref x0), (1, .int x1)]) C dX1_elementsAreRight_62 (pm_nl X (by decide)) rfl ?_
          refine pm_aload_n C dX1_elementsAreRight_64 rfl rfl ?_
          refine pm_getR C dX1_elementsAreRight_65 flX1_40 rfl k1 e3 ?_
          refine pm_getR C dX1_elementsAreRight_68 flX1_178 rfl k4 e6 ?_
          refine pm_iload_n C dX1_elementsAreRight_71 rfl rfl ?_
          refine pm_bipush (v := 6) C dX1_elementsAreRight_72 (by decide) ?_
          refine pm_iadd C dX1_elementsAreRight_74 ?_
          obtain ⟨v16, e17, hf⟩ := pm_bd hf
          refine pm_callS (as := [.ref v5, .int (x1 + 6)]) (st := []) C X dX1_elementsAreRight_75 lnX1_105 myX12_item stX12_item ⟨by decide, by decide⟩ rfl rfl (Nat.le_of_ble_eq_true rfl) (Nat.le_refl _) (Nat.le_refl _) (ctX12_item e17 ?_)
          show pm_G g 78 [(4, .int v14), (3, .int v12), (2, .int v10), (0, .ref x0), (1, .int x1)] [.int v16] h 0 0
          refine pm_if_eq (tgt := 85) C dX1_elementsAreRight_78 (by decide) (fun c18 => ?_) (fun c18 => ?_)
          · have hf := pm_it hf c18
            refine pm_iconst (v := 0) C dX1_elementsAreRight_85 (by decide) ?_
            cases hf
            exact pm_sub [3, 4, 2, 1, 0] rfl (ih.2.1 x0 x1 v10 v12 v14 0 h hi)
          · have hf := pm_ie hf c18
            refine pm_iconst (v := 1) C dX1_elementsAreRight_81 (by decide) ?_
            refine pm_goto (tgt := 86) C dX1_elementsAreRight_82 (by decide) ?_
            cases hf
            exact pm_sub [3, 4, 2, 1, 0] rfl (ih.2.1 x0 x1 v10 v12 v14 1 h hi)
    refine ⟨fun x0 x1 x2 x3 x4 s0 h hf => ?_, ?_⟩
    · obtain ⟨y, hf, hi⟩ := pm_iter_s hf
      have hf : tX1_elementsAreRight_86 x0 x1 x2 x3 x4 s0 h = some y := hf
      unfold tX1_elementsAreRight_86 at hf
      refine pm_istore (lv' := [(5, .int s0), (0, .ref x0), (1, .int x1), (2, .int x2), (3, .int x3), (4, .int x4)]) C dX1_elementsAreRight_86 (pm_nl X (by decide)) rfl ?_
      refine pm_aload_n C dX1_elementsAreRight_88 rfl rfl ?_
      obtain ⟨k19, hf⟩ := pm_if hf
      obtain ⟨v20, e21, hf⟩ := pm_bd hf
      refine pm_getR C dX1_elementsAreRight_89 flX1_40 rfl k19 e21 ?_
      obtain ⟨k22, hf⟩ := pm_if hf
      obtain ⟨v23, e24, hf⟩ := pm_bd hf
      refine pm_getR C dX1_elementsAreRight_92 flX1_178 rfl k22 e24 ?_
      refine pm_iload_n C dX1_elementsAreRight_95 rfl rfl ?_
      refine pm_iconst (v := 0) C dX1_elementsAreRight_96 (by decide) ?_
      refine pm_iadd C dX1_elementsAreRight_97 ?_
      obtain ⟨v25, e26, hf⟩ := pm_bd hf
      refine pm_callS (as := [.ref v23, .int (x1 + 0)]) (st := []) C X dX1_elementsAreRight_98 lnX1_105 myX12_item stX12_item ⟨by decide, by decide⟩ rfl rfl (Nat.le_of_ble_eq_true rfl) (Nat.le_refl _) (Nat.le_refl _) (ctX12_item e26 ?_)
      show pm_G g 101 [(5, .int s0), (0, .ref x0), (1, .int x1), (2, .int x2), (3, .int x3), (4, .int x4)] [.int v25] h 0 0
      refine pm_if_ne (tgt := 108) C dX1_elementsAreRight_101 (by decide) (fun c27 => ?_) (fun c27 => ?_)
      · have hf := pm_ie hf c27
        refine pm_iconst (v := 0) C dX1_elementsAreRight_108 (by decide) ?_
        refine pm_istore (lv' := [(6, .int 0), (5, .int s0), (0, .ref x0), (1, .int x1), (2, .int x2), (3, .int x3), (4, .int x4)]) C dX1_elementsAreRight_109 (pm_nl X (by decide)) rfl ?_
        refine pm_aload_n C dX1_elementsAreRight_111 rfl rfl ?_
        obtain ⟨v28, e29, hf⟩ := pm_bd hf
        refine pm_getR C dX1_elementsAreRight_112 flX1_36 rfl k19 e29 ?_
        refine pm_aload_n C dX1_elementsAreRight_115 rfl rfl ?_
        refine pm_getR C dX1_elementsAreRight_116 flX1_40 rfl k19 e21 ?_
        refine pm_aload_n C dX1_elementsAreRight_119 rfl rfl ?_
        refine pm_getR C dX1_elementsAreRight_120 flX1_40 rfl k19 e21 ?_
        refine pm_getR C dX1_elementsAreRight_123 flX1_178 rfl k22 e24 ?_
        refine pm_iload_n C dX1_elementsAreRight_126 rfl rfl ?_
        refine pm_iconst (v := 3) C dX1_elementsAreRight_127 (by decide) ?_
        refine pm_iadd C dX1_elementsAreRight_128 ?_
        obtain ⟨v30, e31, hf⟩ := pm_bd hf
        refine pm_callS (as := [.ref v23, .int (x1 + 3)]) (st := [.ref v20, .ref v28]) C X dX1_elementsAreRight_129 lnX1_105 myX12_item stX12_item ⟨by decide, by decide⟩ rfl rfl (Nat.le_of_ble_eq_true rfl) (Nat.le_refl _) (Nat.le_refl _) (ctX12_item e31 ?_)
        show pm_G g 132 [(6, .int 0), (5, .int s0), (0, .ref x0), (1, .int x1), (2, .int x2), (3, .int x3), (4, .int x4)] [.int v30, .ref v20, .ref v28] h 0 0
        obtain ⟨k32, hf⟩ := pm_if hf
        obtain ⟨v33, e34, hf⟩ := pm_bd hf
        refine pm_callV (as := [.ref v20, .int v30]) (st := []) C X dX1_elementsAreRight_132 lnX1_170 myX9_open viX9_open ⟨by decide, by decide⟩ rfl rfl k32 (Nat.le_of_ble_eq_true rfl) (Nat.le_refl _) (Nat.le_refl _) (ctX9_open e34 ?_)
        show pm_G g 135 [(6, .int 0), (5, .int s0), (0, .ref x0), (1, .int x1), (2, .int x2), (3, .int x3), (4, .int x4)] [] v33 0 0
        refine pm_iconst (v := 0) C dX1_elementsAreRight_135 (by decide) ?_
        refine pm_istore (lv' := [(7, .int 0), (6, .int 0), (5, .int s0), (0, .ref x0), (1, .int x1), (2, .int x2), (3, .int x3), (4, .int x4)]) C dX1_elementsAreRight_136 (pm_nl X (by decide)) rfl ?_
        cases hf
        exact pm_sub [3, 4, 5, 6, 7, 2, 1, 0] rfl (ih.2.2.1 x0 x1 x2 x3 x4 s0 0 0 v33 hi)
      · have hf := pm_it hf c27
        refine pm_iconst (v := 1) C dX1_elementsAreRight_104 (by decide) ?_
        refine pm_goto (tgt := 109) C dX1_elementsAreRight_105 (by decide) ?_
        refine pm_istore (lv' := [(6, .int 1), (5, .int s0), (0, .ref x0), (1, .int x1), (2, .int x2), (3, .int x3), (4, .int x4)]) C dX1_elementsAreRight_109 (pm_nl X (by decide)) rfl ?_
        refine pm_aload_n C dX1_elementsAreRight_111 rfl rfl ?_
        obtain ⟨v35, e36, hf⟩ := pm_bd hf
        refine pm_getR C dX1_elementsAreRight_112 flX1_36 rfl k19 e36 ?_
        refine pm_aload_n C dX1_elementsAreRight_115 rfl rfl ?_
        refine pm_getR C dX1_elementsAreRight_116 flX1_40 rfl k19 e21 ?_
        refine pm_aload_n C dX1_elementsAreRight_119 rfl rfl ?_
        refine pm_getR C dX1_elementsAreRight_120 flX1_40 rfl k19 e21 ?_
        refine pm_getR C dX1_elementsAreRight_123 flX1_178 rfl k22 e24 ?_
        refine pm_iload_n C dX1_elementsAreRight_126 rfl rfl ?_
        refine pm_iconst (v := 3) C dX1_elementsAreRight_127 (by decide) ?_
        refine pm_iadd C dX1_elementsAreRight_128 ?_
        obtain ⟨v37, e38, hf⟩ := pm_bd hf
        refine pm_callS (as := [.ref v23, .int (x1 + 3)]) (st := [.ref v20, .ref v35]) C X dX1_elementsAreRight_129 lnX1_105 myX12_item stX12_item ⟨by decide, by decide⟩ rfl rfl (Nat.le_of_ble_eq_true rfl) (Nat.le_refl _) (Nat.le_refl _) (ctX12_item e38 ?_)
        show pm_G g 132 [(6, .int 1), (5, .int s0), (0, .ref x0), (1, .int x1), (2, .int x2), (3, .int x3), (4, .int x4)] [.int v37, .ref v20, .ref v35] h 0 0
        obtain ⟨k39, hf⟩ := pm_if hf
        obtain ⟨v40, e41, hf⟩ := pm_bd hf
        refine pm_callV (as := [.ref v20, .int v37]) (st := []) C X dX1_elementsAreRight_132 lnX1_170 myX9_open viX9_open ⟨by decide, by decide⟩ rfl rfl k39 (Nat.le_of_ble_eq_true rfl) (Nat.le_refl _) (Nat.le_refl _) (ctX9_open e41 ?_)
        show pm_G g 135 [(6, .int 1), (5, .int s0), (0, .ref x0), (1, .int x1), (2, .int x2), (3, .int x3), (4, .int x4)] [] v40 0 0
        refine pm_iconst (v := 0) C dX1_elementsAreRight_135 (by decide) ?_
        refine pm_istore (lv' := [(7, .int 0), (6, .int 1), (5, .int s0), (0, .ref x0), (1, .int x1), (2, .int x2), (3, .int x3), (4, .int x4)]) C dX1_elementsAreRight_136 (pm_nl X (by decide)) rfl ?_
        cases hf
        exact pm_sub [3, 4, 5, 6, 7, 2, 1, 0] rfl (ih.2.2.1 x0 x1 x2 x3 x4 s0 1 0 v40 hi)
    refine ⟨fun x0 x1 x2 x3 x4 x5 x6 x7 h hf => ?_, ?_⟩
    · obtain ⟨y, hf, hi⟩ := pm_iter_s hf
      have hf : tX1_elementsAreRight_138 x0 x1 x2 x3 x4 x5 x6 x7 h = some y := hf
      unfold tX1_elementsAreRight_138 at hf
      refine pm_iload C dX1_elementsAreRight_138 rfl ?_
      refine pm_iload_n C dX1_elementsAreRight_140 rfl rfl ?_
      refine pm_icmp_ge (tgt := 193) C dX1_elementsAreRight_141 (by decide) (fun c42 => ?_) (fun c42 => ?_)
      · have hf := pm_it hf c42
        cases hf
        exact pm_sub [0, 1, 2, 3, 4, 5, 6] rfl (ih.2.2.2.1 x0 x1 x2 x3 x4 x5 x6 h hi)
      · have hf := pm_ie hf c42
        refine pm_iload C dX1_elementsAreRight_144 rfl ?_
        refine pm_if_ne (tgt := 193) C dX1_elementsAreRight_146 (by decide) (fun c43 => ?_) (fun c43 => ?_)
        · have hf := pm_ie hf c43
          cases hf
          exact pm_sub [0, 1, 2, 3, 4, 5, 6] rfl (ih.2.2.2.1 x0 x1 x2 x3 x4 x5 x6 h hi)
        · have hf := pm_it hf c43
          refine pm_aload_n C dX1_elementsAreRight_149 rfl rfl ?_
          obtain ⟨k44, hf⟩ := pm_if hf
          obtain ⟨v45, e46, hf⟩ := pm_bd hf
          refine pm_getR C dX1_elementsAreRight_150 flX1_36 rfl k44 e46 ?_
          refine pm_bipush (v := 32) C dX1_elementsAreRight_153 (by decide) ?_
          obtain ⟨k47, hf⟩ := pm_if hf
          obtain ⟨v48, e49, hf⟩ := pm_bd hf
          refine pm_callV (as := [.int 32]) (st := []) C X dX1_elementsAreRight_155 lnX1_181 myX9_number viX9_number ⟨by decide, by decide⟩ rfl rfl k47 (Nat.le_of_ble_eq_true rfl) (Nat.le_refl _) (Nat.le_refl _) (ctX9_number e49 ?_)
          show pm_G g 158 [(0, .ref x0), (1, .int x1), (2, .int x2), (3, .int x3), (4, .int x4), (5, .int x5), (6, .int x6), (7, .int x7)] [.long v48.1] v48.2 0 0
          refine pm_lstore (lv' := [(8, .long v48.1), (0, .ref x0), (1, .int x1), (2, .int x2), (3, .int x3), (4, .int x4), (5, .int x5), (6, .int x6), (7, .int x7)]) C dX1_elementsAreRight_158 (pm_nl X (by decide)) rfl ?_
          refine pm_aload_n C dX1_elementsAreRight_160 rfl rfl ?_
          obtain ⟨k50, hf⟩ := pm_if hf
          obtain ⟨v51, e52, hf⟩ := pm_bd hf
          refine pm_getR C dX1_elementsAreRight_161 flX1_40 rfl k50 e52 ?_
          refine pm_iconst (v := 0) C dX1_elementsAreRight_164 (by decide) ?_
          refine pm_lload C dX1_elementsAreRight_165 rfl ?_
          obtain ⟨k53, hf⟩ := pm_if hf
          obtain ⟨v54, e55, hf⟩ := pm_bd hf
          refine pm_callV (as := [.int 0, .long v48.1]) (st := []) C X dX1_elementsAreRight_167 lnX1_146 myX7_has viX7_has ⟨by decide, by decide⟩ rfl rfl k53 (Nat.le_of_ble_eq_true rfl) (Nat.le_refl _) (Nat.le_refl _) (ctX7_has e55 ?_)
          show pm_G g 170 [(8, .long v48.1), (0, .ref x0), (1, .int x1), (2, .int x2), (3, .int x3), (4, .int x4), (5, .int x5), (6, .int x6), (7, .int x7)] [.int v54] v48.2 0 0
          refine pm_if_ne (tgt := 181) C dX1_elementsAreRight_170 (by decide) (fun c56 => ?_) (fun c56 => ?_)
          · have hf := pm_ie hf c56
            refine pm_aload_n C dX1_elementsAreRight_181 rfl rfl ?_
            refine pm_lload C dX1_elementsAreRight_182 rfl ?_
            obtain ⟨v57, e58, hf⟩ := pm_bd hf
            refine pm_callV (as := [.long v48.1]) (st := []) C X dX1_elementsAreRight_184 lnX1_150 myX1_declare viX1_declare ⟨by decide, by decide⟩ rfl rfl k50 (Nat.le_of_ble_eq_true rfl) (Nat.le_refl _) (Nat.le_refl _) (ctX1_declare e58 ?_)
            show pm_G g 187 [(8, .long v48.1), (0, .ref x0), (1, .int x1), (2, .int x2), (3, .int x3), (4, .int x4), (5, .int x5), (6, .int x6), (7, .int x7)] [] v57 0 0
            obtain ⟨y59, e60, hf⟩ := pm_lt hf
            refine pm_iinc (v := y59) (lv' := [(7, .int y59), (8, .long v48.1), (0, .ref x0), (1, .int x1), (2, .int x2), (3, .int x3), (4, .int x4), (5, .int x5), (6, .int x6)]) C dX1_elementsAreRight_187 rfl ((congrArg (x7 + ·) (by decide : Int32.ofInt 1 = 1)).trans e60) (pm_nl X (by decide)) rfl ?_
            refine pm_goto (tgt := 138) C dX1_elementsAreRight_190 (by decide) ?_
            cases hf
            exact pm_sub [2, 3, 4, 5, 6, 7, 8, 0] rfl (ih.2.2.1 x0 x1 x2 x3 x4 x5 x6 y59 v57 hi)
          · have hf := pm_it hf c56
            refine pm_aload_n C dX1_elementsAreRight_173 rfl rfl ?_
            refine pm_bipush (v := 28) C dX1_elementsAreRight_174 (by decide) ?_
            refine pm_bipush (v := 9) C dX1_elementsAreRight_176 (by decide) ?_
            obtain ⟨v61, e62, hf⟩ := pm_bd hf
            refine pm_callV (as := [.int 28, .int 9]) (st := []) C X dX1_elementsAreRight_178 lnX1_119 myX1_failSection viX1_failSection ⟨by decide, by decide⟩ rfl rfl k50 (Nat.le_of_ble_eq_true rfl) (Nat.le_refl _) (Nat.le_refl _) (ctX1_failSection e62 ?_)
            show pm_G g 181 [(8, .long v48.1), (0, .ref x0), (1, .int x1), (2, .int x2), (3, .int x3), (4, .int x4), (5, .int x5), (6, .int x6), (7, .int x7)] [] v61 0 0
            refine pm_aload_n C dX1_elementsAreRight_181 rfl rfl ?_
            refine pm_lload C dX1_elementsAreRight_182 rfl ?_
            obtain ⟨k63, hf⟩ := pm_if hf
            obtain ⟨v64, e65, hf⟩ := pm_bd hf
            refine pm_callV (as := [.long v48.1]) (st := []) C X dX1_elementsAreRight_184 lnX1_150 myX1_declare viX1_declare ⟨by decide, by decide⟩ rfl rfl k63 (Nat.le_of_ble_eq_true rfl) (Nat.le_refl _) (Nat.le_refl _) (ctX1_declare e65 ?_)
            show pm_G g 187 [(8, .long v48.1), (0, .ref x0), (1, .int x1), (2, .int x2), (3, .int x3), (4, .int x4), (5, .int x5), (6, .int x6), (7, .int x7)] [] v64 0 0
            obtain ⟨y66, e67, hf⟩ := pm_lt hf
            refine pm_iinc (v := y66) (lv' := [(7, .int y66), (8, .long v48.1), (0, .ref x0), (1, .int x1), (2, .int x2), (3, .int x3), (4, .int x4), (5, .int x5), (6, .int x6)]) C dX1_elementsAreRight_187 rfl ((congrArg (x7 + ·) (by decide : Int32.ofInt 1 = 1)).trans e67) (pm_nl X (by decide)) rfl ?_
            refine pm_goto (tgt := 138) C dX1_elementsAreRight_190 (by decide) ?_
            cases hf
            exact pm_sub [2, 3, 4, 5, 6, 7, 8, 0] rfl (ih.2.2.1 x0 x1 x2 x3 x4 x5 x6 y66 v64 hi)
    refine ⟨fun x0 x1 x2 x3 x4 x5 x6 h hf => ?_, ?_⟩
    · obtain ⟨y, hf, hi⟩ := pm_iter_s hf
      have hf : tX1_elementsAreRight_193 x0 x1 x2 x3 x4 x5 x6 h = some y := hf
      unfold tX1_elementsAreRight_193 at hf
      refine pm_iload C dX1_elementsAreRight_193 rfl ?_
      refine pm_if_eq (tgt := 237) C dX1_elementsAreRight_195 (by decide) (fun c68 => ?_) (fun c68 => ?_)
      · have hf := pm_it hf c68
        cases hf
        exact pm_sub [0, 1, 2, 3, 5, 6] rfl (ih.2.2.2.2.1 x0 x1 x2 x3 x5 x6 h hi)
      · have hf := pm_ie hf c68
        refine pm_aload_n C dX1_elementsAreRight_198 rfl rfl ?_
        obtain ⟨k69, hf⟩ := pm_if hf
        obtain ⟨v70, e71, hf⟩ := pm_bd hf
        refine pm_getR C dX1_elementsAreRight_199 flX1_40 rfl k69 e71 ?_
        refine pm_iconst (v := 1) C dX1_elementsAreRight_202 (by decide) ?_
        refine pm_iload C dX1_elementsAreRight_203 rfl ?_
        refine pm_i2l C dX1_elementsAreRight_205 ?_
        obtain ⟨k72, hf⟩ := pm_if hf
        obtain ⟨v73, e74, hf⟩ := pm_bd hf
        refine pm_callV (as := [.int 1, .long x4.toInt64]) (st := []) C X dX1_elementsAreRight_206 lnX1_146 myX7_has viX7_has ⟨by decide, by decide⟩ rfl rfl k72 (Nat.le_of_ble_eq_true rfl) (Nat.le_refl _) (Nat.le_refl _) (ctX7_has e74 ?_)
        show pm_G g 209 [(0, .ref x0), (1, .int x1), (2, .int x2), (3, .int x3), (4, .int x4), (5, .int x5), (6, .int x6)] [.int v73] h 0 0
        refine pm_if_eq (tgt := 229) C dX1_elementsAreRight_209 (by decide) (fun c75 => ?_) (fun c75 => ?_)
        · have hf := pm_it hf c75
          refine pm_aload_n C dX1_elementsAreRight_229 rfl rfl ?_
          refine pm_bipush (v := 28) C dX1_elementsAreRight_230 (by decide) ?_
          refine pm_bipush (v := 9) C dX1_elementsAreRight_232 (by decide) ?_
          obtain ⟨v76, e77, hf⟩ := pm_bd hf
          refine pm_callV (as := [.int 28, .int 9]) (st := []) C X dX1_elementsAreRight_234 lnX1_119 myX1_failSection viX1_failSection ⟨by decide, by decide⟩ rfl rfl k69 (Nat.le_of_ble_eq_true rfl) (Nat.le_refl _) (Nat.le_refl _) (ctX1_failSection e77 ?_)
          show pm_G g 237 [(0, .ref x0), (1, .int x1), (2, .int x2), (3, .int x3), (4, .int x4), (5, .int x5), (6, .int x6)] [] v76 0 0
          cases hf
          exact pm_sub [0, 1, 2, 3, 5, 6] rfl (ih.2.2.2.2.1 x0 x1 x2 x3 x5 x6 v76 hi)
        · have hf := pm_ie hf c75
          refine pm_aload_n C dX1_elementsAreRight_212 rfl rfl ?_
          refine pm_getR C dX1_elementsAreRight_213 flX1_40 rfl k69 e71 ?_
          refine pm_iconst (v := 1) C dX1_elementsAreRight_216 (by decide) ?_
          refine pm_iload C dX1_elementsAreRight_217 rfl ?_
          refine pm_iconst (v := 1) C dX1_elementsAreRight_219 (by decide) ?_
          obtain ⟨v78, e79, hf⟩ := pm_bd hf
          refine pm_callV (as := [.int 1, .int x4, .int 1]) (st := []) C X dX1_elementsAreRight_220 lnX1_122 myX7_of viX7_of ⟨by decide, by decide⟩ rfl rfl k72 (Nat.le_of_ble_eq_true rfl) (Nat.le_refl _) (Nat.le_refl _) (ctX7_of e79 ?_)
          show pm_G g 223 [(0, .ref x0), (1, .int x1), (2, .int x2), (3, .int x3), (4, .int x4), (5, .int x5), (6, .int x6)] [.long v78] h 0 0
          refine pm_iload_n C dX1_elementsAreRight_223 rfl rfl ?_
          refine pm_i2l C dX1_elementsAreRight_224 ?_
          refine pm_lcmp C dX1_elementsAreRight_225 ?_
          refine pm_if_eq (tgt := 237) C dX1_elementsAreRight_226 (by decide) (fun c80 => ?_) (fun c80 => ?_)
          · have hf := pm_it hf ((pm_lg_eq _ _).mp c80)
            cases hf
            exact pm_sub [0, 1, 2, 3, 5, 6] rfl (ih.2.2.2.2.1 x0 x1 x2 x3 x5 x6 h hi)
          · have hf := pm_ie hf ((fun z => c80 ((pm_lg_eq _ _).mpr z)))
            refine pm_aload_n C dX1_elementsAreRight_229 rfl rfl ?_
            refine pm_bipush (v := 28) C dX1_elementsAreRight_230 (by decide) ?_
            refine pm_bipush (v := 9) C dX1_elementsAreRight_232 (by decide) ?_
            obtain ⟨v81, e82, hf⟩ := pm_bd hf
            refine pm_callV (as := [.int 28, .int 9]) (st := []) C X dX1_elementsAreRight_234 lnX1_119 myX1_failSection viX1_failSection ⟨by decide, by decide⟩ rfl rfl k69 (Nat.le_of_ble_eq_true rfl) (Nat.le_refl _) (Nat.le_refl _) (ctX1_failSection e82 ?_)
            show pm_G g 237 [(0, .ref x0), (1, .int x1), (2, .int x2), (3, .int x3), (4, .int x4), (5, .int x5), (6, .int x6)] [] v81 0 0
            cases hf
            exact pm_sub [0, 1, 2, 3, 5, 6] rfl (ih.2.2.2.2.1 x0 x1 x2 x3 x5 x6 v81 hi)
    refine ⟨fun x0 x1 x2 x3 x5 x6 h hf => ?_, ?_⟩
    · obtain ⟨y, hf, hi⟩ := pm_iter_s hf
      have hf : tX1_elementsAreRight_237 x0 x1 x2 x3 x5 x6 h = some y := hf
      unfold tX1_elementsAreRight_237 at hf
      refine pm_aload_n C dX1_elementsAreRight_237 rfl rfl ?_
      obtain ⟨k83, hf⟩ := pm_if hf
      obtain ⟨v84, e85, hf⟩ := pm_bd hf
      refine pm_getR C dX1_elementsAreRight_238 flX1_36 rfl k83 e85 ?_
      refine pm_aload_n C dX1_elementsAreRight_241 rfl rfl ?_
      obtain ⟨v86, e87, hf⟩ := pm_bd hf
      refine pm_getR C dX1_elementsAreRight_242 flX1_40 rfl k83 e87 ?_
      refine pm_aload_n C dX1_elementsAreRight_245 rfl rfl ?_
      refine pm_getR C dX1_elementsAreRight_246 flX1_40 rfl k83 e87 ?_
      obtain ⟨k88, hf⟩ := pm_if hf
      obtain ⟨v89, e90, hf⟩ := pm_bd hf
      refine pm_getR C dX1_elementsAreRight_249 flX1_178 rfl k88 e90 ?_
      refine pm_iload_n C dX1_elementsAreRight_252 rfl rfl ?_
      refine pm_iconst (v := 2) C dX1_elementsAreRight_253 (by decide) ?_
      refine pm_iadd C dX1_elementsAreRight_254 ?_
      obtain ⟨v91, e92, hf⟩ := pm_bd hf
      refine pm_callS (as := [.ref v89, .int (x1 + 2)]) (st := [.ref v86, .ref v84]) C X dX1_elementsAreRight_255 lnX1_105 myX12_item stX12_item ⟨by decide, by decide⟩ rfl rfl (Nat.le_of_ble_eq_true rfl) (Nat.le_refl _) (Nat.le_refl _) (ctX12_item e92 ?_)
      show pm_G g 258 [(0, .ref x0), (1, .int x1), (2, .int x2), (3, .int x3), (5, .int x5), (6, .int x6)] [.int v91, .ref v86, .ref v84] h 0 0
      obtain ⟨k93, hf⟩ := pm_if hf
      obtain ⟨v94, e95, hf⟩ := pm_bd hf
      refine pm_callV (as := [.ref v86, .int v91]) (st := []) C X dX1_elementsAreRight_258 lnX1_170 myX9_open viX9_open ⟨by decide, by decide⟩ rfl rfl k93 (Nat.le_of_ble_eq_true rfl) (Nat.le_refl _) (Nat.le_refl _) (ctX9_open e95 ?_)
      show pm_G g 261 [(0, .ref x0), (1, .int x1), (2, .int x2), (3, .int x3), (5, .int x5), (6, .int x6)] [] v94 0 0
      refine pm_iload C dX1_elementsAreRight_261 rfl ?_
      refine pm_if_eq (tgt := 272) C dX1_elementsAreRight_263 (by decide) (fun c96 => ?_) (fun c96 => ?_)
      · have hf := pm_it hf c96
        refine pm_aload_n C dX1_elementsAreRight_272 rfl rfl ?_
        obtain ⟨k97, hf⟩ := pm_if hf
        obtain ⟨v98, e99, hf⟩ := pm_bd hf
        refine pm_getR C dX1_elementsAreRight_273 flX1_36 rfl k97 e99 ?_
        refine pm_aload_n C dX1_elementsAreRight_276 rfl rfl ?_
        obtain ⟨v100, e101, hf⟩ := pm_bd hf
        refine pm_getR C dX1_elementsAreRight_277 flX1_40 rfl k97 e101 ?_
        refine pm_aload_n C dX1_elementsAreRight_280 rfl rfl ?_
        refine pm_getR C dX1_elementsAreRight_281 flX1_40 rfl k97 e101 ?_
        obtain ⟨k102, hf⟩ := pm_if hf
        obtain ⟨v103, e104, hf⟩ := pm_bd hf
        refine pm_getR C dX1_elementsAreRight_284 flX1_178 rfl k102 e104 ?_
        refine pm_iload_n C dX1_elementsAreRight_287 rfl rfl ?_
        refine pm_iconst (v := 3) C dX1_elementsAreRight_288 (by decide) ?_
        refine pm_iadd C dX1_elementsAreRight_289 ?_
        obtain ⟨v105, e106, hf⟩ := pm_bd hf
        refine pm_callS (as := [.ref v103, .int (x1 + 3)]) (st := [.ref v100, .ref v98]) C X dX1_elementsAreRight_290 lnX1_105 myX12_item stX12_item ⟨by decide, by decide⟩ rfl rfl (Nat.le_of_ble_eq_true rfl) (Nat.le_refl _) (Nat.le_refl _) (ctX12_item e106 ?_)
        show pm_G g 293 [(0, .ref x0), (1, .int x1), (2, .int x2), (3, .int x3), (5, .int x5), (6, .int x6)] [.int v105, .ref v100, .ref v98] v94 0 0
        obtain ⟨k107, hf⟩ := pm_if hf
        obtain ⟨v108, e109, hf⟩ := pm_bd hf
        refine pm_callV (as := [.ref v100, .int v105]) (st := []) C X dX1_elementsAreRight_293 lnX1_170 myX9_open viX9_open ⟨by decide, by decide⟩ rfl rfl k107 (Nat.le_of_ble_eq_true rfl) (Nat.le_refl _) (Nat.le_refl _) (ctX9_open e109 ?_)
        show pm_G g 296 [(0, .ref x0), (1, .int x1), (2, .int x2), (3, .int x3), (5, .int x5), (6, .int x6)] [] v108 0 0
        refine pm_iconst (v := 0) C dX1_elementsAreRight_296 (by decide) ?_
        refine pm_istore (lv' := [(7, .int 0), (0, .ref x0), (1, .int x1), (2, .int x2), (3, .int x3), (5, .int x5), (6, .int x6)]) C dX1_elementsAreRight_297 (pm_nl X (by decide)) rfl ?_
        cases hf
        exact pm_sub [1, 2, 3, 4, 5, 0] rfl (ih.2.2.2.2.2 x0 x1 x2 x3 x5 0 v108 hi)
      · have hf := pm_ie hf c96
        refine pm_aload_n C dX1_elementsAreRight_266 rfl rfl ?_
        refine pm_bipush (v := 127) C dX1_elementsAreRight_267 (by decide) ?_
        obtain ⟨k110, hf⟩ := pm_if hf
        obtain ⟨v111, e112, hf⟩ := pm_bd hf
        refine pm_callV (as := [.int 127]) (st := []) C X dX1_elementsAreRight_269 lnX1_174 myX1_constant viX1_constant ⟨by decide, by decide⟩ rfl rfl k110 (Nat.le_of_ble_eq_true rfl) (Nat.le_refl _) (Nat.le_refl _) (ctX1_constant e112 ?_)
        show pm_G g 272 [(0, .ref x0), (1, .int x1), (2, .int x2), (3, .int x3), (5, .int x5), (6, .int x6)] [] v111 0 0
        refine pm_aload_n C dX1_elementsAreRight_272 rfl rfl ?_
        obtain ⟨k113, hf⟩ := pm_if hf
        obtain ⟨v114, e115, hf⟩ := pm_bd hf
        refine pm_getR C dX1_elementsAreRight_273 flX1_36 rfl k113 e115 ?_
        refine pm_aload_n C dX1_elementsAreRight_276 rfl rfl ?_
        obtain ⟨v116, e117, hf⟩ := pm_bd hf
        refine pm_getR C dX1_elementsAreRight_277 flX1_40 rfl k113 e117 ?_
        refine pm_aload_n C dX1_elementsAreRight_280 rfl rfl ?_
        refine pm_getR C dX1_elementsAreRight_281 flX1_40 rfl k113 e117 ?_
        obtain ⟨k118, hf⟩ := pm_if hf
        obtain ⟨v119, e120, hf⟩ := pm_bd hf
        refine pm_getR C dX1_elementsAreRight_284 flX1_178 rfl k118 e120 ?_
        refine pm_iload_n C dX1_elementsAreRight_287 rfl rfl ?_
        refine pm_iconst (v := 3) C dX1_elementsAreRight_288 (by decide) ?_
        refine pm_iadd C dX1_elementsAreRight_289 ?_
        obtain ⟨v121, e122, hf⟩ := pm_bd hf
        refine pm_callS (as := [.ref v119, .int (x1 + 3)]) (st := [.ref v116, .ref v114]) C X dX1_elementsAreRight_290 lnX1_105 myX12_item stX12_item ⟨by decide, by decide⟩ rfl rfl (Nat.le_of_ble_eq_true rfl) (Nat.le_refl _) (Nat.le_refl _) (ctX12_item e122 ?_)
        show pm_G g 293 [(0, .ref x0), (1, .int x1), (2, .int x2), (3, .int x3), (5, .int x5), (6, .int x6)] [.int v121, .ref v116, .ref v114] v111 0 0
        obtain ⟨k123, hf⟩ := pm_if hf
        obtain ⟨v124, e125, hf⟩ := pm_bd hf
        refine pm_callV (as := [.ref v116, .int v121]) (st := []) C X dX1_elementsAreRight_293 lnX1_170 myX9_open viX9_open ⟨by decide, by decide⟩ rfl rfl k123 (Nat.le_of_ble_eq_true rfl) (Nat.le_refl _) (Nat.le_refl _) (ctX9_open e125 ?_)
        show pm_G g 296 [(0, .ref x0), (1, .int x1), (2, .int x2), (3, .int x3), (5, .int x5), (6, .int x6)] [] v124 0 0
        refine pm_iconst (v := 0) C dX1_elementsAreRight_296 (by decide) ?_
        refine pm_istore (lv' := [(7, .int 0), (0, .ref x0), (1, .int x1), (2, .int x2), (3, .int x3), (5, .int x5), (6, .int x6)]) C dX1_elementsAreRight_297 (pm_nl X (by decide)) rfl ?_
        cases hf
        exact pm_sub [1, 2, 3, 4, 5, 0] rfl (ih.2.2.2.2.2 x0 x1 x2 x3 x5 0 v124 hi)
    refine fun x0 x1 x2 x3 x5 x7 h hf => ?_
    obtain ⟨y, hf, hi⟩ := pm_iter_s hf
    have hf : tX1_elementsAreRight_299 x0 x1 x2 x3 x5 x7 h = some y := hf
    unfold tX1_elementsAreRight_299 at hf
    refine pm_iload C dX1_elementsAreRight_299 rfl ?_
    refine pm_iload_n C dX1_elementsAreRight_301 rfl rfl ?_
    refine pm_icmp_ge (tgt := 328) C dX1_elementsAreRight_302 (by decide) (fun c126 => ?_) (fun c126 => ?_)
    · have hf := pm_it hf c126
      obtain ⟨y127, e128, hf⟩ := pm_lt hf
      refine pm_iinc (v := y127) (lv' := [(1, .int y127), (0, .ref x0), (2, .int x2), (3, .int x3), (5, .int x5), (7, .int x7)]) C dX1_elementsAreRight_328 rfl ((congrArg (x1 + ·) (by decide : Int32.ofInt 7 = 7)).trans e128) (pm_nl X (by decide)) rfl ?_
      refine pm_goto (tgt := 2) C dX1_elementsAreRight_331 (by decide) ?_
      cases hf
      exact pm_sub [1, 0] rfl (ih.1 x0 y127 h hi)
    · have hf := pm_ie hf c126
      refine pm_iload C dX1_elementsAreRight_305 rfl ?_
      refine pm_if_eq (tgt := 328) C dX1_elementsAreRight_307 (by decide) (fun c129 => ?_) (fun c129 => ?_)
      · have hf := pm_it hf c129
        obtain ⟨y130, e131, hf⟩ := pm_lt hf
        refine pm_iinc (v := y130) (lv' := [(1, .int y130), (0, .ref x0), (2, .int x2), (3, .int x3), (5, .int x5), (7, .int x7)]) C dX1_elementsAreRight_328 rfl ((congrArg (x1 + ·) (by decide : Int32.ofInt 7 = 7)).trans e131) (pm_nl X (by decide)) rfl ?_
        refine pm_goto (tgt := 2) C dX1_elementsAreRight_331 (by decide) ?_
        cases hf
        exact pm_sub [1, 0] rfl (ih.1 x0 y130 h hi)
      · have hf := pm_ie hf c129
        refine pm_aload_n C dX1_elementsAreRight_310 rfl rfl ?_
        obtain ⟨k132, hf⟩ := pm_if hf
        refine pm_getI C dX1_elementsAreRight_311 flX1_53 rfl k132 rfl ?_
        refine pm_if_ne (tgt := 328) C dX1_elementsAreRight_314 (by decide) (fun c133 => ?_) (fun c133 => ?_)
        · have hf := pm_ie hf c133
          obtain ⟨y134, e135, hf⟩ := pm_lt hf
          refine pm_iinc (v := y134) (lv' := [(1, .int y134), (0, .ref x0), (2, .int x2), (3, .int x3), (5, .int x5), (7, .int x7)]) C dX1_elementsAreRight_328 rfl ((congrArg (x1 + ·) (by decide : Int32.ofInt 7 = 7)).trans e135) (pm_nl X (by decide)) rfl ?_
          refine pm_goto (tgt := 2) C dX1_elementsAreRight_331 (by decide) ?_
          cases hf
          exact pm_sub [1, 0] rfl (ih.1 x0 y134 h hi)
        · have hf := pm_it hf c133
          refine pm_aload_n C dX1_elementsAreRight_317 rfl rfl ?_
          refine pm_iload_n C dX1_elementsAreRight_318 rfl rfl ?_
          obtain ⟨v136, e137, hf⟩ := pm_bd hf
          refine pm_callV (as := [.int x3]) (st := []) C X dX1_elementsAreRight_319 lnX1_174 myX1_constant viX1_constant ⟨by decide, by decide⟩ rfl rfl k132 (Nat.le_of_ble_eq_true rfl) (Nat.le_refl _) (Nat.le_refl _) (ctX1_constant e137 ?_)
          show pm_G g 322 [(0, .ref x0), (1, .int x1), (2, .int x2), (3, .int x3), (5, .int x5), (7, .int x7)] [] v136 0 0
          obtain ⟨y138, e139, hf⟩ := pm_lt hf
          refine pm_iinc (v := y138) (lv' := [(7, .int y138), (0, .ref x0), (1, .int x1), (2, .int x2), (3, .int x3), (5, .int x5)]) C dX1_elementsAreRight_322 rfl ((congrArg (x7 + ·) (by decide : Int32.ofInt 1 = 1)).trans e139) (pm_nl X (by decide)) rfl ?_
          refine pm_goto (tgt := 299) C dX1_elementsAreRight_325 (by decide) ?_
          cases hf
          exact pm_sub [1, 2, 3, 4, 5, 0] rfl (ih.2.2.2.2.2 x0 x1 x2 x3 x5 y138 v136 hi)
set_option maxHeartbeats 4000000 in
set_option maxRecDepth 100000 in
theorem ctX1_elementsAreRight {l : Launch} {G : pm_Gl} {h : pm_H} {a0 : Nat} {r : pm_H} {Qr : Option Value → pm_H → Prop} (hf : fX1_elementsAreRight h a0 = some r) (q : Qr none r) : pm_Ct l G mX1_elementsAreRight [.ref a0] h 0 0 Qr := by
  refine pm_body pnX1 (Nat.le_of_ble_eq_true rfl) (fun g C X => ?_)
  have C : pm_C g cX1_elementsAreRight RX1 := C
  show pm_G g 0 [(0, .ref a0)] [] h 0 0
  unfold fX1_elementsAreRight at hf
  refine pm_iconst (v := 0) C dX1_elementsAreRight_0 (by decide) ?_
  refine pm_istore_n (lv' := [(1, .int 0), (0, .ref a0)]) C dX1_elementsAreRight_1 rfl (pm_nl X (by decide)) rfl ?_
  obtain ⟨n, hn⟩ := pm_lim_iter hf
  exact pm_sub [1, 0] rfl ((lpX1_elementsAreRight C X q n).1 a0 0 h hn)
theorem dX1_globalsAreRight_0 : decode cX1_globalsAreRight 0 = .ok (.aload_n 0, 1) := by decide +kernel
theorem dX1_globalsAreRight_1 : decode cX1_globalsAreRight 1 = .ok (.getfield 40, 3) := by decide +kernel
theorem dX1_globalsAreRight_4 : decode cX1_globalsAreRight 4 = .ok (.iconst 3, 1) := by decide +kernel
theorem dX1_globalsAreRight_5 : decode cX1_globalsAreRight 5 = .ok (.invokevirtual 130, 3) := by decide +kernel
theorem dX1_globalsAreRight_8 : decode cX1_globalsAreRight 8 = .ok (.istore_n 1, 1) := by decide +kernel
theorem dX1_globalsAreRight_9 : decode cX1_globalsAreRight 9 = .ok (.iload_n 1, 1) := by decide +kernel
theorem dX1_globalsAreRight_10 : decode cX1_globalsAreRight 10 = .ok (.aload_n 0, 1) := by decide +kernel
theorem dX1_globalsAreRight_11 : decode cX1_globalsAreRight 11 = .ok (.getfield 40, 3) := by decide +kernel
theorem dX1_globalsAreRight_14 : decode cX1_globalsAreRight 14 = .ok (.iconst 3, 1) := by decide +kernel
theorem dX1_globalsAreRight_15 : decode cX1_globalsAreRight 15 = .ok (.invokevirtual 60, 3) := by decide +kernel
theorem dX1_globalsAreRight_18 : decode cX1_globalsAreRight 18 = .ok (.if_icmp .ge 53, 3) := by decide +kernel
theorem dX1_globalsAreRight_21 : decode cX1_globalsAreRight 21 = .ok (.aload_n 0, 1) := by decide +kernel
theorem dX1_globalsAreRight_22 : decode cX1_globalsAreRight 22 = .ok (.getfield 53, 3) := by decide +kernel
theorem dX1_globalsAreRight_25 : decode cX1_globalsAreRight 25 = .ok (.ifCond .ne 46, 3) := by decide +kernel
theorem dX1_globalsAreRight_28 : decode cX1_globalsAreRight 28 = .ok (.aload_n 0, 1) := by decide +kernel
theorem dX1_globalsAreRight_29 : decode cX1_globalsAreRight 29 = .ok (.getfield 36, 3) := by decide +kernel
theorem dX1_globalsAreRight_32 : decode cX1_globalsAreRight 32 = .ok (.aload_n 0, 1) := by decide +kernel
theorem dX1_globalsAreRight_33 : decode cX1_globalsAreRight 33 = .ok (.getfield 40, 3) := by decide +kernel
theorem dX1_globalsAreRight_36 : decode cX1_globalsAreRight 36 = .ok (.aload_n 0, 1) := by decide +kernel
theorem dX1_globalsAreRight_37 : decode cX1_globalsAreRight 37 = .ok (.getfield 40, 3) := by decide +kernel
theorem dX1_globalsAreRight_40 : decode cX1_globalsAreRight 40 = .ok (.iconst 3, 1) := by decide +kernel
theorem dX1_globalsAreRight_41 : decode cX1_globalsAreRight 41 = .ok (.iload_n 1, 1) := by decide +kernel
theorem dX1_globalsAreRight_42 : decode cX1_globalsAreRight 42 = .ok (.iconst 5, 1) := by decide +kernel
theorem dX1_globalsAreRight_43 : decode cX1_globalsAreRight 43 = .ok (.invokevirtual 122, 3) := by decide +kernel
theorem dX1_globalsAreRight_46 : decode cX1_globalsAreRight 46 = .ok (.l2i, 1) := by decide +kernel
theorem dX1_globalsAreRight_47 : decode cX1_globalsAreRight 47 = .ok (.invokevirtual 170, 3) := by decide +kernel
theorem dX1_globalsAreRight_50 : decode cX1_globalsAreRight 50 = .ok (.aload_n 0, 1) := by decide +kernel
theorem dX1_globalsAreRight_51 : decode cX1_globalsAreRight 51 = .ok (.aload_n 0, 1) := by decide +kernel
theorem dX1_globalsAreRight_52 : decode cX1_globalsAreRight 52 = .ok (.getfield 40, 3) := by decide +kernel
theorem dX1_globalsAreRight_55 : decode cX1_globalsAreRight 55 = .ok (.iconst 3, 1) := by decide +kernel
theorem dX1_globalsAreRight_56 : decode cX1_globalsAreRight 56 = .ok (.iload_n 1, 1) := by decide +kernel
theorem dX1_globalsAreRight_57 : decode cX1_globalsAreRight 57 = .ok (.iconst 1, 1) := by decide +kernel
theorem dX1_globalsAreRight_58 : decode cX1_globalsAreRight 58 = .ok (.invokevirtual 122, 3) := by decide +kernel
theorem dX1_globalsAreRight_61 : decode cX1_globalsAreRight 61 = .ok (.l2i, 1) := by decide +kernel
theorem dX1_globalsAreRight_62 : decode cX1_globalsAreRight 62 = .ok (.invokevirtual 174, 3) := by decide +kernel
theorem dX1_globalsAreRight_65 : decode cX1_globalsAreRight 65 = .ok (.iinc 1 1, 3) := by decide +kernel
theorem dX1_globalsAreRight_68 : decode cX1_globalsAreRight 68 = .ok (.goto (-59), 3) := by decide +kernel
theorem dX1_globalsAreRight_71 : decode cX1_globalsAreRight 71 = .ok (.return_, 1) := by decide +kernel
noncomputable def tX1_globalsAreRight_9 (x0 : Nat) (x1 : Int32) (h : pm_H) : Option (((Nat × Int32 × pm_H)) ⊕ pm_H) := if pm_kd h x0 = 1 then (pm_R h x0 2).bind fun v8 => if pm_kd h v8 = 7 then (fX7_count h v8 3).bind fun v11 => if v11 ≤ x1 then (some (.inr (h))) else (if (pm_I h x0 0) = 0 then ((pm_R h x0 3).bind fun v15 => (fX7_of h v8 3 x1 5).bind fun v17 => if pm_kd h v15 = 9 then (fX9_open h v15 v8 v17.toInt32).bind fun v20 => if pm_kd v20 x0 = 1 then (pm_R v20 x0 2).bind fun v23 => if pm_kd v20 v23 = 7 then (fX7_of v20 v23 3 x1 1).bind fun v26 => (fX1_constant v20 x0 v26.toInt32).bind fun v28 => pm_let (x1 + 1) fun y30 => some (.inl ((x0, y30, v28))) else none else none else none) else (some (.inr (h)))) else none else none
noncomputable def sX1_globalsAreRight : ((Nat × Int32 × pm_H)) → Option (((Nat × Int32 × pm_H)) ⊕ pm_H) := fun z => match z with
  | (x0, x1, h) => tX1_globalsAreRight_9 x0 x1 h
noncomputable def fX1_globalsAreRight (h : pm_H) (a0 : Nat) : Option pm_H := if pm_kd h a0 = 1 then (pm_R h a0 2).bind fun v2 => if pm_kd h v2 = 7 then (fX7_imported h v2 3).bind fun v5 => pm_lim sX1_globalsAreRight ((a0, v5, h)) else none else none
set_option maxHeartbeats 4000000 in
set_option maxRecDepth 100000 in
theorem lpX1_globalsAreRight {g : pm_Gm} {l : Launch} {G : pm_Gl} {Qr : Option Value → pm_H → Prop} (C : pm_C g cX1_globalsAreRight RX1) (X : pm_X g l G mX1_globalsAreRight 0 0 Qr) {r : pm_H} (q : Qr none r) : ∀ n : Nat, (∀ (x0 : Nat) (x1 : Int32) (h : pm_H), pm_iter sX1_globalsAreRight n (x0, x1, h) = some r → pm_G g 9 [(0, .ref x0), (1, .int x1)] [] h 0 0) := by
  intro n
  induction n with
  | zero => exact fun _ _ _ hf => (by cases hf)
  | succ n ih =>
    refine fun x0 x1 h hf => ?_
    obtain ⟨y, hf, hi⟩ := pm_iter_s hf
    have hf : tX1_globalsAreRight_9 x0 x1 h = some y := hf
    unfold tX1_globalsAreRight_9 at hf
    refine pm_iload_n C dX1_globalsAreRight_9 rfl rfl ?_
    refine pm_aload_n C dX1_globalsAreRight_10 rfl rfl ?_
    obtain ⟨k7, hf⟩ := pm_if hf
    obtain ⟨v8, e9, hf⟩ := pm_bd hf
    refine pm_getR C dX1_globalsAreRight_11 flX1_40 rfl k7 e9 ?_
    refine pm_iconst (v := 3) C dX1_globalsAreRight_14 (by decide) ?_
    obtain ⟨k10, hf⟩ := pm_if hf
    obtain ⟨v11, e12, hf⟩ := pm_bd hf
    refine pm_callV (as := [.int 3]) (st := [.int x1]) C X dX1_globalsAreRight_15 lnX1_60 myX7_count viX7_count ⟨by decide, by decide⟩ rfl rfl k10 (Nat.le_of_ble_eq_true rfl) (Nat.le_refl _) (Nat.le_refl _) (ctX7_count e12 ?_)
    show pm_G g 18 [(0, .ref x0), (1, .int x1)] [.int v11, .int x1] h 0 0
    refine pm_icmp_ge (tgt := 71) C dX1_globalsAreRight_18 (by decide) (fun c13 => ?_) (fun c13 => ?_)
    · have hf := pm_it hf c13
      cases hf
      cases hi
      exact pm_vret C X dX1_globalsAreRight_71 rfl (Nat.le_refl _) (Nat.le_refl _) q
    · have hf := pm_ie hf c13
      refine pm_aload_n C dX1_globalsAreRight_21 rfl rfl ?_
      refine pm_getI C dX1_globalsAreRight_22 flX1_53 rfl k7 rfl ?_
      refine pm_if_ne (tgt := 71) C dX1_globalsAreRight_25 (by decide) (fun c14 => ?_) (fun c14 => ?_)
      · have hf := pm_ie hf c14
        cases hf
        cases hi
        exact pm_vret C X dX1_globalsAreRight_71 rfl (Nat.le_refl _) (Nat.le_refl _) q
      · have hf := pm_it hf c14
        refine pm_aload_n C dX1_globalsAreRight_28 rfl rfl ?_
        obtain ⟨v15, e16, hf⟩ := pm_bd hf
        refine pm_getR C dX1_globalsAreRight_29 flX1_36 rfl k7 e16 ?_
        refine pm_aload_n C dX1_globalsAreRight_32 rfl rfl ?_
        refine pm_getR C dX1_globalsAreRight_33 flX1_40 rfl k7 e9 ?_
        refine pm_aload_n C dX1_globalsAreRight_36 rfl rfl ?_
        refine pm_getR C dX1_globalsAreRight_37 flX1_40 rfl k7 e9 ?_
        refine pm_iconst (v := 3) C dX1_globalsAreRight_40 (by decide) ?_
        refine pm_iload_n C dX1_globalsAreRight_41 rfl rfl ?_
        refine pm_iconst (v := 5) C dX1_globalsAreRight_42 (by decide) ?_
        obtain ⟨v17, e18, hf⟩ := pm_bd hf
        refine pm_callV (as := [.int 3, .int x1, .int 5]) (st := [.ref v8, .ref v15]) C X dX1_globalsAreRight_43 lnX1_122 myX7_of viX7_of ⟨by decide, by decide⟩ rfl rfl k10 (Nat.le_of_ble_eq_true rfl) (Nat.le_refl _) (Nat.le_refl _) (ctX7_of e18 ?_)
        show pm_G g 46 [(0, .ref x0), (1, .int x1)] [.long v17, .ref v8, .ref v15] h 0 0
        refine pm_l2i C dX1_globalsAreRight_46 ?_
        obtain ⟨k19, hf⟩ := pm_if hf
        obtain ⟨v20, e21, hf⟩ := pm_bd hf
        refine pm_callV (as := [.ref v8, .int v17.toInt32]) (st := []) C X dX1_globalsAreRight_47 lnX1_170 myX9_open viX9_open ⟨by decide, by decide⟩ rfl rfl k19 (Nat.le_of_ble_eq_true rfl) (Nat.le_refl _) (Nat.le_refl _) (ctX9_open e21 ?_)
        show pm_G g 50 [(0, .ref x0), (1, .int x1)] [] v20 0 0
        refine pm_aload_n C dX1_globalsAreRight_50 rfl rfl ?_
        refine pm_aload_n C dX1_globalsAreRight_51 rfl rfl ?_
        obtain ⟨k22, hf⟩ := pm_if hf
        obtain ⟨v23, e24, hf⟩ := pm_bd hf
        refine pm_getR C dX1_globalsAreRight_52 flX1_40 rfl k22 e24 ?_
        refine pm_iconst (v := 3) C dX1_globalsAreRight_55 (by decide) ?_
        refine pm_iload_n C dX1_globalsAreRight_56 rfl rfl ?_
        refine pm_iconst (v := 1) C dX1_globalsAreRight_57 (by decide) ?_
        obtain ⟨k25, hf⟩ := pm_if hf
        obtain ⟨v26, e27, hf⟩ := pm_bd hf
        refine pm_callV (as := [.int 3, .int x1, .int 1]) (st := [.ref x0]) C X dX1_globalsAreRight_58 lnX1_122 myX7_of viX7_of ⟨by decide, by decide⟩ rfl rfl k25 (Nat.le_of_ble_eq_true rfl) (Nat.le_refl _) (Nat.le_refl _) (ctX7_of e27 ?_)
        show pm_G g 61 [(0, .ref x0), (1, .int x1)] [.long v26, .ref x0] v20 0 0
        refine pm_l2i C dX1_globalsAreRight_61 ?_
        obtain ⟨v28, e29, hf⟩ := pm_bd hf
        refine pm_callV (as := [.int v26.toInt32]) (st := []) C X dX1_globalsAreRight_62 lnX1_174 myX1_constant viX1_constant ⟨by decide, by decide⟩ rfl rfl k22 (Nat.le_of_ble_eq_true rfl) (Nat.le_refl _) (Nat.le_refl _) (ctX1_constant e29 ?_)
        show pm_G g 65 [(0, .ref x0), (1, .int x1)] [] v28 0 0
        obtain ⟨y30, e31, hf⟩ := pm_lt hf
        refine pm_iinc (v := y30) (lv' := [(1, .int y30), (0, .ref x0)]) C dX1_globalsAreRight_65 rfl ((congrArg (x1 + ·) (by decide : Int32.ofInt 1 = 1)).trans e31) (pm_nl X (by decide)) rfl ?_
        refine pm_goto (tgt := 9) C dX1_globalsAreRight_68 (by decide) ?_
        cases hf
        exact pm_sub [1, 0] rfl (ih x0 y30 v28 hi)
set_option maxHeartbeats 4000000 in
set_option maxRecDepth 100000 in
theorem ctX1_globalsAreRight {l : Launch} {G : pm_Gl} {h : pm_H} {a0 : Nat} {r : pm_H} {Qr : Option Value → pm_H → Prop} (hf : fX1_globalsAreRight h a0 = some r) (q : Qr none r) : pm_Ct l G mX1_globalsAreRight [.ref a0] h 0 0 Qr := by
  refine pm_body pnX1 (Nat.le_of_ble_eq_true rfl) (fun g C X => ?_)
  have C : pm_C g cX1_globalsAreRight RX1 := C
  show pm_G g 0 [(0, .ref a0)] [] h 0 0
  unfold fX1_globalsAreRight at hf
  refine pm_aload_n C dX1_globalsAreRight_0 rfl rfl ?_
  obtain ⟨k1, hf⟩ := pm_if hf
  obtain ⟨v2, e3, hf⟩ := pm_bd hf
  refine pm_getR C dX1_globalsAreRight_1 flX1_40 rfl k1 e3 ?_
  refine pm_iconst (v := 3) C dX1_globalsAreRight_4 (by decide) ?_
  obtain ⟨k4, hf⟩ := pm_if hf
  obtain ⟨v5, e6, hf⟩ := pm_bd hf
  refine pm_callV (as := [.int 3]) (st := []) C X dX1_globalsAreRight_5 lnX1_130 myX7_imported viX7_imported ⟨by decide, by decide⟩ rfl rfl k4 (Nat.le_of_ble_eq_true rfl) (Nat.le_refl _) (Nat.le_refl _) (ctX7_imported e6 ?_)
  show pm_G g 8 [(0, .ref a0)] [.int v5] h 0 0
  refine pm_istore_n (lv' := [(1, .int v5), (0, .ref a0)]) C dX1_globalsAreRight_8 rfl (pm_nl X (by decide)) rfl ?_
  obtain ⟨n, hn⟩ := pm_lim_iter hf
  exact pm_sub [1, 0] rfl ((lpX1_globalsAreRight C X q n) a0 v5 h hn)
