theorem dX9_expression_0 : decode cX9_expression 0 = .ok (.iconst 0, 1) := by decide +kernel
theorem dX9_expression_1 : decode cX9_expression 1 = .ok (.istore_n 1, 1) := by decide +kernel
theorem dX9_expression_2 : decode cX9_expression 2 = .ok (.aload_n 0, 1) := by decide +kernel
theorem dX9_expression_3 : decode cX9_expression 3 = .ok (.getfield 9, 3) := by decide +kernel
theorem dX9_expression_6 : decode cX9_expression 6 = .ok (.iconst 0, 1) := by decide +kernel
theorem dX9_expression_7 : decode cX9_expression 7 = .ok (.iconst 0, 1) := by decide +kernel
theorem dX9_expression_8 : decode cX9_expression 8 = .ok (.bastore, 1) := by decide +kernel
theorem dX9_expression_9 : decode cX9_expression 9 = .ok (.iconst 0, 1) := by decide +kernel
theorem dX9_expression_10 : decode cX9_expression 10 = .ok (.istore_n 2, 1) := by decide +kernel
theorem dX9_expression_11 : decode cX9_expression 11 = .ok (.iload_n 2, 1) := by decide +kernel
theorem dX9_expression_12 : decode cX9_expression 12 = .ok (.aload_n 0, 1) := by decide +kernel
theorem dX9_expression_13 : decode cX9_expression 13 = .ok (.getfield 19, 3) := by decide +kernel
theorem dX9_expression_16 : decode cX9_expression 16 = .ok (.getfield 54, 3) := by decide +kernel
theorem dX9_expression_19 : decode cX9_expression 19 = .ok (.arraylength, 1) := by decide +kernel
theorem dX9_expression_20 : decode cX9_expression 20 = .ok (.if_icmp .gt 137, 3) := by decide +kernel
theorem dX9_expression_23 : decode cX9_expression 23 = .ok (.iload_n 1, 1) := by decide +kernel
theorem dX9_expression_24 : decode cX9_expression 24 = .ok (.ifCond .lt 133, 3) := by decide +kernel
theorem dX9_expression_27 : decode cX9_expression 27 = .ok (.aload_n 0, 1) := by decide +kernel
theorem dX9_expression_28 : decode cX9_expression 28 = .ok (.getfield 40, 3) := by decide +kernel
theorem dX9_expression_31 : decode cX9_expression 31 = .ok (.ifCond .ne 126, 3) := by decide +kernel
theorem dX9_expression_34 : decode cX9_expression 34 = .ok (.aload_n 0, 1) := by decide +kernel
theorem dX9_expression_35 : decode cX9_expression 35 = .ok (.invokevirtual 270, 3) := by decide +kernel
theorem dX9_expression_38 : decode cX9_expression 38 = .ok (.aload_n 0, 1) := by decide +kernel
theorem dX9_expression_39 : decode cX9_expression 39 = .ok (.getfield 273, 3) := by decide +kernel
theorem dX9_expression_42 : decode cX9_expression 42 = .ok (.bipush 11, 2) := by decide +kernel
theorem dX9_expression_44 : decode cX9_expression 44 = .ok (.if_icmp .ne 6, 3) := by decide +kernel
theorem dX9_expression_47 : decode cX9_expression 47 = .ok (.iinc 1 (-1), 3) := by decide +kernel
theorem dX9_expression_50 : decode cX9_expression 50 = .ok (.aload_n 0, 1) := by decide +kernel
theorem dX9_expression_51 : decode cX9_expression 51 = .ok (.getfield 273, 3) := by decide +kernel
theorem dX9_expression_54 : decode cX9_expression 54 = .ok (.iconst 5, 1) := by decide +kernel
theorem dX9_expression_55 : decode cX9_expression 55 = .ok (.if_icmp .ne 42, 3) := by decide +kernel
theorem dX9_expression_58 : decode cX9_expression 58 = .ok (.iload_n 1, 1) := by decide +kernel
theorem dX9_expression_59 : decode cX9_expression 59 = .ok (.ifCond .lt 38, 3) := by decide +kernel
theorem dX9_expression_62 : decode cX9_expression 62 = .ok (.iload_n 1, 1) := by decide +kernel
theorem dX9_expression_63 : decode cX9_expression 63 = .ok (.aload_n 0, 1) := by decide +kernel
theorem dX9_expression_64 : decode cX9_expression 64 = .ok (.getfield 9, 3) := by decide +kernel
theorem dX9_expression_67 : decode cX9_expression 67 = .ok (.arraylength, 1) := by decide +kernel
theorem dX9_expression_68 : decode cX9_expression 68 = .ok (.if_icmp .ge 29, 3) := by decide +kernel
theorem dX9_expression_71 : decode cX9_expression 71 = .ok (.aload_n 0, 1) := by decide +kernel
theorem dX9_expression_72 : decode cX9_expression 72 = .ok (.getfield 9, 3) := by decide +kernel
theorem dX9_expression_75 : decode cX9_expression 75 = .ok (.iload_n 1, 1) := by decide +kernel
theorem dX9_expression_76 : decode cX9_expression 76 = .ok (.baload, 1) := by decide +kernel
theorem dX9_expression_77 : decode cX9_expression 77 = .ok (.ifCond .ne 13, 3) := by decide +kernel
theorem dX9_expression_80 : decode cX9_expression 80 = .ok (.aload_n 0, 1) := by decide +kernel
theorem dX9_expression_81 : decode cX9_expression 81 = .ok (.bipush 10, 2) := by decide +kernel
theorem dX9_expression_83 : decode cX9_expression 83 = .ok (.aload_n 0, 1) := by decide +kernel
theorem dX9_expression_84 : decode cX9_expression 84 = .ok (.getfield 276, 3) := by decide +kernel
theorem dX9_expression_87 : decode cX9_expression 87 = .ok (.invokevirtual 47, 3) := by decide +kernel
theorem dX9_expression_90 : decode cX9_expression 90 = .ok (.aload_n 0, 1) := by decide +kernel
theorem dX9_expression_91 : decode cX9_expression 91 = .ok (.getfield 9, 3) := by decide +kernel
theorem dX9_expression_94 : decode cX9_expression 94 = .ok (.iload_n 1, 1) := by decide +kernel
theorem dX9_expression_95 : decode cX9_expression 95 = .ok (.iconst 0, 1) := by decide +kernel
theorem dX9_expression_96 : decode cX9_expression 96 = .ok (.bastore, 1) := by decide +kernel
theorem dX9_expression_97 : decode cX9_expression 97 = .ok (.aload_n 0, 1) := by decide +kernel
theorem dX9_expression_98 : decode cX9_expression 98 = .ok (.getfield 273, 3) := by decide +kernel
theorem dX9_expression_101 : decode cX9_expression 101 = .ok (.iconst 2, 1) := by decide +kernel
theorem dX9_expression_102 : decode cX9_expression 102 = .ok (.if_icmp .lt 49, 3) := by decide +kernel
theorem dX9_expression_105 : decode cX9_expression 105 = .ok (.aload_n 0, 1) := by decide +kernel
theorem dX9_expression_106 : decode cX9_expression 106 = .ok (.getfield 273, 3) := by decide +kernel
theorem dX9_expression_109 : decode cX9_expression 109 = .ok (.iconst 4, 1) := by decide +kernel
theorem dX9_expression_110 : decode cX9_expression 110 = .ok (.if_icmp .gt 41, 3) := by decide +kernel
theorem dX9_expression_113 : decode cX9_expression 113 = .ok (.aload_n 0, 1) := by decide +kernel
theorem dX9_expression_114 : decode cX9_expression 114 = .ok (.getfield 40, 3) := by decide +kernel
theorem dX9_expression_117 : decode cX9_expression 117 = .ok (.ifCond .ne 34, 3) := by decide +kernel
theorem dX9_expression_120 : decode cX9_expression 120 = .ok (.iinc 1 1, 3) := by decide +kernel
theorem dX9_expression_123 : decode cX9_expression 123 = .ok (.iload_n 1, 1) := by decide +kernel
theorem dX9_expression_124 : decode cX9_expression 124 = .ok (.aload_n 0, 1) := by decide +kernel
theorem dX9_expression_125 : decode cX9_expression 125 = .ok (.getfield 9, 3) := by decide +kernel
theorem dX9_expression_128 : decode cX9_expression 128 = .ok (.arraylength, 1) := by decide +kernel
theorem dX9_expression_129 : decode cX9_expression 129 = .ok (.if_icmp .ge 22, 3) := by decide +kernel
theorem dX9_expression_132 : decode cX9_expression 132 = .ok (.aload_n 0, 1) := by decide +kernel
theorem dX9_expression_133 : decode cX9_expression 133 = .ok (.getfield 9, 3) := by decide +kernel
theorem dX9_expression_136 : decode cX9_expression 136 = .ok (.iload_n 1, 1) := by decide +kernel
theorem dX9_expression_137 : decode cX9_expression 137 = .ok (.aload_n 0, 1) := by decide +kernel
theorem dX9_expression_138 : decode cX9_expression 138 = .ok (.getfield 273, 3) := by decide +kernel
theorem dX9_expression_141 : decode cX9_expression 141 = .ok (.iconst 4, 1) := by decide +kernel
theorem dX9_expression_142 : decode cX9_expression 142 = .ok (.if_icmp .ne 7, 3) := by decide +kernel
theorem dX9_expression_145 : decode cX9_expression 145 = .ok (.iconst 1, 1) := by decide +kernel
theorem dX9_expression_146 : decode cX9_expression 146 = .ok (.goto 4, 3) := by decide +kernel
theorem dX9_expression_149 : decode cX9_expression 149 = .ok (.iconst 0, 1) := by decide +kernel
theorem dX9_expression_150 : decode cX9_expression 150 = .ok (.bastore, 1) := by decide +kernel
theorem dX9_expression_151 : decode cX9_expression 151 = .ok (.iinc 2 1, 3) := by decide +kernel
theorem dX9_expression_154 : decode cX9_expression 154 = .ok (.goto (-143), 3) := by decide +kernel
theorem dX9_expression_157 : decode cX9_expression 157 = .ok (.return_, 1) := by decide +kernel
noncomputable def tX9_expression_11 (x0 : Nat) (x1 : Int32) (x2 : Int32) (h : pm_H) : Option (((Nat × Int32 × Int32 × pm_H) ⊕ (Nat × Int32 × Int32 × pm_H) ⊕ (Nat × Int32 × Int32 × pm_H)) ⊕ pm_H) := if pm_kd h x0 = 9 then (pm_R h x0 0).bind fun v7 => if pm_kd h v7 = 7 then (pm_R h v7 0).bind fun v10 => if pm_kd h v10 = 33 then if (Int32.ofNat (pm_ln h v10)) < x2 then (some (.inr (h))) else (if x1 < 0 then (some (.inr (h))) else (if (pm_I h x0 3) = 0 then ((fX9_instruction h x0).bind fun v16 => if pm_kd v16 x0 = 9 then if (pm_I v16 x0 6) = 11 then (pm_let (x1 + (-1)) fun y20 => some (.inl (.inr (.inl ((x0, y20, x2, v16)))))) else (some (.inl (.inr (.inl ((x0, x1, x2, v16)))))) else none) else (some (.inr (h))))) else none else none else none
noncomputable def tX9_expression_50 (x0 : Nat) (x1 : Int32) (x2 : Int32) (h : pm_H) : Option (((Nat × Int32 × Int32 × pm_H) ⊕ (Nat × Int32 × Int32 × pm_H) ⊕ (Nat × Int32 × Int32 × pm_H)) ⊕ pm_H) := if pm_kd h x0 = 9 then if (pm_I h x0 6) = 5 then (if x1 < 0 then (some (.inl (.inr (.inr ((x0, x1, x2, h)))))) else ((pm_R h x0 17).bind fun v25 => if pm_kd h v25 = 32 then if (Int32.ofNat (pm_ln h v25)) ≤ x1 then (some (.inl (.inr (.inr ((x0, x1, x2, h)))))) else (if pm_in x1 (pm_ln h v25) then if (pm_I h v25 x1.toNatClampNeg) = 0 then ((fX9_fail h x0 10 (pm_I h x0 7)).bind fun v32 => if pm_kd v32 x0 = 9 then (pm_R v32 x0 17).bind fun v35 => if pm_kd v32 v35 = 32 then if pm_in x1 (pm_ln v32 v35) then some (.inl (.inr (.inr ((x0, x1, x2, pm_setI v32 v35 x1.toNatClampNeg (vp_nar .boolean 0)))))) else none else none else none) else (if pm_in x1 (pm_ln h v25) then some (.inl (.inr (.inr ((x0, x1, x2, pm_setI h v25 x1.toNatClampNeg (vp_nar .boolean 0)))))) else none) else none) else none)) else (some (.inl (.inr (.inr ((x0, x1, x2, h)))))) else none
noncomputable def tX9_expression_97 (x0 : Nat) (x1 : Int32) (x2 : Int32) (h : pm_H) : Option (((Nat × Int32 × Int32 × pm_H) ⊕ (Nat × Int32 × Int32 × pm_H) ⊕ (Nat × Int32 × Int32 × pm_H)) ⊕ pm_H) := if pm_kd h x0 = 9 then if (pm_I h x0 6) < 2 then (pm_let (x2 + 1) fun y41 => some (.inl (.inl ((x0, x1, y41, h))))) else (if 4 < (pm_I h x0 6) then (pm_let (x2 + 1) fun y44 => some (.inl (.inl ((x0, x1, y44, h))))) else (if (pm_I h x0 3) = 0 then (pm_let (x1 + 1) fun y49 => (pm_R h x0 17).bind fun v51 => if pm_kd h v51 = 32 then if (Int32.ofNat (pm_ln h v51)) ≤ y49 then (pm_let (x2 + 1) fun y55 => some (.inl (.inl ((x0, y49, y55, h))))) else (if (pm_I h x0 6) = 4 then (if pm_in y49 (pm_ln h v51) then pm_let (x2 + 1) fun y62 => some (.inl (.inl ((x0, y49, y62, pm_setI h v51 y49.toNatClampNeg (vp_nar .boolean 1))))) else none) else (if pm_in y49 (pm_ln h v51) then pm_let (x2 + 1) fun y59 => some (.inl (.inl ((x0, y49, y59, pm_setI h v51 y49.toNatClampNeg (vp_nar .boolean 0))))) else none)) else none) else (pm_let (x2 + 1) fun y47 => some (.inl (.inl ((x0, x1, y47, h))))))) else none
noncomputable def sX9_expression : ((Nat × Int32 × Int32 × pm_H) ⊕ (Nat × Int32 × Int32 × pm_H) ⊕ (Nat × Int32 × Int32 × pm_H)) → Option (((Nat × Int32 × Int32 × pm_H) ⊕ (Nat × Int32 × Int32 × pm_H) ⊕ (Nat × Int32 × Int32 × pm_H)) ⊕ pm_H) := fun z => match z with
  | .inl (x0, x1, x2, h) => tX9_expression_11 x0 x1 x2 h
  | .inr (.inl (x0, x1, x2, h)) => tX9_expression_50 x0 x1 x2 h
  | .inr (.inr (x0, x1, x2, h)) => tX9_expression_97 x0 x1 x2 h
noncomputable def fX9_expression (h : pm_H) (a0 : Nat) : Option pm_H := if pm_kd h a0 = 9 then (pm_R h a0 17).bind fun v2 => if pm_kd h v2 = 32 then if pm_in 0 (pm_ln h v2) then pm_lim sX9_expression (.inl ((a0, 0, 0, pm_setI h v2 ((0 : Int32).toNatClampNeg) (vp_nar .boolean 0)))) else none else none else none
set_option maxHeartbeats 4000000 in
set_option maxRecDepth 100000 in
theorem lpX9_expression {g : pm_Gm} {l : Launch} {G : pm_Gl} {Qr : Option Value → pm_H → Prop} (C : pm_C g cX9_expression RX9) (X : pm_X g l G mX9_expression 0 0 Qr) {r : pm_H} (q : Qr none r) : ∀ n : Nat, (∀ (x0 : Nat) (x1 : Int32) (x2 : Int32) (h : pm_H), pm_iter sX9_expression n (.inl (x0, x1, x2, h)) = some r → pm_G g 11 [(0, .ref x0), (1, .int x1), (2, .int x2)] [] h 0 0) ∧ (∀ (x0 : Nat) (x1 : Int32) (x2 : Int32) (h : pm_H), pm_iter sX9_expression n (.inr (.inl (x0, x1, x2, h))) = some r → pm_G g 50 [(0, .ref x0), (1, .int x1), (2, .int x2)] [] h 0 0) ∧ (∀ (x0 : Nat) (x1 : Int32) (x2 : Int32) (h : pm_H), pm_iter sX9_expression n (.inr (.inr (x0, x1, x2, h))) = some r → pm_G g 97 [(0, .ref x0), (1, .int x1), (2, .int x2)] [] h 0 0) := by
  intro n
  induction n with
  | zero => exact ⟨fun _ _ _ _ hf => (by cases hf), fun _ _ _ _ hf => (by cases hf), fun _ _ _ _ hf => (by cases hf)⟩
  | succ n ih =>
    refine ⟨fun x0 x1 x2 h hf => ?_, ?_⟩
    · obtain ⟨y, hf, hi⟩ := pm_iter_s hf
      have hf : tX9_expression_11 x0 x1 x2 h = some y := hf
      unfold tX9_expression_11 at hf
      refine pm_iload_n C dX9_expression_11 rfl rfl ?_
      refine pm_aload_n C dX9_expression_12 rfl rfl ?_
      obtain ⟨k6, hf⟩ := pm_if hf
      obtain ⟨v7, e8, hf⟩ := pm_bd hf
      refine pm_getR C dX9_expression_13 flX9_19 rfl k6 e8 ?_
      obtain ⟨k9, hf⟩ := pm_if hf
      obtain ⟨v10, e11, hf⟩ := pm_bd hf
      refine pm_getR C dX9_expression_16 flX9_54 rfl k9 e11 ?_
      obtain ⟨k12, hf⟩ := pm_if hf
      refine pm_alen (t := 1) C dX9_expression_19 (by decide) k12 rfl ?_
      refine pm_icmp_gt (tgt := 157) C dX9_expression_20 (by decide) (fun c13 => ?_) (fun c13 => ?_)
      · have hf := pm_it hf c13
        cases hf
        cases hi
        exact pm_vret C X dX9_expression_157 rfl (Nat.le_refl _) (Nat.le_refl _) q
      · have hf := pm_ie hf c13
        refine pm_iload_n C dX9_expression_23 rfl rfl ?_
        refine pm_if_lt (tgt := 157) C dX9_expression_24 (by decide) (fun c14 => ?_) (fun c14 => ?_)
        · have hf := pm_it hf c14
          cases hf
          cases hi
          exact pm_vret C X dX9_expression_157 rfl (Nat.le_refl _) (Nat.le_refl _) q
        · have hf := pm_ie hf c14
          refine pm_aload_n C dX9_expression_27 rfl rfl ?_
          refine pm_getI C dX9_expression_28 flX9_40 rfl k6 rfl ?_
          refine pm_if_ne (tgt := 157) C dX9_expression_31 (by decide) (fun c15 => ?_) (fun c15 => ?_)
          · have hf := pm_ie hf c15
            cases hf
            cases hi
            exact pm_vret C X dX9_expression_157 rfl (Nat.le_refl _) (Nat.le_refl _) q
          · have hf := pm_it hf c15
            refine pm_aload_n C dX9_expression_34 rfl rfl ?_
            obtain ⟨v16, e17, hf⟩ := pm_bd hf
            refine pm_callV (as := []) (st := []) C X dX9_expression_35 lnX9_270 myX9_instruction viX9_instruction ⟨by decide, by decide⟩ rfl rfl k6 (Nat.le_of_ble_eq_true rfl) (Nat.le_refl _) (Nat.le_refl _) (ctX9_instruction e17 ?_)
            show pm_G g 38 [(0, .ref x0), (1, .int x1), (2, .int x2)] [] v16 0 0
            refine pm_aload_n C dX9_expression_38 rfl rfl ?_
            obtain ⟨k18, hf⟩ := pm_if hf
            refine pm_getI C dX9_expression_39 flX9_273 rfl k18 rfl ?_
            refine pm_bipush (v := 11) C dX9_expression_42 (by decide) ?_
            refine pm_icmp_ne (tgt := 50) C dX9_expression_44 (by decide) (fun c19 => ?_) (fun c19 => ?_)
            · have hf := pm_ie hf c19
              cases hf
              exact pm_sub [0, 1, 2] rfl (ih.2.1 x0 x1 x2 v16 hi)
            · have hf := pm_it hf c19
              obtain ⟨y20, e21, hf⟩ := pm_lt hf
              refine pm_iinc (v := y20) (lv' := [(1, .int y20), (0, .ref x0), (2, .int x2)]) C dX9_expression_47 rfl ((congrArg (x1 + ·) (by decide : Int32.ofInt (-1) = (-1))).trans e21) (pm_nl X (by decide)) rfl ?_
              cases hf
              exact pm_sub [1, 0, 2] rfl (ih.2.1 x0 y20 x2 v16 hi)
    refine ⟨fun x0 x1 x2 h hf => ?_, ?_⟩
    · obtain ⟨y, hf, hi⟩ := pm_iter_s hf
      have hf : tX9_expression_50 x0 x1 x2 h = some y := hf
      unfold tX9_expression_50 at hf
      refine pm_aload_n C dX9_expression_50 rfl rfl ?_
      obtain ⟨k22, hf⟩ := pm_if hf
      refine pm_getI C dX9_expression_51 flX9_273 rfl k22 rfl ?_
      refine pm_iconst (v := 5) C dX9_expression_54 (by decide) ?_
      refine pm_icmp_ne (tgt := 97) C dX9_expression_55 (by decide) (fun c23 => ?_) (fun c23 => ?_)
      · have hf := pm_ie hf c23
        cases hf
        exact pm_sub [0, 1, 2] rfl (ih.2.2 x0 x1 x2 h hi)
      · have hf := pm_it hf c23
        refine pm_iload_n C dX9_expression_58 rfl rfl ?_
        refine pm_if_lt (tgt := 97) C dX9_expression_59 (by decide) (fun c24 => ?_) (fun c24 => ?_)
        · have hf := pm_it hf c24
          cases hf
          exact pm_sub [0, 1, 2] rfl (ih.2.2 x0 x1 x2 h hi)
        · have hf := pm_ie hf c24
          refine pm_iload_n C dX9_expression_62 rfl rfl ?_
          refine pm_aload_n C dX9_expression_63 rfl rfl ?_
          obtain ⟨v25, e26, hf⟩ := pm_bd hf
          refine pm_getR C dX9_expression_64 flX9_9 rfl k22 e26 ?_
          obtain ⟨k27, hf⟩ := pm_if hf
          refine pm_alen (t := 0) C dX9_expression_67 (by decide) k27 rfl ?_
          refine pm_icmp_ge (tgt := 97) C dX9_expression_68 (by decide) (fun c28 => ?_) (fun c28 => ?_)
          · have hf := pm_it hf c28
            cases hf
            exact pm_sub [0, 1, 2] rfl (ih.2.2 x0 x1 x2 h hi)
          · have hf := pm_ie hf c28
            refine pm_aload_n C dX9_expression_71 rfl rfl ?_
            refine pm_getR C dX9_expression_72 flX9_9 rfl k22 e26 ?_
            refine pm_iload_n C dX9_expression_75 rfl rfl ?_
            obtain ⟨u29, hf⟩ := pm_if hf
            refine pm_zald C dX9_expression_76 k27 u29 rfl ?_
            refine pm_if_ne (tgt := 90) C dX9_expression_77 (by decide) (fun c30 => ?_) (fun c30 => ?_)
            · have hf := pm_ie hf c30
              refine pm_aload_n C dX9_expression_90 rfl rfl ?_
              refine pm_getR C dX9_expression_91 flX9_9 rfl k22 e26 ?_
              refine pm_iload_n C dX9_expression_94 rfl rfl ?_
              refine pm_iconst (v := 0) C dX9_expression_95 (by decide) ?_
              obtain ⟨u31, hf⟩ := pm_if hf
              refine pm_zast C dX9_expression_96 k27 u31 ?_
              cases hf
              exact pm_sub [0, 1, 2] rfl (ih.2.2 x0 x1 x2 (pm_setI h v25 x1.toNatClampNeg (vp_nar .boolean 0)) hi)
            · have hf := pm_it hf c30
              refine pm_aload_n C dX9_expression_80 rfl rfl ?_
              refine pm_bipush (v := 10) C dX9_expression_81 (by decide) ?_
              refine pm_aload_n C dX9_expression_83 rfl rfl ?_
              refine pm_getI C dX9_expression_84 flX9_276 rfl k22 rfl ?_
              obtain ⟨v32, e33, hf⟩ := pm_bd hf
              refine pm_callV (as := [.int 10, .int (pm_I h x0 7)]) (st := []) C X dX9_expression_87 lnX9_47 myX9_fail viX9_fail ⟨by decide, by decide⟩ rfl rfl k22 (Nat.le_of_ble_eq_true rfl) (Nat.le_refl _) (Nat.le_refl _) (ctX9_fail e33 ?_)
              show pm_G g 90 [(0, .ref x0), (1, .int x1), (2, .int x2)] [] v32 0 0
              refine pm_aload_n C dX9_expression_90 rfl rfl ?_
              obtain ⟨k34, hf⟩ := pm_if hf
              obtain ⟨v35, e36, hf⟩ := pm_bd hf
              refine pm_getR C dX9_expression_91 flX9_9 rfl k34 e36 ?_
              refine pm_iload_n C dX9_expression_94 rfl rfl ?_
              refine pm_iconst (v := 0) C dX9_expression_95 (by decide) ?_
              obtain ⟨k37, hf⟩ := pm_if hf
              obtain ⟨u38, hf⟩ := pm_if hf
              refine pm_zast C dX9_expression_96 k37 u38 ?_
              cases hf
              exact pm_sub [0, 1, 2] rfl (ih.2.2 x0 x1 x2 (pm_setI v32 v35 x1.toNatClampNeg (vp_nar .boolean 0)) hi)
    refine fun x0 x1 x2 h hf => ?_
    obtain ⟨y, hf, hi⟩ := pm_iter_s hf
    have hf : tX9_expression_97 x0 x1 x2 h = some y := hf
    unfold tX9_expression_97 at hf
    refine pm_aload_n C dX9_expression_97 rfl rfl ?_
    obtain ⟨k39, hf⟩ := pm_if hf
    refine pm_getI C dX9_expression_98 flX9_273 rfl k39 rfl ?_
    refine pm_iconst (v := 2) C dX9_expression_101 (by decide) ?_
    refine pm_icmp_lt (tgt := 151) C dX9_expression_102 (by decide) (fun c40 => ?_) (fun c40 => ?_)
    · have hf := pm_it hf c40
      obtain ⟨y41, e42, hf⟩ := pm_lt hf
      refine pm_iinc (v := y41) (lv' := [(2, .int y41), (0, .ref x0), (1, .int x1)]) C dX9_expression_151 rfl ((congrArg (x2 + ·) (by decide : Int32.ofInt 1 = 1)).trans e42) (pm_nl X (by decide)) rfl ?_
      refine pm_goto (tgt := 11) C dX9_expression_154 (by decide) ?_
      cases hf
      exact pm_sub [1, 2, 0] rfl (ih.1 x0 x1 y41 h hi)
    · have hf := pm_ie hf c40
      refine pm_aload_n C dX9_expression_105 rfl rfl ?_
      refine pm_getI C dX9_expression_106 flX9_273 rfl k39 rfl ?_
      refine pm_iconst (v := 4) C dX9_expression_109 (by decide) ?_
      refine pm_icmp_gt (tgt := 151) C dX9_expression_110 (by decide) (fun c43 => ?_) (fun c43 => ?_)
      · have hf := pm_it hf c43
        obtain ⟨y44, e45, hf⟩ := pm_lt hf
        refine pm_iinc (v := y44) (lv' := [(2, .int y44), (0, .ref x0), (1, .int x1)]) C dX9_expression_151 rfl ((congrArg (x2 + ·) (by decide : Int32.ofInt 1 = 1)).trans e45) (pm_nl X (by decide)) rfl ?_
        refine pm_goto (tgt := 11) C dX9_expression_154 (by decide) ?_
        cases hf
        exact pm_sub [1, 2, 0] rfl (ih.1 x0 x1 y44 h hi)
      · have hf := pm_ie hf c43
        refine pm_aload_n C dX9_expression_113 rfl rfl ?_
        refine pm_getI C dX9_expression_114 flX9_40 rfl k39 rfl ?_
        refine pm_if_ne (tgt := 151) C dX9_expression_117 (by decide) (fun c46 => ?_) (fun c46 => ?_)
        · have hf := pm_ie hf c46
          obtain ⟨y47, e48, hf⟩ := pm_lt hf
          refine pm_iinc (v := y47) (lv' := [(2, .int y47), (0, .ref x0), (1, .int x1)]) C dX9_expression_151 rfl ((congrArg (x2 + ·) (by decide : Int32.ofInt 1 = 1)).trans e48) (pm_nl X (by decide)) rfl ?_
          refine pm_goto (tgt := 11) C dX9_expression_154 (by decide) ?_
          cases hf
          exact pm_sub [1, 2, 0] rfl (ih.1 x0 x1 y47 h hi)
        · have hf := pm_it hf c46
          obtain ⟨y49, e50, hf⟩ := pm_lt hf
          refine pm_iinc (v := y49) (lv' := [(1, .int y49), (0, .ref x0), (2, .int x2)]) C dX9_expression_120 rfl ((congrArg (x1 + ·) (by decide : Int32.ofInt 1 = 1)).trans e50) (pm_nl X (by decide)) rfl ?_
          refine pm_iload_n C dX9_expression_123 rfl rfl ?_
          refine pm_aload_n C dX9_expression_124 rfl rfl ?_
          obtain ⟨v51, e52, hf⟩ := pm_bd hf
          refine pm_getR C dX9_expression_125 flX9_9 rfl k39 e52 ?_
          obtain ⟨k53, hf⟩ := pm_if hf
          refine pm_alen (t := 0) C dX9_expression_128 (by decide) k53 rfl ?_
          refine pm_icmp_ge (tgt := 151) C dX9_expression_129 (by decide) (fun c54 => ?_) (fun c54 => ?_)
          · have hf := pm_it hf c54
            obtain ⟨y55, e56, hf⟩ := pm_lt hf
            refine pm_iinc (v := y55) (lv' := [(2, .int y55), (1, .int y49), (0, .ref x0)]) C dX9_expression_151 rfl ((congrArg (x2 + ·) (by decide : Int32.ofInt 1 = 1)).trans e56) (pm_nl X (by decide)) rfl ?_
            refine pm_goto (tgt := 11) C dX9_expression_154 (by decide) ?_
            cases hf
            exact pm_sub [2, 1, 0] rfl (ih.1 x0 y49 y55 h hi)
          · have hf := pm_ie hf c54
            refine pm_aload_n C dX9_expression_132 rfl rfl ?_
            refine pm_getR C dX9_expression_133 flX9_9 rfl k39 e52 ?_
            refine pm_iload_n C dX9_expression_136 rfl rfl ?_
            refine pm_aload_n C dX9_expression_137 rfl rfl ?_
            refine pm_getI C dX9_expression_138 flX9_273 rfl k39 rfl ?_
            refine pm_iconst (v := 4) C dX9_expression_141 (by decide) ?_
            refine pm_icmp_ne (tgt := 149) C dX9_expression_142 (by decide) (fun c57 => ?_) (fun c57 => ?_)
            · have hf := pm_ie hf c57
              refine pm_iconst (v := 0) C dX9_expression_149 (by decide) ?_
              obtain ⟨u58, hf⟩ := pm_if hf
              refine pm_zast C dX9_expression_150 k53 u58 ?_
              obtain ⟨y59, e60, hf⟩ := pm_lt hf
              refine pm_iinc (v := y59) (lv' := [(2, .int y59), (1, .int y49), (0, .ref x0)]) C dX9_expression_151 rfl ((congrArg (x2 + ·) (by decide : Int32.ofInt 1 = 1)).trans e60) (pm_nl X (by decide)) rfl ?_
              refine pm_goto (tgt := 11) C dX9_expression_154 (by decide) ?_
              cases hf
              exact pm_sub [2, 1, 0] rfl (ih.1 x0 y49 y59 (pm_setI h v51 y49.toNatClampNeg (vp_nar .boolean 0)) hi)
            · have hf := pm_it hf c57
              refine pm_iconst (v := 1) C dX9_expression_145 (by decide) ?_
              refine pm_goto (tgt := 150) C dX9_expression_146 (by decide) ?_
              obtain ⟨u61, hf⟩ := pm_if hf
              refine pm_zast C dX9_expression_150 k53 u61 ?_
              obtain ⟨y62, e63, hf⟩ := pm_lt hf
              refine pm_iinc (v := y62) (lv' := [(2, .int y62), (1, .int y49), (0, .ref x0)]) C dX9_expression_151 rfl ((congrArg (x2 + ·) (by decide : Int32.ofInt 1 = 1)).trans e63) (pm_nl X (by decide)) rfl ?_
              refine pm_goto (tgt := 11) C dX9_expression_154 (by decide) ?_
              cases hf
              exact pm_sub [2, 1, 0] rfl (ih.1 x0 y49 y62 (pm_setI h v51 y49.toNatClampNeg (vp_nar .boolean 1)) hi)
set_option maxHeartbeats 4000000 in
set_option maxRecDepth 100000 in
theorem ctX9_expression {l : Launch} {G : pm_Gl} {h : pm_H} {a0 : Nat} {r : pm_H} {Qr : Option Value → pm_H → Prop} (hf : fX9_expression h a0 = some r) (q : Qr none r) : pm_Ct l G mX9_expression [.ref a0] h 0 0 Qr := by
  refine pm_body pnX9 (Nat.le_of_ble_eq_true rfl) (fun g C X => ?_)
  have C : pm_C g cX9_expression RX9 := C
  show pm_G g 0 [(0, .ref a0)] [] h 0 0
  unfold fX9_expression at hf
  refine pm_iconst (v := 0) C dX9_expression_0 (by decide) ?_
  refine pm_istore_n (lv' := [(1, .int 0), (0, .ref a0)]) C dX9_expression_1 rfl (pm_nl X (by decide)) rfl ?_
  refine pm_aload_n C dX9_expression_2 rfl rfl ?_
  obtain ⟨k1, hf⟩ := pm_if hf
  obtain ⟨v2, e3, hf⟩ := pm_bd hf
  refine pm_getR C dX9_expression_3 flX9_9 rfl k1 e3 ?_
  refine pm_iconst (v := 0) C dX9_expression_6 (by decide) ?_
  refine pm_iconst (v := 0) C dX9_expression_7 (by decide) ?_
  obtain ⟨k4, hf⟩ := pm_if hf
  obtain ⟨u5, hf⟩ := pm_if hf
  refine pm_zast C dX9_expression_8 k4 u5 ?_
  refine pm_iconst (v := 0) C dX9_expression_9 (by decide) ?_
  refine pm_istore_n (lv' := [(2, .int 0), (1, .int 0), (0, .ref a0)]) C dX9_expression_10 rfl (pm_nl X (by decide)) rfl ?_
  obtain ⟨n, hn⟩ := pm_lim_iter hf
  exact pm_sub [2, 1, 0] rfl ((lpX9_expression C X q n).1 a0 0 0 (pm_setI h v2 ((0 : Int32).toNatClampNeg) (vp_nar .boolean 0)) hn)
theorem dX9_own_0 : decode cX9_own 0 = .ok (.aload_n 0, 1) := by decide +kernel
theorem dX9_own_1 : decode cX9_own 1 = .ok (.getfield 185, 3) := by decide +kernel
theorem dX9_own_4 : decode cX9_own 4 = .ok (.aload_n 0, 1) := by decide +kernel
theorem dX9_own_5 : decode cX9_own 5 = .ok (.getfield 133, 3) := by decide +kernel
theorem dX9_own_8 : decode cX9_own 8 = .ok (.iadd, 1) := by decide +kernel
theorem dX9_own_9 : decode cX9_own 9 = .ok (.bipush 6, 2) := by decide +kernel
theorem dX9_own_11 : decode cX9_own 11 = .ok (.imul, 1) := by decide +kernel
theorem dX9_own_12 : decode cX9_own 12 = .ok (.istore_n 2, 1) := by decide +kernel
theorem dX9_own_13 : decode cX9_own 13 = .ok (.aload_n 0, 1) := by decide +kernel
theorem dX9_own_14 : decode cX9_own 14 = .ok (.aload_n 0, 1) := by decide +kernel
theorem dX9_own_15 : decode cX9_own 15 = .ok (.getfield 19, 3) := by decide +kernel
theorem dX9_own_18 : decode cX9_own 18 = .ok (.iload_n 1, 1) := by decide +kernel
theorem dX9_own_19 : decode cX9_own 19 = .ok (.invokevirtual 188, 3) := by decide +kernel
theorem dX9_own_22 : decode cX9_own 22 = .ok (.iload_n 2, 1) := by decide +kernel
theorem dX9_own_23 : decode cX9_own 23 = .ok (.iload_n 1, 1) := by decide +kernel
theorem dX9_own_24 : decode cX9_own 24 = .ok (.invokevirtual 231, 3) := by decide +kernel
theorem dX9_own_27 : decode cX9_own 27 = .ok (.iload_n 1, 1) := by decide +kernel
theorem dX9_own_28 : decode cX9_own 28 = .ok (.iconst 3, 1) := by decide +kernel
theorem dX9_own_29 : decode cX9_own 29 = .ok (.if_icmp .eq 4, 3) := by decide +kernel
theorem dX9_own_32 : decode cX9_own 32 = .ok (.return_, 1) := by decide +kernel
theorem dX9_own_33 : decode cX9_own 33 = .ok (.aload_n 0, 1) := by decide +kernel
theorem dX9_own_34 : decode cX9_own 34 = .ok (.getfield 19, 3) := by decide +kernel
theorem dX9_own_37 : decode cX9_own 37 = .ok (.getfield 235, 3) := by decide +kernel
theorem dX9_own_40 : decode cX9_own 40 = .ok (.iload_n 2, 1) := by decide +kernel
theorem dX9_own_41 : decode cX9_own 41 = .ok (.iconst 5, 1) := by decide +kernel
theorem dX9_own_42 : decode cX9_own 42 = .ok (.iadd, 1) := by decide +kernel
theorem dX9_own_43 : decode cX9_own 43 = .ok (.aload_n 0, 1) := by decide +kernel
theorem dX9_own_44 : decode cX9_own 44 = .ok (.getfield 51, 3) := by decide +kernel
theorem dX9_own_47 : decode cX9_own 47 = .ok (.i2l, 1) := by decide +kernel
theorem dX9_own_48 : decode cX9_own 48 = .ok (.invokestatic 238, 3) := by decide +kernel
theorem dX9_own_51 : decode cX9_own 51 = .ok (.aload_n 0, 1) := by decide +kernel
theorem dX9_own_52 : decode cX9_own 52 = .ok (.invokevirtual 241, 3) := by decide +kernel
theorem dX9_own_55 : decode cX9_own 55 = .ok (.return_, 1) := by decide +kernel
noncomputable def fX9_own (h : pm_H) (a0 : Nat) (p1 : Int32) : Option pm_H := if pm_kd h a0 = 9 then pm_let (((pm_I h a0 13) + (pm_I h a0 15)) * 6) fun y2 => (pm_R h a0 0).bind fun v4 => if pm_kd h v4 = 7 then (fX7_space h v4 p1).bind fun v7 => (fX9_describe h a0 v7 y2 p1).bind fun v9 => if p1 = 3 then (if pm_kd v9 a0 = 9 then (pm_R v9 a0 0).bind fun v13 => if pm_kd v9 v13 = 7 then (pm_R v9 v13 7).bind fun v16 => (fX12_setItem_ v9 v16 (y2 + 5) ((pm_I v9 a0 1).toInt64)).bind fun v18 => if pm_kd v18 a0 = 9 then (fX9_expression v18 a0).bind fun v21 => some v21 else none else none else none) else (some v9) else none else none
set_option maxHeartbeats 4000000 in
set_option maxRecDepth 100000 in
theorem ctX9_own {l : Launch} {G : pm_Gl} {h : pm_H} {a0 : Nat} {p1 : Int32} {r : pm_H} {Qr : Option Value → pm_H → Prop} (hf : fX9_own h a0 p1 = some r) (q : Qr none r) : pm_Ct l G mX9_own [.ref a0, .int p1] h 0 0 Qr := by
  refine pm_body pnX9 (Nat.le_of_ble_eq_true rfl) (fun g C X => ?_)
  have C : pm_C g cX9_own RX9 := C
  show pm_G g 0 [(0, .ref a0), (1, .int p1)] [] h 0 0
  unfold fX9_own at hf
  refine pm_aload_n C dX9_own_0 rfl rfl ?_
  obtain ⟨k1, hf⟩ := pm_if hf
  refine pm_getI C dX9_own_1 flX9_185 rfl k1 rfl ?_
  refine pm_aload_n C dX9_own_4 rfl rfl ?_
  refine pm_getI C dX9_own_5 flX9_133 rfl k1 rfl ?_
  refine pm_iadd C dX9_own_8 ?_
  refine pm_bipush (v := 6) C dX9_own_9 (by decide) ?_
  refine pm_imul C dX9_own_11 ?_
  obtain ⟨y2, e3, hf⟩ := pm_lt hf
  refine pm_topI e3 ?_
  refine pm_istore_n (lv' := [(2, .int y2), (0, .ref a0), (1, .int p1)]) C dX9_own_12 rfl (pm_nl X (by decide)) rfl ?_
  refine pm_aload_n C dX9_own_13 rfl rfl ?_
  refine pm_aload_n C dX9_own_14 rfl rfl ?_
  obtain ⟨v4, e5, hf⟩ := pm_bd hf
  refine pm_getR C dX9_own_15 flX9_19 rfl k1 e5 ?_
  refine pm_iload_n C dX9_own_18 rfl rfl ?_
  obtain ⟨k6, hf⟩ := pm_if hf
  obtain ⟨v7, e8, hf⟩ := pm_bd hf
  refine pm_callV (as := [.int p1]) (st := [.ref a0]) C X dX9_own_19 lnX9_188 myX7_space viX7_space ⟨by decide, by decide⟩ rfl rfl k6 (Nat.le_of_ble_eq_true rfl) (Nat.le_refl _) (Nat.le_refl _) (ctX7_space e8 ?_)
  show pm_G g 22 [(2, .int y2), (0, .ref a0), (1, .int p1)] [.ref v7, .ref a0] h 0 0
  refine pm_iload_n C dX9_own_22 rfl rfl ?_
  refine pm_iload_n C dX9_own_23 rfl rfl ?_
  obtain ⟨v9, e10, hf⟩ := pm_bd hf
  refine pm_callV (as := [.ref v7, .int y2, .int p1]) (st := []) C X dX9_own_24 lnX9_231 myX9_describe viX9_describe ⟨by decide, by decide⟩ rfl rfl k1 (Nat.le_of_ble_eq_true rfl) (Nat.le_refl _) (Nat.le_refl _) (ctX9_describe e10 ?_)
  show pm_G g 27 [(2, .int y2), (0, .ref a0), (1, .int p1)] [] v9 0 0
  refine pm_iload_n C dX9_own_27 rfl rfl ?_
  refine pm_iconst (v := 3) C dX9_own_28 (by decide) ?_
  refine pm_icmp_eq (tgt := 33) C dX9_own_29 (by decide) (fun c11 => ?_) (fun c11 => ?_)
  · have hf := pm_it hf c11
    refine pm_aload_n C dX9_own_33 rfl rfl ?_
    obtain ⟨k12, hf⟩ := pm_if hf
    obtain ⟨v13, e14, hf⟩ := pm_bd hf
    refine pm_getR C dX9_own_34 flX9_19 rfl k12 e14 ?_
    obtain ⟨k15, hf⟩ := pm_if hf
    obtain ⟨v16, e17, hf⟩ := pm_bd hf
    refine pm_getR C dX9_own_37 flX9_235 rfl k15 e17 ?_
    refine pm_iload_n C dX9_own_40 rfl rfl ?_
    refine pm_iconst (v := 5) C dX9_own_41 (by decide) ?_
    refine pm_iadd C dX9_own_42 ?_
    refine pm_aload_n C dX9_own_43 rfl rfl ?_
    refine pm_getI C dX9_own_44 flX9_51 rfl k12 rfl ?_
    refine pm_i2l C dX9_own_47 ?_
    obtain ⟨v18, e19, hf⟩ := pm_bd hf
    refine pm_callS (as := [.ref v16, .int (y2 + 5), .long ((pm_I v9 a0 1).toInt64)]) (st := []) C X dX9_own_48 lnX9_238 myX12_setItem_ stX12_setItem_ ⟨by decide, by decide⟩ rfl rfl (Nat.le_of_ble_eq_true rfl) (Nat.le_refl _) (Nat.le_refl _) (ctX12_setItem_ e19 ?_)
    show pm_G g 51 [(2, .int y2), (0, .ref a0), (1, .int p1)] [] v18 0 0
    refine pm_aload_n C dX9_own_51 rfl rfl ?_
    obtain ⟨k20, hf⟩ := pm_if hf
    obtain ⟨v21, e22, hf⟩ := pm_bd hf
    refine pm_callV (as := []) (st := []) C X dX9_own_52 lnX9_241 myX9_expression viX9_expression ⟨by decide, by decide⟩ rfl rfl k20 (Nat.le_of_ble_eq_true rfl) (Nat.le_refl _) (Nat.le_refl _) (ctX9_expression e22 ?_)
    show pm_G g 55 [(2, .int y2), (0, .ref a0), (1, .int p1)] [] v21 0 0
    cases hf
    exact pm_vret C X dX9_own_55 rfl (Nat.le_refl _) (Nat.le_refl _) q
  · have hf := pm_ie hf c11
    cases hf
    exact pm_vret C X dX9_own_32 rfl (Nat.le_refl _) (Nat.le_refl _) q
theorem dX10_addGlobal_0 : decode cX10_addGlobal 0 = .ok (.aload_n 0, 1) := by decide +kernel
theorem dX10_addGlobal_1 : decode cX10_addGlobal 1 = .ok (.getfield 171, 3) := by decide +kernel
theorem dX10_addGlobal_4 : decode cX10_addGlobal 4 = .ok (.istore_n 3, 1) := by decide +kernel
theorem dX10_addGlobal_5 : decode cX10_addGlobal 5 = .ok (.iload_n 3, 1) := by decide +kernel
theorem dX10_addGlobal_6 : decode cX10_addGlobal 6 = .ok (.sipush 256, 3) := by decide +kernel
theorem dX10_addGlobal_9 : decode cX10_addGlobal 9 = .ok (.if_icmp .lt 5, 3) := by decide +kernel
theorem dX10_addGlobal_12 : decode cX10_addGlobal 12 = .ok (.iconst 0, 1) := by decide +kernel
theorem dX10_addGlobal_13 : decode cX10_addGlobal 13 = .ok (.ireturn, 1) := by decide +kernel
theorem dX10_addGlobal_14 : decode cX10_addGlobal 14 = .ok (.aload_n 0, 1) := by decide +kernel
theorem dX10_addGlobal_15 : decode cX10_addGlobal 15 = .ok (.getfield 25, 3) := by decide +kernel
theorem dX10_addGlobal_18 : decode cX10_addGlobal 18 = .ok (.iload_n 3, 1) := by decide +kernel
theorem dX10_addGlobal_19 : decode cX10_addGlobal 19 = .ok (.aload_n 1, 1) := by decide +kernel
theorem dX10_addGlobal_20 : decode cX10_addGlobal 20 = .ok (.getfield 222, 3) := by decide +kernel
theorem dX10_addGlobal_23 : decode cX10_addGlobal 23 = .ok (.iconst 3, 1) := by decide +kernel
theorem dX10_addGlobal_24 : decode cX10_addGlobal 24 = .ok (.iload_n 2, 1) := by decide +kernel
theorem dX10_addGlobal_25 : decode cX10_addGlobal 25 = .ok (.iconst 1, 1) := by decide +kernel
theorem dX10_addGlobal_26 : decode cX10_addGlobal 26 = .ok (.invokevirtual 174, 3) := by decide +kernel
theorem dX10_addGlobal_29 : decode cX10_addGlobal 29 = .ok (.l2i, 1) := by decide +kernel
theorem dX10_addGlobal_30 : decode cX10_addGlobal 30 = .ok (.iastore, 1) := by decide +kernel
theorem dX10_addGlobal_31 : decode cX10_addGlobal 31 = .ok (.aload_n 0, 1) := by decide +kernel
theorem dX10_addGlobal_32 : decode cX10_addGlobal 32 = .ok (.getfield 33, 3) := by decide +kernel
theorem dX10_addGlobal_35 : decode cX10_addGlobal 35 = .ok (.iload_n 3, 1) := by decide +kernel
theorem dX10_addGlobal_36 : decode cX10_addGlobal 36 = .ok (.aload_n 1, 1) := by decide +kernel
theorem dX10_addGlobal_37 : decode cX10_addGlobal 37 = .ok (.getfield 222, 3) := by decide +kernel
theorem dX10_addGlobal_40 : decode cX10_addGlobal 40 = .ok (.iconst 3, 1) := by decide +kernel
theorem dX10_addGlobal_41 : decode cX10_addGlobal 41 = .ok (.iload_n 2, 1) := by decide +kernel
theorem dX10_addGlobal_42 : decode cX10_addGlobal 42 = .ok (.iconst 2, 1) := by decide +kernel
theorem dX10_addGlobal_43 : decode cX10_addGlobal 43 = .ok (.invokevirtual 174, 3) := by decide +kernel
theorem dX10_addGlobal_46 : decode cX10_addGlobal 46 = .ok (.lconst 1, 1) := by decide +kernel
theorem dX10_addGlobal_47 : decode cX10_addGlobal 47 = .ok (.lcmp, 1) := by decide +kernel
theorem dX10_addGlobal_48 : decode cX10_addGlobal 48 = .ok (.ifCond .ne 7, 3) := by decide +kernel
theorem dX10_addGlobal_51 : decode cX10_addGlobal 51 = .ok (.iconst 1, 1) := by decide +kernel
theorem dX10_addGlobal_52 : decode cX10_addGlobal 52 = .ok (.goto 4, 3) := by decide +kernel
theorem dX10_addGlobal_55 : decode cX10_addGlobal 55 = .ok (.iconst 0, 1) := by decide +kernel
theorem dX10_addGlobal_56 : decode cX10_addGlobal 56 = .ok (.bastore, 1) := by decide +kernel
theorem dX10_addGlobal_57 : decode cX10_addGlobal 57 = .ok (.aload_n 0, 1) := by decide +kernel
theorem dX10_addGlobal_58 : decode cX10_addGlobal 58 = .ok (.getfield 72, 3) := by decide +kernel
theorem dX10_addGlobal_61 : decode cX10_addGlobal 61 = .ok (.aload_n 1, 1) := by decide +kernel
theorem dX10_addGlobal_62 : decode cX10_addGlobal 62 = .ok (.getfield 222, 3) := by decide +kernel
theorem dX10_addGlobal_65 : decode cX10_addGlobal 65 = .ok (.aload_n 1, 1) := by decide +kernel
theorem dX10_addGlobal_66 : decode cX10_addGlobal 66 = .ok (.getfield 222, 3) := by decide +kernel
theorem dX10_addGlobal_69 : decode cX10_addGlobal 69 = .ok (.iconst 3, 1) := by decide +kernel
theorem dX10_addGlobal_70 : decode cX10_addGlobal 70 = .ok (.iload_n 2, 1) := by decide +kernel
theorem dX10_addGlobal_71 : decode cX10_addGlobal 71 = .ok (.iconst 5, 1) := by decide +kernel
theorem dX10_addGlobal_72 : decode cX10_addGlobal 72 = .ok (.invokevirtual 174, 3) := by decide +kernel
theorem dX10_addGlobal_75 : decode cX10_addGlobal 75 = .ok (.l2i, 1) := by decide +kernel
theorem dX10_addGlobal_76 : decode cX10_addGlobal 76 = .ok (.invokevirtual 226, 3) := by decide +kernel
theorem dX10_addGlobal_79 : decode cX10_addGlobal 79 = .ok (.aload_n 0, 1) := by decide +kernel
theorem dX10_addGlobal_80 : decode cX10_addGlobal 80 = .ok (.getfield 29, 3) := by decide +kernel
theorem dX10_addGlobal_83 : decode cX10_addGlobal 83 = .ok (.iload_n 3, 1) := by decide +kernel
theorem dX10_addGlobal_84 : decode cX10_addGlobal 84 = .ok (.aload_n 0, 1) := by decide +kernel
theorem dX10_addGlobal_85 : decode cX10_addGlobal 85 = .ok (.aload_n 1, 1) := by decide +kernel
theorem dX10_addGlobal_86 : decode cX10_addGlobal 86 = .ok (.invokevirtual 232, 3) := by decide +kernel
theorem dX10_addGlobal_89 : decode cX10_addGlobal 89 = .ok (.lastore, 1) := by decide +kernel
theorem dX10_addGlobal_90 : decode cX10_addGlobal 90 = .ok (.aload_n 0, 1) := by decide +kernel
theorem dX10_addGlobal_91 : decode cX10_addGlobal 91 = .ok (.dup, 1) := by decide +kernel
theorem dX10_addGlobal_92 : decode cX10_addGlobal 92 = .ok (.getfield 171, 3) := by decide +kernel
theorem dX10_addGlobal_95 : decode cX10_addGlobal 95 = .ok (.iconst 1, 1) := by decide +kernel
theorem dX10_addGlobal_96 : decode cX10_addGlobal 96 = .ok (.iadd, 1) := by decide +kernel
theorem dX10_addGlobal_97 : decode cX10_addGlobal 97 = .ok (.putfield 171, 3) := by decide +kernel
theorem dX10_addGlobal_100 : decode cX10_addGlobal 100 = .ok (.iload_n 3, 1) := by decide +kernel
theorem dX10_addGlobal_101 : decode cX10_addGlobal 101 = .ok (.ireturn, 1) := by decide +kernel
noncomputable def fX10_addGlobal (h : pm_H) (a0 : Nat) (p1 : Nat) (p2 : Int32) : Option (Int32 × pm_H) := if pm_kd h a0 = 10 then pm_let (pm_I h a0 9) fun y2 => if y2 < 256 then ((pm_R h a0 6).bind fun v5 => if pm_kd h p1 = 4 then (pm_R h p1 0).bind fun v8 => if pm_kd h v8 = 7 then (fX7_of h v8 3 p2 1).bind fun v11 => if pm_kd h v5 = 34 then if pm_in y2 (pm_ln h v5) then (pm_R (pm_setI h v5 y2.toNatClampNeg v11.toInt32) a0 8).bind fun v15 => (fX7_of (pm_setI h v5 y2.toNatClampNeg v11.toInt32) v8 3 p2 2).bind fun v17 => if v17 = 1 then (if pm_kd (pm_setI h v5 y2.toNatClampNeg v11.toInt32) v15 = 32 then if pm_in y2 (pm_ln (pm_setI h v5 y2.toNatClampNeg v11.toInt32) v15) then (pm_R (pm_setI (pm_setI h v5 y2.toNatClampNeg v11.toInt32) v15 y2.toNatClampNeg (vp_nar .boolean 1)) a0 18).bind fun v41 => (fX7_of (pm_setI (pm_setI h v5 y2.toNatClampNeg v11.toInt32) v15 y2.toNatClampNeg (vp_nar .boolean 1)) v8 3 p2 5).bind fun v43 => if pm_kd (pm_setI (pm_setI h v5 y2.toNatClampNeg v11.toInt32) v15 y2.toNatClampNeg (vp_nar .boolean 1)) v41 = 9 then (fX9_open (pm_setI (pm_setI h v5 y2.toNatClampNeg v11.toInt32) v15 y2.toNatClampNeg (vp_nar .boolean 1)) v41 v8 v43.toInt32).bind fun v46 => if pm_kd v46 a0 = 10 then (pm_R v46 a0 7).bind fun v49 => (fX10_constant v46 a0 p1).bind fun v51 => if pm_kd v51.2 v49 = 35 then if pm_in y2 (pm_ln v51.2 v49) then if pm_kd (pm_setL v51.2 v49 y2.toNatClampNeg v51.1) a0 = 10 then pm_let ((pm_I (pm_setL v51.2 v49 y2.toNatClampNeg v51.1) a0 9) + 1) fun y56 => some ((y2, pm_setI (pm_setL v51.2 v49 y2.toNatClampNeg v51.1) a0 9 y56)) else none else none else none else none else none else none else none) else (if pm_kd (pm_setI h v5 y2.toNatClampNeg v11.toInt32) v15 = 32 then if pm_in y2 (pm_ln (pm_setI h v5 y2.toNatClampNeg v11.toInt32) v15) then (pm_R (pm_setI (pm_setI h v5 y2.toNatClampNeg v11.toInt32) v15 y2.toNatClampNeg (vp_nar .boolean 0)) a0 18).bind fun v22 => (fX7_of (pm_setI (pm_setI h v5 y2.toNatClampNeg v11.toInt32) v15 y2.toNatClampNeg (vp_nar .boolean 0)) v8 3 p2 5).bind fun v24 => if pm_kd (pm_setI (pm_setI h v5 y2.toNatClampNeg v11.toInt32) v15 y2.toNatClampNeg (vp_nar .boolean 0)) v22 = 9 then (fX9_open (pm_setI (pm_setI h v5 y2.toNatClampNeg v11.toInt32) v15 y2.toNatClampNeg (vp_nar .boolean 0)) v22 v8 v24.toInt32).bind fun v27 => if pm_kd v27 a0 = 10 then (pm_R v27 a0 7).bind fun v30 => (fX10_constant v27 a0 p1).bind fun v32 => if pm_kd v32.2 v30 = 35 then if pm_in y2 (pm_ln v32.2 v30) then if pm_kd (pm_setL v32.2 v30 y2.toNatClampNeg v32.1) a0 = 10 then pm_let ((pm_I (pm_setL v32.2 v30 y2.toNatClampNeg v32.1) a0 9) + 1) fun y37 => some ((y2, pm_setI (pm_setL v32.2 v30 y2.toNatClampNeg v32.1) a0 9 y37)) else none else none else none else none else none else none else none) else none else none else none else none) else (some ((0, h))) else none
set_option maxHeartbeats 4000000 in
set_option maxRecDepth 100000 in
theorem ctX10_addGlobal {l : Launch} {G : pm_Gl} {h : pm_H} {a0 : Nat} {p1 : Nat} {p2 : Int32} {r : (Int32 × pm_H)} {Qr : Option Value → pm_H → Prop} (hf : fX10_addGlobal h a0 p1 p2 = some r) (q : Qr (some (.int r.1)) r.2) : pm_Ct l G mX10_addGlobal [.ref a0, .ref p1, .int p2] h 0 0 Qr := by
  refine pm_body pnX10 (Nat.le_of_ble_eq_true rfl) (fun g C X => ?_)
  have C : pm_C g cX10_addGlobal RX10 := C
  show pm_G g 0 [(0, .ref a0), (1, .ref p1), (2, .int p2)] [] h 0 0
  unfold fX10_addGlobal at hf
  refine pm_aload_n C dX10_addGlobal_0 rfl rfl ?_
  obtain ⟨k1, hf⟩ := pm_if hf
  refine pm_getI C dX10_addGlobal_1 flX10_171 rfl k1 rfl ?_
  obtain ⟨y2, e3, hf⟩ := pm_lt hf
  refine pm_topI e3 ?_
  refine pm_istore_n (lv' := [(3, .int y2), (0, .ref a0), (1, .ref p1), (2, .int p2)]) C dX10_addGlobal_4 rfl (pm_nl X (by decide)) rfl ?_
  refine pm_iload_n C dX10_addGlobal_5 rfl rfl ?_
  refine pm_sipush (v := 256) C dX10_addGlobal_6 (by decide) ?_
  refine pm_icmp_lt (tgt := 14) C dX10_addGlobal_9 (by decide) (fun c4 => ?_) (fun c4 => ?_)
  · have hf := pm_it hf c4
    refine pm_aload_n C dX10_addGlobal_14 rfl rfl ?_
    obtain ⟨v5, e6, hf⟩ := pm_bd hf
    refine pm_getR C dX10_addGlobal_15 flX10_25 rfl k1 e6 ?_
    refine pm_iload_n C dX10_addGlobal_18 rfl rfl ?_
    refine pm_aload_n C dX10_addGlobal_19 rfl rfl ?_
    obtain ⟨k7, hf⟩ := pm_if hf
    obtain ⟨v8, e9, hf⟩ := pm_bd hf
    refine pm_getR C dX10_addGlobal_20 flX10_222 rfl k7 e9 ?_
    refine pm_iconst (v := 3) C dX10_addGlobal_23 (by decide) ?_
    refine pm_iload_n C dX10_addGlobal_24 rfl rfl ?_
    refine pm_iconst (v := 1) C dX10_addGlobal_25 (by decide) ?_
    obtain ⟨k10, hf⟩ := pm_if hf
    obtain ⟨v11, e12, hf⟩ := pm_bd hf
    refine pm_callV (as := [.int 3, .int p2, .int 1]) (st := [.int y2, .ref v5]) C X dX10_addGlobal_26 lnX10_174 myX7_of viX7_of ⟨by decide, by decide⟩ rfl rfl k10 (Nat.le_of_ble_eq_true rfl) (Nat.le_refl _) (Nat.le_refl _) (ctX7_of e12 ?_)
    show pm_G g 29 [(3, .int y2), (0, .ref a0), (1, .ref p1), (2, .int p2)] [.long v11, .int y2, .ref v5] h 0 0
    refine pm_l2i C dX10_addGlobal_29 ?_
    obtain ⟨k13, hf⟩ := pm_if hf
    obtain ⟨u14, hf⟩ := pm_if hf
    refine pm_iast C dX10_addGlobal_30 k13 u14 ?_
    refine pm_aload_n C dX10_addGlobal_31 rfl rfl ?_
    obtain ⟨v15, e16, hf⟩ := pm_bd hf
    refine pm_getR C dX10_addGlobal_32 flX10_33 rfl k1 e16 ?_
    refine pm_iload_n C dX10_addGlobal_35 rfl rfl ?_
    refine pm_aload_n C dX10_addGlobal_36 rfl rfl ?_
    refine pm_getR C dX10_addGlobal_37 flX10_222 rfl k7 e9 ?_
    refine pm_iconst (v := 3) C dX10_addGlobal_40 (by decide) ?_
    refine pm_iload_n C dX10_addGlobal_41 rfl rfl ?_
    refine pm_iconst (v := 2) C dX10_addGlobal_42 (by decide) ?_
    obtain ⟨v17, e18, hf⟩ := pm_bd hf
    refine pm_callV (as := [.int 3, .int p2, .int 2]) (st := [.int y2, .ref v15]) C X dX10_addGlobal_43 lnX10_174 myX7_of viX7_of ⟨by decide, by decide⟩ rfl rfl k10 (Nat.le_of_ble_eq_true rfl) (Nat.le_refl _) (Nat.le_refl _) (ctX7_of e18 ?_)
    show pm_G g 46 [(3, .int y2), (0, .ref a0), (1, .ref p1), (2, .int p2)] [.long v17, .int y2, .ref v15] (pm_setI h v5 y2.toNatClampNeg v11.toInt32) 0 0
    refine pm_lconst (v := 1) C dX10_addGlobal_46 (by decide) ?_
    refine pm_lcmp C dX10_addGlobal_47 ?_
    refine pm_if_ne (tgt := 55) C dX10_addGlobal_48 (by decide) (fun c19 => ?_) (fun c19 => ?_)
    · have hf := pm_ie hf ((fun z => c19 ((pm_lg_eq _ _).mpr z)))
      refine pm_iconst (v := 0) C dX10_addGlobal_55 (by decide) ?_
      obtain ⟨k20, hf⟩ := pm_if hf
      obtain ⟨u21, hf⟩ := pm_if hf
      refine pm_zast C dX10_addGlobal_56 k20 u21 ?_
      refine pm_aload_n C dX10_addGlobal_57 rfl rfl ?_
      obtain ⟨v22, e23, hf⟩ := pm_bd hf
      refine pm_getR C dX10_addGlobal_58 flX10_72 rfl k1 e23 ?_
      refine pm_aload_n C dX10_addGlobal_61 rfl rfl ?_
      refine pm_getR C dX10_addGlobal_62 flX10_222 rfl k7 e9 ?_
      refine pm_aload_n C dX10_addGlobal_65 rfl rfl ?_
      refine pm_getR C dX10_addGlobal_66 flX10_222 rfl k7 e9 ?_
      refine pm_iconst (v := 3) C dX10_addGlobal_69 (by decide) ?_
      refine pm_iload_n C dX10_addGlobal_70 rfl rfl ?_
      refine pm_iconst (v := 5) C dX10_addGlobal_71 (by decide) ?_
      obtain ⟨v24, e25, hf⟩ := pm_bd hf
      refine pm_callV (as := [.int 3, .int p2, .int 5]) (st := [.ref v8, .ref v22]) C X dX10_addGlobal_72 lnX10_174 myX7_of viX7_of ⟨by decide, by decide⟩ rfl rfl k10 (Nat.le_of_ble_eq_true rfl) (Nat.le_refl _) (Nat.le_refl _) (ctX7_of e25 ?_)
      show pm_G g 75 [(3, .int y2), (0, .ref a0), (1, .ref p1), (2, .int p2)] [.long v24, .ref v8, .ref v22] (pm_setI (pm_setI h v5 y2.toNatClampNeg v11.toInt32) v15 y2.toNatClampNeg (vp_nar .boolean 0)) 0 0
      refine pm_l2i C dX10_addGlobal_75 ?_
      obtain ⟨k26, hf⟩ := pm_if hf
      obtain ⟨v27, e28, hf⟩ := pm_bd hf
      refine pm_callV (as := [.ref v8, .int v24.toInt32]) (st := []) C X dX10_addGlobal_76 lnX10_226 myX9_open viX9_open ⟨by decide, by decide⟩ rfl rfl k26 (Nat.le_of_ble_eq_true rfl) (Nat.le_refl _) (Nat.le_refl _) (ctX9_open e28 ?_)
      show pm_G g 79 [(3, .int y2), (0, .ref a0), (1, .ref p1), (2, .int p2)] [] v27 0 0
      refine pm_aload_n C dX10_addGlobal_79 rfl rfl ?_
      obtain ⟨k29, hf⟩ := pm_if hf
      obtain ⟨v30, e31, hf⟩ := pm_bd hf
      refine pm_getR C dX10_addGlobal_80 flX10_29 rfl k29 e31 ?_
      refine pm_iload_n C dX10_addGlobal_83 rfl rfl ?_
      refine pm_aload_n C dX10_addGlobal_84 rfl rfl ?_
      refine pm_aload_n C dX10_addGlobal_85 rfl rfl ?_
      obtain ⟨v32, e33, hf⟩ := pm_bd hf
      refine pm_callV (as := [.ref p1]) (st := [.int y2, .ref v30]) C X dX10_addGlobal_86 lnX10_232 myX10_constant viX10_constant ⟨by decide, by decide⟩ rfl rfl k29 (Nat.le_of_ble_eq_true rfl) (Nat.le_refl _) (Nat.le_refl _) (ctX10_constant e33 ?_)
      show pm_G g 89 [(3, .int y2), (0, .ref a0), (1, .ref p1), (2, .int p2)] [.long v32.1, .int y2, .ref v30] v32.2 0 0
      obtain ⟨k34, hf⟩ := pm_if hf
      obtain ⟨u35, hf⟩ := pm_if hf
      refine pm_last C dX10_addGlobal_89 k34 u35 ?_
      refine pm_aload_n C dX10_addGlobal_90 rfl rfl ?_
      refine pm_dup C dX10_addGlobal_91 rfl ?_
      obtain ⟨k36, hf⟩ := pm_if hf
      refine pm_getI C dX10_addGlobal_92 flX10_171 rfl k36 rfl ?_
      refine pm_iconst (v := 1) C dX10_addGlobal_95 (by decide) ?_
      refine pm_iadd C dX10_addGlobal_96 ?_
      obtain ⟨y37, e38, hf⟩ := pm_lt hf
      refine pm_topI e38 ?_
      refine pm_putI C dX10_addGlobal_97 flX10_171 rfl rfl k36 rfl rfl ?_
      refine pm_iload_n C dX10_addGlobal_100 rfl rfl ?_
      cases hf
      exact pm_iret C X dX10_addGlobal_101 rfl (Nat.le_refl _) (Nat.le_refl _) q
    · have hf := pm_it hf ((pm_lg_eq _ _).mp c19)
      refine pm_iconst (v := 1) C dX10_addGlobal_51 (by decide) ?_
      refine pm_goto (tgt := 56) C dX10_addGlobal_52 (by decide) ?_
      obtain ⟨k39, hf⟩ := pm_if hf
      obtain ⟨u40, hf⟩ := pm_if hf
      refine pm_zast C dX10_addGlobal_56 k39 u40 ?_
      refine pm_aload_n C dX10_addGlobal_57 rfl rfl ?_
      obtain ⟨v41, e42, hf⟩ := pm_bd hf
      refine pm_getR C dX10_addGlobal_58 flX10_72 rfl k1 e42 ?_
      refine pm_aload_n C dX10_addGlobal_61 rfl rfl ?_
      refine pm_getR C dX10_addGlobal_62 flX10_222 rfl k7 e9 ?_
      refine pm_aload_n C dX10_addGlobal_65 rfl rfl ?_
      refine pm_getR C dX10_addGlobal_66 flX10_222 rfl k7 e9 ?_
      refine pm_iconst (v := 3) C dX10_addGlobal_69 (by decide) ?_
      refine pm_iload_n C dX10_addGlobal_70 rfl rfl ?_
      refine pm_iconst (v := 5) C dX10_addGlobal_71 (by decide) ?_
      obtain ⟨v43, e44, hf⟩ := pm_bd hf
      refine pm_callV (as := [.int 3, .int p2, .int 5]) (st := [.ref v8, .ref v41]) C X dX10_addGlobal_72 lnX10_174 myX7_of viX7_of ⟨by decide, by decide⟩ rfl rfl k10 (Nat.le_of_ble_eq_true rfl) (Nat.le_refl _) (Nat.le_refl _) (ctX7_of e44 ?_)
      show pm_G g 75 [(3, .int y2), (0, .ref a0), (1, .ref p1), (2, .int p2)] [.long v43, .ref v8, .ref v41] (pm_setI (pm_setI h v5 y2.toNatClampNeg v11.toInt32) v15 y2.toNatClampNeg (vp_nar .boolean 1)) 0 0
      refine pm_l2i C dX10_addGlobal_75 ?_
      obtain ⟨k45, hf⟩ := pm_if hf
      obtain ⟨v46, e47, hf⟩ := pm_bd hf
      refine pm_callV (as := [.ref v8, .int v43.toInt32]) (st := []) C X dX10_addGlobal_76 lnX10_226 myX9_open viX9_open ⟨by decide, by decide⟩ rfl rfl k45 (Nat.le_of_ble_eq_true rfl) (Nat.le_refl _) (Nat.le_refl _) (ctX9_open e47 ?_)
      show pm_G g 79 [(3, .int y2), (0, .ref a0), (1, .ref p1), (2, .int p2)] [] v46 0 0
      refine pm_aload_n C dX10_addGlobal_79 rfl rfl ?_
      obtain ⟨k48, hf⟩ := pm_if hf
      obtain ⟨v49, e50, hf⟩ := pm_bd hf
      refine pm_getR C dX10_addGlobal_80 flX10_29 rfl k48 e50 ?_
      refine pm_iload_n C dX10_addGlobal_83 rfl rfl ?_
      refine pm_aload_n C dX10_addGlobal_84 rfl rfl ?_
      refine pm_aload_n C dX10_addGlobal_85 rfl rfl ?_
      obtain ⟨v51, e52, hf⟩ := pm_bd hf
      refine pm_callV (as := [.ref p1]) (st := [.int y2, .ref v49]) C X dX10_addGlobal_86 lnX10_232 myX10_constant viX10_constant ⟨by decide, by decide⟩ rfl rfl k48 (Nat.le_of_ble_eq_true rfl) (Nat.le_refl _) (Nat.le_refl _) (ctX10_constant e52 ?_)
      show pm_G g 89 [(3, .int y2), (0, .ref a0), (1, .ref p1), (2, .int p2)] [.long v51.1, .int y2, .ref v49] v51.2 0 0
      obtain ⟨k53, hf⟩ := pm_if hf
      obtain ⟨u54, hf⟩ := pm_if hf
      refine pm_last C dX10_addGlobal_89 k53 u54 ?_
      refine pm_aload_n C dX10_addGlobal_90 rfl rfl ?_
      refine pm_dup C dX10_addGlobal_91 rfl ?_
      obtain ⟨k55, hf⟩ := pm_if hf
      refine pm_getI C dX10_addGlobal_92 flX10_171 rfl k55 rfl ?_
      refine pm_iconst (v := 1) C dX10_addGlobal_95 (by decide) ?_
      refine pm_iadd C dX10_addGlobal_96 ?_
      obtain ⟨y56, e57, hf⟩ := pm_lt hf
      refine pm_topI e57 ?_
      refine pm_putI C dX10_addGlobal_97 flX10_171 rfl rfl k55 rfl rfl ?_
      refine pm_iload_n C dX10_addGlobal_100 rfl rfl ?_
      cases hf
      exact pm_iret C X dX10_addGlobal_101 rfl (Nat.le_refl _) (Nat.le_refl _) q
  · have hf := pm_ie hf c4
    refine pm_iconst (v := 0) C dX10_addGlobal_12 (by decide) ?_
    cases hf
    exact pm_iret C X dX10_addGlobal_13 rfl (Nat.le_refl _) (Nat.le_refl _) q
theorem dX9_body_0 : decode cX9_body 0 = .ok (.aload_n 0, 1) := by decide +kernel
theorem dX9_body_1 : decode cX9_body 1 = .ok (.getfield 51, 3) := by decide +kernel
theorem dX9_body_4 : decode cX9_body 4 = .ok (.istore_n 1, 1) := by decide +kernel
theorem dX9_body_5 : decode cX9_body 5 = .ok (.aload_n 0, 1) := by decide +kernel
theorem dX9_body_6 : decode cX9_body 6 = .ok (.bipush 32, 2) := by decide +kernel
theorem dX9_body_8 : decode cX9_body 8 = .ok (.invokevirtual 145, 3) := by decide +kernel
theorem dX9_body_11 : decode cX9_body 11 = .ok (.lstore_n 2, 1) := by decide +kernel
theorem dX9_body_12 : decode cX9_body 12 = .ok (.lload_n 2, 1) := by decide +kernel
theorem dX9_body_13 : decode cX9_body 13 = .ok (.aload_n 0, 1) := by decide +kernel
theorem dX9_body_14 : decode cX9_body 14 = .ok (.getfield 60, 3) := by decide +kernel
theorem dX9_body_17 : decode cX9_body 17 = .ok (.aload_n 0, 1) := by decide +kernel
theorem dX9_body_18 : decode cX9_body 18 = .ok (.getfield 51, 3) := by decide +kernel
theorem dX9_body_21 : decode cX9_body 21 = .ok (.isub, 1) := by decide +kernel
theorem dX9_body_22 : decode cX9_body 22 = .ok (.i2l, 1) := by decide +kernel
theorem dX9_body_23 : decode cX9_body 23 = .ok (.lcmp, 1) := by decide +kernel
theorem dX9_body_24 : decode cX9_body 24 = .ok (.ifCond .le 9, 3) := by decide +kernel
theorem dX9_body_27 : decode cX9_body 27 = .ok (.aload_n 0, 1) := by decide +kernel
theorem dX9_body_28 : decode cX9_body 28 = .ok (.iconst 2, 1) := by decide +kernel
theorem dX9_body_29 : decode cX9_body 29 = .ok (.iload_n 1, 1) := by decide +kernel
theorem dX9_body_30 : decode cX9_body 30 = .ok (.invokevirtual 47, 3) := by decide +kernel
theorem dX9_body_33 : decode cX9_body 33 = .ok (.aload_n 0, 1) := by decide +kernel
theorem dX9_body_34 : decode cX9_body 34 = .ok (.getfield 40, 3) := by decide +kernel
theorem dX9_body_37 : decode cX9_body 37 = .ok (.ifCond .eq 4, 3) := by decide +kernel
theorem dX9_body_40 : decode cX9_body 40 = .ok (.return_, 1) := by decide +kernel
theorem dX9_body_41 : decode cX9_body 41 = .ok (.aload_n 0, 1) := by decide +kernel
theorem dX9_body_42 : decode cX9_body 42 = .ok (.getfield 60, 3) := by decide +kernel
theorem dX9_body_45 : decode cX9_body 45 = .ok (.istore 4, 2) := by decide +kernel
theorem dX9_body_47 : decode cX9_body 47 = .ok (.aload_n 0, 1) := by decide +kernel
theorem dX9_body_48 : decode cX9_body 48 = .ok (.getfield 51, 3) := by decide +kernel
theorem dX9_body_51 : decode cX9_body 51 = .ok (.istore 5, 2) := by decide +kernel
theorem dX9_body_53 : decode cX9_body 53 = .ok (.aload_n 0, 1) := by decide +kernel
theorem dX9_body_54 : decode cX9_body 54 = .ok (.aload_n 0, 1) := by decide +kernel
theorem dX9_body_55 : decode cX9_body 55 = .ok (.getfield 51, 3) := by decide +kernel
theorem dX9_body_58 : decode cX9_body 58 = .ok (.lload_n 2, 1) := by decide +kernel
theorem dX9_body_59 : decode cX9_body 59 = .ok (.l2i, 1) := by decide +kernel
theorem dX9_body_60 : decode cX9_body 60 = .ok (.iadd, 1) := by decide +kernel
theorem dX9_body_61 : decode cX9_body 61 = .ok (.putfield 60, 3) := by decide +kernel
theorem dX9_body_64 : decode cX9_body 64 = .ok (.aload_n 0, 1) := by decide +kernel
theorem dX9_body_65 : decode cX9_body 65 = .ok (.getfield 19, 3) := by decide +kernel
theorem dX9_body_68 : decode cX9_body 68 = .ok (.getfield 77, 3) := by decide +kernel
theorem dX9_body_71 : decode cX9_body 71 = .ok (.iconst 2, 1) := by decide +kernel
theorem dX9_body_72 : decode cX9_body 72 = .ok (.aload_n 0, 1) := by decide +kernel
theorem dX9_body_73 : decode cX9_body 73 = .ok (.getfield 133, 3) := by decide +kernel
theorem dX9_body_76 : decode cX9_body 76 = .ok (.imul, 1) := by decide +kernel
theorem dX9_body_77 : decode cX9_body 77 = .ok (.iload 5, 2) := by decide +kernel
theorem dX9_body_79 : decode cX9_body 79 = .ok (.invokestatic 152, 3) := by decide +kernel
theorem dX9_body_82 : decode cX9_body 82 = .ok (.aload_n 0, 1) := by decide +kernel
theorem dX9_body_83 : decode cX9_body 83 = .ok (.getfield 19, 3) := by decide +kernel
theorem dX9_body_86 : decode cX9_body 86 = .ok (.getfield 77, 3) := by decide +kernel
theorem dX9_body_89 : decode cX9_body 89 = .ok (.iconst 2, 1) := by decide +kernel
theorem dX9_body_90 : decode cX9_body 90 = .ok (.aload_n 0, 1) := by decide +kernel
theorem dX9_body_91 : decode cX9_body 91 = .ok (.getfield 133, 3) := by decide +kernel
theorem dX9_body_94 : decode cX9_body 94 = .ok (.imul, 1) := by decide +kernel
theorem dX9_body_95 : decode cX9_body 95 = .ok (.iconst 1, 1) := by decide +kernel
theorem dX9_body_96 : decode cX9_body 96 = .ok (.iadd, 1) := by decide +kernel
theorem dX9_body_97 : decode cX9_body 97 = .ok (.aload_n 0, 1) := by decide +kernel
theorem dX9_body_98 : decode cX9_body 98 = .ok (.getfield 60, 3) := by decide +kernel
theorem dX9_body_101 : decode cX9_body 101 = .ok (.invokestatic 152, 3) := by decide +kernel
theorem dX9_body_104 : decode cX9_body 104 = .ok (.aload_n 0, 1) := by decide +kernel
theorem dX9_body_105 : decode cX9_body 105 = .ok (.bipush 32, 2) := by decide +kernel
theorem dX9_body_107 : decode cX9_body 107 = .ok (.invokevirtual 145, 3) := by decide +kernel
theorem dX9_body_110 : decode cX9_body 110 = .ok (.lstore 6, 2) := by decide +kernel
theorem dX9_body_112 : decode cX9_body 112 = .ok (.lconst 0, 1) := by decide +kernel
theorem dX9_body_113 : decode cX9_body 113 = .ok (.lstore 8, 2) := by decide +kernel
theorem dX9_body_115 : decode cX9_body 115 = .ok (.lconst 0, 1) := by decide +kernel
theorem dX9_body_116 : decode cX9_body 116 = .ok (.lstore 10, 2) := by decide +kernel
theorem dX9_body_118 : decode cX9_body 118 = .ok (.lload 10, 2) := by decide +kernel
theorem dX9_body_120 : decode cX9_body 120 = .ok (.lload 6, 2) := by decide +kernel
theorem dX9_body_122 : decode cX9_body 122 = .ok (.lcmp, 1) := by decide +kernel
theorem dX9_body_123 : decode cX9_body 123 = .ok (.ifCond .ge 35, 3) := by decide +kernel
theorem dX9_body_126 : decode cX9_body 126 = .ok (.aload_n 0, 1) := by decide +kernel
theorem dX9_body_127 : decode cX9_body 127 = .ok (.getfield 40, 3) := by decide +kernel
theorem dX9_body_130 : decode cX9_body 130 = .ok (.ifCond .ne 28, 3) := by decide +kernel
theorem dX9_body_133 : decode cX9_body 133 = .ok (.lload 8, 2) := by decide +kernel
theorem dX9_body_135 : decode cX9_body 135 = .ok (.aload_n 0, 1) := by decide +kernel
theorem dX9_body_136 : decode cX9_body 136 = .ok (.bipush 32, 2) := by decide +kernel
theorem dX9_body_138 : decode cX9_body 138 = .ok (.invokevirtual 145, 3) := by decide +kernel
theorem dX9_body_141 : decode cX9_body 141 = .ok (.ladd, 1) := by decide +kernel
theorem dX9_body_142 : decode cX9_body 142 = .ok (.lstore 8, 2) := by decide +kernel
theorem dX9_body_144 : decode cX9_body 144 = .ok (.aload_n 0, 1) := by decide +kernel
theorem dX9_body_145 : decode cX9_body 145 = .ok (.invokevirtual 219, 3) := by decide +kernel
theorem dX9_body_148 : decode cX9_body 148 = .ok (.pop, 1) := by decide +kernel
theorem dX9_body_149 : decode cX9_body 149 = .ok (.lload 10, 2) := by decide +kernel
theorem dX9_body_151 : decode cX9_body 151 = .ok (.lconst 1, 1) := by decide +kernel
theorem dX9_body_152 : decode cX9_body 152 = .ok (.ladd, 1) := by decide +kernel
theorem dX9_body_153 : decode cX9_body 153 = .ok (.lstore 10, 2) := by decide +kernel
theorem dX9_body_155 : decode cX9_body 155 = .ok (.goto (-37), 3) := by decide +kernel
theorem dX9_body_158 : decode cX9_body 158 = .ok (.lload 8, 2) := by decide +kernel
theorem dX9_body_160 : decode cX9_body 160 = .ok (.ldc2_w 257, 3) := by decide +kernel
theorem dX9_body_163 : decode cX9_body 163 = .ok (.lcmp, 1) := by decide +kernel
theorem dX9_body_164 : decode cX9_body 164 = .ok (.ifCond .le 11, 3) := by decide +kernel
theorem dX9_body_167 : decode cX9_body 167 = .ok (.aload_n 0, 1) := by decide +kernel
theorem dX9_body_168 : decode cX9_body 168 = .ok (.bipush 12, 2) := by decide +kernel
theorem dX9_body_170 : decode cX9_body 170 = .ok (.iload 5, 2) := by decide +kernel
theorem dX9_body_172 : decode cX9_body 172 = .ok (.invokevirtual 47, 3) := by decide +kernel
theorem dX9_body_175 : decode cX9_body 175 = .ok (.lload 8, 2) := by decide +kernel
theorem dX9_body_177 : decode cX9_body 177 = .ok (.ldc2_w 259, 3) := by decide +kernel
theorem dX9_body_180 : decode cX9_body 180 = .ok (.lcmp, 1) := by decide +kernel
theorem dX9_body_181 : decode cX9_body 181 = .ok (.ifCond .le 7, 3) := by decide +kernel
theorem dX9_body_184 : decode cX9_body 184 = .ok (.aload_n 0, 1) := by decide +kernel
theorem dX9_body_185 : decode cX9_body 185 = .ok (.invokevirtual 175, 3) := by decide +kernel
theorem dX9_body_188 : decode cX9_body 188 = .ok (.aload_n 0, 1) := by decide +kernel
theorem dX9_body_189 : decode cX9_body 189 = .ok (.iconst 1, 1) := by decide +kernel
theorem dX9_body_190 : decode cX9_body 190 = .ok (.putfield 66, 3) := by decide +kernel
theorem dX9_body_193 : decode cX9_body 193 = .ok (.aload_n 0, 1) := by decide +kernel
theorem dX9_body_194 : decode cX9_body 194 = .ok (.invokevirtual 241, 3) := by decide +kernel
theorem dX9_body_197 : decode cX9_body 197 = .ok (.aload_n 0, 1) := by decide +kernel
theorem dX9_body_198 : decode cX9_body 198 = .ok (.iconst 0, 1) := by decide +kernel
theorem dX9_body_199 : decode cX9_body 199 = .ok (.putfield 66, 3) := by decide +kernel
theorem dX9_body_202 : decode cX9_body 202 = .ok (.aload_n 0, 1) := by decide +kernel
theorem dX9_body_203 : decode cX9_body 203 = .ok (.getfield 51, 3) := by decide +kernel
theorem dX9_body_206 : decode cX9_body 206 = .ok (.aload_n 0, 1) := by decide +kernel
theorem dX9_body_207 : decode cX9_body 207 = .ok (.getfield 60, 3) := by decide +kernel
theorem dX9_body_210 : decode cX9_body 210 = .ok (.if_icmp .ge 12, 3) := by decide +kernel
theorem dX9_body_213 : decode cX9_body 213 = .ok (.aload_n 0, 1) := by decide +kernel
theorem dX9_body_214 : decode cX9_body 214 = .ok (.iconst 3, 1) := by decide +kernel
theorem dX9_body_215 : decode cX9_body 215 = .ok (.aload_n 0, 1) := by decide +kernel
theorem dX9_body_216 : decode cX9_body 216 = .ok (.getfield 51, 3) := by decide +kernel
theorem dX9_body_219 : decode cX9_body 219 = .ok (.invokevirtual 47, 3) := by decide +kernel
theorem dX9_body_222 : decode cX9_body 222 = .ok (.aload_n 0, 1) := by decide +kernel
theorem dX9_body_223 : decode cX9_body 223 = .ok (.iload 4, 2) := by decide +kernel
theorem dX9_body_225 : decode cX9_body 225 = .ok (.putfield 60, 3) := by decide +kernel
theorem dX9_body_228 : decode cX9_body 228 = .ok (.return_, 1) := by decide +kernel
noncomputable def tX9_body_33 (x0 : Nat) (x2 : Int64) (h : pm_H) : Option (((Nat × Int64 × pm_H) ⊕ (Nat × Int32 × Int32 × Int64 × Int64 × Int64 × pm_H) ⊕ (Nat × Int32 × Int32 × Int64 × pm_H) ⊕ (Nat × Int32 × Int64 × pm_H)) ⊕ pm_H) := if pm_kd h x0 = 9 then if (pm_I h x0 3) = 0 then (pm_let (pm_I h x0 2) fun y12 => pm_let (pm_I h x0 1) fun y14 => pm_let ((pm_I h x0 1) + x2.toInt32) fun y16 => (pm_R (pm_setI h x0 2 y16) x0 0).bind fun v18 => if pm_kd (pm_setI h x0 2 y16) v18 = 7 then (pm_R (pm_setI h x0 2 y16) v18 11).bind fun v21 => (fX12_setItem (pm_setI h x0 2 y16) v21 (2 * (pm_I (pm_setI h x0 2 y16) x0 15)) y14).bind fun v23 => if pm_kd v23 x0 = 9 then (pm_R v23 x0 0).bind fun v26 => if pm_kd v23 v26 = 7 then (pm_R v23 v26 11).bind fun v29 => (fX12_setItem v23 v29 ((2 * (pm_I v23 x0 15)) + 1) (pm_I v23 x0 2)).bind fun v31 => if pm_kd v31 x0 = 9 then (fX9_number v31 x0 32).bind fun v34 => some (.inl (.inr (.inl ((x0, y12, y14, v34.1, 0, 0, v34.2))))) else none else none else none else none) else (some (.inr (h))) else none
noncomputable def tX9_body_118 (x0 : Nat) (x4 : Int32) (x5 : Int32) (x6 : Int64) (x8 : Int64) (x10 : Int64) (h : pm_H) : Option (((Nat × Int64 × pm_H) ⊕ (Nat × Int32 × Int32 × Int64 × Int64 × Int64 × pm_H) ⊕ (Nat × Int32 × Int32 × Int64 × pm_H) ⊕ (Nat × Int32 × Int64 × pm_H)) ⊕ pm_H) := if x6 ≤ x10 then (some (.inl (.inr (.inr (.inl ((x0, x4, x5, x8, h))))))) else (if pm_kd h x0 = 9 then if (pm_I h x0 3) = 0 then ((fX9_number h x0 32).bind fun v39 => pm_let (x8 + v39.1) fun y41 => if pm_kd v39.2 x0 = 9 then (fX9_valueType v39.2 x0).bind fun v44 => pm_let (x10 + 1) fun y46 => some (.inl (.inr (.inl ((x0, x4, x5, x6, y41, y46, v44.2))))) else none) else (some (.inl (.inr (.inr (.inl ((x0, x4, x5, x8, h))))))) else none)
noncomputable def tX9_body_158 (x0 : Nat) (x4 : Int32) (x5 : Int32) (x8 : Int64) (h : pm_H) : Option (((Nat × Int64 × pm_H) ⊕ (Nat × Int32 × Int32 × Int64 × Int64 × Int64 × pm_H) ⊕ (Nat × Int32 × Int32 × Int64 × pm_H) ⊕ (Nat × Int32 × Int64 × pm_H)) ⊕ pm_H) := if x8 ≤ 4294967295 then (some (.inl (.inr (.inr (.inr ((x0, x4, x8, h))))))) else (if pm_kd h x0 = 9 then (fX9_fail h x0 12 x5).bind fun v50 => some (.inl (.inr (.inr (.inr ((x0, x4, x8, v50)))))) else none)
noncomputable def tX9_body_175 (x0 : Nat) (x4 : Int32) (x8 : Int64) (h : pm_H) : Option (((Nat × Int64 × pm_H) ⊕ (Nat × Int32 × Int32 × Int64 × Int64 × Int64 × pm_H) ⊕ (Nat × Int32 × Int32 × Int64 × pm_H) ⊕ (Nat × Int32 × Int64 × pm_H)) ⊕ pm_H) := if x8 ≤ 1000 then (if pm_kd h x0 = 9 then (fX9_expression (pm_setI h x0 16 1) x0).bind fun v54 => if pm_kd v54 x0 = 9 then if (pm_I (pm_setI v54 x0 16 0) x0 2) ≤ (pm_I (pm_setI v54 x0 16 0) x0 1) then (some (.inr (pm_setI (pm_setI v54 x0 16 0) x0 2 x4))) else ((fX9_fail (pm_setI v54 x0 16 0) x0 3 (pm_I (pm_setI v54 x0 16 0) x0 1)).bind fun v58 => if pm_kd v58 x0 = 9 then some (.inr (pm_setI v58 x0 2 x4)) else none) else none else none) else (if pm_kd h x0 = 9 then (fX9_exceedLimit h x0).bind fun v62 => if pm_kd v62 x0 = 9 then (fX9_expression (pm_setI v62 x0 16 1) x0).bind fun v65 => if pm_kd v65 x0 = 9 then if (pm_I (pm_setI v65 x0 16 0) x0 2) ≤ (pm_I (pm_setI v65 x0 16 0) x0 1) then (some (.inr (pm_setI (pm_setI v65 x0 16 0) x0 2 x4))) else ((fX9_fail (pm_setI v65 x0 16 0) x0 3 (pm_I (pm_setI v65 x0 16 0) x0 1)).bind fun v69 => if pm_kd v69 x0 = 9 then some (.inr (pm_setI v69 x0 2 x4)) else none) else none else none else none)
noncomputable def sX9_body : ((Nat × Int64 × pm_H) ⊕ (Nat × Int32 × Int32 × Int64 × Int64 × Int64 × pm_H) ⊕ (Nat × Int32 × Int32 × Int64 × pm_H) ⊕ (Nat × Int32 × Int64 × pm_H)) → Option (((Nat × Int64 × pm_H) ⊕ (Nat × Int32 × Int32 × Int64 × Int64 × Int64 × pm_H) ⊕ (Nat × Int32 × Int32 × Int64 × pm_H) ⊕ (Nat × Int32 × Int64 × pm_H)) ⊕ pm_H) := fun z => match z with
  | .inl (x0, x2, h) => tX9_body_33 x0 x2 h
  | .inr (.inl (x0, x4, x5, x6, x8, x10, h)) => tX9_body_118 x0 x4 x5 x6 x8 x10 h
  | .inr (.inr (.inl (x0, x4, x5, x8, h))) => tX9_body_158 x0 x4 x5 x8 h
  | .inr (.inr (.inr (x0, x4, x8, h))) => tX9_body_175 x0 x4 x8 h
noncomputable def fX9_body (h : pm_H) (a0 : Nat) : Option pm_H := if pm_kd h a0 = 9 then pm_let (pm_I h a0 1) fun y2 => (fX9_number h a0 32).bind fun v4 => if pm_kd v4.2 a0 = 9 then if v4.1 ≤ (((pm_I v4.2 a0 2) - (pm_I v4.2 a0 1)).toInt64) then (pm_lim sX9_body (.inl ((a0, v4.1, v4.2)))) else ((fX9_fail v4.2 a0 2 y2).bind fun v8 => pm_lim sX9_body (.inl ((a0, v4.1, v8)))) else none else none
set_option maxHeartbeats 4000000 in
set_option maxRecDepth 100000 in
theorem lpX9_body {g : pm_Gm} {l : Launch} {G : pm_Gl} {Qr : Option Value → pm_H → Prop} (C : pm_C g cX9_body RX9) (X : pm_X g l G mX9_body 0 0 Qr) {r : pm_H} (q : Qr none r) : ∀ n : Nat, (∀ (x0 : Nat) (x2 : Int64) (h : pm_H), pm_iter sX9_body n (.inl (x0, x2, h)) = some r → pm_G g 33 [(0, .ref x0), (2, .long x2)] [] h 0 0) ∧ (∀ (x0 : Nat) (x4 : Int32) (x5 : Int32) (x6 : Int64) (x8 : Int64) (x10 : Int64) (h : pm_H), pm_iter sX9_body n (.inr (.inl (x0, x4, x5, x6, x8, x10, h))) = some r → pm_G g 118 [(0, .ref x0), (4, .int x4), (5, .int x5), (6, .long x6), (8, .long x8), (10, .long x10)] [] h 0 0) ∧ (∀ (x0 : Nat) (x4 : Int32) (x5 : Int32) (x8 : Int64) (h : pm_H), pm_iter sX9_body n (.inr (.inr (.inl (x0, x4, x5, x8, h)))) = some r → pm_G g 158 [(0, .ref x0), (4, .int x4), (5, .int x5), (8, .long x8)] [] h 0 0) ∧ (∀ (x0 : Nat) (x4 : Int32) (x8 : Int64) (h : pm_H), pm_iter sX9_body n (.inr (.inr (.inr (x0, x4, x8, h)))) = some r → pm_G g 175 [(0, .ref x0), (4, .int x4), (8, .long x8)] [] h 0 0) := by
  intro n
  induction n with
  | zero => exact ⟨fun _ _ _ hf => (by cases hf), fun _ _ _ _ _ _ _ hf => (by cases hf), fun _ _ _ _ _ hf => (by cases hf), fun _ _ _ _ hf => (by cases hf)⟩
  | succ n ih =>
    refine ⟨fun x0 x2 h hf => ?_, ?_⟩
    · obtain ⟨y, hf, hi⟩ := pm_iter_s hf
      have hf : tX9_body_33 x0 x2 h = some y := hf
      unfold tX9_body_33 at hf
      refine pm_aload_n C dX9_body_33 rfl rfl ?_
      obtain ⟨k10, hf⟩ := pm_if hf
      refine pm_getI C dX9_body_34 flX9_40 rfl k10 rfl ?_
      refine pm_if_eq (tgt := 41) C dX9_body_37 (by decide) (fun c11 => ?_) (fun c11 => ?_)
      · have hf := pm_it hf c11
        refine pm_aload_n C dX9_body_41 rfl rfl ?_
        refine pm_getI C dX9_body_42 flX9_60 rfl k10 rfl ?_
        obtain ⟨y12, e13, hf⟩ := pm_lt hf
        refine pm_topI e13 ?_
        refine pm_istore (lv' := [(4, .int y12), (0, .ref x0), (2, .long x2)]) C dX9_body_45 (pm_nl X (by decide)) rfl ?_
        refine pm_aload_n C dX9_body_47 rfl rfl ?_
        refine pm_getI C dX9_body_48 flX9_51 rfl k10 rfl ?_
        obtain ⟨y14, e15, hf⟩ := pm_lt hf
        refine pm_topI e15 ?_
        refine pm_istore (lv' := [(5, .int y14), (4, .int y12), (0, .ref x0), (2, .long x2)]) C dX9_body_51 (pm_nl X (by decide)) rfl ?_
        refine pm_aload_n C dX9_body_53 rfl rfl ?_
        refine pm_aload_n C dX9_body_54 rfl rfl ?_
        refine pm_getI C dX9_body_55 flX9_51 rfl k10 rfl ?_
        refine pm_lload_n C dX9_body_58 rfl rfl ?_
        refine pm_l2i C dX9_body_59 ?_
        refine pm_iadd C dX9_body_60 ?_
        obtain ⟨y16, e17, hf⟩ := pm_lt hf
        refine pm_topI e17 ?_
        refine pm_putI C dX9_body_61 flX9_60 rfl rfl k10 rfl rfl ?_
        refine pm_aload_n C dX9_body_64 rfl rfl ?_
        obtain ⟨v18, e19, hf⟩ := pm_bd hf
        refine pm_getR C dX9_body_65 flX9_19 rfl k10 e19 ?_
        obtain ⟨k20, hf⟩ := pm_if hf
        obtain ⟨v21, e22, hf⟩ := pm_bd hf
        refine pm_getR C dX9_body_68 flX9_77 rfl k20 e22 ?_
        refine pm_iconst (v := 2) C dX9_body_71 (by decide) ?_
        refine pm_aload_n C dX9_body_72 rfl rfl ?_
        refine pm_getI C dX9_body_73 flX9_133 rfl k10 rfl ?_
        refine pm_imul C dX9_body_76 ?_
        refine pm_iload C dX9_body_77 rfl ?_
        obtain ⟨v23, e24, hf⟩ := pm_bd hf
        refine pm_callS (as := [.ref v21, .int (2 * (pm_I (pm_setI h x0 2 y16) x0 15)), .int y14]) (st := []) C X dX9_body_79 lnX9_152 myX12_setItem stX12_setItem ⟨by decide, by decide⟩ rfl rfl (Nat.le_of_ble_eq_true rfl) (Nat.le_refl _) (Nat.le_refl _) (ctX12_setItem e24 ?_)
        show pm_G g 82 [(5, .int y14), (4, .int y12), (0, .ref x0), (2, .long x2)] [] v23 0 0
        refine pm_aload_n C dX9_body_82 rfl rfl ?_
        obtain ⟨k25, hf⟩ := pm_if hf
        obtain ⟨v26, e27, hf⟩ := pm_bd hf
        refine pm_getR C dX9_body_83 flX9_19 rfl k25 e27 ?_
        obtain ⟨k28, hf⟩ := pm_if hf
        obtain ⟨v29, e30, hf⟩ := pm_bd hf
        refine pm_getR C dX9_body_86 flX9_77 rfl k28 e30 ?_
        refine pm_iconst (v := 2) C dX9_body_89 (by decide) ?_
        refine pm_aload_n C dX9_body_90 rfl rfl ?_
        refine pm_getI C dX9_body_91 flX9_133 rfl k25 rfl ?_
        refine pm_imul C dX9_body_94 ?_
        refine pm_iconst (v := 1) C dX9_body_95 (by decide) ?_
        refine pm_iadd C dX9_body_96 ?_
        refine pm_aload_n C dX9_body_97 rfl rfl ?_
        refine pm_getI C dX9_body_98 flX9_60 rfl k25 rfl ?_
        obtain ⟨v31, e32, hf⟩ := pm_bd hf
        refine pm_callS (as := [.ref v29, .int ((2 * (pm_I v23 x0 15)) + 1), .int (pm_I v23 x0 2)]) (st := []) C X dX9_body_101 lnX9_152 myX12_setItem stX12_setItem ⟨by decide, by decide⟩ rfl rfl (Nat.le_of_ble_eq_true rfl) (Nat.le_refl _) (Nat.le_refl _) (ctX12_setItem e32 ?_)
        show pm_G g 104 [(5, .int y14), (4, .int y12), (0, .ref x0), (2, .long x2)] [] v31 0 0
        refine pm_aload_n C dX9_body_104 rfl rfl ?_
        refine pm_bipush (v := 32) C dX9_body_105 (by decide) ?_
        obtain ⟨k33, hf⟩ := pm_if hf
        obtain ⟨v34, e35, hf⟩ := pm_bd hf
        refine pm_callV (as := [.int 32]) (st := []) C X dX9_body_107 lnX9_145 myX9_number viX9_number ⟨by decide, by decide⟩ rfl rfl k33 (Nat.le_of_ble_eq_true rfl) (Nat.le_refl _) (Nat.le_refl _) (ctX9_number e35 ?_)
        show pm_G g 110 [(5, .int y14), (4, .int y12), (0, .ref x0), (2, .long x2)] [.long v34.1] v34.2 0 0
        refine pm_lstore (lv' := [(6, .long v34.1), (5, .int y14), (4, .int y12), (0, .ref x0), (2, .long x2)]) C dX9_body_110 (pm_nl X (by decide)) rfl ?_
        refine pm_lconst (v := 0) C dX9_body_112 (by decide) ?_
        refine pm_lstore (lv' := [(8, .long 0), (6, .long v34.1), (5, .int y14), (4, .int y12), (0, .ref x0), (2, .long x2)]) C dX9_body_113 (pm_nl X (by decide)) rfl ?_
        refine pm_lconst (v := 0) C dX9_body_115 (by decide) ?_
        refine pm_lstore (lv' := [(10, .long 0), (8, .long 0), (6, .long v34.1), (5, .int y14), (4, .int y12), (0, .ref x0), (2, .long x2)]) C dX9_body_116 (pm_nl X (by decide)) rfl ?_
        cases hf
        exact pm_sub [5, 4, 3, 2, 1, 0] rfl (ih.2.1 x0 y12 y14 v34.1 0 0 v34.2 hi)
      · have hf := pm_ie hf c11
        cases hf
        cases hi
        exact pm_vret C X dX9_body_40 rfl (Nat.le_refl _) (Nat.le_refl _) q
    refine ⟨fun x0 x4 x5 x6 x8 x10 h hf => ?_, ?_⟩
    · obtain ⟨y, hf, hi⟩ := pm_iter_s hf
      have hf : tX9_body_118 x0 x4 x5 x6 x8 x10 h = some y := hf
      unfold tX9_body_118 at hf
      refine pm_lload C dX9_body_118 rfl ?_
      refine pm_lload C dX9_body_120 rfl ?_
      refine pm_lcmp C dX9_body_122 ?_
      refine pm_if_ge (tgt := 158) C dX9_body_123 (by decide) (fun c36 => ?_) (fun c36 => ?_)
      · have hf := pm_it hf ((pm_lg_ge _ _).mp c36)
        cases hf
        exact pm_sub [0, 1, 2, 4] rfl (ih.2.2.1 x0 x4 x5 x8 h hi)
      · have hf := pm_ie hf ((fun z => c36 ((pm_lg_ge _ _).mpr z)))
        refine pm_aload_n C dX9_body_126 rfl rfl ?_
        obtain ⟨k37, hf⟩ := pm_if hf
        refine pm_getI C dX9_body_127 flX9_40 rfl k37 rfl ?_
        refine pm_if_ne (tgt := 158) C dX9_body_130 (by decide) (fun c38 => ?_) (fun c38 => ?_)
        · have hf := pm_ie hf c38
          cases hf
          exact pm_sub [0, 1, 2, 4] rfl (ih.2.2.1 x0 x4 x5 x8 h hi)
        · have hf := pm_it hf c38
          refine pm_lload C dX9_body_133 rfl ?_
          refine pm_aload_n C dX9_body_135 rfl rfl ?_
          refine pm_bipush (v := 32) C dX9_body_136 (by decide) ?_
          obtain ⟨v39, e40, hf⟩ := pm_bd hf
          refine pm_callV (as := [.int 32]) (st := [.long x8]) C X dX9_body_138 lnX9_145 myX9_number viX9_number ⟨by decide, by decide⟩ rfl rfl k37 (Nat.le_of_ble_eq_true rfl) (Nat.le_refl _) (Nat.le_refl _) (ctX9_number e40 ?_)
          show pm_G g 141 [(0, .ref x0), (4, .int x4), (5, .int x5), (6, .long x6), (8, .long x8), (10, .long x10)] [.long v39.1, .long x8] v39.2 0 0
          refine pm_ladd C dX9_body_141 ?_
          obtain ⟨y41, e42, hf⟩ := pm_lt hf
          refine pm_topL e42 ?_
          refine pm_lstore (lv' := [(8, .long y41), (0, .ref x0), (4, .int x4), (5, .int x5), (6, .long x6), (10, .long x10)]) C dX9_body_142 (pm_nl X (by decide)) rfl ?_
          refine pm_aload_n C dX9_body_144 rfl rfl ?_
          obtain ⟨k43, hf⟩ := pm_if hf
          obtain ⟨v44, e45, hf⟩ := pm_bd hf
          refine pm_callV (as := []) (st := []) C X dX9_body_145 lnX9_219 myX9_valueType viX9_valueType ⟨by decide, by decide⟩ rfl rfl k43 (Nat.le_of_ble_eq_true rfl) (Nat.le_refl _) (Nat.le_refl _) (ctX9_valueType e45 ?_)
          show pm_G g 148 [(8, .long y41), (0, .ref x0), (4, .int x4), (5, .int x5), (6, .long x6), (10, .long x10)] [.int v44.1] v44.2 0 0
          refine pm_pop C dX9_body_148 rfl ?_
          refine pm_lload C dX9_body_149 rfl ?_
          refine pm_lconst (v := 1) C dX9_body_151 (by decide) ?_
          refine pm_ladd C dX9_body_152 ?_
          obtain ⟨y46, e47, hf⟩ := pm_lt hf
          refine pm_topL e47 ?_
          refine pm_lstore (lv' := [(10, .long y46), (8, .long y41), (0, .ref x0), (4, .int x4), (5, .int x5), (6, .long x6)]) C dX9_body_153 (pm_nl X (by decide)) rfl ?_
          refine pm_goto (tgt := 118) C dX9_body_155 (by decide) ?_
          cases hf
          exact pm_sub [2, 3, 4, 5, 1, 0] rfl (ih.2.1 x0 x4 x5 x6 y41 y46 v44.2 hi)
    refine ⟨fun x0 x4 x5 x8 h hf => ?_, ?_⟩
    · obtain ⟨y, hf, hi⟩ := pm_iter_s hf
      have hf : tX9_body_158 x0 x4 x5 x8 h = some y := hf
      unfold tX9_body_158 at hf
      refine pm_lload C dX9_body_158 rfl ?_
      refine pm_ldc2 C dX9_body_160 cnX9_257 ?_
      refine pm_lcmp C dX9_body_163 ?_
      refine pm_if_le (tgt := 175) C dX9_body_164 (by decide) (fun c48 => ?_) (fun c48 => ?_)
      · have hf := pm_it hf ((pm_lg_le _ _).mp c48)
        cases hf
        exact pm_sub [0, 1, 3] rfl (ih.2.2.2 x0 x4 x8 h hi)
      · have hf := pm_ie hf ((fun z => c48 ((pm_lg_le _ _).mpr z)))
        refine pm_aload_n C dX9_body_167 rfl rfl ?_
        refine pm_bipush (v := 12) C dX9_body_168 (by decide) ?_
        refine pm_iload C dX9_body_170 rfl ?_
        obtain ⟨k49, hf⟩ := pm_if hf
        obtain ⟨v50, e51, hf⟩ := pm_bd hf
        refine pm_callV (as := [.int 12, .int x5]) (st := []) C X dX9_body_172 lnX9_47 myX9_fail viX9_fail ⟨by decide, by decide⟩ rfl rfl k49 (Nat.le_of_ble_eq_true rfl) (Nat.le_refl _) (Nat.le_refl _) (ctX9_fail e51 ?_)
        show pm_G g 175 [(0, .ref x0), (4, .int x4), (5, .int x5), (8, .long x8)] [] v50 0 0
        cases hf
        exact pm_sub [0, 1, 3] rfl (ih.2.2.2 x0 x4 x8 v50 hi)
    refine fun x0 x4 x8 h hf => ?_
    obtain ⟨y, hf, hi⟩ := pm_iter_s hf
    have hf : tX9_body_175 x0 x4 x8 h = some y := hf
    unfold tX9_body_175 at hf
    refine pm_lload C dX9_body_175 rfl ?_
    refine pm_ldc2 C dX9_body_177 cnX9_259 ?_
    refine pm_lcmp C dX9_body_180 ?_
    refine pm_if_le (tgt := 188) C dX9_body_181 (by decide) (fun c52 => ?_) (fun c52 => ?_)
    · have hf := pm_it hf ((pm_lg_le _ _).mp c52)
      refine pm_aload_n C dX9_body_188 rfl rfl ?_
      refine pm_iconst (v := 1) C dX9_body_189 (by decide) ?_
      obtain ⟨k53, hf⟩ := pm_if hf
      refine pm_putI C dX9_body_190 flX9_66 rfl rfl k53 (by decide) (by decide) ?_
      refine pm_aload_n C dX9_body_193 rfl rfl ?_
      obtain ⟨v54, e55, hf⟩ := pm_bd hf
      refine pm_callV (as := []) (st := []) C X dX9_body_194 lnX9_241 myX9_expression viX9_expression ⟨by decide, by decide⟩ rfl rfl k53 (Nat.le_of_ble_eq_true rfl) (Nat.le_refl _) (Nat.le_refl _) (ctX9_expression e55 ?_)
      show pm_G g 197 [(0, .ref x0), (4, .int x4), (8, .long x8)] [] v54 0 0
      refine pm_aload_n C dX9_body_197 rfl rfl ?_
      refine pm_iconst (v := 0) C dX9_body_198 (by decide) ?_
      obtain ⟨k56, hf⟩ := pm_if hf
      refine pm_putI C dX9_body_199 flX9_66 rfl rfl k56 (by decide) (by decide) ?_
      refine pm_aload_n C dX9_body_202 rfl rfl ?_
      refine pm_getI C dX9_body_203 flX9_51 rfl k56 rfl ?_
      refine pm_aload_n C dX9_body_206 rfl rfl ?_
      refine pm_getI C dX9_body_207 flX9_60 rfl k56 rfl ?_
      refine pm_icmp_ge (tgt := 222) C dX9_body_210 (by decide) (fun c57 => ?_) (fun c57 => ?_)
      · have hf := pm_it hf c57
        refine pm_aload_n C dX9_body_222 rfl rfl ?_
        refine pm_iload C dX9_body_223 rfl ?_
        refine pm_putI C dX9_body_225 flX9_60 rfl rfl k56 rfl rfl ?_
        cases hf
        cases hi
        exact pm_vret C X dX9_body_228 rfl (Nat.le_refl _) (Nat.le_refl _) q
      · have hf := pm_ie hf c57
        refine pm_aload_n C dX9_body_213 rfl rfl ?_
        refine pm_iconst (v := 3) C dX9_body_214 (by decide) ?_
        refine pm_aload_n C dX9_body_215 rfl rfl ?_
        refine pm_getI C dX9_body_216 flX9_51 rfl k56 rfl ?_
        obtain ⟨v58, e59, hf⟩ := pm_bd hf
        refine pm_callV (as := [.int 3, .int (pm_I (pm_setI v54 x0 16 0) x0 1)]) (st := []) C X dX9_body_219 lnX9_47 myX9_fail viX9_fail ⟨by decide, by decide⟩ rfl rfl k56 (Nat.le_of_ble_eq_true rfl) (Nat.le_refl _) (Nat.le_refl _) (ctX9_fail e59 ?_)
        show pm_G g 222 [(0, .ref x0), (4, .int x4), (8, .long x8)] [] v58 0 0
        refine pm_aload_n C dX9_body_222 rfl rfl ?_
        refine pm_iload C dX9_body_223 rfl ?_
        obtain ⟨k60, hf⟩ := pm_if hf
        refine pm_putI C dX9_body_225 flX9_60 rfl rfl k60 rfl rfl ?_
        cases hf
        cases hi
        exact pm_vret C X dX9_body_228 rfl (Nat.le_refl _) (Nat.le_refl _) q
    · have hf := pm_ie hf ((fun z => c52 ((pm_lg_le _ _).mpr z)))
      refine pm_aload_n C dX9_body_184 rfl rfl ?_
      obtain ⟨k61, hf⟩ := pm_if hf
      obtain ⟨v62, e63, hf⟩ := pm_bd hf
      refine pm_callV (as := []) (st := []) C X dX9_body_185 lnX9_175 myX9_exceedLimit viX9_exceedLimit ⟨by decide, by decide⟩ rfl rfl k61 (Nat.le_of_ble_eq_true rfl) (Nat.le_refl _) (Nat.le_refl _) (ctX9_exceedLimit e63 ?_)
      show pm_G g 188 [(0, .ref x0), (4, .int x4), (8, .long x8)] [] v62 0 0
      refine pm_aload_n C dX9_body_188 rfl rfl ?_
      refine pm_iconst (v := 1) C dX9_body_189 (by decide) ?_
      obtain ⟨k64, hf⟩ := pm_if hf
      refine pm_putI C dX9_body_190 flX9_66 rfl rfl k64 (by decide) (by decide) ?_
      refine pm_aload_n C dX9_body_193 rfl rfl ?_
      obtain ⟨v65, e66, hf⟩ := pm_bd hf
      refine pm_callV (as := []) (st := []) C X dX9_body_194 lnX9_241 myX9_expression viX9_expression ⟨by decide, by decide⟩ rfl rfl k64 (Nat.le_of_ble_eq_true rfl) (Nat.le_refl _) (Nat.le_refl _) (ctX9_expression e66 ?_)
      show pm_G g 197 [(0, .ref x0), (4, .int x4), (8, .long x8)] [] v65 0 0
      refine pm_aload_n C dX9_body_197 rfl rfl ?_
      refine pm_iconst (v := 0) C dX9_body_198 (by decide) ?_
      obtain ⟨k67, hf⟩ := pm_if hf
      refine pm_putI C dX9_body_199 flX9_66 rfl rfl k67 (by decide) (by decide) ?_
      refine pm_aload_n C dX9_body_202 rfl rfl ?_
      refine pm_getI C dX9_body_203 flX9_51 rfl k67 rfl ?_
      refine pm_aload_n C dX9_body_206 rfl rfl ?_
      refine pm_getI C dX9_body_207 flX9_60 rfl k67 rfl ?_
      refine pm_icmp_ge (tgt := 222) C dX9_body_210 (by decide) (fun c68 => ?_) (fun c68 => ?_)
      · have hf := pm_it hf c68
        refine pm_aload_n C dX9_body_222 rfl rfl ?_
        refine pm_iload C dX9_body_223 rfl ?_
        refine pm_putI C dX9_body_225 flX9_60 rfl rfl k67 rfl rfl ?_
        cases hf
        cases hi
        exact pm_vret C X dX9_body_228 rfl (Nat.le_refl _) (Nat.le_refl _) q
      · have hf := pm_ie hf c68
        refine pm_aload_n C dX9_body_213 rfl rfl ?_
        refine pm_iconst (v := 3) C dX9_body_214 (by decide) ?_
        refine pm_aload_n C dX9_body_215 rfl rfl ?_
        refine pm_getI C dX9_body_216 flX9_51 rfl k67 rfl ?_
        obtain ⟨v69, e70, hf⟩ := pm_bd hf
        refine pm_callV (as := [.int 3, .int (pm_I (pm_setI v65 x0 16 0) x0 1)]) (st := []) C X dX9_body_219 lnX9_47 myX9_fail viX9_fail ⟨by decide, by decide⟩ rfl rfl k67 (Nat.le_of_ble_eq_true rfl) (Nat.le_refl _) (Nat.le_refl _) (ctX9_fail e70 ?_)
        show pm_G g 222 [(0, .ref x0), (4, .int x4), (8, .long x8)] [] v69 0 0
        refine pm_aload_n C dX9_body_222 rfl rfl ?_
        refine pm_iload C dX9_body_223 rfl ?_
        obtain ⟨k71, hf⟩ := pm_if hf
        refine pm_putI C dX9_body_225 flX9_60 rfl rfl k71 rfl rfl ?_
        cases hf
        cases hi
        exact pm_vret C X dX9_body_228 rfl (Nat.le_refl _) (Nat.le_refl _) q
set_option maxHeartbeats 4000000 in
set_option maxRecDepth 100000 in
theorem ctX9_body {l : Launch} {G : pm_Gl} {h : pm_H} {a0 : Nat} {r : pm_H} {Qr : Option Value → pm_H → Prop} (hf : fX9_body h a0 = some r) (q : Qr none r) : pm_Ct l G mX9_body [.ref a0] h 0 0 Qr := by
  refine pm_body pnX9 (Nat.le_of_ble_eq_true rfl) (fun g C X => ?_)
  have C : pm_C g cX9_body RX9 := C
  show pm_G g 0 [(0, .ref a0)] [] h 0 0
  unfold fX9_body at hf
  refine pm_aload_n C dX9_body_0 rfl rfl ?_
  obtain ⟨k1, hf⟩ := pm_if hf
  refine pm_getI C dX9_body_1 flX9_51 rfl k1 rfl ?_
  obtain ⟨y2, e3, hf⟩ := pm_lt hf
  refine pm_topI e3 ?_
  refine pm_istore_n (lv' := [(1, .int y2), (0, .ref a0)]) C dX9_body_4 rfl (pm_nl X (by decide)) rfl ?_
  refine pm_aload_n C dX9_body_5 rfl rfl ?_
  refine pm_bipush (v := 32) C dX9_body_6 (by decide) ?_
  obtain ⟨v4, e5, hf⟩ := pm_bd hf
  refine pm_callV (as := [.int 32]) (st := []) C X dX9_body_8 lnX9_145 myX9_number viX9_number ⟨by decide, by decide⟩ rfl rfl k1 (Nat.le_of_ble_eq_true rfl) (Nat.le_refl _) (Nat.le_refl _) (ctX9_number e5 ?_)
  show pm_G g 11 [(1, .int y2), (0, .ref a0)] [.long v4.1] v4.2 0 0
  refine pm_lstore_n (lv' := [(2, .long v4.1), (1, .int y2), (0, .ref a0)]) C dX9_body_11 rfl (pm_nl X (by decide)) rfl ?_
  refine pm_lload_n C dX9_body_12 rfl rfl ?_
  refine pm_aload_n C dX9_body_13 rfl rfl ?_
  obtain ⟨k6, hf⟩ := pm_if hf
  refine pm_getI C dX9_body_14 flX9_60 rfl k6 rfl ?_
  refine pm_aload_n C dX9_body_17 rfl rfl ?_
  refine pm_getI C dX9_body_18 flX9_51 rfl k6 rfl ?_
  refine pm_isub C dX9_body_21 ?_
  refine pm_i2l C dX9_body_22 ?_
  refine pm_lcmp C dX9_body_23 ?_
  refine pm_if_le (tgt := 33) C dX9_body_24 (by decide) (fun c7 => ?_) (fun c7 => ?_)
  · have hf := pm_it hf ((pm_lg_le _ _).mp c7)
    obtain ⟨n, hn⟩ := pm_lim_iter hf
    exact pm_sub [2, 0] rfl ((lpX9_body C X q n).1 a0 v4.1 v4.2 hn)
  · have hf := pm_ie hf ((fun z => c7 ((pm_lg_le _ _).mpr z)))
    refine pm_aload_n C dX9_body_27 rfl rfl ?_
    refine pm_iconst (v := 2) C dX9_body_28 (by decide) ?_
    refine pm_iload_n C dX9_body_29 rfl rfl ?_
    obtain ⟨v8, e9, hf⟩ := pm_bd hf
    refine pm_callV (as := [.int 2, .int y2]) (st := []) C X dX9_body_30 lnX9_47 myX9_fail viX9_fail ⟨by decide, by decide⟩ rfl rfl k6 (Nat.le_of_ble_eq_true rfl) (Nat.le_refl _) (Nat.le_refl _) (ctX9_fail e9 ?_)
    show pm_G g 33 [(2, .long v4.1), (1, .int y2), (0, .ref a0)] [] v8 0 0
    obtain ⟨n, hn⟩ := pm_lim_iter hf
    exact pm_sub [2, 0] rfl ((lpX9_body C X q n).1 a0 v4.1 v8 hn)
theorem dX9_dataOne_0 : decode cX9_dataOne 0 = .ok (.aload_n 0, 1) := by decide +kernel
theorem dX9_dataOne_1 : decode cX9_dataOne 1 = .ok (.getfield 133, 3) := by decide +kernel
theorem dX9_dataOne_4 : decode cX9_dataOne 4 = .ok (.bipush 7, 2) := by decide +kernel
theorem dX9_dataOne_6 : decode cX9_dataOne 6 = .ok (.imul, 1) := by decide +kernel
theorem dX9_dataOne_7 : decode cX9_dataOne 7 = .ok (.istore_n 1, 1) := by decide +kernel
theorem dX9_dataOne_8 : decode cX9_dataOne 8 = .ok (.aload_n 0, 1) := by decide +kernel
theorem dX9_dataOne_9 : decode cX9_dataOne 9 = .ok (.getfield 51, 3) := by decide +kernel
theorem dX9_dataOne_12 : decode cX9_dataOne 12 = .ok (.istore_n 2, 1) := by decide +kernel
theorem dX9_dataOne_13 : decode cX9_dataOne 13 = .ok (.aload_n 0, 1) := by decide +kernel
theorem dX9_dataOne_14 : decode cX9_dataOne 14 = .ok (.bipush 32, 2) := by decide +kernel
theorem dX9_dataOne_16 : decode cX9_dataOne 16 = .ok (.invokevirtual 145, 3) := by decide +kernel
theorem dX9_dataOne_19 : decode cX9_dataOne 19 = .ok (.lstore_n 3, 1) := by decide +kernel
theorem dX9_dataOne_20 : decode cX9_dataOne 20 = .ok (.lload_n 3, 1) := by decide +kernel
theorem dX9_dataOne_21 : decode cX9_dataOne 21 = .ok (.ldc2_w 255, 3) := by decide +kernel
theorem dX9_dataOne_24 : decode cX9_dataOne 24 = .ok (.lcmp, 1) := by decide +kernel
theorem dX9_dataOne_25 : decode cX9_dataOne 25 = .ok (.ifCond .le 10, 3) := by decide +kernel
theorem dX9_dataOne_28 : decode cX9_dataOne 28 = .ok (.aload_n 0, 1) := by decide +kernel
theorem dX9_dataOne_29 : decode cX9_dataOne 29 = .ok (.bipush 7, 2) := by decide +kernel
theorem dX9_dataOne_31 : decode cX9_dataOne 31 = .ok (.iload_n 2, 1) := by decide +kernel
theorem dX9_dataOne_32 : decode cX9_dataOne 32 = .ok (.invokevirtual 47, 3) := by decide +kernel
theorem dX9_dataOne_35 : decode cX9_dataOne 35 = .ok (.aload_n 0, 1) := by decide +kernel
theorem dX9_dataOne_36 : decode cX9_dataOne 36 = .ok (.getfield 19, 3) := by decide +kernel
theorem dX9_dataOne_39 : decode cX9_dataOne 39 = .ok (.getfield 84, 3) := by decide +kernel
theorem dX9_dataOne_42 : decode cX9_dataOne 42 = .ok (.iload_n 1, 1) := by decide +kernel
theorem dX9_dataOne_43 : decode cX9_dataOne 43 = .ok (.iconst 0, 1) := by decide +kernel
theorem dX9_dataOne_44 : decode cX9_dataOne 44 = .ok (.iadd, 1) := by decide +kernel
theorem dX9_dataOne_45 : decode cX9_dataOne 45 = .ok (.lload_n 3, 1) := by decide +kernel
theorem dX9_dataOne_46 : decode cX9_dataOne 46 = .ok (.lconst 1, 1) := by decide +kernel
theorem dX9_dataOne_47 : decode cX9_dataOne 47 = .ok (.lcmp, 1) := by decide +kernel
theorem dX9_dataOne_48 : decode cX9_dataOne 48 = .ok (.ifCond .ne 7, 3) := by decide +kernel
theorem dX9_dataOne_51 : decode cX9_dataOne 51 = .ok (.iconst 1, 1) := by decide +kernel
theorem dX9_dataOne_52 : decode cX9_dataOne 52 = .ok (.goto 4, 3) := by decide +kernel
theorem dX9_dataOne_55 : decode cX9_dataOne 55 = .ok (.iconst 0, 1) := by decide +kernel
theorem dX9_dataOne_56 : decode cX9_dataOne 56 = .ok (.invokestatic 152, 3) := by decide +kernel
theorem dX9_dataOne_59 : decode cX9_dataOne 59 = .ok (.lload_n 3, 1) := by decide +kernel
theorem dX9_dataOne_60 : decode cX9_dataOne 60 = .ok (.ldc2_w 255, 3) := by decide +kernel
theorem dX9_dataOne_63 : decode cX9_dataOne 63 = .ok (.lcmp, 1) := by decide +kernel
theorem dX9_dataOne_64 : decode cX9_dataOne 64 = .ok (.ifCond .ne 25, 3) := by decide +kernel
theorem dX9_dataOne_67 : decode cX9_dataOne 67 = .ok (.aload_n 0, 1) := by decide +kernel
theorem dX9_dataOne_68 : decode cX9_dataOne 68 = .ok (.getfield 19, 3) := by decide +kernel
theorem dX9_dataOne_71 : decode cX9_dataOne 71 = .ok (.getfield 84, 3) := by decide +kernel
theorem dX9_dataOne_74 : decode cX9_dataOne 74 = .ok (.iload_n 1, 1) := by decide +kernel
theorem dX9_dataOne_75 : decode cX9_dataOne 75 = .ok (.iconst 1, 1) := by decide +kernel
theorem dX9_dataOne_76 : decode cX9_dataOne 76 = .ok (.iadd, 1) := by decide +kernel
theorem dX9_dataOne_77 : decode cX9_dataOne 77 = .ok (.aload_n 0, 1) := by decide +kernel
theorem dX9_dataOne_78 : decode cX9_dataOne 78 = .ok (.bipush 32, 2) := by decide +kernel
theorem dX9_dataOne_80 : decode cX9_dataOne 80 = .ok (.invokevirtual 145, 3) := by decide +kernel
theorem dX9_dataOne_83 : decode cX9_dataOne 83 = .ok (.invokestatic 247, 3) := by decide +kernel
theorem dX9_dataOne_86 : decode cX9_dataOne 86 = .ok (.invokestatic 152, 3) := by decide +kernel
theorem dX9_dataOne_89 : decode cX9_dataOne 89 = .ok (.aload_n 0, 1) := by decide +kernel
theorem dX9_dataOne_90 : decode cX9_dataOne 90 = .ok (.getfield 19, 3) := by decide +kernel
theorem dX9_dataOne_93 : decode cX9_dataOne 93 = .ok (.getfield 84, 3) := by decide +kernel
theorem dX9_dataOne_96 : decode cX9_dataOne 96 = .ok (.iload_n 1, 1) := by decide +kernel
theorem dX9_dataOne_97 : decode cX9_dataOne 97 = .ok (.iconst 2, 1) := by decide +kernel
theorem dX9_dataOne_98 : decode cX9_dataOne 98 = .ok (.iadd, 1) := by decide +kernel
theorem dX9_dataOne_99 : decode cX9_dataOne 99 = .ok (.aload_n 0, 1) := by decide +kernel
theorem dX9_dataOne_100 : decode cX9_dataOne 100 = .ok (.getfield 51, 3) := by decide +kernel
theorem dX9_dataOne_103 : decode cX9_dataOne 103 = .ok (.invokestatic 152, 3) := by decide +kernel
theorem dX9_dataOne_106 : decode cX9_dataOne 106 = .ok (.lload_n 3, 1) := by decide +kernel
theorem dX9_dataOne_107 : decode cX9_dataOne 107 = .ok (.lconst 1, 1) := by decide +kernel
theorem dX9_dataOne_108 : decode cX9_dataOne 108 = .ok (.lcmp, 1) := by decide +kernel
theorem dX9_dataOne_109 : decode cX9_dataOne 109 = .ok (.ifCond .eq 7, 3) := by decide +kernel
theorem dX9_dataOne_112 : decode cX9_dataOne 112 = .ok (.aload_n 0, 1) := by decide +kernel
theorem dX9_dataOne_113 : decode cX9_dataOne 113 = .ok (.invokevirtual 241, 3) := by decide +kernel
theorem dX9_dataOne_116 : decode cX9_dataOne 116 = .ok (.aload_n 0, 1) := by decide +kernel
theorem dX9_dataOne_117 : decode cX9_dataOne 117 = .ok (.bipush 32, 2) := by decide +kernel
theorem dX9_dataOne_119 : decode cX9_dataOne 119 = .ok (.invokevirtual 145, 3) := by decide +kernel
theorem dX9_dataOne_122 : decode cX9_dataOne 122 = .ok (.lstore 5, 2) := by decide +kernel
theorem dX9_dataOne_124 : decode cX9_dataOne 124 = .ok (.aload_n 0, 1) := by decide +kernel
theorem dX9_dataOne_125 : decode cX9_dataOne 125 = .ok (.getfield 19, 3) := by decide +kernel
theorem dX9_dataOne_128 : decode cX9_dataOne 128 = .ok (.getfield 84, 3) := by decide +kernel
theorem dX9_dataOne_131 : decode cX9_dataOne 131 = .ok (.iload_n 1, 1) := by decide +kernel
theorem dX9_dataOne_132 : decode cX9_dataOne 132 = .ok (.iconst 3, 1) := by decide +kernel
theorem dX9_dataOne_133 : decode cX9_dataOne 133 = .ok (.iadd, 1) := by decide +kernel
theorem dX9_dataOne_134 : decode cX9_dataOne 134 = .ok (.aload_n 0, 1) := by decide +kernel
theorem dX9_dataOne_135 : decode cX9_dataOne 135 = .ok (.getfield 51, 3) := by decide +kernel
theorem dX9_dataOne_138 : decode cX9_dataOne 138 = .ok (.invokestatic 152, 3) := by decide +kernel
theorem dX9_dataOne_141 : decode cX9_dataOne 141 = .ok (.aload_n 0, 1) := by decide +kernel
theorem dX9_dataOne_142 : decode cX9_dataOne 142 = .ok (.getfield 19, 3) := by decide +kernel
theorem dX9_dataOne_145 : decode cX9_dataOne 145 = .ok (.getfield 84, 3) := by decide +kernel
theorem dX9_dataOne_148 : decode cX9_dataOne 148 = .ok (.iload_n 1, 1) := by decide +kernel
theorem dX9_dataOne_149 : decode cX9_dataOne 149 = .ok (.iconst 4, 1) := by decide +kernel
theorem dX9_dataOne_150 : decode cX9_dataOne 150 = .ok (.iadd, 1) := by decide +kernel
theorem dX9_dataOne_151 : decode cX9_dataOne 151 = .ok (.lload 5, 2) := by decide +kernel
theorem dX9_dataOne_153 : decode cX9_dataOne 153 = .ok (.invokestatic 247, 3) := by decide +kernel
theorem dX9_dataOne_156 : decode cX9_dataOne 156 = .ok (.invokestatic 152, 3) := by decide +kernel
theorem dX9_dataOne_159 : decode cX9_dataOne 159 = .ok (.aload_n 0, 1) := by decide +kernel
theorem dX9_dataOne_160 : decode cX9_dataOne 160 = .ok (.lload 5, 2) := by decide +kernel
theorem dX9_dataOne_162 : decode cX9_dataOne 162 = .ok (.invokevirtual 159, 3) := by decide +kernel
theorem dX9_dataOne_165 : decode cX9_dataOne 165 = .ok (.return_, 1) := by decide +kernel
noncomputable def fX9_dataOne_b89 (h : pm_H) (x0 : Nat) (x1 : Int32) (x3 : Int64) : Option pm_H := if pm_kd h x0 = 9 then (pm_R h x0 0).bind fun v35 => if pm_kd h v35 = 7 then (pm_R h v35 10).bind fun v38 => (fX12_setItem h v38 (x1 + 2) (pm_I h x0 1)).bind fun v40 => if x3 = 1 then (if pm_kd v40 x0 = 9 then (fX9_number v40 x0 32).bind fun v44 => if pm_kd v44.2 x0 = 9 then (pm_R v44.2 x0 0).bind fun v47 => if pm_kd v44.2 v47 = 7 then (pm_R v44.2 v47 10).bind fun v50 => (fX12_setItem v44.2 v50 (x1 + 3) (pm_I v44.2 x0 1)).bind fun v52 => if pm_kd v52 x0 = 9 then (pm_R v52 x0 0).bind fun v55 => if pm_kd v52 v55 = 7 then (pm_R v52 v55 10).bind fun v58 => pm_let (fX12_index v44.1) fun v60 => (fX12_setItem v52 v58 (x1 + 4) v60).bind fun v62 => if pm_kd v62 x0 = 9 then (fX9_skip v62 x0 v44.1).bind fun v65 => some v65 else none else none else none else none else none else none) else (if pm_kd v40 x0 = 9 then (fX9_expression v40 x0).bind fun v68 => if pm_kd v68 x0 = 9 then (fX9_number v68 x0 32).bind fun v71 => if pm_kd v71.2 x0 = 9 then (pm_R v71.2 x0 0).bind fun v74 => if pm_kd v71.2 v74 = 7 then (pm_R v71.2 v74 10).bind fun v77 => (fX12_setItem v71.2 v77 (x1 + 3) (pm_I v71.2 x0 1)).bind fun v79 => if pm_kd v79 x0 = 9 then (pm_R v79 x0 0).bind fun v82 => if pm_kd v79 v82 = 7 then (pm_R v79 v82 10).bind fun v85 => pm_let (fX12_index v71.1) fun v87 => (fX12_setItem v79 v85 (x1 + 4) v87).bind fun v89 => if pm_kd v89 x0 = 9 then (fX9_skip v89 x0 v71.1).bind fun v92 => some v92 else none else none else none else none else none else none else none) else none else none
noncomputable def fX9_dataOne_b56 (h : pm_H) (x0 : Nat) (x1 : Int32) (x3 : Int64) (s0 : Int32) (s1 : Int32) (s2 : Nat) : Option pm_H := (fX12_setItem h s2 s1 s0).bind fun v19 => if x3 = 2 then (if pm_kd v19 x0 = 9 then (pm_R v19 x0 0).bind fun v23 => if pm_kd v19 v23 = 7 then (pm_R v19 v23 10).bind fun v26 => (fX9_number v19 x0 32).bind fun v28 => pm_let (fX12_index v28.1) fun v30 => (fX12_setItem v28.2 v26 (x1 + 1) v30).bind fun v32 => fX9_dataOne_b89 v32 x0 x1 x3 else none else none) else (fX9_dataOne_b89 v19 x0 x1 x3)
noncomputable def fX9_dataOne_b35 (h : pm_H) (x0 : Nat) (x1 : Int32) (x3 : Int64) : Option pm_H := if pm_kd h x0 = 9 then (pm_R h x0 0).bind fun v13 => if pm_kd h v13 = 7 then (pm_R h v13 10).bind fun v16 => if x3 = 1 then (fX9_dataOne_b56 h x0 x1 x3 1 (x1 + 0) v16) else (fX9_dataOne_b56 h x0 x1 x3 0 (x1 + 0) v16) else none else none
noncomputable def fX9_dataOne (h : pm_H) (a0 : Nat) : Option pm_H := if pm_kd h a0 = 9 then pm_let ((pm_I h a0 15) * 7) fun y2 => pm_let (pm_I h a0 1) fun y4 => (fX9_number h a0 32).bind fun v6 => if v6.1 ≤ 2 then (fX9_dataOne_b35 v6.2 a0 y2 v6.1) else (if pm_kd v6.2 a0 = 9 then (fX9_fail v6.2 a0 7 y4).bind fun v10 => fX9_dataOne_b35 v10 a0 y2 v6.1 else none) else none
set_option maxHeartbeats 4000000 in
set_option maxRecDepth 100000 in
theorem bX9_dataOne_89 {g : pm_Gm} {l : Launch} {G : pm_Gl} {Qr : Option Value → pm_H → Prop} (C : pm_C g cX9_dataOne RX9) (X : pm_X g l G mX9_dataOne 0 0 Qr) {h : pm_H} {x0 : Nat} {x1 : Int32} {x3 : Int64} {r : pm_H} (hf : fX9_dataOne_b89 h x0 x1 x3 = some r) (q : Qr none r) : pm_G g 89 [(0, .ref x0), (1, .int x1), (3, .long x3)] [] h 0 0 := by
  unfold fX9_dataOne_b89 at hf
  refine pm_aload_n C dX9_dataOne_89 rfl rfl ?_
  obtain ⟨k34, hf⟩ := pm_if hf
  obtain ⟨v35, e36, hf⟩ := pm_bd hf
  refine pm_getR C dX9_dataOne_90 flX9_19 rfl k34 e36 ?_
  obtain ⟨k37, hf⟩ := pm_if hf
  obtain ⟨v38, e39, hf⟩ := pm_bd hf
  refine pm_getR C dX9_dataOne_93 flX9_84 rfl k37 e39 ?_
  refine pm_iload_n C dX9_dataOne_96 rfl rfl ?_
  refine pm_iconst (v := 2) C dX9_dataOne_97 (by decide) ?_
  refine pm_iadd C dX9_dataOne_98 ?_
  refine pm_aload_n C dX9_dataOne_99 rfl rfl ?_
  refine pm_getI C dX9_dataOne_100 flX9_51 rfl k34 rfl ?_
  obtain ⟨v40, e41, hf⟩ := pm_bd hf
  refine pm_callS (as := [.ref v38, .int (x1 + 2), .int (pm_I h x0 1)]) (st := []) C X dX9_dataOne_103 lnX9_152 myX12_setItem stX12_setItem ⟨by decide, by decide⟩ rfl rfl (Nat.le_of_ble_eq_true rfl) (Nat.le_refl _) (Nat.le_refl _) (ctX12_setItem e41 ?_)
  show pm_G g 106 [(0, .ref x0), (1, .int x1), (3, .long x3)] [] v40 0 0
  refine pm_lload_n C dX9_dataOne_106 rfl rfl ?_
  refine pm_lconst (v := 1) C dX9_dataOne_107 (by decide) ?_
  refine pm_lcmp C dX9_dataOne_108 ?_
  refine pm_if_eq (tgt := 116) C dX9_dataOne_109 (by decide) (fun c42 => ?_) (fun c42 => ?_)
  · have hf := pm_it hf ((pm_lg_eq _ _).mp c42)
    refine pm_aload_n C dX9_dataOne_116 rfl rfl ?_
    refine pm_bipush (v := 32) C dX9_dataOne_117 (by decide) ?_
    obtain ⟨k43, hf⟩ := pm_if hf
    obtain ⟨v44, e45, hf⟩ := pm_bd hf
    refine pm_callV (as := [.int 32]) (st := []) C X dX9_dataOne_119 lnX9_145 myX9_number viX9_number ⟨by decide, by decide⟩ rfl rfl k43 (Nat.le_of_ble_eq_true rfl) (Nat.le_refl _) (Nat.le_refl _) (ctX9_number e45 ?_)
    show pm_G g 122 [(0, .ref x0), (1, .int x1), (3, .long x3)] [.long v44.1] v44.2 0 0
    refine pm_lstore (lv' := [(5, .long v44.1), (0, .ref x0), (1, .int x1), (3, .long x3)]) C dX9_dataOne_122 (pm_nl X (by decide)) rfl ?_
    refine pm_aload_n C dX9_dataOne_124 rfl rfl ?_
    obtain ⟨k46, hf⟩ := pm_if hf
    obtain ⟨v47, e48, hf⟩ := pm_bd hf
    refine pm_getR C dX9_dataOne_125 flX9_19 rfl k46 e48 ?_
    obtain ⟨k49, hf⟩ := pm_if hf
    obtain ⟨v50, e51, hf⟩ := pm_bd hf
    refine pm_getR C dX9_dataOne_128 flX9_84 rfl k49 e51 ?_
    refine pm_iload_n C dX9_dataOne_131 rfl rfl ?_
    refine pm_iconst (v := 3) C dX9_dataOne_132 (by decide) ?_
    refine pm_iadd C dX9_dataOne_133 ?_
    refine pm_aload_n C dX9_dataOne_134 rfl rfl ?_
    refine pm_getI C dX9_dataOne_135 flX9_51 rfl k46 rfl ?_
    obtain ⟨v52, e53, hf⟩ := pm_bd hf
    refine pm_callS (as := [.ref v50, .int (x1 + 3), .int (pm_I v44.2 x0 1)]) (st := []) C X dX9_dataOne_138 lnX9_152 myX12_setItem stX12_setItem ⟨by decide, by decide⟩ rfl rfl (Nat.le_of_ble_eq_true rfl) (Nat.le_refl _) (Nat.le_refl _) (ctX12_setItem e53 ?_)
    show pm_G g 141 [(5, .long v44.1), (0, .ref x0), (1, .int x1), (3, .long x3)] [] v52 0 0
    refine pm_aload_n C dX9_dataOne_141 rfl rfl ?_
    obtain ⟨k54, hf⟩ := pm_if hf
    obtain ⟨v55, e56, hf⟩ := pm_bd hf
    refine pm_getR C dX9_dataOne_142 flX9_19 rfl k54 e56 ?_
    obtain ⟨k57, hf⟩ := pm_if hf
    obtain ⟨v58, e59, hf⟩ := pm_bd hf
    refine pm_getR C dX9_dataOne_145 flX9_84 rfl k57 e59 ?_
    refine pm_iload_n C dX9_dataOne_148 rfl rfl ?_
    refine pm_iconst (v := 4) C dX9_dataOne_149 (by decide) ?_
    refine pm_iadd C dX9_dataOne_150 ?_
    refine pm_lload C dX9_dataOne_151 rfl ?_
    obtain ⟨v60, e61, hf⟩ := pm_lt hf
    refine pm_callS (as := [.long v44.1]) (st := [.int (x1 + 4), .ref v58]) C X dX9_dataOne_153 lnX9_247 myX12_index stX12_index ⟨by decide, by decide⟩ rfl rfl (Nat.le_of_ble_eq_true rfl) (Nat.le_refl _) (Nat.le_refl _) (ctX12_index e61 ?_)
    show pm_G g 156 [(5, .long v44.1), (0, .ref x0), (1, .int x1), (3, .long x3)] [.int v60, .int (x1 + 4), .ref v58] v52 0 0
    obtain ⟨v62, e63, hf⟩ := pm_bd hf
    refine pm_callS (as := [.ref v58, .int (x1 + 4), .int v60]) (st := []) C X dX9_dataOne_156 lnX9_152 myX12_setItem stX12_setItem ⟨by decide, by decide⟩ rfl rfl (Nat.le_of_ble_eq_true rfl) (Nat.le_refl _) (Nat.le_refl _) (ctX12_setItem e63 ?_)
    show pm_G g 159 [(5, .long v44.1), (0, .ref x0), (1, .int x1), (3, .long x3)] [] v62 0 0
    refine pm_aload_n C dX9_dataOne_159 rfl rfl ?_
    refine pm_lload C dX9_dataOne_160 rfl ?_
    obtain ⟨k64, hf⟩ := pm_if hf
    obtain ⟨v65, e66, hf⟩ := pm_bd hf
    refine pm_callV (as := [.long v44.1]) (st := []) C X dX9_dataOne_162 lnX9_159 myX9_skip viX9_skip ⟨by decide, by decide⟩ rfl rfl k64 (Nat.le_of_ble_eq_true rfl) (Nat.le_refl _) (Nat.le_refl _) (ctX9_skip e66 ?_)
    show pm_G g 165 [(5, .long v44.1), (0, .ref x0), (1, .int x1), (3, .long x3)] [] v65 0 0
    cases hf
    exact pm_vret C X dX9_dataOne_165 rfl (Nat.le_refl _) (Nat.le_refl _) q
  · have hf := pm_ie hf ((fun z => c42 ((pm_lg_eq _ _).mpr z)))
    refine pm_aload_n C dX9_dataOne_112 rfl rfl ?_
    obtain ⟨k67, hf⟩ := pm_if hf
    obtain ⟨v68, e69, hf⟩ := pm_bd hf
    refine pm_callV (as := []) (st := []) C X dX9_dataOne_113 lnX9_241 myX9_expression viX9_expression ⟨by decide, by decide⟩ rfl rfl k67 (Nat.le_of_ble_eq_true rfl) (Nat.le_refl _) (Nat.le_refl _) (ctX9_expression e69 ?_)
    show pm_G g 116 [(0, .ref x0), (1, .int x1), (3, .long x3)] [] v68 0 0
    refine pm_aload_n C dX9_dataOne_116 rfl rfl ?_
    refine pm_bipush (v := 32) C dX9_dataOne_117 (by decide) ?_
    obtain ⟨k70, hf⟩ := pm_if hf
    obtain ⟨v71, e72, hf⟩ := pm_bd hf
    refine pm_callV (as := [.int 32]) (st := []) C X dX9_dataOne_119 lnX9_145 myX9_number viX9_number ⟨by decide, by decide⟩ rfl rfl k70 (Nat.le_of_ble_eq_true rfl) (Nat.le_refl _) (Nat.le_refl _) (ctX9_number e72 ?_)
    show pm_G g 122 [(0, .ref x0), (1, .int x1), (3, .long x3)] [.long v71.1] v71.2 0 0
    refine pm_lstore (lv' := [(5, .long v71.1), (0, .ref x0), (1, .int x1), (3, .long x3)]) C dX9_dataOne_122 (pm_nl X (by decide)) rfl ?_
    refine pm_aload_n C dX9_dataOne_124 rfl rfl ?_
    obtain ⟨k73, hf⟩ := pm_if hf
    obtain ⟨v74, e75, hf⟩ := pm_bd hf
    refine pm_getR C dX9_dataOne_125 flX9_19 rfl k73 e75 ?_
    obtain ⟨k76, hf⟩ := pm_if hf
    obtain ⟨v77, e78, hf⟩ := pm_bd hf
    refine pm_getR C dX9_dataOne_128 flX9_84 rfl k76 e78 ?_
    refine pm_iload_n C dX9_dataOne_131 rfl rfl ?_
    refine pm_iconst (v := 3) C dX9_dataOne_132 (by decide) ?_
    refine pm_iadd C dX9_dataOne_133 ?_
    refine pm_aload_n C dX9_dataOne_134 rfl rfl ?_
    refine pm_getI C dX9_dataOne_135 flX9_51 rfl k73 rfl ?_
    obtain ⟨v79, e80, hf⟩ := pm_bd hf
    refine pm_callS (as := [.ref v77, .int (x1 + 3), .int (pm_I v71.2 x0 1)]) (st := []) C X dX9_dataOne_138 lnX9_152 myX12_setItem stX12_setItem ⟨by decide, by decide⟩ rfl rfl (Nat.le_of_ble_eq_true rfl) (Nat.le_refl _) (Nat.le_refl _) (ctX12_setItem e80 ?_)
    show pm_G g 141 [(5, .long v71.1), (0, .ref x0), (1, .int x1), (3, .long x3)] [] v79 0 0
    refine pm_aload_n C dX9_dataOne_141 rfl rfl ?_
    obtain ⟨k81, hf⟩ := pm_if hf
    obtain ⟨v82, e83, hf⟩ := pm_bd hf
    refine pm_getR C dX9_dataOne_142 flX9_19 rfl k81 e83 ?_
    obtain ⟨k84, hf⟩ := pm_if hf
    obtain ⟨v85, e86, hf⟩ := pm_bd hf
    refine pm_getR C dX9_dataOne_145 flX9_84 rfl k84 e86 ?_
    refine pm_iload_n C dX9_dataOne_148 rfl rfl ?_
    refine pm_iconst (v := 4) C dX9_dataOne_149 (by decide) ?_
    refine pm_iadd C dX9_dataOne_150 ?_
    refine pm_lload C dX9_dataOne_151 rfl ?_
    obtain ⟨v87, e88, hf⟩ := pm_lt hf
    refine pm_callS (as := [.long v71.1]) (st := [.int (x1 + 4), .ref v85]) C X dX9_dataOne_153 lnX9_247 myX12_index stX12_index ⟨by decide, by decide⟩ rfl rfl (Nat.le_of_ble_eq_true rfl) (Nat.le_refl _) (Nat.le_refl _) (ctX12_index e88 ?_)
    show pm_G g 156 [(5, .long v71.1), (0, .ref x0), (1, .int x1), (3, .long x3)] [.int v87, .int (x1 + 4), .ref v85] v79 0 0
    obtain ⟨v89, e90, hf⟩ := pm_bd hf
    refine pm_callS (as := [.ref v85, .int (x1 + 4), .int v87]) (st := []) C X dX9_dataOne_156 lnX9_152 myX12_setItem stX12_setItem ⟨by decide, by decide⟩ rfl rfl (Nat.le_of_ble_eq_true rfl) (Nat.le_refl _) (Nat.le_refl _) (ctX12_setItem e90 ?_)
    show pm_G g 159 [(5, .long v71.1), (0, .ref x0), (1, .int x1), (3, .long x3)] [] v89 0 0
    refine pm_aload_n C dX9_dataOne_159 rfl rfl ?_
    refine pm_lload C dX9_dataOne_160 rfl ?_
    obtain ⟨k91, hf⟩ := pm_if hf
    obtain ⟨v92, e93, hf⟩ := pm_bd hf
    refine pm_callV (as := [.long v71.1]) (st := []) C X dX9_dataOne_162 lnX9_159 myX9_skip viX9_skip ⟨by decide, by decide⟩ rfl rfl k91 (Nat.le_of_ble_eq_true rfl) (Nat.le_refl _) (Nat.le_refl _) (ctX9_skip e93 ?_)
    show pm_G g 165 [(5, .long v71.1), (0, .ref x0), (1, .int x1), (3, .long x3)] [] v92 0 0
    cases hf
    exact pm_vret C X dX9_dataOne_165 rfl (Nat.le_refl _) (Nat.le_refl _) q
set_option maxHeartbeats 4000000 in
set_option maxRecDepth 100000 in
theorem bX9_dataOne_56 {g : pm_Gm} {l : Launch} {G : pm_Gl} {Qr : Option Value → pm_H → Prop} (C : pm_C g cX9_dataOne RX9) (X : pm_X g l G mX9_dataOne 0 0 Qr) {h : pm_H} {x0 : Nat} {x1 : Int32} {x3 : Int64} {s0 : Int32} {s1 : Int32} {s2 : Nat} {r : pm_H} (hf : fX9_dataOne_b56 h x0 x1 x3 s0 s1 s2 = some r) (q : Qr none r) : pm_G g 56 [(0, .ref x0), (1, .int x1), (3, .long x3)] [.int s0, .int s1, .ref s2] h 0 0 := by
  unfold fX9_dataOne_b56 at hf
  obtain ⟨v19, e20, hf⟩ := pm_bd hf
  refine pm_callS (as := [.ref s2, .int s1, .int s0]) (st := []) C X dX9_dataOne_56 lnX9_152 myX12_setItem stX12_setItem ⟨by decide, by decide⟩ rfl rfl (Nat.le_of_ble_eq_true rfl) (Nat.le_refl _) (Nat.le_refl _) (ctX12_setItem e20 ?_)
  show pm_G g 59 [(0, .ref x0), (1, .int x1), (3, .long x3)] [] v19 0 0
  refine pm_lload_n C dX9_dataOne_59 rfl rfl ?_
  refine pm_ldc2 C dX9_dataOne_60 cnX9_255 ?_
  refine pm_lcmp C dX9_dataOne_63 ?_
  refine pm_if_ne (tgt := 89) C dX9_dataOne_64 (by decide) (fun c21 => ?_) (fun c21 => ?_)
  · have hf := pm_ie hf ((fun z => c21 ((pm_lg_eq _ _).mpr z)))
    exact pm_sub [0, 1, 2] rfl (bX9_dataOne_89 C X hf q)
  · have hf := pm_it hf ((pm_lg_eq _ _).mp c21)
    refine pm_aload_n C dX9_dataOne_67 rfl rfl ?_
    obtain ⟨k22, hf⟩ := pm_if hf
    obtain ⟨v23, e24, hf⟩ := pm_bd hf
    refine pm_getR C dX9_dataOne_68 flX9_19 rfl k22 e24 ?_
    obtain ⟨k25, hf⟩ := pm_if hf
    obtain ⟨v26, e27, hf⟩ := pm_bd hf
    refine pm_getR C dX9_dataOne_71 flX9_84 rfl k25 e27 ?_
    refine pm_iload_n C dX9_dataOne_74 rfl rfl ?_
    refine pm_iconst (v := 1) C dX9_dataOne_75 (by decide) ?_
    refine pm_iadd C dX9_dataOne_76 ?_
    refine pm_aload_n C dX9_dataOne_77 rfl rfl ?_
    refine pm_bipush (v := 32) C dX9_dataOne_78 (by decide) ?_
    obtain ⟨v28, e29, hf⟩ := pm_bd hf
    refine pm_callV (as := [.int 32]) (st := [.int (x1 + 1), .ref v26]) C X dX9_dataOne_80 lnX9_145 myX9_number viX9_number ⟨by decide, by decide⟩ rfl rfl k22 (Nat.le_of_ble_eq_true rfl) (Nat.le_refl _) (Nat.le_refl _) (ctX9_number e29 ?_)
    show pm_G g 83 [(0, .ref x0), (1, .int x1), (3, .long x3)] [.long v28.1, .int (x1 + 1), .ref v26] v28.2 0 0
    obtain ⟨v30, e31, hf⟩ := pm_lt hf
    refine pm_callS (as := [.long v28.1]) (st := [.int (x1 + 1), .ref v26]) C X dX9_dataOne_83 lnX9_247 myX12_index stX12_index ⟨by decide, by decide⟩ rfl rfl (Nat.le_of_ble_eq_true rfl) (Nat.le_refl _) (Nat.le_refl _) (ctX12_index e31 ?_)
    show pm_G g 86 [(0, .ref x0), (1, .int x1), (3, .long x3)] [.int v30, .int (x1 + 1), .ref v26] v28.2 0 0
    obtain ⟨v32, e33, hf⟩ := pm_bd hf
    refine pm_callS (as := [.ref v26, .int (x1 + 1), .int v30]) (st := []) C X dX9_dataOne_86 lnX9_152 myX12_setItem stX12_setItem ⟨by decide, by decide⟩ rfl rfl (Nat.le_of_ble_eq_true rfl) (Nat.le_refl _) (Nat.le_refl _) (ctX12_setItem e33 ?_)
    show pm_G g 89 [(0, .ref x0), (1, .int x1), (3, .long x3)] [] v32 0 0
    exact pm_sub [0, 1, 2] rfl (bX9_dataOne_89 C X hf q)
set_option maxHeartbeats 4000000 in
set_option maxRecDepth 100000 in
theorem bX9_dataOne_35 {g : pm_Gm} {l : Launch} {G : pm_Gl} {Qr : Option Value → pm_H → Prop} (C : pm_C g cX9_dataOne RX9) (X : pm_X g l G mX9_dataOne 0 0 Qr) {h : pm_H} {x0 : Nat} {x1 : Int32} {x3 : Int64} {r : pm_H} (hf : fX9_dataOne_b35 h x0 x1 x3 = some r) (q : Qr none r) : pm_G g 35 [(0, .ref x0), (1, .int x1), (3, .long x3)] [] h 0 0 := by
  unfold fX9_dataOne_b35 at hf
  refine pm_aload_n C dX9_dataOne_35 rfl rfl ?_
  obtain ⟨k12, hf⟩ := pm_if hf
  obtain ⟨v13, e14, hf⟩ := pm_bd hf
  refine pm_getR C dX9_dataOne_36 flX9_19 rfl k12 e14 ?_
  obtain ⟨k15, hf⟩ := pm_if hf
  obtain ⟨v16, e17, hf⟩ := pm_bd hf
  refine pm_getR C dX9_dataOne_39 flX9_84 rfl k15 e17 ?_
  refine pm_iload_n C dX9_dataOne_42 rfl rfl ?_
  refine pm_iconst (v := 0) C dX9_dataOne_43 (by decide) ?_
  refine pm_iadd C dX9_dataOne_44 ?_
  refine pm_lload_n C dX9_dataOne_45 rfl rfl ?_
  refine pm_lconst (v := 1) C dX9_dataOne_46 (by decide) ?_
  refine pm_lcmp C dX9_dataOne_47 ?_
  refine pm_if_ne (tgt := 55) C dX9_dataOne_48 (by decide) (fun c18 => ?_) (fun c18 => ?_)
  · have hf := pm_ie hf ((fun z => c18 ((pm_lg_eq _ _).mpr z)))
    refine pm_iconst (v := 0) C dX9_dataOne_55 (by decide) ?_
    exact pm_sub [0, 1, 2] rfl (bX9_dataOne_56 C X hf q)
  · have hf := pm_it hf ((pm_lg_eq _ _).mp c18)
    refine pm_iconst (v := 1) C dX9_dataOne_51 (by decide) ?_
    refine pm_goto (tgt := 56) C dX9_dataOne_52 (by decide) ?_
    exact pm_sub [0, 1, 2] rfl (bX9_dataOne_56 C X hf q)
set_option maxHeartbeats 4000000 in
set_option maxRecDepth 100000 in
theorem ctX9_dataOne {l : Launch} {G : pm_Gl} {h : pm_H} {a0 : Nat} {r : pm_H} {Qr : Option Value → pm_H → Prop} (hf : fX9_dataOne h a0 = some r) (q : Qr none r) : pm_Ct l G mX9_dataOne [.ref a0] h 0 0 Qr := by
  refine pm_body pnX9 (Nat.le_of_ble_eq_true rfl) (fun g C X => ?_)
  have C : pm_C g cX9_dataOne RX9 := C
  show pm_G g 0 [(0, .ref a0)] [] h 0 0
  unfold fX9_dataOne at hf
  refine pm_aload_n C dX9_dataOne_0 rfl rfl ?_
  obtain ⟨k1, hf⟩ := pm_if hf
  refine pm_getI C dX9_dataOne_1 flX9_133 rfl k1 rfl ?_
  refine pm_bipush (v := 7) C dX9_dataOne_4 (by decide) ?_
  refine pm_imul C dX9_dataOne_6 ?_
  obtain ⟨y2, e3, hf⟩ := pm_lt hf
  refine pm_topI e3 ?_
  refine pm_istore_n (lv' := [(1, .int y2), (0, .ref a0)]) C dX9_dataOne_7 rfl (pm_nl X (by decide)) rfl ?_
  refine pm_aload_n C dX9_dataOne_8 rfl rfl ?_
  refine pm_getI C dX9_dataOne_9 flX9_51 rfl k1 rfl ?_
  obtain ⟨y4, e5, hf⟩ := pm_lt hf
  refine pm_topI e5 ?_
  refine pm_istore_n (lv' := [(2, .int y4), (1, .int y2), (0, .ref a0)]) C dX9_dataOne_12 rfl (pm_nl X (by decide)) rfl ?_
  refine pm_aload_n C dX9_dataOne_13 rfl rfl ?_
  refine pm_bipush (v := 32) C dX9_dataOne_14 (by decide) ?_
  obtain ⟨v6, e7, hf⟩ := pm_bd hf
  refine pm_callV (as := [.int 32]) (st := []) C X dX9_dataOne_16 lnX9_145 myX9_number viX9_number ⟨by decide, by decide⟩ rfl rfl k1 (Nat.le_of_ble_eq_true rfl) (Nat.le_refl _) (Nat.le_refl _) (ctX9_number e7 ?_)
  show pm_G g 19 [(2, .int y4), (1, .int y2), (0, .ref a0)] [.long v6.1] v6.2 0 0
  refine pm_lstore_n (lv' := [(3, .long v6.1), (2, .int y4), (1, .int y2), (0, .ref a0)]) C dX9_dataOne_19 rfl (pm_nl X (by decide)) rfl ?_
  refine pm_lload_n C dX9_dataOne_20 rfl rfl ?_
  refine pm_ldc2 C dX9_dataOne_21 cnX9_255 ?_
  refine pm_lcmp C dX9_dataOne_24 ?_
  refine pm_if_le (tgt := 35) C dX9_dataOne_25 (by decide) (fun c8 => ?_) (fun c8 => ?_)
  · have hf := pm_it hf ((pm_lg_le _ _).mp c8)
    exact pm_sub [3, 2, 0] rfl (bX9_dataOne_35 C X hf q)
  · have hf := pm_ie hf ((fun z => c8 ((pm_lg_le _ _).mpr z)))
    refine pm_aload_n C dX9_dataOne_28 rfl rfl ?_
    refine pm_bipush (v := 7) C dX9_dataOne_29 (by decide) ?_
    refine pm_iload_n C dX9_dataOne_31 rfl rfl ?_
    obtain ⟨k9, hf⟩ := pm_if hf
    obtain ⟨v10, e11, hf⟩ := pm_bd hf
    refine pm_callV (as := [.int 7, .int y4]) (st := []) C X dX9_dataOne_32 lnX9_47 myX9_fail viX9_fail ⟨by decide, by decide⟩ rfl rfl k9 (Nat.le_of_ble_eq_true rfl) (Nat.le_refl _) (Nat.le_refl _) (ctX9_fail e11 ?_)
    show pm_G g 35 [(3, .long v6.1), (2, .int y4), (1, .int y2), (0, .ref a0)] [] v10 0 0
    exact pm_sub [3, 2, 0] rfl (bX9_dataOne_35 C X hf q)
