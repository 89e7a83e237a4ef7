/-! THE REFERENCE CHECKS: instructions that stand alone -/
theorem v_ops : ∀ c : Fin 256, ((69 ≤ c.val ∧ c.val ≤ 196) ∨ (200 ≤ c.val ∧ c.val < 208)) → 127 - fX16_operandOf (Int32.ofNat c.val) = Int32.ofNat (127 - kOpT c.val) ∧ 127 - fX16_resultOf (Int32.ofNat c.val) = Int32.ofNat (127 - kRsT c.val) ∧ fX16_hasTwo (Int32.ofNat c.val) = (if kTwo c.val = true then 1 else 0) ∧ sp_isT (127 - kOpT c.val) = true ∧ sp_isT (127 - kRsT c.val) = true := by decide +kernel
theorem v_act : ∀ c : Fin 256, (40 ≤ c.val ∧ c.val ≤ 62) → fX16_accessType (Int32.ofNat c.val) = Int32.ofNat (kAcT c.val) ∧ sp_isT (kAcT c.val) = true := by decide +kernel
theorem isT_127 : isT 127 := by decide
section VPL
variable {h r : pm_H} {n b m eo el p p2 b' t x : Nat} {B : Nat → Nat} {M : tMd} {K0 K : tK} {D : Bool} {Dc : Nat → Bool} {a : tBo} {v : sp_I} {o ca cb hb : Int32} {β ρ : Type} {F : pm_H → Prop} {R : β → Nat → ρ → Prop}
theorem u_n {y : Option ((Nat × pm_H) ⊕ ρ)} {k' : tK → Nat → sp_O β} (q : ms_Q F R y (k' K 0)) : ms_Q F R y (sp_b (kTk p 0 K) k') := q
theorem u_np {y : Option ((Nat × pm_H) ⊕ ρ)} {k' : tK → Nat → sp_O β} (q : ms_Q F R y (k' K 0)) : ms_Q F R y (sp_b (kPt p 0 K) k') := q
theorem v_b54 (C : vC h n b m eo el B M) (I : uI h M p K0 K r) (hl : 0 < K0.2.1.length) {op ty : Nat} (ho : 32 ≤ op ∧ op ≤ 38) (hy : isT ty) : ms_Q (vF m h) (vU h p) (fX16_names_b54 r 592 (Int32.ofNat op) (Int32.ofNat ty)) (kPl p o ca cb hb (if op = 37 then 127 else if op = 33 ∨ op = 34 ∨ op = 36 ∨ op = 38 then ty else 0) (if op = 38 then 127 else 0) 0 (if op = 32 ∨ op = 34 ∨ op = 35 ∨ op = 37 then ty else 0) K) := by
  have CI := fun {K1 r1} (I1 : uI h M p K0 K1 r1) => (uI_C C I1).1.1
  have c : op = 32 ∨ op = 33 ∨ op = 34 ∨ op = 35 ∨ op = 36 ∨ op = 37 ∨ op = 38 := by omega
  unfold kPl fX16_names_b54 fX16_names_b69 fX16_names_b93 fX16_names_b100 fX16_names_b113
  rcases c with c | c | c | c | c | c | c <;> subst c
  · exact u_n (q_f (by decide) (q_f (by decide) (q_f (by decide) (q_f (by decide) (q_f (by decide) (q_f (by decide) (u_n (u_n (q_t (by decide) (q_t (CI I) (u_pt C I hy fun K9 z9 r9 I9 => ux_r I9)))))))))))
  · exact q_f (by decide) (q_t (by decide) (q_t (CI I) (u_tk1 C I hl hy fun K7 z7 r7 I7 => q_f (by decide) (u_n (u_n (u_np (q_f (by decide) (q_f (by decide) (q_f (by decide) (q_f (by decide) (ux_r I7)))))))))))
  · exact q_f (by decide) (q_f (by decide) (q_t (by decide) (q_t (CI I) (u_tk1 C I hl hy fun K7 z7 r7 I7 => q_f (by decide) (u_n (u_n (q_f (by decide) (q_t (by decide) (q_t (CI I7) (u_pt C I7 hy fun K9 z9 r9 I9 => ux_r I9))))))))))
  · exact u_n (q_f (by decide) (q_f (by decide) (q_f (by decide) (q_f (by decide) (q_f (by decide) (q_f (by decide) (u_n (u_n (q_f (by decide) (q_f (by decide) (q_t (by decide) (q_t (CI I) (u_pt C I hy fun K9 z9 r9 I9 => ux_r I9)))))))))))))
  · exact q_f (by decide) (q_f (by decide) (q_f (by decide) (q_t (by decide) (q_t (CI I) (u_tk1 C I hl hy fun K7 z7 r7 I7 => q_f (by decide) (u_n (u_n (u_np (q_f (by decide) (q_f (by decide) (q_f (by decide) (q_f (by decide) (ux_r I7)))))))))))))
  · exact q_t (by decide) (q_t (CI I) (u_tk1 C I hl isT_127 fun K6 z6 r6 I6 => q_f (by decide) (q_f (by decide) (q_f (by decide) (q_f (by decide) (q_f (by decide) (u_n (u_n (q_f (by decide) (q_f (by decide) (q_f (by decide) (q_t (by decide) (q_t (CI I6) (u_pt C I6 hy fun K9 z9 r9 I9 => ux_r I9))))))))))))))
  · exact q_f (by decide) (q_f (by decide) (q_f (by decide) (q_f (by decide) (q_t (by decide) (q_t (CI I) (u_tk1 C I hl hy fun K7 z7 r7 I7 => q_t (by decide) (q_t (CI I7) (u_tk1 C I7 hl isT_127 fun K8 z8 r8 I8 => u_n (u_np (q_f (by decide) (q_f (by decide) (q_f (by decide) (q_f (by decide) (ux_r I8))))))))))))))
theorem q_e {y : Option ((Nat × pm_H) ⊕ ρ)} {o : sp_O β} (q : ms_Q F R y o) : ms_Q F R (y.bind fun w => pt_k w fun z => some (.inr z)) o := by
  have e : (y.bind fun w => pt_k w fun z => some (.inr z)) = y := by
    cases y with
    | none => rfl
    | some w => cases w <;> rfl
  rw [e]
  exact q
theorem v_acc (C : vC h n b m eo el B M) (I : uI h M p K0 K r) (hl : 0 < K0.2.1.length) {op : Nat} (ho : 40 ≤ op ∧ op ≤ 62) : ms_Q (vF m h) (vU h p) (fX16_accesses r 592 (Int32.ofNat op)) (kPl p o ca cb hb (if op < 54 then 127 else kAcT op) (if op < 54 then 0 else 127) 0 (if op < 54 then kAcT op else 0) K) := by
  have CI := fun {K1 r1} (I1 : uI h M p K0 K1 r1) => (uI_C C I1).1.1
  obtain ⟨e1, e2⟩ := v_act ⟨op, by omega⟩ ho
  have e1 : fX16_accessType (Int32.ofNat op) = Int32.ofNat (kAcT op) := e1
  unfold kPl fX16_accesses
  rw [e1]
  refine q_l ?_
  by_cases c : op < 54
  · rw [if_pos c, if_pos c, if_pos c]
    refine q_t (show Int32.ofNat op ≤ Int32.ofNat 53 by rw [nn_le (by omega) (by decide)]; omega) (q_t (CI I) (u_tk1 C I hl isT_127 fun K6 z6 r6 I6 => u_n (u_n (q_f (show ¬ Int32.ofNat 54 ≤ Int32.ofNat op by rw [nn_le (by decide) (by omega)]; omega) (q_t (CI I6) (u_pt C I6 e2 fun K9 z9 r9 I9 => ux_r I9))))))
  · rw [if_neg c, if_neg c, if_neg c]
    refine q_f (show ¬ Int32.ofNat op ≤ Int32.ofNat 53 by rw [nn_le (by omega) (by decide)]; omega) (q_t (CI I) (u_tk1 C I hl e2 fun K6 z6 r6 I6 => q_t (CI I6) (u_tk1 C I6 hl isT_127 fun K7 z7 r7 I7 => u_n (u_np (q_t (show Int32.ofNat 54 ≤ Int32.ofNat op by rw [nn_le (by decide) (by omega)]; omega) (ux_r I7))))))
theorem v_opr (C : vC h n b m eo el B M) (I : uI h M p K0 K r) (hl : 0 < K0.2.1.length) {op : Nat} (ho : (69 ≤ op ∧ op ≤ 196) ∨ (200 ≤ op ∧ op < 208)) : ms_Q (vF m h) (vU h p) (fX16_operates r 592 (Int32.ofNat op)) (kPl p o ca cb hb (127 - kOpT op) (if kTwo op = true then 127 - kOpT op else 0) 0 (127 - kRsT op) K) := by
  have CI := fun {K1 r1} (I1 : uI h M p K0 K1 r1) => (uI_C C I1).1.1
  obtain ⟨e1, e2, e3, e4, e5⟩ := v_ops ⟨op, by omega⟩ ho
  have e1 : 127 - fX16_operandOf (Int32.ofNat op) = Int32.ofNat (127 - kOpT op) := e1
  have e2 : 127 - fX16_resultOf (Int32.ofNat op) = Int32.ofNat (127 - kRsT op) := e2
  have e3 : fX16_hasTwo (Int32.ofNat op) = (if kTwo op = true then 1 else 0) := e3
  unfold kPl fX16_operates
  refine q_l (q_l ?_)
  rw [e3]
  by_cases c : kTwo op = true
  · rw [if_pos c, if_pos c, e1]
    refine q_f (by decide) (q_t (CI I) (u_tk2 C I hl e4 fun K6 z6 r6 I6 => u_n (q_l ?_)))
    rw [e2]
    exact q_t (CI I6) (u_pt C I6 e5 fun K9 z9 r9 I9 => ux_r I9)
  · rw [if_neg c, if_neg c, e1]
    refine q_t rfl (q_t (CI I) (u_tk1 C I hl e4 fun K6 z6 r6 I6 => u_n (u_n (q_l ?_))))
    rw [e2]
    exact q_t (CI I6) (u_pt C I6 e5 fun K9 z9 r9 I9 => ux_r I9)
theorem v_frs {lt : Nat → Option Nat} {s : Nat × Nat × Nat × Nat} {p0 : Nat} {p2' : Nat} (C : vC h n b m eo el B M) (I : uI h M p K0 K h) (hl : 0 < K0.2.1.length) (G : vG B n D M) (q : sp_fur B n D p0 p2 = .inr (v, p2')) (es : kSg M Dc lt v.1 v.2.1.toNatClampNeg v.2.2.1.toNatClampNeg = some s) : ms_Q (vF m h) (vU h p) (fX16_furthers (lk h p2) 592) (kPl p o ca cb hb s.1 s.2.1 s.2.2.1 s.2.2.2 K) := by
  have CI := fun {K1 r1} (I1 : uI h M p K0 K1 r1) => (uI_C C I1).1.1
  have hB := C.1.2.2.2.2.2.2.2.2.2
  have L := vG_L G
  have hK := G.1.2.1
  obtain ⟨k, p1, k17, e1, f1, f2, f3, f4⟩ := fur_k hB q
  have N : ∀ j, j < 100 → k ≠ j → ¬ Int32.ofNat k = Int32.ofNat j := fun j hj z => by rw [nn_eq (by omega) (by omega)]; exact z
  have E : ∀ j, k = j → Int32.ofNat k = Int32.ofNat j := fun j z => by rw [z]
  unfold fX16_furthers
  refine q_t C.1.1 (q_b (mw_word C.1 (Nat.le_refl n) e1) ?_)
  rw [ll_t3]
  have I1 := uI_lk I p1
  by_cases k8 : k < 8
  · refine q_f (show ¬ Int32.ofNat 8 ≤ Int32.ofNat k by rw [nn_le (by decide) (by omega)]; omega) (q_t C.1.1 (q_e ?_))
    have ev := f1 k8
    rw [ev] at es
    rw [sg_opr (by show 69 ≤ 200 + k ∧ 200 + k < 208; omega)] at es
    cases es
    rw [show (200 : Int32) + Int32.ofNat k = Int32.ofNat (200 + k) from nn_ad 200 k]
    exact v_opr C I1 hl (.inr (by omega))
  refine q_t (show Int32.ofNat 8 ≤ Int32.ofNat k by rw [nn_le (by decide) (by omega)]; omega) ?_
  by_cases c15 : k = 15 ∨ k = 17
  · obtain ⟨x, p3, hx, e3, ev⟩ := f4 (by omega)
    rw [ev, sg_315 (by show 315 ≤ 300 + k; omega)] at es
    have es : (match (spT M)[(Int64.ofNat x).toNatClampNeg]? with
      | none => none
      | some t => if 300 + k = 315 then some (127, t.2.1, 0, 127) else if 300 + k = 316 then some (0, 0, 0, 127) else some (127, t.2.1, 127, 0)) = some s := es
    rw [ll_cm (by omega)] at es
    cases ez : (spT M)[x]? with
    | none => rw [ez] at es; cases es
    | some f =>
      rw [ez] at es
      have es : (if 300 + k = 315 then some (127, f.2.1, 0, 127) else if 300 + k = 316 then some (0, 0, 0, 127) else some (127, f.2.1, 127, 0)) = some s := es
      have tf := isT_R (spT_T G ez)
      have I3 := uI_lk I p3
      have et : fX14_typeOfTable (lk h p3) m (Int64.ofNat x).toInt32 = some (Int32.ofNat f.2.1) := by rw [ll_t3]; exact v_tyT (vC_lk C p3) L hK ez
      rcases c15 with c | c
      · rw [if_pos (by omega)] at es
        cases es
        unfold kPl
        exact q_t (E 15 c) (q_t C.1.1 (q_b C.1.2.1 (q_b (mw_word C.1 (Nat.le_refl n) e3) (q_t C.1.2.2.1 (q_b et (q_t C.1.1 (u_tk1 C I3 hl isT_127 fun K6 z6 r6 I6 => q_t (CI I6) (u_tk1 C I6 hl tf fun K7 z7 r7 I7 => u_n (q_f (N 17 (by decide) (by omega)) (q_t (CI I7) (u_pt C I7 isT_127 fun K9 z9 r9 I9 => ux_r I9)))))))))))
      · rw [if_neg (by omega), if_neg (by omega)] at es
        cases es
        unfold kPl
        exact q_f (N 15 (by decide) (by omega)) (q_t (E 17 c) (q_t C.1.1 (q_b C.1.2.1 (q_b (mw_word C.1 (Nat.le_refl n) e3) (q_t C.1.2.2.1 (q_b et (q_t C.1.1 (u_tk1 C I3 hl isT_127 fun K6 z6 r6 I6 => q_t (CI I6) (u_tk1 C I6 hl tf fun K7 z7 r7 I7 => q_t (E 17 c) (q_t (CI I7) (u_tk1 C I7 hl isT_127 fun K9 z9 r9 I9 => u_np (ux_r I9)))))))))))) 
  refine q_f (N 15 (by decide) (by omega)) (q_f (N 17 (by decide) (by omega)) ?_)
  by_cases c16 : k = 16
  · obtain ⟨x, p3, hx, e3, ev⟩ := f4 (by omega)
    rw [ev, sg_315 (by show 315 ≤ 300 + k; omega)] at es
    have es : (match (spT M)[(Int64.ofNat x).toNatClampNeg]? with
      | none => none
      | some t => if 300 + k = 315 then some (127, t.2.1, 0, 127) else if 300 + k = 316 then some (0, 0, 0, 127) else some (127, t.2.1, 127, 0)) = some s := es
    have e0 : s = (0, 0, 0, 127) := by
      cases ez : (spT M)[(Int64.ofNat x).toNatClampNeg]? with
      | none => rw [ez] at es; cases es
      | some f =>
        rw [ez] at es
        have es : (if 300 + k = 315 then some (127, f.2.1, 0, 127) else if 300 + k = 316 then some (0, 0, 0, 127) else some (127, f.2.1, 127, 0)) = some s := es
        rw [if_neg (by omega), if_pos (by omega)] at es
        cases es
        rfl
    rw [e0]
    unfold kPl
    exact u_n (u_n (u_n (q_t (E 16 c16) (q_t C.1.1 (u_pt C I1 isT_127 fun K9 z9 r9 I9 => ux_r I9)))))
  refine q_f (N 16 (by decide) (by omega)) ?_
  by_cases c9 : k = 9 ∨ k = 13
  · obtain ⟨x, p3, hx, e3, ev⟩ := f4 (by omega)
    have e0 : s = (0, 0, 0, 0) := by
      rw [ev] at es
      rcases c9 with c | c
      · rw [sg_309 (by show 300 + k = 309; omega)] at es
        split at es
        · cases es; rfl
        · cases es
      · rw [sg_313 (by show 300 + k = 313; omega)] at es
        split at es
        · cases es; rfl
        · cases es
    rw [e0]
    unfold kPl
    refine u_n (u_n (u_n (u_np ?_)))
    rcases c9 with c | c
    · exact q_t (E 9 c) (ux_r I1)
    · exact q_f (N 9 (by decide) (by omega)) (q_t (E 13 c) (ux_r I1))
  have e0 : s = (127, 127, 127, 0) := by
    by_cases c8 : k = 8
    · obtain ⟨x, p3, hx, e3, ev⟩ := f4 (by omega)
      rw [ev, sg_308 (by show 300 + k = 308; omega)] at es
      split at es
      · cases es; rfl
      · cases es
    by_cases c10 : k = 10 ∨ k = 11
    · rw [f2 c10, sg_310 (by show 310 ≤ 300 + k ∧ 300 + k ≤ 311; omega)] at es
      split at es
      · cases es; rfl
      · cases es
    obtain ⟨x, y, p3, p4, hx, hy, e3, e4, ev⟩ := f3 (by omega)
    rw [ev] at es
    by_cases c12 : k = 12
    · rw [sg_312 (by show 300 + k = 312; omega)] at es
      split at es
      · split at es
        · cases es; rfl
        · cases es
      · cases es
    · rw [sg_314 (by show 300 + k = 314; omega)] at es
      split at es
      · split at es
        · cases es; rfl
        · cases es
      · cases es
  rw [e0]
  unfold kPl
  exact q_f (N 9 (by decide) (by omega)) (q_f (N 13 (by decide) (by omega)) (q_t C.1.1 (u_tk3 C I1 hl isT_127 fun K9 z9 r9 I9 => u_np (ux_r I9))))
end VPL
