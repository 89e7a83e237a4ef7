/-! THE CLASS CHECKS: the clauses in a row, up to the bodies -/
def sp_ck0 (B : Nat → Nat) (n : Nat) (D : Bool) (M : tMd) : Option (Nat × Nat) := oE ((sp_hdC B M).map fun w => (w.1, sS M w.2)) (oE (oU (sp_gls B n D M M.2.2.2.2.2.1)) (oE (oU (sp_els B n D M M.2.2.2.2.2.2.2.1)) (oU (sp_das B n D M M.2.2.2.2.2.2.2.2.1))))
theorem chk_e (B : Nat → Nat) (n : Nat) (D : Bool) (M : tMd) : sp_chk B n D M = match M.2.2.2.2.2.2.2.2.2.2.2.2.2 with
  | some pl => .inl (40, pl)
  | none => match sp_ck0 B n D M with
    | some w => .inl w
    | none => sp_bds B n D M (dCl B n D M) M.2.2.1 M.2.2.2.2.2.2.2.2.2.1 := by
  unfold sp_chk sp_ck0
  cases M.2.2.2.2.2.2.2.2.2.2.2.2.2 with
  | some pl => rfl
  | none =>
    cases sp_hdC B M with
    | some w => rfl
    | none =>
      cases sp_gls B n D M M.2.2.2.2.2.1 with
      | inl w => rfl
      | inr z =>
        cases sp_els B n D M M.2.2.2.2.2.2.2.1 with
        | inl w => rfl
        | inr z =>
          cases sp_das B n D M M.2.2.2.2.2.2.2.2.1 with
          | inl w => rfl
          | inr z => rfl
/-- what is told without expressions, clause by clause -/
theorem hdC_e (B : Nat → Nat) (M : tMd) : (sp_hdC B M).map (fun w => (w.1, sS M w.2)) = oE (oE (if M.2.1.any (fun a => decide (a.1 = 0) && decide (M.1.length ≤ a.2.1)) = true then some (20, sS M 2) else none) (if M.2.2.1.any (fun a => decide (M.1.length ≤ a)) = true then some (20, sS M 3) else none)) (oE (oE (if M.2.1.any (fun a => (decide (a.1 = 1) || decide (a.1 = 2)) && lmB a.2.2.1 a.2.2.2.1 (decide (a.1 = 2))) = true then some (21, sS M 2) else none) (oE (if M.2.2.2.1.any (fun a => lmB a.2.1 a.2.2 false) = true then some (21, sS M 4) else none) (if M.2.2.2.2.1.any (fun a => lmB a.1 a.2 true) = true then some (21, sS M 5) else none))) (oE (if 1 < (spM M).length then some (22, sS M (if isS (M.2.2.2.2.2.2.2.2.2.2.2.2.1 5) = true then 5 else 2)) else none) (oE ((sp_xpC B M [] M.2.2.2.2.2.2.1).map fun w => (w, sS M 7)) (if stB M = true then some (25, sS M 8) else none)))) := by
  unfold sp_hdC
  by_cases c1 : M.2.1.any (fun a => decide (a.1 = 0) && decide (M.1.length ≤ a.2.1)) = true
  · rw [if_pos c1, if_pos c1]; rfl
  rw [if_neg c1, if_neg c1]
  by_cases c2 : M.2.2.1.any (fun a => decide (M.1.length ≤ a)) = true
  · rw [if_pos c2, if_pos c2]; rfl
  rw [if_neg c2, if_neg c2]
  by_cases c3 : M.2.1.any (fun a => (decide (a.1 = 1) || decide (a.1 = 2)) && lmB a.2.2.1 a.2.2.2.1 (decide (a.1 = 2))) = true
  · rw [if_pos c3, if_pos c3]; rfl
  rw [if_neg c3, if_neg c3]
  by_cases c4 : M.2.2.2.1.any (fun a => lmB a.2.1 a.2.2 false) = true
  · rw [if_pos c4, if_pos c4]; rfl
  rw [if_neg c4, if_neg c4]
  by_cases c5 : M.2.2.2.2.1.any (fun a => lmB a.1 a.2 true) = true
  · rw [if_pos c5, if_pos c5]; rfl
  rw [if_neg c5, if_neg c5]
  by_cases c6 : 1 < (spM M).length
  · rw [if_pos c6, if_pos c6]; rfl
  rw [if_neg c6, if_neg c6]
  cases sp_xpC B M [] M.2.2.2.2.2.2.1 with
  | some w => rfl
  | none =>
    by_cases c7 : stB M = true
    · show Option.map _ (if stB M = true then some (25, 8) else none) = oE none (oE none (oE none (oE none (if stB M = true then some (25, sS M 8) else none))))
      rw [if_pos c7, if_pos c7]; rfl
    · show Option.map _ (if stB M = true then some (25, 8) else none) = oE none (oE none (oE none (oE none (if stB M = true then some (25, sS M 8) else none))))
      rw [if_neg c7, if_neg c7]; rfl
section XROW
variable {h0 h h' r r' : pm_H} {n b mm lo hi dd p p2 e ty nf : Nat} {B : Nat → Nat} {M : tMd} {D : Bool} {o q : Option (Nat × Nat)} {L L' : List Nat}
theorem yS_g (X : yC h0 n b mm lo hi dd B M D) (S : yS h0 dd nf none L r) (H : hS r o r') : yS h0 dd nf o L r' := by
  have d22 : dd ≠ 22 := by obtain ⟨⟨-, -, -, a1, a2, a3, a4⟩, -, hd, -⟩ := X; omega
  obtain ⟨F, H⟩ := H
  refine ⟨gF_t S.1 (eF_f F), ?_⟩
  cases o with
  | none => exact ⟨H, fun i hi => by rw [F.2.2.2.2.1 dd i (by omega)]; exact S.2.2 i hi⟩
  | some w => exact H
/-- a clause, where no fault was told before -/
theorem y_cl1 {f : pm_H → Nat → Option pm_H} {nx : pm_H → Option pm_H} (X : yC h0 n b mm lo hi dd B M D) (S : yS h0 dd nf o L r) (H : o = none → ∃ r', f r 22 = some r' ∧ yS h0 dd nf q L' r') : ∃ r', yS h0 dd nf (oE o q) L' r' ∧ ∀ {Y : Option pm_H}, nx r' = Y → (if pm_kd r 22 = 1 then if pm_I r 22 0 = 0 then ((f r 22).bind fun v => nx v) else (nx r) else none) = Y := by
  have q1 := (yC_F X S.1).1.2.2.1.1
  cases o with
  | none =>
    obtain ⟨r', e, S'⟩ := H rfl
    exact ⟨r', S', fun {Y} h => e9_t q1 (e9_t S.2.1 (e9_b e h))⟩
  | some w =>
    have z1 : 0 < w.1 ∧ w.1 < 100 := S.2.1
    have z2 : pm_I r 22 0 = Int32.ofNat w.1 := S.2.2.1
    exact ⟨r, S, fun {Y} h => e9_t q1 (e9_f (by rw [z2, n3_0, nn_eq (by omega) (by decide)]; omega) h)⟩
theorem dAll_m {x : Nat} : x ∈ xpD M.2.2.2.2.2.2.1 ++ glD B n D M.2.2.2.2.2.1 ++ elDs B n D M.2.2.2.2.2.2.2.1 ↔ x ∈ dAll B n D M := by
  unfold dAll glD elDs xpD
  have : x ∈ M.2.2.2.2.2.2.2.1.flatMap (fun a => elD B n D a) ↔ x ∈ M.2.2.2.2.2.2.2.1.flatMap (fun a => dcE B n D a) := by
    rw [List.mem_flatMap, List.mem_flatMap]
    exact ⟨fun ⟨a, h1, h2⟩ => ⟨a, h1, (elD_m x).mp h2⟩, fun ⟨a, h1, h2⟩ => ⟨a, h1, (elD_m x).mpr h2⟩⟩
  rw [List.mem_append, List.mem_append, List.mem_append, List.mem_append, this]
  constructor
  · rintro ((h | h) | h)
    · exact .inr h
    · exact .inl (.inl h)
    · exact .inl (.inr h)
  · rintro ((h | h) | h)
    · exact .inl (.inr h)
    · exact .inr h
    · exact .inl (.inl h)
theorem oE_nn {o q : Option (Nat × Nat)} (h : oE o q = none) : o = none ∧ q = none := by
  cases o with
  | none => exact ⟨rfl, h⟩
  | some w => cases h
theorem hF_of (h1 : M.2.1.any (fun a => decide (a.1 = 0) && decide (M.1.length ≤ a.2.1)) = false) (h2 : M.2.2.1.any (fun a => decide (M.1.length ≤ a)) = false) : ∀ f, f ∈ spF M → f.2.1 < M.1.length := fun f hf => by
  rcases List.mem_append.mp (show f ∈ ofK 0 M.2.1 ++ M.2.2.1.map _ from hf) with z | z
  · have mm := List.mem_filter.mp (show f ∈ M.2.1.filter _ from z)
    have := anyE_f h1 f mm.1
    rw [mm.2, Bool.true_and] at this
    exact Nat.not_le.mp (of_decide_eq_false this)
  · obtain ⟨x, hx, e⟩ := List.mem_map.mp z
    rw [← e]
    exact Nat.not_le.mp (of_decide_eq_false (anyE_f h2 x hx))
theorem if_n {c : Prop} {i : Decidable c} {w : Nat × Nat} (h : (@ite _ c i (some w) none) = none) : ¬ c := fun z => by rw [if_pos z] at h; cases h
/-- all clauses but the bodies -/
theorem x_row (X : yC h0 n b mm lo hi dd B M D) (N : hNb h0 n b B) (g : vG B n D M) (g8 : gdS M) (gi : gIv n M) (S : yS h0 dd (spF M).length none [] r) : ∃ r', yS h0 dd (spF M).length (sp_ck0 B n D M) (dAll B n D M) r' ∧ ∀ {Y : Option pm_H}, fX1_check_b125 r' 22 = Y → fX1_check_b37 r 22 = Y := by
  have n4 : n ≤ 40960 := X.1.1.2.2.2.2.2.2.1
  have T := vG_T g
  obtain ⟨gT, gI, gFn', gTb', gMm', gGl', gXp', gEl', gDa', gBo', gSt, -⟩ := g.1
  obtain ⟨i1, i2, i3⟩ := gi
  have hs : hS r none r := ⟨gF_r _ _ r, S.2.1⟩
  obtain ⟨r1, S1, k1⟩ := y_cl1 (f := fX1_typesAreThere) (nx := fun v => fX1_check_b48 v 22) (L' := []) (q := oE (if M.2.1.any (fun a => decide (a.1 = 0) && decide (M.1.length ≤ a.2.1)) = true then some (20, sS M 2) else none) (if M.2.2.1.any (fun a => decide (M.1.length ≤ a)) = true then some (20, sS M 3) else none)) X S (fun _ => by
    obtain ⟨r', e, S'⟩ := x_typ (yC_F X S.1).1 gI gFn' hs
    exact ⟨r', e, yS_g X S S'⟩)
  obtain ⟨o1, eo1⟩ : ∃ o1 : Option (Nat × Nat), o1 = oE (if M.2.1.any (fun a => decide (a.1 = 0) && decide (M.1.length ≤ a.2.1)) = true then some (20, sS M 2) else none) (if M.2.2.1.any (fun a => decide (M.1.length ≤ a)) = true then some (20, sS M 3) else none) := ⟨_, rfl⟩
  have S1 : yS h0 dd (spF M).length o1 [] r1 := by rw [eo1]; exact S1
  obtain ⟨o2, eo2⟩ : ∃ o2 : Option (Nat × Nat), o2 = oE (if M.2.1.any (fun a => (decide (a.1 = 1) || decide (a.1 = 2)) && lmB a.2.2.1 a.2.2.2.1 (decide (a.1 = 2))) = true then some (21, sS M 2) else none) (oE (if M.2.2.2.1.any (fun a => lmB a.2.1 a.2.2 false) = true then some (21, sS M 4) else none) (if M.2.2.2.2.1.any (fun a => lmB a.1 a.2 true) = true then some (21, sS M 5) else none)) := ⟨_, rfl⟩
  obtain ⟨o3, eo3⟩ : ∃ o3 : Option (Nat × Nat), o3 = if 1 < (spM M).length then some (22, sS M (if isS (M.2.2.2.2.2.2.2.2.2.2.2.2.1 5) = true then 5 else 2)) else none := ⟨_, rfl⟩
  obtain ⟨o4, eo4⟩ : ∃ o4 : Option (Nat × Nat), o4 = (sp_xpC B M [] M.2.2.2.2.2.2.1).map fun w => (w, sS M 7) := ⟨_, rfl⟩
  obtain ⟨o5, eo5⟩ : ∃ o5 : Option (Nat × Nat), o5 = if stB M = true then some (25, sS M 8) else none := ⟨_, rfl⟩
  obtain ⟨o6, eo6⟩ : ∃ o6 : Option (Nat × Nat), o6 = oU (sp_gls B n D M M.2.2.2.2.2.1) := ⟨_, rfl⟩
  obtain ⟨o7, eo7⟩ : ∃ o7 : Option (Nat × Nat), o7 = oU (sp_els B n D M M.2.2.2.2.2.2.2.1) := ⟨_, rfl⟩
  obtain ⟨o8, eo8⟩ : ∃ o8 : Option (Nat × Nat), o8 = oU (sp_das B n D M M.2.2.2.2.2.2.2.2.1) := ⟨_, rfl⟩
  have all : sp_ck0 B n D M = oE (oE (oE (oE (oE (oE (oE o1 o2) o3) o4) o5) o6) o7) o8 := by
    unfold sp_ck0
    rw [hdC_e, ← eo1, ← eo2, ← eo3, ← eo4, ← eo5, ← eo6, ← eo7, ← eo8]
    simp only [oE_a]
  obtain ⟨r2, S2, k2⟩ := y_cl1 (f := fX1_limitsAreRight) (nx := fun v => fX1_check_b59 v 22) (L' := []) (q := o2) X S1 (fun z => by
    subst z
    have hs : hS r1 none r1 := ⟨gF_r _ _ r1, S1.2.1⟩
    obtain ⟨r', e, S'⟩ := x_lim (yC_F X S1.1).1 gI (fun a ha => gI2_l (i1 a ha)) (fun a ha => (gTb' a ha).2.1) (fun a ha => (gMm' a ha).1) hs
    rw [eo2]
    exact ⟨r', e, yS_g X S1 S'⟩)
  obtain ⟨r3, S3, k3⟩ := y_cl1 (f := fX1_memoryIsOne) (nx := fun v => fX1_check_b70 v 22) (L' := []) (q := o3) X S2 (fun z => by
    rw [z] at S2
    have hs : hS r2 none r2 := ⟨gF_r _ _ r2, S2.2.1⟩
    obtain ⟨r', e, S'⟩ := x_one (yC_F X S2.1).1 (fun x hx => by have := i2 5 x hx; omega) hs
    rw [eo3]
    exact ⟨r', e, yS_g X S2 S'⟩)
  obtain ⟨r4, S4, k4⟩ := y_cl1 (f := fX1_exportsAreRight) (nx := fun v => fX1_check_b81 v 22) (L' := xpD M.2.2.2.2.2.2.1) (q := o4) X S3 (fun z => by
    rw [z] at S3
    obtain ⟨r', e, S'⟩ := x_xp X N gXp' S3
    rw [eo4]
    exact ⟨r', e, S'⟩)
  obtain ⟨r5, S5, k5⟩ := y_cl1 (f := fX1_startIsRight) (nx := fun v => fX1_check_b92 v 22) (L' := xpD M.2.2.2.2.2.2.1) (q := o5) X S4 (fun z => by
    have z1 := (oE_nn (oE_nn (oE_nn z).1).1).1
    rw [eo1] at z1
    obtain ⟨a1, a2⟩ := oE_nn z1
    have hF := hF_of (Bool.eq_false_iff.mpr (if_n a1)) (Bool.eq_false_iff.mpr (if_n a2))
    rw [z] at S4
    have hs : hS r4 none r4 := ⟨gF_r _ _ r4, S4.2.1⟩
    obtain ⟨r', e, S'⟩ := x_sta (yC_F X S4.1).1 T hF (gdS_8 g8) (fun x hx => by have := i2 8 x hx; omega) (fun x hx => gSt x hx) hs
    rw [eo5]
    exact ⟨r', e, yS_g X S4 S'⟩)
  obtain ⟨r6, S6, k6⟩ := y_cl1 (f := fX1_globalsAreRight) (nx := fun v => fX1_check_b103 v 22) (L' := xpD M.2.2.2.2.2.2.1 ++ glD B n D M.2.2.2.2.2.1) (q := o6) X S5 (fun z => by
    rw [z] at S5
    obtain ⟨r', e, S'⟩ := x_gls X gI gGl' S5
    rw [eo6]
    exact ⟨r', e, S'⟩)
  obtain ⟨r7, S7, k7⟩ := y_cl1 (f := fX1_elementsAreRight) (nx := fun v => fX1_check_b114 v 22) (L' := xpD M.2.2.2.2.2.2.1 ++ glD B n D M.2.2.2.2.2.1 ++ elDs B n D M.2.2.2.2.2.2.2.1) (q := o7) X S6 (fun z => by
    rw [z] at S6
    obtain ⟨r', e, S'⟩ := x_elm X gI gTb' gEl' S6
    rw [eo7]
    exact ⟨r', e, S'⟩)
  obtain ⟨r8, S8, k8⟩ := y_cl1 (f := fX1_dataAreRight) (nx := fun v => fX1_check_b125 v 22) (L' := xpD M.2.2.2.2.2.2.1 ++ glD B n D M.2.2.2.2.2.1 ++ elDs B n D M.2.2.2.2.2.2.2.1) (q := o8) X S7 (fun z => by
    rw [z] at S7
    obtain ⟨r', e, S'⟩ := x_das X gI gDa' S7
    rw [eo8]
    exact ⟨r', e, S'⟩)
  rw [← all] at S8
  refine ⟨r8, yS_m S8 (fun _ i => dAll_m), fun {Y} h => ?_⟩
  unfold fX1_check_b37
  refine k1 ?_
  show fX1_check_b48 r1 22 = Y
  unfold fX1_check_b48
  refine k2 ?_
  show fX1_check_b59 r2 22 = Y
  unfold fX1_check_b59
  refine k3 ?_
  show fX1_check_b70 r3 22 = Y
  unfold fX1_check_b70
  refine k4 ?_
  show fX1_check_b81 r4 22 = Y
  unfold fX1_check_b81
  refine k5 ?_
  show fX1_check_b92 r5 22 = Y
  unfold fX1_check_b92
  refine k6 ?_
  show fX1_check_b103 r6 22 = Y
  unfold fX1_check_b103
  refine k7 ?_
  show fX1_check_b114 r7 22 = Y
  unfold fX1_check_b114
  exact k8 h
end XROW
