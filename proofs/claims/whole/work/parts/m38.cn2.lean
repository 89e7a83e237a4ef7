/-! THE CLASS CHECKS: a constant expression whole; globals -/
def oU {α : Type} (o : sp_O α) : Option (Nat × Nat) := match o with
  | .inl w => some w
  | .inr _ => none
section XCN2
variable {h0 h h' r : pm_H} {n b mm lo hi dd p p2 e ty nf : Nat} {B : Nat → Nat} {M : tMd} {D : Bool} {o : Option (Nat × Nat)} {L L' : List Nat} {v : sp_I} {w : Nat × Nat}
theorem y_df (X : yC h0 n b mm lo hi dd B M D) (S : yS h0 dd nf (some w) L r) (x : Int32) : fX1_fail r 22 x = some r := by
  have z1 : 0 < w.1 ∧ w.1 < 100 := S.2.1
  have z2 : pm_I r 22 0 = Int32.ofNat w.1 := S.2.2.1
  unfold fX1_fail
  exact e9_t (yC_F X S.1).1.2.2.1.1 (e9_f (by rw [z2, n3_0, nn_eq (by omega) (by decide)]; omega) rfl)
theorem y_da (X : yC h0 n b mm lo hi dd B M D) (S : yS h0 dd nf (some w) L r) (x y : Int32) : fX1_failAt r 22 x y = some r := by
  have z1 : 0 < w.1 ∧ w.1 < 100 := S.2.1
  have z2 : pm_I r 22 0 = Int32.ofNat w.1 := S.2.2.1
  unfold fX1_failAt
  exact e9_t (yC_F X S.1).1.2.2.1.1 (e9_f (by rw [z2, n3_0, nn_eq (by omega) (by decide)]; omega) rfl)
/-- the end, where a fault was told -/
theorem y_d145 (X : yC h0 n b mm lo hi dd B M D) (S : yS h0 dd nf (some w) L r) (t k g m : Int32) : pm_lim sX1_constant (.inr (.inl (22, t, k, g, m, r))) = some r := by
  have q1 := (yC_F X S.1).1.2.2.1.1
  have f := y_df X S 27
  refine k_w (aX1_constant_1 ..) ?_
  unfold tX1_constant_145
  by_cases c : m < 0
  · refine k_t c ?_
    by_cases d : k = 1
    · refine k_t d ?_
      by_cases e : g = t
      · exact k_t e rfl
      · exact k_f e (k_t q1 (k_b f rfl))
    · exact k_f d (k_t q1 (k_b f rfl))
  · refine k_f c (k_t q1 (k_b (y_da X S 28 m) ?_))
    by_cases d : k = 1
    · refine k_t d ?_
      by_cases e : g = t
      · exact k_t e rfl
      · exact k_f e (k_t q1 (k_b f rfl))
    · exact k_f d (k_t q1 (k_b f rfl))
theorem y_out (X : yC h0 n b mm lo hi dd B M D) (S : yS h0 dd nf (some w) L r) (t k g m i : Int32) : pm_lim sX1_constant (.inl (22, t, k, g, m, i, r)) = some r := by
  obtain ⟨⟨s1, s2, s3, s4, s5, s6, s7, -⟩, -, ⟨q1, q2, q3⟩, -⟩ := (yC_F X S.1).1
  have z1 : 0 < w.1 ∧ w.1 < 100 := S.2.1
  have z2 : pm_I r 22 0 = Int32.ofNat w.1 := S.2.2.1
  refine k_w (aX1_constant_0 ..) ?_
  unfold tX1_constant_10
  refine k_t q1 (k_b q2 (k_t s3 (k_b s4 (k_t s5 ?_))))
  by_cases d : Int32.ofNat (pm_ln r b) < i
  · exact k_t d (k_n (y_d145 X S ..))
  · exact k_f d (k_f (by rw [z2, n3_0, nn_eq (by omega) (by decide)]; omega) (k_n (y_d145 X S ..)))
/-- a constant expression -/
theorem y_con (X : yC h0 n b mm lo hi dd B M D) (gI : ∀ a, a ∈ M.2.1 → gImp a) (ht : ty < 256) (E : o = none → eY B n D 0 p e) (S : yS h0 dd (spF M).length o L r) (R : o = none → yR r n p) : ∃ r', fX1_constant r 22 (Int32.ofNat ty) = some r' ∧ yS h0 dd (spF M).length (oE o (oU (sp_con B n D M p ty))) (L ++ (dEx B n D p).1) r' ∧ (oE o (oU (sp_con B n D M p ty)) = none → yR r' n e ∧ (dEx B n D p).2 = e ∧ sp_con B n D M p ty = .inr ((), e)) := by
  cases o with
  | some w => exact ⟨r, y_out X S .., S, fun h => by cases h⟩
  | none =>
    have n4 : n ≤ 40960 := (yC_F X S.1).1.1.2.2.2.2.2.2.1
    have I := y_cl (ty := ty) (mis := none) X gI (n + 1) p 0 0 0 (E rfl) (by omega) (Nat.zero_le p) (fun _ h => by cases h) S (R rfl)
    show ∃ r', _ ∧ yS _ _ _ (oU _) _ _ ∧ (oU _ = none → _)
    unfold sp_con
    cases hc : cRun B n D M (n + 1) p 0 0 with
    | inl w =>
      rw [hc] at I
      obtain ⟨k', g', m', r', a1, a2⟩ := I
      exact ⟨r', a1.trans (y_d145 X (a2 []) ..), a2 _, fun h => by cases h⟩
    | inr z =>
      obtain ⟨v, e'⟩ := z
      rw [hc] at I
      obtain ⟨r1, a1, a2, a3, a4, a5, a6, a7, a8, a9⟩ := I
      obtain ⟨k, g, q⟩ := v
      have a7 : k ≤ 0 + (n + 1) := a7
      have a8 : g < 256 := a8 (by decide)
      have q1 := (yC_F X a2.1).1.2.2.1.1
      have c1 : (Int32.ofNat k = 1) = (k = 1) := by rw [show (1 : Int32) = Int32.ofNat 1 from rfl, nn_eq (by omega) (by decide)]
      have c2 : (Int32.ofNat g = Int32.ofNat ty) = (g = ty) := nn_eq (by omega) (by omega)
      cases q with
      | some x =>
        have x31 := a9 x rfl
        obtain ⟨r2, e2, S2, -⟩ := y_fa (w := 28) (p := x) (L' := L ++ (dEx B n D p).1) X a2 ⟨by decide, by decide⟩
        refine ⟨r2, a1.trans (k_w (aX1_constant_1 ..) ?_), S2, fun h => by cases h⟩
        unfold tX1_constant_145
        have f := y_df X S2 27
        have q2 := (yC_F X S2.1).1.2.2.1.1
        refine k_f (show ¬ Int32.ofNat x < Int32.ofNat 0 by rw [nn_lt x31 (by decide)]; omega) (k_t q1 (k_b e2 ?_))
        by_cases d : Int32.ofNat k = 1
        · refine k_t d ?_
          by_cases e : Int32.ofNat g = Int32.ofNat ty
          · exact k_t e rfl
          · exact k_f e (k_t q2 (k_b f rfl))
        · exact k_f d (k_t q2 (k_b f rfl))
      | none =>
        show ∃ r', _ ∧ yS _ _ _ (oU (if k = 1 ∧ g = ty then (.inr ((), e' + 1) : sp_O Unit) else .inl (27, e'))) _ r' ∧ (oU (if k = 1 ∧ g = ty then (.inr ((), e' + 1) : sp_O Unit) else .inl (27, e')) = none → yR r' n e ∧ (dEx B n D p).2 = e ∧ (if k = 1 ∧ g = ty then (.inr ((), e' + 1) : sp_O Unit) else .inl (27, e')) = .inr ((), e))
        by_cases c : k = 1 ∧ g = ty
        · rw [if_pos c]
          refine ⟨r1, a1.trans (k_w (aX1_constant_1 ..) ?_), a2, fun _ => ⟨?_, a5, by rw [a6]⟩⟩
          · unfold tX1_constant_145
            exact k_t (show on3 none < 0 by decide) (k_t (by rw [c1]; exact c.1) (k_t (by rw [c2]; exact c.2) rfl))
          · rw [← a5]; exact a3
        · rw [if_neg c]
          obtain ⟨r2, e2, S2, -⟩ := y_fl (w := 27) (p := e') (L' := L ++ (dEx B n D p).1) X a2 ⟨by decide, by decide⟩ (fun _ => a4)
          refine ⟨r2, a1.trans (k_w (aX1_constant_1 ..) ?_), S2, fun h => by cases h⟩
          unfold tX1_constant_145
          refine k_t (show on3 none < 0 by decide) ?_
          by_cases d : k = 1
          · exact k_t (by rw [c1]; exact d) (k_f (by rw [c2]; exact fun z => c ⟨d, z⟩) (k_t q1 (k_b e2 rfl)))
          · exact k_f (by rw [c1]; exact d) (k_t q1 (k_b e2 rfl))
theorem exR_Y {ob : Bool} (q : exR B n D ob p) : ∃ e, eY B n D 0 p e := by
  obtain ⟨w, e, q⟩ := q
  exact ⟨e, ob, n + 1, [], w, q, rfl⟩
theorem oE_s (o : Option (Nat × Nat)) (h : o ≠ none) (q : Option (Nat × Nat)) : oE o q = o := by
  cases o with
  | none => exact absurd rfl h
  | some w => rfl
theorem oU_b {α β : Type} (x : sp_O α) (k : α → Nat → sp_O β) : oU (sp_b x k) = oE (oU x) (match x with
  | .inl _ => none
  | .inr v => oU (k v.1 v.2)) := by cases x <;> rfl
/-- what globals declare -/
def glD (B : Nat → Nat) (n : Nat) (D : Bool) (l : List tGl) : List Nat := l.flatMap fun a => (dEx B n D a.2.2).1
/-- globals -/
theorem x_gl1 (X : yC h0 n b mm lo hi dd B M D) (gI : ∀ a, a ∈ M.2.1 → gImp a) (g : ∀ a, a ∈ M.2.2.2.2.2.1 → gGl B n D a) : ∀ (m i : Nat) {o : Option (Nat × Nat)} {L : List Nat} {r : pm_H}, i + m = M.2.2.2.2.2.1.length → yS h0 dd (spF M).length o L r → ∃ r', pm_lim sX1_globalsAreRight (22, Int32.ofNat ((ofK 3 M.2.1).length + i), r) = some r' ∧ yS h0 dd (spF M).length (oE o (oU (sp_gls B n D M (M.2.2.2.2.2.1.drop i)))) (L ++ glD B n D (M.2.2.2.2.2.1.drop i)) r' := by
  intro m
  induction m with
  | zero =>
    intro i o L r hi' S
    obtain ⟨s, cc, ⟨q1, q2, q3⟩, -⟩ := (yC_F X S.1).1
    have cn := m_cnt (k := 3) s.2.2.1 (by decide) (cc.2.2.2.2.2.1 (by decide))
    have l8 : (spG M).length ≤ 81920 := by obtain ⟨x, -, -, -, -, -, a, -⟩ := cc.2.2.2.2.2.1 (by decide); exact a
    have lg : (spG M).length = (ofK 3 M.2.1).length + M.2.2.2.2.2.1.length := by unfold spG; rw [List.length_append, List.length_map, List.length_map]
    rw [List.drop_eq_nil_of_le (by omega)]
    refine ⟨r, k_w (aX1_globalsAreRight_0 ..) ?_, by rw [sp_gls]; rw [show oU (.inr ((), 0) : sp_O Unit) = none from rfl, oE_n, show glD B n D [] = [] from rfl, List.append_nil]; exact S⟩
    unfold tX1_globalsAreRight_9
    exact k_t q1 (k_b q2 (k_t s.2.2.1 (k_b cn (k_t (by rw [nn_le (by omega) (by omega)]; omega) rfl))))
  | succ m ih =>
    intro i o L r hi' S
    obtain ⟨s, cc, ⟨q1, q2, q3⟩, -⟩ := (yC_F X S.1).1
    have km := s.2.2.1
    have cn := m_cnt (k := 3) km (by decide) (cc.2.2.2.2.2.1 (by decide))
    have l8 : (spG M).length ≤ 81920 := by obtain ⟨x, -, -, -, -, -, a, -⟩ := cc.2.2.2.2.2.1 (by decide); exact a
    have lg : (spG M).length = (ofK 3 M.2.1).length + M.2.2.2.2.2.1.length := by unfold spG; rw [List.length_append, List.length_map, List.length_map]
    have il : i < M.2.2.2.2.2.1.length := by omega
    have hd : ∀ {o : Option (Nat × Nat)} {L : List Nat} {r : pm_H} {w : Nat × Nat}, o = some w → yS h0 dd (spF M).length o L r → pm_lim sX1_globalsAreRight (22, Int32.ofNat ((ofK 3 M.2.1).length + i), r) = some r := by
      intro o L r w ho S
      subst ho
      obtain ⟨s, cc, ⟨q1, q2, q3⟩, -⟩ := (yC_F X S.1).1
      have cn := m_cnt (k := 3) s.2.2.1 (by decide) (cc.2.2.2.2.2.1 (by decide))
      have z1 : 0 < w.1 ∧ w.1 < 100 := S.2.1
      have z2 : pm_I r 22 0 = Int32.ofNat w.1 := S.2.2.1
      refine k_w (aX1_globalsAreRight_0 ..) ?_
      unfold tX1_globalsAreRight_9
      exact k_t q1 (k_b q2 (k_t s.2.2.1 (k_b cn (k_f (by rw [nn_le (by omega) (by omega)]; omega) (k_f (by rw [z2, n3_0, nn_eq (by omega) (by decide)]; omega) rfl)))))
    cases o with
    | some w => exact ⟨r, hd rfl S, S⟩
    | none =>
      have dr : M.2.2.2.2.2.1.drop i = M.2.2.2.2.2.1[i] :: M.2.2.2.2.2.1.drop (i + 1) := List.drop_eq_getElem_cons il
      obtain ⟨a, ea⟩ : ∃ a, a = M.2.2.2.2.2.1[i] := ⟨_, rfl⟩
      rw [← ea] at dr
      have ha : M.2.2.2.2.2.1[i]? = some a := by rw [ea]; exact List.getElem?_eq_getElem il
      have esp : (spG M)[(ofK 3 M.2.1).length + i]? = some ((3, a.1, 0, -1, a.2.1), a.2.2) := by
        unfold spG
        rw [List.getElem?_append_right (by rw [List.length_map]; exact Nat.le_add_right _ _), List.length_map, Nat.add_sub_cancel_left, List.getElem?_map, ha]
        rfl
      obtain ⟨t1, t2, t3⟩ := g a (List.mem_of_getElem? ha)
      obtain ⟨e, E⟩ := exR_Y t3
      have tt := isT_lt t1
      obtain ⟨x, -, e5, pe⟩ := m_of (k := 3) (j := 5) km (by decide) (cc.2.2.2.2.2.1 (by decide)) (some_lt esp) (by decide)
      obtain ⟨-, -, -, p5⟩ := pe _ esp
      rw [p5] at e5
      obtain ⟨r1, g1, S1, R1⟩ := y_opn (p := a.2.2) X S
      obtain ⟨s', cc', ⟨q1', q2', q3'⟩, -⟩ := (yC_F X S1.1).1
      obtain ⟨x', -, e1, pe'⟩ := m_of (k := 3) (j := 1) s'.2.2.1 (by decide) (cc'.2.2.2.2.2.1 (by decide)) (some_lt esp) (by decide)
      obtain ⟨-, p1, -, -⟩ := pe' _ esp
      rw [p1] at e1
      obtain ⟨r2, g2, S2, -⟩ := y_con (ty := a.1) X gI (by omega) (fun _ => E) S1 (fun _ => R1)
      obtain ⟨r3, g3, S3⟩ := ih (i + 1) (by omega) S2
      refine ⟨r3, k_w (aX1_globalsAreRight_0 ..) ?_, ?_⟩
      · unfold tX1_globalsAreRight_9
        refine k_t q1 (k_b q2 (k_t km (k_b cn (k_f (by rw [nn_le (by omega) (by omega)]; omega) (k_t S.2.1 (k_b q3 (k_b e5 (k_t s.1 ?_))))))))
        rw [ll_t3]
        refine k_b g1 (k_t q1' (k_b q2' (k_t s'.2.2.1 (k_b e1 ?_))))
        rw [ll_t3]
        refine k_b g2 (k_l ?_)
        rw [show Int32.ofNat ((ofK 3 M.2.1).length + i) + 1 = Int32.ofNat ((ofK 3 M.2.1).length + (i + 1)) from nn_ad _ 1]
        exact k_n g3
      · rw [dr, sp_gls, oU_b]
        rw [List.append_assoc] at S3
        have S3 : yS h0 dd (spF M).length (oE (oU (sp_con B n D M a.2.2 a.1)) (oU (sp_gls B n D M (M.2.2.2.2.2.1.drop (i + 1))))) (L ++ glD B n D (a :: M.2.2.2.2.2.1.drop (i + 1))) r3 := S3
        show yS _ _ _ (oE (oU (sp_con B n D M a.2.2 a.1)) _) _ _
        cases hc : sp_con B n D M a.2.2 a.1 with
        | inl w => rw [hc] at S3; exact S3
        | inr z => rw [hc] at S3; exact S3
theorem x_gls (X : yC h0 n b mm lo hi dd B M D) (gI : ∀ a, a ∈ M.2.1 → gImp a) (g : ∀ a, a ∈ M.2.2.2.2.2.1 → gGl B n D a) (S : yS h0 dd (spF M).length o L r) : ∃ r', fX1_globalsAreRight r 22 = some r' ∧ yS h0 dd (spF M).length (oE o (oU (sp_gls B n D M M.2.2.2.2.2.1))) (L ++ glD B n D M.2.2.2.2.2.1) r' := by
  obtain ⟨r', e, S'⟩ := x_gl1 X gI g M.2.2.2.2.2.1.length 0 (Nat.zero_add _) S
  rw [List.drop_zero] at S'
  obtain ⟨s, cc, ⟨q1, q2, q3⟩, -⟩ := (yC_F X S.1).1
  have im := m_imp (k := 3) s.2.2.1 (cc.2.1 (by decide)) (by decide) (fun a ha => by have := (gI a ha).1; omega)
  refine ⟨r', ?_, S'⟩
  unfold fX1_globalsAreRight
  exact e9_t q1 (e9_b q2 (e9_t s.2.2.1 (e9_b im e)))
end XCN2
