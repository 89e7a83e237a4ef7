/-! THE CLASS CHECKS: the start -/
section XSTA
variable {h0 h h' r : pm_H} {n b mm lo hi : Nat} {B : Nat → Nat} {M : tMd} {i : Nat}
theorem hX_mod (X : hX r n b mm lo hi B M) (T : vTy M) (hi' : i < M.1.length) : ∃ s, fX7_shape r mm (Int32.ofNat i) = some (s, r) ∧ shP r lo hi s (M.1[i]).1 (M.1[i]).2 := by
  have T1 := T.1
  obtain ⟨x, x1, x2, x3, x4, x5, x6, x7⟩ := X.2.1.1 (by decide)
  obtain ⟨⟨s, s1, s2, s3⟩, t, t1, t2, t3⟩ := x7 i _ (List.getElem?_eq_getElem hi')
  have st : s = t := by rw [s1] at t1; exact Option.some.inj t1
  subst st
  have g := T.2 _ (List.getElem_mem hi')
  have nb : bigT M.1[i] = false := by
    unfold bigT
    rw [decide_eq_false (Nat.not_lt.mpr g.2.1), decide_eq_false (Nat.not_lt.mpr g.2.2)]
    rfl
  obtain ⟨z1, z2, z3, z4, z5⟩ := s3 nb
  have g1 := g.2.1
  have g2 := g.2.2
  refine ⟨s, ?_, ⟨s2, by omega, by omega, .inl ⟨by omega, t3⟩, fun j hj => z4 j _ (gt_e hj)⟩, ⟨s2, by omega, by omega, .inl ⟨by omega, t3⟩, fun j hj => z5 j _ (gt_e hj)⟩, z2, z3⟩
  unfold fX7_shape fX7_shape_b0 fX7_shape_b25
  refine e9_f (by rw [n3_0, nn_lt (by omega) (by decide)]; omega) (e9_t X.1.2.2.1 (e9_b x1 (e9_t x4 (e9_f (by rw [x5, nn_le (by omega) (by omega)]; omega) (e9_t (by rw [x5, nn_in (by omega)]; exact hi') ?_)))))
  rw [nn_cm (by omega)]
  exact e9_b s1 rfl
theorem hX_shf (X : hX r n b mm lo hi B M) (T : vTy M) {a : tImp} (ha : (spF M)[i]? = some a) (ht : a.2.1 < M.1.length) : ∃ s, fX7_shapeOfFunction r mm (Int32.ofNat i) = some (s, r) ∧ shP r lo hi s (M.1[a.2.1]).1 (M.1[a.2.1]).2 := by
  have T1 := T.1
  have km := X.1.2.2.1
  obtain ⟨x, -, e1, pe⟩ := m_of (k := 0) km (by decide) (X.2.1.2.2.1 (by decide)) (some_lt ha) (show 1 < 6 by decide)
  obtain ⟨-, q, -⟩ := pe a ha
  obtain ⟨s, e2, P⟩ := hX_mod X T ht
  refine ⟨s, ?_, P⟩
  unfold fX7_shapeOfFunction fX7_shapeOfFunction_b0
  refine e9_t km (e9_b e1 ?_)
  rw [q, ll_t3]
  exact e9_b e2 rfl
/-- is the start right? (where all types are there) -/
theorem x_sta (X : hX h0 n b mm lo hi B M) (T : vTy M) (hF : ∀ f, f ∈ spF M → f.2.1 < M.1.length) (h8 : (M.2.2.2.2.2.2.2.2.2.2.2.2.1 8).isSome = M.2.2.2.2.2.2.2.2.2.2.1.isSome) (u8 : ∀ x, M.2.2.2.2.2.2.2.2.2.2.2.2.1 8 = some x → x < 2147483648) (us : ∀ x, M.2.2.2.2.2.2.2.2.2.2.1 = some x → x < 4294967296) (S : hS h0 none r) : ∃ r', fX1_startIsRight r 22 = some r' ∧ hS h0 (if stB M = true then some (25, sS M 8) else none) r' := by
  have Xr := hX_F X S.1
  obtain ⟨s1, cc, ⟨q1, q2, q3⟩, -⟩ := id Xr
  have km := s1.2.2.1
  have Af := cc.2.2.1 (by decide)
  obtain ⟨-, -, -, -, -, -, -, -, -, -, l13, -, d1, d2, d3, d4, d5⟩ := id cc
  have it : fX12_item r lo 8 = some (on3 (M.2.2.2.2.2.2.2.2.2.2.2.2.1 8)) := by
    rw [← d5 8 (by decide) (by decide)]
    exact it_v (k := 8) d3 (by omega) (by omega)
  obtain ⟨rf, ef, Sf⟩ := x_fs (w := 25) (id := 8) X S ⟨by decide, by decide⟩ ⟨by decide, by decide⟩
  unfold stB
  cases es : M.2.2.2.2.2.2.2.2.2.2.1 with
  | none =>
    rw [es] at h8
    have n8 : M.2.2.2.2.2.2.2.2.2.2.2.2.1 8 = none := by cases z : M.2.2.2.2.2.2.2.2.2.2.2.2.1 8 with
      | none => rfl
      | some x => rw [z] at h8; cases h8
    rw [n8] at it
    refine ⟨r, ?_, S⟩
    unfold fX1_startIsRight fX1_startIsRight_b0
    exact e9_t q1 (e9_b q2 (e9_t km (e9_b d1 (e9_b it (e9_f (show ¬ (0 : Int32) ≤ -1 by decide) rfl)))))
  | some x =>
    rw [es] at h8 l13
    have x32 := us x es
    obtain ⟨y, ey⟩ : ∃ y, M.2.2.2.2.2.2.2.2.2.2.2.2.1 8 = some y := by cases z : M.2.2.2.2.2.2.2.2.2.2.2.2.1 8 with
      | none => rw [z] at h8; cases h8
      | some y => exact ⟨y, rfl⟩
    have y31 := u8 y ey
    rw [ey] at it
    have l13 : pm_L r mm 13 = Int64.ofNat x := l13
    have hs := m_has (k := 0) (i := x) km (by decide) Af (by omega)
    have pre : ∀ {Y : Option pm_H}, (if (if x < (spF M).length then (1 : Int32) else 0) = 0 then ((fX1_failSection r 22 25 8).bind fun v15 => some v15) else ((fX7_shapeOfFunction r mm (Int32.ofNat x)).bind fun v13 => fX1_startIsRight_b58 v13.2 22 v13.1)) = Y → fX1_startIsRight r 22 = Y := fun {Y} h => by
      unfold fX1_startIsRight fX1_startIsRight_b0
      refine e9_t q1 (e9_b q2 (e9_t km (e9_b d1 (e9_b it (e9_t (show (0 : Int32) ≤ Int32.ofNat y by rw [n3_0, nn_le (by decide) y31]; exact Nat.zero_le _) ?_)))))
      rw [l13, ll_t3]
      exact e9_b hs h
    show ∃ r', _ ∧ hS h0 (if (match (spF M)[x]? with
      | none => true
      | some f => decide (0 < (M.1.getD f.2.1 ([], [])).1.length + (M.1.getD f.2.1 ([], [])).2.length)) = true then some (25, sS M 8) else none) r'
    cases ef2 : (spF M)[x]? with
    | none =>
      refine ⟨rf, pre (e9_t ?_ (e9_b ef rfl)), Sf⟩
      rw [if_neg (Nat.not_lt.mpr (List.getElem?_eq_none_iff.mp ef2))]
    | some f =>
      have ht := hF f (List.mem_of_getElem? ef2)
      obtain ⟨s, e2, P⟩ := hX_shf Xr T ef2 ht
      have gD : M.1.getD f.2.1 ([], []) = M.1[f.2.1] := by rw [List.getD_eq_getElem?_getD, List.getElem?_eq_getElem ht]; rfl
      show ∃ r', _ ∧ hS h0 (if decide (0 < (M.1.getD f.2.1 ([], [])).1.length + (M.1.getD f.2.1 ([], [])).2.length) = true then some (25, sS M 8) else none) r'
      rw [gD]
      have g := T.2 _ (List.getElem_mem ht)
      have g1 := g.2.1
      have g2 := g.2.2
      have some0 : ¬ (if x < (spF M).length then (1 : Int32) else 0) = 0 := by rw [if_pos (some_lt ef2)]; decide
      have i0 := sh_i0 P
      have i1 := sh_i1 P
      by_cases c : (M.1[f.2.1]).1.length = 0
      · by_cases d : (M.1[f.2.1]).2.length = 0
        · rw [decide_eq_false (by omega), if_neg (by decide)]
          refine ⟨r, pre (e9_f some0 (e9_b e2 ?_)), S⟩
          unfold fX1_startIsRight_b58
          exact e9_b i0 (e9_t (by rw [c]; rfl) (e9_b i1 (e9_t (by rw [d]; rfl) rfl)))
        · rw [decide_eq_true (by omega), if_pos rfl]
          refine ⟨rf, pre (e9_f some0 (e9_b e2 ?_)), Sf⟩
          unfold fX1_startIsRight_b58
          exact e9_b i0 (e9_t (by rw [c]; rfl) (e9_b i1 (e9_f (by rw [n3_0, nn_eq (by omega) (by decide)]; exact d) (e9_t q1 (e9_b ef rfl)))))
      · rw [decide_eq_true (by omega), if_pos rfl]
        refine ⟨rf, pre (e9_f some0 (e9_b e2 ?_)), Sf⟩
        unfold fX1_startIsRight_b58
        exact e9_b i0 (e9_f (by rw [n3_0, nn_eq (by omega) (by decide)]; exact c) (e9_t q1 (e9_b ef rfl)))
end XSTA
