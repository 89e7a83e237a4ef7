/-! THE CLASS CHECKS: limits of tables and memories -/
section XLM2
variable {h0 h h' r : pm_H} {n b mm lo hi id w x m : Nat} {B : Nat → Nat} {M : tMd} {o : Option (Nat × Nat)}
theorem t_own {i : Nat} {t : tTb} (ht : M.2.2.2.1[i]? = some t) : (spT M)[(ofK 1 M.2.1).length + i]? = some (1, t.1, t.2.1, t.2.2, 0) := by
  unfold spT
  rw [List.getElem?_append_right (Nat.le_add_right _ _), Nat.add_sub_cancel_left, List.getElem?_map, ht]
  rfl
theorem t_len : (spT M).length = (ofK 1 M.2.1).length + M.2.2.2.1.length := by
  unfold spT
  rw [List.length_append, List.length_map]
theorem x_li2 (X : hX h0 n b mm lo hi B M) (gI : ∀ a, a ∈ M.2.1 → gImp a) (g2 : ∀ a, a ∈ M.2.2.2.1 → a.2.1 < 4294967296) : ∀ (j m : Nat) {o : Option (Nat × Nat)} {r : pm_H}, m + j = M.2.2.2.1.length → hS h0 o r → ∃ r', pm_lim sX1_limitsAreRight (.inr (.inl (22, Int32.ofNat ((ofK 1 M.2.1).length + m), r))) = pm_lim sX1_limitsAreRight (.inr (.inr (22, Int32.ofNat (ofK 2 M.2.1).length, r'))) ∧ hS h0 (oE o (if (M.2.2.2.1.drop m).any (fun a => lmB a.2.1 a.2.2 false) = true then some (21, sS M 4) else none)) r' := by
  intro j
  induction j with
  | zero =>
    intro m o r hm S
    obtain ⟨s1, cc, ⟨q1, q2, q3⟩, -⟩ := hX_F X S.1
    have Af := cc.2.2.2.1 (by decide)
    have im := m_imp (k := 2) s1.2.2.1 (cc.2.1 (by decide)) (by decide) (fun x hx => by have := (gI x hx).1; omega)
    have l8 : (spT M).length ≤ 81920 := by obtain ⟨x, -, -, -, -, -, a, -⟩ := Af; exact a
    have cn := m_cnt (k := 1) s1.2.2.1 (by decide) Af
    have fl := t_len (M := M)
    rw [List.drop_eq_nil_of_le (by omega)]
    refine ⟨r, k_w (aX1_limitsAreRight_1 ..) ?_, by rw [show (([] : List tTb).any _) = false from rfl, if_neg (by decide), oE_n]; exact S⟩
    unfold tX1_limitsAreRight_50
    exact k_t q1 (k_b q2 (k_t s1.2.2.1 (k_b cn (k_t (by rw [nn_le (by omega) (by omega)]; omega) (k_b im rfl)))))
  | succ j ih =>
    intro m o r hm S
    obtain ⟨s1, cc, ⟨q1, q2, q3⟩, -⟩ := hX_F X S.1
    have Af := cc.2.2.2.1 (by decide)
    have l8 : (spT M).length ≤ 81920 := by obtain ⟨x, -, -, -, -, -, a, -⟩ := Af; exact a
    have cn := m_cnt (k := 1) s1.2.2.1 (by decide) Af
    have fl := t_len (M := M)
    obtain ⟨x, a1, a2, a3, a4, a5, a6, a7⟩ := Af
    have ml : m < M.2.2.2.1.length := by omega
    have ge : M.2.2.2.1[m]? = some M.2.2.2.1[m] := List.getElem?_eq_getElem ml
    have gm := g2 _ (List.getElem_mem ml)
    have dr : M.2.2.2.1.drop m = M.2.2.2.1[m] :: M.2.2.2.1.drop (m + 1) := List.drop_eq_getElem_cons ml
    have own := t_own ge
    obtain ⟨mx, me⟩ := List.getElem?_eq_some_iff.mp own
    have li := x_lmt a4 a5 a6 mx (by have := a7 _ _ own; rw [me]; exact this) (by rw [me]; exact gm) (by rw [me]; show 1 < 4; decide)
    rw [me] at li
    have st : Int32.ofNat ((ofK 1 M.2.1).length + m) + 1 = Int32.ofNat ((ofK 1 M.2.1).length + (m + 1)) := nn_ad _ 1
    have six : Int32.ofNat ((ofK 1 M.2.1).length + m) * 6 = Int32.ofNat (((ofK 1 M.2.1).length + m) * 6) := by rw [show (6 : Int32) = Int32.ofNat 6 from rfl, nn_ml]
    have li : fX1_isLimited r x (Int32.ofNat ((ofK 1 M.2.1).length + m) * 6) = some (iN (!(fun a : tTb => lmB a.2.1 a.2.2 false) M.2.2.2.1[m])) := by rw [six]; exact li
    rw [dr]
    cases e : (fun a : tTb => lmB a.2.1 a.2.2 false) M.2.2.2.1[m] with
    | true =>
      rw [e] at li
      obtain ⟨r1, g1, S1⟩ := x_fs (w := 21) (id := 4) X S ⟨by decide, by decide⟩ ⟨by decide, by decide⟩
      obtain ⟨r2, g2, S2⟩ := ih (m + 1) (by omega) S1
      refine ⟨r2, k_w (aX1_limitsAreRight_1 ..) ?_, ?_⟩
      · unfold tX1_limitsAreRight_50
        refine k_t q1 (k_b q2 (k_t s1.2.2.1 (k_b cn (k_f (by rw [nn_le (by omega) (by omega)]; omega) (k_b a1 (k_b li (k_t rfl (k_b g1 (k_l ?_)))))))))
        rw [st]
        exact k_n g2
      · rw [List.any_cons]
        show hS h0 (oE o (if ((fun a : tTb => lmB a.2.1 a.2.2 false) M.2.2.2.1[m] || _) = true then _ else none)) r2
        rw [e, Bool.true_or, if_pos rfl]
        rw [oE_a] at S2
        exact S2
    | false =>
      rw [e] at li
      obtain ⟨r2, g2, S2⟩ := ih (m + 1) (by omega) S
      refine ⟨r2, k_w (aX1_limitsAreRight_1 ..) ?_, ?_⟩
      · unfold tX1_limitsAreRight_50
        refine k_t q1 (k_b q2 (k_t s1.2.2.1 (k_b cn (k_f (by rw [nn_le (by omega) (by omega)]; omega) (k_b a1 (k_b li (k_f (by decide) (k_l ?_))))))))
        rw [st]
        exact k_n g2
      · rw [List.any_cons]
        show hS h0 (oE o (if ((fun a : tTb => lmB a.2.1 a.2.2 false) M.2.2.2.1[m] || _) = true then _ else none)) r2
        rw [e, Bool.false_or]
        exact S2
theorem u_own {i : Nat} {t : tMm} (ht : M.2.2.2.2.1[i]? = some t) : (spM M)[(ofK 2 M.2.1).length + i]? = some (2, 0, t.1, t.2, 0) := by
  unfold spM
  rw [List.getElem?_append_right (Nat.le_add_right _ _), Nat.add_sub_cancel_left, List.getElem?_map, ht]
  rfl
theorem u_len : (spM M).length = (ofK 2 M.2.1).length + M.2.2.2.2.1.length := by
  unfold spM
  rw [List.length_append, List.length_map]
theorem x_li3 (X : hX h0 n b mm lo hi B M) (gI : ∀ a, a ∈ M.2.1 → gImp a) (g2 : ∀ a, a ∈ M.2.2.2.2.1 → a.1 < 4294967296) : ∀ (j m : Nat) {o : Option (Nat × Nat)} {r : pm_H}, m + j = M.2.2.2.2.1.length → hS h0 o r → ∃ r', pm_lim sX1_limitsAreRight (.inr (.inr (22, Int32.ofNat ((ofK 2 M.2.1).length + m), r))) = some r' ∧ hS h0 (oE o (if (M.2.2.2.2.1.drop m).any (fun a => lmB a.1 a.2 true) = true then some (21, sS M 5) else none)) r' := by
  intro j
  induction j with
  | zero =>
    intro m o r hm S
    obtain ⟨s1, cc, ⟨q1, q2, q3⟩, -⟩ := hX_F X S.1
    have Af := cc.2.2.2.2.1 (by decide)
    have im := m_imp (k := 2) s1.2.2.1 (cc.2.1 (by decide)) (by decide) (fun x hx => by have := (gI x hx).1; omega)
    have l8 : (spM M).length ≤ 81920 := by obtain ⟨x, -, -, -, -, -, a, -⟩ := Af; exact a
    have cn := m_cnt (k := 2) s1.2.2.1 (by decide) Af
    have fl := u_len (M := M)
    rw [List.drop_eq_nil_of_le (by omega)]
    refine ⟨r, k_w (aX1_limitsAreRight_2 ..) ?_, by rw [show (([] : List tMm).any _) = false from rfl, if_neg (by decide), oE_n]; exact S⟩
    unfold tX1_limitsAreRight_101
    exact k_t q1 (k_b q2 (k_t s1.2.2.1 (k_b cn (k_t (by rw [nn_le (by omega) (by omega)]; omega) rfl))))
  | succ j ih =>
    intro m o r hm S
    obtain ⟨s1, cc, ⟨q1, q2, q3⟩, -⟩ := hX_F X S.1
    have Af := cc.2.2.2.2.1 (by decide)
    have l8 : (spM M).length ≤ 81920 := by obtain ⟨x, -, -, -, -, -, a, -⟩ := Af; exact a
    have cn := m_cnt (k := 2) s1.2.2.1 (by decide) Af
    have fl := u_len (M := M)
    obtain ⟨x, a1, a2, a3, a4, a5, a6, a7⟩ := Af
    have ml : m < M.2.2.2.2.1.length := by omega
    have ge : M.2.2.2.2.1[m]? = some M.2.2.2.2.1[m] := List.getElem?_eq_getElem ml
    have gm := g2 _ (List.getElem_mem ml)
    have dr : M.2.2.2.2.1.drop m = M.2.2.2.2.1[m] :: M.2.2.2.2.1.drop (m + 1) := List.drop_eq_getElem_cons ml
    have own := u_own ge
    obtain ⟨mx, me⟩ := List.getElem?_eq_some_iff.mp own
    have li := x_lmt a4 a5 a6 mx (by have := a7 _ _ own; rw [me]; exact this) (by rw [me]; exact gm) (by rw [me]; show 2 < 4; decide)
    rw [me] at li
    have st : Int32.ofNat ((ofK 2 M.2.1).length + m) + 1 = Int32.ofNat ((ofK 2 M.2.1).length + (m + 1)) := nn_ad _ 1
    have six : Int32.ofNat ((ofK 2 M.2.1).length + m) * 6 = Int32.ofNat (((ofK 2 M.2.1).length + m) * 6) := by rw [show (6 : Int32) = Int32.ofNat 6 from rfl, nn_ml]
    have li : fX1_isLimited r x (Int32.ofNat ((ofK 2 M.2.1).length + m) * 6) = some (iN (!(fun a : tMm => lmB a.1 a.2 true) M.2.2.2.2.1[m])) := by rw [six]; exact li
    rw [dr]
    cases e : (fun a : tMm => lmB a.1 a.2 true) M.2.2.2.2.1[m] with
    | true =>
      rw [e] at li
      obtain ⟨r1, g1, S1⟩ := x_fs (w := 21) (id := 5) X S ⟨by decide, by decide⟩ ⟨by decide, by decide⟩
      obtain ⟨r2, g2, S2⟩ := ih (m + 1) (by omega) S1
      refine ⟨r2, k_w (aX1_limitsAreRight_2 ..) ?_, ?_⟩
      · unfold tX1_limitsAreRight_101
        refine k_t q1 (k_b q2 (k_t s1.2.2.1 (k_b cn (k_f (by rw [nn_le (by omega) (by omega)]; omega) (k_b a1 (k_b li (k_t rfl (k_b g1 (k_l ?_)))))))))
        rw [st]
        exact k_n g2
      · rw [List.any_cons]
        show hS h0 (oE o (if ((fun a : tMm => lmB a.1 a.2 true) M.2.2.2.2.1[m] || _) = true then _ else none)) r2
        rw [e, Bool.true_or, if_pos rfl]
        rw [oE_a] at S2
        exact S2
    | false =>
      rw [e] at li
      obtain ⟨r2, g2, S2⟩ := ih (m + 1) (by omega) S
      refine ⟨r2, k_w (aX1_limitsAreRight_2 ..) ?_, ?_⟩
      · unfold tX1_limitsAreRight_101
        refine k_t q1 (k_b q2 (k_t s1.2.2.1 (k_b cn (k_f (by rw [nn_le (by omega) (by omega)]; omega) (k_b a1 (k_b li (k_f (by decide) (k_l ?_))))))))
        rw [st]
        exact k_n g2
      · rw [List.any_cons]
        show hS h0 (oE o (if ((fun a : tMm => lmB a.1 a.2 true) M.2.2.2.2.1[m] || _) = true then _ else none)) r2
        rw [e, Bool.false_or]
        exact S2
/-- are all limits right? -/
theorem x_lim (X : hX h0 n b mm lo hi B M) (gI : ∀ a, a ∈ M.2.1 → gImp a) (hI : ∀ a, a ∈ M.2.1 → a.1 ≠ 1 → a.1 ≠ 2 → lmB a.2.2.1 a.2.2.2.1 false = false) (gT : ∀ a, a ∈ M.2.2.2.1 → a.2.1 < 4294967296) (gM : ∀ a, a ∈ M.2.2.2.2.1 → a.1 < 4294967296) (S : hS h0 o r) : ∃ r', fX1_limitsAreRight r 22 = some r' ∧ hS h0 (oE o (oE (if M.2.1.any (fun a => (decide (a.1 = 1) || decide (a.1 = 2)) && lmB a.2.2.1 a.2.2.2.1 (decide (a.1 = 2))) = true then some (21, sS M 2) else none) (oE (if M.2.2.2.1.any (fun a => lmB a.2.1 a.2.2 false) = true then some (21, sS M 4) else none) (if M.2.2.2.2.1.any (fun a => lmB a.1 a.2 true) = true then some (21, sS M 5) else none)))) r' := by
  obtain ⟨r1, e1, S1⟩ := x_li1 X gI hI M.2.1.length 0 (Nat.zero_add _) S
  obtain ⟨r2, e2, S2⟩ := x_li2 X gI gT M.2.2.2.1.length 0 (Nat.zero_add _) S1
  obtain ⟨r3, e3, S3⟩ := x_li3 X gI gM M.2.2.2.2.1.length 0 (Nat.zero_add _) S2
  rw [Nat.add_zero] at e2 e3
  rw [List.drop_zero, List.drop_zero, List.drop_zero, oE_a, oE_a] at S3
  refine ⟨r3, ?_, S3⟩
  unfold fX1_limitsAreRight
  exact e1.trans (e2.trans e3)
end XLM2
