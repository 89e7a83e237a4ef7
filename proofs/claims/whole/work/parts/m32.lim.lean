/-! THE CLASS CHECKS: limits -/
theorem lim_b36 {h : pm_H} {lw : Nat} {hi : Int64} (hl : lw < 9223372036854775808) (pg : Bool) : fX1_isLimited_b36 h (Int64.ofNat lw) hi (iN pg) = some (iN (!lmB lw hi pg)) := by
  have z6 : ((65536 : Int64) < Int64.ofNat lw) = (65536 < lw) := by rw [show (65536 : Int64) = Int64.ofNat 65536 from rfl, ll_lt (by decide) hl]
  have inner : (if hi < 0 then (some (1 : Int32)) else (if hi < Int64.ofNat lw then some 0 else some 1)) = some (iN (!(decide (0 ≤ hi) && decide (hi < Int64.ofNat lw)))) := by
    by_cases c : hi < 0
    · rw [if_pos c, decide_eq_false (Int64.not_le.mpr c)]; rfl
    · rw [if_neg c, decide_eq_true (Int64.not_lt.mp c)]
      by_cases d : hi < Int64.ofNat lw
      · rw [if_pos d, decide_eq_true d]; rfl
      · rw [if_neg d, decide_eq_false d]; rfl
  unfold fX1_isLimited_b36 lmB
  cases pg with
  | false =>
    rw [if_pos (show iN false = 0 from rfl), inner, Bool.false_and, Bool.or_false]
  | true =>
    rw [if_neg (show ¬ iN true = 0 by decide), Bool.true_and]
    by_cases c : 65536 < lw
    · rw [if_pos (by rw [z6]; exact c), decide_eq_true c, Bool.true_or, Bool.or_true]; rfl
    · rw [if_neg (by rw [z6]; exact c), decide_eq_false c, Bool.false_or]
      by_cases d : hi ≤ 65536
      · rw [if_pos d, inner, decide_eq_false (Int64.not_lt.mpr d), Bool.or_false]
      · rw [if_neg d, decide_eq_true (Int64.not_le.mp d), Bool.or_true]; rfl
section XLIM
variable {h0 h h' r : pm_H} {n b mm lo hi id w x m : Nat} {B : Nat → Nat} {M : tMd} {o : Option (Nat × Nat)} {I : List tImp}
/-- an entry's limits -/
theorem x_lmt (a4 : pm_kd r x = 35) (a5 : pm_ln r x = I.length * 6) (a6 : I.length ≤ 81920) (ml : m < I.length) (pe : pEnt r x (m * 6) (I[m]'ml)) (u2 : (I[m]'ml).2.2.1 < 4294967296) (uk : (I[m]'ml).1 < 4) : fX1_isLimited r x (Int32.ofNat (m * 6)) = some (iN (!lmB (I[m]'ml).2.2.1 (I[m]'ml).2.2.2.1 (decide ((I[m]'ml).1 = 2)))) := by
  obtain ⟨e0, e1, e2, e3, e4, -⟩ := pe
  have item : ∀ j, j < 6 → fX12_item_ r x (Int32.ofNat (m * 6) + Int32.ofNat j) = some (pm_L r x (m * 6 + j)) := fun j hj => by
    rw [nn_ad]
    unfold fX12_item_
    refine e9_f (by rw [n3_0, nn_lt (by omega) (by decide)]; omega) (e9_t a4 (e9_f (by rw [a5, nn_le (by omega) (by omega)]; omega) (e9_t (by rw [a5, nn_in (by omega)]; omega) ?_)))
    rw [nn_cm (by omega)]
  have i3 := item 3 (by decide)
  have i4 := item 4 (by decide)
  have i0 := item 0 (by decide)
  rw [e3] at i3
  rw [e4] at i4
  rw [Nat.add_zero, e0] at i0
  have z2 : (Int64.ofNat (I[m]'ml).1 = 2) = ((I[m]'ml).1 = 2) := by rw [show (2 : Int64) = Int64.ofNat 2 from rfl, ll_eq (by omega) (by decide)]
  unfold fX1_isLimited
  refine e9_b i3 (e9_b i4 (e9_b i0 ?_))
  by_cases c : (I[m]'ml).1 = 2
  · rw [decide_eq_true c]
    exact e9_t (by rw [z2]; exact c) (lim_b36 (by omega) true)
  · rw [decide_eq_false c]
    exact e9_f (by rw [z2]; exact c) (lim_b36 (by omega) false)
theorem x_li1 (X : hX h0 n b mm lo hi B M) (gI : ∀ a, a ∈ M.2.1 → gImp a) (hI : ∀ a, a ∈ M.2.1 → a.1 ≠ 1 → a.1 ≠ 2 → lmB a.2.2.1 a.2.2.2.1 false = false) : ∀ (j m : Nat) {o : Option (Nat × Nat)} {r : pm_H}, m + j = M.2.1.length → hS h0 o r → ∃ r', pm_lim sX1_limitsAreRight (.inl (22, Int32.ofNat (m * 6), r)) = pm_lim sX1_limitsAreRight (.inr (.inl (22, Int32.ofNat (ofK 1 M.2.1).length, r'))) ∧ hS h0 (oE o (if (M.2.1.drop m).any (fun a => (decide (a.1 = 1) || decide (a.1 = 2)) && lmB a.2.2.1 a.2.2.2.1 (decide (a.1 = 2))) = true then some (21, sS M 2) else none)) r' := by
  intro j
  induction j with
  | zero =>
    intro m o r hm S
    obtain ⟨s1, cc, ⟨q1, q2, q3⟩, -⟩ := hX_F X S.1
    have A := cc.2.1 (by decide)
    have im := m_imp (k := 1) s1.2.2.1 A (by decide) (fun x hx => by have := (gI x hx).1; omega)
    obtain ⟨x, a1, a2, a3, a4, a5, a6, a7⟩ := A
    rw [List.drop_eq_nil_of_le (by omega)]
    refine ⟨r, k_w (aX1_limitsAreRight_0 ..) ?_, by rw [show (([] : List tImp).any _) = false from rfl, if_neg (by decide), oE_n]; exact S⟩
    unfold tX1_limitsAreRight_2
    exact k_t q1 (k_b q2 (k_t s1.2.2.1 (k_b a1 (k_t a4 (k_t (by rw [a5, nn_le (by omega) (by omega)]; omega) (k_b im rfl))))))
  | succ j ih =>
    intro m o r hm S
    obtain ⟨s1, cc, ⟨q1, q2, q3⟩, -⟩ := hX_F X S.1
    obtain ⟨x, a1, a2, a3, a4, a5, a6, a7⟩ := cc.2.1 (by decide)
    have ml : m < M.2.1.length := by omega
    have ge : M.2.1[m]? = some M.2.1[m] := List.getElem?_eq_getElem ml
    have gm := gI _ (List.getElem_mem ml)
    have u2 : M.2.1[m].2.2.1 < 4294967296 := gm.2.2.1
    have k3 := gm.1
    have li := x_lmt a4 a5 a6 ml (a7 m _ ge) u2 (by omega)
    have dr : M.2.1.drop m = M.2.1[m] :: M.2.1.drop (m + 1) := List.drop_eq_getElem_cons ml
    have st : Int32.ofNat (m * 6) + 6 = Int32.ofNat ((m + 1) * 6) := (nn_ad (m * 6) 6).trans (congrArg Int32.ofNat (by omega))
    have same : ((decide (M.2.1[m].1 = 1) || decide (M.2.1[m].1 = 2)) && lmB M.2.1[m].2.2.1 M.2.1[m].2.2.2.1 (decide (M.2.1[m].1 = 2))) = lmB M.2.1[m].2.2.1 M.2.1[m].2.2.2.1 (decide (M.2.1[m].1 = 2)) := by
      by_cases c1 : M.2.1[m].1 = 1
      · rw [decide_eq_true c1, Bool.true_or, Bool.true_and]
      · by_cases c2 : M.2.1[m].1 = 2
        · rw [decide_eq_true c2, Bool.or_true, Bool.true_and]
        · rw [decide_eq_false c1, decide_eq_false c2, hI _ (List.getElem_mem ml) c1 c2]
          rfl
    rw [dr]
    cases e : lmB M.2.1[m].2.2.1 M.2.1[m].2.2.2.1 (decide (M.2.1[m].1 = 2)) with
    | true =>
      rw [e] at li
      obtain ⟨r1, g1, S1⟩ := x_fs (w := 21) (id := 2) X S ⟨by decide, by decide⟩ ⟨by decide, by decide⟩
      obtain ⟨r2, g2, S2⟩ := ih (m + 1) (by omega) S1
      refine ⟨r2, k_w (aX1_limitsAreRight_0 ..) ?_, ?_⟩
      · unfold tX1_limitsAreRight_2
        refine k_t q1 (k_b q2 (k_t s1.2.2.1 (k_b a1 (k_t a4 (k_f (by rw [a5, nn_le (by omega) (by omega)]; omega) (k_b li (k_t rfl (k_b g1 (k_l ?_)))))))))
        rw [st]
        exact k_n g2
      · rw [List.any_cons, same, e, Bool.true_or, if_pos rfl]
        rw [oE_a] at S2
        exact S2
    | false =>
      rw [e] at li
      obtain ⟨r2, g2, S2⟩ := ih (m + 1) (by omega) S
      refine ⟨r2, k_w (aX1_limitsAreRight_0 ..) ?_, ?_⟩
      · unfold tX1_limitsAreRight_2
        refine k_t q1 (k_b q2 (k_t s1.2.2.1 (k_b a1 (k_t a4 (k_f (by rw [a5, nn_le (by omega) (by omega)]; omega) (k_b li (k_f (by decide) (k_l ?_))))))))
        rw [st]
        exact k_n g2
      · rw [List.any_cons, same, e, Bool.false_or]
        exact S2
end XLIM
