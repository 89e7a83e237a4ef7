/-! THE CLASS CHECKS: the functions' types, one memory, the start -/
section XHD2
variable {h0 h h' r : pm_H} {n b mm lo hi id w : Nat} {B : Nat → Nat} {M : tMd} {o : Option (Nat × Nat)}
theorem f_own {i t : Nat} (ht : M.2.2.1[i]? = some t) : (spF M)[(ofK 0 M.2.1).length + i]? = some (0, t, 0, -1, 0) := by
  unfold spF
  rw [List.getElem?_append_right (Nat.le_add_right _ _), Nat.add_sub_cancel_left, List.getElem?_map, ht]
  rfl
theorem f_len : (spF M).length = (ofK 0 M.2.1).length + M.2.2.1.length := by
  unfold spF
  rw [List.length_append, List.length_map]
theorem x_ty2 (X : hX h0 n b mm lo hi B M) (gF' : ∀ a, a ∈ M.2.2.1 → gFn a) : ∀ (j m : Nat) {o : Option (Nat × Nat)} {r : pm_H}, m + j = M.2.2.1.length → hS h0 o r → ∃ r', pm_lim sX1_typesAreThere (.inr (22, Int32.ofNat ((ofK 0 M.2.1).length + m), r)) = some r' ∧ hS h0 (oE o (if (M.2.2.1.drop m).any (fun a => decide (M.1.length ≤ a)) = true then some (20, sS M 3) else none)) r' := by
  intro j
  induction j with
  | zero =>
    intro m o r hm S
    obtain ⟨s1, cc, ⟨q1, q2, q3⟩, -⟩ := hX_F X S.1
    have Af := cc.2.2.1 (by decide)
    have l8 : (spF M).length ≤ 81920 := by obtain ⟨x, -, -, -, -, -, a, -⟩ := Af; exact a
    have cn := m_cnt (k := 0) s1.2.2.1 (by decide) Af
    have fl := f_len (M := M)
    rw [List.drop_eq_nil_of_le (by omega)]
    refine ⟨r, k_w (aX1_typesAreThere_1 ..) ?_, by rw [show (([] : List Nat).any _) = false from rfl, if_neg (by decide), oE_n]; exact S⟩
    unfold tX1_typesAreThere_81
    exact k_t q1 (k_b q2 (k_t s1.2.2.1 (k_b cn (k_t (by rw [nn_le (by omega) (by omega)]; omega) rfl))))
  | succ j ih =>
    intro m o r hm S
    obtain ⟨s1, cc, ⟨q1, q2, q3⟩, -⟩ := hX_F X S.1
    have Af := cc.2.2.1 (by decide)
    have l8 : (spF M).length ≤ 81920 := by obtain ⟨x, -, -, -, -, -, a, -⟩ := Af; exact a
    have cn := m_cnt (k := 0) s1.2.2.1 (by decide) Af
    have fl := f_len (M := M)
    obtain ⟨xx, t1, t2, t3, t4, t5, t6, t7⟩ := cc.1 (by decide)
    have ml : m < M.2.2.1.length := by omega
    have ge : M.2.2.1[m]? = some M.2.2.1[m] := List.getElem?_eq_getElem ml
    have gm : M.2.2.1[m] < 4294967296 := gF' _ (List.getElem_mem ml)
    have dr : M.2.2.1.drop m = M.2.2.1[m] :: M.2.2.1.drop (m + 1) := List.drop_eq_getElem_cons ml
    obtain ⟨x, -, e1, pe⟩ := m_of (k := 0) (j := 1) s1.2.2.1 (by decide) Af (some_lt (f_own ge)) (by decide)
    obtain ⟨-, y1, -⟩ := pe _ (f_own ge)
    rw [y1] at e1
    have st : Int32.ofNat ((ofK 0 M.2.1).length + m) + 1 = Int32.ofNat ((ofK 0 M.2.1).length + (m + 1)) := nn_ad _ 1
    rw [dr]
    by_cases t : M.1.length ≤ M.2.2.1[m]
    · obtain ⟨r1, g1, S1⟩ := x_fs (w := 20) (id := 3) X S ⟨by decide, by decide⟩ ⟨by decide, by decide⟩
      obtain ⟨r2, g2, S2⟩ := ih (m + 1) (by omega) S1
      refine ⟨r2, k_w (aX1_typesAreThere_1 ..) ?_, ?_⟩
      · unfold tX1_typesAreThere_81
        refine k_t q1 (k_b q2 (k_t s1.2.2.1 (k_b cn (k_f (by rw [nn_le (by omega) (by omega)]; omega) (k_b e1 (k_b t1 (k_t t4 (k_f (by rw [t5, nn_t6 (by omega)]; show ¬ Int64.ofNat M.2.2.1[m] < _; rw [ll_lt (Nat.lt_trans gm (by decide)) (by omega)]; exact Nat.not_lt.mpr t) (k_b g1 (k_l ?_))))))))))
        rw [st]
        exact k_n g2
      · rw [List.any_cons, decide_eq_true t, Bool.true_or, if_pos rfl]
        rw [oE_a] at S2
        exact S2
    · obtain ⟨r2, g2, S2⟩ := ih (m + 1) (by omega) S
      refine ⟨r2, k_w (aX1_typesAreThere_1 ..) ?_, ?_⟩
      · unfold tX1_typesAreThere_81
        refine k_t q1 (k_b q2 (k_t s1.2.2.1 (k_b cn (k_f (by rw [nn_le (by omega) (by omega)]; omega) (k_b e1 (k_b t1 (k_t t4 (k_t (by rw [t5, nn_t6 (by omega)]; show Int64.ofNat M.2.2.1[m] < _; rw [ll_lt (Nat.lt_trans gm (by decide)) (by omega)]; exact Nat.not_le.mp t) (k_l ?_)))))))))
        rw [st]
        exact k_n g2
      · rw [List.any_cons, decide_eq_false t, Bool.false_or]
        exact S2
/-- are all types there? -/
theorem x_typ (X : hX h0 n b mm lo hi B M) (gI : ∀ a, a ∈ M.2.1 → gImp a) (gF' : ∀ a, a ∈ M.2.2.1 → gFn a) (S : hS h0 o r) : ∃ r', fX1_typesAreThere r 22 = some r' ∧ hS h0 (oE o (oE (if M.2.1.any (fun a => decide (a.1 = 0) && decide (M.1.length ≤ a.2.1)) = true then some (20, sS M 2) else none) (if M.2.2.1.any (fun a => decide (M.1.length ≤ a)) = true then some (20, sS M 3) else none))) r' := by
  obtain ⟨r1, e1, S1⟩ := x_ty1 X gI M.2.1.length 0 0 (Nat.zero_add _) S
  obtain ⟨r2, e2, S2⟩ := x_ty2 X gF' M.2.2.1.length 0 (Nat.zero_add _) S1
  rw [List.drop_zero, Nat.zero_add] at e1
  rw [List.drop_zero] at S1
  rw [List.drop_zero, List.drop_zero, oE_a] at S2
  refine ⟨r2, ?_, S2⟩
  unfold fX1_typesAreThere
  exact e1.trans e2
/-- is there one memory at most? -/
theorem x_one (X : hX h0 n b mm lo hi B M) (u : ∀ x, M.2.2.2.2.2.2.2.2.2.2.2.2.1 5 = some x → x < 2147483648) (S : hS h0 o r) : ∃ r', fX1_memoryIsOne r 22 = some r' ∧ hS h0 (oE o (if 1 < (spM M).length then some (22, sS M (if isS (M.2.2.2.2.2.2.2.2.2.2.2.2.1 5) = true then 5 else 2)) else none)) r' := by
  have Xr := hX_F X S.1
  obtain ⟨s1, cc, ⟨q1, q2, q3⟩, -⟩ := Xr
  have Am := cc.2.2.2.2.1 (by decide)
  have l8 : (spM M).length ≤ 81920 := by obtain ⟨x, -, -, -, -, -, a, -⟩ := Am; exact a
  have cn := m_cnt (k := 2) s1.2.2.1 (by decide) Am
  obtain ⟨-, -, -, -, -, -, -, -, -, -, -, -, d1, d2, d3, d4, d5⟩ := cc
  by_cases c : 1 < (spM M).length
  · rw [if_pos c]
    have it : fX12_item r lo 5 = some (on3 (M.2.2.2.2.2.2.2.2.2.2.2.2.1 5)) := by
      rw [← d5 5 (by decide) (by decide)]
      exact it_v (k := 5) d3 (by omega) (by omega)
    cases e : M.2.2.2.2.2.2.2.2.2.2.2.2.1 5 with
    | none =>
      obtain ⟨r1, g1, S1⟩ := x_fs (w := 22) (id := 2) X S ⟨by decide, by decide⟩ ⟨by decide, by decide⟩
      rw [e] at it
      refine ⟨r1, ?_, S1⟩
      unfold fX1_memoryIsOne
      exact e9_t q1 (e9_b q2 (e9_t s1.2.2.1 (e9_b cn (e9_t (by rw [show (1 : Int32) = Int32.ofNat 1 from rfl, nn_lt (by decide) (by omega)]; exact c) (e9_b d1 (e9_b it (e9_t (show (-1 : Int32) < 0 by decide) (e9_b g1 rfl))))))))
    | some x =>
      obtain ⟨r1, g1, S1⟩ := x_fs (w := 22) (id := 5) X S ⟨by decide, by decide⟩ ⟨by decide, by decide⟩
      rw [e] at it
      have ux := u x e
      refine ⟨r1, ?_, S1⟩
      unfold fX1_memoryIsOne
      exact e9_t q1 (e9_b q2 (e9_t s1.2.2.1 (e9_b cn (e9_t (by rw [show (1 : Int32) = Int32.ofNat 1 from rfl, nn_lt (by decide) (by omega)]; exact c) (e9_b d1 (e9_b it (e9_f (show ¬ Int32.ofNat x < 0 by rw [n3_0, nn_lt ux (by decide)]; omega) (e9_b g1 rfl))))))))
  · rw [if_neg c, oE_n]
    refine ⟨r, ?_, S⟩
    unfold fX1_memoryIsOne
    exact e9_t q1 (e9_b q2 (e9_t s1.2.2.1 (e9_b cn (e9_f (by rw [show (1 : Int32) = Int32.ofNat 1 from rfl, nn_lt (by decide) (by omega)]; exact c) rfl))))
end XHD2
