/-! THE CLASS CHECKS: how many of a kind are imported; the function of a body -/
section XIMP
variable {r : pm_H} {n b mm lo hi bo co dd cap i : Nat} {B : Nat → Nat} {M : tMd}
theorem m_imp {I : List tImp} (km : pm_kd r mm = 7) (A : cAr pEnt 35 6 3 r mm lo hi I) {k : Nat} (hk : k < 4) (u : ∀ a, a ∈ I → a.1 < 2147483648) : fX7_imported r mm (Int32.ofNat k) = some (Int32.ofNat (ofK k I).length) := by
  obtain ⟨x, a1, a2, a3, a4, a5, a6, a7⟩ := A
  have go : ∀ (j m c : Nat), m + j = I.length → pm_lim (sX7_imported r) (mm, Int32.ofNat k, Int32.ofNat c, Int32.ofNat (m * 6)) = some (Int32.ofNat (c + (ofK k (I.drop m)).length)) := by
    intro j
    induction j with
    | zero =>
      intro m c hm
      refine k_w (aX7_imported_0 ..) ?_
      unfold tX7_imported_4
      refine k_t km (k_b a1 (k_t a4 (k_t (by rw [a5, nn_le (by omega) (by omega)]; omega) ?_)))
      rw [List.drop_eq_nil_of_le (by omega)]
      rfl
    | succ j ih =>
      intro m c hm
      have ml : m < I.length := by omega
      have ge : I[m]? = some I[m] := List.getElem?_eq_getElem ml
      obtain ⟨e1, -⟩ := a7 m _ ge
      have um := u _ (List.getElem_mem ml)
      have dr : I.drop m = I[m] :: I.drop (m + 1) := List.drop_eq_getElem_cons ml
      have st : Int32.ofNat (m * 6) + 6 = Int32.ofNat ((m + 1) * 6) := (nn_ad (m * 6) 6).trans (congrArg Int32.ofNat (by omega))
      refine k_w (aX7_imported_0 ..) ?_
      unfold tX7_imported_4
      refine k_t km (k_b a1 (k_t a4 (k_f (by rw [a5, nn_le (by omega) (by omega)]; omega) (k_t (by rw [a5, nn_in (by omega)]; omega) ?_))))
      rw [nn_cm (by omega), e1, nn_t6 (by omega)]
      by_cases d : I[m].1 = k
      · refine k_t (by rw [d]) (k_l (k_l ?_))
        rw [st, show Int32.ofNat c + 1 = Int32.ofNat (c + 1) from nn_ad c 1]
        refine k_n ((ih (m + 1) (c + 1) (by omega)).trans ?_)
        rw [dr]
        unfold ofK
        rw [List.filter_cons_of_pos (by exact decide_eq_true d), List.length_cons]
        congr 2
        omega
      · refine k_f (by rw [ll_eq (by omega) (by omega)]; exact d) (k_l ?_)
        rw [st]
        refine k_n ((ih (m + 1) c (by omega)).trans ?_)
        rw [dr]
        unfold ofK
        rw [List.filter_cons_of_neg (by rw [decide_eq_false d]; decide)]
  have := go I.length 0 0 (Nat.zero_add _)
  rw [List.drop_zero, Nat.zero_add] at this
  unfold fX7_imported
  exact this
/-- the type of a function that the module itself makes -/
theorem m_own {t : Nat} (C : xC r n b mm lo hi bo co dd cap B M) (ht : M.2.2.1[i]? = some t) : (spF M)[(ofK 0 M.2.1).length + i]? = some (0, t, 0, -1, 0) := by
  unfold spF
  rw [List.getElem?_append_right (Nat.le_add_right _ _), Nat.add_sub_cancel_left, List.getElem?_map, ht]
  rfl
theorem m_typ {t : Nat} (C : xC r n b mm lo hi bo co dd cap B M) (ht : M.2.2.1[i]? = some t) : fX7_of r mm 0 (Int32.ofNat (ofK 0 M.2.1).length + Int32.ofNat i) 1 = some (Int64.ofNat t) := by
  have o := m_own C ht
  obtain ⟨x, -, e, pe⟩ := m_of (k := 0) (j := 1) C.1.2.2.1 (by decide) (C.2.1.2.2.1 (by decide)) (some_lt o) (by decide)
  obtain ⟨-, q, -⟩ := pe _ o
  rw [q] at e
  rw [nn_ad]
  exact e
end XIMP
