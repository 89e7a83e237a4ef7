/-! THE REFERENCE CHECKS: functions, tables, memories, globals -/
def vL (M : tMd) : Prop := M.2.1.length ≤ 64 ∧ M.2.2.1.length ≤ 64 ∧ M.2.2.2.1.length ≤ 64 ∧ M.2.2.2.2.1.length ≤ 64 ∧ M.2.2.2.2.2.1.length ≤ 64 ∧ M.2.2.2.2.2.2.1.length ≤ 64 ∧ M.2.2.2.2.2.2.2.1.length ≤ 64 ∧ M.2.2.2.2.2.2.2.2.1.length ≤ 64
theorem k64_i {c : Nat} (h : c ≤ 64) : k64 c = c := by unfold k64; rw [if_pos h]
theorem ofK_c {k : Nat} {a : tImp} {l : List tImp} : ofK k (a :: l) = if a.1 = k then a :: ofK k l else ofK k l := by
  unfold ofK
  rw [List.filter_cons]
  by_cases c : a.1 = k
  · rw [if_pos c, if_pos (decide_eq_true c)]
  · rw [if_neg c, if_neg (by rw [decide_eq_false c]; decide)]
theorem ofK_l {k : Nat} {l : List tImp} : (ofK k l).length ≤ l.length := List.length_filter_le _ _
section VSPACE
variable {h : pm_H} {n b m eo el : Nat} {B : Nat → Nat} {M : tMd}
theorem v_imp (C : vC h n b m eo el B M) (L : vL M) {k : Nat} (hk : k ≤ 3) (hK : ∀ a, a ∈ M.2.1 → gImp a) : ∀ (j i c : Nat), i + j = M.2.1.length → c ≤ i → pm_lim (sX14_imported h) (m, Int32.ofNat k, Int32.ofNat c, Int32.ofNat i) = some (Int32.ofNat (c + (ofK k (M.2.1.drop i)).length)) := by
  obtain ⟨S, P, D, -⟩ := C
  obtain ⟨cr, i8, -⟩ := D.2.1
  rw [k64_i L.1] at i8
  have L1 := L.1
  intro j
  induction j with
  | zero =>
    intro i c hi hc
    refine k_w (aX14_imported_0 ..) ?_
    unfold tX14_imported_4
    refine k_t S.2.2.1 (k_t (by rw [i8, nn_le (by omega) (by omega)]; omega) ?_)
    rw [List.drop_eq_nil_of_le (by omega)]
    rfl
  | succ j ih =>
    intro i c hi hc
    have hlt : i < M.2.1.length := by omega
    have pi := cr i _ (List.getElem?_eq_getElem hlt) (by omega)
    have gi := hK _ (List.getElem_mem hlt)
    have e5 : pm_I h (m + 5) i = Int32.ofNat (M.2.1[i]).1 := pi.1
    have g1 : (M.2.1[i]).1 ≤ 3 := gi.1
    refine k_w (aX14_imported_0 ..) ?_
    unfold tX14_imported_4
    refine k_t S.2.2.1 (k_f (by rw [i8, nn_le (by omega) (by omega)]; omega) (k_b (show pm_R h m 9 = some (m + 5) from P.1 9 (by decide)) (k_t (P.2 5 (by decide) (by decide)).1 (k_t (by rw [(P.2 5 (by decide) (by decide)).2, nn_in (by omega)]; show i < 64; omega) ?_))))
    have nc : (Int32.ofNat i).toNatClampNeg = i := nn_cm (by omega)
    rw [List.drop_eq_getElem_cons hlt, ofK_c]
    by_cases c1 : (M.2.1[i]).1 = k
    · rw [if_pos c1]
      refine k_t (by rw [nc, e5, c1]) (k_l (k_l ?_))
      rw [show Int32.ofNat c + 1 = Int32.ofNat (c + 1) from nn_ad _ 1, show Int32.ofNat i + 1 = Int32.ofNat (i + 1) from nn_ad _ 1]
      refine k_n ?_
      rw [ih (i + 1) (c + 1) (by omega) (by omega), List.length_cons]
      exact congrArg (fun z => some (Int32.ofNat z)) (by omega)
    · rw [if_neg c1]
      refine k_f (by rw [nc, e5, nn_eq (by omega) (by omega)]; exact c1) (k_l (k_l ?_))
      rw [show Int32.ofNat c + 0 = Int32.ofNat c from Int32.add_zero _, show Int32.ofNat i + 1 = Int32.ofNat (i + 1) from nn_ad _ 1]
      exact k_n (ih (i + 1) c (by omega) (by omega))
theorem v_imd (C : vC h n b m eo el B M) (L : vL M) {k : Nat} (hk : k ≤ 3) (hK : ∀ a, a ∈ M.2.1 → gImp a) : fX14_imported h m (Int32.ofNat k) = some (Int32.ofNat (ofK k M.2.1).length) := by
  have := v_imp C L hk hK M.2.1.length 0 0 (Nat.zero_add _) (Nat.le_refl _)
  rw [Nat.zero_add] at this
  exact this
theorem v_iof (C : vC h n b m eo el B M) (L : vL M) {k : Nat} (hk : k ≤ 3) (hK : ∀ a, a ∈ M.2.1 → gImp a) : ∀ (j i x : Nat), i + j = M.2.1.length → x < (ofK k (M.2.1.drop i)).length → ∃ r, pm_lim (sX14_importOf h) (.inl (m, Int32.ofNat k, Int32.ofNat x, Int32.ofNat i)) = some (Int32.ofNat r) ∧ r < M.2.1.length ∧ M.2.1[r]? = (ofK k (M.2.1.drop i))[x]? := by
  obtain ⟨S, P, D, -⟩ := C
  obtain ⟨cr, i8, -⟩ := D.2.1
  rw [k64_i L.1] at i8
  have L1 := L.1
  intro j
  induction j with
  | zero =>
    intro i x hi hx
    rw [List.drop_eq_nil_of_le (by omega)] at hx
    exact absurd hx (Nat.not_lt_zero _)
  | succ j ih =>
    intro i x hi hx
    have hlt : i < M.2.1.length := by omega
    have pi := cr i _ (List.getElem?_eq_getElem hlt) (by omega)
    have gi := hK _ (List.getElem_mem hlt)
    have e5 : pm_I h (m + 5) i = Int32.ofNat (M.2.1[i]).1 := pi.1
    have g1 : (M.2.1[i]).1 ≤ 3 := gi.1
    have nc : (Int32.ofNat i).toNatClampNeg = i := nn_cm (by omega)
    have r9 : pm_R h m 9 = some (m + 5) := P.1 9 (by decide)
    have k5 := (P.2 5 (by decide) (by decide)).1
    have l5 : pm_ln h (m + 5) = 64 := (P.2 5 (by decide) (by decide)).2
    have hxl : x < 64 := by
      have := ofK_l (k := k) (l := M.2.1.drop i)
      rw [List.length_drop] at this
      omega
    rw [List.drop_eq_getElem_cons hlt, ofK_c] at hx ⊢
    have go : ∀ (y : Nat), (if (M.2.1[i]).1 = k then Int32.ofNat x - 1 else Int32.ofNat x - 0) = Int32.ofNat y → pm_lim (sX14_importOf h) (.inr (m, Int32.ofNat k, Int32.ofNat x, Int32.ofNat i)) = pm_lim (sX14_importOf h) (.inl (m, Int32.ofNat k, Int32.ofNat y, Int32.ofNat (i + 1))) := by
      intro y hy
      refine k_w (aX14_importOf_1 ..) ?_
      unfold tX14_importOf_32
      refine k_t S.2.2.1 (k_b r9 (k_t k5 (k_t (by rw [l5, nn_in (by omega)]; omega) ?_)))
      by_cases c1 : (M.2.1[i]).1 = k
      · rw [if_pos c1] at hy
        refine k_t (by rw [nc, e5, c1]) (k_l (k_l ?_))
        rw [hy, show Int32.ofNat i + 1 = Int32.ofNat (i + 1) from nn_ad _ 1]
        rfl
      · rw [if_neg c1] at hy
        refine k_f (by rw [nc, e5, nn_eq (by omega) (by omega)]; exact c1) (k_l (k_l ?_))
        rw [hy, show Int32.ofNat i + 1 = Int32.ofNat (i + 1) from nn_ad _ 1]
        rfl
    have st : ∀ z, (¬ ((M.2.1[i]).1 = k ∧ x = 0) → pm_lim (sX14_importOf h) (.inr (m, Int32.ofNat k, Int32.ofNat x, Int32.ofNat i)) = z) → ((M.2.1[i]).1 = k ∧ x = 0 → some (Int32.ofNat i) = z) → pm_lim (sX14_importOf h) (.inl (m, Int32.ofNat k, Int32.ofNat x, Int32.ofNat i)) = z := by
      intro z h1 h2
      refine k_w (aX14_importOf_0 ..) ?_
      unfold tX14_importOf_5
      refine k_t S.2.2.1 (k_f (by rw [i8, nn_le (by omega) (by omega)]; omega) (k_b r9 (k_t k5 (k_t (by rw [l5, nn_in (by omega)]; omega) ?_))))
      by_cases c1 : (M.2.1[i]).1 = k
      · refine k_t (by rw [nc, e5, c1]) ?_
        by_cases c2 : x = 0
        · exact k_t (by rw [c2]; rfl) (h2 ⟨c1, c2⟩)
        · exact k_f (by rw [n3_0, nn_eq (by omega) (by decide)]; exact c2) (k_n (h1 (fun y => c2 y.2)))
      · exact k_f (by rw [nc, e5, nn_eq (by omega) (by omega)]; exact c1) (k_n (h1 (fun y => c1 y.1)))
    by_cases c1 : (M.2.1[i]).1 = k
    · rw [if_pos c1] at hx ⊢
      rw [if_pos c1] at go
      by_cases c2 : x = 0
      · refine ⟨i, st _ (fun y => absurd ⟨c1, c2⟩ y) (fun _ => rfl), hlt, ?_⟩
        rw [c2, List.getElem?_eq_getElem hlt]
        rfl
      · obtain ⟨r, r1, r2, r3⟩ := ih (i + 1) (x - 1) (by omega) (by rw [List.length_cons] at hx; omega)
        refine ⟨r, st _ (fun _ => (go (x - 1) (nn_s1 (by omega))).trans r1) (fun y => absurd y.2 c2), r2, ?_⟩
        rw [r3]
        obtain ⟨x', hx'⟩ : ∃ x', x = x' + 1 := ⟨x - 1, by omega⟩
        rw [hx', Nat.add_sub_cancel, List.getElem?_cons_succ]
    · rw [if_neg c1] at hx ⊢
      rw [if_neg c1] at go
      obtain ⟨r, r1, r2, r3⟩ := ih (i + 1) x (by omega) hx
      exact ⟨r, st _ (fun _ => (go x (Int32.sub_zero _)).trans r1) (fun y => absurd y.1 c1), r2, r3⟩
theorem v_imO (C : vC h n b m eo el B M) (L : vL M) {k x : Nat} (hk : k ≤ 3) (hK : ∀ a, a ∈ M.2.1 → gImp a) {a : tImp} (hx : (ofK k M.2.1)[x]? = some a) : ∃ r, fX14_importOf h m (Int32.ofNat k) (Int32.ofNat x) = some (Int32.ofNat r) ∧ r < 64 ∧ pImp m h r a := by
  have hl : x < (ofK k M.2.1).length := (List.getElem?_eq_some_iff.mp hx).1
  obtain ⟨r, r1, r2, r3⟩ := v_iof C L hk hK M.2.1.length 0 x (Nat.zero_add _) hl
  have r3 : M.2.1[r]? = (ofK k M.2.1)[x]? := r3
  have L1 := L.1
  exact ⟨r, r1, by omega, C.2.2.1.2.1.1 r a (r3.trans hx) (by omega)⟩
theorem app_some {α : Type} {l1 l2 : List α} {x : Nat} {a : α} (h : (l1 ++ l2)[x]? = some a) : (x < l1.length ∧ l1[x]? = some a) ∨ (l1.length ≤ x ∧ l2[x - l1.length]? = some a) := by
  by_cases c : x < l1.length
  · rw [List.getElem?_append_left c] at h; exact .inl ⟨c, h⟩
  · rw [List.getElem?_append_right (by omega)] at h; exact .inr ⟨by omega, h⟩
theorem map_some {α β : Type} {f : α → β} {l : List α} {x : Nat} {a : β} (h : (l.map f)[x]? = some a) : ∃ v, l[x]? = some v ∧ f v = a := by
  rw [List.getElem?_map] at h
  cases e : l[x]? with
  | none => rw [e] at h; cases h
  | some v => rw [e] at h; cases h; exact ⟨v, rfl, rfl⟩
theorem some_lt {α : Type} {l : List α} {x : Nat} {a : α} (h : l[x]? = some a) : x < l.length := (List.getElem?_eq_some_iff.mp h).1
theorem sp_len (L : vL M) : (spF M).length ≤ 128 ∧ (spT M).length ≤ 128 ∧ (spM M).length ≤ 128 ∧ (spG M).length ≤ 128 := by
  obtain ⟨l1, l2, l3, l4, l5, -⟩ := L
  unfold spF spT spM spG
  simp only [List.length_append, List.length_map]
  have a0 := ofK_l (k := 0) (l := M.2.1)
  have a1 := ofK_l (k := 1) (l := M.2.1)
  have a2 := ofK_l (k := 2) (l := M.2.1)
  have a3 := ofK_l (k := 3) (l := M.2.1)
  omega
theorem v_all (C : vC h n b m eo el B M) (L : vL M) (hK : ∀ a, a ∈ M.2.1 → gImp a) : fX14_all h m 0 = some (Int32.ofNat (spF M).length) ∧ fX14_all h m 1 = some (Int32.ofNat (spT M).length) ∧ fX14_all h m 2 = some (Int32.ofNat (spM M).length) ∧ fX14_all h m 3 = some (Int32.ofNat (spG M).length) := by
  have i0 := v_imd C L (k := 0) (by decide) hK
  have i1 := v_imd C L (k := 1) (by decide) hK
  have i2 := v_imd C L (k := 2) (by decide) hK
  have i3 := v_imd C L (k := 3) (by decide) hK
  have D := C.2.2.1
  have S := C.1
  have e0 := D.2.2.1.2.1
  have e1 := D.2.2.2.1.2.1
  have e2 := D.2.2.2.2.1.2.1
  have e3 := D.2.2.2.2.2.1.2.1
  rw [k64_i L.2.1] at e0
  rw [k64_i L.2.2.1] at e1
  rw [k64_i L.2.2.2.1] at e2
  rw [k64_i L.2.2.2.2.1] at e3
  unfold fX14_all spF spT spM spG
  simp only [List.length_append, List.length_map]
  refine ⟨e9_t S.2.2.1 (e9_b i0 (e9_t trivial ?_)), e9_t S.2.2.1 (e9_b i1 (e9_f (by decide) (e9_t trivial ?_))), e9_t S.2.2.1 (e9_b i2 (e9_f (by decide) (e9_f (by decide) (e9_t trivial ?_)))), e9_t S.2.2.1 (e9_b i3 (e9_f (by decide) (e9_f (by decide) (e9_f (by decide) ?_))))⟩
  · rw [e0, nn_ad]
  · rw [e1, nn_ad]
  · rw [e2, nn_ad]
  · rw [e3, nn_ad]
theorem v_tyF {x : Nat} {f : tImp} (C : vC h n b m eo el B M) (L : vL M) (hK : ∀ a, a ∈ M.2.1 → gImp a) (hx : (spF M)[x]? = some f) : fX14_typeOfFunction h m (Int32.ofNat x) = some (Int32.ofNat f.2.1) := by
  have i0 := v_imd C L (k := 0) (by decide) hK
  obtain ⟨S, P, D, -⟩ := id C
  have a0 := ofK_l (k := 0) (l := M.2.1)
  have L1 := L.1
  have L2 := L.2.1
  have sl := (sp_len L).1
  have xl := some_lt hx
  unfold spF at hx
  unfold fX14_typeOfFunction
  refine e9_t S.2.2.1 (e9_b i0 ?_)
  rcases app_some hx with ⟨h1, h2⟩ | ⟨h1, h2⟩
  · obtain ⟨r, r1, r2, r3⟩ := v_imO C L (by decide) hK h2
    refine e9_f (by rw [nn_le (by omega) (by omega)]; omega) (e9_b (show pm_R h m 10 = some (m + 6) from P.1 10 (by decide)) (e9_b r1 (e9_t (P.2 6 (by decide) (by decide)).1 (e9_t (by rw [(P.2 6 (by decide) (by decide)).2, nn_in (by omega)]; exact r2) ?_))))
    rw [nn_cm (by omega), r3.2.1, ll_t3]
  · obtain ⟨v, e1, e2⟩ := map_some h2
    have vl := some_lt e1
    refine e9_t (by rw [nn_le (by omega) (by omega)]; omega) (e9_b (show pm_R h m 16 = some (m + 10) from P.1 16 (by decide)) (e9_l ?_))
    rw [nn_sb h1]
    refine e9_t (P.2 10 (by decide) (by decide)).1 (e9_t (by rw [(P.2 10 (by decide) (by decide)).2, nn_in (by omega)]; show _ < 64; omega) ?_)
    have p := D.2.2.1.1 _ _ e1 (by omega)
    unfold pFn at p
    rw [nn_cm (by omega), p, ll_t3, ← e2]
theorem v_tyT {x : Nat} {f : tImp} (C : vC h n b m eo el B M) (L : vL M) (hK : ∀ a, a ∈ M.2.1 → gImp a) (hx : (spT M)[x]? = some f) : fX14_typeOfTable h m (Int32.ofNat x) = some (Int32.ofNat f.2.1) := by
  have i0 := v_imd C L (k := 1) (by decide) hK
  obtain ⟨S, P, D, -⟩ := id C
  have a0 := ofK_l (k := 1) (l := M.2.1)
  have L1 := L.1
  have L2 := L.2.2.1
  have sl := (sp_len L).2.1
  have xl := some_lt hx
  unfold spT at hx
  unfold fX14_typeOfTable
  refine e9_t S.2.2.1 (e9_b i0 ?_)
  rcases app_some hx with ⟨h1, h2⟩ | ⟨h1, h2⟩
  · obtain ⟨r, r1, r2, r3⟩ := v_imO C L (by decide) hK h2
    refine e9_f (by rw [nn_le (by omega) (by omega)]; omega) (e9_b (show pm_R h m 10 = some (m + 6) from P.1 10 (by decide)) (e9_b r1 (e9_t (P.2 6 (by decide) (by decide)).1 (e9_t (by rw [(P.2 6 (by decide) (by decide)).2, nn_in (by omega)]; exact r2) ?_))))
    rw [nn_cm (by omega), r3.2.1, ll_t3]
  · obtain ⟨v, e1, e2⟩ := map_some h2
    have vl := some_lt e1
    refine e9_t (by rw [nn_le (by omega) (by omega)]; omega) (e9_b (show pm_R h m 18 = some (m + 11) from P.1 18 (by decide)) (e9_l ?_))
    rw [nn_sb h1]
    refine e9_t (P.2 11 (by decide) (by decide)).1 (e9_t (by rw [(P.2 11 (by decide) (by decide)).2, nn_in (by omega)]; show _ < 64; omega) ?_)
    have p := (D.2.2.2.1.1 _ _ e1 (by omega)).1
    rw [nn_cm (by omega), p, ← e2]
theorem v_tyG {x : Nat} {f : tImp × Nat} (C : vC h n b m eo el B M) (L : vL M) (hK : ∀ a, a ∈ M.2.1 → gImp a) (hG : ∀ a, a ∈ M.2.2.2.2.2.1 → a.2.1 ≤ 1) (hx : (spG M)[x]? = some f) : fX14_typeOfGlobal h m (Int32.ofNat x) = some (Int32.ofNat f.1.2.1) ∧ fX14_globalMoves h m (Int32.ofNat x) = some (Int32.ofNat f.1.2.2.2.2) ∧ f.1.2.2.2.2 ≤ 1 := by
  have i0 := v_imd C L (k := 3) (by decide) hK
  obtain ⟨S, P, D, -⟩ := id C
  have a0 := ofK_l (k := 3) (l := M.2.1)
  have L1 := L.1
  have L2 := L.2.2.2.2.1
  have sl := (sp_len L).2.2.2
  have xl := some_lt hx
  unfold spG at hx
  have b01 : ∀ v : Nat, v ≤ 1 → (Int32.ofNat v = 0 ∨ Int32.ofNat v = 1) := fun v hv => by
    rcases (show v = 0 ∨ v = 1 by omega) with rfl | rfl
    · exact .inl rfl
    · exact .inr rfl
  unfold fX14_typeOfGlobal fX14_globalMoves
  rcases app_some hx with ⟨h1, h2⟩ | ⟨h1, h2⟩
  · obtain ⟨v, e1, e2⟩ := map_some h2
    obtain ⟨r, r1, r2, r3⟩ := v_imO C L (by decide) hK e1
    have gv : v.2.2.2.2 ≤ 1 := (hK v (List.mem_filter.mp (show v ∈ M.2.1.filter _ from List.mem_of_getElem? e1)).1).2.2.2.2.1
    rw [List.length_map] at h1
    rw [← e2]
    refine ⟨e9_t S.2.2.1 (e9_b i0 (e9_f (by rw [nn_le (by omega) (by omega)]; omega) (e9_b (show pm_R h m 10 = some (m + 6) from P.1 10 (by decide)) (e9_b r1 (e9_t (P.2 6 (by decide) (by decide)).1 (e9_t (by rw [(P.2 6 (by decide) (by decide)).2, nn_in (by omega)]; exact r2) ?_)))))), e9_t S.2.2.1 (e9_b i0 (e9_f (by rw [nn_le (by omega) (by omega)]; omega) (e9_b (show pm_R h m 13 = some (m + 9) from P.1 13 (by decide)) (e9_b r1 (e9_t (P.2 9 (by decide) (by decide)).1 (e9_t (by rw [(P.2 9 (by decide) (by decide)).2, nn_in (by omega)]; exact r2) ?_)))))), gv⟩
    · rw [nn_cm (by omega), r3.2.1, ll_t3]
    · rw [nn_cm (by omega), r3.2.2.2.2]
      exact e9_t (b01 _ gv) rfl
  · obtain ⟨v, e1, e2⟩ := map_some h2
    have vl := some_lt e1
    have gv : v.2.1 ≤ 1 := hG v (List.mem_of_getElem? e1)
    rw [List.length_map] at h1 e1 vl
    have p := D.2.2.2.2.2.1.1 _ _ e1 (by omega)
    rw [← e2]
    refine ⟨e9_t S.2.2.1 (e9_b i0 (e9_t (by rw [nn_le (by omega) (by omega)]; omega) (e9_b (show pm_R h m 25 = some (m + 16) from P.1 25 (by decide)) (e9_l ?_)))), e9_t S.2.2.1 (e9_b i0 (e9_t (by rw [nn_le (by omega) (by omega)]; omega) (e9_b (show pm_R h m 26 = some (m + 17) from P.1 26 (by decide)) (e9_l ?_)))), gv⟩
    · rw [nn_sb h1]
      refine e9_t (P.2 16 (by decide) (by decide)).1 (e9_t (by rw [(P.2 16 (by decide) (by decide)).2, nn_in (by omega)]; show _ < 64; omega) ?_)
      rw [nn_cm (by omega), p.1]
    · rw [nn_sb h1]
      refine e9_t (P.2 17 (by decide) (by decide)).1 (e9_t (by rw [(P.2 17 (by decide) (by decide)).2, nn_in (by omega)]; show _ < 64; omega) ?_)
      rw [nn_cm (by omega), p.2.1]
      exact e9_t (b01 _ gv) rfl
end VSPACE
