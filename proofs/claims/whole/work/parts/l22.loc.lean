/-! THE REFERENCE CHECKS: types of locals, tables, globals -/
section VLOC
variable {h : pm_H} {n b m eo el p p2 b' t x ty : Nat} {B : Nat → Nat} {M : tMd} {K : tK} {D : Bool} {Dc : Nat → Bool} {a : tBo} {v : sp_I}
theorem lc_inv {p' : Nat} {w : Nat × Nat} (q : sp_lc B n p = .inr (w, p')) : ∃ p1, sp_num B n p = .inr (w.1, p1) ∧ p1 < n ∧ B p1 = w.2 ∧ isT w.2 ∧ p' = p1 + 1 := by
  obtain ⟨c, p1, e1, e2⟩ := b_inv q
  obtain ⟨t, p3, e3, e4⟩ := b_inv e2
  have ok := byte_v e3
  unfold sp_byte at e3
  by_cases z : p1 < n
  · rw [if_pos z] at e3
    split at e3
    · cases e3; cases e4; exact ⟨p1, e1, z, rfl, ok, rfl⟩
    · cases e3
  · rw [if_neg z] at e3; cases e3
theorem ltL_T : ∀ {j p p' : Nat} {l : List (Nat × Nat)} {i : Nat}, sp_rows (sp_lc B n) j p = .inr (l, p') → ltL l i = some ty → isT ty
  | 0, _, _, _, _, q, e => by cases q; cases e
  | j + 1, _, _, _, i, q, e => by
    obtain ⟨w, p3, e1, e2⟩ := b_inv q
    obtain ⟨l', p4, e3, e4⟩ := b_inv e2
    cases e4
    obtain ⟨p1, f1, f2, f3, f4, f5⟩ := lc_inv e1
    unfold ltL at e
    split at e
    · cases e; exact f4
    · exact ltL_T e3 e
theorem wfT_t (T : vTy M) (ht : t < M.1.length) : wfT M (Int64.ofNat t) := by
  have T1 := T.1
  exact .inl ⟨by rw [show (0 : Int64) = Int64.ofNat 0 from rfl, ll_le (by decide) (by omega)]; exact Nat.zero_le _, by rw [ll_cm (by omega)]; exact ht⟩
theorem mbt_t (h : t < 9223372036854775808) : mbt (Int64.ofNat t) = Int64.ofNat t := by
  unfold mbt
  rw [if_pos (by rw [show (0 : Int64) = Int64.ofNat 0 from rfl, ll_le (by decide) h]; exact Nat.zero_le _)]
theorem lbt_T (G : vG B n D M) (ha : a ∈ M.2.2.2.2.2.2.2.2.2.1) (ht : t < M.1.length) (e : lbt M t a x = some ty) : isT ty := by
  have g := G.1.2.2.2.2.2.2.2.2.2.1 a ha
  obtain ⟨-, -, -, -, ⟨c, p1, e1, e2⟩, -⟩ := g
  unfold lbt ltB at e
  split at e
  · next z =>
    have BW := bt_w (vG_T G) (wfT_t (vG_T G) ht)
    rw [List.getElem?_eq_getElem z] at e
    cases e
    exact BW.2.2.1 _ (List.getElem_mem z)
  · exact ltL_T e2 e
theorem spT_T {f : tImp} (G : vG B n D M) (ez : (spT M)[x]? = some f) : isRf f.2.1 := by
  rcases app_some (show (ofK 1 M.2.1 ++ M.2.2.2.1.map _)[x]? = some f from ez) with ⟨h1, h2⟩ | ⟨h1, h2⟩
  · have mm := List.mem_filter.mp (show f ∈ M.2.1.filter _ from List.mem_of_getElem? h2)
    exact (G.1.2.1 f mm.1).2.2.2.2.2.2.1 (of_decide_eq_true mm.2)
  · obtain ⟨w, e1, e2⟩ := map_some h2
    rw [← e2]
    exact (G.1.2.2.2.1 w (List.mem_of_getElem? e1)).1
theorem spG_T {f : tImp × Nat} (G : vG B n D M) (ez : (spG M)[x]? = some f) : isT f.1.2.1 := by
  rcases app_some (show ((ofK 3 M.2.1).map _ ++ M.2.2.2.2.2.1.map _)[x]? = some f from ez) with ⟨h1, h2⟩ | ⟨h1, h2⟩
  · obtain ⟨w, e1, e2⟩ := map_some h2
    have mm := List.mem_filter.mp (show w ∈ M.2.1.filter _ from List.mem_of_getElem? e1)
    rw [← e2]
    exact (G.1.2.1 w mm.1).2.2.2.2.2.1 (of_decide_eq_true mm.2)
  · obtain ⟨w, e1, e2⟩ := map_some h2
    rw [← e2]
    exact (G.1.2.2.2.2.2.1 w (List.mem_of_getElem? e1)).1
theorem spF_T {f : tImp} (G : vG B n D M) (ez : (spF M)[x]? = some f) : f.2.1 < 4294967296 := by
  rcases app_some (show (ofK 0 M.2.1 ++ M.2.2.1.map _)[x]? = some f from ez) with ⟨h1, h2⟩ | ⟨h1, h2⟩
  · exact (G.1.2.1 f (List.mem_filter.mp (show f ∈ M.2.1.filter _ from List.mem_of_getElem? h2)).1).2.1
  · obtain ⟨w, e1, e2⟩ := map_some h2
    rw [← e2]
    exact G.1.2.2.1 w (List.mem_of_getElem? e1)
theorem isT_R (h : isRf x) : isT x := by
  have h : sp_isR x = true := h
  show sp_isT x = true
  unfold sp_isT
  rw [h]
  rfl
theorem v_llt (C : vC h n b m eo el B M) {c : Nat} (hc : c < 4294967296) : ∀ (j i fr p p' : Nat) (l : List (Nat × Nat)), i + j = c → sp_rows (sp_lc B n) j p = .inr (l, p') → fr + sumL l < 4294967296 → fr ≤ x → x < 4294967296 → ltL l (x - fr) = some ty → ∃ z, pm_lim sX16_localType (592, Int64.ofNat x, Int64.ofNat c, Int64.ofNat fr, Int64.ofNat i, lk h p) = some (Int32.ofNat ty, lk h z) := by
  intro j
  induction j with
  | zero => intro i fr p p' l _ q _ _ _ e; cases q; cases e
  | succ j ih =>
    intro i fr p p' l hi q hs hf hx e
    obtain ⟨w, p3, e1, e2⟩ := b_inv q
    obtain ⟨l', p4, e3, e4⟩ := b_inv e2
    cases e4
    obtain ⟨p1, f1, f2, f3, f4, f5⟩ := lc_inv e1
    have w8 : w.2 < 256 := by have := isT_lt f4; omega
    have n4 := C.1.2.2.2.2.2.2.1
    have hs : fr + (w.1 + sumL l') < 4294967296 := hs
    have st : pm_lim sX16_localType (592, Int64.ofNat x, Int64.ofNat c, Int64.ofNat fr, Int64.ofNat i, lk h p) = ev_k sX16_localType (if Int64.ofNat (fr + w.1) ≤ Int64.ofNat x then some (.inl (592, Int64.ofNat x, Int64.ofNat c, Int64.ofNat (fr + w.1), Int64.ofNat (i + 1), lk h p3)) else some (.inr (Int32.ofNat w.2, lk h p3))) := by
      refine k_w (aX16_localType_0 ..) ?_
      unfold tX16_localType_55
      refine k_f (by rw [ll_le (by omega) (by omega)]; omega) (k_t C.1.1 (k_b (mw_word C.1 (Nat.le_refl n) f1) (k_t C.1.1 (k_b C.1.2.1 (k_t C.1.2.2.1 ?_)))))
      rw [lk_19]
      refine k_b (mw_at_lk C.1 _ f2) (k_l ?_)
      rw [f3, show Int32.ofNat p1 + 1 = Int32.ofNat p3 by rw [f5]; exact nn_ad _ 1, lk_v, ll_ad, show Int64.ofNat i + 1 = Int64.ofNat (i + 1) from ll_ad _ 1]
      rfl
    rw [st]
    unfold ltL at e
    by_cases z : x - fr < w.1
    · rw [if_pos z] at e
      cases e
      exact ⟨p3, k_f (by rw [ll_le (by omega) (by omega)]; omega) rfl⟩
    · rw [if_neg z] at e
      obtain ⟨y, hy⟩ := ih (i + 1) (fr + w.1) p3 p' l' (by omega) e3 (by omega) (by omega) hx (by rw [show x - (fr + w.1) = x - fr - w.1 by omega]; exact e)
      exact ⟨y, k_t (by rw [ll_le (by omega) (by omega)]; omega) (k_n hy)⟩
theorem v_lty (C : vC h n b m eo el B M) (G : vG B n D M) (Q : vB h m eo el M b' t a Dc) (e : lbt M t a x = some ty) (hx : x < 4294967296) (z : Nat) : ∃ y, fX16_localType (lk h z) 592 (pm_I (lk h z) 592 29) (pm_I (lk h z) 592 30) (Int64.ofNat x) = some (Int32.ofNat ty, lk h y) := by
  obtain ⟨Q1, Q2, Q3, Q4, Q5, Q6, Q7, Q8⟩ := Q
  have T := vG_T G
  have T1 := T.1
  have bl := some_lt Q3
  have dl := dLen (vC_lk C z) T Q7
  have Wt := wfT_t (M := M) T Q7
  have BW := bt_w T Wt
  have g := G.1.2.2.2.2.2.2.2.2.2.1 a (List.mem_of_getElem? Q3)
  obtain ⟨g1, g2, g3, g4, ⟨c, p1, e1, e2⟩, -⟩ := g
  have bd := (C.2.2.1.2.2.2.2.2.2.2.2.2.1.1 Q4 _ _ Q3 (by omega)).1
  rw [lk_y (by decide), lk_y (by decide), Q1, Q2]
  unfold fX16_localType
  have hy : pm_in (Int32.ofNat t) (pm_ln (lk h z) (m + pRf 5)) := by
    rw [show pm_ln (lk h z) (m + pRf 5) = pLn 2 from (C.2.1.2 2 (by decide) (by decide)).2, nn_in (by omega)]
    show t < 64
    omega
  have hw : pm_in (Int32.ofNat b') (pm_ln (lk h z) (m + pRf 51)) := by
    rw [show pm_ln (lk h z) (m + pRf 51) = pLn 35 from (C.2.1.2 35 (by decide) (by decide)).2, nn_in (by omega)]
    show b' < 64
    omega
  have i9 : (pm_I (lk h z) (m + pRf 5) (Int32.ofNat t).toNatClampNeg).toInt64 = Int64.ofNat (btP M (Int64.ofNat t)).length := by
    rw [nn_cm (by omega), show pm_I (lk h z) (m + pRf 5) t = _ from dl, nn_t6 (by omega)]
  have hd : ∀ {R : Option (Int32 × pm_H)} {y : Nat}, (if Int64.ofNat (btP M (Int64.ofNat t)).length ≤ Int64.ofNat x then (pm_R (lk h z) m 51).bind fun v12 => if pm_kd (lk h z) v12 = 34 then if pm_in (Int32.ofNat b') (pm_ln (lk h z) v12) then pm_let (pm_I (lk h z) v12 (Int32.ofNat b').toNatClampNeg) fun y16 => (fX16_word (pm_setI (lk h z) 592 19 y16) 592).bind fun v18 => pm_lim sX16_localType ((592, Int64.ofNat x, v18.1, Int64.ofNat (btP M (Int64.ofNat t)).length, 0, v18.2)) else none else none else (fX16_parameterAt (lk h z) 592 (Int32.ofNat t).toInt64 (Int64.ofNat x).toInt32).bind fun v20 => some ((v20, lk h z))) = some (Int32.ofNat ty, lk h y) → ∃ y, (if pm_kd (lk h z) 592 = 16 then (pm_R (lk h z) 592 10).bind fun v2 => if pm_kd (lk h z) v2 = 14 then (pm_R (lk h z) v2 5).bind fun v5 => if pm_kd (lk h z) v5 = 34 then if pm_in (Int32.ofNat t) (pm_ln (lk h z) v5) then pm_let (pm_I (lk h z) v5 (Int32.ofNat t).toNatClampNeg) fun y9 => if y9.toInt64 ≤ Int64.ofNat x then ((pm_R (lk h z) v2 51).bind fun v12 => if pm_kd (lk h z) v12 = 34 then if pm_in (Int32.ofNat b') (pm_ln (lk h z) v12) then pm_let (pm_I (lk h z) v12 (Int32.ofNat b').toNatClampNeg) fun y16 => (fX16_word (pm_setI (lk h z) 592 19 y16) 592).bind fun v18 => pm_lim sX16_localType ((592, Int64.ofNat x, v18.1, y9.toInt64, 0, v18.2)) else none else none) else ((fX16_parameterAt (lk h z) 592 (Int32.ofNat t).toInt64 (Int64.ofNat x).toInt32).bind fun v20 => some ((v20, lk h z))) else none else none else none else none) = some (Int32.ofNat ty, lk h y) := by
    intro R y e
    refine ⟨y, e9_t C.1.1 (e9_b C.1.2.1 (e9_t C.1.2.2.1 (e9_b (C.2.1.1 5 (by decide)) (e9_t (C.2.1.2 2 (by decide) (by decide)).1 (e9_t hy (e9_l ?_))))))⟩
    rw [i9]
    exact e
  unfold lbt ltB at e
  by_cases w : x < (btP M (Int64.ofNat t)).length
  · rw [if_pos w] at e
    refine hd (R := none) (y := z) ?_
    refine e9_f (by rw [ll_le (by omega) (by omega)]; omega) ?_
    have ep := v_pat (k := x) (vC_lk C z) T Wt w
    rw [mbt_t (by omega)] at ep
    rw [nn_t6 (by omega), ll_t3]
    refine e9_b ep ?_
    have := gt_e w
    rw [this] at e
    cases e
    rfl
  · rw [if_neg w] at e
    have s9 : a.2.1 ≤ 1000 := Q6
    have el' := v_llt C (c := c) (sp_num_v C.1.2.2.2.2.2.2.2.2.2 e1) c 0 (btP M (Int64.ofNat t)).length p1 _ _ (Nat.zero_add _) e2 (by have := BW.1; omega) (by omega) hx e
    obtain ⟨y, hy'⟩ := el'
    refine hd (R := none) (y := y) ?_
    refine e9_t (by rw [ll_le (by omega) (by omega)]; omega) (e9_b (C.2.1.1 51 (by decide)) (e9_t (C.2.1.2 35 (by decide) (by decide)).1 (e9_t hw (e9_l ?_))))
    rw [nn_cm (by omega), show pm_I (lk h z) (m + pRf 51) b' = Int32.ofNat a.1 from (lk_I (by show m + 35 ≠ 592; have := C.2.2.2.2.1; omega)).trans bd, lk_v]
    exact e9_b (mw_word C.1 (Nat.le_refl n) e1) hy'
end VLOC
