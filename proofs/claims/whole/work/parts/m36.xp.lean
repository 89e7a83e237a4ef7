/-! THE CLASS CHECKS: exports -/
/-- equal bytes stand as equal numbers -/
def hNb (h : pm_H) (n b : Nat) (B : Nat → Nat) : Prop := ∀ i j, i < n → j < n → (pm_I h b i = pm_I h b j) = (B i = B j)
theorem ix3_6 (v : Nat) : (ix3 v).toInt64 = Int64.ofNat (if v ≤ 2147483647 then v else 2147483647) := by
  unfold ix3
  split
  · rw [nn_t6 (by omega)]
  · decide
section XXP
variable {h0 h h' r : pm_H} {n b mm lo hi dd id w p i j k x y len : Nat} {B : Nat → Nat} {M : tMd} {D : Bool} {o : Option (Nat × Nat)} {L L' : List Nat}
theorem hNb_F (X : yC h n b mm lo hi dd B M D) (F : eF dd h h') (N : hNb h n b B) : hNb h' n b B := fun i j hi hj => by
  obtain ⟨⟨-, -, -, a1, a2, a3, a4⟩, -, hd, -⟩ := X
  rw [F.2.2.2.2.1 b i (by unfold eAI; omega), F.2.2.2.2.1 b j (by unfold eAI; omega)]
  exact N i j hi hj
theorem x_sml (X : hX r n b mm lo hi B M) (N : hNb r n b B) (hx : x + len ≤ n) (hy : y + len ≤ n) : ∀ (m k : Nat), k + m = len → pm_lim (sX1_isSameName r) (22, Int32.ofNat len, Int32.ofNat x, Int32.ofNat y, Int32.ofNat k) = some (if (∀ q, q < len → k ≤ q → B (x + q) = B (y + q)) then 1 else 0) := by
  obtain ⟨⟨s1, s2, s3, s4, s5, s6, s7, -⟩, -, ⟨q1, q2, -⟩, -⟩ := X
  intro m
  induction m with
  | zero =>
    intro k hk
    refine k_w (aX1_isSameName_0 ..) ?_
    unfold tX1_isSameName_106
    rw [if_pos (show ∀ q, q < len → k ≤ q → B (x + q) = B (y + q) from fun q h1 h2 => by omega)]
    exact k_t (by rw [nn_le (by omega) (by omega)]; omega) rfl
  | succ m ih =>
    intro k hk
    refine k_w (aX1_isSameName_0 ..) ?_
    unfold tX1_isSameName_106
    refine k_f (by rw [nn_le (by omega) (by omega)]; omega) (k_t q1 (k_b q2 (k_t s3 (k_b s4 (k_l (k_t s5 ?_))))))
    rw [nn_ad, s6]
    refine k_t (by rw [nn_in (by omega)]; omega) (k_l ?_)
    rw [nn_ad]
    refine k_t (by rw [nn_in (by omega)]; omega) ?_
    rw [nn_cm (by omega), nn_cm (by omega)]
    by_cases e : B (x + k) = B (y + k)
    · refine k_t (by rw [N _ _ (by omega) (by omega)]; exact e) (k_l ?_)
      rw [show Int32.ofNat k + 1 = Int32.ofNat (k + 1) from nn_ad k 1]
      refine k_n ((ih (k + 1) (by omega)).trans ?_)
      have : (∀ q, q < len → k + 1 ≤ q → B (x + q) = B (y + q)) ↔ (∀ q, q < len → k ≤ q → B (x + q) = B (y + q)) := ⟨fun H q h1 h2 => by
        by_cases c : q = k
        · rw [c]; exact e
        · exact H q h1 (by omega), fun H q h1 h2 => H q h1 (by omega)⟩
      by_cases c : ∀ q, q < len → k + 1 ≤ q → B (x + q) = B (y + q)
      · rw [if_pos c, if_pos (this.mp c)]
      · rw [if_neg c, if_neg (fun z => c (this.mpr z))]
    · refine k_f (by rw [N _ _ (by omega) (by omega)]; exact e) ?_
      rw [if_neg (fun H => e (H k (by omega) (Nat.le_refl k)))]
      rfl
theorem x_sm (X : hX r n b mm lo hi B M) (N : hNb r n b B) (g : ∀ a, a ∈ M.2.2.2.2.2.2.1 → gXp n a) {a c : tXp} (ha : M.2.2.2.2.2.2.1[i]? = some a) (hc : M.2.2.2.2.2.2.1[j]? = some c) : fX1_isSameName r 22 (Int32.ofNat (i * 4)) (Int32.ofNat (j * 4)) = some (if xSm B a c = true then 1 else 0) := by
  have X' := X
  obtain ⟨⟨s1, s2, s3, s4, s5, s6, s7, -⟩, cc, ⟨q1, q2, -⟩, -⟩ := X
  obtain ⟨x, a1, a2, a3, a4, a5, a6, a7⟩ := cc.2.2.2.2.2.2.1 (by decide)
  obtain ⟨u1, u2, u3, u4⟩ := a7 i a ha
  obtain ⟨v1, v2, v3, v4⟩ := a7 j c hc
  have il := some_lt ha
  have jl := some_lt hc
  have item : ∀ i k, i < M.2.2.2.2.2.2.1.length → k < 4 → fX12_item r x (Int32.ofNat (i * 4) + Int32.ofNat k) = some (pm_I r x (i * 4 + k)) := fun i k hi hk => by
    rw [nn_ad]
    exact it_v a4 (by rw [a5]; omega) (by rw [a5]; omega)
  have i0 := item i 0 il (by decide)
  have i1 := item i 1 il (by decide)
  have j0 := item j 0 jl (by decide)
  have j1 := item j 1 jl (by decide)
  rw [Nat.add_zero, u1] at i0
  rw [Nat.add_zero, v1] at j0
  rw [u2] at i1
  rw [v2] at j1
  have ga := (g a (List.mem_of_getElem? ha)).1
  have gc := (g c (List.mem_of_getElem? hc)).1
  unfold fX1_isSameName
  refine e9_t q1 (e9_b q2 (e9_t s3 (e9_b a1 (e9_b i1 (e9_b j1 ?_)))))
  unfold xSm
  by_cases c1 : a.2.1 = c.2.1
  · refine e9_t (by rw [c1]) (e9_b i0 (e9_b j0 (e9_b s4 (e9_t s5 (e9_l ?_)))))
    have L := x_sml (x := a.1) (y := c.1) (len := a.2.1) X' N ga (by omega) a.2.1 0 (Nat.zero_add _)
    rw [s6, nn_sb (by omega)]
    refine e9_f (by rw [n3_0, nn_lt (by omega) (by decide)]; omega) (e9_f (by rw [n3_0, nn_lt (by omega) (by decide)]; omega) (e9_f (by rw [nn_lt (by omega) (by omega)]; omega) (e9_t (by rw [nn_le (by omega) (by omega)]; omega) (L.trans ?_))))
    rw [decide_eq_true c1, Bool.true_and]
    by_cases e : ∀ k, k < a.2.1 → B (a.1 + k) = B (c.1 + k)
    · rw [decide_eq_true e, if_pos rfl, if_pos (fun q h _ => e q h)]
    · rw [decide_eq_false e, if_neg (fun H => e fun k hk => H k hk (Nat.zero_le k)), if_neg (by decide)]
  · refine e9_f (by rw [nn_eq (by omega) (by omega)]; exact c1) (congrArg some ?_)
    rw [decide_eq_false c1, Bool.false_and, if_neg (by decide)]
/-- is it there? of any kind -/
theorem y_has (X : hX r n b mm lo hi B M) (hk : k ≤ 3) (hx : x < 9223372036854775808) : fX7_has r mm (Int32.ofNat k) (Int64.ofNat x) = some (if x < spL M k then 1 else 0) := by
  obtain ⟨s, cc, -⟩ := X
  have km := s.2.2.1
  unfold spL
  by_cases k0 : k = 0
  · subst k0; rw [if_pos rfl]; exact m_has km (by decide) (cc.2.2.1 (by decide)) hx
  · rw [if_neg k0]
    by_cases k1 : k = 1
    · subst k1; rw [if_pos rfl]; exact m_has km (by decide) (cc.2.2.2.1 (by decide)) hx
    · rw [if_neg k1]
      by_cases k2 : k = 2
      · subst k2; rw [if_pos rfl]; exact m_has km (by decide) (cc.2.2.2.2.1 (by decide)) hx
      · rw [if_neg k2]
        have k3 : k = 3 := by omega
        subst k3; exact m_has km (by decide) (cc.2.2.2.2.2.1 (by decide)) hx
theorem spL_8 (X : hX r n b mm lo hi B M) (k : Nat) : spL M k ≤ 81920 := by
  obtain ⟨s, cc, -⟩ := X
  unfold spL
  split
  · obtain ⟨x, -, -, -, -, -, a, -⟩ := cc.2.2.1 (by decide); exact a
  · split
    · obtain ⟨x, -, -, -, -, -, a, -⟩ := cc.2.2.2.1 (by decide); exact a
    · split
      · obtain ⟨x, -, -, -, -, -, a, -⟩ := cc.2.2.2.2.1 (by decide); exact a
      · obtain ⟨x, -, -, -, -, -, a, -⟩ := cc.2.2.2.2.2.1 (by decide); exact a
theorem y_hasI (X : hX r n b mm lo hi B M) (hk : k ≤ 3) : fX7_has r mm (Int32.ofNat k) (ix3 x).toInt64 = some (if x < spL M k then 1 else 0) := by
  have l8 := spL_8 X k
  rw [ix3_6, y_has X hk (by split <;> omega)]
  have : (if x ≤ 2147483647 then x else 2147483647) < spL M k ↔ x < spL M k := by split <;> omega
  by_cases c : x < spL M k
  · rw [if_pos c, if_pos (this.mpr c)]
  · rw [if_neg c, if_neg (fun z => c (this.mp z))]
/-- the names before -/
theorem x_xp1 (X : yC h0 n b mm lo hi dd B M D) (N : hNb h0 n b B) (g : ∀ a, a ∈ M.2.2.2.2.2.2.1 → gXp n a) {a : tXp} (ha : M.2.2.2.2.2.2.1[i]? = some a) : ∀ (m j : Nat) {o : Option (Nat × Nat)} {r : pm_H}, j + m = i → yS h0 dd (spF M).length o L r → ∃ r', pm_lim sX1_exportsAreRight (.inr (22, Int32.ofNat (i * 4), Int32.ofNat (j * 4), r)) = pm_lim sX1_exportsAreRight (.inl (22, Int32.ofNat ((i + 1) * 4), r')) ∧ yS h0 dd (spF M).length (oE o (if ((M.2.2.2.2.2.2.1.take i).drop j).any (fun y => xSm B a y) = true then some (23, sS M 7) else none)) L r' := by
  have il := some_lt ha
  intro m
  induction m with
  | zero =>
    intro j o r hj S
    have X1 := (yC_F X S.1).1
    obtain ⟨x, a1, a2, a3, a4, a5, a6, a7⟩ := X1.2.1.2.2.2.2.2.2.1 (by decide)
    rw [List.drop_eq_nil_of_le (by rw [List.length_take]; omega)]
    refine ⟨r, k_w (aX1_exportsAreRight_1 ..) ?_, by rw [show (([] : List tXp).any _) = false from rfl, if_neg (by decide), oE_n]; exact S⟩
    unfold tX1_exportsAreRight_76
    refine k_t (by rw [nn_le (by omega) (by omega)]; omega) (k_l ?_)
    rw [show Int32.ofNat (i * 4) + 4 = Int32.ofNat ((i + 1) * 4) from (nn_ad (i * 4) 4).trans (congrArg Int32.ofNat (by omega))]
    rfl
  | succ m ih =>
    intro j o r hj S
    have Xr := yC_F X S.1
    have X1 := Xr.1
    obtain ⟨x, a1, a2, a3, a4, a5, a6, a7⟩ := X1.2.1.2.2.2.2.2.2.1 (by decide)
    have jl : j < M.2.2.2.2.2.2.1.length := by omega
    have hc : M.2.2.2.2.2.2.1[j]? = some M.2.2.2.2.2.2.1[j] := List.getElem?_eq_getElem jl
    have sm := x_sm X1 (hNb_F X S.1 N) g ha hc
    have jt : j < (M.2.2.2.2.2.2.1.take i).length := by rw [List.length_take]; omega
    have dr : (M.2.2.2.2.2.2.1.take i).drop j = M.2.2.2.2.2.2.1[j] :: (M.2.2.2.2.2.2.1.take i).drop (j + 1) := by
      rw [List.drop_eq_getElem_cons jt, List.getElem_take]
    have st : Int32.ofNat (j * 4) + 4 = Int32.ofNat ((j + 1) * 4) := (nn_ad (j * 4) 4).trans (congrArg Int32.ofNat (by omega))
    have q1 := X1.2.2.1.1
    rw [dr, List.any_cons]
    by_cases c : xSm B a M.2.2.2.2.2.2.1[j] = true
    · rw [if_pos c] at sm
      obtain ⟨r1, e1, S1, -⟩ := y_fs (w := 23) (id := 7) (L' := L) X S ⟨by decide, by decide⟩ ⟨by decide, by decide⟩
      obtain ⟨r2, e2, S2⟩ := ih (j + 1) (by omega) S1
      refine ⟨r2, k_w (aX1_exportsAreRight_1 ..) ?_, ?_⟩
      · unfold tX1_exportsAreRight_76
        refine k_f (by rw [nn_le (by omega) (by omega)]; omega) (k_t q1 (k_b sm (k_f (by decide) (k_b e1 (k_l ?_)))))
        rw [st]
        exact k_n e2
      · rw [c, Bool.true_or, if_pos rfl]
        rw [oE_a] at S2
        exact S2
    · rw [if_neg c] at sm
      obtain ⟨r2, e2, S2⟩ := ih (j + 1) (by omega) S
      refine ⟨r2, k_w (aX1_exportsAreRight_1 ..) ?_, ?_⟩
      · unfold tX1_exportsAreRight_76
        refine k_f (by rw [nn_le (by omega) (by omega)]; omega) (k_t q1 (k_b sm (k_t rfl (k_l ?_))))
        rw [st]
        exact k_n e2
      · rw [Bool.eq_false_iff.mpr c, Bool.false_or]
        exact S2
def xpD (l : List tXp) : List Nat := (l.filter fun a => decide (a.2.2.1 = 0)).map fun a => a.2.2.2
theorem x_xp2 (X : yC h0 n b mm lo hi dd B M D) (N : hNb h0 n b B) (g : ∀ a, a ∈ M.2.2.2.2.2.2.1 → gXp n a) : ∀ (m i : Nat) {o : Option (Nat × Nat)} {L : List Nat} {r : pm_H}, i + m = M.2.2.2.2.2.2.1.length → yS h0 dd (spF M).length o L r → ∃ r', pm_lim sX1_exportsAreRight (.inl (22, Int32.ofNat (i * 4), r)) = some r' ∧ yS h0 dd (spF M).length (oE o ((sp_xpC B M (M.2.2.2.2.2.2.1.take i) (M.2.2.2.2.2.2.1.drop i)).map fun w => (w, sS M 7))) (L ++ xpD (M.2.2.2.2.2.2.1.drop i)) r' := by
  intro m
  induction m with
  | zero =>
    intro i o L r hi' S
    have X1 := (yC_F X S.1).1
    obtain ⟨x, a1, a2, a3, a4, a5, a6, a7⟩ := X1.2.1.2.2.2.2.2.2.1 (by decide)
    rw [List.drop_eq_nil_of_le (by omega)]
    refine ⟨r, k_w (aX1_exportsAreRight_0 ..) ?_, by rw [show sp_xpC B M (M.2.2.2.2.2.2.1.take i) [] = none by rw [sp_xpC], Option.map_none, oE_n, show xpD [] = [] from rfl, List.append_nil]; exact S⟩
    unfold tX1_exportsAreRight_2
    exact k_t X1.2.2.1.1 (k_b X1.2.2.1.2.1 (k_t X1.1.2.2.1 (k_b a1 (k_t a4 (k_t (by rw [a5, nn_le (by omega) (by omega)]; omega) rfl)))))
  | succ m ih =>
    intro i o L r hi' S
    have X1 := (yC_F X S.1).1
    have l8 := spL_8 X1
    obtain ⟨x, a1, a2, a3, a4, a5, a6, a7⟩ := X1.2.1.2.2.2.2.2.2.1 (by decide)
    have il : i < M.2.2.2.2.2.2.1.length := by omega
    have ha : M.2.2.2.2.2.2.1[i]? = some M.2.2.2.2.2.2.1[i] := List.getElem?_eq_getElem il
    have dr : M.2.2.2.2.2.2.1.drop i = M.2.2.2.2.2.2.1[i] :: M.2.2.2.2.2.2.1.drop (i + 1) := List.drop_eq_getElem_cons il
    have tk : M.2.2.2.2.2.2.1.take (i + 1) = M.2.2.2.2.2.2.1.take i ++ [M.2.2.2.2.2.2.1[i]] := by rw [List.take_add_one, ha]; rfl
    obtain ⟨a, ea⟩ : ∃ a, a = M.2.2.2.2.2.2.1[i] := ⟨_, rfl⟩
    rw [← ea] at ha dr tk
    obtain ⟨u1, u2, u3, u4⟩ := a7 i a ha
    obtain ⟨g1, g2, g3⟩ := g a (List.mem_of_getElem? ha)
    have item : ∀ k, k < 4 → fX12_item r x (Int32.ofNat (i * 4) + Int32.ofNat k) = some (pm_I r x (i * 4 + k)) := fun k hk => by
      rw [nn_ad]
      exact it_v a4 (by rw [a5]; omega) (by rw [a5]; omega)
    have i2 := item 2 (by decide)
    have i3 := item 3 (by decide)
    rw [u3] at i2
    rw [u4] at i3
    have has := y_hasI (x := a.2.2.2) X1 g2
    have z0 : (Int32.ofNat a.2.2.1 = 0) = (a.2.2.1 = 0) := by rw [n3_0, nn_eq (by omega) (by decide)]
    have tD : L ++ xpD (M.2.2.2.2.2.2.1.drop i) = (L ++ if a.2.2.1 = 0 then [a.2.2.2] else []) ++ xpD (M.2.2.2.2.2.2.1.drop (i + 1)) := by
      rw [dr, List.append_assoc]
      unfold xpD
      by_cases c : a.2.2.1 = 0
      · rw [List.filter_cons_of_pos (by exact decide_eq_true c), if_pos c]
        rfl
      · rw [List.filter_cons_of_neg (by rw [decide_eq_false c]; decide), if_neg c]
        rfl
    have tS : oE o ((sp_xpC B M (M.2.2.2.2.2.2.1.take i) (M.2.2.2.2.2.2.1.drop i)).map fun w => (w, sS M 7)) = oE (oE (oE o (if a.2.2.2 < spL M a.2.2.1 then none else some (24, sS M 7))) (if ((M.2.2.2.2.2.2.1.take i).drop 0).any (fun y => xSm B a y) = true then some (23, sS M 7) else none)) ((sp_xpC B M (M.2.2.2.2.2.2.1.take (i + 1)) (M.2.2.2.2.2.2.1.drop (i + 1))).map fun w => (w, sS M 7)) := by
      rw [oE_a, oE_a, dr, tk, List.drop_zero]
      rw [sp_xpC]
      by_cases c : a.2.2.2 < spL M a.2.2.1
      · rw [if_pos c, if_neg (by omega)]
        by_cases d : (M.2.2.2.2.2.2.1.take i).any (fun y => xSm B a y) = true
        · rw [if_pos d, if_pos d]; rfl
        · rw [if_neg d, if_neg d]; rfl
      · rw [if_neg c, if_pos (by omega)]; rfl
    -- behind the first question
    have go : ∀ {o1 : Option (Nat × Nat)} {r1 : pm_H}, yS h0 dd (spF M).length o1 L r1 → ∃ r', (if Int32.ofNat a.2.2.1 = 0 then (if pm_kd r1 22 = 1 then (fX1_declare r1 22 (ix3 a.2.2.2).toInt64).bind fun v23 => some (.inl (.inr ((22, Int32.ofNat (i * 4), 0, v23)))) else none) else (some (.inl (.inr ((22, Int32.ofNat (i * 4), 0, r1))))) : Option (((Nat × Int32 × pm_H) ⊕ (Nat × Int32 × Int32 × pm_H)) ⊕ pm_H)) = some (.inl (.inr ((22, Int32.ofNat (i * 4), 0, r')))) ∧ yS h0 dd (spF M).length o1 (L ++ if a.2.2.1 = 0 then [a.2.2.2] else []) r' ∧ (Int32.ofNat a.2.2.1 = 0 → (fX1_declare r1 22 (ix3 a.2.2.2).toInt64) = some r') ∧ (¬ Int32.ofNat a.2.2.1 = 0 → r' = r1) := by
      intro o1 r1 S1
      by_cases c : a.2.2.1 = 0
      · have k8 : (spF M).length ≤ 81920 := by have := l8 0; unfold spL at this; rw [if_pos rfl] at this; exact this
        obtain ⟨r2, e2, S2, -, -⟩ := y_dcl (f := if a.2.2.2 ≤ 2147483647 then a.2.2.2 else 2147483647) (g := a.2.2.2) X S1 (by split <;> omega) (by split <;> omega)
        rw [← ix3_6] at e2
        refine ⟨r2, ?_, by rw [if_pos c]; exact S2, fun _ => e2, fun h => absurd (z0.symm ▸ c) h⟩
        exact e9_t (by rw [z0]; exact c) (e9_t (yC_F X S1.1).1.2.2.1.1 (e9_b e2 rfl))
      · refine ⟨r1, e9_f (by rw [z0]; exact c) rfl, by rw [if_neg c, List.append_nil]; exact S1, fun h => absurd (z0 ▸ h) c, fun _ => rfl⟩
    have fin : ∀ {o1 : Option (Nat × Nat)} {r1 : pm_H}, yS h0 dd (spF M).length o1 (L ++ if a.2.2.1 = 0 then [a.2.2.2] else []) r1 → ∃ r', pm_lim sX1_exportsAreRight (.inr (22, Int32.ofNat (i * 4), 0, r1)) = some r' ∧ yS h0 dd (spF M).length (oE (oE o1 (if ((M.2.2.2.2.2.2.1.take i).drop 0).any (fun y => xSm B a y) = true then some (23, sS M 7) else none)) ((sp_xpC B M (M.2.2.2.2.2.2.1.take (i + 1)) (M.2.2.2.2.2.2.1.drop (i + 1))).map fun w => (w, sS M 7))) (L ++ xpD (M.2.2.2.2.2.2.1.drop i)) r' := by
      intro o1 r1 S1
      obtain ⟨r2, e2, S2⟩ := x_xp1 X N g ha i 0 (Nat.zero_add _) S1
      obtain ⟨r3, e3, S3⟩ := ih (i + 1) (by omega) S2
      refine ⟨r3, ?_, by rw [tD]; exact S3⟩
      rw [Nat.zero_mul] at e2
      exact e2.trans e3
    rw [tS]
    by_cases c : a.2.2.2 < spL M a.2.2.1
    · rw [if_pos c] at has
      obtain ⟨r1, -, S1, e1, e1'⟩ := go S
      obtain ⟨r2, e2, S2⟩ := fin S1
      rw [if_pos c, oE_n]
      refine ⟨r2, k_w (aX1_exportsAreRight_0 ..) ?_, S2⟩
      unfold tX1_exportsAreRight_2
      refine k_t X1.2.2.1.1 (k_b X1.2.2.1.2.1 (k_t X1.1.2.2.1 (k_b a1 (k_t a4 (k_f (by rw [a5, nn_le (by omega) (by omega)]; omega) (k_b i2 (k_b i3 (k_b has (k_f (by decide) ?_)))))))))
      by_cases k : Int32.ofNat a.2.2.1 = 0
      · exact k_t k (k_b (e1 k) (k_n e2))
      · rw [e1' k] at e2
        exact k_f k (k_n e2)
    · rw [if_neg c] at has
      obtain ⟨rf, ef, Sf, -⟩ := y_fs (w := 24) (id := 7) (L' := L) X S ⟨by decide, by decide⟩ ⟨by decide, by decide⟩
      obtain ⟨r1, e1, S1, -⟩ := go Sf
      obtain ⟨r2, e2, S2⟩ := fin S1
      rw [if_neg c]
      refine ⟨r2, k_w (aX1_exportsAreRight_0 ..) ?_, S2⟩
      unfold tX1_exportsAreRight_2
      refine k_t X1.2.2.1.1 (k_b X1.2.2.1.2.1 (k_t X1.1.2.2.1 (k_b a1 (k_t a4 (k_f (by rw [a5, nn_le (by omega) (by omega)]; omega) (k_b i2 (k_b i3 (k_b has (k_t rfl (k_b ef ?_))))))))))
      show ev_k _ (if Int32.ofNat a.2.2.1 = 0 then _ else _) = _
      rw [e1]
      exact k_n e2
/-- exports -/
theorem x_xp (X : yC h0 n b mm lo hi dd B M D) (N : hNb h0 n b B) (g : ∀ a, a ∈ M.2.2.2.2.2.2.1 → gXp n a) (S : yS h0 dd (spF M).length o L r) : ∃ r', fX1_exportsAreRight r 22 = some r' ∧ yS h0 dd (spF M).length (oE o ((sp_xpC B M [] M.2.2.2.2.2.2.1).map fun w => (w, sS M 7))) (L ++ xpD M.2.2.2.2.2.2.1) r' := by
  have := x_xp2 X N g M.2.2.2.2.2.2.1.length 0 (Nat.zero_add _) S
  rw [List.take_zero, List.drop_zero, Nat.zero_mul] at this
  exact this
end XXP
