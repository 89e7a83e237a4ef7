/-! THE CLASS CHECKS: what is told without expressions: types -/
abbrev fF : pm_H → pm_H → Prop := gF (fun x y => x = 22 ∧ (y = 0 ∨ y = 1)) (fun _ _ => False)
def hX (h : pm_H) (n b mm lo hi : Nat) (B : Nat → Nat) (M : tMd) : Prop := cS h n b mm B ∧ cMx h mm lo hi 0 M ∧ (pm_kd h 22 = 1 ∧ pm_R h 22 2 = some mm ∧ pm_R h 22 3 = some 19) ∧ (648 < mm ∧ mm < b ∧ b < lo ∧ lo < hi)
/-- the first fault told, or none yet -/
def hS (h0 : pm_H) (o : Option (Nat × Nat)) (r : pm_H) : Prop := fF h0 r ∧ match o with
  | none => pm_I r 22 0 = 0
  | some w => (0 < w.1 ∧ w.1 < 100) ∧ pm_I r 22 0 = Int32.ofNat w.1 ∧ pm_I r 22 1 = Int32.ofNat w.2
def oE (o q : Option (Nat × Nat)) : Option (Nat × Nat) := match o with
  | none => q
  | some w => some w
theorem oE_n (o : Option (Nat × Nat)) : oE o none = o := by cases o <;> rfl
theorem oE_a (o q s : Option (Nat × Nat)) : oE (oE o q) s = oE o (oE q s) := by cases o <;> rfl
section XHD
variable {h0 h h' r : pm_H} {n b mm lo hi id w : Nat} {B : Nat → Nat} {M : tMd} {o : Option (Nat × Nat)}
theorem hX_F (X : hX h n b mm lo hi B M) (F : fF h h') : hX h' n b mm lo hi B M := by
  have K : kC lo hi h h' := fun x h1 h2 => by
    obtain ⟨-, -, -, a1, a2, a3, a4⟩ := X
    exact ⟨by rw [F.2.1], by rw [F.2.2.1], funext fun y => F.2.2.2.2.1 x y (by omega), funext fun y => F.2.2.2.2.2 x y (fun z => z), by rw [F.2.2.2.1]⟩
  obtain ⟨S, C, Q, a1, a2, a3, a4⟩ := X
  have kd := F.2.1
  have ln := F.2.2.1
  have rr := F.2.2.2.1
  refine ⟨?_, cMx_k K (Nat.le_refl _) (.inl rfl) (fun j s _ _ _ => by rw [rr]) (by decide) (F.2.2.2.2.2 mm 13 (fun z => z)) (F.2.2.2.2.2 mm 14 (fun z => z)) C, by rw [kd, rr]; exact Q, a1, a2, a3, a4⟩
  obtain ⟨s1, s2, s3, s4, s5, s6, s7, s8, s9, s10⟩ := S
  unfold cS
  rw [kd, ln, rr]
  exact ⟨s1, s2, s3, s4, s5, s6, s7, s8, fun i hi => by rw [F.2.2.2.2.1 b i (by omega)]; exact s9 i hi, s10⟩
/-- a fault at a section -/
theorem x_fs (X : hX h0 n b mm lo hi B M) (S : hS h0 o r) (hw : 0 < w ∧ w < 100) (hi' : 1 ≤ id ∧ id < 13) : ∃ r', fX1_failSection r 22 (Int32.ofNat w) (Int32.ofNat id) = some r' ∧ hS h0 (oE o (some (w, sS M id))) r' := by
  have Xr := hX_F X S.1
  obtain ⟨s1, c, ⟨q1, q2, q3⟩, a1, a2, a3, a4⟩ := Xr
  obtain ⟨-, -, -, -, -, -, -, -, -, -, -, -, d1, d2, d3, d4, d5⟩ := c
  have km := s1.2.2.1
  have it : fX12_item r lo (Int32.ofNat id) = some (Int32.ofNat (sS M id)) := by
    have e : Int32.ofNat (sS M id) = on3 (M.2.2.2.2.2.2.2.2.2.2.2.2.1 id) := by
      unfold sS
      cases M.2.2.2.2.2.2.2.2.2.2.2.2.1 id with
      | none => show Int32.ofNat 4294967295 = -1; decide
      | some x => rfl
    rw [e, ← d5 id hi'.1 hi'.2]
    exact it_v d3 (by omega) (by omega)
  obtain ⟨F, S⟩ := S
  have hd : ∀ {r' : pm_H}, fX1_failAt r 22 (Int32.ofNat w) (Int32.ofNat (sS M id)) = some r' → fX1_failSection r 22 (Int32.ofNat w) (Int32.ofNat id) = some r' := fun {r'} e => by
    unfold fX1_failSection
    exact e9_t q1 (e9_b q2 (e9_t km (e9_b d1 (e9_b it (e9_b e rfl)))))
  cases o with
  | none =>
    have S : pm_I r 22 0 = 0 := S
    refine ⟨pm_setI (pm_setI r 22 0 (Int32.ofNat w)) 22 1 (Int32.ofNat (sS M id)), hd ?_, gF_t F (gF_t (gF_I r _ ⟨rfl, .inl rfl⟩) (gF_I _ _ ⟨rfl, .inr rfl⟩)), hw, ?_, ?_⟩
    · unfold fX1_failAt
      exact e9_t q1 (e9_t S rfl)
    · rw [ev_II, if_pos rfl, if_neg (by decide), ev_II, if_pos rfl, if_pos rfl]
    · rw [ev_II, if_pos rfl, if_pos rfl]
  | some v =>
    have z1 : 0 < v.1 ∧ v.1 < 100 := S.1
    have z2 : pm_I r 22 0 = Int32.ofNat v.1 := S.2.1
    refine ⟨r, hd ?_, F, S⟩
    unfold fX1_failAt
    exact e9_t q1 (e9_f (by rw [z2, n3_0, nn_eq (by omega) (by decide)]; omega) rfl)
/-- the types of what is imported -/
theorem x_ty1 (X : hX h0 n b mm lo hi B M) (gI : ∀ a, a ∈ M.2.1 → gImp a) : ∀ (j m c : Nat) {o : Option (Nat × Nat)} {r : pm_H}, m + j = M.2.1.length → hS h0 o r → ∃ r', pm_lim sX1_typesAreThere (.inl (22, Int32.ofNat c, Int32.ofNat (m * 6), r)) = pm_lim sX1_typesAreThere (.inr (22, Int32.ofNat (c + (ofK 0 (M.2.1.drop m)).length), r')) ∧ hS h0 (oE o (if (M.2.1.drop m).any (fun a => decide (a.1 = 0) && decide (M.1.length ≤ a.2.1)) = true then some (20, sS M 2) else none)) r' := by
  intro j
  induction j with
  | zero =>
    intro m c o r hm S
    obtain ⟨s1, cc, ⟨q1, q2, q3⟩, -⟩ := hX_F X S.1
    obtain ⟨x, a1, a2, a3, a4, a5, a6, a7⟩ := cc.2.1 (by decide)
    rw [List.drop_eq_nil_of_le (by omega)]
    refine ⟨r, k_w (aX1_typesAreThere_0 ..) ?_, by rw [show (([] : List tImp).any _) = false from rfl, if_neg (by decide), oE_n]; exact S⟩
    unfold tX1_typesAreThere_4
    exact k_t q1 (k_b q2 (k_t s1.2.2.1 (k_b a1 (k_t a4 (k_t (by rw [a5, nn_le (by omega) (by omega)]; omega) rfl)))))
  | succ j ih =>
    intro m c o r hm S
    obtain ⟨s1, cc, ⟨q1, q2, q3⟩, -⟩ := hX_F X S.1
    obtain ⟨x, a1, a2, a3, a4, a5, a6, a7⟩ := cc.2.1 (by decide)
    obtain ⟨xx, t1, t2, t3, t4, t5, t6, t7⟩ := cc.1 (by decide)
    have ml : m < M.2.1.length := by omega
    have ge : M.2.1[m]? = some M.2.1[m] := List.getElem?_eq_getElem ml
    obtain ⟨e1, e2, -⟩ := a7 m _ ge
    have gm := gI _ (List.getElem_mem ml)
    have dr : M.2.1.drop m = M.2.1[m] :: M.2.1.drop (m + 1) := List.drop_eq_getElem_cons ml
    have st : Int32.ofNat (m * 6) + 6 = Int32.ofNat ((m + 1) * 6) := (nn_ad (m * 6) 6).trans (congrArg Int32.ofNat (by omega))
    have item : ∀ j, j < 6 → fX12_item_ r x (Int32.ofNat (m * 6) + Int32.ofNat j) = some (pm_L r x (m * 6 + j)) := fun j hj => by
      rw [nn_ad]
      unfold fX12_item_
      refine e9_f (by rw [n3_0, nn_lt (by omega) (by decide)]; omega) (e9_t a4 (e9_f (by rw [a5, nn_le (by omega) (by omega)]; omega) (e9_t (by rw [a5, nn_in (by omega)]; omega) ?_)))
      rw [nn_cm (by omega)]
    have i0 := item 0 (by decide)
    have i1 := item 1 (by decide)
    rw [Nat.add_zero, e1] at i0
    rw [e2] at i1
    have u2 : M.2.1[m].2.1 < 4294967296 := gm.2.1
    have k3 := gm.1
    have z0 : (Int64.ofNat M.2.1[m].1 = 0) = (M.2.1[m].1 = 0) := by rw [show (0 : Int64) = Int64.ofNat 0 from rfl, ll_eq (by omega) (by decide)]
    rw [dr]
    by_cases d : M.2.1[m].1 = 0
    · have f1 : (ofK 0 (M.2.1[m] :: M.2.1.drop (m + 1))).length = (ofK 0 (M.2.1.drop (m + 1))).length + 1 := by
        unfold ofK
        rw [List.filter_cons_of_pos (by exact decide_eq_true d), List.length_cons]
      by_cases t : M.1.length ≤ M.2.1[m].2.1
      · obtain ⟨r1, g1, S1⟩ := x_fs (w := 20) (id := 2) X S ⟨by decide, by decide⟩ ⟨by decide, by decide⟩
        obtain ⟨r2, g2, S2⟩ := ih (m + 1) (c + 1) (by omega) S1
        refine ⟨r2, k_w (aX1_typesAreThere_0 ..) ?_, ?_⟩
        · unfold tX1_typesAreThere_4
          refine k_t q1 (k_b q2 (k_t s1.2.2.1 (k_b a1 (k_t a4 (k_f (by rw [a5, nn_le (by omega) (by omega)]; omega) (k_b i0 (k_t (by rw [z0]; exact d) (k_l (k_b i1 (k_b t1 (k_t t4 (k_f (by rw [t5, nn_t6 (by omega), ll_lt (by omega) (by omega)]; omega) (k_b g1 (k_l ?_))))))))))))))
          rw [st, show Int32.ofNat c + 1 = Int32.ofNat (c + 1) from nn_ad c 1, f1, show c + ((ofK 0 (M.2.1.drop (m + 1))).length + 1) = c + 1 + (ofK 0 (M.2.1.drop (m + 1))).length by omega]
          exact k_n g2
        · rw [List.any_cons, decide_eq_true d, decide_eq_true t, Bool.and_true, Bool.true_or, if_pos rfl]
          rw [oE_a] at S2
          exact S2
      · obtain ⟨r2, g2, S2⟩ := ih (m + 1) (c + 1) (by omega) S
        refine ⟨r2, k_w (aX1_typesAreThere_0 ..) ?_, ?_⟩
        · unfold tX1_typesAreThere_4
          refine k_t q1 (k_b q2 (k_t s1.2.2.1 (k_b a1 (k_t a4 (k_f (by rw [a5, nn_le (by omega) (by omega)]; omega) (k_b i0 (k_t (by rw [z0]; exact d) (k_l (k_b i1 (k_b t1 (k_t t4 (k_t (by rw [t5, nn_t6 (by omega), ll_lt (by omega) (by omega)]; omega) (k_l ?_)))))))))))))
          rw [st, show Int32.ofNat c + 1 = Int32.ofNat (c + 1) from nn_ad c 1, f1, show c + ((ofK 0 (M.2.1.drop (m + 1))).length + 1) = c + 1 + (ofK 0 (M.2.1.drop (m + 1))).length by omega]
          exact k_n g2
        · rw [List.any_cons, decide_eq_false t, Bool.and_false, Bool.false_or]
          exact S2
    · have f1 : (ofK 0 (M.2.1[m] :: M.2.1.drop (m + 1))).length = (ofK 0 (M.2.1.drop (m + 1))).length := by
        unfold ofK
        rw [List.filter_cons_of_neg (by rw [decide_eq_false d]; decide)]
      obtain ⟨r2, g2, S2⟩ := ih (m + 1) c (by omega) S
      refine ⟨r2, k_w (aX1_typesAreThere_0 ..) ?_, ?_⟩
      · unfold tX1_typesAreThere_4
        refine k_t q1 (k_b q2 (k_t s1.2.2.1 (k_b a1 (k_t a4 (k_f (by rw [a5, nn_le (by omega) (by omega)]; omega) (k_b i0 (k_f (by rw [z0]; exact d) (k_l ?_))))))))
        rw [st, f1]
        exact k_n g2
      · rw [List.any_cons, decide_eq_false d, Bool.false_and, Bool.false_or]
        exact S2
end XHD
