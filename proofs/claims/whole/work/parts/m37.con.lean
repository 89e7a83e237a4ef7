/-! THE CLASS CHECKS: constant expressions -/
section XCON
variable {h0 h h' r : pm_H} {n b mm lo hi dd p p2 e ty nf : Nat} {B : Nat → Nat} {M : tMd} {D : Bool} {o : Option (Nat × Nat)} {L : List Nat} {v : sp_I}
theorem in_208b (hB : ∀ i, B i < 256) (q : sp_in B n D p = .inr (v, p2)) (c208 : v.1 = 208) : B p = 208 := by
  by_cases cz : B p = 252
  · obtain ⟨k, q1, k17, e1, f1, f2, f3, f4⟩ := fur_k hB (in_252 q cz)
    exfalso
    by_cases k8 : k < 8
    · rw [f1 k8] at c208; have c208 : 200 + k = 208 := c208; omega
    · by_cases k1 : k = 10 ∨ k = 11
      · rw [f2 k1] at c208; have c208 : 300 + k = 208 := c208; omega
      · by_cases k2 : k = 12 ∨ k = 14
        · obtain ⟨x, y, q3, q4, -, -, -, -, ev⟩ := f3 k2; rw [ev] at c208; have c208 : 300 + k = 208 := c208; omega
        · obtain ⟨x, q3, -, -, ev⟩ := f4 (by omega); rw [ev] at c208; have c208 : 300 + k = 208 := c208; omega
  · exact ((in_v1 q).1 cz).symm.trans c208
theorem cT_b (hB : ∀ i, B i < 256) (gI : ∀ a, a ∈ M.2.1 → gImp a) (q : sp_in B n D p = .inr (v, p2)) : cT M v < 256 := by
  unfold cT
  by_cases c65 : 65 ≤ v.1 ∧ v.1 ≤ 68
  · rw [if_pos c65]; omega
  rw [if_neg c65]
  by_cases c208 : v.1 = 208
  · rw [if_pos c208]
    obtain ⟨rf, -, ev⟩ := in_208 hB q (in_208b hB q c208)
    have b8 := hB (p + 1)
    rw [ev]
    show (Int64.ofNat (B (p + 1))).toNatClampNeg < 256
    rw [ll_cm (by omega)]
    exact b8
  rw [if_neg c208]
  by_cases c210 : v.1 = 210
  · rw [if_pos c210]; decide
  rw [if_neg c210]
  by_cases c35 : v.1 = 35
  · rw [if_pos c35]
    cases eg : (ofK 3 M.2.1)[v.2.1.toNatClampNeg]? with
    | none => exact (by decide : 0 < 256)
    | some g =>
      have m := List.mem_filter.mp (List.mem_of_getElem? eg)
      have t := isT_u ((gI g m.1).2.2.2.2.2.1 (of_decide_eq_true m.2))
      have t := isT_lt ((gI g m.1).2.2.2.2.2.1 (of_decide_eq_true m.2))
      show (if g.2.2.2.2 = 0 then g.2.1 else 0) < 256
      split <;> omega
  · rw [if_neg c35]; decide
/-- the type of what was read -/
theorem y_ct (X : hX r n b mm lo hi B M) (gI : ∀ a, a ∈ M.2.1 → gImp a) (q : sp_in B n D p = .inr (v, p2)) (k6 : pm_I r 19 6 = Int32.ofNat v.1) (k8 : pm_L r 19 8 = v.2.1) : fX1_constantType r 22 = some (Int32.ofNat (cT M v)) := by
  have hB : ∀ i, B i < 256 := X.1.2.2.2.2.2.2.2.2.2
  have u := (in_fx hB q).1
  obtain ⟨s, cc, ⟨q1, q2, q3⟩, -⟩ := X
  have km := s.2.2.1
  have b28 : ¬ (65 ≤ v.1 ∧ v.1 ≤ 68) → fX1_constantType_b28 r 22 (Int32.ofNat v.1) = some (Int32.ofNat (cT M v)) := by
    intro c65
    have E : ∀ j, j < 1000 → (Int32.ofNat v.1 = Int32.ofNat j) = (v.1 = j) := fun j hj => nn_eq (by omega) (by omega)
    unfold fX1_constantType_b28 cT
    rw [if_neg c65]
    by_cases c208 : v.1 = 208
    · rw [if_pos c208]
      have b208 : B p = 208 := in_208b hB q c208
      obtain ⟨rf, -, ev⟩ := in_208 hB q b208
      have b8 := hB (p + 1)
      refine e9_t (by rw [c208]; rfl) (e9_t q1 (e9_b q3 (e9_t s.1 ?_)))
      rw [k8, ev]
      show some ((Int64.ofNat (B (p + 1))).toInt32) = some (Int32.ofNat (Int64.ofNat (B (p + 1))).toNatClampNeg)
      rw [ll_t3, ll_cm (by omega)]
    rw [if_neg c208]
    refine e9_f (show ¬ Int32.ofNat v.1 = Int32.ofNat 208 by rw [E 208 (by decide)]; exact c208) ?_
    by_cases c210 : v.1 = 210
    · rw [if_pos c210]
      exact e9_t (by rw [c210]; rfl) rfl
    rw [if_neg c210]
    refine e9_f (show ¬ Int32.ofNat v.1 = Int32.ofNat 210 by rw [E 210 (by decide)]; exact c210) ?_
    by_cases c35 : v.1 = 35
    · rw [if_pos c35]
      obtain ⟨x, hx, -, ev⟩ := in_1 hB q (by have := (in_e hB q (c := 35) (by decide) (by decide)).mp c35; omega)
      have im := m_imp (k := 3) km (cc.2.1 (by decide)) (by decide) (fun a ha => by have := (gI a ha).1; omega)
      have il : (ofK 3 M.2.1).length ≤ 81920 := by
        obtain ⟨y, -, -, -, -, -, a6, -⟩ := cc.2.2.2.2.2.1 (by decide)
        unfold spG at a6
        rw [List.length_append, List.length_map] at a6
        omega
      have e8 : pm_L r 19 8 = Int64.ofNat x := by rw [k8, ev]
      have ex : v.2.1.toNatClampNeg = x := by rw [ev]; exact ll_cm (by omega)
      rw [ex]
      refine e9_t (by rw [c35]; rfl) (e9_t q1 (e9_b q3 (e9_t s.1 (e9_b q2 (e9_t km (e9_b im ?_))))))
      rw [e8]
      cases eg : (ofK 3 M.2.1)[x]? with
      | none =>
        have d : (ofK 3 M.2.1).length ≤ x := List.getElem?_eq_none_iff.mp eg
        exact e9_f (by rw [nn_t6 (by omega), ll_lt (by omega) (by omega)]; omega) rfl
      | some g =>
        have d := some_lt eg
        have esp : (spG M)[x]? = some (g, 0) := by
          unfold spG
          rw [List.getElem?_append_left (by rw [List.length_map]; exact d), List.getElem?_map, eg]
          rfl
        have gm := gI g (List.mem_filter.mp (List.mem_of_getElem? eg)).1
        have m1 := gm.2.2.2.2.1
        obtain ⟨y, -, e2, pe⟩ := m_of (k := 3) (j := 2) km (by decide) (cc.2.2.2.2.2.1 (by decide)) (some_lt esp) (by decide)
        obtain ⟨-, -, g2, -⟩ := pe _ esp
        obtain ⟨y', -, e1, pe'⟩ := m_of (k := 3) (j := 1) km (by decide) (cc.2.2.2.2.2.1 (by decide)) (some_lt esp) (by decide)
        obtain ⟨-, g1, -⟩ := pe' _ esp
        rw [g2] at e2
        rw [g1] at e1
        refine e9_t (by rw [nn_t6 (by omega), ll_lt (by omega) (by omega)]; exact d) (e9_l ?_)
        rw [ll_t3]
        refine e9_b e2 ?_
        show (if Int64.ofNat g.2.2.2.2 = 0 then _ else _) = some (Int32.ofNat (if g.2.2.2.2 = 0 then g.2.1 else 0))
        by_cases w : g.2.2.2.2 = 0
        · rw [if_pos w]
          refine e9_t (by rw [w]; rfl) (e9_b e1 ?_)
          show some ((Int64.ofNat g.2.1).toInt32) = _
          rw [ll_t3]
        · rw [if_neg w]
          exact e9_f (show ¬ Int64.ofNat g.2.2.2.2 = Int64.ofNat 0 by rw [ll_eq (by omega) (by decide)]; exact w) rfl
    · rw [if_neg c35]
      exact e9_f (show ¬ Int32.ofNat v.1 = Int32.ofNat 35 by rw [E 35 (by decide)]; exact c35) rfl
  unfold fX1_constantType
  refine e9_t q1 (e9_b q3 (e9_t s.1 (e9_l ?_)))
  rw [k6]
  by_cases d : v.1 < 65
  · exact e9_t (show Int32.ofNat v.1 < Int32.ofNat 65 by rw [nn_lt (by omega) (by decide)]; exact d) (b28 (by omega))
  · refine e9_f (show ¬ Int32.ofNat v.1 < Int32.ofNat 65 by rw [nn_lt (by omega) (by decide)]; exact d) ?_
    by_cases d2 : 68 < v.1
    · exact e9_t (show Int32.ofNat 68 < Int32.ofNat v.1 by rw [nn_lt (by decide) (by omega)]; exact d2) (b28 (by omega))
    · refine e9_f (show ¬ Int32.ofNat 68 < Int32.ofNat v.1 by rw [nn_lt (by decide) (by omega)]; exact d2) ?_
      unfold cT
      rw [if_pos ⟨by omega, by omega⟩, show Int32.ofNat v.1 - 65 = Int32.ofNat (v.1 - 65) from nn_sb (m := v.1) (n := 65) (by omega), show (127 : Int32) - Int32.ofNat (v.1 - 65) = Int32.ofNat (127 - (v.1 - 65)) from nn_sb (m := 127) (by omega)]
      congr 2
      omega
theorem dRun_s (q : sp_in B n D p = .inr (v, p2)) (nb : ¬ (2 ≤ v.1 ∧ v.1 ≤ 4)) (n11 : v.1 ≠ 11) (N : Nat) : dRun B n D (N + 1) 0 p = ((if v.1 = 210 then [v.2.1.toNatClampNeg] else []) ++ (dRun B n D N 0 p2).1, (dRun B n D N 0 p2).2) := by
  rw [dRun, q]
  show (if v.1 = 11 ∧ 0 = 0 then _ else _) = _
  rw [if_neg (fun z => n11 z.1), if_neg nb, if_neg n11]
  by_cases c : v.1 = 210
  · rw [if_pos c, if_pos c]; rfl
  · rw [if_neg c, if_neg c]; rfl
def mOr (a b : Option Nat) : Option Nat := match a with
  | none => b
  | some x => some x
theorem mOr_n (a : Option Nat) : mOr a none = a := by cases a <;> rfl
/-- the loop over the instructions -/
theorem y_cl (X : yC h0 n b mm lo hi dd B M D) (gI : ∀ a, a ∈ M.2.1 → gImp a) : ∀ (N p k g i : Nat) {mis : Option Nat} {L : List Nat} {r : pm_H}, eY B n D 0 p e → n + 1 ≤ p + N → i ≤ p → (∀ x, mis = some x → x < 2147483648) → yS h0 dd (spF M).length none L r → yR r n p → match cRun B n D M N p k g with
    | .inl w => ∃ k' g' m' r', pm_lim sX1_constant (.inl (22, Int32.ofNat ty, Int32.ofNat k, Int32.ofNat g, on3 mis, Int32.ofNat i, r)) = pm_lim sX1_constant (.inr (.inl (22, Int32.ofNat ty, k', g', m', r'))) ∧ ∀ L', yS h0 dd (spF M).length (some w) L' r'
    | .inr (v, e') => ∃ r', pm_lim sX1_constant (.inl (22, Int32.ofNat ty, Int32.ofNat k, Int32.ofNat g, on3 mis, Int32.ofNat i, r)) = pm_lim sX1_constant (.inr (.inl (22, Int32.ofNat ty, Int32.ofNat v.1, Int32.ofNat v.2.1, on3 (mOr mis v.2.2), r'))) ∧ yS h0 dd (spF M).length none (L ++ (dRun B n D N 0 p).1) r' ∧ yR r' n (dRun B n D N 0 p).2 ∧ pm_I r' 19 7 = Int32.ofNat e' ∧ (dRun B n D N 0 p).2 = e ∧ e' + 1 = e ∧ v.1 ≤ k + N ∧ (g < 256 → v.2.1 < 256) ∧ (∀ x, mOr mis v.2.2 = some x → x < 2147483648) := by
  intro N
  induction N with
  | zero =>
    intro p k g i mis L r E hN
    obtain ⟨v, p2, e1, u1, u2, -⟩ := eY_step E
    omega
  | succ N ih =>
    intro p k g i mis L r E hN hi' hm S R
    obtain ⟨v, p2, e1, u1, u2, E2⟩ := eY_step E
    have Xr := (yC_F X S.1).1
    have hB : ∀ i, B i < 256 := Xr.1.2.2.2.2.2.2.2.2.2
    have n4 : n ≤ 40960 := Xr.1.2.2.2.2.2.2.1
    have vb := (in_fx hB e1).1
    obtain ⟨r1, g1, S1, R1, k6, k7, k8⟩ := y_rd X S R (by omega) e1
    have X1 := (yC_F X S1.1).1
    have ct := y_ct X1 gI e1 k6 k8
    have c256 := cT_b hB gI e1
    have f0 : pm_I r 22 0 = 0 := S.2.1
    have out : ∀ {w : Nat × Nat} {L' : List Nat} {r3 : pm_H} {k' g' m' i' : Int32}, yS h0 dd (spF M).length (some w) L' r3 → pm_lim sX1_constant (.inl (22, Int32.ofNat ty, k', g', m', i', r3)) = pm_lim sX1_constant (.inr (.inl (22, Int32.ofNat ty, k', g', m', r3))) := by
      intro w L' r3 k' g' m' i' S3
      obtain ⟨⟨s1, s2, s3, s4, s5, s6, s7, -⟩, -, ⟨q1, q2, q3⟩, -⟩ := (yC_F X S3.1).1
      have z1 : 0 < w.1 ∧ w.1 < 100 := S3.2.1
      have z2 : pm_I r3 22 0 = Int32.ofNat w.1 := S3.2.2.1
      refine k_w (aX1_constant_0 ..) ?_
      unfold tX1_constant_10
      refine k_t q1 (k_b q2 (k_t s3 (k_b s4 (k_t s5 ?_))))
      by_cases d : Int32.ofNat (pm_ln r3 b) < i'
      · exact k_t d rfl
      · exact k_f d (k_f (by rw [z2, n3_0, nn_eq (by omega) (by decide)]; omega) rfl)
    have pre : ∀ {Y : Option pm_H}, ev_k sX1_constant (if pm_I r1 19 6 = 11 then (some (.inl (.inr (.inl ((22, Int32.ofNat ty, Int32.ofNat k, Int32.ofNat g, on3 mis, r1)))))) else ((fX1_constantType r1 22).bind fun v20 => if v20 = 0 then ((fX1_fail r1 22 26).bind fun v23 => some (.inl (.inr (.inr (.inl ((22, Int32.ofNat ty, Int32.ofNat k, v20, on3 mis, Int32.ofNat i, v23))))))) else (some (.inl (.inr (.inr (.inl ((22, Int32.ofNat ty, Int32.ofNat k, v20, on3 mis, Int32.ofNat i, r1)))))))) ) = Y → pm_lim sX1_constant (.inl (22, Int32.ofNat ty, Int32.ofNat k, Int32.ofNat g, on3 mis, Int32.ofNat i, r)) = Y := by
      intro Y H
      obtain ⟨⟨s1, s2, s3, s4, s5, s6, s7, -⟩, -, ⟨q1, q2, q3⟩, -⟩ := Xr
      obtain ⟨⟨t1, -⟩, -, ⟨w1, w2, w3⟩, -⟩ := X1
      refine k_w (aX1_constant_0 ..) ?_
      unfold tX1_constant_10
      exact k_t q1 (k_b q2 (k_t s3 (k_b s4 (k_t s5 (k_f (by rw [s6, nn_lt (by omega) (by omega)]; omega) (k_t f0 (k_b q3 (k_t s1 (k_b g1 (k_t w1 (k_b w3 (k_t t1 H))))))))))))
    rw [cRun, e1]
    show match (if v.1 = 11 then .inr ((k, g, none), p) else if cT M v = 0 then .inl (26, p) else sp_b (cRun B n D M N p2 (k + 1) (cT M v)) fun r e => .inr ((r.1, r.2.1, if v.1 = 210 ∧ (spF M).length ≤ v.2.1.toNatClampNeg then some p else r.2.2), e) : sp_O (Nat × Nat × Option Nat)) with
      | .inl w => _
      | .inr (v, e') => _
    by_cases c11 : v.1 = 11
    · rw [if_pos c11]
      have p21 : p2 = p + 1 := by
        obtain ⟨-, z⟩ := in_c e1
        rw [if_pos (.inr ((in_e hB e1 (c := 11) (by decide) (by decide)).mp c11))] at z
        cases z
        rfl
      have de : dRun B n D (N + 1) 0 p = ([], p + 1) := by
        rw [dRun, e1]
        show (if v.1 = 11 ∧ 0 = 0 then _ else _) = _
        rw [if_pos ⟨c11, rfl⟩]
      have ee : e = p2 := by
        rcases E2 with ⟨-, -, c3⟩ | ⟨c1, -⟩
        · exact c3
        · exact absurd ⟨c11, rfl⟩ c1
      refine ⟨r1, pre (k_t (by rw [k6, c11]; rfl) ?_), ?_, ?_, k7, ?_, ?_, ?_, fun h => h, ?_⟩
      · show _ = pm_lim sX1_constant (.inr (.inl (22, Int32.ofNat ty, Int32.ofNat k, Int32.ofNat g, on3 (mOr mis none), r1)))
        rw [mOr_n]
        rfl
      · rw [de, List.append_nil]; exact S1
      · rw [de, ← p21]; exact R1
      · rw [de, ee, p21]
      · rw [ee, p21]
      · exact Nat.le_add_right _ _
      · show ∀ x, mOr mis none = some x → _
        rw [mOr_n]; exact hm
    rw [if_neg c11]
    have n11 : ¬ pm_I r1 19 6 = 11 := by rw [k6, show (11 : Int32) = Int32.ofNat 11 from rfl, nn_eq (by omega) (by decide)]; exact c11
    have n210 : ∀ {r : pm_H}, pm_I r 19 6 = Int32.ofNat v.1 → (pm_I r 19 6 = 210) = (v.1 = 210) := fun {r} h => by rw [h, show (210 : Int32) = Int32.ofNat 210 from rfl, nn_eq (by omega) (by decide)]
    by_cases c0 : cT M v = 0
    · rw [if_pos c0]
      have c210 : v.1 ≠ 210 := fun z => by
        unfold cT at c0
        rw [if_neg (by omega), if_neg (by omega), if_pos z] at c0
        exact absurd c0 (by decide)
      obtain ⟨r2, e2, S2, F2⟩ := y_fl (w := 26) (p := p) (L' := L) X S1 ⟨by decide, by decide⟩ (fun _ => k7)
      obtain ⟨⟨t1, -⟩, -, ⟨w1, w2, w3⟩, -⟩ := (yC_F X S2.1).1
      refine ⟨Int32.ofNat k + 1, Int32.ofNat (cT M v), on3 mis, r2, pre (k_f n11 (k_b ct (k_t (by rw [c0]; rfl) (k_b e2 (k_n (k_w (aX1_constant_2 ..) ?_)))))), fun L' => S2⟩
      unfold tX1_constant_67
      refine k_t w1 (k_b w3 (k_t t1 (k_f (by rw [n210 ((fF_19 F2 6).trans k6)]; exact c210) (k_n (k_w (aX1_constant_3 ..) ?_)))))
      unfold tX1_constant_112
      exact k_t w1 (k_b w3 (k_t t1 (k_f (by rw [n210 ((fF_19 F2 6).trans k6)]; exact c210) (k_l (k_l (k_n (out S2)))))))
    rw [if_neg c0]
    obtain ⟨nb, -⟩ := cT_bk hB e1 c0
    have E3 : eY B n D 0 p2 e := by
      rcases E2 with ⟨c1, -⟩ | ⟨-, E2⟩
      · exact absurd c1 c11
      · rwa [if_neg nb, if_neg c11] at E2
    have dr := dRun_s e1 nb c11 N
    obtain ⟨⟨t1, -⟩, -, ⟨w1, w2, w3⟩, -⟩ := id X1
    have km : pm_kd r1 mm = 7 := X1.1.2.2.1
    -- what follows
    have go : ∀ {mis' : Option Nat} {L1 : List Nat} {r2 : pm_H}, mis' = (if v.1 = 210 ∧ (spF M).length ≤ v.2.1.toNatClampNeg then mOr mis (some p) else mis) → L1 = L ++ (if v.1 = 210 then [v.2.1.toNatClampNeg] else []) → yS h0 dd (spF M).length none L1 r2 → yR r2 n p2 → pm_lim sX1_constant (.inl (22, Int32.ofNat ty, Int32.ofNat k, Int32.ofNat g, on3 mis, Int32.ofNat i, r)) = pm_lim sX1_constant (.inl (22, Int32.ofNat ty, Int32.ofNat (k + 1), Int32.ofNat (cT M v), on3 mis', Int32.ofNat (i + 1), r2)) → match sp_b (cRun B n D M N p2 (k + 1) (cT M v)) (fun r e => (.inr ((r.1, r.2.1, if v.1 = 210 ∧ (spF M).length ≤ v.2.1.toNatClampNeg then some p else r.2.2), e) : sp_O (Nat × Nat × Option Nat))) with
      | .inl w => ∃ k' g' m' r', pm_lim sX1_constant (.inl (22, Int32.ofNat ty, Int32.ofNat k, Int32.ofNat g, on3 mis, Int32.ofNat i, r)) = pm_lim sX1_constant (.inr (.inl (22, Int32.ofNat ty, k', g', m', r'))) ∧ ∀ L', yS h0 dd (spF M).length (some w) L' r'
      | .inr (v, e') => ∃ r', pm_lim sX1_constant (.inl (22, Int32.ofNat ty, Int32.ofNat k, Int32.ofNat g, on3 mis, Int32.ofNat i, r)) = pm_lim sX1_constant (.inr (.inl (22, Int32.ofNat ty, Int32.ofNat v.1, Int32.ofNat v.2.1, on3 (mOr mis v.2.2), r'))) ∧ yS h0 dd (spF M).length none (L ++ (dRun B n D (N + 1) 0 p).1) r' ∧ yR r' n (dRun B n D (N + 1) 0 p).2 ∧ pm_I r' 19 7 = Int32.ofNat e' ∧ (dRun B n D (N + 1) 0 p).2 = e ∧ e' + 1 = e ∧ v.1 ≤ k + (N + 1) ∧ (g < 256 → v.2.1 < 256) ∧ (∀ x, mOr mis v.2.2 = some x → x < 2147483648) := by
      intro mis' L1 r2 em eL S2 R2 eq
      have hm' : ∀ x, mis' = some x → x < 2147483648 := by
        intro x hx
        rw [em] at hx
        split at hx
        · cases mis with
          | none => cases hx; omega
          | some y => exact hm x hx
        · exact hm x hx
      have I := ih p2 (k + 1) (cT M v) (i + 1) E3 (by omega) (by omega) hm' S2 R2
      rw [eq, dr]
      cases ho : cRun B n D M N p2 (k + 1) (cT M v) with
      | inl w => rw [ho] at I; exact I
      | inr z =>
        obtain ⟨rr, e'⟩ := z
        rw [ho] at I
        obtain ⟨r', a1, a2, a3, a4, a5, a6, a7, a8, a9⟩ := I
        have me : mOr mis (if v.1 = 210 ∧ (spF M).length ≤ v.2.1.toNatClampNeg then some p else rr.2.2) = mOr mis' rr.2.2 := by
          rw [em]
          by_cases c : v.1 = 210 ∧ (spF M).length ≤ v.2.1.toNatClampNeg
          · rw [if_pos c, if_pos c]; cases mis <;> rfl
          · rw [if_neg c, if_neg c]
        refine ⟨r', ?_, ?_, a3, a4, a5, a6, ?_, fun _ => a8 c256, ?_⟩
        · show _ = pm_lim sX1_constant (.inr (.inl (22, Int32.ofNat ty, Int32.ofNat rr.1, Int32.ofNat rr.2.1, on3 (mOr mis (if v.1 = 210 ∧ (spF M).length ≤ v.2.1.toNatClampNeg then some p else rr.2.2)), r')))
          rw [me]; exact a1
        · rw [eL, List.append_assoc] at a2; exact a2
        · show rr.1 ≤ _
          omega
        · show ∀ x, mOr mis (if v.1 = 210 ∧ (spF M).length ≤ v.2.1.toNatClampNeg then some p else rr.2.2) = some x → _
          rw [me]; exact a9
    have z0 : ¬ Int32.ofNat (cT M v) = 0 := by rw [n3_0, nn_eq (by omega) (by decide)]; exact c0
    by_cases c210 : v.1 = 210
    · obtain ⟨x, hx, -, ev⟩ := in_1 hB e1 (by have := (in_e2 hB e1).mp c210; omega)
      have ex : v.2.1.toNatClampNeg = x := by rw [ev]; exact ll_cm (by omega)
      have e8 : pm_L r1 19 8 = Int64.ofNat x := by rw [k8, ev]
      have has := y_has (k := 0) X1 (by decide) (show x < 9223372036854775808 by omega)
      rw [← e8] at has
      obtain ⟨r2, e2, S2, F19, FL⟩ := y_dcl (f := x) (g := x) X S1 (by omega) (.inl rfl)
      rw [← e8] at e2
      have R2 : yR r2 n p2 := by
        obtain ⟨y1, y2, y3, y4⟩ := R1
        exact ⟨(congrFun F19 1).trans y1, (congrFun F19 2).trans y2, (congrFun F19 3).trans y3, (congrFun F19 16).trans y4⟩
      have b112 : ∀ {m' : Int32}, pm_lim sX1_constant (.inr (.inr (.inr (22, Int32.ofNat ty, Int32.ofNat k, Int32.ofNat (cT M v), m', Int32.ofNat i, r1)))) = pm_lim sX1_constant (.inl (22, Int32.ofNat ty, Int32.ofNat (k + 1), Int32.ofNat (cT M v), m', Int32.ofNat (i + 1), r2)) := by
        intro m'
        refine k_w (aX1_constant_3 ..) ?_
        unfold tX1_constant_112
        refine k_t w1 (k_b w3 (k_t t1 (k_t (by rw [n210 k6]; exact c210) (k_b e2 (k_l (k_l ?_))))))
        rw [show Int32.ofNat k + 1 = Int32.ofNat (k + 1) from nn_ad k 1, show Int32.ofNat i + 1 = Int32.ofNat (i + 1) from nn_ad i 1]
        rfl
      have p67 : ∀ {Y : Option pm_H}, ev_k sX1_constant (if (if x < spL M 0 then (1 : Int32) else 0) = 0 then (if 0 ≤ on3 mis then (some (.inl (.inr (.inr (.inr ((22, Int32.ofNat ty, Int32.ofNat k, Int32.ofNat (cT M v), on3 mis, Int32.ofNat i, r1))))))) else (pm_let (pm_I r1 19 7) fun y57 => some (.inl (.inr (.inr (.inr ((22, Int32.ofNat ty, Int32.ofNat k, Int32.ofNat (cT M v), y57, Int32.ofNat i, r1)))))))) else (some (.inl (.inr (.inr (.inr ((22, Int32.ofNat ty, Int32.ofNat k, Int32.ofNat (cT M v), on3 mis, Int32.ofNat i, r1)))))))) = Y → pm_lim sX1_constant (.inl (22, Int32.ofNat ty, Int32.ofNat k, Int32.ofNat g, on3 mis, Int32.ofNat i, r)) = Y := by
        intro Y H
        refine pre (k_f n11 (k_b ct (k_f z0 (k_n (k_w (aX1_constant_2 ..) ?_)))))
        unfold tX1_constant_67
        exact k_t w1 (k_b w3 (k_t t1 (k_t (by rw [n210 k6]; exact c210) (k_b w2 (k_t km (k_b has H))))))
      have sl : spL M 0 = (spF M).length := rfl
      by_cases cx : x < (spF M).length
      · exact go (mis' := mis) (L1 := L ++ [x]) (by rw [if_neg (fun z => by rw [ex] at z; omega)]) (by rw [if_pos c210, ex]) S2 R2 (p67 (k_f (by rw [sl, if_pos cx]; decide) (k_n b112)))
      · cases mis with
        | none =>
          refine go (mis' := some p) (L1 := L ++ [x]) (by rw [if_pos ⟨c210, by rw [ex]; omega⟩]; rfl) (by rw [if_pos c210, ex]) S2 R2 (p67 (k_t (by rw [sl, if_neg cx]) (k_f (by decide) (k_l ?_))))
          rw [k7]
          exact k_n b112
        | some y =>
          have y31 := hm y rfl
          exact go (mis' := some y) (L1 := L ++ [x]) (by rw [if_pos ⟨c210, by rw [ex]; omega⟩]; rfl) (by rw [if_pos c210, ex]) S2 R2 (p67 (k_t (by rw [sl, if_neg cx]) (k_t (show Int32.ofNat 0 ≤ Int32.ofNat y by rw [nn_le (by decide) y31]; exact Nat.zero_le y) (k_n b112))))
    · refine go (mis' := mis) (L1 := L) (by rw [if_neg (fun z => c210 z.1)]) (by rw [if_neg c210, List.append_nil]) S1 R1 (pre (k_f n11 (k_b ct (k_f z0 (k_n (k_w (aX1_constant_2 ..) ?_))))))
      unfold tX1_constant_67
      refine k_t w1 (k_b w3 (k_t t1 (k_f (by rw [n210 k6]; exact c210) (k_n (k_w (aX1_constant_3 ..) ?_)))))
      unfold tX1_constant_112
      refine k_t w1 (k_b w3 (k_t t1 (k_f (by rw [n210 k6]; exact c210) (k_l (k_l ?_)))))
      rw [show Int32.ofNat k + 1 = Int32.ofNat (k + 1) from nn_ad k 1, show Int32.ofNat i + 1 = Int32.ofNat (i + 1) from nn_ad i 1]
      rfl
end XCON
