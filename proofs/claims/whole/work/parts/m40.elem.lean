/-! THE CLASS CHECKS: element segments -/
section XELM
variable {h0 h h' r : pm_H} {n b mm lo hi dd p p1 p2 e ty nf y : Nat} {B : Nat → Nat} {M : tMd} {D : Bool} {o : Option (Nat × Nat)} {L L' : List Nat} {v : sp_I} {w : Nat × Nat} {I T tb act cnt : Int32}
theorem y_nmb (X : yC h0 n b mm lo hi dd B M D) (S : yS h0 dd nf o L r) (R : yR r n p1) (q : sp_num B n p1 = .inr (y, p2)) : ∃ r', fX9_number r 19 32 = some (Int64.ofNat y, r') ∧ yS h0 dd nf o L r' ∧ yR r' n p2 := by
  obtain ⟨X1, -, hd, -⟩ := yC_F X S.1
  obtain ⟨i1, i2, i3, i16⟩ := R
  have lt := num_lt q
  have e0 : rc r (Int32.ofNat p1) 0 (pm_I r 19 4) = r := by rw [← i1, ← i3]; exact rc_eta r
  have Q := cs_num X1.1 i2 (Nat.le_refl n) (Nat.le_of_lt lt.1) (pm_I r 19 4)
  rw [q, e0] at Q
  obtain ⟨r', e, er⟩ := Q
  have es : rc r (Int32.ofNat p2) 0 (pm_I r 19 4) = pm_setI r 19 1 (Int32.ofNat p2) := by
    have := rc_s1 (h := r) (p := Int32.ofNat p1) (f := 0) (q := pm_I r 19 4) (v := Int32.ofNat p2)
    rw [e0] at this
    exact this.symm
  obtain ⟨-, -, -, a1, a2, a3, a4⟩ := X1
  have k : ∀ x y, ¬ (x = 19 ∧ y = 1) → pm_I (pm_setI r 19 1 (Int32.ofNat p2)) x y = pm_I r x y := fun x y hn => by
    rw [ev_II]
    by_cases c : x = 19
    · rw [if_pos c, if_neg (fun z => hn ⟨c, z⟩)]
    · rw [if_neg c]
  refine ⟨pm_setI r 19 1 (Int32.ofNat p2), by rw [e, er, ← es], ⟨gF_t S.1 (gF_I r _ (.inr (.inl rfl))), ?_⟩, by rw [ev_II, if_pos rfl, if_pos rfl], (k 19 2 (by decide)).trans i2, (k 19 3 (by decide)).trans i3, (k 19 16 (by decide)).trans i16⟩
  cases o with
  | none => exact ⟨(k _ _ (by decide)).trans S.2.1, fun i hi => by rw [k dd i (by omega)]; exact S.2.2 i hi⟩
  | some v => exact ⟨S.2.1, (k _ _ (by decide)).trans S.2.2.1, (k _ _ (by decide)).trans S.2.2.2⟩
/-- functions by number -/
theorem x_el1 (X : yC h0 n b mm lo hi dd B M D) {count : Nat} (hc : count < 2147483648) : ∀ (m j : Nat) {o : Option (Nat × Nat)} {L : List Nat} {r : pm_H} {l : List Nat} {pos p3 : Nat}, j + m = count → sp_rows (sp_num B n) m pos = .inr (l, p3) → yS h0 dd (spF M).length o L r → yR r n pos → ∃ r', pm_lim sX1_elementsAreRight (.inr (.inr (.inl (22, I, Int32.ofNat count, T, tb, 0, act, Int32.ofNat j, r)))) = pm_lim sX1_elementsAreRight (.inr (.inr (.inr (.inl (22, I, Int32.ofNat count, T, tb, 0, act, r'))))) ∧ yS h0 dd (spF M).length (oE o (if l.any (fun f => decide ((spF M).length ≤ f)) = true then some (28, sS M 9) else none)) (L ++ l) r' := by
  intro m
  induction m with
  | zero =>
    intro j o L r l pos p3 hj q S R
    cases q
    refine ⟨r, k_w (aX1_elementsAreRight_2 ..) ?_, by rw [show (([] : List Nat).any _) = false from rfl, if_neg (by decide), oE_n, List.append_nil]; exact S⟩
    unfold tX1_elementsAreRight_138
    exact k_t (by rw [nn_le (by omega) (by omega)]; omega) rfl
  | succ m ih =>
    intro j o L r l pos p3 hj q S R
    rw [sp_rows] at q
    obtain ⟨f, p4, e1, e2⟩ := b_inv q
    obtain ⟨l', p5, e3, e4⟩ := b_inv e2
    cases e4
    obtain ⟨s, cc, ⟨q1, q2, q3⟩, -⟩ := (yC_F X S.1).1
    have hB : ∀ i, B i < 256 := s.2.2.2.2.2.2.2.2.2
    have f32 := sp_num_v hB e1
    obtain ⟨r1, g1, S1, R1⟩ := y_nmb X S R e1
    have X1 := (yC_F X S1.1).1
    have has := y_has (k := 0) (x := f) X1 (by decide) (by omega)
    obtain ⟨s', cc', ⟨q1', q2', q3'⟩, -⟩ := id X1
    have sl : spL M 0 = (spF M).length := rfl
    have st : Int32.ofNat j + 1 = Int32.ofNat (j + 1) := nn_ad j 1
    have yRk : ∀ {r r' : pm_H}, pm_I r' 19 = pm_I r 19 → yR r n p4 → yR r' n p4 := fun {r r'} h R => ⟨(congrFun h 1).trans R.1, (congrFun h 2).trans R.2.1, (congrFun h 3).trans R.2.2.1, (congrFun h 16).trans R.2.2.2⟩
    rw [List.any_cons]
    by_cases c : (spF M).length ≤ f
    · rw [if_neg (by rw [sl]; omega)] at has
      obtain ⟨r2, g2, S2, F2⟩ := y_fs (w := 28) (id := 9) (L' := L) X S1 ⟨by decide, by decide⟩ ⟨by decide, by decide⟩
      obtain ⟨r3, g3, S3, k3, -⟩ := y_dcl (f := f) (g := f) X S2 (by omega) (.inl rfl)
      obtain ⟨r4, g4, S4⟩ := ih (j + 1) (by omega) e3 S3 (yRk k3 (yR_f F2 R1))
      refine ⟨r4, k_w (aX1_elementsAreRight_2 ..) ?_, ?_⟩
      · unfold tX1_elementsAreRight_138
        refine k_f (by rw [nn_le (by omega) (by omega)]; omega) (k_t rfl (k_t q1 (k_b q3 (k_t s.1 (k_b g1 (k_t q1' (k_b q2' (k_t s'.2.2.1 (k_b has (k_t rfl (k_b g2 (k_t (yC_F X S2.1).1.2.2.1.1 (k_b g3 (k_l ?_))))))))))))))
        rw [st]
        exact k_n g4
      · rw [decide_eq_true c, Bool.true_or, if_pos rfl]
        rw [oE_a] at S4
        exact yS_L S4 (oE_ns _ _)
    · rw [if_pos (by rw [sl]; omega)] at has
      obtain ⟨r3, g3, S3, k3, -⟩ := y_dcl (f := f) (g := f) X S1 (by omega) (.inl rfl)
      obtain ⟨r4, g4, S4⟩ := ih (j + 1) (by omega) e3 S3 (yRk k3 R1)
      refine ⟨r4, k_w (aX1_elementsAreRight_2 ..) ?_, ?_⟩
      · unfold tX1_elementsAreRight_138
        refine k_f (by rw [nn_le (by omega) (by omega)]; omega) (k_t rfl (k_t q1 (k_b q3 (k_t s.1 (k_b g1 (k_t q1' (k_b q2' (k_t s'.2.2.1 (k_b has (k_f (by decide) (k_b g3 (k_l ?_))))))))))))
        rw [st]
        exact k_n g4
      · rw [decide_eq_false c, Bool.false_or]
        rw [List.append_assoc] at S4
        exact S4
/-- functions by expressions -/
theorem x_el2 (X : yC h0 n b mm lo hi dd B M D) (gI : ∀ a, a ∈ M.2.1 → gImp a) (ht : ty < 256) {count md : Nat} (hm : ¬ md / 4 % 2 = 0) (hc : count < 2147483648) {i : Nat} : ∀ (m j : Nat) {o : Option (Nat × Nat)} {L : List Nat} {r : pm_H} {l : List Nat} {pos p3 : Nat}, j + m = count → sp_rows (sp_it B n D md) m pos = .inr (l, p3) → yS h0 dd (spF M).length o L r → (o = none → yR r n pos) → ∃ r', pm_lim sX1_elementsAreRight (.inr (.inr (.inr (.inr (.inr (22, Int32.ofNat (i * 7), Int32.ofNat count, Int32.ofNat ty, 1, Int32.ofNat j, r)))))) = pm_lim sX1_elementsAreRight (.inl (22, Int32.ofNat ((i + 1) * 7), r')) ∧ yS h0 dd (spF M).length (oE o (oU (sp_cons B n D M ty m pos))) (L ++ dExs B n D m pos) r' := by
  have st7 : Int32.ofNat (i * 7) + 7 = Int32.ofNat ((i + 1) * 7) := (nn_ad (i * 7) 7).trans (congrArg Int32.ofNat (by omega))
  intro m
  induction m with
  | zero =>
    intro j o L r l pos p3 hj q S R
    refine ⟨r, k_w (aX1_elementsAreRight_5 ..) ?_, by rw [sp_cons, show oU (.inr ((), pos) : sp_O Unit) = none from rfl, oE_n, show dExs B n D 0 pos = [] from rfl, List.append_nil]; exact S⟩
    unfold tX1_elementsAreRight_299
    refine k_t (by rw [nn_le (by omega) (by omega)]; omega) (k_l ?_)
    rw [st7]
    rfl
  | succ m ih =>
    intro j o L r l pos p3 hj q S R
    obtain ⟨s, cc, ⟨q1, q2, q3⟩, -⟩ := (yC_F X S.1).1
    cases o with
    | some w =>
      have z1 : 0 < w.1 ∧ w.1 < 100 := S.2.1
      have z2 : pm_I r 22 0 = Int32.ofNat w.1 := S.2.2.1
      refine ⟨r, k_w (aX1_elementsAreRight_5 ..) ?_, S⟩
      unfold tX1_elementsAreRight_299
      refine k_f (by rw [nn_le (by omega) (by omega)]; omega) (k_f (by decide) (k_t q1 (k_f (by rw [z2, n3_0, nn_eq (by omega) (by decide)]; omega) (k_l ?_))))
      rw [st7]
      rfl
    | none =>
      rw [sp_rows] at q
      obtain ⟨f, p4, e1, e2⟩ := b_inv q
      obtain ⟨l', p5, e3, e4⟩ := b_inv e2
      have E : eY B n D 0 pos p4 := by
        unfold sp_it at e1
        rw [if_neg hm] at e1
        obtain ⟨w, p6, e5, e6⟩ := b_inv e1
        cases e6
        exact ⟨false, n + 1, [], w, e5, rfl⟩
      obtain ⟨r1, g1, S1, h1⟩ := y_con (ty := ty) X gI ht (fun _ => E) S R
      obtain ⟨r2, g2, S2⟩ := ih (j + 1) (by omega) e3 S1 (fun h => (h1 h).1)
      refine ⟨r2, k_w (aX1_elementsAreRight_5 ..) ?_, ?_⟩
      · unfold tX1_elementsAreRight_299
        refine k_f (by rw [nn_le (by omega) (by omega)]; omega) (k_f (by decide) (k_t q1 (k_t S.2.1 (k_b g1 (k_l ?_)))))
        rw [show Int32.ofNat j + 1 = Int32.ofNat (j + 1) from nn_ad j 1]
        exact k_n g2
      · rw [sp_cons, oU_b]
        cases hc : sp_con B n D M pos ty with
        | inl w => rw [hc] at S2; exact S2
        | inr z =>
          obtain ⟨a1, a2, a3⟩ := h1 (by rw [hc]; rfl)
          have a3 : sp_con B n D M pos ty = .inr ((), p4) := a3
          rw [hc] at a3
          cases a3
          rw [hc, List.append_assoc] at S2
          show yS _ _ _ (oU (sp_cons B n D M ty m p4)) (L ++ ((dEx B n D pos).1 ++ dExs B n D m (dEx B n D pos).2)) _
          rw [a2]
          exact S2
/-- what element segments declare, in the class's order -/
def elD (B : Nat → Nat) (n : Nat) (D : Bool) (a : tEl) : List Nat := (if a.1 / 4 % 2 = 0 then a.2.2.2 else []) ++ (if a.2.1.1 = 0 then (dEx B n D a.2.1.2.2).1 else []) ++ (if a.1 / 4 % 2 = 0 then [] else dExs B n D a.2.2.1.2.1 a.2.2.1.2.2)
theorem elD_m {a : tEl} (x : Nat) : x ∈ elD B n D a ↔ x ∈ dcE B n D a := by
  unfold elD dcE
  by_cases c : a.1 / 4 % 2 = 0
  · rw [if_pos c, if_pos c, if_pos c, List.append_nil, List.mem_append, List.mem_append]
    exact or_comm
  · rw [if_neg c, if_neg c, if_neg c, List.nil_append]
theorem spT_R (gI : ∀ a, a ∈ M.2.1 → gImp a) (gT : ∀ a, a ∈ M.2.2.2.1 → gTb a) {x : Nat} {t : tImp} (h : (spT M)[x]? = some t) : isRf t.2.1 := by
  have h := List.mem_of_getElem? h
  unfold spT at h
  rcases List.mem_append.mp h with h | h
  · have m := List.mem_filter.mp h
    exact (gI t m.1).2.2.2.2.2.2.1 (of_decide_eq_true m.2)
  · obtain ⟨a, ha, e⟩ := List.mem_map.mp h
    rw [← e]
    exact (gT a ha).1
def elDs (B : Nat → Nat) (n : Nat) (D : Bool) (l : List tEl) : List Nat := l.flatMap fun a => elD B n D a
theorem x_el3 (X : yC h0 n b mm lo hi dd B M D) (gI : ∀ a, a ∈ M.2.1 → gImp a) (gT : ∀ a, a ∈ M.2.2.2.1 → gTb a) (g : ∀ a, a ∈ M.2.2.2.2.2.2.2.1 → gEl B n D a) : ∀ (m i : Nat) {o : Option (Nat × Nat)} {L : List Nat} {r : pm_H}, i + m = M.2.2.2.2.2.2.2.1.length → yS h0 dd (spF M).length o L r → ∃ r', pm_lim sX1_elementsAreRight (.inl (22, Int32.ofNat (i * 7), r)) = some r' ∧ yS h0 dd (spF M).length (oE o (oU (sp_els B n D M (M.2.2.2.2.2.2.2.1.drop i)))) (L ++ elDs B n D (M.2.2.2.2.2.2.2.1.drop i)) r' := by
  intro m
  induction m with
  | zero =>
    intro i o L r hi' S
    obtain ⟨s, cc, ⟨q1, q2, q3⟩, -⟩ := (yC_F X S.1).1
    obtain ⟨x, a1, a2, a3, a4, a5, a6, a7⟩ := cc.2.2.2.2.2.2.2.1 (by decide)
    rw [List.drop_eq_nil_of_le (by omega)]
    refine ⟨r, k_w (aX1_elementsAreRight_0 ..) ?_, by rw [sp_els]; rw [show oU (.inr ((), 0) : sp_O Unit) = none from rfl, oE_n, show elDs B n D [] = [] from rfl, List.append_nil]; exact S⟩
    unfold tX1_elementsAreRight_2
    exact k_t q1 (k_b q2 (k_t s.2.2.1 (k_b a1 (k_t a4 (k_t (by rw [a5, nn_le (by omega) (by omega)]; omega) rfl)))))
  | succ m ih =>
    intro i o L r hi' S
    obtain ⟨s, cc, ⟨q1, q2, q3⟩, -⟩ := (yC_F X S.1).1
    obtain ⟨x, a1, a2, a3, a4, a5, a6, a7⟩ := cc.2.2.2.2.2.2.2.1 (by decide)
    have hB : ∀ i, B i < 256 := s.2.2.2.2.2.2.2.2.2
    have n4 : n ≤ 40960 := s.2.2.2.2.2.2.1
    have il : i < M.2.2.2.2.2.2.2.1.length := by omega
    cases o with
    | some w =>
      have z1 : 0 < w.1 ∧ w.1 < 100 := S.2.1
      have z2 : pm_I r 22 0 = Int32.ofNat w.1 := S.2.2.1
      refine ⟨r, k_w (aX1_elementsAreRight_0 ..) ?_, S⟩
      unfold tX1_elementsAreRight_2
      exact k_t q1 (k_b q2 (k_t s.2.2.1 (k_b a1 (k_t a4 (k_f (by rw [a5, nn_le (by omega) (by omega)]; omega) (k_f (by rw [z2, n3_0, nn_eq (by omega) (by decide)]; omega) rfl))))))
    | none =>
      have dr : M.2.2.2.2.2.2.2.1.drop i = M.2.2.2.2.2.2.2.1[i] :: M.2.2.2.2.2.2.2.1.drop (i + 1) := List.drop_eq_getElem_cons il
      obtain ⟨a, ea⟩ : ∃ a, a = M.2.2.2.2.2.2.2.1[i] := ⟨_, rfl⟩
      rw [← ea] at dr
      have ha : M.2.2.2.2.2.2.2.1[i]? = some a := by rw [ea]; exact List.getElem?_eq_getElem il
      obtain ⟨g1, g2, g3, g4, g5, g6, g7, g8, pz, rows⟩ := g a (List.mem_of_getElem? ha)
      have rl := rows_n (e := n) (fun p v p' q hp => by
        unfold sp_it at q
        split at q
        · exact ⟨(num_lt q).2.1, (num_lt q).2.2⟩
        · obtain ⟨w, p1, e1, e2⟩ := b_inv q
          cases e2
          have u := (ex_up hp : sp_up (sp_ex B n D false (n + 1) [] p) p n) _ _ e1
          have ul := up_ex_lt e1
          omega) a.2.2.1.2.1 a.2.2.1.2.2 a.2.2.2 pz rows g8
      obtain ⟨l1, l2, l3⟩ := rl
      have c31 : a.2.2.1.2.1 ≤ n := by omega
      have ix : ix3 a.2.2.1.2.1 = Int32.ofNat a.2.2.1.2.1 := by unfold ix3; rw [if_pos (by omega)]
      have tR := isR_lt g5
      have st : Int32.ofNat (i * 7) + 7 = Int32.ofNat ((i + 1) * 7) := (nn_ad (i * 7) 7).trans (congrArg Int32.ofNat (by omega))
      -- the row i, in any heap on the way
      have row : ∀ {o : Option (Nat × Nat)} {L : List Nat} {r : pm_H}, yS h0 dd (spF M).length o L r → ∃ x, pm_R r mm 9 = some x ∧ pm_kd r x = 34 ∧ pm_ln r x = M.2.2.2.2.2.2.2.1.length * 7 ∧ fX12_item r x (Int32.ofNat (i * 7) + 0) = some (Int32.ofNat a.2.1.1) ∧ fX12_item r x (Int32.ofNat (i * 7) + 1) = some (ix3 a.2.1.2.1) ∧ fX12_item r x (Int32.ofNat (i * 7) + 2) = some (Int32.ofNat a.2.1.2.2) ∧ fX12_item r x (Int32.ofNat (i * 7) + 3) = some (Int32.ofNat a.2.2.1.2.2) ∧ fX12_item r x (Int32.ofNat (i * 7) + 4) = some (Int32.ofNat a.2.2.1.2.1) ∧ fX12_item r x (Int32.ofNat (i * 7) + 5) = some (Int32.ofNat a.2.2.1.1) ∧ fX12_item r x (Int32.ofNat (i * 7) + 6) = some (if a.1 / 4 % 2 = 0 then 0 else 1) := by
        intro o L r S
        obtain ⟨s, cc, -⟩ := (yC_F X S.1).1
        obtain ⟨x, a1, a2, a3, a4, a5, a6, a7⟩ := cc.2.2.2.2.2.2.2.1 (by decide)
        obtain ⟨u0, u1, u2, u3, u4, u5, u6⟩ := a7 i a ha
        have item : ∀ k, k < 7 → fX12_item r x (Int32.ofNat (i * 7) + Int32.ofNat k) = some (pm_I r x (i * 7 + k)) := fun k hk => by
          rw [nn_ad]
          exact it_v a4 (by rw [a5]; omega) (by rw [a5]; omega)
        refine ⟨x, a1, a4, a5, ?_, ?_, ?_, ?_, ?_, ?_, ?_⟩
        · rw [← u0]; exact item 0 (by decide)
        · rw [← u1]; exact item 1 (by decide)
        · rw [← u2]; exact item 2 (by decide)
        · rw [← u3]; exact item 3 (by decide)
        · rw [← ix, ← u4]; exact item 4 (by decide)
        · rw [← u5]; exact item 5 (by decide)
        · rw [← u6]; exact item 6 (by decide)
      -- the labels behind one another
      obtain ⟨fl, hfl⟩ : ∃ fl : Int32, fl = (if a.1 / 4 % 2 = 0 then 0 else 1) := ⟨_, rfl⟩
      obtain ⟨ac, hac⟩ : ∃ ac : Int32, ac = (if a.2.1.1 = 0 then 1 else 0) := ⟨_, rfl⟩
      have f0 : a.1 / 4 % 2 = 0 → fl = 0 := fun c => by rw [hfl, if_pos c]
      have f1 : ¬ a.1 / 4 % 2 = 0 → fl = 1 := fun c => by rw [hfl, if_neg c]
      have h1' : a.2.1.1 = 0 → ac = 1 := fun c => by rw [hac, if_pos c]
      have h0' : ¬ a.2.1.1 = 0 → ac = 0 := fun c => by rw [hac, if_neg c]
      have l299 : ∀ {o : Option (Nat × Nat)} {L : List Nat} {r : pm_H}, yS h0 dd (spF M).length o L r → (o = none → yR r n a.2.2.1.2.2) → ∃ r', pm_lim sX1_elementsAreRight (.inr (.inr (.inr (.inr (.inr (22, Int32.ofNat (i * 7), Int32.ofNat a.2.2.1.2.1, Int32.ofNat a.2.2.1.1, fl, 0, r)))))) = pm_lim sX1_elementsAreRight (.inl (22, Int32.ofNat ((i + 1) * 7), r')) ∧ yS h0 dd (spF M).length (oE o (oU (if a.1 / 4 % 2 = 0 then .inr ((), 0) else sp_cons B n D M a.2.2.1.1 a.2.2.1.2.1 a.2.2.1.2.2))) (L ++ (if a.1 / 4 % 2 = 0 then [] else dExs B n D a.2.2.1.2.1 a.2.2.1.2.2)) r' := by
        intro o L r S R
        by_cases c : a.1 / 4 % 2 = 0
        · rw [if_pos c, if_pos c]
          refine ⟨r, k_w (aX1_elementsAreRight_5 ..) ?_, by rw [show oU (.inr ((), 0) : sp_O Unit) = none from rfl, oE_n, List.append_nil]; exact S⟩
          unfold tX1_elementsAreRight_299
          by_cases d : Int32.ofNat a.2.2.1.2.1 ≤ 0
          · refine k_t d (k_l ?_)
            rw [st]
            rfl
          · refine k_f d (k_t (f0 c) (k_l ?_))
            rw [st]
            rfl
        · rw [if_neg c, if_neg c, f1 c]
          exact x_el2 (i := i) X gI (by omega) c (by omega) a.2.2.1.2.1 0 (Nat.zero_add _) rows S R
      have l237 : ∀ {o : Option (Nat × Nat)} {L : List Nat} {r : pm_H}, yS h0 dd (spF M).length o L r → ∃ r', pm_lim sX1_elementsAreRight (.inr (.inr (.inr (.inr (.inl (22, Int32.ofNat (i * 7), Int32.ofNat a.2.2.1.2.1, Int32.ofNat a.2.2.1.1, fl, ac, r)))))) = pm_lim sX1_elementsAreRight (.inl (22, Int32.ofNat ((i + 1) * 7), r')) ∧ yS h0 dd (spF M).length (oE (oE o (oU (if a.2.1.1 = 0 then sp_con B n D M a.2.1.2.2 127 else .inr ((), 0)))) (oU (if a.1 / 4 % 2 = 0 then .inr ((), 0) else sp_cons B n D M a.2.2.1.1 a.2.2.1.2.1 a.2.2.1.2.2))) ((L ++ (if a.2.1.1 = 0 then (dEx B n D a.2.1.2.2).1 else [])) ++ (if a.1 / 4 % 2 = 0 then [] else dExs B n D a.2.2.1.2.1 a.2.2.1.2.2)) r' := by
        intro o L r S
        obtain ⟨s, cc, ⟨q1, q2, q3⟩, -⟩ := (yC_F X S.1).1
        obtain ⟨x, a1, -, -, -, -, i2, -⟩ := row S
        obtain ⟨r1, e1, S1, R1⟩ := y_opn (p := a.2.1.2.2) X S
        obtain ⟨s1, cc1, ⟨w1, w2, w3⟩, -⟩ := (yC_F X S1.1).1
        by_cases c : a.2.1.1 = 0
        · rw [if_pos c, if_pos c]
          obtain ⟨e, E⟩ := exR_Y (g4 c)
          obtain ⟨r2, e2, S2, -⟩ := y_con (ty := 127) X gI (by decide) (fun _ => E) S1 (fun _ => R1)
          obtain ⟨s2, cc2, ⟨v1, v2, v3⟩, -⟩ := (yC_F X S2.1).1
          obtain ⟨x2, b1, -, -, -, -, -, j3, -⟩ := row S2
          obtain ⟨r3, e3, S3, R3⟩ := y_opn (p := a.2.2.1.2.2) X S2
          obtain ⟨r4, e4, S4⟩ := l299 S3 (fun _ => R3)
          refine ⟨r4, k_w (aX1_elementsAreRight_4 ..) ?_, S4⟩
          unfold tX1_elementsAreRight_237
          exact k_t q1 (k_b q3 (k_b q2 (k_t s.2.2.1 (k_b a1 (k_b i2 (k_t s.1 (k_b e1 (k_f (by rw [h1' c]; decide) (k_t w1 (k_b e2 (k_t v1 (k_b v3 (k_b v2 (k_t s2.2.2.1 (k_b b1 (k_b j3 (k_t s2.1 (k_b e3 (k_n e4)))))))))))))))))))
        · rw [if_neg c, if_neg c, h0' c, show oU (.inr ((), 0) : sp_O Unit) = none from rfl, oE_n, List.append_nil]
          obtain ⟨x2, b1, -, -, -, -, -, j3, -⟩ := row S1
          obtain ⟨r3, e3, S3, R3⟩ := y_opn (p := a.2.2.1.2.2) X S1
          obtain ⟨r4, e4, S4⟩ := l299 S3 (fun _ => R3)
          refine ⟨r4, k_w (aX1_elementsAreRight_4 ..) ?_, S4⟩
          unfold tX1_elementsAreRight_237
          exact k_t q1 (k_b q3 (k_b q2 (k_t s.2.2.1 (k_b a1 (k_b i2 (k_t s.1 (k_b e1 (k_t rfl (k_t w1 (k_b w3 (k_b w2 (k_t s1.2.2.1 (k_b b1 (k_b j3 (k_t s1.1 (k_b e3 (k_n e4)))))))))))))))))
      have l193 : ∀ {o : Option (Nat × Nat)} {L : List Nat} {r : pm_H}, yS h0 dd (spF M).length o L r → ∃ r', pm_lim sX1_elementsAreRight (.inr (.inr (.inr (.inl (22, Int32.ofNat (i * 7), Int32.ofNat a.2.2.1.2.1, Int32.ofNat a.2.2.1.1, ix3 a.2.1.2.1, fl, ac, r))))) = pm_lim sX1_elementsAreRight (.inr (.inr (.inr (.inr (.inl (22, Int32.ofNat (i * 7), Int32.ofNat a.2.2.1.2.1, Int32.ofNat a.2.2.1.1, fl, ac, r')))))) ∧ yS h0 dd (spF M).length (oE o (if a.2.1.1 = 0 ∧ sp_elt M a = true then some (28, sS M 9) else none)) L r' := by
        intro o L r S
        obtain ⟨s, cc, ⟨q1, q2, q3⟩, -⟩ := (yC_F X S.1).1
        have X1 := (yC_F X S.1).1
        by_cases c : a.2.1.1 = 0
        · have has := y_hasI (k := 1) (x := a.2.1.2.1) X1 (by decide)
          have sl : spL M 1 = (spT M).length := rfl
          obtain ⟨r1, e1, S1, -⟩ := y_fs (w := 28) (id := 9) (L' := L) X S ⟨by decide, by decide⟩ ⟨by decide, by decide⟩
          have ac1 := h1' c
          unfold sp_elt
          cases et : (spT M)[a.2.1.2.1]? with
          | none =>
            rw [if_neg (by rw [sl]; exact Nat.not_lt.mpr (List.getElem?_eq_none_iff.mp et))] at has
            rw [if_pos ⟨c, rfl⟩]
            refine ⟨r1, k_w (aX1_elementsAreRight_3 ..) ?_, S1⟩
            unfold tX1_elementsAreRight_193
            exact k_f (by rw [ac1]; decide) (k_t q1 (k_b q2 (k_t s.2.2.1 (k_b has (k_t rfl (k_b e1 rfl))))))
          | some t =>
            have tl := some_lt et
            rw [if_pos (by rw [sl]; exact tl)] at has
            have l8 := spL_8 X1 1
            have tx := isR_lt (spT_R gI gT et)
            obtain ⟨y, -, e2, pe⟩ := m_of (k := 1) (j := 1) s.2.2.1 (by decide) (cc.2.2.2.1 (by decide)) tl (by decide)
            obtain ⟨-, g1', -⟩ := pe _ et
            rw [g1'] at e2
            have ixt : ix3 a.2.1.2.1 = Int32.ofNat a.2.1.2.1 := by unfold ix3; rw [if_pos (by omega)]
            rw [← ixt] at e2
            have eqt : (Int64.ofNat t.2.1 = (Int32.ofNat a.2.2.1.1).toInt64) = (t.2.1 = a.2.2.1.1) := by rw [nn_t6 (by omega), ll_eq (by omega) (by omega)]
            show ∃ r', _ ∧ yS _ _ _ (oE o (if a.2.1.1 = 0 ∧ decide (t.2.1 ≠ a.2.2.1.1) = true then _ else _)) _ _
            by_cases d : t.2.1 = a.2.2.1.1
            · rw [if_neg (fun z => by have := of_decide_eq_true z.2; exact this d), oE_n]
              refine ⟨r, k_w (aX1_elementsAreRight_3 ..) ?_, S⟩
              unfold tX1_elementsAreRight_193
              exact k_f (by rw [ac1]; decide) (k_t q1 (k_b q2 (k_t s.2.2.1 (k_b has (k_f (by decide) (k_b e2 (k_t (by rw [eqt]; exact d) rfl)))))))
            · rw [if_pos ⟨c, decide_eq_true d⟩]
              refine ⟨r1, k_w (aX1_elementsAreRight_3 ..) ?_, S1⟩
              unfold tX1_elementsAreRight_193
              exact k_f (by rw [ac1]; decide) (k_t q1 (k_b q2 (k_t s.2.2.1 (k_b has (k_f (by decide) (k_b e2 (k_f (by rw [eqt]; exact d) (k_b e1 rfl))))))))
        · rw [if_neg (fun z => c z.1), oE_n]
          refine ⟨r, k_w (aX1_elementsAreRight_3 ..) ?_, S⟩
          unfold tX1_elementsAreRight_193
          exact k_t (h0' c) rfl
      have l138 : ∀ {r : pm_H} {L : List Nat}, yS h0 dd (spF M).length none L r → yR r n a.2.2.1.2.2 → ∃ r', pm_lim sX1_elementsAreRight (.inr (.inr (.inl (22, Int32.ofNat (i * 7), Int32.ofNat a.2.2.1.2.1, Int32.ofNat a.2.2.1.1, ix3 a.2.1.2.1, fl, ac, 0, r)))) = pm_lim sX1_elementsAreRight (.inr (.inr (.inr (.inl (22, Int32.ofNat (i * 7), Int32.ofNat a.2.2.1.2.1, Int32.ofNat a.2.2.1.1, ix3 a.2.1.2.1, fl, ac, r'))))) ∧ yS h0 dd (spF M).length (if a.1 / 4 % 2 = 0 ∧ a.2.2.2.any (fun f => decide ((spF M).length ≤ f)) = true then some (28, sS M 9) else none) (L ++ (if a.1 / 4 % 2 = 0 then a.2.2.2 else [])) r' := by
        intro r L S R
        by_cases c : a.1 / 4 % 2 = 0
        · rw [if_pos c, f0 c]
          have rw' : sp_rows (sp_num B n) a.2.2.1.2.1 a.2.2.1.2.2 = .inr (a.2.2.2, pz) := by
            have : sp_it B n D a.1 = sp_num B n := by
              funext p
              unfold sp_it
              rw [if_pos c]
            rw [← this]; exact rows
          obtain ⟨r', e, S'⟩ := x_el1 (I := Int32.ofNat (i * 7)) (T := Int32.ofNat a.2.2.1.1) (tb := ix3 a.2.1.2.1) (act := ac) X (count := a.2.2.1.2.1) (by omega) a.2.2.1.2.1 0 (Nat.zero_add _) rw' S R
          refine ⟨r', e, ?_⟩
          by_cases d : a.2.2.2.any (fun f => decide ((spF M).length ≤ f)) = true
          · rw [if_pos ⟨c, d⟩]
            rw [if_pos d] at S'
            exact S'
          · rw [if_neg (fun z => d z.2)]
            rw [if_neg d] at S'
            exact S'
        · rw [if_neg c, if_neg (fun z => c z.1), List.append_nil]
          refine ⟨r, k_w (aX1_elementsAreRight_2 ..) ?_, S⟩
          unfold tX1_elementsAreRight_138
          by_cases d : Int32.ofNat a.2.2.1.2.1 ≤ 0
          · exact k_t d rfl
          · exact k_f d (k_f (by rw [f1 c]; decide) rfl)
      obtain ⟨r1, e1, S1, R1⟩ := y_opn (p := a.2.2.1.2.2) X S
      obtain ⟨r2, e2, S2⟩ := l138 S1 R1
      obtain ⟨r3, e3, S3⟩ := l193 S2
      obtain ⟨r4, e4, S4⟩ := l237 S3
      obtain ⟨r5, e5, S5⟩ := ih (i + 1) (by omega) S4
      refine ⟨r5, ?_, ?_⟩
      · obtain ⟨x, x1, x2, x3, j0, j1, j2, j3, j4, j5, j6⟩ := row S
        have z0 : (Int32.ofNat a.2.1.1 = 0) = (a.2.1.1 = 0) := by
          have : a.2.1.1 ≤ 2 := by
            rw [g2]
            split
            · omega
            · split <;> omega
          rw [n3_0, nn_eq (by omega) (by decide)]
        have b86 : pm_lim sX1_elementsAreRight (.inr (.inl (22, Int32.ofNat (i * 7), Int32.ofNat a.2.2.1.2.1, Int32.ofNat a.2.2.1.1, ix3 a.2.1.2.1, fl, r))) = some r5 := by
          refine k_w (aX1_elementsAreRight_1 ..) ?_
          unfold tX1_elementsAreRight_86
          refine k_t q1 (k_b q2 (k_t s.2.2.1 (k_b x1 (k_b j0 ?_))))
          have go := e2.trans (e3.trans (e4.trans e5))
          by_cases c : a.2.1.1 = 0
          · rw [h1' c] at go
            exact k_t (by rw [z0]; exact c) (k_b q3 (k_b j3 (k_t s.1 (k_b e1 (k_n go)))))
          · rw [h0' c] at go
            exact k_f (by rw [z0]; exact c) (k_b q3 (k_b j3 (k_t s.1 (k_b e1 (k_n go)))))
        refine k_w (aX1_elementsAreRight_0 ..) ?_
        unfold tX1_elementsAreRight_2
        refine k_t q1 (k_b q2 (k_t s.2.2.1 (k_b x1 (k_t x2 (k_f (by rw [x3, nn_le (by omega) (by omega)]; omega) (k_t S.2.1 (k_b j4 (k_b j5 (k_b j1 (k_b j6 ?_))))))))))
        by_cases c : a.1 / 4 % 2 = 0
        · rw [f0 c] at b86
          exact k_t (by rw [if_pos c]) (k_n b86)
        · rw [f1 c] at b86
          exact k_f (by rw [if_neg c]; decide) (k_n b86)
      · have eL : L ++ elDs B n D (M.2.2.2.2.2.2.2.1.drop i) = ((L ++ (if a.1 / 4 % 2 = 0 then a.2.2.2 else [])) ++ (if a.2.1.1 = 0 then (dEx B n D a.2.1.2.2).1 else [])) ++ (if a.1 / 4 % 2 = 0 then [] else dExs B n D a.2.2.1.2.1 a.2.2.1.2.2) ++ elDs B n D (M.2.2.2.2.2.2.2.1.drop (i + 1)) := by
          rw [dr]
          show L ++ (elD B n D a ++ elDs B n D (M.2.2.2.2.2.2.2.1.drop (i + 1))) = _
          unfold elD
          simp only [List.append_assoc]
        rw [eL, dr, sp_els, oU_b]
        show yS _ _ _ (oE (oU (sp_elC B n D M a)) _) _ _
        have es : oU (sp_elC B n D M a) = oE (oE (oE (if a.1 / 4 % 2 = 0 ∧ a.2.2.2.any (fun f => decide ((spF M).length ≤ f)) = true then some (28, sS M 9) else none) (if a.2.1.1 = 0 ∧ sp_elt M a = true then some (28, sS M 9) else none)) (oU (if a.2.1.1 = 0 then sp_con B n D M a.2.1.2.2 127 else .inr ((), 0)))) (oU (if a.1 / 4 % 2 = 0 then .inr ((), 0) else sp_cons B n D M a.2.2.1.1 a.2.2.1.2.1 a.2.2.1.2.2)) := by
          unfold sp_elC
          by_cases c : a.1 / 4 % 2 = 0 ∧ a.2.2.2.any (fun f => decide ((spF M).length ≤ f)) = true
          · rw [if_pos c, if_pos c]; rfl
          · rw [if_neg c, if_neg c]
            by_cases d : a.2.1.1 = 0 ∧ sp_elt M a = true
            · rw [if_pos d, if_pos d]; rfl
            · rw [if_neg d, if_neg d, oU_b]
              cases (if a.2.1.1 = 0 then sp_con B n D M a.2.1.2.2 127 else .inr ((), 0) : sp_O Unit) <;> rfl
        rw [← es] at S5
        cases hc : sp_elC B n D M a with
        | inl w => rw [hc] at S5; exact S5
        | inr z => rw [hc] at S5; exact S5
/-- element segments -/
theorem x_elm (X : yC h0 n b mm lo hi dd B M D) (gI : ∀ a, a ∈ M.2.1 → gImp a) (gT : ∀ a, a ∈ M.2.2.2.1 → gTb a) (g : ∀ a, a ∈ M.2.2.2.2.2.2.2.1 → gEl B n D a) (S : yS h0 dd (spF M).length o L r) : ∃ r', fX1_elementsAreRight r 22 = some r' ∧ yS h0 dd (spF M).length (oE o (oU (sp_els B n D M M.2.2.2.2.2.2.2.1))) (L ++ elDs B n D M.2.2.2.2.2.2.2.1) r' := by
  have := x_el3 X gI gT g M.2.2.2.2.2.2.2.1.length 0 (Nat.zero_add _) S
  rw [List.drop_zero, Nat.zero_mul] at this
  exact this
end XELM
