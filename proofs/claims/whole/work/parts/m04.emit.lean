/-! THE CLASS CHECKS: rows of code -/
section XEM
variable {h0 r : pm_H} {n b mm lo hi bo co dd cap : Nat} {B : Nat → Nat} {M : tMd} {Ts : List Int64} {o : sp_O tK} {p w s f x : Nat} {v : sp_I} {hb op a1 a2 a3 : Int32} {K : tK} {t : Int64}
theorem sl_d {f q k j : Nat} {y : Int32} (C : xC h0 n b mm lo hi bo co dd cap B M) (S : xS h0 M bo co Ts (.inl (f, q)) r) (hk : k < 200) (hj : j < 7) (h1 : j ≠ 1) : fX1_setLabel r 22 (Int32.ofNat k) (Int32.ofNat j) y = some (pm_setI r 25 (7 * k + j) y) ∧ xS h0 M bo co Ts (.inl (f, q)) (pm_setI r 25 (7 * k + j) y) := ⟨sl_v (xS_C C S) hk hj, xS_set S (.inr (.inr (.inr (.inl rfl)))) (by omega) (by omega)⟩
theorem x_die (C : xC h0 n b mm lo hi bo co dd cap B M) (S : xS h0 M bo co Ts o r) (hl : 0 < Ts.length) (tl : Ts.length ≤ 200) : ∃ r', fX1_die r 22 = some r' ∧ xS h0 M bo co Ts (sp_b o fun K _ => .inr (kDie K, 0)) r' := by
  have Cr := xS_C C S
  have q1 := Cr.2.2.1.1.1
  have y2 : pm_I r 22 10 - 1 = Int32.ofNat (Ts.length - 1) := by rw [(xS_T S).1]; exact nn_s1 (by omega)
  have e2 := lb_v Cr (k := Ts.length - 1) (j := 2) (by omega) (by decide)
  have aa := C.2.2.2.1
  cases o with
  | inl fq =>
    obtain ⟨f, q⟩ := fq
    obtain ⟨r1, er⟩ : ∃ z, z = pm_setI r 22 6 (pm_I r 25 (7 * (Ts.length - 1) + 2)) := ⟨_, rfl⟩
    have S1 : xS h0 M bo co Ts (.inl (f, q)) r1 := by rw [er]; exact xS_set S (.inr (.inl ⟨rfl, by omega⟩)) (by omega) (by omega)
    obtain ⟨e3, S2⟩ := sl_d (y := 1) C S1 (k := Ts.length - 1) (j := 3) (by omega) (by decide) (by decide)
    refine ⟨_, ?_, S2⟩
    unfold fX1_die
    refine e9_t q1 (e9_l ?_)
    rw [y2]
    refine e9_b e2 ?_
    rw [← er]
    exact e9_b e3 rfl
  | inr u =>
    obtain ⟨⟨st, ls, rs⟩, z⟩ := u
    obtain ⟨F, V, W, eT⟩ := S
    have eT : (ls.map fun l => l.2.1) = Ts := eT
    cases ls with
    | nil => rw [← eT] at hl; exact absurd hl (Nat.lt_irrefl 0)
    | cons l ls =>
    have tl1 : Ts.length = ls.length + 1 := by rw [← eT, List.length_map]; rfl
    obtain ⟨v1, v2, v3, v4, v5, v6, v7⟩ := id V
    obtain ⟨⟨l1, l2, l3, l4, l5, l6, l7⟩, lr⟩ := id v6
    have w1 : l.2.2.1 ≤ st.length := W.1.1
    rw [show Ts.length - 1 = ls.length by omega, l3] at e2
    rw [show Ts.length - 1 = ls.length by omega] at y2
    obtain ⟨r1, e1⟩ : ∃ z, z = pm_setI r 22 6 (Int32.ofNat l.2.2.1) := ⟨_, rfl⟩
    obtain ⟨r2, e3⟩ : ∃ z, z = pm_setI r1 25 (7 * ls.length + 3) 1 := ⟨_, rfl⟩
    have F1 : xFr bo co r r1 := by rw [e1]; exact gF_I r _ (.inr (.inl ⟨rfl, by omega⟩))
    have F2 : xFr bo co r1 r2 := by rw [e3]; exact gF_I r1 _ (.inr (.inr (.inr (.inl rfl))))
    have C1 : xC r1 n b mm lo hi bo co dd cap B M := xC_F Cr F1
    have kx : ∀ x y, x ≠ 22 → x ≠ 25 → pm_I r2 x y = pm_I r x y := fun x y h1 h2 => by rw [e3, ev_II, if_neg h2, e1, ev_II, if_neg h1]
    have k2 : ∀ y, y ≠ 6 → pm_I r2 22 y = pm_I r 22 y := fun y hy => by rw [e3, ev_II, if_neg (by decide), e1, ev_II, if_pos rfl, if_neg hy]
    have k5 : ∀ y, y ≠ 7 * ls.length + 3 → pm_I r2 25 y = pm_I r 25 y := fun y hy => by rw [e3, ev_II, if_pos rfl, if_neg hy, e1, ev_II, if_neg (by decide)]
    have dl : (st.drop (st.length - l.2.2.1)).length = l.2.2.1 := by rw [List.length_drop]; omega
    have dr : ∀ (k : Nat) (s : List Nat), oRw r s → oRw r (s.drop k) := by
      intro k
      induction k with
      | zero => intro s q; exact q
      | succ k ih =>
        intro s q
        cases s with
        | nil => exact trivial
        | cons t s => exact ih s q.2
    refine ⟨r2, ?_, gF_t F (gF_t F1 F2), ?_, kDie_w W (Nat.succ_pos _), eT⟩
    · unfold fX1_die
      refine e9_t q1 (e9_l ?_)
      rw [y2]
      refine e9_b e2 ?_
      rw [← e1]
      refine e9_b (show fX1_setLabel r1 22 (Int32.ofNat ls.length) (Int32.ofNat 3) 1 = _ from sl_v C1 (by omega) (by decide)) ?_
      rw [← e3]
    · refine ⟨(k2 0 (by decide)).trans v1, ?_, (k2 10 (by decide)).trans v3, (kx bo 2 (by omega) (by omega)).trans v4, oRw_k (fun y _ => kx 24 y (by decide) (by decide)) (dr _ st v5), ⟨⟨(k5 _ (by omega)).trans l1, (k5 _ (by omega)).trans l2, (k5 _ (by omega)).trans l3, ?_, (k5 _ (by omega)).trans l5, (k5 _ (by omega)).trans l6, (k5 _ (by omega)).trans l7⟩, oL_k (fun y hy => k5 y (by have hy : y < 7 * ls.length := hy; omega)) lr⟩, fun i rr hi => ?_⟩
      · rw [e3, ev_II, if_neg (by decide), e1, ev_II, if_pos rfl, if_pos rfl]
        exact congrArg Int32.ofNat dl.symm
      · show pm_I r2 25 (7 * ls.length + 3) = 1
        rw [e3, ev_II, if_pos rfl, if_pos rfl]
      · obtain ⟨z1, z2, z3, z4, z5⟩ := v7 i rr hi
        exact ⟨(kx co _ (by omega) (by omega)).trans z1, (kx co _ (by omega) (by omega)).trans z2, (kx co _ (by omega) (by omega)).trans z3, (kx co _ (by omega) (by omega)).trans z4, (kx co _ (by omega) (by omega)).trans z5⟩
theorem x_isE (C : xC h0 n b mm lo hi bo co dd cap B M) (S : xS h0 M bo co Ts o r) (hl : 0 < Ts.length) (tl : Ts.length ≤ 200) : ∃ g : Bool, fX1_isEmitting r 22 = some (iN g) ∧ ∀ K z, o = .inr (K, z) → g = kAl K := by
  have Cr := xS_C C S
  have q1 := Cr.2.2.1.1.1
  have y2 : pm_I r 22 10 - 1 = Int32.ofNat (Ts.length - 1) := by rw [(xS_T S).1]; exact nn_s1 (by omega)
  have e4 := lb_v Cr (k := Ts.length - 1) (j := 4) (by omega) (by decide)
  have e3 := lb_v Cr (k := Ts.length - 1) (j := 3) (by omega) (by decide)
  obtain ⟨a, ea⟩ : ∃ y, y = pm_I r 25 (7 * (Ts.length - 1) + 4) := ⟨_, rfl⟩
  obtain ⟨c, ec⟩ : ∃ y, y = pm_I r 25 (7 * (Ts.length - 1) + 3) := ⟨_, rfl⟩
  rw [← ea] at e4
  rw [← ec] at e3
  refine ⟨!decide (a = 0) && decide (c = 0), ?_, fun K z e => ?_⟩
  · unfold fX1_isEmitting
    refine e9_t q1 (e9_l ?_)
    rw [y2]
    refine e9_b e4 ?_
    by_cases z1 : a = 0
    · rw [decide_eq_true z1]; exact e9_t z1 rfl
    · rw [decide_eq_false z1]
      refine e9_f z1 (e9_b e3 ?_)
      by_cases z2 : c = 0
      · rw [decide_eq_true z2]; exact e9_t z2 rfl
      · rw [decide_eq_false z2]; exact e9_f z2 rfl
  · obtain ⟨W, eT⟩ := xS_wf S e
    have V : xK r bo co K := by obtain ⟨-, S⟩ := S; rw [e] at S; exact S.1
    have kl : K.2.1.length = Ts.length := by rw [← eT, tyL_l]
    obtain ⟨-, -, -, l4, l5, -⟩ := oL_x V.2.2.2.2.2.1 (show 0 < K.2.1.length by omega)
    rw [kl, Nat.sub_zero, ← kTop_g] at l4 l5
    unfold kAl
    rw [ea, ec, l4, l5]
    cases (kTop K).2.2.2.2.1 <;> cases (kTop K).2.2.2.1 <;> rfl
theorem em_0 (C : xC r n b mm lo hi bo co dd cap B M) {k : Nat} (hk : k < cap) (i2 : pm_I r bo 2 = Int32.ofNat k) : ∃ r', fX0_emit r bo op a1 a2 a3 hb = some (Int32.ofNat k, r') ∧ r' = pm_setI (pm_setI (pm_setI (pm_setI (pm_setI (pm_setI r co (5 * k) op) co (5 * k + 1) a1) co (5 * k + 2) a2) co (5 * k + 3) a3) co (5 * k + 4) hb) bo 2 (Int32.ofNat (k + 1)) := by
  obtain ⟨-, -, ⟨-, -, -, -, -, -, -, -, -, ⟨u1, u2, u3, u4, u5, u6⟩⟩, aa, -⟩ := C
  have nz : bo ≠ co := fun z => by rw [z, u4] at u2; exact absurd u2 (by decide)
  refine ⟨_, ?_, rfl⟩
  unfold fX0_emit
  have y2 : pm_I r bo 2 * 5 = Int32.ofNat (5 * k) := by rw [i2, show (5 : Int32) = Int32.ofNat 5 from rfl, nn_ml, Nat.mul_comm]
  have ad : ∀ j : Nat, Int32.ofNat (5 * k) + Int32.ofNat j = Int32.ofNat (5 * k + j) := fun j => nn_ad _ _
  have cm : ∀ j : Nat, j < 5 → (Int32.ofNat (5 * k) + Int32.ofNat j).toNatClampNeg = 5 * k + j := fun j hj => by rw [ad, nn_cm (by omega)]
  have inn : ∀ j : Nat, j < 5 → pm_in (Int32.ofNat (5 * k) + Int32.ofNat j) (pm_ln r co) := fun j hj => by rw [ad, nn_in (by omega), u5]; omega
  refine e9_t u2 (e9_l ?_)
  rw [y2]
  refine e9_f (by rw [n3_0, nn_lt (by omega) (by decide)]; omega) (e9_b u3 (e9_t u4 (e9_t (show Int32.ofNat (5 * k) ≤ Int32.ofNat (pm_ln r co) - Int32.ofNat 5 by rw [u5, nn_sb (by omega), nn_le (by omega) (by omega)]; omega) (e9_t (inn 0 (by decide)) (e9_t (inn 1 (by decide)) (e9_t (inn 2 (by decide)) (e9_t (inn 3 (by decide)) (e9_t (inn 4 (by decide)) (e9_l ?_)))))))))
  have z : ∀ X : pm_H, pm_I X bo 2 = Int32.ofNat k → (some (pm_I (pm_setI X bo 2 (pm_I X bo 2 + 1)) bo 2 - 1, pm_setI X bo 2 (pm_I X bo 2 + 1)) : Option (Int32 × pm_H)) = some (Int32.ofNat k, pm_setI X bo 2 (Int32.ofNat (k + 1))) := fun X hX => by
    rw [hX, show Int32.ofNat k + 1 = Int32.ofNat (k + 1) from nn_ad _ 1, ev_II, if_pos rfl, if_pos rfl, nn_ss]
  refine (z _ ?_).trans ?_
  · rw [ev_II, if_neg nz, ev_II, if_neg nz, ev_II, if_neg nz, ev_II, if_neg nz, ev_II, if_neg nz]
    exact i2
  · rw [show (Int32.ofNat (5 * k) + 0).toNatClampNeg = 5 * k from cm 0 (by decide), show (Int32.ofNat (5 * k) + 1).toNatClampNeg = 5 * k + 1 from cm 1 (by decide), show (Int32.ofNat (5 * k) + 2).toNatClampNeg = 5 * k + 2 from cm 2 (by decide), show (Int32.ofNat (5 * k) + 3).toNatClampNeg = 5 * k + 3 from cm 3 (by decide), show (Int32.ofNat (5 * k) + 4).toNatClampNeg = 5 * k + 4 from cm 4 (by decide)]
theorem em_d {f q : Nat} (C : xC h0 n b mm lo hi bo co dd cap B M) (S : xS h0 M bo co Ts (.inl (f, q)) r) : ∃ u r', fX0_emit r bo op a1 a2 a3 hb = some (u, r') ∧ xS h0 M bo co Ts (.inl (f, q)) r' := by
  have Cr := xS_C C S
  obtain ⟨-, -, ⟨-, -, -, -, -, -, -, -, -, ⟨u1, u2, u3, u4, u5, u6⟩⟩, aa, -⟩ := id Cr
  unfold fX0_emit
  by_cases c : pm_I r bo 2 * 5 < 0
  · exact ⟨_, r, e9_t u2 (e9_l (e9_t c rfl)), S⟩
  obtain ⟨k, hk, ek⟩ := i32_pos c
  by_cases d : k + 5 ≤ 5 * cap
  · have ad : ∀ j : Nat, pm_I r bo 2 * 5 + Int32.ofNat j = Int32.ofNat (k + j) := fun j => by rw [ek]; exact nn_ad _ _
    have inn : ∀ j : Nat, j < 5 → pm_in (pm_I r bo 2 * 5 + Int32.ofNat j) (pm_ln r co) := fun j hj => by rw [ad, nn_in (by omega), u5]; omega
    have w : ∀ {X : pm_H} (j : Nat) (y : Int32), xS h0 M bo co Ts (.inl (f, q)) X → xS h0 M bo co Ts (.inl (f, q)) (pm_setI X co j y) := fun j y SX => xS_set SX (.inr (.inr (.inr (.inr (.inr (.inr rfl)))))) (by omega) (by omega)
    refine ⟨_, _, e9_t u2 (e9_l (e9_f c (e9_b u3 (e9_t u4 (e9_t (by rw [ek, u5, show (5 : Int32) = Int32.ofNat 5 from rfl, nn_sb (by omega), nn_le (by omega) (by omega)]; omega) (e9_t (inn 0 (by decide)) (e9_t (inn 1 (by decide)) (e9_t (inn 2 (by decide)) (e9_t (inn 3 (by decide)) (e9_t (inn 4 (by decide)) (e9_l rfl))))))))))), ?_⟩
    exact xS_set (w _ _ (w _ _ (w _ _ (w _ _ (w _ _ S))))) (.inr (.inr (.inr (.inr (.inr (.inl ⟨rfl, rfl⟩)))))) (by omega) (by omega)
  · refine ⟨_, r, e9_t u2 (e9_l (e9_f c (e9_b u3 (e9_t u4 (e9_f ?_ rfl))))), S⟩
    rw [ek, u5]
    by_cases z : 5 ≤ 5 * cap
    · rw [show (5 : Int32) = Int32.ofNat 5 from rfl, nn_sb z, nn_le (by omega) (by omega)]; omega
    · rw [show 5 * cap = 0 by omega]
      intro y
      exact absurd (Int32.le_trans (show (0 : Int32) ≤ Int32.ofNat k by rw [n3_0, nn_le (by decide) (by omega)]; omega) y) (by decide)
/-- a row -/
theorem x_emt (C : xC h0 n b mm lo hi bo co dd cap B M) (I : xI h0 p v hb) (S : xS h0 M bo co Ts o r) (hl : 0 < Ts.length) (tl : Ts.length ≤ 200) (rm : ∀ K z, o = .inr (K, z) → K.2.2.length < cap) : ∃ u r', fX1_emit r 22 op a1 a2 a3 = some (u, r') ∧ xS h0 M bo co Ts (sp_b o fun K _ => .inr (kEm K op a1 a2 a3 hb, 0)) r' ∧ ∀ K z, o = .inr (K, z) → u = if kAl K = true then Int32.ofNat K.2.2.length else -1 := by
  have Cr := xS_C C S
  have q1 := Cr.2.2.1.1.1
  have i7 := (xS_I C I S).2.2.2.2
  have u1 := Cr.2.2.1.2.2.2.2.2.2.2.2.2
  obtain ⟨g, e1, ga⟩ := x_isE C S hl tl
  unfold fX1_emit
  rw [i7]
  cases o with
  | inl fq =>
    obtain ⟨f, q⟩ := fq
    cases g with
    | false => exact ⟨-1, r, e9_t q1 (e9_b e1 (e9_t rfl rfl)), S, fun K z e => by cases e⟩
    | true =>
      obtain ⟨u, r', e2, S2⟩ := em_d (op := op) (a1 := a1) (a2 := a2) (a3 := a3) (hb := hb) C S
      exact ⟨u, r', e9_t q1 (e9_b e1 (e9_f (by decide) (e9_b u1.1 (e9_t u1.2.1 (e9_b e2 rfl))))), S2, fun K z e => by cases e⟩
  | inr y =>
    obtain ⟨K, z⟩ := y
    have g1 := ga K z rfl
    have kl := rm K z rfl
    rw [sp_br]
    unfold kEm
    obtain ⟨F, V, W, eT⟩ := S
    have V : xK r bo co K := V
    have W : wfK M K := W
    have eT : tyL K = Ts := eT
    by_cases c : kAl K = true
    · rw [c] at g1
      rw [if_pos c]
      obtain ⟨r', e2, er⟩ := em_0 (op := op) (a1 := a1) (a2 := a2) (a3 := a3) (hb := hb) Cr kl V.2.2.2.1
      have aa := C.2.2.2.1
      have nz : bo ≠ co := fun z => by have h2 := u1.2.1; have h4 := u1.2.2.2.1; rw [z, h4] at h2; exact absurd h2 (by decide)
      refine ⟨_, r', e9_t q1 (e9_b e1 (e9_f (by rw [g1]; decide) (e9_b u1.1 (e9_t u1.2.1 (e9_b e2 rfl))))), ⟨?_, ?_, wfK_s rfl rfl W, eT⟩, fun K' z' e => by cases e; rw [if_pos c]⟩
      · have fi : ∀ {X : pm_H} (j : Nat) (y : Int32), xFr bo co X (pm_setI X co j y) := fun j y => gF_I _ y (.inr (.inr (.inr (.inr (.inr (.inr rfl))))))
        rw [er]
        exact gF_t F (gF_t (gF_t (gF_t (gF_t (gF_t (fi _ _) (fi _ _)) (fi _ _)) (fi _ _)) (fi _ _)) (gF_I _ _ (.inr (.inr (.inr (.inr (.inr (.inl ⟨rfl, rfl⟩))))))))
      · obtain ⟨v1, v2, v3, v4, v5, v6, v7⟩ := V
        have kx : ∀ x y, x ≠ bo → x ≠ co → pm_I r' x y = pm_I r x y := fun x y h1 h2 => by rw [er, ev_II, if_neg h1, ev_II, if_neg h2, ev_II, if_neg h2, ev_II, if_neg h2, ev_II, if_neg h2, ev_II, if_neg h2]
        have kc : ∀ y, pm_I r' co y = if y = 5 * K.2.2.length + 4 then hb else if y = 5 * K.2.2.length + 3 then a3 else if y = 5 * K.2.2.length + 2 then a2 else if y = 5 * K.2.2.length + 1 then a1 else if y = 5 * K.2.2.length then op else pm_I r co y := fun y => by rw [er, ev_II, if_neg (Ne.symm nz), ev_II, if_pos rfl, ev_II, if_pos rfl, ev_II, if_pos rfl, ev_II, if_pos rfl, ev_II, if_pos rfl]
        refine ⟨(kx 22 0 (by omega) (by omega)).trans v1, (kx 22 6 (by omega) (by omega)).trans v2, (kx 22 10 (by omega) (by omega)).trans v3, ?_, oRw_k (fun y _ => kx 24 y (by omega) (by omega)) v5, oL_k (fun y _ => kx 25 y (by omega) (by omega)) v6, fun i rr hi => ?_⟩
        · rw [er, ev_II, if_pos rfl, if_pos rfl]
          show _ = Int32.ofNat (K.2.2 ++ [(op, a1, a2, a3, hb)]).length
          rw [List.length_append]
          rfl
        · have hi : (K.2.2 ++ [(op, a1, a2, a3, hb)])[i]? = some rr := hi
          rcases app_some hi with ⟨g1, g2⟩ | ⟨g1, g2⟩
          · obtain ⟨z1, z2, z3, z4, z5⟩ := v7 i rr g2
            have ko : ∀ j, j < 5 → pm_I r' co (5 * i + j) = pm_I r co (5 * i + j) := fun j hj => by rw [kc, if_neg (by omega), if_neg (by omega), if_neg (by omega), if_neg (by omega), if_neg (by omega)]
            exact ⟨(ko 0 (by decide)).trans z1, (ko 1 (by decide)).trans z2, (ko 2 (by decide)).trans z3, (ko 3 (by decide)).trans z4, (ko 4 (by decide)).trans z5⟩
          · have il : i = K.2.2.length := by
              have := some_lt g2
              have : i - K.2.2.length < 1 := this
              omega
            rw [il, Nat.sub_self] at g2
            cases g2
            rw [il]
            refine ⟨?_, ?_, ?_, ?_, ?_⟩
            · rw [kc, if_neg (by omega), if_neg (by omega), if_neg (by omega), if_neg (by omega), if_pos rfl]
            · rw [kc, if_neg (by omega), if_neg (by omega), if_neg (by omega), if_pos rfl]
            · rw [kc, if_neg (by omega), if_neg (by omega), if_pos rfl]
            · rw [kc, if_neg (by omega), if_pos rfl]
            · rw [kc, if_pos rfl]
    · have c' : kAl K = false := Bool.eq_false_iff.mpr c
      rw [c'] at g1
      rw [if_neg c]
      exact ⟨-1, r, e9_t q1 (e9_b e1 (e9_t (by rw [g1]; rfl) rfl)), ⟨F, V, W, eT⟩, fun K' z' e => by cases e; rw [if_neg c]⟩
end XEM
