/-! THE CLASS CHECKS: single steps. Each holds of a heap that is alive and of one behind a fault -/
theorem i32_pos {i : Int32} (h : ¬ i < 0) : ∃ k, k < 2147483648 ∧ i = Int32.ofNat k := ⟨i.toNatClampNeg, Int32.toNatClampNeg_lt _, (Int32.ofNat_toNatClampNeg i (Int32.not_lt.mp h)).symm⟩
theorem it_v {h : pm_H} {x k : Nat} (kd : pm_kd h x = 34) (l : pm_ln h x < 2147483648) (hk : k < pm_ln h x) : fX12_item h x (Int32.ofNat k) = some (pm_I h x k) := by
  unfold fX12_item
  refine e9_f (by rw [n3_0, nn_lt (by omega) (by decide)]; omega) (e9_t kd (e9_f (by rw [nn_le (by omega) (by omega)]; omega) (e9_t (by rw [nn_in (by omega)]; exact hk) ?_)))
  rw [nn_cm (by omega)]
theorem it_n {h : pm_H} {x : Nat} {i : Int32} (kd : pm_kd h x = 34) (l : pm_ln h x < 2147483648) : ∃ v, fX12_item h x i = some v := by
  by_cases c : i < 0
  · exact ⟨0, by unfold fX12_item; exact e9_t c rfl⟩
  · obtain ⟨k, hk, ek⟩ := i32_pos c
    by_cases d : k < pm_ln h x
    · exact ⟨_, by rw [ek]; exact it_v kd l d⟩
    · refine ⟨0, ?_⟩
      unfold fX12_item
      rw [ek] at c ⊢
      exact e9_f c (e9_t kd (e9_t (by rw [nn_le (by omega) (by omega)]; omega) rfl))
theorem st_v {h : pm_H} {x k : Nat} {y : Int32} (kd : pm_kd h x = 34) (l : pm_ln h x < 2147483648) (hk : k < pm_ln h x) : fX12_setItem h x (Int32.ofNat k) y = some (pm_setI h x k y) := by
  unfold fX12_setItem
  refine e9_f (by rw [n3_0, nn_lt (by omega) (by decide)]; omega) (e9_t kd (e9_f (by rw [nn_le (by omega) (by omega)]; omega) (e9_t (by rw [nn_in (by omega)]; exact hk) ?_)))
  rw [nn_cm (by omega)]
theorem st_n {h : pm_H} {x : Nat} {i y : Int32} (kd : pm_kd h x = 34) (l : pm_ln h x < 2147483648) : ∃ r, fX12_setItem h x i y = some r ∧ (r = h ∨ ∃ k, k < pm_ln h x ∧ r = pm_setI h x k y) := by
  by_cases c : i < 0
  · exact ⟨h, by unfold fX12_setItem; exact e9_t c rfl, .inl rfl⟩
  · obtain ⟨k, hk, ek⟩ := i32_pos c
    by_cases d : k < pm_ln h x
    · exact ⟨_, by rw [ek]; exact st_v kd l d, .inr ⟨k, d, rfl⟩⟩
    · refine ⟨h, ?_, .inl rfl⟩
      unfold fX12_setItem
      rw [ek] at c ⊢
      exact e9_f c (e9_t kd (e9_t (by rw [nn_le (by omega) (by omega)]; omega) rfl))
section XPRIM
variable {h0 r : pm_H} {n b mm lo hi bo co dd cap : Nat} {B : Nat → Nat} {M : tMd} {Ts : List Int64} {o : sp_O tK} {p w : Nat} {v : sp_I} {hb : Int32} {K : tK}
theorem lb_v (C : xC r n b mm lo hi bo co dd cap B M) {k j : Nat} (hk : k < 200) (hj : j < 7) : fX1_label r 22 (Int32.ofNat k) (Int32.ofNat j) = some (pm_I r 25 (7 * k + j)) := by
  obtain ⟨-, -, ⟨⟨q1, -⟩, -, -, ⟨a1, a2, a3⟩, -⟩, -⟩ := C
  unfold fX1_label
  rw [show Int32.ofNat k * 7 + Int32.ofNat j = Int32.ofNat (7 * k + j) by rw [show (7 : Int32) = Int32.ofNat 7 from rfl, nn_ml, nn_ad, Nat.mul_comm]]
  refine e9_l (e9_f (by rw [n3_0, nn_lt (by omega) (by decide)]; omega) (e9_t q1 (e9_b a1 (e9_t a2 (e9_f (by rw [a3, nn_le (by omega) (by omega)]; omega) (e9_t (by rw [a3, nn_in (by omega)]; omega) ?_))))))
  rw [nn_cm (by omega)]
theorem lb_n (C : xC r n b mm lo hi bo co dd cap B M) (i j : Int32) : ∃ v, fX1_label r 22 i j = some v := by
  obtain ⟨-, -, ⟨⟨q1, -⟩, -, -, ⟨a1, a2, a3⟩, -⟩, -⟩ := C
  unfold fX1_label
  by_cases c : i * 7 + j < 0
  · exact ⟨0, e9_l (e9_t c rfl)⟩
  · obtain ⟨k, hk, ek⟩ := i32_pos c
    by_cases d : k < 1400
    · refine ⟨pm_I r 25 k, e9_l (e9_f c (e9_t q1 (e9_b a1 (e9_t a2 (e9_f ?_ (e9_t ?_ ?_))))))⟩
      · rw [a3, ek, nn_le (by omega) (by omega)]; omega
      · rw [a3, ek, nn_in (by omega)]; exact d
      · rw [ek, nn_cm hk]
    · exact ⟨0, e9_l (e9_f c (e9_t q1 (e9_b a1 (e9_t a2 (e9_t (by rw [a3, ek, nn_le (by omega) (by omega)]; omega) rfl)))))⟩
theorem sl_v (C : xC r n b mm lo hi bo co dd cap B M) {k j : Nat} {y : Int32} (hk : k < 200) (hj : j < 7) : fX1_setLabel r 22 (Int32.ofNat k) (Int32.ofNat j) y = some (pm_setI r 25 (7 * k + j) y) := by
  obtain ⟨-, -, ⟨⟨q1, -⟩, -, -, ⟨a1, a2, a3⟩, -⟩, -⟩ := C
  unfold fX1_setLabel
  rw [show Int32.ofNat k * 7 + Int32.ofNat j = Int32.ofNat (7 * k + j) by rw [show (7 : Int32) = Int32.ofNat 7 from rfl, nn_ml, nn_ad, Nat.mul_comm]]
  exact e9_t q1 (e9_b a1 (e9_b (st_v a2 (by omega) (by omega)) rfl))
/-- behind a fault: a write that touches neither the fault nor the labels' types -/
theorem xS_set {f q : Nat} {x k : Nat} {y : Int32} (S : xS h0 M bo co Ts (.inl (f, q)) r) (a : xAI bo co x k) (h1 : ¬ (x = 22 ∧ (k = 0 ∨ k = 1 ∨ k = 10))) (h2 : ¬ (x = 25 ∧ k % 7 = 1)) : xS h0 M bo co Ts (.inl (f, q)) (pm_setI r x k y) := by
  obtain ⟨F, hf, f0, f1, t1, t2⟩ := S
  have z : ∀ a c, ¬ (a = x ∧ c = k) → pm_I (pm_setI r x k y) a c = pm_I r a c := fun a c hh => by
    rw [ev_II]
    by_cases e : a = x
    · rw [if_pos e, if_neg (fun e2 => hh ⟨e, e2⟩)]
    · rw [if_neg e]
  exact ⟨gF_t F (gF_I r y a), hf, (z 22 0 (by omega)).trans f0, (z 22 1 (by omega)).trans f1, (z 22 10 (by omega)).trans t1, fun i t hi => (z 25 _ (by omega)).trans (t2 i t hi)⟩
theorem fl_d {f q : Nat} (C : xC h0 n b mm lo hi bo co dd cap B M) (S : xS h0 M bo co Ts (.inl (f, q)) r) (w : Int32) : fX1_fail r 22 w = some r := by
  have Cr := xS_C C S
  obtain ⟨F, hf, f0, f1, T⟩ := S
  have hf : 0 < f ∧ f < 100 := hf
  have f0 : pm_I r 22 0 = Int32.ofNat f := f0
  unfold fX1_fail
  exact e9_t Cr.2.2.1.1.1 (e9_f (by rw [f0, show (0 : Int32) = Int32.ofNat 0 from rfl, nn_eq (by omega) (by decide)]; omega) rfl)
/-- a fault -/
theorem x_fail (C : xC h0 n b mm lo hi bo co dd cap B M) (I : xI h0 p v hb) (S : xS h0 M bo co Ts o r) (hw : 0 < w ∧ w < 100) : ∃ r', fX1_fail r 22 (Int32.ofNat w) = some r' ∧ xS h0 M bo co Ts (sp_b o fun _ _ => .inl (w, p)) r' := by
  cases o with
  | inl fq => exact ⟨r, fl_d C S _, S⟩
  | inr u =>
    obtain ⟨K, z⟩ := u
    have Cr := xS_C C S
    have Ir := xS_I C I S
    have T := xS_T S
    obtain ⟨F, V, W, e⟩ := S
    have nz : bo ≠ 22 ∧ co ≠ 22 ∧ bo ≠ 25 ∧ co ≠ 25 := by obtain ⟨-, -, -, a, -⟩ := C; omega
    refine ⟨pm_setI (pm_setI r 22 0 (Int32.ofNat w)) 22 1 (Int32.ofNat p), ?_, gF_t F (gF_t (gF_I r _ (.inr (.inl ⟨rfl, .inl rfl⟩))) (gF_I _ _ (.inr (.inl ⟨rfl, .inr (.inl rfl)⟩)))), hw, ?_, ?_, ?_, ?_⟩
    · unfold fX1_fail
      refine e9_t Cr.2.2.1.1.1 (e9_t V.1 (e9_b Cr.2.2.1.1.2.2 (e9_t Cr.1.1 (e9_l ?_))))
      rw [ev_II, if_neg (by decide), Ir.2.1]
    · rw [ev_II, if_pos rfl, if_neg (by decide), ev_II, if_pos rfl, if_pos rfl]
    · rw [ev_II, if_pos rfl, if_pos rfl]
    · rw [ev_II, if_pos rfl, if_neg (by decide), ev_II, if_pos rfl, if_neg (by decide)]
      exact T.1
    · intro i t hi
      rw [ev_II, if_neg (by decide), ev_II, if_neg (by decide)]
      exact T.2 i t hi
theorem tk_i {r' : pm_H} {k : Nat} (e : r' = pm_setI r 22 6 (Int32.ofNat k)) (nz : bo ≠ 22 ∧ co ≠ 22 ∧ co ≠ 24 ∧ co ≠ 25 ∧ bo ≠ 24 ∧ bo ≠ 25) {st st' : List Nat} {ls : List tLb} {rs : List tRw} (hk : k = st'.length) (V : xK r bo co (st, ls, rs)) (h : oRw r st') : xK r' bo co (st', ls, rs) := by
  obtain ⟨v1, v2, v3, v4, v5, v6, v7⟩ := V
  have kx : ∀ x y, x ≠ 22 → pm_I r' x y = pm_I r x y := fun x y hx => by rw [e, ev_II, if_neg hx]
  have k2 : ∀ y, y ≠ 6 → pm_I r' 22 y = pm_I r 22 y := fun y hy => by rw [e, ev_II, if_pos rfl, if_neg hy]
  exact ⟨(k2 0 (by decide)).trans v1, by rw [e, ev_II, if_pos rfl, if_pos rfl, hk], (k2 10 (by decide)).trans v3, (kx bo 2 nz.1).trans v4, oRw_k (fun y _ => kx 24 y (by decide)) h, oL_k (fun y _ => kx 25 y (by decide)) v6, fun i rr hi => by
    obtain ⟨z1, z2, z3, z4, z5⟩ := v7 i rr hi
    exact ⟨(kx co _ nz.2.1).trans z1, (kx co _ nz.2.1).trans z2, (kx co _ nz.2.1).trans z3, (kx co _ nz.2.1).trans z4, (kx co _ nz.2.1).trans z5⟩⟩
theorem x_take (C : xC h0 n b mm lo hi bo co dd cap B M) (I : xI h0 p v hb) (S : xS h0 M bo co Ts o r) (hl : 0 < Ts.length) (hw : w = 0 ∨ isT w) : ∃ u r', fX1_take r 22 (Int32.ofNat w) = some (u, r') ∧ xS h0 M bo co Ts (sp_b o fun K _ => sp_b (kTake p w K) fun y _ => .inr (y.2, 0)) r' ∧ ∀ K z y z', o = .inr (K, z) → kTake p w K = .inr (y, z') → u = Int32.ofNat y.1 := by
  have Cr := xS_C C S
  obtain ⟨-, -, ⟨⟨q1, -, -⟩, -, ⟨b1, b2, b3⟩, -⟩, a, -⟩ := id Cr
  cases o with
  | inl fq =>
    obtain ⟨f, q⟩ := fq
    obtain ⟨v4, e4⟩ := lb_n Cr (pm_I r 22 10 - 1) 2
    have vac : ∀ u : Int32, ∀ K z y z', (.inl (f, q) : sp_O tK) = .inr (K, z) → kTake p w K = .inr (y, z') → u = Int32.ofNat y.1 := fun u K z y z' e => by cases e
    by_cases c : v4 < pm_I r 22 6
    · obtain ⟨r1, er⟩ : ∃ z, z = pm_setI r 22 6 (pm_I r 22 6 - 1) := ⟨_, rfl⟩
      have S1 : xS h0 M bo co Ts (.inl (f, q)) r1 := by rw [er]; exact xS_set S (.inr (.inl ⟨rfl, by omega⟩)) (by omega) (by omega)
      have d1 : pm_kd r1 24 = 34 := by rw [er]; exact b2
      have d2 : pm_ln r1 24 < 2147483648 := by rw [er]; show pm_ln r 24 < _; rw [b3]; decide
      obtain ⟨v11, e11⟩ := it_n (i := pm_I r1 22 6) d1 d2
      refine ⟨v11, r1, ?_, S1, vac v11⟩
      unfold fX1_take
      refine e9_t q1 (e9_l (e9_b e4 (e9_t c (e9_l ?_))))
      rw [← er]
      refine e9_b (show pm_R r1 22 5 = some 24 by rw [er]; exact b1) (e9_b e11 ?_)
      by_cases c1 : v11 = 0
      · exact e9_t c1 rfl
      · refine e9_f c1 ?_
        by_cases c2 : Int32.ofNat w = 0
        · exact e9_t c2 rfl
        · refine e9_f c2 ?_
          by_cases c3 : v11 = Int32.ofNat w
          · exact e9_t c3 rfl
          · exact e9_f c3 (e9_b (fl_d C S1 _) rfl)
    · obtain ⟨v18, e18⟩ := lb_n Cr (pm_I r 22 10 - 1) 3
      refine ⟨0, r, ?_, S, vac 0⟩
      unfold fX1_take
      refine e9_t q1 (e9_l (e9_b e4 (e9_f c (e9_b e18 ?_))))
      by_cases c1 : v18 = 0
      · exact e9_t c1 (e9_b (fl_d C S _) rfl)
      · exact e9_f c1 rfl
  | inr u =>
    obtain ⟨⟨st, ls, rs⟩, z⟩ := u
    have S0 := S
    obtain ⟨F, V, W, eT⟩ := S
    have eT : (ls.map fun l => l.2.1) = Ts := eT
    cases ls with
    | nil => rw [← eT] at hl; exact absurd hl (Nat.lt_irrefl 0)
    | cons l ls =>
    obtain ⟨v1, v2, v3, v4, v5, v6, v7⟩ := id V
    have v2 : pm_I r 22 6 = Int32.ofNat st.length := v2
    have v3 : pm_I r 22 10 = Int32.ofNat (ls.length + 1) := v3
    obtain ⟨w1, w2, w3, w4, w5⟩ := id W
    have w1 : l.2.2.1 ≤ st.length ∧ wfL ls l.2.2.1 := w1
    have w4 : st.length ≤ 1000 := w4
    have w5 : ls.length + 1 ≤ 200 := w5
    obtain ⟨⟨l1, l2, l3, l4, l5, l6, l7⟩, lr⟩ := id v6
    have y2 : pm_I r 22 10 - 1 = Int32.ofNat ls.length := by rw [v3]; exact nn_ss _
    have nz : bo ≠ 22 ∧ co ≠ 22 ∧ co ≠ 24 ∧ co ≠ 25 ∧ bo ≠ 24 ∧ bo ≠ 25 := by omega
    have e4 : fX1_label r 22 (pm_I r 22 10 - 1) 2 = some (Int32.ofNat l.2.2.1) := by rw [y2, ← l3]; exact lb_v Cr (by omega) (j := 2) (by decide)
    have e18 : fX1_label r 22 (pm_I r 22 10 - 1) 3 = some (iN l.2.2.2.1) := by rw [y2, ← l4]; exact lb_v Cr (by omega) (j := 3) (by decide)
    have kk : kTake p w (st, l :: ls, rs) = if st.length ≤ l.2.2.1 then (if l.2.2.2.1 = true then .inr ((0, st, l :: ls, rs), 0) else .inl (29, p)) else if w = 0 ∨ st.headD 0 = 0 ∨ st.headD 0 = w then .inr ((st.headD 0, st.tail, l :: ls, rs), 0) else .inl (29, p) := rfl
    by_cases c : st.length ≤ l.2.2.1
    · rw [if_pos c] at kk
      cases hd : l.2.2.2.1 with
      | true =>
        rw [hd, if_pos rfl] at kk
        refine ⟨0, r, ?_, ?_, ?_⟩
        · unfold fX1_take
          exact e9_t q1 (e9_l (e9_b e4 (e9_f (by rw [v2, nn_lt (by omega) (by omega)]; omega) (e9_b e18 (e9_f (by rw [hd]; decide) rfl)))))
        · rw [sp_br, kk]
          exact ⟨F, V, W, eT⟩
        · intro K z y z' e1 e2
          cases e1
          rw [kk] at e2
          cases e2
          rfl
      | false =>
        rw [hd, if_neg (show ¬ false = true by decide)] at kk
        obtain ⟨r', er, Sr⟩ := x_fail (w := 29) C I S0 ⟨by decide, by decide⟩
        refine ⟨0, r', ?_, ?_, ?_⟩
        · unfold fX1_take
          exact e9_t q1 (e9_l (e9_b e4 (e9_f (by rw [v2, nn_lt (by omega) (by omega)]; omega) (e9_b e18 (e9_t (by rw [hd]; rfl) (e9_b er rfl))))))
        · rw [sp_br, kk]
          exact Sr
        · intro K z y z' e1 e2
          cases e1
          rw [kk] at e2
          cases e2
    · rw [if_neg c] at kk
      cases st with
      | nil => exact absurd (Nat.zero_le _) c
      | cons t s =>
        have w4 : s.length + 1 ≤ 1000 := w4
        have c : ¬ s.length + 1 ≤ l.2.2.1 := c
        have v2 : pm_I r 22 6 = Int32.ofNat (s.length + 1) := v2
        obtain ⟨r1, er⟩ : ∃ z, z = pm_setI r 22 6 (Int32.ofNat s.length) := ⟨_, rfl⟩
        have V1 : xK r1 bo co (s, l :: ls, rs) := tk_i er nz rfl V v5.2
        have W1 : wfK M (s, l :: ls, rs) := ⟨⟨by show l.2.2.1 ≤ s.length; omega, w1.2⟩, w2, fun x hx => w3 x (List.mem_cons_of_mem _ hx), Nat.le_of_succ_le w4, w5⟩
        have S1 : xS h0 M bo co Ts (.inr ((s, l :: ls, rs), 0)) r1 := ⟨gF_t F (by rw [er]; exact gF_I r _ (.inr (.inl ⟨rfl, by omega⟩))), V1, W1, eT⟩
        have i6 : pm_I r1 22 6 = Int32.ofNat s.length := by rw [er, ev_II, if_pos rfl, if_pos rfl]
        have i24 : pm_I r1 24 s.length = Int32.ofNat t := by rw [er, ev_II, if_neg (by decide)]; exact v5.1
        have d1 : pm_kd r1 24 = 34 := by rw [er]; exact b2
        have d2 : pm_ln r1 24 = 1000 := by rw [er]; exact b3
        have e11 : fX12_item r1 24 (pm_I r1 22 6) = some (Int32.ofNat t) := by rw [i6, ← i24]; exact it_v d1 (by omega) (by omega)
        have t8 : t < 128 := by
          rcases w3 t List.mem_cons_self with z | z
          · omega
          · exact isT_lt z
        have w8 : w < 128 := by
          rcases hw with z | z
          · omega
          · exact isT_lt z
        have hd : ∀ {Y : Option (Int32 × pm_H)}, (if Int32.ofNat t = 0 then some (Int32.ofNat t, r1) else if Int32.ofNat w = 0 then some (Int32.ofNat t, r1) else if Int32.ofNat t = Int32.ofNat w then some (Int32.ofNat t, r1) else (fX1_fail r1 22 29).bind fun v16 => some (Int32.ofNat t, v16)) = Y → fX1_take r 22 (Int32.ofNat w) = Y := fun {Y} h => by
          unfold fX1_take
          refine e9_t q1 (e9_l (e9_b e4 (e9_t (by rw [v2, nn_lt (by omega) (by omega)]; omega) (e9_l ?_))))
          rw [v2, nn_ss, ← er]
          exact e9_b (show pm_R r1 22 5 = some 24 by rw [er]; exact b1) (e9_b e11 h)
        have kk : kTake p w (t :: s, l :: ls, rs) = if w = 0 ∨ t = 0 ∨ t = w then .inr ((t, s, l :: ls, rs), 0) else .inl (29, p) := kk
        by_cases ok : w = 0 ∨ t = 0 ∨ t = w
        · rw [if_pos ok] at kk
          refine ⟨Int32.ofNat t, r1, hd ?_, ?_, ?_⟩
          · by_cases c1 : Int32.ofNat t = 0
            · exact e9_t c1 rfl
            refine e9_f c1 ?_
            by_cases c2 : Int32.ofNat w = 0
            · exact e9_t c2 rfl
            refine e9_f c2 (e9_t ?_ rfl)
            rcases ok with z | z | z
            · exact absurd (show Int32.ofNat w = 0 by rw [z]; rfl) c2
            · exact absurd (show Int32.ofNat t = 0 by rw [z]; rfl) c1
            · rw [z]
          · rw [sp_br, kk]
            exact S1
          · intro K z y z' e1 e2
            cases e1
            rw [kk] at e2
            cases e2
            rfl
        · rw [if_neg ok] at kk
          obtain ⟨r', er', Sr⟩ := x_fail (w := 29) C I S1 ⟨by decide, by decide⟩
          refine ⟨Int32.ofNat t, r', hd ?_, ?_, ?_⟩
          · have c1 : ¬ Int32.ofNat t = Int32.ofNat 0 := by rw [nn_eq (by omega) (by decide)]; exact fun z => ok (.inr (.inl z))
            have c2 : ¬ Int32.ofNat w = Int32.ofNat 0 := by rw [nn_eq (by omega) (by decide)]; exact fun z => ok (.inl z)
            have c3 : ¬ Int32.ofNat t = Int32.ofNat w := by rw [nn_eq (by omega) (by omega)]; exact fun z => ok (.inr (.inr z))
            exact e9_f c1 (e9_f c2 (e9_f c3 (e9_b er' rfl)))
          · rw [sp_br, kk]
            exact Sr
          · intro K z y z' e1 e2
            cases e1
            rw [kk] at e2
            cases e2
theorem x_put (C : xC h0 n b mm lo hi bo co dd cap B M) (I : xI h0 p v hb) (S : xS h0 M bo co Ts o r) (hw : ∀ K z, o = .inr (K, z) → w = 0 ∨ isT w) : ∃ r', fX1_put r 22 (Int32.ofNat w) = some r' ∧ xS h0 M bo co Ts (sp_b o fun K _ => kPut p w K) r' := by
  have Cr := xS_C C S
  obtain ⟨-, -, ⟨⟨q1, -, -⟩, -, ⟨b1, b2, b3⟩, -⟩, a, -⟩ := id Cr
  cases o with
  | inl fq =>
    obtain ⟨f, q⟩ := fq
    by_cases c : pm_I r 22 6 < 1000
    · obtain ⟨r1, e1, z1⟩ := st_n (h := r) (i := pm_I r 22 6) (y := Int32.ofNat w) b2 (by omega)
      have S1 : xS h0 M bo co Ts (.inl (f, q)) r1 := by
        rcases z1 with z | ⟨k, hk, z⟩
        · rw [z]; exact S
        · rw [z]; exact xS_set S (.inr (.inr (.inl rfl))) (by omega) (by omega)
      have S2 : xS h0 M bo co Ts (.inl (f, q)) (pm_setI r1 22 6 (pm_I r1 22 6 + 1)) := xS_set S1 (.inr (.inl ⟨rfl, by omega⟩)) (by omega) (by omega)
      refine ⟨_, ?_, S2⟩
      unfold fX1_put
      exact e9_t q1 (e9_t c (e9_b b1 (e9_b e1 (e9_t (xS_C C S1).2.2.1.1.1 rfl))))
    · refine ⟨r, ?_, S⟩
      unfold fX1_put
      exact e9_t q1 (e9_f c (e9_b (fl_d C S _) rfl))
  | inr u =>
    obtain ⟨⟨st, ls, rs⟩, z⟩ := u
    have hw := hw _ _ rfl
    have S0 := S
    obtain ⟨F, V, W, eT⟩ := S
    obtain ⟨v1, v2, v3, v4, v5, v6, v7⟩ := id V
    have v2 : pm_I r 22 6 = Int32.ofNat st.length := v2
    have w4 : st.length ≤ 1000 := W.2.2.2.1
    have nz : bo ≠ 22 ∧ co ≠ 22 ∧ co ≠ 24 ∧ co ≠ 25 ∧ bo ≠ 24 ∧ bo ≠ 25 := by omega
    have kk : kPut p w (st, ls, rs) = if st.length < 1000 then .inr ((w :: st, ls, rs), 0) else .inl (40, p) := rfl
    by_cases c : st.length < 1000
    · rw [if_pos c] at kk
      obtain ⟨r1, e1⟩ : ∃ z, z = pm_setI r 24 st.length (Int32.ofNat w) := ⟨_, rfl⟩
      obtain ⟨r2, e2⟩ : ∃ z, z = pm_setI r1 22 6 (Int32.ofNat (st.length + 1)) := ⟨_, rfl⟩
      have V1 : xK r1 bo co (st, ls, rs) := by
        have kx : ∀ x y, x ≠ 24 → pm_I r1 x y = pm_I r x y := fun x y hx => by rw [e1, ev_II, if_neg hx]
        exact ⟨(kx 22 0 (by decide)).trans v1, (kx 22 6 (by decide)).trans v2, (kx 22 10 (by decide)).trans v3, (kx bo 2 (by omega)).trans v4, oRw_k (fun y hy => by rw [e1, ev_II, if_pos rfl, if_neg (by have hy : y < st.length := hy; omega)]) v5, oL_k (fun y _ => kx 25 y (by decide)) v6, fun i rr hi => by
          obtain ⟨z1, z2, z3, z4, z5⟩ := v7 i rr hi
          exact ⟨(kx co _ nz.2.2.1).trans z1, (kx co _ nz.2.2.1).trans z2, (kx co _ nz.2.2.1).trans z3, (kx co _ nz.2.2.1).trans z4, (kx co _ nz.2.2.1).trans z5⟩⟩
      have V2 : xK r2 bo co (w :: st, ls, rs) := tk_i e2 nz rfl V1 ⟨by rw [e1, ev_II, if_pos rfl, if_pos rfl], V1.2.2.2.2.1⟩
      refine ⟨r2, ?_, ?_⟩
      · unfold fX1_put
        refine e9_t q1 (e9_t (show pm_I r 22 6 < Int32.ofNat 1000 by rw [v2, nn_lt (by omega) (by decide)]; exact c) (e9_b b1 ?_))
        rw [v2]
        refine e9_b (st_v b2 (by omega) (by omega)) ?_
        rw [← e1]
        refine e9_t (show pm_kd r1 22 = 1 by rw [e1]; exact q1) (e9_l ?_)
        rw [show pm_I r1 22 6 = Int32.ofNat st.length from V1.2.1, show Int32.ofNat st.length + 1 = Int32.ofNat (st.length + 1) from nn_ad _ 1, ← e2]
      · show xS h0 M bo co Ts (kPut p w (st, ls, rs)) r2
        rw [kk]
        have F1 : xFr bo co r r1 := by rw [e1]; exact gF_I r _ (.inr (.inr (.inl rfl)))
        have F2 : xFr bo co r1 r2 := by rw [e2]; exact gF_I r1 _ (.inr (.inl ⟨rfl, by omega⟩))
        exact ⟨gF_t F (gF_t F1 F2), V2, (kPut_w W hw kk).1, eT⟩
    · rw [if_neg c] at kk
      obtain ⟨r', er', Sr⟩ := x_fail (w := 40) C I S0 ⟨by decide, by decide⟩
      refine ⟨r', ?_, ?_⟩
      · unfold fX1_put
        exact e9_t q1 (e9_f (show ¬ pm_I r 22 6 < Int32.ofNat 1000 by rw [v2, nn_lt (by omega) (by decide)]; exact c) (e9_b er' rfl))
      · show xS h0 M bo co Ts (kPut p w (st, ls, rs)) r'
        rw [kk]
        exact Sr
end XPRIM
