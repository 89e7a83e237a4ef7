/-! THE REFERENCE CHECKS: blocks and their ends -/
theorem kTop_g (K : tK) : kTop K = K.2.1.getD 0 lb0 := by
  obtain ⟨st, ls, co⟩ := K
  cases ls <;> rfl
theorem pair_ext {α : Type} : ∀ (l1 l2 : List α) (d : α), l1.length = l2.length → (∀ i, i < l1.length → l1.getD i d = l2.getD i d) → l1 = l2
  | [], [], _, _, _ => rfl
  | a :: l1, b :: l2, d, h, e => by
    have e0 : a = b := e 0 (Nat.succ_pos _)
    rw [e0, pair_ext l1 l2 d (Nat.succ.inj h) (fun i hi => e (i + 1) (Nat.succ_lt_succ hi))]
  | [], _ :: _, _, h, _ => by cases h
  | _ :: _, [], _, h, _ => by cases h
section VEND
variable {h r : pm_H} {n b m eo el p p2 b' t x : Nat} {B : Nat → Nat} {M : tMd} {K0 K : tK} {D : Bool} {Dc : Nat → Bool} {a : tBo} {v : sp_I}
theorem s_e {σ α ρ : Type} {s : σ → Option (σ ⊕ ((Nat × pm_H) ⊕ ρ))} {F : pm_H → Prop} {R : α → Nat → ρ → Prop} {o : sp_O α} {y : Option ((Nat × pm_H) ⊕ ρ)} (q : ms_Q F R y o) : ms_Q F R (ev_k s (y.bind fun w => pt_s w fun z => some (.inr (.inr z)))) o := by
  have e : ev_k s (y.bind fun w => pt_s w fun z => some (.inr (.inr z))) = y := by
    cases y with
    | none => rfl
    | some w => cases w <;> rfl
  rw [e]
  exact q
theorem s_stop {σ α ρ : Type} {s : σ → Option (σ ⊕ ((Nat × pm_H) ⊕ ρ))} {F : pm_H → Prop} {R : α → Nat → ρ → Prop} {k : pm_H → Option (σ ⊕ ((Nat × pm_H) ⊕ ρ))} {f pl : Nat} (C : mS h n b m 595 B) (hF : F h) {v w : Int32} (hv : v = Int32.ofNat f) (hw : w = Int32.ofNat pl) : ms_Q F R (ev_k s ((fX16_stops h 592 v w).bind fun z => pt_s z k)) (.inl (f, pl)) := by
  rw [v_stops C, hv, hw]
  exact ⟨h, _, hF, rfl⟩
theorem u_fin {y : Option ((Nat × pm_H) ⊕ pm_H)} {o : sp_O tK} (Q : ms_Q (vF m r) (fun K' _ r' => vT r p K' r') y o) (I : uI h M p K0 K r) : ms_Q (vF m h) (vU h p) y o := q_w Q (fun h' F => gF_t (uF_v I.1) F) (fun K' z r' _ V => ⟨gF_t I.1 (uF_t V.1), V.2⟩)
theorem v_blk {ty : Int64} {op : Nat} (C : vC h n b m eo el B M) (I : uI h M p K K h) (hl : 0 < K.2.1.length) (T : vTy M) (ho : 2 ≤ op ∧ op ≤ 4) (q : sp_blk B n (p + 1) = .inr (ty, p2)) (hn : ¬ (0 ≤ ty ∧ M.1.length ≤ ty.toNatClampNeg)) : ms_Q (vF m h) (vU h p) (fX16_controls (lk h (p + 1)) 592 (Int32.ofNat op)) (kBlk M p op ty K) := by
  have CI := fun {K1 r1} (I1 : uI h M p K K1 r1) => (uI_C C I1).1.1
  have Wt : wfT M ty := by
    rcases blk_t q with z | z
    · exact .inl ⟨z, Nat.not_le.mp (fun y => hn ⟨z, y⟩)⟩
    · exact .inr z
  have tail : ∀ (K1 : tK) (r1 : pm_H), uI h M p K K1 r1 → ms_Q (vF m h) (vU h p) (if pm_kd r1 592 = 16 then (fX16_takeParameters r1 592 (mbt ty)).bind fun v12 => pt_k v12 fun w14 => if pm_kd w14 592 = 16 then (fX16_begins w14 592 (Int32.ofNat op) (mbt ty)).bind fun v17 => pt_k v17 fun w19 => if pm_kd w19 592 = 16 then (fX16_putParameters w19 592 (mbt ty)).bind fun v22 => pt_k v22 fun w24 => some (.inr w24) else none else none else none) (sp_b (kTakeL p (btP M ty) K1) fun K2 _ => if 200 ≤ K2.2.1.length then .inl (40, p) else kPutL p (btP M ty) (K2.1, (op, ty, K2.1.length, false, kAl K2, [], (if op = 4 then (if kAl K2 = true then Int32.ofNat K2.2.2.length else -1) else Int32.ofNat K2.2.2.length)) :: K2.2.1, (if op = 4 then (kEm K2 4 (-1) 0 0 (Int32.ofNat K.1.length)).2.2 else K2.2.2))) := by
    intro K1 r1 I1
    refine q_t (CI I1) (u_tP C I1 hl T Wt fun K2 z r2 e I2 => q_t (CI I2) ?_)
    have C2 := uI_C C I2
    have e2 : (if 200 ≤ K2.2.1.length then .inl (40, p) else kPutL p (btP M ty) (K2.1, (op, ty, K2.1.length, false, kAl K2, [], (if op = 4 then (if kAl K2 = true then Int32.ofNat K2.2.2.length else -1) else Int32.ofNat K2.2.2.length)) :: K2.2.1, (if op = 4 then (kEm K2 4 (-1) 0 0 (Int32.ofNat K.1.length)).2.2 else K2.2.2))) = sp_b (if 200 ≤ K2.2.1.length then (.inl (40, p) : sp_O tK) else .inr ((K2.1, (op, ty, K2.1.length, false, kAl K2, [], (if op = 4 then (if kAl K2 = true then Int32.ofNat K2.2.2.length else -1) else Int32.ofNat K2.2.2.length)) :: K2.2.1, (if op = 4 then (kEm K2 4 (-1) 0 0 (Int32.ofNat K.1.length)).2.2 else K2.2.2)), 0)) fun K3 _ => kPutL p (btP M ty) K3 := by
      by_cases c : 200 ≤ K2.2.1.length
      · rw [if_pos c, if_pos c]; rfl
      · rw [if_neg c, if_neg c]; rfl
    rw [e2]
    refine q_c (v_begins C2 I2.2.1 I2.2.2.1 _ _ _ _) (fun h' F => gF_t (uF_v I2.1) F) ?_
    rintro K3 z3 r3 e3 ⟨F3, V3⟩
    have I3 : uI h M p K3 K3 r3 := by
      refine ⟨gF_t I2.1 (uF_t F3), V3, ?_, lSm_r _⟩
      by_cases c : 200 ≤ K2.2.1.length
      · rw [if_pos c] at e3; cases e3
      · rw [if_neg c] at e3
        cases e3
        obtain ⟨w1, w2, w3, w4, w5⟩ := I2.2.2.1
        refine ⟨⟨Nat.le_refl _, w1⟩, fun l hl => ?_, w3, w4, Nat.not_le.mp c⟩
        rcases List.mem_cons.mp hl with z | z
        · rw [z]; exact ⟨Wt, by show op ≤ 5; omega⟩
        · exact w2 l z
    exact q_t (uI_C C I3).1.1 (q_e (u_fin (v_pP (uI_C C I3) V3 I3.2.2.1 T Wt) I3))
  unfold fX16_controls kBlk
  rw [if_neg hn]
  have c : op = 2 ∨ op = 3 ∨ op = 4 := by omega
  have bw := mw_blk C.1 (Nat.le_refl n) q
  rcases c with c | c | c <;> subst c
  · exact q_f (by decide) (q_f (by decide) (q_t rfl (q_t C.1.1 (q_b bw (q_f (by decide) (u_n (tail K (lk h p2) (uI_lk I p2))))))))
  · exact q_f (by decide) (q_f (by decide) (q_f (by decide) (q_t rfl (q_t C.1.1 (q_b bw (q_f (by decide) (u_n (tail K (lk h p2) (uI_lk I p2)))))))))
  · exact q_f (by decide) (q_f (by decide) (q_f (by decide) (q_f (by decide) (q_t rfl (q_t C.1.1 (q_b bw (q_t (by decide) (q_t C.1.1 (u_tk1 C (uI_lk I p2) hl isT_127 fun K6 z6 r6 I6 => tail K6 r6 I6)))))))))
theorem v_lal {ty : Int64} (C : vC r n b m eo el B M) (T : vTy M) (Wt : wfT M ty) {top : Nat} (ht : top < 200) (h4 : pm_I r 600 top = 4) (hE : (btP M ty).length = (btR M ty).length) : ∀ (j k : Nat), k + j = (btP M ty).length → pm_lim sX16_ends (.inr (.inl (592, Int32.ofNat top, mbt ty, 1, Int32.ofNat k, r))) = pm_lim sX16_ends (.inr (.inr (592, mbt ty, iN (decide (∀ i, i < (btP M ty).length → k ≤ i → gt (btP M ty) i = gt (btR M ty) i)), r))) := by
  have BW := bt_w T Wt
  obtain ⟨x1, x2, x3⟩ := C.2.2.2.1.2.2.1
  intro j
  induction j with
  | zero =>
    intro k hk
    refine k_w (aX16_ends_1 ..) ?_
    unfold tX16_ends_100
    refine k_t C.1.1 (k_b (v_par C T Wt) (k_t (by rw [nn_le (by omega) (by omega)]; omega) ?_))
    rw [decide_eq_true (fun i h1 h2 => by omega)]
    rfl
  | succ j ih =>
    intro k hk
    refine k_w (aX16_ends_1 ..) ?_
    unfold tX16_ends_100
    have g1 := gt_m (l := btP M ty) (k := k) (by omega)
    have g2 := gt_m (l := btR M ty) (k := k) (by omega)
    have t1 := isT_lt (BW.2.2.1 _ g1)
    have t2 := isT_lt (BW.2.2.2 _ g2)
    refine k_t C.1.1 (k_b (v_par C T Wt) (k_f (by rw [nn_le (by omega) (by omega)]; omega) (k_f (by decide) (k_b x1 (k_t x2 (k_t (by rw [x3, nn_in (by omega)]; exact ht) (k_t (by rw [nn_cm (by omega)]; exact h4) (k_b (v_pat C T Wt (by omega)) (k_b (v_rat C T Wt (by omega)) ?_)))))))))
    by_cases c : gt (btP M ty) k = gt (btR M ty) k
    · refine k_t (by rw [c]) (k_l ?_)
      rw [show Int32.ofNat k + 1 = Int32.ofNat (k + 1) from nn_ad _ 1]
      refine k_n ((ih (k + 1) (by omega)).trans ?_)
      refine congrArg (fun z => pm_lim sX16_ends (.inr (.inr (592, mbt ty, iN z, r)))) ?_
      refine decide_eq_decide.mpr ⟨fun q i h1 h2 => ?_, fun q i h1 h2 => q i h1 (by omega)⟩
      by_cases z : i = k
      · rw [z]; exact c
      · exact q i h1 (by omega)
    · refine k_f (by rw [nn_eq (by omega) (by omega)]; exact c) (k_l (k_n ?_))
      rw [decide_eq_false (fun q => c (q k (by omega) (Nat.le_refl k)))]
      refine k_w (aX16_ends_1 ..) ?_
      unfold tX16_ends_100
      rw [show Int32.ofNat k + 1 = Int32.ofNat (k + 1) from nn_ad _ 1]
      refine k_t C.1.1 (k_b (v_par C T Wt) ?_)
      by_cases d : (btP M ty).length ≤ k + 1
      · exact k_t (by rw [nn_le (by omega) (by omega)]; exact d) rfl
      · exact k_f (by rw [nn_le (by omega) (by omega)]; exact d) (k_t rfl rfl)
theorem bt_eq (l1 l2 : List Nat) : l1 = l2 ↔ l1.length = l2.length ∧ ∀ i, i < l1.length → 0 ≤ i → gt l1 i = gt l2 i := ⟨fun e => by rw [e]; exact ⟨rfl, fun _ _ _ => rfl⟩, fun e => pair_ext l1 l2 0 e.1 (fun i hi => e.2 i hi (Nat.zero_le i))⟩
/-- a heap in which the innermost label is another -/
theorem v_top {l l' : tLb} {ls : List tLb} {st : List Nat} {co co' : List tRw} (C : vC r n b m eo el B M) (V : vK r p (st, l :: ls, co)) (W : wfK M (st, l :: ls, co)) (e2 : l'.2.1 = l.2.1) (e3 : l'.2.2.1 = l.2.2.1) (e1 : l'.1 = 5) (e4 : l'.2.2.2.1 = false) : ∃ r', r' = pm_setI (pm_setI r 600 ls.length 5) 603 ls.length (vp_nar .boolean 0) ∧ vT r p (st, l' :: ls, co') r' ∧ wfK M (st, l' :: ls, co') := by
  obtain ⟨v1, v2, v3, v4, ⟨⟨l1, l2, l3, l4⟩, lr⟩⟩ := V
  obtain ⟨w1, w2, w3, w4, w5⟩ := W
  obtain ⟨r', er⟩ : ∃ z, z = pm_setI (pm_setI r 600 ls.length 5) 603 ls.length (vp_nar .boolean 0) := ⟨_, rfl⟩
  have kI : ∀ x y, x ≠ 600 → x ≠ 603 → pm_I r' x y = pm_I r x y := fun x y h1 h2 => by rw [er, ev_II, if_neg h2, ev_II, if_neg h1]
  have k0 : ∀ y, pm_I r' 600 y = if y = ls.length then 5 else pm_I r 600 y := fun y => by rw [er, ev_II, if_neg (by decide), ev_II, if_pos rfl]
  have k3 : ∀ y, pm_I r' 603 y = if y = ls.length then 0 else pm_I r 603 y := fun y => by
    rw [er, ev_II, if_pos rfl, ev_II, if_neg (show ¬ (603 : Nat) = 600 by decide)]
    rfl
  have kL : ∀ x y, pm_L r' x y = pm_L r x y := fun x y => by rw [er]; rfl
  refine ⟨r', er, ⟨?_, ⟨(kI 592 _ (by decide) (by decide)).trans v1, (kI 592 _ (by decide) (by decide)).trans v2, (kI 592 _ (by decide) (by decide)).trans v3, onR_k (fun y _ => kI 599 y (by decide) (by decide)) v4, ⟨⟨by rw [k0, if_pos rfl, e1]; rfl, by rw [kL, e2]; exact l2, by rw [kI 602 _ (by decide) (by decide), e3]; exact l3, by rw [k3, if_pos rfl, e4]; rfl⟩, onL_k (fun y hy => ⟨by rw [k0, if_neg (by omega)], kL 601 y, kI 602 y (by decide) (by decide), by rw [k3, if_neg (by omega)]⟩) lr⟩⟩⟩, ?_⟩
  · rw [er]
    exact gF_t (gF_I r _ (.inr ⟨by decide, by decide⟩)) (gF_I _ _ (.inr ⟨by decide, by decide⟩))
  · have w1 : l.2.2.1 ≤ st.length ∧ wfL ls l.2.2.1 := w1
    refine ⟨⟨by rw [e3]; exact w1.1, by rw [e3]; exact w1.2⟩, fun k hk => ?_, w3, w4, w5⟩
    rcases List.mem_cons.mp hk with z | z
    · rw [z, e1, e2]; exact ⟨(w2 l List.mem_cons_self).1, Nat.le_refl 5⟩
    · exact w2 k (List.mem_cons_of_mem _ z)
theorem v_ends {op : Nat} (C : vC h n b m eo el B M) (I : uI h M p K K r) (hl : 0 < K.2.1.length) (T : vTy M) (ho : op = 5 ∨ op = 11) : ms_Q (vF m h) (vU h p) (fX16_ends r 592 (Int32.ofNat op)) (if op = 5 then kEls M p K else kEnd M p K) := by
  have CI := fun {K1 r1} (I1 : uI h M p K K1 r1) => (uI_C C I1).1.1
  have Cr := uI_C C I
  obtain ⟨st, ls, co⟩ := K
  cases ls with
  | nil => exact absurd hl (Nat.lt_irrefl 0)
  | cons l ls =>
  obtain ⟨v1, v2, v3, v4, ⟨⟨l1, l2, l3, l4⟩, lr⟩⟩ := I.2.1
  have w5 : ls.length + 1 ≤ 200 := I.2.2.1.2.2.2.2
  have wl := I.2.2.1.2.1 l List.mem_cons_self
  have v2 : pm_I r 592 24 = Int32.ofNat (ls.length + 1) := v2
  unfold fX16_ends
  rw [v2, nn_ss]
  obtain ⟨-, -, ⟨a1, a2, a3⟩, ⟨b1, b2, b3⟩, ⟨c1, c2, c3⟩, ⟨d1, d2, d3⟩, -⟩ := Cr.2.2.2.1
  refine q_t Cr.1.1 (q_l (q_b b1 (q_t b2 (q_t (by rw [b3, nn_in (by omega)]; omega) (q_l ?_)))))
  have e8 : pm_L r 601 (Int32.ofNat ls.length).toNatClampNeg = mbt l.2.1 := by rw [nn_cm (by omega), l2]
  rw [e8]
  have e5 : (if op = 5 then kEls M p (st, l :: ls, co) else kEnd M p (st, l :: ls, co)) = sp_b (kTakeL p (btR M l.2.1) (st, l :: ls, co)) fun K1 _ => if K1.1.length = l.2.2.1 then (if op = 5 then kPutL p (btP M l.2.1) (K1.1, (5, (kTop (kBr M 5 (Int32.ofNat st.length) 0 K1)).2.1, (kTop (kBr M 5 (Int32.ofNat st.length) 0 K1)).2.2.1, false, (kTop (kBr M 5 (Int32.ofNat st.length) 0 K1)).2.2.2.2) :: K1.2.1.tail, (kAimC (kBr M 5 (Int32.ofNat st.length) 0 K1)).2.2) else if l.1 = 4 ∧ btP M l.2.1 ≠ btR M l.2.1 then .inl (29, p) else if K1.2.1.tail.length = 0 then .inr ((K1.1, K1.2.1.tail, l.2.2.2.2.2.1.foldl (fun co r => rwAim co r (Int32.ofNat K1.2.2.length)) (kAimC K1).2.2 ++ [(11, 0, 0, 0, Int32.ofNat (btR M l.2.1).length)]), 0) else kPutL p (btR M l.2.1) (K1.1, K1.2.1.tail, l.2.2.2.2.2.1.foldl (fun co r => rwAim co r (Int32.ofNat K1.2.2.length)) (kAimC K1).2.2)) else .inl (29, p) := by
    rcases ho with z | z
    · rw [if_pos z]; simp only [if_pos z]; rfl
    · rw [if_neg (by omega)]; simp only [if_neg (show ¬ op = 5 by omega)]; rfl
  rw [e5]
  refine u_tR C I hl T wl.1 fun K1 z r1 e I1 => ?_
  obtain ⟨w1, w2, w3⟩ := kTakeN_w I.2.2.1 e
  obtain ⟨st1, ls1, co1⟩ := K1
  cases w2
  have C1 := uI_C C I1
  have y2 : pm_I r1 592 24 = Int32.ofNat (ls.length + 1) := I1.2.1.2.1
  obtain ⟨-, -, ⟨a1, a2, a3⟩, ⟨b1, b2, b3⟩, ⟨c1, c2, c3⟩, ⟨d1, d2, d3⟩, -⟩ := C1.2.2.2.1
  obtain ⟨y1, -, y3, y4, ⟨⟨m1, m2, m3, m4⟩, mr⟩⟩ := I1.2.1
  have y1 : pm_I r1 592 23 = Int32.ofNat st1.length := y1
  have s4 : st1.length ≤ 1000 := I1.2.2.1.2.2.2.1
  have ll : l.2.2.1 ≤ st1.length := I1.2.2.1.1.1
  refine q_t C1.1.1 (q_b c1 (q_t c2 (q_t (by rw [c3, nn_in (by omega)]; omega) ?_)))
  have e9 : (pm_I r1 592 23 = pm_I r1 602 (Int32.ofNat ls.length).toNatClampNeg) ↔ st1.length = l.2.2.1 := by rw [nn_cm (by omega), m3, y1, nn_eq (by omega) (by omega)]
  show ms_Q _ _ _ (if st1.length = l.2.2.1 then _ else _)
  by_cases cz : st1.length = l.2.2.1
  · rw [if_pos cz]
    refine q_t (e9.mpr cz) (s_w (aX16_ends_0 ..) ?_)
    unfold tX16_ends_42
    rcases ho with c5 | c11
    · rw [if_pos c5]
      obtain ⟨bm1, bm2⟩ := kBr_m M 5 (Int32.ofNat st.length) 0 (st1, l :: ls, co)
      have g0 := lSm_g 0 bm2
      rw [← kTop_g] at g0
      obtain ⟨r', er, VT, W'⟩ := v_top (l' := (5, (kTop (kBr M 5 (Int32.ofNat st.length) 0 (st1, l :: ls, co))).2.1, (kTop (kBr M 5 (Int32.ofNat st.length) 0 (st1, l :: ls, co))).2.2.1, false, (kTop (kBr M 5 (Int32.ofNat st.length) 0 (st1, l :: ls, co))).2.2.2.2)) (co' := (kAimC (kBr M 5 (Int32.ofNat st.length) 0 (st1, l :: ls, co))).2.2) C1 I1.2.1 I1.2.2.1 g0.2.1 g0.2.2.1 rfl rfl
      have kd1 : pm_kd (pm_setI r1 600 ls.length 5) 603 = 32 := d2
      refine s_t (by rw [c5]; rfl) (s_t C1.1.1 (s_b a1 (s_t a2 (s_t (by rw [a3, nn_in (by omega)]; omega) ?_))))
      simp only [show (Int32.ofNat ls.length).toNatClampNeg = ls.length from nn_cm (by omega)]
      refine s_b (show pm_R (pm_setI r1 600 ls.length 5) 592 28 = some 603 from d1) (s_t kd1 (s_t (show pm_in (Int32.ofNat ls.length) (pm_ln r1 603) by rw [d3, nn_in (by omega)]; omega) ?_))
      rw [← er]
      have I2 : uI h M p (st1, (5, (kTop (kBr M 5 (Int32.ofNat st.length) 0 (st1, l :: ls, co))).2.1, (kTop (kBr M 5 (Int32.ofNat st.length) 0 (st1, l :: ls, co))).2.2.1, false, (kTop (kBr M 5 (Int32.ofNat st.length) 0 (st1, l :: ls, co))).2.2.2.2) :: ls, (kAimC (kBr M 5 (Int32.ofNat st.length) 0 (st1, l :: ls, co))).2.2) (st1, (5, (kTop (kBr M 5 (Int32.ofNat st.length) 0 (st1, l :: ls, co))).2.1, (kTop (kBr M 5 (Int32.ofNat st.length) 0 (st1, l :: ls, co))).2.2.1, false, (kTop (kBr M 5 (Int32.ofNat st.length) 0 (st1, l :: ls, co))).2.2.2.2) :: ls, (kAimC (kBr M 5 (Int32.ofNat st.length) 0 (st1, l :: ls, co))).2.2) r' := ⟨gF_t I1.1 (uF_t VT.1), VT.2, W', lSm_r _⟩
      exact s_e (u_fin (v_pP (uI_C C I2) VT.2 W' T wl.1) I2)
    · rw [if_neg (show ¬ op = 5 by omega)]
      refine s_f (by rw [c11]; decide) (s_t C1.1.1 (s_b a1 (s_t a2 (s_t (by rw [a3, nn_in (by omega)]; omega) ?_))))
      rw [nn_cm (by omega), m1]
      have W2 : wfK M (st1, ls, co) := by
        obtain ⟨w1, w2, w3, w4, w5⟩ := I1.2.2.1
        have w1 : l.2.2.1 ≤ st1.length ∧ wfL ls l.2.2.1 := w1
        have w5 : ls.length + 1 ≤ 200 := w5
        exact ⟨by rw [← cz] at w1; exact w1.2, fun k hk => w2 k (List.mem_cons_of_mem _ hk), w3, w4, by show ls.length ≤ 200; omega⟩
      obtain ⟨r2, er⟩ : ∃ z, z = pm_setI r1 592 24 (Int32.ofNat ls.length) := ⟨_, rfl⟩
      have F2 : tF r1 r2 := by rw [er]; exact gF_I r1 _ (.inl ⟨rfl, .inr rfl⟩)
      have k2 : ∀ x y, x ≠ 592 → pm_I r2 x y = pm_I r1 x y := fun x y hx => by rw [er, ev_II, if_neg hx]
      have k9 : ∀ y, y ≠ 24 → pm_I r2 592 y = pm_I r1 592 y := fun y hy => by rw [er, ev_II, if_pos rfl, if_neg hy]
      have e24 : pm_I r2 592 24 = Int32.ofNat ls.length := by rw [er, ev_II, if_pos rfl, if_pos rfl]
      have fin : ∀ (co2 : List tRw), ms_Q (vF m h) (vU h p) (ev_k sX16_ends (tX16_ends_155 592 (mbt l.2.1) 1 r1)) (if ls.length = 0 then .inr ((st1, ls, co2 ++ [(11, 0, 0, 0, Int32.ofNat (btR M l.2.1).length)]), 0) else kPutL p (btR M l.2.1) (st1, ls, co2)) := by
        intro co2
        unfold tX16_ends_155
        have V2 : ∀ co3, vK r2 p (st1, ls, co3) := fun co3 => ⟨(k9 23 (by decide)).trans y1, e24, (k9 31 (by decide)).trans y3, onR_k (fun y _ => k2 599 y (by decide)) y4, onL_k (fun y _ => ⟨k2 600 y (by decide), by rw [er]; rfl, k2 602 y (by decide), k2 603 y (by decide)⟩) mr⟩
        refine s_f (by decide) (s_t C1.1.1 (s_l ?_))
        rw [y2, nn_ss, ← er]
        rw [e24]
        by_cases z0 : ls.length = 0
        · rw [if_pos z0]
          exact s_t (by rw [z0]; decide) (s_r (q_r ⟨gF_t I1.1 (uF_t F2), V2 _⟩))
        · rw [if_neg z0]
          have I2 : uI h M p (st1, ls, co2) (st1, ls, co2) r2 := ⟨gF_t I1.1 (uF_t F2), V2 co2, wfK_s rfl rfl W2, lSm_r _⟩
          exact s_f (by rw [n3_0, nn_le (by omega) (by decide)]; omega) (s_e (u_fin (v_pR (uI_C C I2) (V2 co2) I2.2.2.1 T wl.1) I2))
      have h4 : (Int32.ofNat l.1 = 4) ↔ l.1 = 4 := by
        have := wl.2
        rw [show (4 : Int32) = Int32.ofNat 4 from rfl, nn_eq (by omega) (by decide)]
      have lb : ∀ z : Int32, ms_Q (vF m h) (vU h p) (pm_lim sX16_ends (.inr (.inr (592, mbt l.2.1, z, r1)))) = ms_Q (vF m h) (vU h p) (ev_k sX16_ends (tX16_ends_155 592 (mbt l.2.1) z r1)) := fun z => by rw [ev_lm, aX16_ends_2]
      by_cases c4 : l.1 = 4
      · refine s_t (h4.mpr c4) (s_b (v_par C1 T wl.1) (s_b (v_res C1 T wl.1) ?_))
        have BW := bt_w T wl.1
        have m4' : pm_I r1 600 ls.length = 4 := by rw [m1, c4]; rfl
        by_cases cE : (btP M l.2.1).length = (btR M l.2.1).length
        · refine s_t (by rw [cE]) (s_n ?_)
          rw [show (0 : Int32) = Int32.ofNat 0 from rfl, v_lal C1 T wl.1 (by omega) m4' cE _ 0 (Nat.zero_add _), lb]
          by_cases cq : btP M l.2.1 = btR M l.2.1
          · rw [decide_eq_true ((bt_eq _ _).mp cq).2, if_neg (fun y => y.2 cq)]
            exact fin _
          · rw [decide_eq_false (fun y => cq ((bt_eq _ _).mpr ⟨cE, y⟩)), if_pos ⟨c4, cq⟩]
            unfold tX16_ends_155
            exact s_t rfl (s_t C1.1.1 (s_stop C1.1 (uF_v I1.1) rfl y3))
        · have cq : ¬ btP M l.2.1 = btR M l.2.1 := fun y => cE (by rw [y])
          refine s_f (by rw [nn_eq (by omega) (by omega)]; exact cE) ?_
          rw [if_pos ⟨c4, cq⟩]
          refine (s_n (s_w (aX16_ends_1 ..) ?_))
          unfold tX16_ends_100
          refine s_t C1.1.1 (s_b (v_par C1 T wl.1) ?_)
          have dn : ms_Q (vF m h) (vU h p) (ev_k sX16_ends (some (.inl (.inr (.inr (592, mbt l.2.1, 0, r1)))))) (.inl (29, p)) := by
            refine s_n ?_
            rw [lb]
            unfold tX16_ends_155
            exact s_t rfl (s_t C1.1.1 (s_stop C1.1 (uF_v I1.1) rfl y3))
          by_cases d : (btP M l.2.1).length ≤ 0
          · exact s_t (by rw [n3_0, nn_le (by omega) (by decide)]; exact d) dn
          · exact s_f (by rw [n3_0, nn_le (by omega) (by decide)]; exact d) (s_t rfl dn)
      · refine s_f (fun y => c4 (h4.mp y)) ?_
        rw [if_neg (fun y => c4 y.1)]
        refine (s_n (s_w (aX16_ends_1 ..) ?_))
        unfold tX16_ends_100
        have BW := bt_w T wl.1
        refine s_t C1.1.1 (s_b (v_par C1 T wl.1) ?_)
        have dn : ∀ o, ms_Q (vF m h) (vU h p) (ev_k sX16_ends (tX16_ends_155 592 (mbt l.2.1) 1 r1)) o → ms_Q (vF m h) (vU h p) (ev_k sX16_ends (some (.inl (.inr (.inr (592, mbt l.2.1, 1, r1)))))) o := fun o q => by
          refine s_n ?_
          rw [lb]
          exact q
        by_cases d : (btP M l.2.1).length ≤ 0
        · exact s_t (by rw [n3_0, nn_le (by omega) (by decide)]; exact d) (dn _ (fin _))
        · refine s_f (by rw [n3_0, nn_le (by omega) (by decide)]; exact d) (s_f (by decide) (s_b a1 (s_t a2 (s_t (by rw [a3, nn_in (by omega)]; omega) (s_f ?_ (dn _ (fin _)))))))
          rw [nn_cm (by omega), m1]
          exact fun y => c4 (h4.mp y)
  · rw [if_neg cz]
    refine q_f (fun y => cz (e9.mp y)) ?_
    exact v_stop C1.1 (uF_v I1.1) rfl y3
end VEND
