/-! THE REFERENCE CHECKS: labels -/
theorem onL_x {h : pm_H} : ∀ {ls : List tLb} {x : Nat}, onL h ls → x < ls.length → pm_I h 600 (ls.length - 1 - x) = Int32.ofNat (ls.getD x lb0).1 ∧ pm_L h 601 (ls.length - 1 - x) = mbt (ls.getD x lb0).2.1 ∧ pm_I h 602 (ls.length - 1 - x) = Int32.ofNat (ls.getD x lb0).2.2.1 ∧ pm_I h 603 (ls.length - 1 - x) = if (ls.getD x lb0).2.2.2.1 = true then 1 else 0
  | [], x, _, hx => absurd hx (Nat.not_lt_zero _)
  | l :: ls, 0, q, _ => by
    rw [show (l :: ls).length - 1 - 0 = ls.length from rfl]
    exact q.1
  | l :: ls, x + 1, q, hx => by
    have := onL_x (x := x) q.2 (Nat.lt_of_succ_lt_succ hx)
    rw [show (l :: ls).length - 1 - (x + 1) = ls.length - 1 - x by rw [List.length_cons]; omega]
    exact this
theorem getD_mem {ls : List tLb} {x : Nat} (h : x < ls.length) : ls.getD x lb0 ∈ ls := by
  rw [List.getD_eq_getElem?_getD, List.getElem?_eq_getElem h]
  exact List.getElem_mem h
section VLABEL
variable {h : pm_H} {n b m eo el p x : Nat} {B : Nat → Nat} {M : tMd} {K : tK}
theorem lbW_w (T : vTy M) {l : tLb} (W : wfT M l.2.1) : (lbW M l).length ≤ 16 ∧ ∀ y, y ∈ lbW M l → isT y := by
  have BW := bt_w T W
  unfold lbW
  split
  · exact ⟨BW.1, BW.2.2.1⟩
  · exact ⟨BW.2.1, BW.2.2.2⟩
theorem v_wby (C : vC h n b m eo el B M) (V : vK h p K) (W : wfK M K) (T : vTy M) (hx : x < K.2.1.length) : fX16_wantedBy h 592 (Int32.ofNat x) = some (Int32.ofNat (lbW M (K.2.1.getD x lb0)).length) := by
  obtain ⟨v1, v2, v3, v4, v5⟩ := V
  obtain ⟨-, -, ⟨x1, x2, x3⟩, ⟨x4, x5, x6⟩, -⟩ := C.2.2.2.1
  obtain ⟨l1, l2, l3, l4⟩ := onL_x v5 hx
  have wl := W.2.1 _ (getD_mem hx)
  have w5 := W.2.2.2.2
  unfold fX16_wantedBy lbW
  refine e9_t C.1.1 ?_
  rw [v2, nn_s1 (by omega), nn_sb (by omega)]
  refine e9_l (e9_b x1 (e9_t x2 (e9_t (by rw [x3, nn_in (by omega)]; omega) ?_)))
  have nc : (Int32.ofNat (K.2.1.length - 1 - x)).toNatClampNeg = K.2.1.length - 1 - x := nn_cm (by omega)
  by_cases c : (K.2.1.getD x lb0).1 = 3
  · rw [if_pos c]
    refine e9_t (by rw [nc, l1, c]; rfl) (e9_b x4 (e9_t x5 (e9_t (by rw [x6, nn_in (by omega)]; omega) ?_)))
    rw [nc, l2]
    exact e9_b (v_par C T wl.1) rfl
  · rw [if_neg c]
    refine e9_f (by rw [nc, l1]; show ¬ _ = Int32.ofNat 3; rw [nn_eq (by omega) (by omega)]; exact c) (e9_b x4 (e9_t x5 (e9_t (by rw [x6, nn_in (by omega)]; omega) ?_)))
    rw [nc, l2]
    exact e9_b (v_res C T wl.1) rfl
theorem v_wat {k : Nat} (C : vC h n b m eo el B M) (V : vK h p K) (W : wfK M K) (T : vTy M) (hx : x < K.2.1.length) (hk : k < (lbW M (K.2.1.getD x lb0)).length) : fX16_wantedAt h 592 (Int32.ofNat x) (Int32.ofNat k) = some (Int32.ofNat (gt (lbW M (K.2.1.getD x lb0)) k)) := by
  obtain ⟨v1, v2, v3, v4, v5⟩ := V
  obtain ⟨-, -, ⟨x1, x2, x3⟩, ⟨x4, x5, x6⟩, -⟩ := C.2.2.2.1
  obtain ⟨l1, l2, l3, l4⟩ := onL_x v5 hx
  have wl := W.2.1 _ (getD_mem hx)
  have w5 := W.2.2.2.2
  unfold fX16_wantedAt
  unfold lbW at hk ⊢
  refine e9_t C.1.1 ?_
  rw [v2, nn_s1 (by omega), nn_sb (by omega)]
  refine e9_l (e9_b x1 (e9_t x2 (e9_t (by rw [x3, nn_in (by omega)]; omega) ?_)))
  have nc : (Int32.ofNat (K.2.1.length - 1 - x)).toNatClampNeg = K.2.1.length - 1 - x := nn_cm (by omega)
  by_cases c : (K.2.1.getD x lb0).1 = 3
  · rw [if_pos c] at hk ⊢
    refine e9_t (by rw [nc, l1, c]; rfl) (e9_b x4 (e9_t x5 (e9_t (by rw [x6, nn_in (by omega)]; omega) ?_)))
    rw [nc, l2]
    exact e9_b (v_pat C T wl.1 hk) rfl
  · rw [if_neg c] at hk ⊢
    refine e9_f (by rw [nc, l1]; show ¬ _ = Int32.ofNat 3; rw [nn_eq (by omega) (by omega)]; exact c) (e9_b x4 (e9_t x5 (e9_t (by rw [x6, nn_in (by omega)]; omega) ?_)))
    rw [nc, l2]
    exact e9_b (v_rat C T wl.1 hk) rfl
theorem v_lW (T : vTy M) {l : tLb} : ∀ (k : Nat) {h : pm_H} {K : tK}, vC h n b m eo el B M → vK h p K → wfK M K → x < K.2.1.length → K.2.1.getD x lb0 = l → k ≤ (lbW M l).length → ms_Q (vF m h) (fun K' _ r => vT h p K' r) (pm_lim sX16_takeWanted (592, Int32.ofNat x, Int32.ofNat k - 1, h)) (kTakeN p (gt (lbW M l)) k K) := by
  intro k
  induction k with
  | zero =>
    intro h K C V W hx hl hk
    refine s_w (aX16_takeWanted_0 ..) ?_
    unfold tX16_takeWanted_8
    exact s_t (by decide) (s_r (q_r ⟨gF_r _ _ h, V⟩))
  | succ k ih =>
    intro h K C V W hx hl hk
    have BW := lbW_w T (W.2.1 _ (getD_mem hx)).1
    rw [hl] at BW
    have wt := v_wat (k := k) C V W T hx (by rw [hl]; exact hk)
    rw [hl] at wt
    refine s_w (aX16_takeWanted_0 ..) ?_
    unfold tX16_takeWanted_8
    rw [nn_ss]
    refine s_f (by rw [n3_0, nn_lt (by omega) (by decide)]; omega) (s_t C.1.1 (s_b wt (s_c (v_take C V W (by omega) (.inr (BW.2 _ (gt_m hk)))) (fun h' z => z) ?_)))
    rintro v z r e ⟨h', er, F, V'⟩
    subst er
    obtain ⟨w1, w2, w3, w4⟩ := kTake_w W e
    refine s_l ?_
    rw [dn_s]
    refine s_n ?_
    exact q_w (ih (vC_F C (tF_v F)) V' w1 (by rw [w2]; exact hx) (by rw [w2]; exact hl) (Nat.le_of_succ_le hk)) (fun h2 z => vF_t F z) (fun K2 _ r _ z => vT_t ⟨F, V'⟩ z)
theorem v_W (C : vC h n b m eo el B M) (V : vK h p K) (W : wfK M K) (T : vTy M) (hx : x < K.2.1.length) : ms_Q (vF m h) (fun K' _ r => vT h p K' r) (fX16_takeWanted h 592 (Int32.ofNat x)) (kTakeL p (lbW M (K.2.1.getD x lb0)) K) := by
  unfold fX16_takeWanted
  exact q_t C.1.1 (q_b (v_wby C V W T hx) (q_l (v_lW T _ C V W hx rfl (Nat.le_refl _))))
theorem v_dies (C : vC h n b m eo el B M) (V : vK h p K) (W : wfK M K) (hl : 0 < K.2.1.length) : ∃ h', fX16_dies h 592 = some h' ∧ vT h p (kDie K) h' := by
  obtain ⟨st, ls, co⟩ := K
  obtain ⟨v1, v2, v3, v4, v5⟩ := V
  obtain ⟨-, -, -, -, ⟨x1, x2, x3⟩, ⟨x4, x5, x6⟩, -⟩ := C.2.2.2.1
  have w5 := W.2.2.2.2
  have w1 := W.1
  have w4 := W.2.2.2.1
  cases ls with
  | nil => exact absurd hl (Nat.lt_irrefl 0)
  | cons l ls =>
    have w5 : ls.length + 1 ≤ 200 := w5
    have w1 : l.2.2.1 ≤ st.length ∧ wfL ls l.2.2.1 := w1
    have w4 : st.length ≤ 1000 := w4
    obtain ⟨⟨l1, l2, l3, l4⟩, lr⟩ := v5
    have v2 : pm_I h 592 24 = Int32.ofNat (ls.length + 1) := v2
    have v1 : pm_I h 592 23 = Int32.ofNat st.length := v1
    have y4 : pm_I h 592 24 - 1 = Int32.ofNat ls.length := by rw [v2]; exact nn_ss _
    obtain ⟨h', eh⟩ : ∃ z, z = pm_setI (pm_setI h 592 23 (Int32.ofNat l.2.2.1)) 603 ls.length (vp_nar .boolean 1) := ⟨_, rfl⟩
    refine ⟨h', ?_, ?_, ?_, ?_, ?_, ?_, ?_⟩
    · unfold fX16_dies
      refine e9_t C.1.1 (e9_b x1 (e9_l ?_))
      rw [y4]
      refine e9_t x2 (e9_t (by rw [x3, nn_in (by omega)]; omega) (e9_l ?_))
      rw [nn_cm (by omega), l3]
      have e24 : pm_I (pm_setI h 592 23 (Int32.ofNat l.2.2.1)) 592 24 - 1 = Int32.ofNat ls.length := by rw [ev_II, if_pos rfl, if_neg (by decide)]; exact y4
      rw [e24]
      refine e9_b x4 (e9_t x5 (e9_t (show pm_in (Int32.ofNat ls.length) (pm_ln h 603) by rw [x6, nn_in (by omega)]; omega) ?_))
      rw [nn_cm (by omega), eh]
    · rw [eh]
      exact gF_t (gF_I h _ (.inl ⟨rfl, .inl rfl⟩)) (gF_I _ _ (.inr ⟨by decide, by decide⟩))
    · rw [eh, ev_II, if_neg (by decide), ev_II, if_pos rfl, if_pos rfl]
      show _ = Int32.ofNat (st.drop (st.length - l.2.2.1)).length
      rw [List.length_drop]
      exact congrArg Int32.ofNat (by omega)
    · rw [eh, ev_II, if_neg (by decide), ev_II, if_pos rfl, if_neg (by decide)]; exact v2
    · rw [eh, ev_II, if_neg (by decide), ev_II, if_pos rfl, if_neg (by decide)]; exact v3
    · have k1 : ∀ y, pm_I h' 599 y = pm_I h 599 y := fun y => by rw [eh, ev_II, if_neg (by decide), ev_II, if_neg (by decide)]
      have dr : ∀ (k : Nat) (s : List Nat), onR h s → onR h' (s.drop k) := by
        intro k
        induction k with
        | zero => intro s q; exact onR_k (fun y _ => k1 y) q
        | succ k ih =>
          intro s q
          cases s with
          | nil => exact trivial
          | cons t s => exact ih s q.2
      exact dr _ st v4
    · have k1 : ∀ x y, x ≠ 592 → x ≠ 603 → pm_I h' x y = pm_I h x y := fun x y hx hy => by rw [eh, ev_II, if_neg hy, ev_II, if_neg hx]
      have k3 : ∀ y, y ≠ ls.length → pm_I h' 603 y = pm_I h 603 y := fun y hy => by rw [eh, ev_II, if_pos rfl, if_neg hy, ev_II, if_neg (by decide)]
      show (pm_I h' 600 ls.length = Int32.ofNat l.1 ∧ pm_L h' 601 ls.length = mbt l.2.1 ∧ pm_I h' 602 ls.length = Int32.ofNat l.2.2.1 ∧ pm_I h' 603 ls.length = 1) ∧ onL h' ls
      refine ⟨⟨(k1 600 _ (by decide) (by decide)).trans l1, ?_, (k1 602 _ (by decide) (by decide)).trans l3, ?_⟩, ?_⟩
      · rw [eh]; exact l2
      · rw [eh, ev_II, if_pos rfl, if_pos rfl]; rfl
      · exact onL_k (fun y hy => ⟨k1 600 y (by decide) (by decide), by rw [eh]; rfl, k1 602 y (by decide) (by decide), k3 y (by omega)⟩) lr
theorem kDie_w (W : wfK M K) (hl : 0 < K.2.1.length) : wfK M (kDie K) := by
  obtain ⟨st, ls, co⟩ := K
  obtain ⟨w1, w2, w3, w4, w5⟩ := W
  cases ls with
  | nil => exact absurd hl (Nat.lt_irrefl 0)
  | cons l ls =>
    have w1 : l.2.2.1 ≤ st.length ∧ wfL ls l.2.2.1 := w1
    have dl : (st.drop (st.length - l.2.2.1)).length = l.2.2.1 := by rw [List.length_drop]; omega
    refine ⟨⟨?_, w1.2⟩, fun z hz => ?_, fun t ht => w3 t (List.mem_of_mem_drop ht), ?_, w5⟩
    · show l.2.2.1 ≤ (st.drop (st.length - l.2.2.1)).length
      omega
    · rcases List.mem_cons.mp hz with y | y
      · rw [y]; exact w2 l List.mem_cons_self
      · exact w2 z (List.mem_cons_of_mem _ y)
    · show (st.drop (st.length - l.2.2.1)).length ≤ 1000
      have w4 : st.length ≤ 1000 := w4
      omega
/-- a label more -/
theorem v_begins (C : vC h n b m eo el B M) (V : vK h p K) (W : wfK M K) {op : Nat} {t : Int64} (q1 : Bool) (q2 : List Nat) (q3 : Int32) (co : List tRw) : ms_Q (vF m h) (fun K' _ r => vT h p K' r) (fX16_begins h 592 (Int32.ofNat op) (mbt t)) (if 200 ≤ K.2.1.length then (.inl (40, p) : sp_O tK) else .inr ((K.1, (op, t, K.1.length, false, q1, q2, q3) :: K.2.1, co), 0)) := by
  obtain ⟨v1, v2, v3, v4, v5⟩ := V
  have w4 := W.2.2.2.1
  have w5 := W.2.2.2.2
  obtain ⟨-, -, ⟨a1, a2, a3⟩, ⟨b1, b2, b3⟩, ⟨c1, c2, c3⟩, ⟨d1, d2, d3⟩, -⟩ := C.2.2.2.1
  unfold fX16_begins
  refine q_t C.1.1 ?_
  rw [v2]
  by_cases c : 200 ≤ K.2.1.length
  · rw [if_pos c]
    refine q_t (show Int32.ofNat K.2.1.length = Int32.ofNat 200 by rw [show K.2.1.length = 200 by omega]) ?_
    exact v_stop C.1 (gF_r _ _ h) rfl v3
  · rw [if_neg c]
    refine q_f (show ¬ Int32.ofNat K.2.1.length = Int32.ofNat 200 by rw [nn_eq (by omega) (by omega)]; omega) ?_
    obtain ⟨h1, e1⟩ : ∃ z, z = pm_setI h 600 K.2.1.length (Int32.ofNat op) := ⟨_, rfl⟩
    obtain ⟨h2, e2⟩ : ∃ z, z = pm_setL h1 601 K.2.1.length (mbt t) := ⟨_, rfl⟩
    obtain ⟨h3, e3⟩ : ∃ z, z = pm_setI h2 602 K.2.1.length (Int32.ofNat K.1.length) := ⟨_, rfl⟩
    obtain ⟨h4, e4⟩ : ∃ z, z = pm_setI h3 603 K.2.1.length (vp_nar .boolean 0) := ⟨_, rfl⟩
    obtain ⟨h5, e5⟩ : ∃ z, z = pm_setI h4 592 24 (Int32.ofNat (K.2.1.length + 1)) := ⟨_, rfl⟩
    have i1 : pm_I h1 592 24 = Int32.ofNat K.2.1.length := by rw [e1, ev_II, if_neg (by decide)]; exact v2
    have i2 : pm_I h2 592 24 = Int32.ofNat K.2.1.length := by rw [e2]; exact i1
    have j2 : pm_I h2 592 23 = Int32.ofNat K.1.length := by rw [e2, e1]; rw [ev_IL, ev_II, if_neg (by decide)]; exact v1
    have i3 : pm_I h3 592 24 = Int32.ofNat K.2.1.length := by rw [e3, ev_II, if_neg (by decide)]; exact i2
    have i4 : pm_I h4 592 24 = Int32.ofNat K.2.1.length := by rw [e4, ev_II, if_neg (by decide)]; exact i3
    have F : tF h h5 := by
      rw [e5, e4, e3, e2, e1]
      exact gF_t (gF_t (gF_t (gF_t (gF_I h _ (.inr ⟨by decide, by decide⟩)) (gF_L _ _ rfl)) (gF_I _ _ (.inr ⟨by decide, by decide⟩))) (gF_I _ _ (.inr ⟨by decide, by decide⟩))) (gF_I _ _ (.inl ⟨rfl, .inr rfl⟩))
    have kd : pm_kd h1 = pm_kd h ∧ pm_kd h2 = pm_kd h ∧ pm_kd h3 = pm_kd h ∧ pm_kd h4 = pm_kd h := by rw [e4, e3, e2, e1]; exact ⟨rfl, rfl, rfl, rfl⟩
    have ln : pm_ln h1 = pm_ln h ∧ pm_ln h2 = pm_ln h ∧ pm_ln h3 = pm_ln h := by rw [e3, e2, e1]; exact ⟨rfl, rfl, rfl⟩
    have rr : pm_R h1 = pm_R h ∧ pm_R h2 = pm_R h ∧ pm_R h3 = pm_R h := by rw [e3, e2, e1]; exact ⟨rfl, rfl, rfl⟩
    have B20 : fX16_begins_b20 h 592 (Int32.ofNat op) (mbt t) = some (.inr h5) := by
      unfold fX16_begins_b20
      refine e9_t C.1.1 (e9_b a1 (e9_t a2 ?_))
      rw [v2]
      refine e9_t (by rw [a3, nn_in (by omega)]; omega) ?_
      rw [nn_cm (by omega), ← e1]
      refine e9_b (by rw [rr.1]; exact b1) (e9_t (by rw [kd.1]; exact b2) ?_)
      rw [i1]
      refine e9_t (by rw [ln.1, b3, nn_in (by omega)]; omega) ?_
      rw [nn_cm (by omega), ← e2]
      refine e9_b (by rw [rr.2.1]; exact c1) (e9_l ?_)
      rw [j2]
      refine e9_t (by rw [kd.2.1]; exact c2) ?_
      rw [i2]
      refine e9_t (by rw [ln.2.1, c3, nn_in (by omega)]; omega) ?_
      rw [nn_cm (by omega), ← e3]
      refine e9_b (by rw [rr.2.2]; exact d1) (e9_t (by rw [kd.2.2.1]; exact d2) ?_)
      rw [i3]
      refine e9_t (by rw [ln.2.2, d3, nn_in (by omega)]; omega) ?_
      rw [nn_cm (by omega), ← e4]
      refine e9_l ?_
      rw [i4, show Int32.ofNat K.2.1.length + 1 = Int32.ofNat (K.2.1.length + 1) from nn_ad _ 1, ← e5]
    rw [B20]
    have kI : ∀ x y, x ≠ 592 → ¬ (600 ≤ x ∧ x ≤ 603) → pm_I h5 x y = pm_I h x y := fun x y hx hy => by
      rw [e5, ev_II, if_neg hx, e4, ev_II, if_neg (by omega), e3, ev_II, if_neg (by omega), e2, ev_IL, e1, ev_II, if_neg (by omega)]
    have k9 : ∀ y, y ≠ 24 → pm_I h5 592 y = pm_I h 592 y := fun y hy => by
      rw [e5, ev_II, if_pos rfl, if_neg hy, e4, ev_II, if_neg (by decide), e3, ev_II, if_neg (by decide), e2, ev_IL, e1, ev_II, if_neg (by decide)]
    have g0 : ∀ y, pm_I h5 600 y = if y = K.2.1.length then Int32.ofNat op else pm_I h 600 y := fun y => by
      rw [e5, ev_II, if_neg (by decide), e4, ev_II, if_neg (by decide), e3, ev_II, if_neg (by decide), e2, ev_IL, e1, ev_II, if_pos rfl]
    have g1 : ∀ y, pm_L h5 601 y = if y = K.2.1.length then mbt t else pm_L h 601 y := fun y => by
      rw [e5, ev_LI, e4, ev_LI, e3, ev_LI, e2, ev_LL, if_pos rfl, e1, ev_LI]
    have g2 : ∀ y, pm_I h5 602 y = if y = K.2.1.length then Int32.ofNat K.1.length else pm_I h 602 y := fun y => by
      rw [e5, ev_II, if_neg (by decide), e4, ev_II, if_neg (by decide), e3, ev_II, if_pos rfl, e2, ev_IL, e1, ev_II, if_neg (show ¬ (602 : Nat) = 600 by decide)]
    have g3 : ∀ y, pm_I h5 603 y = if y = K.2.1.length then vp_nar .boolean 0 else pm_I h 603 y := fun y => by
      rw [e5, ev_II, if_neg (by decide), e4, ev_II, if_pos rfl, e3, ev_II, if_neg (show ¬ (603 : Nat) = 602 by decide), e2, ev_IL, e1, ev_II, if_neg (show ¬ (603 : Nat) = 600 by decide)]
    refine q_r ⟨F, (k9 23 (by decide)).trans v1, by rw [e5, ev_II, if_pos rfl, if_pos rfl]; rfl, (k9 31 (by decide)).trans v3, onR_k (fun y _ => kI 599 y (by decide) (by decide)) v4, ⟨⟨by rw [g0, if_pos rfl], by rw [g1, if_pos rfl], by rw [g2, if_pos rfl], by rw [g3, if_pos rfl]; rfl⟩, onL_k (fun y hy => ⟨by rw [g0, if_neg (by omega)], by rw [g1, if_neg (by omega)], by rw [g2, if_neg (by omega)], by rw [g3, if_neg (by omega)]⟩) v5⟩⟩
end VLABEL
