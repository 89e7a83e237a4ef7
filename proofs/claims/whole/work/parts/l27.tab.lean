/-! THE REFERENCE CHECKS: a branch by a table -/
theorem lbW_s {M : tMd} {a b : List tLb} (e : lSm a b) (x : Nat) : lbW M (b.getD x lb0) = lbW M (a.getD x lb0) := by
  have g := lSm_g x e
  unfold lbW
  rw [g.1, g.2.1]
theorem lSm_tr : ∀ {a b c : List tLb}, lSm a b → lSm b c → lSm a c
  | [], [], [], _, _ => trivial
  | _ :: _, _ :: _, _ :: _, e, f => ⟨⟨f.1.1.trans e.1.1, f.1.2.1.trans e.1.2.1, f.1.2.2.1.trans e.1.2.2.1, f.1.2.2.2.trans e.1.2.2.2⟩, lSm_tr e.2 f.2⟩
  | [], _ :: _, _, e, _ => e.elim
  | _ :: _, [], _, e, _ => e.elim
  | _, [], _ :: _, _, f => f.elim
  | _, _ :: _, [], _, f => f.elim
section VTAB
variable {h r : pm_H} {n b m eo el p p1 p2 x w last many : Nat} {B : Nat → Nat} {M : tMd} {K0 K : tK} {hb : Int32} {β ρ σ : Type} {F : pm_H → Prop} {R : β → Nat → ρ → Prop} {s : σ → Option (σ ⊕ ((Nat × pm_H) ⊕ ρ))}
theorem take_I {W y : Int32} (C : vC h n b m eo el B M) (hf : fX16_take h 592 W = some (.inr (y, r))) : r = h ∨ ∃ v, r = pm_setI h 592 23 v := by
  unfold fX16_take at hf
  obtain ⟨-, hf⟩ := pm_if hf
  obtain ⟨y2, -, hf⟩ := pm_lt hf
  obtain ⟨v4, -, hf⟩ := pm_bd hf
  obtain ⟨-, hf⟩ := pm_if hf
  obtain ⟨-, hf⟩ := pm_if hf
  split at hf
  · obtain ⟨v26, -, hf⟩ := pm_bd hf
    obtain ⟨-, hf⟩ := pm_if hf
    obtain ⟨-, hf⟩ := pm_if hf
    split at hf
    · rw [v_stops C.1] at hf
      have hf : (some (.inl _) : Option ((Nat × pm_H) ⊕ (Int32 × pm_H))) = some (.inr (y, r)) := hf
      cases hf
    · cases hf; exact .inl rfl
  · obtain ⟨y9, -, hf⟩ := pm_lt hf
    obtain ⟨v11, -, hf⟩ := pm_bd hf
    obtain ⟨y13, -, hf⟩ := pm_lt hf
    obtain ⟨-, hf⟩ := pm_if hf
    obtain ⟨-, hf⟩ := pm_if hf
    obtain ⟨y17, -, hf⟩ := pm_lt hf
    split at hf
    · cases hf; exact .inr ⟨y9, rfl⟩
    · split at hf
      · cases hf; exact .inr ⟨y9, rfl⟩
      · split at hf
        · cases hf; exact .inr ⟨y9, rfl⟩
        · rw [v_stops (vC_F C (tF_v (gF_I h y9 (.inl ⟨rfl, .inl rfl⟩)))).1] at hf
          have hf : (some (.inl _) : Option ((Nat × pm_H) ⊕ (Int32 × pm_H))) = some (.inr (y, r)) := hf
          cases hf
theorem su_take {k : Int32 × pm_H → Option (σ ⊕ ((Nat × pm_H) ⊕ ρ))} {k' : Nat × tK → Nat → sp_O β} (C : vC h n b m eo el B M) (I : uI h M p K0 K r) (hl : 0 < K0.2.1.length) (hw : w = 0 ∨ isT w) (hk : ∀ v z r', kTake p w K = .inr (v, z) → (v.1 = 0 ∨ isT v.1) → uI h M p K0 v.2 r' → (tF r r' ∧ ∀ y, pm_I r' 604 y = pm_I r 604 y) → ms_Q (vF m h) R (ev_k s (k (rT v.1, r'))) (k' v z)) : ms_Q (vF m h) R (ev_k s ((fX16_take r 592 (Int32.ofNat w)).bind fun w => pt_s w k)) (sp_b (kTake p w K) k') := by
  have Q := v_take (uI_C C I) I.2.1 I.2.2.1 (uI_l I hl) hw
  have Q2 : ms_Q (vF m r) (fun v _ r' => ∃ h', r' = (rT v.1, h') ∧ vT r p v.2 h' ∧ ∀ y, pm_I h' 604 y = pm_I r 604 y) (fX16_take r 592 (Int32.ofNat w)) (kTake p w K) := by
    generalize ho : kTake p w K = o at Q ⊢
    cases o with
    | inl z => exact Q
    | inr v =>
      obtain ⟨r', e', h', er, V'⟩ := Q
      subst er
      refine ⟨_, e', h', rfl, V', fun y => ?_⟩
      rcases take_I (uI_C C I) e' with z | ⟨v, z⟩
      · rw [z]
      · rw [z, ev_II, if_neg (by decide)]
  refine s_c Q2 (fun h' F => gF_t (uF_v I.1) F) ?_
  rintro v z r' e ⟨h', er, ⟨F, V'⟩, k4⟩
  subst er
  obtain ⟨w1, w2, w3, w4⟩ := kTake_w I.2.2.1 e
  exact hk v z h' e w3 ⟨gF_t I.1 (uF_t F), V', w1, lSm_t I.2.2.2 (by rw [w2])⟩ ⟨F, k4⟩
theorem v_putE {y : Int32} (C : vC h n b m eo el B M) (V : vK h p K) (c : K.1.length < 1000) : fX16_put h 592 y = some (.inr (pm_setI (pm_setI h 599 K.1.length y) 592 23 (Int32.ofNat (K.1.length + 1)))) := by
  obtain ⟨v1, v2, v3, v4, v5⟩ := V
  obtain ⟨S, P, D, X, -⟩ := C
  obtain ⟨-, ⟨x1, x2, x3⟩, -⟩ := X
  unfold fX16_put
  rw [v1]
  refine e9_t S.1 (e9_f (show ¬ Int32.ofNat K.1.length = Int32.ofNat 1000 by rw [nn_eq (by omega) (by omega)]; omega) (e9_b x1 (e9_t x2 (e9_t (by rw [x3, nn_in (by omega)]; omega) (e9_l ?_)))))
  rw [nn_cm (by omega)]
  have e : pm_I (pm_setI h 599 K.1.length y) 592 23 + 1 = Int32.ofNat (K.1.length + 1) := by
    rw [ev_II, if_neg (by decide), v1]
    exact nn_ad _ 1
  rw [e]
theorem v_put4 (C : vC h n b m eo el B M) (V : vK h p K) (W : wfK M K) (hw : w = 0 ∨ isT w) : ms_Q (vF m h) (fun K' _ r => vT h p K' r ∧ ∀ y, pm_I r 604 y = pm_I h 604 y) (fX16_put h 592 (rT w)) (kPut p w K) := by
  have Q := v_put C V W hw
  by_cases c : K.1.length < 1000
  · rw [v_putE C V c] at Q ⊢
    unfold kPut at Q ⊢
    rw [if_pos c] at Q ⊢
    obtain ⟨r', e', V'⟩ := Q
    cases e'
    exact ⟨_, rfl, V', fun y => by rw [ev_II, if_neg (by decide), ev_II, if_neg (by decide)]⟩
  · unfold kPut at Q ⊢
    rw [if_neg c] at Q ⊢
    exact Q
theorem su_put {k : pm_H → Option (σ ⊕ ((Nat × pm_H) ⊕ ρ))} {k' : tK → Nat → sp_O β} (C : vC h n b m eo el B M) (I : uI h M p K0 K r) (hw : w = 0 ∨ isT w) (hk : ∀ K' z r', kPut p w K = .inr (K', z) → uI h M p K0 K' r' → (∀ y, pm_I r' 604 y = pm_I r 604 y) → tF r r' → ms_Q (vF m h) R (ev_k s (k r')) (k' K' z)) : ms_Q (vF m h) R (ev_k s ((fX16_put r 592 (rT w)).bind fun w => pt_s w k)) (sp_b (kPut p w K) k') := by
  refine s_c (v_put4 (uI_C C I) I.2.1 I.2.2.1 hw) (fun h' F => gF_t (uF_v I.1) F) ?_
  rintro K' z r' e ⟨⟨F, V'⟩, k4⟩
  obtain ⟨w1, w2, w3⟩ := kPut_w I.2.2.1 hw e
  exact hk K' z r' e ⟨gF_t I.1 (uF_t F), V', w1, lSm_t I.2.2.2 (by rw [w2])⟩ k4 F
theorem su_call {x : Option ((Nat × pm_H) ⊕ pm_H)} {o : sp_O tK} {k : pm_H → Option (σ ⊕ ((Nat × pm_H) ⊕ ρ))} {k' : tK → Nat → sp_O β} (Q : ms_Q (vF m r) (fun K' _ r' => vT r p K' r') x o) (I : uI h M p K0 K r) (w : ∀ K' z, o = .inr (K', z) → wfK M K' ∧ K'.2 = K.2) (hk : ∀ K' z r', o = .inr (K', z) → uI h M p K0 K' r' → tF r r' → ms_Q (vF m h) R (ev_k s (k r')) (k' K' z)) : ms_Q (vF m h) R (ev_k s (x.bind fun w => pt_s w k)) (sp_b o k') := by
  refine s_c Q (fun h' F => gF_t (uF_v I.1) F) ?_
  rintro K' z r' e ⟨F, V'⟩
  obtain ⟨w1, w2⟩ := w K' z e
  exact hk K' z r' e ⟨gF_t I.1 (uF_t F), V', w1, lSm_t I.2.2.2 (by rw [w2])⟩ F
theorem v_tb1 (C : vC h n b m eo el B M) (hx : x ≤ 200) : ∀ (j k last pos p2 : Nat) (l : List Nat), k + j = x + 1 → sp_rows (sp_num B n) j pos = .inr (l, p2) → pm_lim sX16_chooses (.inl (592, Int32.ofNat x, Int32.ofNat p1, Int32.ofNat last, Int32.ofNat k, lk h pos)) = pm_lim sX16_chooses (.inl (592, Int32.ofNat x, Int32.ofNat p1, Int32.ofNat (l.getLastD last), Int32.ofNat (x + 1), lk h p2)) := by
  intro j
  induction j with
  | zero => intro k last pos p2 l hk q; cases q; rw [show k = x + 1 by omega]; rfl
  | succ j ih =>
    intro k last pos p2 l hk q
    obtain ⟨y, p3, e1, e2⟩ := b_inv q
    obtain ⟨l', p4, e3, e4⟩ := b_inv e2
    cases e4
    refine k_w (aX16_chooses_0 ..) ?_
    unfold tX16_chooses_16
    refine k_f (by rw [nn_lt (by omega) (by omega)]; omega) (k_t C.1.1 (k_b (mw_word C.1 (Nat.le_refl n) e1) (k_l ?_)))
    rw [show Int32.ofNat k + 1 = Int32.ofNat (k + 1) from nn_ad _ 1, ll_t3]
    refine k_n ((ih (k + 1) y p3 p2 l' (by omega) e3).trans ?_)
    cases l' <;> rfl
/-- took -/
theorem v_tb3 {y k : Nat} {l : tLb} (C : vC h n b m eo el B M) (T : vTy M) (hl : 0 < K0.2.1.length) (hy : y < K0.2.1.length) (ey : lbW M (K0.2.1.getD y lb0) = lbW M l) {R : β → Nat → pm_H → Prop} {k' : List Nat × tK → Nat → sp_O β} : ∀ (j : Nat) {r : pm_H} {K : tK}, uI h M p K0 K r → j ≤ (lbW M l).length → (∀ w r', kTakeS p (gt (lbW M l)) j K = .inr (w, 0) → (∀ t, t ∈ w.1 → t = 0 ∨ isT t) → w.1.length = j → uI h M p K0 w.2 r' → (∀ i, i < j → pm_I r' 604 i = rT (gt w.1 i)) → (∀ i, j ≤ i → pm_I r' 604 i = pm_I r 604 i) → pm_I r' 592 19 = pm_I r 592 19 → ms_Q (vF m h) R (pm_lim sX16_chooses (.inr (.inr (.inr (592, Int32.ofNat x, Int32.ofNat last, Int32.ofNat many, Int32.ofNat k, 0, r'))))) (k' w 0)) → ms_Q (vF m h) R (pm_lim sX16_chooses (.inr (.inr (.inl (592, Int32.ofNat x, Int32.ofNat last, Int32.ofNat many, Int32.ofNat k, Int32.ofNat y, Int32.ofNat j - 1, r))))) (sp_b (kTakeS p (gt (lbW M l)) j K) k') := by
  intro j
  induction j generalizing k' with
  | zero =>
    intro r K I hj hk
    refine s_w (aX16_chooses_2 ..) ?_
    unfold tX16_chooses_96
    exact s_t (by decide) (s_n (hk ([], K) r rfl (fun t ht => absurd ht List.not_mem_nil) rfl I (fun i hi => absurd hi (Nat.not_lt_zero _)) (fun i _ => rfl) rfl))
  | succ j ih =>
    intro r K I hj hk
    have C1 := uI_C C I
    have yl : y < K.2.1.length := by rw [lSm_l I.2.2.2]; exact hy
    have wa := v_wat (k := j) C1 I.2.1 I.2.2.1 T yl (by rw [lbW_s I.2.2.2, ey]; exact hj)
    rw [lbW_s I.2.2.2, ey] at wa
    have BW := lbW_w T (I.2.2.1.2.1 _ (getD_mem yl)).1
    rw [lbW_s I.2.2.2, ey] at BW
    obtain ⟨x1, x2, x3⟩ := C1.2.2.2.1.2.2.2.2.2.2
    refine s_w (aX16_chooses_2 ..) ?_
    unfold tX16_chooses_96
    rw [nn_ss]
    have eS : sp_b (kTakeS p (gt (lbW M l)) (j + 1) K) k' = sp_b (kTake p (gt (lbW M l) j) K) fun v _ => sp_b (kTakeS p (gt (lbW M l)) j v.2) fun w _ => k' (w.1 ++ [v.1], w.2) 0 := by
      rw [kTakeS, sp_as]
      refine congrArg (sp_b _) (funext fun v => funext fun z => ?_)
      rw [sp_as]
      rfl
    rw [eS]
    refine s_f (by rw [n3_0, nn_lt (by omega) (by decide)]; omega) (s_t C1.1.1 (s_b x1 (s_b wa (su_take C I hl (.inr (BW.2 _ (gt_m hj))) fun v z r1 e v3 I1 F1 => ?_))))
    have C2 := uI_C C I1
    obtain ⟨-, y2, y3⟩ := C2.2.2.2.1.2.2.2.2.2.2
    refine s_t y2 (s_t (by rw [y3, nn_in (by omega)]; omega) (s_l ?_))
    rw [nn_cm (by omega), dn_s]
    obtain ⟨r2, er⟩ : ∃ z, z = pm_setI r1 604 j (rT v.1) := ⟨_, rfl⟩
    rw [← er]
    have I2 : uI h M p K0 v.2 r2 := by
      obtain ⟨i1, ⟨v1, v2, v3, v4, v5⟩, i3⟩ := I1
      have kI : ∀ x y, x ≠ 604 → pm_I r2 x y = pm_I r1 x y := fun x y hx => by rw [er, ev_II, if_neg hx]
      exact ⟨gF_t i1 (by rw [er]; exact gF_I r1 _ (.inr ⟨by decide, by decide⟩)), ⟨(kI 592 _ (by decide)).trans v1, (kI 592 _ (by decide)).trans v2, (kI 592 _ (by decide)).trans v3, onR_k (fun y _ => kI 599 y (by decide)) v4, onL_k (fun y _ => ⟨kI 600 y (by decide), by rw [er]; rfl, kI 602 y (by decide), kI 603 y (by decide)⟩) v5⟩, i3⟩
    have k2 : ∀ i, pm_I r2 604 i = if i = j then rT v.1 else pm_I r1 604 i := fun i => by rw [er, ev_II, if_pos rfl]
    refine s_n (ih I2 (Nat.le_of_succ_le hj) fun w r3 ew wt wl I3 h3 h4 h5 => ?_)
    have e1 : kTakeS p (gt (lbW M l)) (j + 1) K = .inr ((w.1 ++ [v.1], w.2), 0) := by
      rw [kTakeS, e]
      show (sp_b (kTakeS p (gt (lbW M l)) j v.2) fun w _ => (.inr ((w.1 ++ [v.1], w.2), 0) : sp_O (List Nat × tK))) = _
      rw [ew]
      rfl
    refine hk (w.1 ++ [v.1], w.2) r3 e1 (fun t ht => ?_) (by show (w.1 ++ [v.1]).length = j + 1; rw [List.length_append, wl]; rfl) I3 (fun i hi => ?_) (fun i hi => ?_) ?_
    · rcases List.mem_append.mp ht with z | z
      · exact wt t z
      · rw [List.mem_singleton.mp z]; exact v3
    · show pm_I r3 604 i = rT ((w.1 ++ [v.1]).getD i 0)
      by_cases z : i < j
      · rw [h3 i z]
        unfold gt
        rw [List.getD_eq_getElem?_getD, List.getD_eq_getElem?_getD, List.getElem?_append_left (by rw [wl]; exact z)]
      · rw [h4 i (by omega), k2, if_pos (by omega), show i = w.1.length by omega, List.getD_eq_getElem?_getD, List.getElem?_append_right (Nat.le_refl _), Nat.sub_self]
        rfl
    · rw [h4 i (by omega), k2, if_neg (by omega)]
      exact F1.2 i
    · rw [h5, er, ev_II, if_neg (by decide)]
      exact F1.1.2.2.2.2.1 592 19 (by unfold tAI; omega)
/-- put again -/
theorem v_tb4 {k : Nat} {ts : List Nat} (C : vC h n b m eo el B M) (em : many = ts.length) (hm : many ≤ 16) (ht : ∀ t, t ∈ ts → t = 0 ∨ isT t) {R : β → Nat → pm_H → Prop} {k' : tK → Nat → sp_O β} : ∀ (j i : Nat) {r : pm_H} {K : tK}, uI h M p K0 K r → i + j = ts.length → (∀ i, i < many → pm_I r 604 i = rT (gt ts i)) → (∀ K' r', uI h M p K0 K' r' → pm_I r' 592 19 = pm_I r 592 19 → ms_Q (vF m h) R (pm_lim sX16_chooses (.inr (.inl (592, Int32.ofNat x, Int32.ofNat last, Int32.ofNat many, Int32.ofNat k + 1, r')))) (k' K' 0)) → ms_Q (vF m h) R (pm_lim sX16_chooses (.inr (.inr (.inr (592, Int32.ofNat x, Int32.ofNat last, Int32.ofNat many, Int32.ofNat k, Int32.ofNat i, r))))) (sp_b (kPutN p (gt ts) j i K) k') := by
  intro j
  induction j with
  | zero =>
    intro i r K I hi h4 hk
    refine s_w (aX16_chooses_3 ..) ?_
    unfold tX16_chooses_129
    exact s_t (by rw [nn_le (by omega) (by omega)]; omega) (s_l (s_n (hk K r I rfl)))
  | succ j ih =>
    intro i r K I hi h4 hk
    have C1 := uI_C C I
    obtain ⟨x1, x2, x3⟩ := C1.2.2.2.1.2.2.2.2.2.2
    refine s_w (aX16_chooses_3 ..) ?_
    unfold tX16_chooses_129
    rw [show sp_b (kPutN p (gt ts) (j + 1) i K) k' = sp_b (kPut p (gt ts i) K) fun K1 _ => sp_b (kPutN p (gt ts) j (i + 1) K1) k' from by rw [kPutN, sp_as]]
    refine s_f (by rw [nn_le (by omega) (by omega)]; omega) (s_t C1.1.1 (s_b x1 (s_t x2 (s_t (by rw [x3, nn_in (by omega)]; omega) ?_))))
    rw [nn_cm (by omega), h4 i (by omega)]
    refine su_put C I (ht _ (gt_m (by omega))) fun K1 z r1 e I1 k4 F1 => s_l ?_
    rw [show Int32.ofNat i + 1 = Int32.ofNat (i + 1) from nn_ad _ 1]
    refine s_n (ih (i + 1) I1 (by omega) (fun i hi => (k4 i).trans (h4 i hi)) fun K' r' I' h9 => hk K' r' I' (h9.trans (tF_y F1 (by decide) (by decide))))
theorem lk_e {r : pm_H} {q : Nat} (e : pm_I r 592 19 = Int32.ofNat q) : lk r q = r := by
  refine (congrArg (fun z => (pm_sz r, pm_kd r, pm_ln r, z, pm_L r, pm_R r)) (funext fun x => funext fun y => ?_) : _ = (pm_sz r, pm_kd r, pm_ln r, pm_I r, pm_L r, pm_R r))
  show (if x = 592 then (if y = 19 then Int32.ofNat q else pm_I r x y) else pm_I r x y) = pm_I r x y
  repeat' split
  all_goals first | rfl | (subst_vars; exact e.symm)
theorem v_tb2 (C : vC h n b m eo el B M) (T : vTy M) (hl : 0 < K0.2.1.length) (hx : x ≤ 200) (em : many = (lbW M (K0.2.1.getD last lb0)).length) (hlast : last < K0.2.1.length) : ∀ (l : List Nat) (k pos : Nat) {K : tK} {r : pm_H}, uI h M p K0 K r → k + l.length = x + 1 → l ≠ [] → sp_rows (sp_num B n) l.length pos = .inr (l, p2) → (∀ y, y ∈ l → y < K0.2.1.length) → l.getLastD 0 = last → pm_I r 592 19 = Int32.ofNat pos → ms_Q (vF m h) (vU h p) (pm_lim sX16_chooses (.inr (.inl (592, Int32.ofNat x, Int32.ofNat last, Int32.ofNat many, Int32.ofNat k, r)))) (sp_b (kTabL M p hb many l K) fun K2 _ => .inr (kDie K2, 0)) := by
  intro l
  induction l with
  | nil => intro k pos K r I hk hn; exact absurd rfl hn
  | cons y l ih =>
    intro k pos K r I hk hn q hd hL h19
    have C1 := uI_C C I
    have w5 : K0.2.1.length ≤ 200 := by rw [← lSm_l I.2.2.2]; exact I.2.2.1.2.2.2.2
    have lh : last < K.2.1.length := by rw [lSm_l I.2.2.2]; exact hlast
    have m16 : many ≤ 16 := by
      have := (lbW_w T (I.2.2.1.2.1 _ (getD_mem lh)).1).1
      rw [lbW_s I.2.2.2, ← em] at this
      exact this
    refine s_w (aX16_chooses_1 ..) ?_
    unfold tX16_chooses_56
    cases l with
    | nil =>
      have ey : y = last := hL
      have hk : k + 1 = x + 1 := hk
      rw [kTabL, ey, lbW_s I.2.2.2, if_pos em.symm, sp_as, if_pos (show ([] : List Nat).isEmpty = true from rfl), ← lbW_s I.2.2.2]
      refine s_t (by rw [nn_le (by omega) (by omega)]; omega) (s_t C1.1.1 ?_)
      refine su_call (v_W C1 I.2.1 I.2.2.1 T lh) I (fun K' z e => by obtain ⟨w1, w2, w3⟩ := kTakeN_w I.2.2.1 e; exact ⟨w1, w2⟩) fun K' z r' e I' F' => ?_
      have C2 := uI_C C I'
      obtain ⟨r3, e3, V3, -⟩ := u_die (op := 12) (hb := hb) (x := last) C I' hl
      exact s_t C2.1.1 (s_b e3 (s_r (q_r V3)))
    | cons y2 l =>
      have hk : k + (l.length + 2) = x + 1 := hk
      obtain ⟨y', p3, e1, e2⟩ := b_inv q
      obtain ⟨l', p4, e3, e4⟩ := b_inv e2
      cases e4
      have yl : y < K0.2.1.length := hd y List.mem_cons_self
      have yl2 : y < K.2.1.length := by rw [lSm_l I.2.2.2]; exact yl
      have I1 := uI_lk I p3
      have C2 := uI_C C I1
      have ew : fX16_word r 592 = some (Int64.ofNat y, lk r p3) := by
        have := mw_word C1.1 (Nat.le_refl n) e1
        rwa [lk_e h19] at this
      have wb := v_wby C2 I1.2.1 I1.2.2.1 T yl2
      have BW := (lbW_w T (I.2.2.1.2.1 _ (getD_mem yl2)).1)
      rw [lbW_s I.2.2.2] at wb BW
      rw [kTabL, lbW_s I.2.2.2]
      refine s_f (by rw [nn_le (by omega) (by omega)]; omega) (s_t C1.1.1 (s_b ew (s_t C2.1.1 ?_)))
      rw [ll_t3]
      refine s_b wb ?_
      by_cases c : (lbW M (K0.2.1.getD y lb0)).length = many
      · rw [if_pos c, sp_as, if_neg (show ¬ (y2 :: l).isEmpty = true from fun z => by cases z), sp_as]
        have i31 := I1.2.1.2.2.1
        refine s_t (by rw [c]) (s_l (s_n ?_))
        rw [← c]
        refine v_tb3 (k := k) (many := (lbW M (K0.2.1.getD y lb0)).length) C T hl yl rfl _ I1 (Nat.le_refl _) fun w r' e wt wl I' h1 h2 h9 => ?_
        refine v_tb4 (many := (lbW M (K0.2.1.getD y lb0)).length) C wl.symm (by rw [c]; exact m16) wt w.1.length 0 I' (Nat.zero_add _) (fun i hi => h1 i hi) fun K' r2 I2 h9' => ?_
        rw [show Int32.ofNat k + 1 = Int32.ofNat (k + 1) from nn_ad _ 1, c]
        obtain ⟨m1, m2⟩ := kBr_m M 12 hb y K'
        have I3 : uI h M p K0 (kBr M 12 hb y K') r2 := ⟨I2.1, vK_m m1 m2 I2.2.1, kBr_w I2.2.2.1, lSm_tr I2.2.2.2 m2⟩
        refine ih (k + 1) p3 I3 (by show k + 1 + (l.length + 1) = x + 1; omega) (by intro z; cases z) e3 (fun z hz => hd z (List.mem_cons_of_mem _ hz)) hL ?_
        exact h9'.trans (h9.trans (lk_19 r p3))
      · rw [if_neg c]
        exact s_f (by rw [nn_eq (by omega) (by omega)]; exact c) (s_stop C2.1 (uF_v I1.1) rfl I1.2.1.2.2.1)
end VTAB
