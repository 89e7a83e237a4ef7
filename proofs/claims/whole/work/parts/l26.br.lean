/-! THE REFERENCE CHECKS: branches -/
section VBR
variable {h r : pm_H} {n b m eo el p p2 b' t x : Nat} {B : Nat → Nat} {M : tMd} {K0 K : tK} {D : Bool} {Dc : Nat → Bool} {a : tBo} {v : sp_I}
theorem kDie_m {K K' : tK} (e1 : K'.1 = K.1) (e2 : lSm K.2.1 K'.2.1) : (kDie K').1 = (kDie K).1 ∧ lSm (kDie K).2.1 (kDie K').2.1 := by
  have g := lSm_g 0 e2
  rw [← kTop_g, ← kTop_g] at g
  obtain ⟨st, ls, co⟩ := K
  obtain ⟨st', ls', co'⟩ := K'
  cases e1
  refine ⟨?_, ?_⟩
  · show st.drop (st.length - (kTop (st, ls', co')).2.2.1) = st.drop (st.length - (kTop (st, ls, co)).2.2.1)
    rw [g.2.2.1]
  · refine ⟨⟨g.1, g.2.1, g.2.2.1, rfl⟩, ?_⟩
    show lSm ls.tail ls'.tail
    have e2 : lSm ls ls' := e2
    cases ls with
    | nil =>
      cases ls' with
      | nil => exact trivial
      | cons k ks => exact e2.elim
    | cons l ls =>
      cases ls' with
      | nil => exact e2.elim
      | cons k ks => exact e2.2
theorem u_die {op hb : Int32} (C : vC h n b m eo el B M) (I : uI h M p K0 K r) (hl : 0 < K0.2.1.length) : ∃ r', fX16_dies r 592 = some r' ∧ vU h p (kDie (kBr M op hb x K)) 0 r' ∧ vU h p (kDie K) 0 r' := by
  obtain ⟨r', e, F, V⟩ := v_dies (uI_C C I) I.2.1 I.2.2.1 (uI_l I hl)
  obtain ⟨m1, m2⟩ := kBr_m M op hb x K
  obtain ⟨d1, d2⟩ := kDie_m m1 m2
  exact ⟨r', e, ⟨gF_t I.1 (uF_t F), vK_m d1 d2 V⟩, gF_t I.1 (uF_t F), V⟩
theorem v_lpW (T : vTy M) {l : tLb} : ∀ (j k : Nat) {r : pm_H} {K : tK}, vC r n b m eo el B M → vK r p K → wfK M K → x < K.2.1.length → K.2.1.getD x lb0 = l → k + j = (lbW M l).length → ms_Q (vF m r) (fun K' _ r' => vT r p K' r') (pm_lim sX16_controls (592, Int32.ofNat x, Int32.ofNat k, r)) (kPutN p (gt (lbW M l)) j k K) := by
  intro j
  induction j with
  | zero =>
    intro k r K C V W hx hl hk
    have BW := lbW_w T (W.2.1 _ (getD_mem hx)).1
    rw [hl] at BW
    have wb := v_wby C V W T hx
    rw [hl] at wb
    refine s_w (aX16_controls_0 ..) ?_
    unfold tX16_controls_222
    exact s_t C.1.1 (s_b wb (s_t (by rw [nn_le (by omega) (by omega)]; omega) (s_r (q_r ⟨gF_r _ _ r, V⟩))))
  | succ j ih =>
    intro k r K C V W hx hl hk
    have BW := lbW_w T (W.2.1 _ (getD_mem hx)).1
    rw [hl] at BW
    have wb := v_wby C V W T hx
    rw [hl] at wb
    have hk' : k < (lbW M l).length := by omega
    have wa := v_wat (k := k) C V W T hx (by rw [hl]; exact hk')
    rw [hl] at wa
    have ty : isT (gt (lbW M l) k) := BW.2 _ (gt_m hk')
    refine s_w (aX16_controls_0 ..) ?_
    unfold tX16_controls_222
    refine s_t C.1.1 (s_b wb (s_f (by rw [nn_le (by omega) (by omega)]; omega) (s_b wa ?_)))
    rw [← rT_t ty]
    refine s_c (v_put C V W (.inr ty)) (fun h' z => z) ?_
    rintro K1 z r1 e ⟨F, V'⟩
    obtain ⟨w1, w2, w3⟩ := kPut_w W (.inr ty) e
    refine s_l ?_
    rw [show Int32.ofNat k + 1 = Int32.ofNat (k + 1) from nn_ad _ 1]
    refine s_n ?_
    exact q_w (ih (k + 1) (vC_F C (tF_v F)) V' w1 (by rw [w2]; exact hx) (by rw [w2]; exact hl) (by omega)) (fun h2 z => vF_t F z) (fun K2 _ r _ z => vT_t ⟨F, V'⟩ z)
theorem v_brn {op : Nat} (C : vC h n b m eo el B M) (I : uI h M p K K h) (T : vTy M) (ho : op = 12 ∨ op = 13) (hx4 : x < 4294967296) (q : sp_num B n (p + 1) = .inr (x, p2)) (hx : x < K.2.1.length) : ms_Q (vF m h) (vU h p) (fX16_controls (lk h (p + 1)) 592 (Int32.ofNat op)) (kBrn M p op x K) := by
  have CI := fun {K1 r1} (I1 : uI h M p K K1 r1) => (uI_C C I1).1.1
  have hl : 0 < K.2.1.length := by omega
  have N : ∀ j, j < 1000 → op ≠ j → ¬ Int32.ofNat op = Int32.ofNat j := fun j hj z => by rw [nn_eq (by omega) (by omega)]; exact z
  have E : ∀ j, op = j → Int32.ofNat op = Int32.ofNat j := fun j z => by rw [z]
  have I1 := uI_lk I p2
  unfold fX16_controls kBrn
  rw [if_neg (show ¬ K.2.1.length ≤ x by omega)]
  rcases ho with c | c
  · rw [if_neg (show ¬ op = 13 by omega)]
    refine u_n (q_f (N 0 (by decide) (by omega)) (q_f (N 1 (by decide) (by omega)) (q_f (N 2 (by decide) (by omega)) (q_f (N 3 (by decide) (by omega)) (q_f (N 4 (by decide) (by omega)) (q_f (N 5 (by decide) (by omega)) (q_f (N 6 (by decide) (by omega)) (q_f (N 7 (by decide) (by omega)) (q_f (N 8 (by decide) (by omega)) (q_f (N 9 (by decide) (by omega)) (q_f (N 10 (by decide) (by omega)) (q_f (N 11 (by decide) (by omega)) (q_t (E 12 c) (q_t C.1.1 (q_b (mw_word C.1 (Nat.le_refl n) q) (q_t C.1.1 ?_))))))))))))))))
    rw [ll_t3]
    refine u_W C I1 T hx fun K2 z r2 e I2 => q_t (CI I2) ?_
    rw [if_pos c]
    obtain ⟨r3, e3, V3, -⟩ := u_die (op := 12) (hb := Int32.ofNat K.1.length) (x := x) C I2 hl
    exact q_b e3 (q_r V3)
  · rw [if_pos c]
    refine q_f (N 0 (by decide) (by omega)) (q_f (N 1 (by decide) (by omega)) (q_f (N 2 (by decide) (by omega)) (q_f (N 3 (by decide) (by omega)) (q_f (N 4 (by decide) (by omega)) (q_f (N 5 (by decide) (by omega)) (q_f (N 6 (by decide) (by omega)) (q_f (N 7 (by decide) (by omega)) (q_f (N 8 (by decide) (by omega)) (q_f (N 9 (by decide) (by omega)) (q_f (N 10 (by decide) (by omega)) (q_f (N 11 (by decide) (by omega)) (q_f (N 12 (by decide) (by omega)) (q_t (E 13 c) (q_t C.1.1 (q_b (mw_word C.1 (Nat.le_refl n) q) (q_t C.1.1 ?_))))))))))))))))
    rw [ll_t3]
    obtain ⟨l, el'⟩ : ∃ z, z = K.2.1.getD x lb0 := ⟨_, rfl⟩
    rw [← el']
    refine q_c (v_takes (uI_C C I1) I1.2.1 I1.2.2.1 (uI_l I1 hl) (.inr isT_127) 1 (by decide) 1 (uI_C C I1) I1.2.1 I1.2.2.1 (uI_l I1 hl) (Nat.le_refl 1)) (fun h' F => gF_t (uF_v I1.1) F) ?_
    rintro K1 z1 r1 e1 ⟨F1, V1⟩
    obtain ⟨w1, w2, w3⟩ := kTakeN_w I1.2.2.1 (show kTakeN p (fun _ => 127) 1 K = .inr (K1, z1) from e1)
    have I2 : uI h M p K K1 r1 := ⟨gF_t I1.1 (uF_t F1), V1, w1, lSm_t I1.2.2.2 (by rw [w2])⟩
    have g1 : K1.2.1.getD x lb0 = l := by rw [w2, el']
    refine q_t (CI I2) ?_
    rw [← g1]
    refine u_W C I2 T (by rw [w2]; exact hx) fun K2 z r2 e I3 => ?_
    obtain ⟨w4, w5, w6⟩ := kTakeN_w w1 e
    rw [if_neg (show ¬ op = 12 by omega)]
    have lp := v_lpW (p := p) (x := x) (l := l) T (lbW M l).length 0 (uI_C C I3) I3.2.1 I3.2.2.1 (by rw [w5, w2]; exact hx) (by rw [w5, g1]) (Nat.zero_add _)
    rw [g1]
    refine q_cl lp (fun h' F => gF_t (uF_v I3.1) F) ?_
    rintro K3 z3 r3 e3 ⟨F3, V3⟩
    obtain ⟨m1, m2⟩ := kBr_m M 13 (Int32.ofNat K.1.length) x K3
    exact q_r ⟨gF_t I3.1 (uF_t F3), vK_m m1 m2 V3⟩
theorem v_ret (C : vC h n b m eo el B M) (I : uI h M p K K r) (T : vTy M) (hl : 0 < K.2.1.length) (h30 : pm_I r 592 30 = Int32.ofNat t) (ht : t < M.1.length) (hb : (K.2.1.getD (K.2.1.length - 1) lb0).2.1 = Int64.ofNat t) : ms_Q (vF m h) (vU h p) (fX16_controls r 592 15) (kRet M p K) := by
  have CI := fun {K1 r1} (I1 : uI h M p K K1 r1) => (uI_C C I1).1.1
  have T1 := T.1
  unfold fX16_controls kRet
  rw [hb]
  refine q_f (by decide) (q_f (by decide) (q_f (by decide) (q_f (by decide) (q_f (by decide) (q_f (by decide) (q_f (by decide) (q_f (by decide) (q_f (by decide) (q_f (by decide) (q_f (by decide) (q_f (by decide) (q_f (by decide) (q_f (by decide) (q_f (by decide) (q_t rfl (q_t (CI I) ?_))))))))))))))))
  rw [h30, nn_t6 (by omega), ← mbt_t (t := t) (by omega)]
  have W := wfT_t (M := M) T ht
  have e0 := mbt_t (t := t) (by omega)
  rw [e0]
  have ut := u_tR (R := vU h p) (k := fun w179 => if pm_kd w179 592 = 16 then (fX16_dies w179 592).bind fun v182 => some (.inr v182) else none) (k' := fun K1 _ => .inr (kDie (kBr M 12 (Int32.ofNat K.1.length) (K.2.1.length - 1) K1), 0)) C I hl T W fun K2 z r2 e I2 => q_t (CI I2) (by
    obtain ⟨r3, e3, V3, -⟩ := u_die (op := 12) (hb := Int32.ofNat K.1.length) (x := K.2.1.length - 1) C I2 hl
    exact q_b e3 (q_r V3))
  rw [e0] at ut
  exact ut
end VBR
