/-! THE REFERENCE CHECKS: types; many operands taken, put -/
theorem i64_nn {t : Int64} (h : 0 ≤ t) : Int64.ofNat t.toNatClampNeg = t := Int64.ofNat_toNatClampNeg t h
theorem isT_lt {x : Nat} (h : isT x) : x < 128 := by
  have h : sp_isT x = true := h
  unfold sp_isT sp_isR at h
  simp only [Bool.or_eq_true, Bool.and_eq_true, beq_iff_eq, decide_eq_true_eq] at h
  omega
def vTy (M : tMd) : Prop := M.1.length ≤ 64 ∧ ∀ a, a ∈ M.1 → gTy a ∧ a.1.length ≤ 16 ∧ a.2.length ≤ 16
theorem m_neg : ∀ c : Fin 256, (c.val = 64 ∨ sp_isT c.val = true) → ¬ (0 ≤ mbt (Int64.ofInt ((c.val : Int) - 128))) ∧ ¬ (0 ≤ Int64.ofInt ((c.val : Int) - 128)) ∧ (mbt (Int64.ofInt ((c.val : Int) - 128)) = -64 ↔ c.val = 64) ∧ (Int64.ofInt ((c.val : Int) - 128) = -64 ↔ c.val = 64) ∧ (-(mbt (Int64.ofInt ((c.val : Int) - 128)))).toInt32 = Int32.ofNat c.val ∧ (Int64.ofInt ((c.val : Int) - 128) + 128).toNatClampNeg = c.val ∧ mbt (Int64.ofInt ((c.val : Int) - 128)) < 0 := by decide +kernel
theorem bt_i {M : tMd} {i : Nat} (hi : i < M.1.length) (h2 : i < 9223372036854775808) : btP M (Int64.ofNat i) = (M.1[i]).1 ∧ btR M (Int64.ofNat i) = (M.1[i]).2 := by
  have z : (0 : Int64) ≤ Int64.ofNat i := by rw [show (0 : Int64) = Int64.ofNat 0 from rfl, ll_le (by decide) h2]; exact Nat.zero_le _
  unfold btP btR
  rw [if_pos z, if_pos z, ll_cm h2, List.getD_eq_getElem?_getD, List.getElem?_eq_getElem hi]
  exact ⟨rfl, rfl⟩
theorem bt_n {M : tMd} {c : Nat} (hc : c = 64 ∨ isT c) : btP M (Int64.ofInt ((c : Int) - 128)) = [] ∧ btR M (Int64.ofInt ((c : Int) - 128)) = if c = 64 then [] else [c] := by
  have c8 : c < 256 := by
    rcases hc with z | z
    · omega
    · have := isT_lt z; omega
  obtain ⟨h1, h2, h3, h4, h5, h6, h7⟩ := m_neg ⟨c, c8⟩ hc
  unfold btP btR
  rw [if_neg h2, if_neg h2]
  refine ⟨rfl, ?_⟩
  by_cases z : c = 64
  · rw [if_pos (h4.mpr z), if_pos z]
  · rw [if_neg (fun y => z (h4.mp y)), if_neg z]
    exact congrArg (fun x => [x]) h6
theorem bt_w {M : tMd} {t : Int64} (T : vTy M) (W : wfT M t) : (btP M t).length ≤ 16 ∧ (btR M t).length ≤ 16 ∧ (∀ x, x ∈ btP M t → isT x) ∧ ∀ x, x ∈ btR M t → isT x := by
  rcases W with ⟨h0, hi⟩ | ⟨c, hc, e⟩
  · have z := i64_nn h0
    rw [← z]
    have := T.1
    obtain ⟨e1, e2⟩ := bt_i (M := M) hi (by omega)
    rw [e1, e2]
    have g := T.2 _ (List.getElem_mem hi)
    exact ⟨g.2.1, g.2.2, g.1.1, g.1.2⟩
  · obtain ⟨e1, e2⟩ := bt_n (M := M) hc
    rw [e, e1, e2]
    refine ⟨Nat.zero_le _, ?_, fun x hx => absurd hx List.not_mem_nil, fun x hx => ?_⟩
    · split
      · exact Nat.zero_le _
      · exact Nat.succ_le_succ (Nat.zero_le _)
    · split at hx
      · exact absurd hx List.not_mem_nil
      · next z => rw [List.mem_singleton.mp hx]; exact hc.resolve_left z
theorem gt_m {l : List Nat} {k : Nat} (h : k < l.length) : gt l k ∈ l := by
  unfold gt
  rw [List.getD_eq_getElem?_getD, List.getElem?_eq_getElem h]
  exact List.getElem_mem h
theorem gt_e {l : List Nat} {k : Nat} (h : k < l.length) : l[k]? = some (gt l k) := by
  unfold gt
  rw [List.getD_eq_getElem?_getD, List.getElem?_eq_getElem h]
  rfl
theorem dn_lt {k : Nat} (h : k < 2147483648) : (Int32.ofNat k - 1 < 0) = (k = 0) := by
  cases k with
  | zero => exact propext ⟨fun _ => rfl, fun _ => by decide⟩
  | succ k =>
    rw [nn_s1 (Nat.succ_le_succ (Nat.zero_le _)), n3_0, nn_lt (by omega) (by decide)]
    exact propext ⟨fun z => absurd z (Nat.not_lt_zero _), fun z => by omega⟩
theorem nn_ss (k : Nat) : Int32.ofNat (k + 1) - 1 = Int32.ofNat k := nn_s1 (Nat.succ_le_succ (Nat.zero_le _))
theorem dn_s (x : Int32) : x + (-1) = x - 1 := (Int32.sub_eq_add_neg x 1).symm
section VTYPES
variable {h : pm_H} {n b m eo el p : Nat} {B : Nat → Nat} {M : tMd} {K : tK} {t : Int64}
theorem v_par (C : vC h n b m eo el B M) (T : vTy M) (W : wfT M t) : fX16_parametersOf h 592 (mbt t) = some (Int32.ofNat (btP M t).length) := by
  obtain ⟨S, P, D, -⟩ := C
  have T1 := T.1
  unfold fX16_parametersOf
  rcases W with ⟨h0, hi⟩ | ⟨c, hc, e⟩
  · have z := i64_nn h0
    have m0 : mbt t = t := by unfold mbt; rw [if_pos h0]
    rw [m0]
    have i9 : t.toNatClampNeg < 9223372036854775808 := by omega
    have hi' : t.toNatClampNeg < 64 := by omega
    obtain ⟨e1, e2⟩ := bt_i (M := M) hi i9
    rw [← z, ll_t3, e1]
    have PT := D.1.1 _ _ (List.getElem?_eq_getElem hi) hi'
    have g := T.2 _ (List.getElem_mem hi)
    refine e9_t (by rw [z]; exact h0) (e9_t S.1 (e9_b S.2.1 (e9_t S.2.2.1 (e9_b (show pm_R h m 5 = some (m + 2) from P.1 5 (by decide)) (e9_t (P.2 2 (by decide) (by decide)).1 (e9_t (by rw [(P.2 2 (by decide) (by decide)).2, nn_in (by omega)]; exact hi') ?_))))))
    rw [nn_cm (by omega)]
    have q := PT.1
    unfold m16 at q
    rw [if_pos g.2.1] at q
    exact congrArg some q
  · have c8 : c < 256 := by
      rcases hc with z | z
      · omega
      · have := isT_lt z; omega
    rw [e, (bt_n (M := M) hc).1]
    exact e9_f (m_neg ⟨c, c8⟩ hc).1 rfl
theorem v_res (C : vC h n b m eo el B M) (T : vTy M) (W : wfT M t) : fX16_resultsOf h 592 (mbt t) = some (Int32.ofNat (btR M t).length) := by
  obtain ⟨S, P, D, -⟩ := C
  have T1 := T.1
  unfold fX16_resultsOf
  rcases W with ⟨h0, hi⟩ | ⟨c, hc, e⟩
  · have z := i64_nn h0
    have m0 : mbt t = t := by unfold mbt; rw [if_pos h0]
    rw [m0]
    have i9 : t.toNatClampNeg < 9223372036854775808 := by omega
    have hi' : t.toNatClampNeg < 64 := by omega
    obtain ⟨e1, e2⟩ := bt_i (M := M) hi i9
    rw [← z, ll_t3, e2]
    have PT := D.1.1 _ _ (List.getElem?_eq_getElem hi) hi'
    have g := T.2 _ (List.getElem_mem hi)
    refine e9_f (by rw [show (0 : Int64) = Int64.ofNat 0 from rfl, ll_lt (by omega) (by decide)]; omega) (e9_t S.1 (e9_b S.2.1 (e9_t S.2.2.1 (e9_b (show pm_R h m 6 = some (m + 3) from P.1 6 (by decide)) (e9_t (P.2 3 (by decide) (by decide)).1 (e9_t (by rw [(P.2 3 (by decide) (by decide)).2, nn_in (by omega)]; exact hi') ?_))))))
    rw [nn_cm (by omega)]
    have q := PT.2.1
    unfold m16 at q
    rw [if_pos g.2.2] at q
    exact congrArg some q
  · have c8 : c < 256 := by
      rcases hc with z | z
      · omega
      · have := isT_lt z; omega
    obtain ⟨h1, h2, h3, h4, h5, h6, h7⟩ := m_neg ⟨c, c8⟩ hc
    rw [e, (bt_n (M := M) hc).2]
    refine e9_t h7 ?_
    by_cases z : c = 64
    · rw [if_pos z]; exact e9_t (h3.mpr z) rfl
    · rw [if_neg z]; exact e9_f (fun y => z (h3.mp y)) rfl
theorem v_pat {k : Nat} (C : vC h n b m eo el B M) (T : vTy M) (W : wfT M t) (hk : k < (btP M t).length) : fX16_parameterAt h 592 (mbt t) (Int32.ofNat k) = some (Int32.ofNat (gt (btP M t) k)) := by
  obtain ⟨S, P, D, -⟩ := C
  have T1 := T.1
  have BW := bt_w T W
  unfold fX16_parameterAt
  rcases W with ⟨h0, hi⟩ | ⟨c, hc, e⟩
  · have z := i64_nn h0
    have m0 : mbt t = t := by unfold mbt; rw [if_pos h0]
    rw [m0]
    have i9 : t.toNatClampNeg < 9223372036854775808 := by omega
    have hi' : t.toNatClampNeg < 64 := by omega
    obtain ⟨e1, e2⟩ := bt_i (M := M) hi i9
    rw [z] at e1
    rw [← z, ll_t3]
    have PT := D.1.1 _ _ (List.getElem?_eq_getElem hi) hi'
    rw [z]
    refine e9_t S.1 (e9_b S.2.1 (e9_t S.2.2.1 (e9_b (show pm_R h m 7 = some (m + 4) from P.1 7 (by decide)) (e9_l ?_))))
    rw [show (32 : Int32) * Int32.ofNat t.toNatClampNeg + Int32.ofNat k = Int32.ofNat (32 * t.toNatClampNeg + k) by rw [← nn_ad, ← nn_ml]; rfl]
    refine e9_t (P.2 4 (by decide) (by decide)).1 (e9_t (by rw [(P.2 4 (by decide) (by decide)).2, nn_in (by omega)]; show _ < 2048; omega) ?_)
    rw [nn_cm (by omega)]
    refine congrArg some (PT.2.2.1 k _ ?_ (by omega))
    rw [← e1]
    exact gt_e hk
  · rw [e, (bt_n (M := M) hc).1] at hk
    exact absurd hk (Nat.not_lt_zero _)
theorem v_rat {k : Nat} (C : vC h n b m eo el B M) (T : vTy M) (W : wfT M t) (hk : k < (btR M t).length) : fX16_resultAt h 592 (mbt t) (Int32.ofNat k) = some (Int32.ofNat (gt (btR M t) k)) := by
  obtain ⟨S, P, D, -⟩ := C
  have T1 := T.1
  have BW := bt_w T W
  unfold fX16_resultAt
  rcases W with ⟨h0, hi⟩ | ⟨c, hc, e⟩
  · have z := i64_nn h0
    have m0 : mbt t = t := by unfold mbt; rw [if_pos h0]
    rw [m0]
    have i9 : t.toNatClampNeg < 9223372036854775808 := by omega
    have hi' : t.toNatClampNeg < 64 := by omega
    obtain ⟨e1, e2⟩ := bt_i (M := M) hi i9
    rw [z] at e2
    rw [← z, ll_t3]
    have PT := D.1.1 _ _ (List.getElem?_eq_getElem hi) hi'
    rw [z]
    refine e9_t h0 (e9_t S.1 (e9_b S.2.1 (e9_t S.2.2.1 (e9_b (show pm_R h m 7 = some (m + 4) from P.1 7 (by decide)) (e9_l ?_)))))
    rw [show (32 : Int32) * Int32.ofNat t.toNatClampNeg + 16 + Int32.ofNat k = Int32.ofNat (32 * t.toNatClampNeg + 16 + k) by rw [← nn_ad, ← nn_ad, ← nn_ml]; rfl]
    refine e9_t (P.2 4 (by decide) (by decide)).1 (e9_t (by rw [(P.2 4 (by decide) (by decide)).2, nn_in (by omega)]; show _ < 2048; omega) ?_)
    rw [nn_cm (by omega)]
    refine congrArg some (PT.2.2.2 k _ ?_ (by omega))
    rw [← e2]
    exact gt_e hk
  · have c8 : c < 256 := by
      rcases hc with z | z
      · omega
      · have := isT_lt z; omega
    obtain ⟨h1, h2, h3, h4, h5, h6, h7⟩ := m_neg ⟨c, c8⟩ hc
    have eR := (bt_n (M := M) hc).2
    rw [e, eR] at hk
    have c64 : c ≠ 64 := fun z => by rw [if_pos z] at hk; exact absurd hk (Nat.not_lt_zero _)
    rw [if_neg c64] at hk eR
    have k0 : k = 0 := by have hk : k < 1 := hk; omega
    rw [e, eR, k0]
    refine e9_f h1 ?_
    exact congrArg some h5
theorem kTakeN_w {f : Nat → Nat} : ∀ {k : Nat} {K K' : tK} {z : Nat}, wfK M K → kTakeN p f k K = .inr (K', z) → wfK M K' ∧ K'.2 = K.2 ∧ K'.1.length ≤ K.1.length
  | 0, K, K', z, W, q => by cases q; exact ⟨W, rfl, Nat.le_refl _⟩
  | k + 1, K, K', z, W, q => by
    obtain ⟨v, z1, e1, e2⟩ := b_inv q
    obtain ⟨w1, w2, w3, w4⟩ := kTake_w W e1
    obtain ⟨y1, y2, y3⟩ := kTakeN_w w1 e2
    exact ⟨y1, y2.trans w2, Nat.le_trans y3 w4⟩
theorem kPutN_w {f : Nat → Nat} : ∀ {j k : Nat} {K K' : tK} {z : Nat}, (∀ i, i < j → f (k + i) = 0 ∨ isT (f (k + i))) → wfK M K → kPutN p f j k K = .inr (K', z) → wfK M K' ∧ K'.2 = K.2 ∧ K'.1.length = K.1.length + j
  | 0, k, K, K', z, hf, W, q => by cases q; exact ⟨W, rfl, rfl⟩
  | j + 1, k, K, K', z, hf, W, q => by
    obtain ⟨v, z1, e1, e2⟩ := b_inv q
    obtain ⟨w1, w2, w3⟩ := kPut_w W (hf 0 (Nat.succ_pos _)) e1
    obtain ⟨y1, y2, y3⟩ := kPutN_w (fun i hi => by have := hf (i + 1) (by omega); rwa [show k + 1 + i = k + (i + 1) by omega]) w1 e2
    exact ⟨y1, y2.trans w2, by rw [y3, w3, List.length_cons]; omega⟩
theorem vT_t {h1 h2 : pm_H} {K1 K2 : tK} (a : vT h p K1 h1) (b : vT h1 p K2 h2) : vT h p K2 h2 := ⟨gF_t a.1 b.1, b.2⟩
theorem vF_t {h1 h2 : pm_H} (a : tF h h1) (b : vF m h1 h2) : vF m h h2 := gF_t (tF_v a) b
theorem v_takes (C : vC h n b m eo el B M) (V : vK h p K) (W : wfK M K) (hl : 0 < K.2.1.length) {w : Nat} (hw : w = 0 ∨ isT w) (c : Nat) (hc : c < 2147483648) : ∀ (j : Nat) {h : pm_H} {K : tK}, vC h n b m eo el B M → vK h p K → wfK M K → 0 < K.2.1.length → j ≤ c → ms_Q (vF m h) (fun K' _ r => vT h p K' r) (pm_lim sX16_takes (592, Int32.ofNat w, Int32.ofNat c, Int32.ofNat (c - j), h)) (kTakeN p (fun _ => w) j K) := by
  intro j
  induction j with
  | zero =>
    intro h K C V W hl hj
    refine s_w (aX16_takes_0 ..) ?_
    unfold tX16_takes_2
    exact s_t (by rw [nn_le (by omega) (by omega)]; omega) (s_r (q_r ⟨gF_r _ _ h, V⟩))
  | succ j ih =>
    intro h K C V W hl hj
    refine s_w (aX16_takes_0 ..) ?_
    unfold tX16_takes_2
    refine s_f (by rw [nn_le (by omega) (by omega)]; omega) (s_t C.1.1 (s_c (v_take C V W hl hw) (fun h' z => z) ?_))
    rintro v z r e ⟨h', er, F, V'⟩
    subst er
    obtain ⟨w1, w2, w3, w4⟩ := kTake_w W e
    refine s_l ?_
    rw [show Int32.ofNat (c - (j + 1)) + 1 = Int32.ofNat (c - j) by rw [show c - j = c - (j + 1) + 1 by omega]; exact nn_ad _ 1]
    refine s_n ?_
    exact q_w (ih (vC_F C (tF_v F)) V' w1 (by rw [w2]; exact hl) (by omega)) (fun h2 z => vF_t F z) (fun K2 _ r _ z => vT_t ⟨F, V'⟩ z)
theorem v_ltP (T : vTy M) (Wt : wfT M t) : ∀ (k : Nat) {h : pm_H} {K : tK}, vC h n b m eo el B M → vK h p K → wfK M K → 0 < K.2.1.length → k ≤ (btP M t).length → ms_Q (vF m h) (fun K' _ r => vT h p K' r) (pm_lim sX16_takeParameters (592, mbt t, Int32.ofNat k - 1, h)) (kTakeN p (gt (btP M t)) k K) := by
  intro k
  induction k with
  | zero =>
    intro h K C V W hl hk
    refine s_w (aX16_takeParameters_0 ..) ?_
    unfold tX16_takeParameters_8
    exact s_t (by decide) (s_r (q_r ⟨gF_r _ _ h, V⟩))
  | succ k ih =>
    intro h K C V W hl hk
    have BW := bt_w T Wt
    refine s_w (aX16_takeParameters_0 ..) ?_
    unfold tX16_takeParameters_8
    rw [nn_ss]
    refine s_f (by rw [n3_0, nn_lt (by omega) (by decide)]; omega) (s_t C.1.1 (s_b (v_pat C T Wt hk) (s_c (v_take C V W hl (.inr (BW.2.2.1 _ (gt_m hk)))) (fun h' z => z) ?_)))
    rintro v z r e ⟨h', er, F, V'⟩
    subst er
    obtain ⟨w1, w2, w3, w4⟩ := kTake_w W e
    refine s_l ?_
    rw [dn_s]
    refine s_n ?_
    exact q_w (ih (vC_F C (tF_v F)) V' w1 (by rw [w2]; exact hl) (Nat.le_of_succ_le hk)) (fun h2 z => vF_t F z) (fun K2 _ r _ z => vT_t ⟨F, V'⟩ z)
theorem v_tP (C : vC h n b m eo el B M) (V : vK h p K) (W : wfK M K) (hl : 0 < K.2.1.length) (T : vTy M) (Wt : wfT M t) : ms_Q (vF m h) (fun K' _ r => vT h p K' r) (fX16_takeParameters h 592 (mbt t)) (kTakeL p (btP M t) K) := by
  unfold fX16_takeParameters
  exact q_t C.1.1 (q_b (v_par C T Wt) (q_l (v_ltP T Wt _ C V W hl (Nat.le_refl _))))
theorem v_ltR (T : vTy M) (Wt : wfT M t) : ∀ (k : Nat) {h : pm_H} {K : tK}, vC h n b m eo el B M → vK h p K → wfK M K → 0 < K.2.1.length → k ≤ (btR M t).length → ms_Q (vF m h) (fun K' _ r => vT h p K' r) (pm_lim sX16_takeResults (592, mbt t, Int32.ofNat k - 1, h)) (kTakeN p (gt (btR M t)) k K) := by
  intro k
  induction k with
  | zero =>
    intro h K C V W hl hk
    refine s_w (aX16_takeResults_0 ..) ?_
    unfold tX16_takeResults_8
    exact s_t (by decide) (s_r (q_r ⟨gF_r _ _ h, V⟩))
  | succ k ih =>
    intro h K C V W hl hk
    have BW := bt_w T Wt
    refine s_w (aX16_takeResults_0 ..) ?_
    unfold tX16_takeResults_8
    rw [nn_ss]
    refine s_f (by rw [n3_0, nn_lt (by omega) (by decide)]; omega) (s_t C.1.1 (s_b (v_rat C T Wt hk) (s_c (v_take C V W hl (.inr (BW.2.2.2 _ (gt_m hk)))) (fun h' z => z) ?_)))
    rintro v z r e ⟨h', er, F, V'⟩
    subst er
    obtain ⟨w1, w2, w3, w4⟩ := kTake_w W e
    refine s_l ?_
    rw [dn_s]
    refine s_n ?_
    exact q_w (ih (vC_F C (tF_v F)) V' w1 (by rw [w2]; exact hl) (Nat.le_of_succ_le hk)) (fun h2 z => vF_t F z) (fun K2 _ r _ z => vT_t ⟨F, V'⟩ z)
theorem v_tR (C : vC h n b m eo el B M) (V : vK h p K) (W : wfK M K) (hl : 0 < K.2.1.length) (T : vTy M) (Wt : wfT M t) : ms_Q (vF m h) (fun K' _ r => vT h p K' r) (fX16_takeResults h 592 (mbt t)) (kTakeL p (btR M t) K) := by
  unfold fX16_takeResults
  exact q_t C.1.1 (q_b (v_res C T Wt) (q_l (v_ltR T Wt _ C V W hl (Nat.le_refl _))))
theorem rT_t {x : Nat} (h : isT x) : rT x = Int32.ofNat x := by
  unfold rT
  rw [if_neg (fun z => by rw [z] at h; exact absurd h (by decide))]
theorem v_lpP (T : vTy M) (Wt : wfT M t) : ∀ (j k : Nat) {h : pm_H} {K : tK}, vC h n b m eo el B M → vK h p K → wfK M K → k + j = (btP M t).length → ms_Q (vF m h) (fun K' _ r => vT h p K' r) (pm_lim sX16_putParameters (592, mbt t, Int32.ofNat k, h)) (kPutN p (gt (btP M t)) j k K) := by
  intro j
  have BW := bt_w T Wt
  induction j with
  | zero =>
    intro k h K C V W hk
    refine s_w (aX16_putParameters_0 ..) ?_
    unfold tX16_putParameters_2
    exact s_t C.1.1 (s_b (v_par C T Wt) (s_t (by rw [nn_le (by omega) (by omega)]; omega) (s_r (q_r ⟨gF_r _ _ h, V⟩))))
  | succ j ih =>
    intro k h K C V W hk
    have hk' : k < (btP M t).length := by omega
    have ty : isT (gt (btP M t) k) := BW.2.2.1 _ (gt_m hk')
    refine s_w (aX16_putParameters_0 ..) ?_
    unfold tX16_putParameters_2
    refine s_t C.1.1 (s_b (v_par C T Wt) (s_f (by rw [nn_le (by omega) (by omega)]; omega) (s_b (v_pat C T Wt hk') ?_)))
    rw [← rT_t ty]
    refine s_c (v_put C V W (.inr ty)) (fun h' z => z) ?_
    rintro K1 z r e ⟨F, V'⟩
    obtain ⟨w1, w2, w3⟩ := kPut_w W (.inr ty) e
    refine s_l ?_
    rw [show Int32.ofNat k + 1 = Int32.ofNat (k + 1) from nn_ad _ 1]
    refine s_n ?_
    exact q_w (ih (k + 1) (vC_F C (tF_v F)) V' w1 (by omega)) (fun h2 z => vF_t F z) (fun K2 _ r _ z => vT_t ⟨F, V'⟩ z)
theorem v_pP (C : vC h n b m eo el B M) (V : vK h p K) (W : wfK M K) (T : vTy M) (Wt : wfT M t) : ms_Q (vF m h) (fun K' _ r => vT h p K' r) (fX16_putParameters h 592 (mbt t)) (kPutL p (btP M t) K) := by
  unfold fX16_putParameters
  exact v_lpP T Wt _ 0 C V W (Nat.zero_add _)
theorem v_lpR (T : vTy M) (Wt : wfT M t) : ∀ (j k : Nat) {h : pm_H} {K : tK}, vC h n b m eo el B M → vK h p K → wfK M K → k + j = (btR M t).length → ms_Q (vF m h) (fun K' _ r => vT h p K' r) (pm_lim sX16_putResults (592, mbt t, Int32.ofNat k, h)) (kPutN p (gt (btR M t)) j k K) := by
  intro j
  have BW := bt_w T Wt
  induction j with
  | zero =>
    intro k h K C V W hk
    refine s_w (aX16_putResults_0 ..) ?_
    unfold tX16_putResults_2
    exact s_t C.1.1 (s_b (v_res C T Wt) (s_t (by rw [nn_le (by omega) (by omega)]; omega) (s_r (q_r ⟨gF_r _ _ h, V⟩))))
  | succ j ih =>
    intro k h K C V W hk
    have hk' : k < (btR M t).length := by omega
    have ty : isT (gt (btR M t) k) := BW.2.2.2 _ (gt_m hk')
    refine s_w (aX16_putResults_0 ..) ?_
    unfold tX16_putResults_2
    refine s_t C.1.1 (s_b (v_res C T Wt) (s_f (by rw [nn_le (by omega) (by omega)]; omega) (s_b (v_rat C T Wt hk') ?_)))
    rw [← rT_t ty]
    refine s_c (v_put C V W (.inr ty)) (fun h' z => z) ?_
    rintro K1 z r e ⟨F, V'⟩
    obtain ⟨w1, w2, w3⟩ := kPut_w W (.inr ty) e
    refine s_l ?_
    rw [show Int32.ofNat k + 1 = Int32.ofNat (k + 1) from nn_ad _ 1]
    refine s_n ?_
    exact q_w (ih (k + 1) (vC_F C (tF_v F)) V' w1 (by omega)) (fun h2 z => vF_t F z) (fun K2 _ r _ z => vT_t ⟨F, V'⟩ z)
theorem v_pR (C : vC h n b m eo el B M) (V : vK h p K) (W : wfK M K) (T : vTy M) (Wt : wfT M t) : ms_Q (vF m h) (fun K' _ r => vT h p K' r) (fX16_putResults h 592 (mbt t)) (kPutL p (btR M t) K) := by
  unfold fX16_putResults
  exact v_lpR T Wt _ 0 C V W (Nat.zero_add _)
end VTYPES
