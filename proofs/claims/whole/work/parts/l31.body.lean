/-! THE REFERENCE CHECKS: a body -/
def eW (B : Nat → Nat) (n : Nat) (D : Bool) (k p e : Nat) : Prop := (k = 0 ∧ p = e) ∨ ∃ N' st w, sp_ex B n D true N' st p = .inr (w, e) ∧ w.2 = false ∧ st.length + 1 = k
theorem ex_step {B : Nat → Nat} {n : Nat} {D : Bool} {k p e : Nat} (hB : ∀ i, B i < 256) (hk : 0 < k) (q : eW B n D k p e) : ∃ v p2, sp_in B n D p = .inr (v, p2) ∧ v.2.2.2 = false ∧ p < p2 ∧ p2 ≤ n ∧ eW B n D (if 2 ≤ v.1 ∧ v.1 ≤ 4 then k + 1 else if v.1 = 11 then k - 1 else k) p2 e := by
  rcases q with ⟨q, -⟩ | ⟨N', st, w, q, hw, hs⟩
  · omega
  cases N' with
  | zero => cases q
  | succ N =>
    rw [sp_ex_n] at q
    obtain ⟨v, p2, e1, q⟩ := b_inv q
    have u := sp_in_b e1
    by_cases c11 : v.1 = 11
    · refine ⟨v, p2, e1, sp_in_f hB e1 (.inr (.inr c11)), u.1, u.2, ?_⟩
      rw [if_neg (by omega), if_pos c11]
      rw [if_pos c11] at q
      cases st with
      | nil => cases q; exact .inl ⟨by have hs : 0 + 1 = k := hs; omega, rfl⟩
      | cons s r =>
        obtain ⟨w', p3, e2, q⟩ := b_inv q
        cases q
        exact .inr ⟨N, r, w', e2, hw, by have hs : r.length + 1 + 1 = k := hs; omega⟩
    rw [if_neg c11] at q
    by_cases c2 : 2 ≤ v.1 ∧ v.1 ≤ 4
    · rw [if_pos c2] at q
      refine ⟨v, p2, e1, sp_in_f hB e1 (.inl c2), u.1, u.2, ?_⟩
      rw [if_pos c2]
      exact .inr ⟨N, _, w, q, hw, by show st.length + 1 + 1 = _; omega⟩
    rw [if_neg c2] at q
    by_cases c5 : v.1 = 5
    · rw [if_pos c5] at q
      refine ⟨v, p2, e1, sp_in_f hB e1 (.inr (.inl c5)), u.1, u.2, ?_⟩
      rw [if_neg c2, if_neg c11]
      cases st with
      | nil => cases q
      | cons s r =>
        have q : (if s.1 = 4 then _ else _) = _ := q
        split at q
        · obtain ⟨w', p3, e2, q⟩ := b_inv q
          cases q
          exact .inr ⟨N, _, w', e2, hw, hs⟩
        · cases q
    rw [if_neg c5] at q
    obtain ⟨w', p3, e2, q⟩ := b_inv q
    cases q
    have hw : ((v.2.2.2 && true) || w'.2) = false := hw
    have o := or_f hw
    refine ⟨v, p2, e1, by rw [Bool.and_true] at o; exact o.1, u.1, u.2, ?_⟩
    rw [if_neg c2, if_neg c11]
    exact .inr ⟨N, st, w', e2, o.2, hs⟩
def cAI (x y : Nat) : Prop := uAI x y ∨ (x = 592 ∧ y = 31)
abbrev cF : pm_H → pm_H → Prop := gF cAI vAL
theorem cF_u {h h' : pm_H} (F : uF h h') : cF h h' := gF_m F (fun x y z => .inl z) (fun x y z => z)
theorem cF_v {m : Nat} {h h' : pm_H} (F : cF h h') : vF m h h' := gF_m F (fun x y z => by unfold cAI uAI at z; unfold vAI; omega) (fun x y z => z)
theorem cF_31 (h : pm_H) (v : Int32) : cF h (pm_setI h 592 31 v) := gF_I h v (.inr ⟨rfl, rfl⟩)
theorem i32_nat (x : Int32) : ∃ q, x = Int32.ofNat q := ⟨x.toBitVec.toNat, Int32.toBitVec_inj.mp (by show x.toBitVec = BitVec.ofNat 32 x.toBitVec.toNat; rw [BitVec.ofNat_toNat]; exact (BitVec.setWidth_eq _).symm)⟩
section VBODY
variable {h : pm_H} {n b m eo el p e b' t : Nat} {B : Nat → Nat} {M : tMd} {K : tK} {D : Bool} {Dc : Nat → Bool} {a : tBo}
theorem vB_c {h' : pm_H} (F : cF h h') (Q : vB h m eo el M b' t a Dc) : vB h' m eo el M b' t a Dc := by
  obtain ⟨q1, q2, q3, q4, q5, q6, q7, q8⟩ := Q
  have k : ∀ x y, ¬ cAI x y → pm_I h' x y = pm_I h x y := F.2.2.2.2.1
  exact ⟨(k 592 29 (by unfold cAI uAI; omega)).trans q1, (k 592 30 (by unfold cAI uAI; omega)).trans q2, q3, q4, q5, q6, q7, fun f hf => (k 598 f (by unfold cAI uAI; omega)).trans (q8 f hf)⟩
theorem vK_p {q : Nat} (V : vK h q K) (p : Nat) : vK (pm_setI h 592 31 (Int32.ofNat p)) p K := by
  obtain ⟨v1, v2, v3, v4, v5⟩ := V
  have k : ∀ x y, x ≠ 592 → pm_I (pm_setI h 592 31 (Int32.ofNat p)) x y = pm_I h x y := fun x y hx => by rw [ev_II, if_neg hx]
  have k9 : ∀ y, y ≠ 31 → pm_I (pm_setI h 592 31 (Int32.ofNat p)) 592 y = pm_I h 592 y := fun y hy => by rw [ev_II, if_pos rfl, if_neg hy]
  exact ⟨(k9 23 (by decide)).trans v1, (k9 24 (by decide)).trans v2, by rw [ev_II, if_pos rfl, if_pos rfl], onR_k (fun y _ => k 599 y (by decide)) v4, onL_k (fun y _ => ⟨k 600 y (by decide), rfl, k 602 y (by decide), k 603 y (by decide)⟩) v5⟩
def rAI (m b' x y : Nat) : Prop := cAI x y ∨ (x = m + 39 ∧ y = b')
theorem v_run (G : vG B n D M) (hF : ∀ f, f ∈ spF M → f.2.1 < M.1.length) (hb : b' < 64) : ∀ (N p most : Nat) {K : tK} {h : pm_H} {q0 : Nat}, vC h n b m eo el B M → vK h q0 K → wfK M K → kB t K → vB h m eo el M b' t a Dc → eW B n D K.2.1.length p e → n + 1 ≤ p + N → p ≤ n → most ≤ 1000 → ms_Q (vF m h) (fun v _ r => gF (rAI m b') vAL h r ∧ pm_I r (m + 39) b' = Int32.ofNat v.1 ∧ v.1 ≤ 1000) (pm_lim sX16_checksBody (592, Int32.ofNat b', Int32.ofNat most, Int32.ofNat p, h)) (kRun B n D M Dc (lbt M t a) N p most K) := by
  intro N
  induction N with
  | zero => intro p most K h q0 C V W bb Q E hN hp; omega
  | succ N ih =>
    intro p most K h q0 C V W bb Q E hN hp hm
    have hB := C.1.2.2.2.2.2.2.2.2.2
    have n4 := C.1.2.2.2.2.2.2.1
    have w5 := W.2.2.2.2
    rw [kRun]
    refine s_w (aX16_checksBody_0 ..) ?_
    unfold tX16_checksBody_58
    by_cases c0 : K.2.1.length = 0
    · rw [if_pos c0]
      refine s_t C.1.1 (s_t (by rw [V.2.1, c0]; decide) (s_b C.1.2.1 (s_t C.1.2.2.1 (s_b (C.2.1.1 55 (by decide)) (s_t (C.2.1.2 39 (by decide) (by decide)).1 (s_t ?_ (s_r (q_r ⟨?_, ?_, hm⟩))))))))
      · show pm_in (Int32.ofNat b') (pm_ln h (m + pRf 55))
        rw [show pm_ln h (m + pRf 55) = pLn 39 from (C.2.1.2 39 (by decide) (by decide)).2, nn_in (by omega)]
        exact hb
      · rw [nn_cm (by omega)]
        exact gF_I h _ (.inr ⟨rfl, rfl⟩)
      · rw [nn_cm (by omega)]
        show pm_I (pm_setI h (m + 39) b' (Int32.ofNat most)) (m + 39) b' = _
        rw [ev_II, if_pos rfl, if_pos rfl]
    · rw [if_neg c0]
      obtain ⟨v, p2, e1, hf, u1, u2, E2⟩ := ex_step hB (by omega) E
      have pn := in_lt e1
      rw [e1]
      show ms_Q _ _ _ (sp_b (kIns B n M Dc (lbt M t a) p v K) fun K1 _ => kRun B n D M Dc (lbt M t a) N p2 (if K1.2.1.length ≠ 0 ∧ most < K1.1.length then K1.1.length else most) K1)
      obtain ⟨h1, eh⟩ : ∃ z, z = pm_setI h 592 31 (Int32.ofNat p) := ⟨_, rfl⟩
      have F1 : cF h h1 := by rw [eh]; exact cF_31 h _
      have C1 := vC_F C (cF_v (m := m) F1)
      have V1 : vK h1 p K := by rw [eh]; exact vK_p V p
      have Q1 := vB_c F1 Q
      refine s_t C.1.1 (s_f (by rw [V.2.1, n3_0, nn_le (by omega) (by decide)]; omega) ?_)
      rw [← eh]
      obtain ⟨x, ex⟩ := v_isN C1 V1 W G Q1 e1
      refine s_b C1.1.2.1 (s_t C1.1.2.2.1 (s_b (mw_at C1.1 pn) (s_b ex ?_)))
      by_cases nm : kNm B n M Dc (lbt M t a) v K = true
      · have hlt : ∀ x ty, lbt M t a x = some ty → isT ty := fun x ty z => lbt_T G (List.mem_of_getElem? Q.2.2.1) Q.2.2.2.2.2.2.1 z
        refine s_f (show ¬ iN _ = 0 by rw [nm]; decide) (s_l (s_t C1.1.1 ?_))
        have el' : pm_setI (lk h1 x) 592 19 (Int32.ofNat p + 1) = lk h1 (p + 1) := by rw [show Int32.ofNat p + 1 = Int32.ofNat (p + 1) from nn_ad _ 1]; exact lk_lk h1 x (p + 1)
        show ms_Q _ _ (ev_k _ ((fX16_goesTogether (pm_setI (lk h1 x) 592 19 (Int32.ofNat p + 1)) 592 (Int32.ofNat (B p))).bind _)) _
        rw [el']
        refine s_c (v_go C1 V1 W (by omega) G Q1 hF (bb (by omega)) e1 hf nm) (fun h' F => gF_t (cF_v F1) F) ?_
        rintro K1 z r eK ⟨F2, V2⟩
        obtain ⟨W2, b2, l2⟩ := kIns_w hB G hF e1 hf hlt W (by omega) bb eK
        rw [← l2] at E2
        have F3 : cF h r := gF_t F1 (cF_u F2)
        have C2 := vC_F C (cF_v (m := m) F3)
        have w52 := W2.2.2.2.2
        have w42 := W2.2.2.2.1
        have C3 := vC_lk C2 p2
        have V3 := vK_lk V2 p2
        have F4 : cF h (lk r p2) := gF_t F3 (cF_u (uF_lk r _))
        have go : ∀ mo, mo ≤ 1000 → ms_Q (vF m h) (fun v _ r => gF (rAI m b') vAL h r ∧ pm_I r (m + 39) b' = Int32.ofNat v.1 ∧ v.1 ≤ 1000) (pm_lim sX16_checksBody (592, Int32.ofNat b', Int32.ofNat mo, Int32.ofNat p2, lk r p2)) (kRun B n D M Dc (lbt M t a) N p2 mo K1) := fun mo hmo =>
          q_w (ih p2 mo C3 V3 W2 b2 (vB_c F4 Q) E2 (by omega) u2 hmo) (fun h' F => gF_t (cF_v F4) F) (fun v z r' _ R => ⟨gF_t (gF_m F4 (fun x y z => .inl z) (fun x y z => z)) R.1, R.2⟩)
        refine s_t C2.1.1 (s_b (mw_behind C2.1 (Nat.le_refl n) e1) (s_t C3.1.1 ?_))
        by_cases z0 : K1.2.1.length = 0
        · rw [if_neg (show ¬ (K1.2.1.length ≠ 0 ∧ most < K1.1.length) from fun y => y.1 z0)]
          exact s_t (show pm_I (lk r p2) 592 24 ≤ 0 by rw [V3.2.1, z0]; decide) (s_n (go most hm))
        · refine s_f (show ¬ pm_I (lk r p2) 592 24 ≤ 0 by rw [V3.2.1, n3_0, nn_le (by omega) (by decide)]; omega) ?_
          by_cases zm : most < K1.1.length
          · rw [if_pos (show K1.2.1.length ≠ 0 ∧ most < K1.1.length from ⟨z0, zm⟩)]
            refine s_f (show ¬ pm_I (lk r p2) 592 23 ≤ Int32.ofNat most by rw [V3.1, nn_le (by omega) (by omega)]; omega) (s_l ?_)
            rw [show pm_I ((Int32.ofNat p2, lk r p2) : Int32 × pm_H).2 592 23 = Int32.ofNat K1.1.length from V3.1]
            exact s_n (go _ w42)
          · rw [if_neg (show ¬ (K1.2.1.length ≠ 0 ∧ most < K1.1.length) from fun y => zm y.2)]
            exact s_t (show pm_I (lk r p2) 592 23 ≤ Int32.ofNat most by rw [V3.1, nn_le (by omega) (by omega)]; omega) (s_n (go most hm))
      · have nm : kNm B n M Dc (lbt M t a) v K = false := Bool.eq_false_iff.mpr nm
        rw [kIns_n nm]
        refine s_t (show iN _ = 0 by rw [nm]; rfl) (s_t C1.1.1 ?_)
        exact s_stop (vC_lk C1 x).1 (gF_t (cF_v F1) (vF_lk h1 _)) rfl rfl
def bAI (m b' x y : Nat) : Prop := rAI m b' x y ∨ (x = 592 ∧ (y = 29 ∨ y = 30))
theorem v_body (C : vC h n b m eo el B M) (G : vG B n D M) (hF : ∀ f, f ∈ spF M → f.2.1 < M.1.length) (hA : M.2.2.2.2.2.2.2.2.2.1[b']? = some a) (hT : M.2.2.1[b']? = some t) (hL : M.2.2.2.2.2.2.2.2.2.1.length ≤ 64) (hD : ∀ f, f < 128 → pm_I h 598 f = iN (Dc f)) : ms_Q (vF m h) (fun v _ r => gF (bAI m b') vAL h r ∧ pm_I r (m + 39) b' = Int32.ofNat v.1 ∧ v.1 ≤ 1000) (fX16_checksBody h 592 (Int32.ofNat b')) (kBody B n D M Dc t a) := by
  have hB := C.1.2.2.2.2.2.2.2.2.2
  have n4 := C.1.2.2.2.2.2.2.1
  have L := vG_L G
  have T := vG_T G
  have hK := G.1.2.1
  have SL := sp_len L
  have bl := some_lt hA
  have il := ofK_l (k := 0) (l := M.2.1)
  have L1 := L.1
  have T1 := T.1
  have ef : (spF M)[(ofK 0 M.2.1).length + b']? = some (0, t, 0, -1, 0) := by
    unfold spF
    rw [List.getElem?_append_right (Nat.le_add_right _ _), Nat.add_sub_cancel_left, List.getElem?_map, hT]
    rfl
  have tl := hF _ (List.mem_of_getElem? ef)
  have tl : t < M.1.length := tl
  have g := G.1.2.2.2.2.2.2.2.2.2.1 a (List.mem_of_getElem? hA)
  have lm := G.1.2.2.2.2.2.2.2.2.2.2.2.2.2.2.2.2.2.2.2.2 G.2 a (List.mem_of_getElem? hA)
  have lm' := or_f lm
  obtain ⟨g1, g2, g3, g4, g5, g6⟩ := g
  unfold fX16_checksBody
  obtain ⟨h1, e1⟩ : ∃ z, z = pm_setI h 592 29 (Int32.ofNat b') := ⟨_, rfl⟩
  obtain ⟨h2, e2⟩ : ∃ z, z = pm_setI (pm_setI (pm_setI h1 592 30 (Int32.ofNat t)) 592 23 0) 592 24 0 := ⟨_, rfl⟩
  have F1 : gF (bAI m b') vAL h h1 := by rw [e1]; exact gF_I h _ (.inr ⟨rfl, .inl rfl⟩)
  have F2 : gF (bAI m b') vAL h h2 := by
    rw [e2]
    exact gF_t (gF_t (gF_t F1 (gF_I _ _ (.inr ⟨rfl, .inr rfl⟩))) (gF_I _ _ (.inl (.inl (.inl (.inl ⟨rfl, .inr (.inl rfl)⟩)))))) (gF_I _ _ (.inl (.inl (.inl (.inl ⟨rfl, .inr (.inr rfl)⟩)))))
  have bv : ∀ {x y : pm_H}, gF (bAI m b') vAL x y → vF m x y := fun F => gF_m F (fun x y z => by unfold bAI rAI cAI uAI at z; unfold vAI; omega) (fun x y z => z)
  have C1 := vC_F C (bv F1)
  have C2 := vC_F C (bv F2)
  refine q_t C.1.1 ?_
  rw [← e1]
  refine q_b C1.1.2.1 (q_t C1.1.2.2.1 (q_b (v_imd C1 L (k := 0) (by decide) hK) ?_))
  rw [nn_ad]
  refine q_b (v_tyF C1 L hK ef) ?_
  show ms_Q _ _ ((fX16_begins (pm_setI (pm_setI (pm_setI h1 592 30 (Int32.ofNat t)) 592 23 0) 592 24 0) 592 0 ((pm_I (pm_setI (pm_setI (pm_setI h1 592 30 (Int32.ofNat t)) 592 23 0) 592 24 0) 592 30).toInt64)).bind _) _
  rw [← e2]
  have i30 : pm_I h2 592 30 = Int32.ofNat t := by rw [e2, ev_II, if_pos rfl, if_neg (by decide), ev_II, if_pos rfl, if_neg (by decide), ev_II, if_pos rfl, if_pos rfl]
  have i29 : pm_I h2 592 29 = Int32.ofNat b' := by rw [e2, ev_II, if_pos rfl, if_neg (by decide), ev_II, if_pos rfl, if_neg (by decide), ev_II, if_pos rfl, if_neg (by decide), e1, ev_II, if_pos rfl, if_pos rfl]
  have i23 : pm_I h2 592 23 = Int32.ofNat 0 := by rw [e2, ev_II, if_pos rfl, if_neg (by decide), ev_II, if_pos rfl, if_pos rfl]; rfl
  have i24 : pm_I h2 592 24 = Int32.ofNat 0 := by rw [e2, ev_II, if_pos rfl, if_pos rfl]; rfl
  obtain ⟨q0, eq0⟩ := i32_nat (pm_I h2 592 31)
  have V2 : vK h2 q0 ([], [], []) := ⟨i23, i24, eq0, trivial, trivial⟩
  have W2 : wfK M ([], [], []) := ⟨trivial, fun l hl => absurd hl List.not_mem_nil, fun l hl => absurd hl List.not_mem_nil, Nat.zero_le _, Nat.zero_le _⟩
  have bg := v_begins (op := 0) (t := Int64.ofNat t) C2 V2 W2 true [] (-1) []
  rw [mbt_t (by omega), if_neg (show ¬ 200 ≤ (([], [], []) : tK).2.1.length by decide)] at bg
  obtain ⟨r, er, FT, VR⟩ := bg
  have VR : vK r q0 (kBeg t) := VR
  rw [i30, nn_t6 (by omega)]
  show ms_Q _ _ ((fX16_begins h2 592 (Int32.ofNat 0) (Int64.ofNat t)).bind _) _
  rw [er]
  have F3 : gF (bAI m b') vAL h r := gF_t F2 (gF_m FT (fun x y z => by unfold tAI at z; unfold bAI rAI cAI uAI; omega) (fun x y z => z))
  have C3 := vC_F C (bv F3)
  have W3 : wfK M (kBeg t) := ⟨⟨Nat.le_refl 0, trivial⟩, fun l hl => by rw [List.mem_singleton.mp hl]; exact ⟨wfT_t T tl, Nat.zero_le 5⟩, fun l hl => absurd hl List.not_mem_nil, Nat.zero_le _, show 1 ≤ 200 by decide⟩
  have bd := (C3.2.2.1.2.2.2.2.2.2.2.2.2.1.1 hL _ _ hA (by omega)).2.2.1
  have k29 : pm_I r 592 29 = Int32.ofNat b' := (tF_y FT (by decide) (by decide)).trans i29
  have k30 : pm_I r 592 30 = Int32.ofNat t := (tF_y FT (by decide) (by decide)).trans i30
  have k98 : ∀ f, pm_I r 598 f = pm_I h 598 f := fun f => F3.2.2.2.2.1 598 f (by unfold bAI rAI cAI uAI; have := C.2.2.2.2.1; omega)
  have Q3 : vB r m eo el M b' t a Dc := ⟨k29, k30, hA, hL, g1, Nat.not_lt.mp (of_decide_eq_false lm'.1), tl, fun f hf => (k98 f).trans (hD f hf)⟩
  have p8 : a.2.2.1 ≤ n := by
    have := (up_ex_lt g6).1
    omega
  have E3 : eW B n D (kBeg t).2.1.length a.2.2.1 (a.2.2.2.1 + 1) := .inr ⟨n + 1, [], _, g6, lm'.2, rfl⟩
  have p0 : 0 < a.2.2.1 := by omega
  show ms_Q _ _ (if pm_kd r 592 = 16 then (pm_R r 592 10).bind fun v14 => if pm_kd r v14 = 14 then (pm_R r v14 53).bind fun v17 => if pm_kd r v17 = 34 then if pm_in (Int32.ofNat b') (pm_ln r v17) then pm_let (pm_I r v17 (Int32.ofNat b').toNatClampNeg) fun y21 => pm_lim sX16_checksBody ((592, Int32.ofNat b', 0, y21, r)) else none else none else none else none) (kBody B n D M Dc t a)
  refine q_t C3.1.1 (q_b C3.1.2.1 (q_t C3.1.2.2.1 (q_b (C3.2.1.1 53 (by decide)) (q_t (C3.2.1.2 37 (by decide) (by decide)).1 (q_t ?_ (q_l ?_))))))
  · show pm_in (Int32.ofNat b') (pm_ln r (m + pRf 53))
    rw [show pm_ln r (m + pRf 53) = pLn 37 from (C3.2.1.2 37 (by decide) (by decide)).2, nn_in (by omega)]
    show b' < 64
    omega
  · rw [nn_cm (by omega), show pm_I r (m + pRf 53) b' = Int32.ofNat a.2.2.1 from bd]
    exact q_w (v_run G hF (by omega) (n + 1) a.2.2.1 0 C3 VR W3 (fun _ => rfl) Q3 E3 (by omega) p8 (Nat.zero_le _)) (fun h' F => gF_t (bv F3) F) (fun v z r' _ R => ⟨gF_t F3 (gF_m R.1 (fun x y z => .inl z) (fun x y z => z)), R.2⟩)
end VBODY
