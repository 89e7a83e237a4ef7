/-! THE CLASS READS: room for rows -/
theorem dT_R {h : pm_H} {b mm me sh j x : Nat} (T : dT h b mm me sh) (hj : j ≠ 0) (h1 : j = 1 → pm_kd h x = 34 ∧ pm_ln h x = 13 ∧ x < pm_sz h) (h2 : j = 2 → pm_kd h x = 36 ∧ pm_ln h x < 134217728 ∧ x < pm_sz h) (h3 : 3 ≤ j → j ≤ 7 → pm_kd h x = 35 ∧ pm_ln h x ≤ 491520 ∧ x < pm_sz h) (h8 : 8 ≤ j → j ≤ 11 → pm_kd h x = 34 ∧ pm_ln h x < 134217728 ∧ x < pm_sz h) : dT (pm_setR h mm j (some x)) b mm me sh := by
  obtain ⟨⟨⟨K9, rm0, km, rb, kb⟩, r17, kme, lme⟩, ⟨r18, ksh, lsh⟩, S, ⟨sc, c1, c2, c3, c4⟩, ⟨ty, t1, t2, t3, t4⟩, L, I⟩ := T
  have m9 : (19 : Nat) ≠ mm := fun z => by rw [← z, K9] at km; exact absurd km (by decide)
  have R9 : ∀ y, pm_R (pm_setR h mm j (some x)) 19 y = pm_R h 19 y := fun y => by rw [ev_RR, if_neg m9]
  have RN : ∀ y, y ≠ j → pm_R (pm_setR h mm j (some x)) mm y = pm_R h mm y := fun y hy => by rw [ev_RR, if_pos rfl, if_neg hy]
  have RJ : pm_R (pm_setR h mm j (some x)) mm j = some x := by rw [ev_RR, if_pos rfl, if_pos rfl]
  refine ⟨⟨⟨K9, (R9 0).trans rm0, km, (RN 0 (fun z => hj z.symm)).trans rb, kb⟩, (R9 17).trans r17, kme, lme⟩, ⟨(R9 18).trans r18, ksh, lsh⟩, S, ?_, ?_, fun i i1 i2 => ?_, fun i i1 i2 => ?_⟩
  · by_cases z : 1 = j
    · obtain ⟨a1, a2, a3⟩ := h1 z.symm
      exact ⟨x, by rw [z]; exact RJ, a1, a2, a3⟩
    · exact ⟨sc, (RN 1 z).trans c1, c2, c3, c4⟩
  · by_cases z : 2 = j
    · obtain ⟨a1, a2, a3⟩ := h2 z.symm
      exact ⟨x, by rw [z]; exact RJ, a1, a2, a3⟩
    · exact ⟨ty, (RN 2 z).trans t1, t2, t3, t4⟩
  · by_cases z : i = j
    · obtain ⟨a1, a2, a3⟩ := h3 (by omega) (by omega)
      exact ⟨x, by rw [z]; exact RJ, a1, a2, a3⟩
    · obtain ⟨y, y1, y2, y3, y4⟩ := L i i1 i2
      exact ⟨y, (RN i z).trans y1, y2, y3, y4⟩
  · by_cases z : i = j
    · obtain ⟨a1, a2, a3⟩ := h8 (by omega) (by omega)
      exact ⟨x, by rw [z]; exact RJ, a1, a2, a3⟩
    · obtain ⟨y, y1, y2, y3, y4⟩ := I i i1 i2
      exact ⟨y, (RN i z).trans y1, y2, y3, y4⟩
/-- arrays of arrays: the outer one, and the inner ones with nothing in them -/
theorem ma_x (h : pm_H) (N : Nat) : ∀ k, k ≤ N → pm_sz (pm_ma h 4 2 N k) = pm_sz h + 1 + k ∧ pm_kd (pm_ma h 4 2 N k) (pm_sz h) = 36 ∧ pm_ln (pm_ma h 4 2 N k) (pm_sz h) = N ∧ (∀ i, i < k → pm_R (pm_ma h 4 2 N k) (pm_sz h) i = some (pm_sz h + 1 + i) ∧ pm_kd (pm_ma h 4 2 N k) (pm_sz h + 1 + i) = 34) ∧ ∀ y, y < pm_sz h → pm_kd (pm_ma h 4 2 N k) y = pm_kd h y ∧ pm_ln (pm_ma h 4 2 N k) y = pm_ln h y ∧ pm_I (pm_ma h 4 2 N k) y = pm_I h y ∧ pm_L (pm_ma h 4 2 N k) y = pm_L h y ∧ pm_R (pm_ma h 4 2 N k) y = pm_R h y := by
  intro k
  induction k with
  | zero =>
    intro _
    obtain ⟨a, b, c, d⟩ := nA_new h 36 N
    exact ⟨a, b, c, fun i hi => absurd hi (Nat.not_lt_zero _), fun y hy => d y (by omega)⟩
  | succ k ih =>
    intro hk
    obtain ⟨a, b, c, d, e⟩ := ih (by omega)
    obtain ⟨A1, A2, A3, A4⟩ := nA_new (pm_ma h 4 2 N k) 34 0
    have E : pm_ma h 4 2 N (k + 1) = pm_setR (pm_new (pm_ma h 4 2 N k) 34 0) (pm_sz h) k (some (pm_sz (pm_ma h 4 2 N k))) := rfl
    rw [E]
    have n0 : pm_sz h ≠ pm_sz (pm_ma h 4 2 N k) := by omega
    refine ⟨by rw [ev_szR, A1]; omega, by rw [ev_kdR, (A4 _ n0).1]; exact b, by rw [ev_lnR, (A4 _ n0).2.1]; exact c, fun i hi => ?_, fun y hy => ?_⟩
    · by_cases z : i = k
      · subst z
        refine ⟨by rw [ev_RR, if_pos rfl, if_pos rfl, a], ?_⟩
        rw [ev_kdR, show pm_sz h + 1 + i = pm_sz (pm_ma h 4 2 N i) from a.symm]
        exact A2
      · obtain ⟨d1, d2⟩ := d i (by omega)
        refine ⟨by rw [ev_RR, if_pos rfl, if_neg z, (A4 _ n0).2.2.2.2]; exact d1, ?_⟩
        rw [ev_kdR, (A4 _ (by omega)).1]
        exact d2
    · obtain ⟨e1, e2, e3, e4, e5⟩ := e y hy
      obtain ⟨f1, f2, f3, f4, f5⟩ := A4 y (by omega)
      refine ⟨f1.trans e1, f2.trans e2, ?_, ?_, ?_⟩
      · funext z; rw [ev_IR, f3, e3]
      · funext z; rw [ev_LR, f4, e4]
      · funext z; rw [ev_RR, if_neg (by omega), f5, e5]
theorem rc_ma {h : pm_H} (h19 : 19 < pm_sz h) (p f q : Int32) (N : Nat) : ∀ k, k ≤ N → pm_ma (rc h p f q) 4 2 N k = rc (pm_ma h 4 2 N k) p f q := by
  intro k
  induction k with
  | zero => intro _; exact rc_N h19 p f q 36 N
  | succ k ih =>
    intro hk
    have := (ma_x h N k (by omega)).1
    show pm_setR (pm_new (pm_ma (rc h p f q) 4 2 N k) 34 0) (pm_sz h) k (some (pm_sz (pm_ma (rc h p f q) 4 2 N k))) = _
    rw [ih (by omega), rc_N (by omega)]
    rfl
section MKR
variable {h : pm_H} {b mm me sh : Nat} {a f q : Int32}
/-- how many rows there can be -/
def kpt (h : pm_H) (a : Int32) (c kept : Nat) : Prop := (if (if (pm_I h 19 2 - a).toInt64 < Int64.ofNat c then (pm_I h 19 2 - a).toInt64 else Int64.ofNat c) < (0 : Int64) then (0 : Int64) else (if (pm_I h 19 2 - a).toInt64 < Int64.ofNat c then (pm_I h 19 2 - a).toInt64 else Int64.ofNat c)).toInt32 = Int32.ofNat kept
theorem kpt_0 (h : pm_H) (a : Int32) : kpt h a 0 0 := by
  unfold kpt
  by_cases c : (pm_I h 19 2 - a).toInt64 < Int64.ofNat 0
  · rw [if_pos c, if_pos (show (pm_I h 19 2 - a).toInt64 < (0 : Int64) from c)]; rfl
  · rw [if_neg c, if_neg (by decide)]; rfl
theorem kpt_a {p e c : Nat} (ie : pm_I h 19 2 = Int32.ofNat e) (hp : p ≤ e) (he : e ≤ 40960) (hc : c < 4294967296) : kpt h (Int32.ofNat p) c (if e - p < c then e - p else c) := by
  unfold kpt
  rw [ie, nn_sb hp, nn_t6 (by omega)]
  by_cases z : e - p < c
  · rw [if_pos (show Int64.ofNat (e - p) < Int64.ofNat c by rw [ll_lt (by omega) (by omega)]; exact z), if_pos z, if_neg (show ¬ Int64.ofNat (e - p) < (0 : Int64) by rw [n6_0, ll_lt (by omega) (by decide)]; omega)]
    exact ll_t3 _
  · rw [if_neg (show ¬ Int64.ofNat (e - p) < Int64.ofNat c by rw [ll_lt (by omega) (by omega)]; exact z), if_neg z, if_neg (show ¬ Int64.ofNat c < (0 : Int64) by rw [n6_0, ll_lt (by omega) (by decide)]; omega)]
    exact ll_t3 _
/-- what making room may write -/
abbrev mW (mm j : Nat) (h h' : pm_H) : Prop := nW (fun X Y => X = 19 ∧ (Y = 5 ∨ Y = 13)) (fun X Y => X = 19 ∧ Y = 14) (fun X Y => X = mm ∧ Y = j) h h'
/-- the beginning: the count, the limit -/
theorem mk_0 (T : dT h b mm me sh) (id : Int32) {c kept : Nat} (hc : c < 4294967296) (hk : kpt h a c kept) {Q : Option pm_H → Prop} (K : ∀ h2, h2 = pm_setL (pm_setI h 19 5 (xv (pm_I h 19 5) (pm_I h 19 11) (decide (64 < c)))) 19 14 (Int64.ofNat c) → Q (if id < 3 then fX9_makeRoom_b96 (rc h2 a f q) 19 id (Int32.ofNat kept) else if 6 < id then fX9_makeRoom_b96 (rc h2 a f q) 19 id (Int32.ofNat kept) else (pm_R (rc h2 a f q) 19 0).bind fun v15 => if pm_kd (rc h2 a f q) v15 = 7 then (fX7_count (rc h2 a f q) v15 (id - 3)).bind fun v18 => (fX7_space (pm_setI (rc h2 a f q) 19 13 v18) v15 (id - 3)).bind fun v20 => (fJ7_copyOf_c38d5 (pm_setI (rc h2 a f q) 19 13 v18) v20 (((pm_I (pm_setI (rc h2 a f q) 19 13 v18) 19 13) + Int32.ofNat kept) * 6)).bind fun v22 => fX9_makeRoom_b93 v22.2 19 id (Int32.ofNat kept) v22.1 (id - 3) v15 else none)) : Q (fX9_makeRoom (rc h a f q) 19 id (Int64.ofNat c)) := by
  have K9 : pm_kd h 19 = 9 := T.1.1.1
  obtain ⟨h2, eh2⟩ : ∃ z, z = pm_setL (pm_setI h 19 5 (xv (pm_I h 19 5) (pm_I h 19 11) (decide (64 < c)))) 19 14 (Int64.ofNat c) := ⟨_, rfl⟩
  have K' := K h2 eh2
  have E17 : fX9_makeRoom_b17 (rc h2 a f q) 19 id (Int64.ofNat c) = (if id < 3 then fX9_makeRoom_b96 (rc h2 a f q) 19 id (Int32.ofNat kept) else if 6 < id then fX9_makeRoom_b96 (rc h2 a f q) 19 id (Int32.ofNat kept) else (pm_R (rc h2 a f q) 19 0).bind fun v15 => if pm_kd (rc h2 a f q) v15 = 7 then (fX7_count (rc h2 a f q) v15 (id - 3)).bind fun v18 => (fX7_space (pm_setI (rc h2 a f q) 19 13 v18) v15 (id - 3)).bind fun v20 => (fJ7_copyOf_c38d5 (pm_setI (rc h2 a f q) 19 13 v18) v20 (((pm_I (pm_setI (rc h2 a f q) 19 13 v18) 19 13) + Int32.ofNat kept) * 6)).bind fun v22 => fX9_makeRoom_b93 v22.2 19 id (Int32.ofNat kept) v22.1 (id - 3) v15 else none) := by
    unfold fX9_makeRoom_b17
    refine e9_t (show pm_kd (rc h2 a f q) 19 = 9 by rw [eh2]; exact K9) (e9_l (e9_l (e9_l ?_)))
    have i2 : pm_I (rc h2 a f q) 19 2 = pm_I h 19 2 := by rw [eh2]; rfl
    unfold kpt at hk
    rw [i2, show pm_I (rc h2 a f q) 19 1 = a from rfl, hk]
  have E0 : fX9_makeRoom (rc h a f q) 19 id (Int64.ofNat c) = fX9_makeRoom_b17 (rc h2 a f q) 19 id (Int64.ofNat c) := by
    unfold fX9_makeRoom fX9_makeRoom_b0
    refine e9_t K9 ?_
    by_cases c64 : 64 < c
    · refine e9_f (show ¬ Int64.ofNat c ≤ Int64.ofNat 64 by rw [ll_le (by omega) (by decide)]; omega) ?_
      have LI := cx_lim (h := pm_setL h 19 14 (Int64.ofNat c)) (o := pm_I h 19 6) (oa := pm_I h 19 7) (l := pm_I h 19 5) (x := pm_L h 19 8) (y := pm_L h 19 9) K9 a f q
      have ET : ri (pm_setL h 19 14 (Int64.ofNat c)) (pm_I h 19 6) (pm_I h 19 7) (pm_I h 19 5) (pm_L h 19 8) (pm_L h 19 9) = pm_setL h 19 14 (Int64.ofNat c) := ri_eta (pm_setL h 19 14 (Int64.ofNat c))
      have ET2 : ri (pm_setL h 19 14 (Int64.ofNat c)) (pm_I h 19 6) (pm_I h 19 7) (xv (pm_I h 19 5) (pm_I (pm_setL h 19 14 (Int64.ofNat c)) 19 11) true) (pm_L h 19 8) (pm_L h 19 9) = h2 := by
        have := ri_s5 (pm_setL h 19 14 (Int64.ofNat c)) (pm_I h 19 6) (pm_I h 19 7) (pm_I h 19 5) (xv (pm_I h 19 5) (pm_I (pm_setL h 19 14 (Int64.ofNat c)) 19 11) true) (pm_L h 19 8) (pm_L h 19 9)
        rw [ET] at this
        rw [← this, eh2, decide_eq_true c64]
        rfl
      rw [ET, ET2] at LI
      exact e9_b LI rfl
    · refine e9_t (show Int64.ofNat c ≤ Int64.ofNat 64 by rw [ll_le (by omega) (by decide)]; omega) ?_
      have : h2 = pm_setL h 19 14 (Int64.ofNat c) := by
        rw [eh2, decide_eq_false c64]
        have e5 : pm_setI h 19 5 (pm_I h 19 5) = h := by
          refine (congrArg (fun z => (pm_sz h, pm_kd h, pm_ln h, z, pm_L h, pm_R h)) (funext fun x => funext fun y => ?_) : _ = (pm_sz h, pm_kd h, pm_ln h, pm_I h, pm_L h, pm_R h))
          show (if x = 19 then (if y = 5 then pm_I h 19 5 else pm_I h x y) else pm_I h x y) = _
          repeat' split
          all_goals first | rfl | (subst_vars; rfl)
        show pm_setL (pm_setI h 19 5 (pm_I h 19 5)) 19 14 (Int64.ofNat c) = _
        rw [e5]
      rw [this]
      rfl
  rw [E0, E17]
  exact K'
theorem mk_2 (T : dT h b mm me sh) {c kept : Nat} (hc : c < 4294967296) (hk : kpt h a c kept) (hl : kept ≤ 40960) : ∃ h', fX9_makeRoom (rc h a f q) 19 (Int32.ofNat 2) (Int64.ofNat c) = some (rc h' a f q) ∧ dT h' b mm me sh ∧ mW mm 3 h h' ∧ pm_L h' 19 14 = Int64.ofNat c ∧ pm_I h' 19 5 = xv (pm_I h 19 5) (pm_I h 19 11) (decide (64 < c)) ∧ pm_R h' mm 3 = some (pm_sz h) ∧ pm_sz h' = pm_sz h + 1 ∧ pm_kd h' (pm_sz h) = 35 ∧ pm_ln h' (pm_sz h) = kept * 6 ∧ (∀ y, pm_I h' (pm_sz h) y = 0) ∧ (∀ y, pm_L h' (pm_sz h) y = 0) ∧ ∀ y, y ≠ 13 → pm_I h' 19 y = if y = 5 then xv (pm_I h 19 5) (pm_I h 19 11) (decide (64 < c)) else pm_I h 19 y := by
  have K9 : pm_kd h 19 = 9 := T.1.1.1
  have km : pm_kd h mm = 7 := T.1.1.2.2.1
  have m9 : mm ≠ 19 := fun z => by rw [z, K9] at km; exact absurd km (by decide)
  have s19 := T.2.2.1.1
  have sm := T.2.2.1.2.2.1
  refine mk_0 T (Int32.ofNat 2) hc hk (Q := fun x => ∃ h', x = some (rc h' a f q) ∧ dT h' b mm me sh ∧ mW mm 3 h h' ∧ pm_L h' 19 14 = Int64.ofNat c ∧ pm_I h' 19 5 = xv (pm_I h 19 5) (pm_I h 19 11) (decide (64 < c)) ∧ pm_R h' mm 3 = some (pm_sz h) ∧ pm_sz h' = pm_sz h + 1 ∧ pm_kd h' (pm_sz h) = 35 ∧ pm_ln h' (pm_sz h) = kept * 6 ∧ (∀ y, pm_I h' (pm_sz h) y = 0) ∧ (∀ y, pm_L h' (pm_sz h) y = 0) ∧ ∀ y, y ≠ 13 → pm_I h' 19 y = if y = 5 then xv (pm_I h 19 5) (pm_I h 19 11) (decide (64 < c)) else pm_I h 19 y) (fun h2 eh2 => ?_)
  have z2 : pm_sz h2 = pm_sz h := by rw [eh2]; rfl
  have gn : nF h h2 := by rw [eh2]; exact ⟨rfl, rfl, rfl, rfl⟩
  have W0 : mW mm 3 h h2 := by rw [eh2]; exact nW_L (nW_I (nW_r h) (fun _ => ⟨rfl, .inl rfl⟩)) (fun _ => ⟨rfl, rfl⟩)
  have T2 := dT_n T gn
  obtain ⟨A1, A2, A3, A4⟩ := nA_new h2 35 (kept * 6)
  have KM3 : pm_kd (pm_new h2 35 (kept * 6)) mm = 7 := ((A4 mm (by omega)).1).trans (gk gn km)
  have K93 : pm_kd (pm_new h2 35 (kept * 6)) 19 = 9 := ((A4 19 (by omega)).1).trans (gk gn K9)
  have T3 : dT (pm_setR (pm_new h2 35 (kept * 6)) mm 3 (some (pm_sz h2))) b mm me sh := dT_R (dT_A T2 (nA_new h2 35 (kept * 6))) (by decide) (fun z => absurd z (by decide)) (fun z => absurd z (by decide)) (fun _ _ => ⟨A2, by rw [ev_lnN, if_pos rfl]; omega, by rw [A1]; omega⟩) (fun z => absurd z (by decide))
  have mul : Int32.ofNat kept * 6 = Int32.ofNat (kept * 6) := nn_ml kept 6
  have ok : ¬ Int32.ofNat kept * 6 < 0 ∧ (Int32.ofNat kept * 6).toNatClampNeg * 8 ≤ 536870912 := by
    rw [mul, n3_0, nn_lt (by omega) (by decide), nn_cm (by omega)]
    omega
  have cm : (Int32.ofNat kept * 6).toNatClampNeg = kept * 6 := by rw [mul, nn_cm (by omega)]
  have E2 : pm_new (rc h2 a f q) 35 ((Int32.ofNat kept * 6).toNatClampNeg) = rc (pm_new h2 35 (kept * 6)) a f q := by rw [cm]; exact rc_N (by omega) _ _ _ _ _
  refine ⟨pm_setR (pm_new h2 35 (kept * 6)) mm 3 (some (pm_sz h2)), ?_, T3, nW_R (nW_t W0 (nW_A (nA_new h2 35 (kept * 6)))) (fun _ => ⟨rfl, rfl⟩), ?_, ?_, ?_, ?_, ?_, ?_, ?_, ?_, ?_⟩
  · refine e9_t (by decide) ?_
    unfold fX9_makeRoom_b96
    refine e9_f (by decide) ?_
    unfold fX9_makeRoom_b115
    refine e9_t (by decide) (e9_t (gk gn K9) (e9_b (gR gn T.1.1.2.1) (e9_l (e9_t ok ?_))))
    rw [E2]
    unfold fX9_makeRoom_b131
    refine e9_t KM3 ?_
    unfold fX9_makeRoom_b134
    refine e9_f (by decide) ?_
    unfold fX9_makeRoom_b153
    exact e9_f (by decide) (e9_f (by decide) (e9_f (by decide) rfl))
  · rw [ev_LR, (A4 19 (by omega)).2.2.2.1, eh2, ev_LL, if_pos rfl, if_pos rfl]
  · rw [ev_IR, (A4 19 (by omega)).2.2.1, eh2]; rfl
  · rw [ev_RR, if_pos rfl, if_pos rfl, z2]
  · rw [ev_szR, A1, z2]
  · rw [ev_kdR, ← z2]; exact A2
  · rw [ev_lnR, ← z2]; exact A3
  · intro y; rw [ev_IR, ← z2, ev_IN, if_pos rfl]
  · intro y; rw [ev_LR, ← z2, ev_LN, if_pos rfl]
  · intro y hy
    rw [ev_IR, (A4 19 (by omega)).2.2.1, eh2, ev_IL, ev_II, if_pos rfl]
theorem mk_7 (T : dT h b mm me sh) {c kept : Nat} (hc : c < 4294967296) (hk : kpt h a c kept) (hl : kept ≤ 40960) : ∃ h', fX9_makeRoom (rc h a f q) 19 (Int32.ofNat 7) (Int64.ofNat c) = some (rc h' a f q) ∧ dT h' b mm me sh ∧ mW mm 8 h h' ∧ pm_L h' 19 14 = Int64.ofNat c ∧ pm_I h' 19 5 = xv (pm_I h 19 5) (pm_I h 19 11) (decide (64 < c)) ∧ pm_R h' mm 8 = some (pm_sz h) ∧ pm_sz h' = pm_sz h + 1 ∧ pm_kd h' (pm_sz h) = 34 ∧ pm_ln h' (pm_sz h) = kept * 4 ∧ (∀ y, pm_I h' (pm_sz h) y = 0) ∧ (∀ y, pm_L h' (pm_sz h) y = 0) ∧ ∀ y, y ≠ 13 → pm_I h' 19 y = if y = 5 then xv (pm_I h 19 5) (pm_I h 19 11) (decide (64 < c)) else pm_I h 19 y := by
  have K9 : pm_kd h 19 = 9 := T.1.1.1
  have km : pm_kd h mm = 7 := T.1.1.2.2.1
  have m9 : mm ≠ 19 := fun z => by rw [z, K9] at km; exact absurd km (by decide)
  have s19 := T.2.2.1.1
  have sm := T.2.2.1.2.2.1
  refine mk_0 T (Int32.ofNat 7) hc hk (Q := fun x => ∃ h', x = some (rc h' a f q) ∧ dT h' b mm me sh ∧ mW mm 8 h h' ∧ pm_L h' 19 14 = Int64.ofNat c ∧ pm_I h' 19 5 = xv (pm_I h 19 5) (pm_I h 19 11) (decide (64 < c)) ∧ pm_R h' mm 8 = some (pm_sz h) ∧ pm_sz h' = pm_sz h + 1 ∧ pm_kd h' (pm_sz h) = 34 ∧ pm_ln h' (pm_sz h) = kept * 4 ∧ (∀ y, pm_I h' (pm_sz h) y = 0) ∧ (∀ y, pm_L h' (pm_sz h) y = 0) ∧ ∀ y, y ≠ 13 → pm_I h' 19 y = if y = 5 then xv (pm_I h 19 5) (pm_I h 19 11) (decide (64 < c)) else pm_I h 19 y) (fun h2 eh2 => ?_)
  have z2 : pm_sz h2 = pm_sz h := by rw [eh2]; rfl
  have gn : nF h h2 := by rw [eh2]; exact ⟨rfl, rfl, rfl, rfl⟩
  have W0 : mW mm 8 h h2 := by rw [eh2]; exact nW_L (nW_I (nW_r h) (fun _ => ⟨rfl, .inl rfl⟩)) (fun _ => ⟨rfl, rfl⟩)
  have T2 := dT_n T gn
  obtain ⟨A1, A2, A3, A4⟩ := nA_new h2 34 (kept * 4)
  have KM3 : pm_kd (pm_new h2 34 (kept * 4)) mm = 7 := ((A4 mm (by omega)).1).trans (gk gn km)
  have K93 : pm_kd (pm_new h2 34 (kept * 4)) 19 = 9 := ((A4 19 (by omega)).1).trans (gk gn K9)
  have T3 : dT (pm_setR (pm_new h2 34 (kept * 4)) mm 8 (some (pm_sz h2))) b mm me sh := dT_R (dT_A T2 (nA_new h2 34 (kept * 4))) (by decide) (fun z => absurd z (by decide)) (fun z => absurd z (by decide)) (fun _ z => absurd z (by decide)) (fun _ _ => ⟨A2, by rw [ev_lnN, if_pos rfl]; omega, by rw [A1]; omega⟩)
  have mul : Int32.ofNat kept * 4 = Int32.ofNat (kept * 4) := nn_ml kept 4
  have ok : ¬ Int32.ofNat kept * 4 < 0 ∧ (Int32.ofNat kept * 4).toNatClampNeg * 4 ≤ 536870912 := by
    rw [mul, n3_0, nn_lt (by omega) (by decide), nn_cm (by omega)]
    omega
  have cm : (Int32.ofNat kept * 4).toNatClampNeg = kept * 4 := by rw [mul, nn_cm (by omega)]
  have E2 : pm_new (rc h2 a f q) 34 ((Int32.ofNat kept * 4).toNatClampNeg) = rc (pm_new h2 34 (kept * 4)) a f q := by rw [cm]; exact rc_N (by omega) _ _ _ _ _
  refine ⟨pm_setR (pm_new h2 34 (kept * 4)) mm 8 (some (pm_sz h2)), ?_, T3, nW_R (nW_t W0 (nW_A (nA_new h2 34 (kept * 4)))) (fun _ => ⟨rfl, rfl⟩), ?_, ?_, ?_, ?_, ?_, ?_, ?_, ?_, ?_⟩
  · refine e9_f (by decide) (e9_t (by decide) ?_)
    unfold fX9_makeRoom_b96
    refine e9_f (by decide) ?_
    unfold fX9_makeRoom_b115
    refine e9_f (by decide) ?_
    unfold fX9_makeRoom_b134
    refine e9_t (by decide) (e9_t (gk gn K9) (e9_b (gR gn T.1.1.2.1) (e9_l (e9_t ok ?_))))
    rw [E2]
    unfold fX9_makeRoom_b150
    refine e9_t KM3 ?_
    unfold fX9_makeRoom_b153
    exact e9_f (by decide) (e9_f (by decide) (e9_f (by decide) rfl))
  · rw [ev_LR, (A4 19 (by omega)).2.2.2.1, eh2, ev_LL, if_pos rfl, if_pos rfl]
  · rw [ev_IR, (A4 19 (by omega)).2.2.1, eh2]; rfl
  · rw [ev_RR, if_pos rfl, if_pos rfl, z2]
  · rw [ev_szR, A1, z2]
  · rw [ev_kdR, ← z2]; exact A2
  · rw [ev_lnR, ← z2]; exact A3
  · intro y; rw [ev_IR, ← z2, ev_IN, if_pos rfl]
  · intro y; rw [ev_LR, ← z2, ev_LN, if_pos rfl]
  · intro y hy
    rw [ev_IR, (A4 19 (by omega)).2.2.1, eh2, ev_IL, ev_II, if_pos rfl]
theorem mk_9 (T : dT h b mm me sh) {c kept : Nat} (hc : c < 4294967296) (hk : kpt h a c kept) (hl : kept ≤ 40960) : ∃ h', fX9_makeRoom (rc h a f q) 19 (Int32.ofNat 9) (Int64.ofNat c) = some (rc h' a f q) ∧ dT h' b mm me sh ∧ mW mm 9 h h' ∧ pm_L h' 19 14 = Int64.ofNat c ∧ pm_I h' 19 5 = xv (pm_I h 19 5) (pm_I h 19 11) (decide (64 < c)) ∧ pm_R h' mm 9 = some (pm_sz h) ∧ pm_sz h' = pm_sz h + 1 ∧ pm_kd h' (pm_sz h) = 34 ∧ pm_ln h' (pm_sz h) = kept * 7 ∧ (∀ y, pm_I h' (pm_sz h) y = 0) ∧ (∀ y, pm_L h' (pm_sz h) y = 0) ∧ ∀ y, y ≠ 13 → pm_I h' 19 y = if y = 5 then xv (pm_I h 19 5) (pm_I h 19 11) (decide (64 < c)) else pm_I h 19 y := by
  have K9 : pm_kd h 19 = 9 := T.1.1.1
  have km : pm_kd h mm = 7 := T.1.1.2.2.1
  have m9 : mm ≠ 19 := fun z => by rw [z, K9] at km; exact absurd km (by decide)
  have s19 := T.2.2.1.1
  have sm := T.2.2.1.2.2.1
  refine mk_0 T (Int32.ofNat 9) hc hk (Q := fun x => ∃ h', x = some (rc h' a f q) ∧ dT h' b mm me sh ∧ mW mm 9 h h' ∧ pm_L h' 19 14 = Int64.ofNat c ∧ pm_I h' 19 5 = xv (pm_I h 19 5) (pm_I h 19 11) (decide (64 < c)) ∧ pm_R h' mm 9 = some (pm_sz h) ∧ pm_sz h' = pm_sz h + 1 ∧ pm_kd h' (pm_sz h) = 34 ∧ pm_ln h' (pm_sz h) = kept * 7 ∧ (∀ y, pm_I h' (pm_sz h) y = 0) ∧ (∀ y, pm_L h' (pm_sz h) y = 0) ∧ ∀ y, y ≠ 13 → pm_I h' 19 y = if y = 5 then xv (pm_I h 19 5) (pm_I h 19 11) (decide (64 < c)) else pm_I h 19 y) (fun h2 eh2 => ?_)
  have z2 : pm_sz h2 = pm_sz h := by rw [eh2]; rfl
  have gn : nF h h2 := by rw [eh2]; exact ⟨rfl, rfl, rfl, rfl⟩
  have W0 : mW mm 9 h h2 := by rw [eh2]; exact nW_L (nW_I (nW_r h) (fun _ => ⟨rfl, .inl rfl⟩)) (fun _ => ⟨rfl, rfl⟩)
  have T2 := dT_n T gn
  obtain ⟨A1, A2, A3, A4⟩ := nA_new h2 34 (kept * 7)
  have KM3 : pm_kd (pm_new h2 34 (kept * 7)) mm = 7 := ((A4 mm (by omega)).1).trans (gk gn km)
  have K93 : pm_kd (pm_new h2 34 (kept * 7)) 19 = 9 := ((A4 19 (by omega)).1).trans (gk gn K9)
  have T3 : dT (pm_setR (pm_new h2 34 (kept * 7)) mm 9 (some (pm_sz h2))) b mm me sh := dT_R (dT_A T2 (nA_new h2 34 (kept * 7))) (by decide) (fun z => absurd z (by decide)) (fun z => absurd z (by decide)) (fun _ z => absurd z (by decide)) (fun _ _ => ⟨A2, by rw [ev_lnN, if_pos rfl]; omega, by rw [A1]; omega⟩)
  have mul : Int32.ofNat kept * 7 = Int32.ofNat (kept * 7) := nn_ml kept 7
  have ok : ¬ Int32.ofNat kept * 7 < 0 ∧ (Int32.ofNat kept * 7).toNatClampNeg * 4 ≤ 536870912 := by
    rw [mul, n3_0, nn_lt (by omega) (by decide), nn_cm (by omega)]
    omega
  have cm : (Int32.ofNat kept * 7).toNatClampNeg = kept * 7 := by rw [mul, nn_cm (by omega)]
  have E2 : pm_new (rc h2 a f q) 34 ((Int32.ofNat kept * 7).toNatClampNeg) = rc (pm_new h2 34 (kept * 7)) a f q := by rw [cm]; exact rc_N (by omega) _ _ _ _ _
  refine ⟨pm_setR (pm_new h2 34 (kept * 7)) mm 9 (some (pm_sz h2)), ?_, T3, nW_R (nW_t W0 (nW_A (nA_new h2 34 (kept * 7)))) (fun _ => ⟨rfl, rfl⟩), ?_, ?_, ?_, ?_, ?_, ?_, ?_, ?_, ?_⟩
  · refine e9_f (by decide) (e9_t (by decide) ?_)
    unfold fX9_makeRoom_b96
    refine e9_f (by decide) ?_
    unfold fX9_makeRoom_b115
    refine e9_f (by decide) ?_
    unfold fX9_makeRoom_b134
    refine e9_f (by decide) ?_
    unfold fX9_makeRoom_b153
    refine e9_t (by decide) (e9_t (gk gn K9) (e9_b (gR gn T.1.1.2.1) (e9_l (e9_t ok ?_))))
    rw [E2]
    unfold fX9_makeRoom_b170
    exact e9_t KM3 (e9_f (by decide) (e9_f (by decide) rfl))
  · rw [ev_LR, (A4 19 (by omega)).2.2.2.1, eh2, ev_LL, if_pos rfl, if_pos rfl]
  · rw [ev_IR, (A4 19 (by omega)).2.2.1, eh2]; rfl
  · rw [ev_RR, if_pos rfl, if_pos rfl, z2]
  · rw [ev_szR, A1, z2]
  · rw [ev_kdR, ← z2]; exact A2
  · rw [ev_lnR, ← z2]; exact A3
  · intro y; rw [ev_IR, ← z2, ev_IN, if_pos rfl]
  · intro y; rw [ev_LR, ← z2, ev_LN, if_pos rfl]
  · intro y hy
    rw [ev_IR, (A4 19 (by omega)).2.2.1, eh2, ev_IL, ev_II, if_pos rfl]
theorem mk_10 (T : dT h b mm me sh) {c kept : Nat} (hc : c < 4294967296) (hk : kpt h a c kept) (hl : kept ≤ 40960) : ∃ h', fX9_makeRoom (rc h a f q) 19 (Int32.ofNat 10) (Int64.ofNat c) = some (rc h' a f q) ∧ dT h' b mm me sh ∧ mW mm 11 h h' ∧ pm_L h' 19 14 = Int64.ofNat c ∧ pm_I h' 19 5 = xv (pm_I h 19 5) (pm_I h 19 11) (decide (64 < c)) ∧ pm_R h' mm 11 = some (pm_sz h) ∧ pm_sz h' = pm_sz h + 1 ∧ pm_kd h' (pm_sz h) = 34 ∧ pm_ln h' (pm_sz h) = kept * 2 ∧ (∀ y, pm_I h' (pm_sz h) y = 0) ∧ (∀ y, pm_L h' (pm_sz h) y = 0) ∧ ∀ y, y ≠ 13 → pm_I h' 19 y = if y = 5 then xv (pm_I h 19 5) (pm_I h 19 11) (decide (64 < c)) else pm_I h 19 y := by
  have K9 : pm_kd h 19 = 9 := T.1.1.1
  have km : pm_kd h mm = 7 := T.1.1.2.2.1
  have m9 : mm ≠ 19 := fun z => by rw [z, K9] at km; exact absurd km (by decide)
  have s19 := T.2.2.1.1
  have sm := T.2.2.1.2.2.1
  refine mk_0 T (Int32.ofNat 10) hc hk (Q := fun x => ∃ h', x = some (rc h' a f q) ∧ dT h' b mm me sh ∧ mW mm 11 h h' ∧ pm_L h' 19 14 = Int64.ofNat c ∧ pm_I h' 19 5 = xv (pm_I h 19 5) (pm_I h 19 11) (decide (64 < c)) ∧ pm_R h' mm 11 = some (pm_sz h) ∧ pm_sz h' = pm_sz h + 1 ∧ pm_kd h' (pm_sz h) = 34 ∧ pm_ln h' (pm_sz h) = kept * 2 ∧ (∀ y, pm_I h' (pm_sz h) y = 0) ∧ (∀ y, pm_L h' (pm_sz h) y = 0) ∧ ∀ y, y ≠ 13 → pm_I h' 19 y = if y = 5 then xv (pm_I h 19 5) (pm_I h 19 11) (decide (64 < c)) else pm_I h 19 y) (fun h2 eh2 => ?_)
  have z2 : pm_sz h2 = pm_sz h := by rw [eh2]; rfl
  have gn : nF h h2 := by rw [eh2]; exact ⟨rfl, rfl, rfl, rfl⟩
  have W0 : mW mm 11 h h2 := by rw [eh2]; exact nW_L (nW_I (nW_r h) (fun _ => ⟨rfl, .inl rfl⟩)) (fun _ => ⟨rfl, rfl⟩)
  have T2 := dT_n T gn
  obtain ⟨A1, A2, A3, A4⟩ := nA_new h2 34 (kept * 2)
  have KM3 : pm_kd (pm_new h2 34 (kept * 2)) mm = 7 := ((A4 mm (by omega)).1).trans (gk gn km)
  have K93 : pm_kd (pm_new h2 34 (kept * 2)) 19 = 9 := ((A4 19 (by omega)).1).trans (gk gn K9)
  have T3 : dT (pm_setR (pm_new h2 34 (kept * 2)) mm 11 (some (pm_sz h2))) b mm me sh := dT_R (dT_A T2 (nA_new h2 34 (kept * 2))) (by decide) (fun z => absurd z (by decide)) (fun z => absurd z (by decide)) (fun _ z => absurd z (by decide)) (fun _ _ => ⟨A2, by rw [ev_lnN, if_pos rfl]; omega, by rw [A1]; omega⟩)
  have mul : Int32.ofNat kept * 2 = Int32.ofNat (kept * 2) := nn_ml kept 2
  have ok : ¬ Int32.ofNat kept * 2 < 0 ∧ (Int32.ofNat kept * 2).toNatClampNeg * 4 ≤ 536870912 := by
    rw [mul, n3_0, nn_lt (by omega) (by decide), nn_cm (by omega)]
    omega
  have cm : (Int32.ofNat kept * 2).toNatClampNeg = kept * 2 := by rw [mul, nn_cm (by omega)]
  have E2 : pm_new (rc h2 a f q) 34 ((Int32.ofNat kept * 2).toNatClampNeg) = rc (pm_new h2 34 (kept * 2)) a f q := by rw [cm]; exact rc_N (by omega) _ _ _ _ _
  refine ⟨pm_setR (pm_new h2 34 (kept * 2)) mm 11 (some (pm_sz h2)), ?_, T3, nW_R (nW_t W0 (nW_A (nA_new h2 34 (kept * 2)))) (fun _ => ⟨rfl, rfl⟩), ?_, ?_, ?_, ?_, ?_, ?_, ?_, ?_, ?_⟩
  · refine e9_f (by decide) (e9_t (by decide) ?_)
    unfold fX9_makeRoom_b96
    refine e9_f (by decide) ?_
    unfold fX9_makeRoom_b115
    refine e9_f (by decide) ?_
    unfold fX9_makeRoom_b134
    refine e9_f (by decide) ?_
    unfold fX9_makeRoom_b153
    refine e9_f (by decide) (e9_t (by decide) (e9_t (gk gn K9) (e9_b (gR gn T.1.1.2.1) (e9_l (e9_t ok ?_)))))
    rw [E2]
    unfold fX9_makeRoom_b189
    exact e9_t KM3 (e9_f (by decide) rfl)
  · rw [ev_LR, (A4 19 (by omega)).2.2.2.1, eh2, ev_LL, if_pos rfl, if_pos rfl]
  · rw [ev_IR, (A4 19 (by omega)).2.2.1, eh2]; rfl
  · rw [ev_RR, if_pos rfl, if_pos rfl, z2]
  · rw [ev_szR, A1, z2]
  · rw [ev_kdR, ← z2]; exact A2
  · rw [ev_lnR, ← z2]; exact A3
  · intro y; rw [ev_IR, ← z2, ev_IN, if_pos rfl]
  · intro y; rw [ev_LR, ← z2, ev_LN, if_pos rfl]
  · intro y hy
    rw [ev_IR, (A4 19 (by omega)).2.2.1, eh2, ev_IL, ev_II, if_pos rfl]
theorem mk_11 (T : dT h b mm me sh) {c kept : Nat} (hc : c < 4294967296) (hk : kpt h a c kept) (hl : kept ≤ 40960) : ∃ h', fX9_makeRoom (rc h a f q) 19 (Int32.ofNat 11) (Int64.ofNat c) = some (rc h' a f q) ∧ dT h' b mm me sh ∧ mW mm 10 h h' ∧ pm_L h' 19 14 = Int64.ofNat c ∧ pm_I h' 19 5 = xv (pm_I h 19 5) (pm_I h 19 11) (decide (64 < c)) ∧ pm_R h' mm 10 = some (pm_sz h) ∧ pm_sz h' = pm_sz h + 1 ∧ pm_kd h' (pm_sz h) = 34 ∧ pm_ln h' (pm_sz h) = kept * 7 ∧ (∀ y, pm_I h' (pm_sz h) y = 0) ∧ (∀ y, pm_L h' (pm_sz h) y = 0) ∧ ∀ y, y ≠ 13 → pm_I h' 19 y = if y = 5 then xv (pm_I h 19 5) (pm_I h 19 11) (decide (64 < c)) else pm_I h 19 y := by
  have K9 : pm_kd h 19 = 9 := T.1.1.1
  have km : pm_kd h mm = 7 := T.1.1.2.2.1
  have m9 : mm ≠ 19 := fun z => by rw [z, K9] at km; exact absurd km (by decide)
  have s19 := T.2.2.1.1
  have sm := T.2.2.1.2.2.1
  refine mk_0 T (Int32.ofNat 11) hc hk (Q := fun x => ∃ h', x = some (rc h' a f q) ∧ dT h' b mm me sh ∧ mW mm 10 h h' ∧ pm_L h' 19 14 = Int64.ofNat c ∧ pm_I h' 19 5 = xv (pm_I h 19 5) (pm_I h 19 11) (decide (64 < c)) ∧ pm_R h' mm 10 = some (pm_sz h) ∧ pm_sz h' = pm_sz h + 1 ∧ pm_kd h' (pm_sz h) = 34 ∧ pm_ln h' (pm_sz h) = kept * 7 ∧ (∀ y, pm_I h' (pm_sz h) y = 0) ∧ (∀ y, pm_L h' (pm_sz h) y = 0) ∧ ∀ y, y ≠ 13 → pm_I h' 19 y = if y = 5 then xv (pm_I h 19 5) (pm_I h 19 11) (decide (64 < c)) else pm_I h 19 y) (fun h2 eh2 => ?_)
  have z2 : pm_sz h2 = pm_sz h := by rw [eh2]; rfl
  have gn : nF h h2 := by rw [eh2]; exact ⟨rfl, rfl, rfl, rfl⟩
  have W0 : mW mm 10 h h2 := by rw [eh2]; exact nW_L (nW_I (nW_r h) (fun _ => ⟨rfl, .inl rfl⟩)) (fun _ => ⟨rfl, rfl⟩)
  have T2 := dT_n T gn
  obtain ⟨A1, A2, A3, A4⟩ := nA_new h2 34 (kept * 7)
  have KM3 : pm_kd (pm_new h2 34 (kept * 7)) mm = 7 := ((A4 mm (by omega)).1).trans (gk gn km)
  have K93 : pm_kd (pm_new h2 34 (kept * 7)) 19 = 9 := ((A4 19 (by omega)).1).trans (gk gn K9)
  have T3 : dT (pm_setR (pm_new h2 34 (kept * 7)) mm 10 (some (pm_sz h2))) b mm me sh := dT_R (dT_A T2 (nA_new h2 34 (kept * 7))) (by decide) (fun z => absurd z (by decide)) (fun z => absurd z (by decide)) (fun _ z => absurd z (by decide)) (fun _ _ => ⟨A2, by rw [ev_lnN, if_pos rfl]; omega, by rw [A1]; omega⟩)
  have mul : Int32.ofNat kept * 7 = Int32.ofNat (kept * 7) := nn_ml kept 7
  have ok : ¬ Int32.ofNat kept * 7 < 0 ∧ (Int32.ofNat kept * 7).toNatClampNeg * 4 ≤ 536870912 := by
    rw [mul, n3_0, nn_lt (by omega) (by decide), nn_cm (by omega)]
    omega
  have cm : (Int32.ofNat kept * 7).toNatClampNeg = kept * 7 := by rw [mul, nn_cm (by omega)]
  have E2 : pm_new (rc h2 a f q) 34 ((Int32.ofNat kept * 7).toNatClampNeg) = rc (pm_new h2 34 (kept * 7)) a f q := by rw [cm]; exact rc_N (by omega) _ _ _ _ _
  refine ⟨pm_setR (pm_new h2 34 (kept * 7)) mm 10 (some (pm_sz h2)), ?_, T3, nW_R (nW_t W0 (nW_A (nA_new h2 34 (kept * 7)))) (fun _ => ⟨rfl, rfl⟩), ?_, ?_, ?_, ?_, ?_, ?_, ?_, ?_, ?_⟩
  · refine e9_f (by decide) (e9_t (by decide) ?_)
    unfold fX9_makeRoom_b96
    refine e9_f (by decide) ?_
    unfold fX9_makeRoom_b115
    refine e9_f (by decide) ?_
    unfold fX9_makeRoom_b134
    refine e9_f (by decide) ?_
    unfold fX9_makeRoom_b153
    refine e9_f (by decide) (e9_f (by decide) (e9_t (by decide) (e9_t (gk gn K9) (e9_b (gR gn T.1.1.2.1) (e9_l (e9_t ok ?_))))))
    rw [E2]
    unfold fX9_makeRoom_b209
    exact e9_t KM3 rfl
  · rw [ev_LR, (A4 19 (by omega)).2.2.2.1, eh2, ev_LL, if_pos rfl, if_pos rfl]
  · rw [ev_IR, (A4 19 (by omega)).2.2.1, eh2]; rfl
  · rw [ev_RR, if_pos rfl, if_pos rfl, z2]
  · rw [ev_szR, A1, z2]
  · rw [ev_kdR, ← z2]; exact A2
  · rw [ev_lnR, ← z2]; exact A3
  · intro y; rw [ev_IR, ← z2, ev_IN, if_pos rfl]
  · intro y; rw [ev_LR, ← z2, ev_LN, if_pos rfl]
  · intro y hy
    rw [ev_IR, (A4 19 (by omega)).2.2.1, eh2, ev_IL, ev_II, if_pos rfl]
theorem mk_1 (T : dT h b mm me sh) {c kept : Nat} (hc : c < 4294967296) (hk : kpt h a c kept) (hl : kept ≤ 40960) : ∃ h', fX9_makeRoom (rc h a f q) 19 (Int32.ofNat 1) (Int64.ofNat c) = some (rc h' a f q) ∧ dT h' b mm me sh ∧ mW mm 2 h h' ∧ pm_L h' 19 14 = Int64.ofNat c ∧ pm_R h' mm 2 = some (pm_sz h) ∧ pm_sz h < pm_sz h' ∧ pm_kd h' (pm_sz h) = 36 ∧ pm_ln h' (pm_sz h) = kept ∧ ∀ y, y ≠ 13 → pm_I h' 19 y = if y = 5 then xv (pm_I h 19 5) (pm_I h 19 11) (decide (64 < c)) else pm_I h 19 y := by
  have K9 : pm_kd h 19 = 9 := T.1.1.1
  have km : pm_kd h mm = 7 := T.1.1.2.2.1
  have m9 : mm ≠ 19 := fun z => by rw [z, K9] at km; exact absurd km (by decide)
  have s19 := T.2.2.1.1
  have sm := T.2.2.1.2.2.1
  refine mk_0 T (Int32.ofNat 1) hc hk (Q := fun x => ∃ h', x = some (rc h' a f q) ∧ dT h' b mm me sh ∧ mW mm 2 h h' ∧ pm_L h' 19 14 = Int64.ofNat c ∧ pm_R h' mm 2 = some (pm_sz h) ∧ pm_sz h < pm_sz h' ∧ pm_kd h' (pm_sz h) = 36 ∧ pm_ln h' (pm_sz h) = kept ∧ ∀ y, y ≠ 13 → pm_I h' 19 y = if y = 5 then xv (pm_I h 19 5) (pm_I h 19 11) (decide (64 < c)) else pm_I h 19 y) (fun h2 eh2 => ?_)
  have z2 : pm_sz h2 = pm_sz h := by rw [eh2]; rfl
  have gn : nF h h2 := by rw [eh2]; exact ⟨rfl, rfl, rfl, rfl⟩
  have W0 : mW mm 2 h h2 := by rw [eh2]; exact nW_L (nW_I (nW_r h) (fun _ => ⟨rfl, .inl rfl⟩)) (fun _ => ⟨rfl, rfl⟩)
  have T2 := dT_n T gn
  obtain ⟨A1, A2, A3, A4, A5⟩ := ma_x h2 kept kept (Nat.le_refl _)
  have WM : mW mm 2 h2 (pm_ma h2 4 2 kept kept) := ⟨by omega, fun y hy => ⟨(A5 y hy).1, (A5 y hy).2.1⟩, fun x y hx _ => by rw [(A5 x hx).2.2.1], fun x y hx _ => by rw [(A5 x hx).2.2.2.1], fun x y hx _ => by rw [(A5 x hx).2.2.2.2]⟩
  have WM0 : nW (fun _ _ => False) (fun _ _ => False) (fun _ _ => False) h2 (pm_ma h2 4 2 kept kept) := ⟨by omega, fun y hy => ⟨(A5 y hy).1, (A5 y hy).2.1⟩, fun x y hx _ => by rw [(A5 x hx).2.2.1], fun x y hx _ => by rw [(A5 x hx).2.2.2.1], fun x y hx _ => by rw [(A5 x hx).2.2.2.2]⟩
  have KM3 : pm_kd (pm_ma h2 4 2 kept kept) mm = 7 := ((A5 mm (by omega)).1).trans (gk gn km)
  have T3 : dT (pm_setR (pm_ma h2 4 2 kept kept) mm 2 (some (pm_sz h2))) b mm me sh := dT_R (dT_W T2 WM0 (fun _ z => z) (fun _ z => z)) (by decide) (fun z => absurd z (by decide)) (fun _ => ⟨A2, by rw [A3]; omega, by rw [A1]; omega⟩) (fun z _ => absurd z (by decide)) (fun z _ => absurd z (by decide))
  have cm : (Int32.ofNat kept).toNatClampNeg = kept := nn_cm (by omega)
  have ok : ¬ Int32.ofNat kept < 0 ∧ (Int32.ofNat kept).toNatClampNeg * 4 ≤ 536870912 := by
    rw [n3_0, nn_lt (by omega) (by decide), nn_cm (by omega)]
    omega
  have E2 : pm_ma (rc h2 a f q) 4 2 ((Int32.ofNat kept).toNatClampNeg) ((Int32.ofNat kept).toNatClampNeg) = rc (pm_ma h2 4 2 kept kept) a f q := by rw [cm]; exact rc_ma (by omega) _ _ _ _ _ (Nat.le_refl _)
  refine ⟨pm_setR (pm_ma h2 4 2 kept kept) mm 2 (some (pm_sz h2)), ?_, T3, nW_R (nW_t W0 WM) (fun _ => ⟨rfl, rfl⟩), ?_, ?_, ?_, ?_, ?_, ?_⟩
  · refine e9_t (by decide) ?_
    unfold fX9_makeRoom_b96
    refine e9_t (by decide) (e9_t (gk gn K9) (e9_b (gR gn T.1.1.2.1) (e9_t ok ?_)))
    rw [E2]
    unfold fX9_makeRoom_b112
    refine e9_t KM3 ?_
    unfold fX9_makeRoom_b115
    refine e9_f (by decide) ?_
    unfold fX9_makeRoom_b134
    refine e9_f (by decide) ?_
    unfold fX9_makeRoom_b153
    exact e9_f (by decide) (e9_f (by decide) (e9_f (by decide) rfl))
  · rw [ev_LR, (A5 19 (by omega)).2.2.2.1, eh2, ev_LL, if_pos rfl, if_pos rfl]
  · rw [ev_RR, if_pos rfl, if_pos rfl, z2]
  · rw [ev_szR, A1]; omega
  · rw [ev_kdR, ← z2]; exact A2
  · rw [ev_lnR, ← z2]; exact A3
  · intro y hy
    rw [ev_IR, (A5 19 (by omega)).2.2.1, eh2, ev_IL, ev_II, if_pos rfl]
theorem dv_6 {N : Nat} (hN : N < 1000000) : Int32.ofNat (N * 6) / 6 = Int32.ofNat N := (pe_dv (n := N * 6) (k := 6) (by omega) (by decide) (by decide)).trans (congrArg Int32.ofNat (by omega))
/-- the spaces -/
theorem mk_s (T : dT h b mm me sh) {id c kept : Nat} (h3 : 3 ≤ id) (h6 : id ≤ 6) (hc : c < 4294967296) (hk : kpt h a c kept) (hl : kept ≤ 40960) {x0 N : Nat} (r0 : pm_R h mm (id + 1) = some x0) (ln0 : pm_ln h x0 = N * 6) (hN : N ≤ 40960) : ∃ h', fX9_makeRoom (rc h a f q) 19 (Int32.ofNat id) (Int64.ofNat c) = some (rc h' a f q) ∧ dT h' b mm me sh ∧ mW mm (id + 1) h h' ∧ pm_L h' 19 14 = Int64.ofNat c ∧ pm_R h' mm (id + 1) = some (pm_sz h) ∧ pm_sz h' = pm_sz h + 1 ∧ pm_kd h' (pm_sz h) = 35 ∧ pm_ln h' (pm_sz h) = (N + kept) * 6 ∧ (∀ y, y < (N + kept) * 6 → pm_L h' (pm_sz h) y = if y < N * 6 then pm_L h x0 y else 0) ∧ (∀ y, N * 6 ≤ y → y < (N + kept) * 6 → pm_I h' (pm_sz h) y = 0) ∧ pm_I h' 19 13 = Int32.ofNat N ∧ ∀ y, y ≠ 13 → pm_I h' 19 y = if y = 5 then xv (pm_I h 19 5) (pm_I h 19 11) (decide (64 < c)) else pm_I h 19 y := by
  have K9 : pm_kd h 19 = 9 := T.1.1.1
  have km : pm_kd h mm = 7 := T.1.1.2.2.1
  have m9 : mm ≠ 19 := fun z => by rw [z, K9] at km; exact absurd km (by decide)
  have s19 := T.2.2.1.1
  have sm := T.2.2.1.2.2.1
  obtain ⟨x0', r0', k0, l0, z0⟩ := T.2.2.2.2.2.1 (id + 1) (by omega) (by omega)
  have ex : x0' = x0 := by rw [r0] at r0'; exact (Option.some.inj r0').symm
  rw [ex] at k0 l0 z0
  refine mk_0 T (Int32.ofNat id) hc hk (Q := fun x => ∃ h', x = some (rc h' a f q) ∧ dT h' b mm me sh ∧ mW mm (id + 1) h h' ∧ pm_L h' 19 14 = Int64.ofNat c ∧ pm_R h' mm (id + 1) = some (pm_sz h) ∧ pm_sz h' = pm_sz h + 1 ∧ pm_kd h' (pm_sz h) = 35 ∧ pm_ln h' (pm_sz h) = (N + kept) * 6 ∧ (∀ y, y < (N + kept) * 6 → pm_L h' (pm_sz h) y = if y < N * 6 then pm_L h x0 y else 0) ∧ (∀ y, N * 6 ≤ y → y < (N + kept) * 6 → pm_I h' (pm_sz h) y = 0) ∧ pm_I h' 19 13 = Int32.ofNat N ∧ ∀ y, y ≠ 13 → pm_I h' 19 y = if y = 5 then xv (pm_I h 19 5) (pm_I h 19 11) (decide (64 < c)) else pm_I h 19 y) (fun h2 eh2 => ?_)
  have gn : nF h h2 := by rw [eh2]; exact ⟨rfl, rfl, rfl, rfl⟩
  have W0 : mW mm (id + 1) h h2 := by rw [eh2]; exact nW_L (nW_I (nW_r h) (fun _ => ⟨rfl, .inl rfl⟩)) (fun _ => ⟨rfl, rfl⟩)
  have sub : Int32.ofNat id - 3 = Int32.ofNat (id - 3) := nn_sb h3
  obtain ⟨h4, eh4⟩ : ∃ z, z = pm_setI h2 19 13 (Int32.ofNat N) := ⟨_, rfl⟩
  have gn4 : nF h h4 := by rw [eh4]; exact nF_sI gn
  have W4 : mW mm (id + 1) h h4 := by rw [eh4]; exact nW_I W0 (fun _ => ⟨rfl, .inr rfl⟩)
  have L4 : pm_L h4 x0 = pm_L h x0 := by
    have x9 : x0 ≠ 19 := fun z => by rw [z, K9] at k0; exact absurd k0 (by decide)
    funext y
    rw [eh4, ev_LI, eh2, ev_LL, if_neg x9]
    rfl
  have x9 : x0 ≠ 19 := fun z => by rw [z, K9] at k0; exact absurd k0 (by decide)
  have z4 : pm_sz h4 = pm_sz h := gn4.1
  obtain ⟨h5, e5, A5, C5, D5⟩ := cpy6 (h := h4) (x0 := x0) (m := (N + kept) * 6) (a := a) (f := f) (q := q) (by omega) (gk gn4 k0) (by omega) x9 (by rw [nF_ln gn4]; omega) (by omega)
  obtain ⟨A1, A2, A3, A4⟩ := A5
  have KM5 : pm_kd h5 mm = 7 := ((A4 mm (by omega)).1).trans (gk gn4 km)
  have T5 : dT (pm_setR h5 mm (id + 1) (some (pm_sz h4))) b mm me sh := dT_R (dT_A (dT_n T gn4) ⟨A1, A2, A3, A4⟩) (by omega) (fun z => by omega) (fun z => by omega) (fun _ _ => ⟨A2, by rw [A3]; omega, by rw [A1]; omega⟩) (fun z _ => by omega)
  have i19 := A4 19 (by omega)
  refine ⟨pm_setR h5 mm (id + 1) (some (pm_sz h4)), ?_, T5, nW_R (nW_t W4 (nW_A ⟨A1, A2, A3, A4⟩)) (fun _ => ⟨rfl, rfl⟩), ?_, ?_, ?_, ?_, ?_, ?_, ?_, ?_, ?_⟩
  · refine e9_f (show ¬ Int32.ofNat id < Int32.ofNat 3 by rw [nn_lt (by omega) (by decide)]; omega) (e9_f (show ¬ Int32.ofNat 6 < Int32.ofNat id by rw [nn_lt (by decide) (by omega)]; omega) ?_)
    rw [sub]
    have SP : ∀ h', pm_kd h' mm = 7 → pm_R h' mm (4 + (id - 3)) = some x0 → fX7_space h' mm (Int32.ofNat (id - 3)) = some x0 := fun h' k r => fX7_space_k k (by omega) r
    have ri : pm_R h mm (4 + (id - 3)) = some x0 := by rw [show 4 + (id - 3) = id + 1 by omega]; exact r0
    have CN : fX7_count (rc h2 a f q) mm (Int32.ofNat (id - 3)) = some (Int32.ofNat N) := by
      unfold fX7_count
      refine e9_t (gk gn km) (e9_b (SP (rc h2 a f q) (gk gn km) (gR gn ri)) (e9_t (gk gn k0) ?_))
      rw [show pm_ln (rc h2 a f q) x0 = N * 6 from (nF_ln gn).trans ln0, dv_6 (by omega)]
    refine e9_b (gR gn T.1.1.2.1) (e9_t (gk gn km) (e9_b CN ?_))
    rw [rc_19 _ _ _ _ _ (by decide) (by decide) (by decide), ← eh4]
    refine e9_b (SP (rc h4 a f q) (gk gn4 km) (gR gn4 ri)) ?_
    rw [show pm_I (rc h4 a f q) 19 13 = Int32.ofNat N by rw [eh4]; rfl, nn_ad, show Int32.ofNat (N + kept) * 6 = Int32.ofNat ((N + kept) * 6) from nn_ml _ 6]
    refine e9_b e5 ?_
    unfold fX9_makeRoom_b93
    have SS : fX7_setSpace (rc h5 a f q) mm (Int32.ofNat (id - 3)) (pm_sz h4) = some (rc (pm_setR h5 mm (id + 1) (some (pm_sz h4))) a f q) := by
      unfold fX7_setSpace
      rcases (show id = 3 ∨ id = 4 ∨ id = 5 ∨ id = 6 by omega) with rfl | rfl | rfl | rfl
      · exact e9_t (by decide) (e9_t KM5 rfl)
      · exact e9_f (by decide) (e9_t (by decide) (e9_t KM5 rfl))
      · exact e9_f (by decide) (e9_f (by decide) (e9_t (by decide) (e9_t KM5 rfl)))
      · exact e9_f (by decide) (e9_f (by decide) (e9_f (by decide) (e9_t KM5 rfl)))
    refine e9_t KM5 (e9_b SS ?_)
    have N' : ∀ k, k < 100 → id ≠ k → ¬ Int32.ofNat id = Int32.ofNat k := fun k hk z => by rw [nn_eq (by omega) (by omega)]; exact z
    unfold fX9_makeRoom_b96
    refine e9_f (N' 1 (by decide) (by omega)) ?_
    unfold fX9_makeRoom_b115
    refine e9_f (N' 2 (by decide) (by omega)) ?_
    unfold fX9_makeRoom_b134
    refine e9_f (N' 7 (by decide) (by omega)) ?_
    unfold fX9_makeRoom_b153
    exact e9_f (N' 9 (by decide) (by omega)) (e9_f (N' 10 (by decide) (by omega)) (e9_f (N' 11 (by decide) (by omega)) rfl))
  · rw [ev_LR, i19.2.2.2.1, eh4, ev_LI, eh2, ev_LL, if_pos rfl, if_pos rfl]
  · rw [ev_RR, if_pos rfl, if_pos rfl, z4]
  · rw [ev_szR, A1, z4]
  · rw [ev_kdR, ← z4]; exact A2
  · rw [ev_lnR, ← z4]; exact A3
  · intro y hy
    rw [ev_LR, ← z4, C5 y hy, nF_ln gn4, ln0, L4]
  · intro y y1 y2
    rw [ev_IR, ← z4]
    exact D5 y (by rw [nF_ln gn4, ln0]; exact y1) y2
  · rw [ev_IR, i19.2.2.1, eh4, ev_II, if_pos rfl, if_pos rfl]
  · intro y hy
    rw [ev_IR, i19.2.2.1, eh4, ev_II, if_pos rfl, if_neg hy, eh2, ev_IL, ev_II, if_pos rfl]
end MKR
