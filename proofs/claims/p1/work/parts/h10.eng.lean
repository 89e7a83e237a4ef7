/-! CONSTRUCTORS, tenth: the engine -/
/-- a new engine at a, made from the cell s on -/
def pj_X12 (h : pm_H) (a s : Nat) : Prop := pm_kd h a = 12 ∧ (∀ y, pm_I h a y = 0) ∧ (∀ y, pm_L h a y = 0) ∧ (pm_R h a 0 = some s ∧ pm_R h a 3 = some (s + 1) ∧ pm_R h a 8 = some (s + 18) ∧ pm_R h a 9 = some (s + 21) ∧ pm_R h a 10 = some (s + 181) ∧ pm_R h a 11 = some (s + 375) ∧ pm_R h a 12 = some (s + 2) ∧ pm_R h a 14 = some (s + 3)) ∧ pe_Z h s 33 40960 ∧ (pm_kd h (s + 1) = 41 ∧ pm_ln h (s + 1) = 16 ∧ ∀ y, y < 16 → pm_R h (s + 1) y = some (s + 4)) ∧ pe_Z h (s + 2) 34 128 ∧ pe_Z h (s + 3) 35 16 ∧ pe_Z h (s + 5) 33 0 ∧ (pm_kd h (s + 4) = 7 ∧ pj_X7 h (s + 4) (s + 6) (s + 5)) ∧ (pm_kd h (s + 18) = 9 ∧ pj_X9 h (s + 18) (s + 19) (s + 4)) ∧ (pm_kd h (s + 21) = 1 ∧ pj_X1 h (s + 21) (s + 22) (s + 18) (s + 4)) ∧ (pm_kd h (s + 181) = 10 ∧ pj_X10 h (s + 181) (s + 182) (s + 18) (s + 4)) ∧ (pm_kd h (s + 375) = 5 ∧ pj_X5 h (s + 375) (s + 376) (s + 181) (s + 361))
theorem cX12_l {l : pm_H} {a b p : Nat} (nab : a ≠ b) (ka : pm_kd l a = 12) (ra : pm_R l a 3 = some b) (kb : pm_kd l b = 41) (lb : pm_ln l b = 16) (kp : pm_kd l p = 7) : pm_lim sX12_init (.inr (.inr (.inr (.inr (.inr (.inr (.inr (.inr (.inl ((a, p, 0, l))))))))))) = pm_lim sX12_init (.inr (.inr (.inr (.inr (.inr (.inr (.inr (.inr (.inr (.inl ((a, p, pm_sz l, a, pm_new (pe_fR l b 16 (some p)) 9 0)))))))))))) := by
  have F := fun i => pe_fRE l b i (some p)
  refine Eq.trans (by rw [pe_fR0]; rfl) ((ev_iter (s := sX12_init) (fun i => (.inr (.inr (.inr (.inr (.inr (.inr (.inr (.inr (.inl ((a, p, Int32.ofNat i, pe_fR l b i (some p))))))))))))) 16 ?_).trans ?_)
  · intro i hi
    rw [ev_lim]
    simp only [sX12_init, tX12_init_51, (F i).2.1, (F i).2.2.1, (F i).2.2.2.2.2.2.2 a _ nab, ka, ra, kb, lb, kp, if_true, Option.bind_some, if_neg (pe_lt (by decide) hi), if_pos (pe_in (by decide) hi), pe_cl (n := 16) (by decide) hi, ev_let, pe_s, pe_fRs]
  · rw [ev_lim]
    simp only [sX12_init, tX12_init_51, (F 16).1, (F 16).2.1, (F 16).2.2.1, (F 16).2.2.2.2.2.2.2 a _ nab, ka, ra, kb, lb, if_true, Option.bind_some, if_pos (pe_ge (n := 16))]
set_option maxHeartbeats 4000000 in
theorem cX12 {h : pm_H} {a s : Nat} (hz : pe_Z h a 12 0) (hs : pm_sz h = s) (ha : a < s) : ∃ h', fX12_init h a = some h' ∧ pm_sz h' = s + 591 ∧ pe_K h h' a ∧ pj_X12 h' a s := by
  have hk := hz.1
  subst hs
  obtain ⟨w, ew⟩ : ∃ w, w = pm_new (pm_new (pm_setR (pm_new (pm_setR (pm_new (pm_setR (pm_new (pm_setR (pm_new h 33 40960) a 0 (some (pm_sz h))) 41 16) a 3 (some (pm_sz h + 1))) 34 128) a 12 (some (pm_sz h + 2))) 35 16) a 14 (some (pm_sz h + 3))) 7 0) 33 0 := ⟨_, rfl⟩
  have F : pm_sz w = pm_sz h + 6 ∧ pe_K h w a ∧ (∀ y, pm_I w a y = 0) ∧ (∀ y, pm_L w a y = 0) ∧ (pm_R w a 0 = some (pm_sz h) ∧ pm_R w a 3 = some (pm_sz h + 1) ∧ pm_R w a 12 = some (pm_sz h + 2) ∧ pm_R w a 14 = some (pm_sz h + 3)) ∧ pe_Z w (pm_sz h) 33 40960 ∧ pe_Z w (pm_sz h + 1) 41 16 ∧ pe_Z w (pm_sz h + 2) 34 128 ∧ pe_Z w (pm_sz h + 3) 35 16 ∧ pe_Z w (pm_sz h + 4) 7 0 ∧ pe_Z w (pm_sz h + 5) 33 0 := by
    rw [ew]
    refine ⟨?_, ⟨?_, ?_, ?_, fun x hx hxa => ⟨?_, ?_, fun y => ?_, fun y => ?_, fun y => ?_⟩⟩, fun y => ?_, fun y => ?_, ⟨?_, ?_, ?_, ?_⟩, ⟨?_, ?_, fun y => ?_, fun y => ?_, fun y => ?_⟩, ⟨?_, ?_, fun y => ?_, fun y => ?_, fun y => ?_⟩, ⟨?_, ?_, fun y => ?_, fun y => ?_, fun y => ?_⟩, ⟨?_, ?_, fun y => ?_, fun y => ?_, fun y => ?_⟩, ⟨?_, ?_, fun y => ?_, fun y => ?_, fun y => ?_⟩, ⟨?_, ?_, fun y => ?_, fun y => ?_, fun y => ?_⟩⟩
    all_goals first
      | (simp only [ev_szI, ev_szL, ev_szR, ev_szN, ev_kdI, ev_kdL, ev_kdR, ev_kdN, ev_lnI, ev_lnL, ev_lnR, ev_lnN, ev_II, ev_IL, ev_IR, ev_IN, ev_LI, ev_LL, ev_LR, ev_LN, ev_RI, ev_RL, ev_RR, ev_RN, Nat.add_assoc, Nat.reduceAdd, Nat.add_left_cancel_iff, Nat.left_eq_add, Nat.add_eq_left, Nat.reduceEqDiff, reduceIte, if_true, if_false, Option.bind_some, ev_let, pe_na ha, pe_na0 ha, pe_nb ha, pe_nb0 ha, hk, hz.2.2.1, hz.2.2.2.1]; done)
      | (simp only [ev_szI, ev_szL, ev_szR, ev_szN, ev_kdI, ev_kdL, ev_kdR, ev_kdN, ev_lnI, ev_lnL, ev_lnR, ev_lnN, ev_II, ev_IL, ev_IR, ev_IN, ev_LI, ev_LL, ev_LR, ev_LN, ev_RI, ev_RL, ev_RR, ev_RN, Nat.add_assoc, Nat.reduceAdd, Nat.add_left_cancel_iff, Nat.left_eq_add, Nat.add_eq_left, Nat.reduceEqDiff, reduceIte, if_true, if_false, Option.bind_some, ev_let, pe_na ha, pe_na0 ha, pe_nb ha, pe_nb0 ha, pe_na hx, pe_na0 hx, eq_false hxa]; done)
      | (simp only [ev_szI, ev_szL, ev_szR, ev_szN, ev_kdI, ev_kdL, ev_kdR, ev_kdN, ev_lnI, ev_lnL, ev_lnR, ev_lnN, ev_II, ev_IL, ev_IR, ev_IN, ev_LI, ev_LL, ev_LR, ev_LN, ev_RI, ev_RL, ev_RR, ev_RN, Nat.add_assoc, Nat.reduceAdd, Nat.add_left_cancel_iff, Nat.left_eq_add, Nat.add_eq_left, Nat.reduceEqDiff, reduceIte, if_true, if_false, Option.bind_some, ev_let]; omega)
  have T1 : fX12_init h a = pm_lim sX12_init (.inr (.inr (.inr (.inr (.inr (.inr (.inl ((a, pm_sz h + 5, pm_sz h + 4, pm_sz h + 4, w))))))))) := by
    rw [ew]
    unfold fX12_init
    rw [ev_lim]; simp only [sX12_init, tX12_init_0, ev_szI, ev_szL, ev_szR, ev_szN, ev_kdI, ev_kdL, ev_kdR, ev_kdN, ev_lnI, ev_lnL, ev_lnR, ev_lnN, ev_II, ev_IL, ev_IR, ev_IN, ev_LI, ev_LL, ev_LR, ev_LN, ev_RI, ev_RL, ev_RR, ev_RN, Nat.add_assoc, Nat.reduceAdd, Nat.add_left_cancel_iff, Nat.left_eq_add, Nat.add_eq_left, Nat.reduceEqDiff, reduceIte, if_true, if_false, Option.bind_some, ev_let]
    rw [ev_lim]; simp only [sX12_init, tX12_init_9, ev_szI, ev_szL, ev_szR, ev_szN, ev_kdI, ev_kdL, ev_kdR, ev_kdN, ev_lnI, ev_lnL, ev_lnR, ev_lnN, ev_II, ev_IL, ev_IR, ev_IN, ev_LI, ev_LL, ev_LR, ev_LN, ev_RI, ev_RL, ev_RR, ev_RN, Nat.add_assoc, Nat.reduceAdd, Nat.add_left_cancel_iff, Nat.left_eq_add, Nat.add_eq_left, Nat.reduceEqDiff, reduceIte, if_true, if_false, Option.bind_some, ev_let, pe_na ha, pe_na0 ha, hk]
    rw [ev_lim]; simp only [sX12_init, tX12_init_18, ev_szI, ev_szL, ev_szR, ev_szN, ev_kdI, ev_kdL, ev_kdR, ev_kdN, ev_lnI, ev_lnL, ev_lnR, ev_lnN, ev_II, ev_IL, ev_IR, ev_IN, ev_LI, ev_LL, ev_LR, ev_LN, ev_RI, ev_RL, ev_RR, ev_RN, Nat.add_assoc, Nat.reduceAdd, Nat.add_left_cancel_iff, Nat.left_eq_add, Nat.add_eq_left, Nat.reduceEqDiff, reduceIte, if_true, if_false, Option.bind_some, ev_let, pe_na ha, pe_na0 ha, hk]
    rw [ev_lim]; simp only [sX12_init, tX12_init_27, ev_szI, ev_szL, ev_szR, ev_szN, ev_kdI, ev_kdL, ev_kdR, ev_kdN, ev_lnI, ev_lnL, ev_lnR, ev_lnN, ev_II, ev_IL, ev_IR, ev_IN, ev_LI, ev_LL, ev_LR, ev_LN, ev_RI, ev_RL, ev_RR, ev_RN, Nat.add_assoc, Nat.reduceAdd, Nat.add_left_cancel_iff, Nat.left_eq_add, Nat.add_eq_left, Nat.reduceEqDiff, reduceIte, if_true, if_false, Option.bind_some, ev_let, pe_na ha, pe_na0 ha, hk]
    rw [ev_lim]; simp only [sX12_init, tX12_init_35, ev_szI, ev_szL, ev_szR, ev_szN, ev_kdI, ev_kdL, ev_kdR, ev_kdN, ev_lnI, ev_lnL, ev_lnR, ev_lnN, ev_II, ev_IL, ev_IR, ev_IN, ev_LI, ev_LL, ev_LR, ev_LN, ev_RI, ev_RL, ev_RR, ev_RN, Nat.add_assoc, Nat.reduceAdd, Nat.add_left_cancel_iff, Nat.left_eq_add, Nat.add_eq_left, Nat.reduceEqDiff, reduceIte, if_true, if_false, Option.bind_some, ev_let, pe_na ha, pe_na0 ha, hk]
    rw [ev_lim]; simp only [sX12_init, tX12_init_41, ev_szI, ev_szL, ev_szR, ev_szN, ev_kdI, ev_kdL, ev_kdR, ev_kdN, ev_lnI, ev_lnL, ev_lnR, ev_lnN, ev_II, ev_IL, ev_IR, ev_IN, ev_LI, ev_LL, ev_LR, ev_LN, ev_RI, ev_RL, ev_RR, ev_RN, Nat.add_assoc, Nat.reduceAdd, Nat.add_left_cancel_iff, Nat.left_eq_add, Nat.add_eq_left, Nat.reduceEqDiff, reduceIte, if_true, if_false, Option.bind_some, ev_let, pe_na ha, pe_na0 ha, hk]
  obtain ⟨c1, c2, c3, c4, ⟨w0, w3, w12, w14⟩, y0, y1, y2, y3, y4, y5⟩ := F
  -- Module
  obtain ⟨g, eg, sg, Kg, pg⟩ : ∃ h', fX7_init w (pm_sz h + 4) (pm_sz h + 5) = some h' ∧ pm_sz h' = pm_sz w + 12 ∧ pe_K w h' (pm_sz h + 4) ∧ pj_X7 h' (pm_sz h + 4) (pm_sz w) (pm_sz h + 5) := cX7 y4 (by omega)
  have Eg : ∀ x, x < pm_sz w → x ≠ pm_sz h + 4 → pe_E w g x := Kg.2.2.2
  have ga := Eg a (by omega) (by omega)
  have gm := Eg (pm_sz h + 1) (by omega) (by omega)
  have kga : pm_kd g a = 12 := ga.1.trans (c2.2.1.trans hk)
  have kg4 : pm_kd g (pm_sz h + 4) = 7 := Kg.2.1.trans y4.1
  have L1 := cX12_l (l := g) (a := a) (b := pm_sz h + 1) (p := pm_sz h + 4) (by omega) kga ((ga.2.2.2.2 3).trans w3) (gm.1.trans y1.1) (gm.2.1.trans y1.2.1) kg4
  have F1 := pe_fRE g (pm_sz h + 1) 16 (some (pm_sz h + 4))
  generalize pe_fR g (pm_sz h + 1) 16 (some (pm_sz h + 4)) = b at *
  obtain ⟨f1, f2, f3, f4, f5, f6, f7, f8⟩ := F1
  -- Reader
  have N1 := pe_new b 9 0 a (by omega)
  have sN1 : pm_sz (pm_new b 9 0) = pm_sz b + 1 := rfl
  obtain ⟨r, er, sr, Kr, pr⟩ : ∃ h', fX9_init (pm_new b 9 0) (pm_sz b) (pm_sz h + 4) = some h' ∧ pm_sz h' = pm_sz (pm_new b 9 0) + 2 ∧ pe_K (pm_new b 9 0) h' (pm_sz b) ∧ pj_X9 h' (pm_sz b) (pm_sz (pm_new b 9 0)) (pm_sz h + 4) := cX9 N1.2.1 (by omega)
  have BR : ∀ x, x < pm_sz b → pe_E b r x := fun x hx => pe_E_t (N1.2.2 x hx) (Kr.2.2.2 x (by omega) (by omega))
  have GR : ∀ x, x < pm_sz g → x ≠ pm_sz h + 1 → pe_E g r x := fun x hx e => pe_E_t (f4 x e) (BR x (by omega))
  have ra := GR a (by omega) (by omega)
  have kra : pm_kd r a = 12 := ra.1.trans kga
  have krr : pm_kd r (pm_sz b) = 9 := Kr.2.1.trans N1.2.1.1
  -- Checker
  have S2 := pe_sR r a 8 (some (pm_sz b))
  have sS2 : pm_sz (pm_setR r a 8 (some (pm_sz b))) = pm_sz r := rfl
  have N2 := pe_new (pm_setR r a 8 (some (pm_sz b))) 1 0 a (by omega)
  have sN2 : pm_sz (pm_new (pm_setR r a 8 (some (pm_sz b))) 1 0) = pm_sz r + 1 := rfl
  obtain ⟨k, ek, sk, Kk, pk⟩ : ∃ h', fX1_init (pm_new (pm_setR r a 8 (some (pm_sz b))) 1 0) (pm_sz r) (pm_sz b) (pm_sz h + 4) = some h' ∧ pm_sz h' = pm_sz (pm_new (pm_setR r a 8 (some (pm_sz b))) 1 0) + 159 ∧ pe_K (pm_new (pm_setR r a 8 (some (pm_sz b))) 1 0) h' (pm_sz r) ∧ pj_X1 h' (pm_sz r) (pm_sz (pm_new (pm_setR r a 8 (some (pm_sz b))) 1 0)) (pm_sz b) (pm_sz h + 4) := cX1 N2.2.1 (by omega)
  have SK : ∀ x, x < pm_sz r → pe_E (pm_setR r a 8 (some (pm_sz b))) k x := fun x hx => pe_E_t (N2.2.2 x hx) (Kk.2.2.2 x (by omega) (by omega))
  have RK : ∀ x, x < pm_sz r → x ≠ a → pe_E r k x := fun x hx e => pe_E_t (S2.2 x e) (SK x hx)
  have ka := SK a (by omega)
  have kka : pm_kd k a = 12 := ka.1.trans kra
  have kkk : pm_kd k (pm_sz r) = 1 := Kk.2.1.trans N2.2.1.1
  have Rk : ∀ y, pm_R k a y = if y = 8 then some (pm_sz b) else pm_R g a y := fun y => by rw [ka.2.2.2.2 y, ev_RR, if_pos rfl, ra.2.2.2.2 y]
  have n2r : pm_R (pm_new (pm_setR r a 8 (some (pm_sz b))) 1 0) a 8 = some (pm_sz b) := by rw [(N2.2.2 a (by omega)).2.2.2.2 8, ev_RR, if_pos rfl, if_pos rfl]
  have n2k : pm_kd (pm_new (pm_setR r a 8 (some (pm_sz b))) 1 0) a = 12 := (N2.2.2 a (by omega)).1.trans kra
  -- Store
  have S3 := pe_sR k a 9 (some (pm_sz r))
  have sS3 : pm_sz (pm_setR k a 9 (some (pm_sz r))) = pm_sz k := rfl
  have N3 := pe_new (pm_setR k a 9 (some (pm_sz r))) 10 0 a (by omega)
  have sN3 : pm_sz (pm_new (pm_setR k a 9 (some (pm_sz r))) 10 0) = pm_sz k + 1 := rfl
  have GN : ∀ x, x < pm_sz g → x ≠ pm_sz h + 1 → x ≠ a → pe_E g (pm_new (pm_setR k a 9 (some (pm_sz r))) 10 0) x := fun x hx e ea => pe_E_t (GR x hx e) (pe_E_t (RK x (by omega) ea) (pe_E_t (S3.2 x ea) (N3.2.2 x (by omega))))
  have pgN : pj_X7 (pm_new (pm_setR k a 9 (some (pm_sz r))) 10 0) (pm_sz h + 4) (pm_sz w) (pm_sz h + 5) := pj_X7_t pg (fun x hx => GN x (by omega) (by omega) (by omega))
  have k4N : pm_kd (pm_new (pm_setR k a 9 (some (pm_sz r))) 10 0) (pm_sz h + 4) = 7 := (GN (pm_sz h + 4) (by omega) (by omega) (by omega)).1.trans kg4
  obtain ⟨_, _, ⟨_, _, _, _, q4, q5, q6, q7, _, q9, q10, _, _⟩, _, _, _, q33, q34, q35, q36, _, q38, q39, _, _⟩ := pgN
  obtain ⟨t, et, st, Kt, pt⟩ : ∃ h', fX10_init (pm_new (pm_setR k a 9 (some (pm_sz r))) 10 0) (pm_sz k) (pm_sz b) (pm_sz h + 4) = some h' ∧ pm_sz h' = pm_sz (pm_new (pm_setR k a 9 (some (pm_sz r))) 10 0) + 193 ∧ pe_K (pm_new (pm_setR k a 9 (some (pm_sz r))) 10 0) h' (pm_sz k) ∧ pj_X10 h' (pm_sz k) (pm_sz (pm_new (pm_setR k a 9 (some (pm_sz r))) 10 0)) (pm_sz b) (pm_sz h + 4) := cX10 N3.2.1 (by omega) k4N (by omega) q4 q5 q6 q7 q9 q10 ⟨by omega, q33.1, q33.2.1⟩ ⟨by omega, q34.1, q34.2.1⟩ ⟨by omega, q35.1, q35.2.1⟩ ⟨by omega, q36.1, q36.2.1⟩ ⟨by omega, q38.1, q38.2.1⟩ ⟨by omega, q39.1, q39.2.1⟩
  have ST : ∀ x, x < pm_sz k → pe_E (pm_setR k a 9 (some (pm_sz r))) t x := fun x hx => pe_E_t (N3.2.2 x hx) (Kt.2.2.2 x (by omega) (by omega))
  have KT : ∀ x, x < pm_sz k → x ≠ a → pe_E k t x := fun x hx e => pe_E_t (S3.2 x e) (ST x hx)
  have ta := ST a (by omega)
  have kta : pm_kd t a = 12 := ta.1.trans kka
  have ktt : pm_kd t (pm_sz k) = 10 := Kt.2.1.trans N3.2.1.1
  have Rt : ∀ y, pm_R t a y = if y = 9 then some (pm_sz r) else pm_R k a y := fun y => by rw [ta.2.2.2.2 y, ev_RR, if_pos rfl]
  have n3r : pm_R (pm_new (pm_setR k a 9 (some (pm_sz r))) 10 0) a 8 = some (pm_sz b) := by rw [(N3.2.2 a (by omega)).2.2.2.2 8, ev_RR, if_pos rfl, if_neg (by decide), Rk 8]; rfl
  have n3k : pm_kd (pm_new (pm_setR k a 9 (some (pm_sz r))) 10 0) a = 12 := (N3.2.2 a (by omega)).1.trans kka
  -- Machine
  have S4 := pe_sR t a 10 (some (pm_sz k))
  have sS4 : pm_sz (pm_setR t a 10 (some (pm_sz k))) = pm_sz t := rfl
  have N4 := pe_new (pm_setR t a 10 (some (pm_sz k))) 5 0 a (by omega)
  have sN4 : pm_sz (pm_new (pm_setR t a 10 (some (pm_sz k))) 5 0) = pm_sz t + 1 := rfl
  have TN := pe_E_t (S4.2 (pm_sz k) (by omega)) (N4.2.2 (pm_sz k) (by omega))
  have n4r : pm_R (pm_new (pm_setR t a 10 (some (pm_sz k))) 5 0) a 10 = some (pm_sz k) := by rw [(N4.2.2 a (by omega)).2.2.2.2 10, ev_RR, if_pos rfl, if_pos rfl]
  have n4k : pm_kd (pm_new (pm_setR t a 10 (some (pm_sz k))) 5 0) a = 12 := (N4.2.2 a (by omega)).1.trans kta
  have r16 : pm_R t (pm_sz k) 16 = some (pm_sz k + 1 + 179) := by
    obtain ⟨_, _, ⟨_, _, _, _, _, _, _, _, _, _, _, e16, _, _⟩, _⟩ := pt
    exact e16
  obtain ⟨v, ev, sv, Kv, pv⟩ : ∃ h', fX5_init (pm_new (pm_setR t a 10 (some (pm_sz k))) 5 0) (pm_sz t) (pm_sz k) = some h' ∧ pm_sz h' = pm_sz (pm_new (pm_setR t a 10 (some (pm_sz k))) 5 0) + 215 ∧ pe_K (pm_new (pm_setR t a 10 (some (pm_sz k))) 5 0) h' (pm_sz t) ∧ pj_X5 h' (pm_sz t) (pm_sz (pm_new (pm_setR t a 10 (some (pm_sz k))) 5 0)) (pm_sz k) (pm_sz k + 1 + 179) := cX5 N4.2.1 (by omega) (TN.1.trans ktt) (by omega) ((TN.2.2.2.2 16).trans r16)
  have SV : ∀ x, x < pm_sz t → pe_E (pm_setR t a 10 (some (pm_sz k))) v x := fun x hx => pe_E_t (N4.2.2 x hx) (Kv.2.2.2 x (by omega) (by omega))
  have TV : ∀ x, x < pm_sz t → x ≠ a → pe_E t v x := fun x hx e => pe_E_t (S4.2 x e) (SV x hx)
  have va := SV a (by omega)
  have kva : pm_kd v a = 12 := va.1.trans kta
  have kvv : pm_kd v (pm_sz t) = 5 := Kv.2.1.trans N4.2.1.1
  have S5 := pe_sR v a 11 (some (pm_sz t))
  have T2 : pm_lim sX12_init (.inr (.inr (.inr (.inr (.inr (.inr (.inl ((a, pm_sz h + 5, pm_sz h + 4, pm_sz h + 4, w))))))))) = some (pm_setR v a 11 (some (pm_sz t))) := by
    rw [ev_lim]; simp only [sX12_init, tX12_init_45, eg, Option.bind_some]
    rw [ev_lim]; simp only [sX12_init, tX12_init_48, Option.bind_some]
    rw [L1, ← f1]
    rw [ev_lim]; simp only [sX12_init, tX12_init_77, er, Option.bind_some]
    rw [ev_lim]; simp only [sX12_init, tX12_init_82, kra, if_true, Option.bind_some, ev_szR]
    rw [ev_lim]; simp only [sX12_init, tX12_init_89, n2k, n2r, if_true, Option.bind_some, ek]
    rw [ev_lim]; simp only [sX12_init, tX12_init_98, kka, if_true, Option.bind_some, ev_szR]
    rw [ev_lim]; simp only [sX12_init, tX12_init_105, n3k, n3r, if_true, Option.bind_some, et]
    rw [ev_lim]; simp only [sX12_init, tX12_init_114, kta, if_true, Option.bind_some, ev_szR]
    rw [ev_lim]; simp only [sX12_init, tX12_init_121, n4k, n4r, if_true, Option.bind_some, ev]
    rw [ev_lim]; simp only [sX12_init, tX12_init_129, kva, if_true, Option.bind_some]
  generalize eh : pm_setR v a 11 (some (pm_sz t)) = h' at *
  have sh : pm_sz h' = pm_sz v := by rw [← eh]; rfl
  have VH : ∀ x, x ≠ a → pe_E v h' x := S5.2
  have TH : ∀ x, x < pm_sz t → x ≠ a → pe_E t h' x := fun x hx e => pe_E_t (TV x hx e) (VH x e)
  have KH : ∀ x, x < pm_sz k → x ≠ a → pe_E k h' x := fun x hx e => pe_E_t (KT x hx e) (TH x (by omega) e)
  have RH : ∀ x, x < pm_sz r → x ≠ a → pe_E r h' x := fun x hx e => pe_E_t (RK x hx e) (KH x (by omega) e)
  have BH : ∀ x, x < pm_sz b → x ≠ a → pe_E b h' x := fun x hx e => pe_E_t (BR x hx) (RH x (by omega) e)
  have GH : ∀ x, x < pm_sz g → x ≠ a → x ≠ pm_sz h + 1 → pe_E g h' x := fun x hx e e1 => pe_E_t (f4 x e1) (BH x (by omega) e)
  have WH : ∀ x, x < pm_sz w → x ≠ a → x ≠ pm_sz h + 1 → x ≠ pm_sz h + 4 → pe_E w h' x := fun x hx e e1 e4 => pe_E_t (Eg x hx e4) (GH x (by omega) e e1)
  have R' : ∀ y, pm_R h' a y = if y = 11 then some (pm_sz t) else if y = 10 then some (pm_sz k) else if y = 9 then some (pm_sz r) else if y = 8 then some (pm_sz b) else pm_R w a y := fun y => by
    rw [← eh, ev_RR, if_pos rfl, va.2.2.2.2 y, ev_RR, if_pos rfl, Rt y, Rk y, ga.2.2.2.2 y]
  have hm := BH (pm_sz h + 1) (by omega) (by omega)
  have e18 : pm_sz h + 18 = pm_sz b := by omega
  have e19 : pm_sz h + 19 = pm_sz (pm_new b 9 0) := by omega
  have e21 : pm_sz h + 21 = pm_sz r := by omega
  have e22 : pm_sz h + 22 = pm_sz (pm_new (pm_setR r a 8 (some (pm_sz b))) 1 0) := by omega
  have e181 : pm_sz h + 181 = pm_sz k := by omega
  have e182 : pm_sz h + 182 = pm_sz (pm_new (pm_setR k a 9 (some (pm_sz r))) 10 0) := by omega
  have e375 : pm_sz h + 375 = pm_sz t := by omega
  have e376 : pm_sz h + 376 = pm_sz (pm_new (pm_setR t a 10 (some (pm_sz k))) 5 0) := by omega
  have e361 : pm_sz h + 361 = pm_sz k + 1 + 179 := by omega
  have so : ∀ {x y : Nat} {o : Option Nat}, o = some x → x = y → o = some y := fun p e => e ▸ p
  refine ⟨h', by rw [T1, T2], by omega, ⟨by omega, ?_, ?_, fun x hx hxa => pe_E_t (c2.2.2.2 x hx hxa) (WH x (by omega) hxa (by omega) (by omega))⟩, ?_, fun y => ?_, fun y => ?_, ⟨?_, ?_, ?_, ?_, ?_, ?_, ?_, ?_⟩, pe_E_Z (WH _ (by omega) (by omega) (by omega) (by omega)) y0, ⟨?_, ?_, fun y hy => ?_⟩, pe_E_Z (WH _ (by omega) (by omega) (by omega) (by omega)) y2, pe_E_Z (WH _ (by omega) (by omega) (by omega) (by omega)) y3, pe_E_Z (WH _ (by omega) (by omega) (by omega) (by omega)) y5, ⟨?_, ?_⟩, ⟨?_, ?_⟩, ⟨?_, ?_⟩, ⟨?_, ?_⟩, ⟨?_, ?_⟩⟩
  · rw [← eh]; exact kva.trans hk.symm
  · rw [← eh]; exact va.2.1.trans (ta.2.1.trans (ka.2.1.trans (ra.2.1.trans (ga.2.1.trans c2.2.2.1))))
  · rw [← eh]; exact kva
  · rw [← eh]; exact (va.2.2.1 y).trans ((ta.2.2.1 y).trans ((ka.2.2.1 y).trans ((ra.2.2.1 y).trans ((ga.2.2.1 y).trans (c3 y)))))
  · rw [← eh]; exact (va.2.2.2.1 y).trans ((ta.2.2.2.1 y).trans ((ka.2.2.2.1 y).trans ((ra.2.2.2.1 y).trans ((ga.2.2.2.1 y).trans (c4 y)))))
  · rw [R' 0]; exact w0
  · rw [R' 3]; exact w3
  · rw [R' 8]; exact so rfl (by omega)
  · rw [R' 9]; exact so rfl (by omega)
  · rw [R' 10]; exact so rfl (by omega)
  · rw [R' 11]; exact so rfl (by omega)
  · rw [R' 12]; exact w12
  · rw [R' 14]; exact w14
  · rw [hm.1, f2]; exact gm.1.trans y1.1
  · rw [hm.2.1, f3]; exact gm.2.1.trans y1.2.1
  · rw [hm.2.2.2.2 y, f5 y, if_pos hy]
  · exact (GH (pm_sz h + 4) (by omega) (by omega) (by omega)).1.trans kg4
  · have := pj_X7_t pg (h' := h') (fun x hx => GH x (by omega) (by omega) (by omega))
    rw [c1] at this
    exact this
  · rw [e18]; exact (RH (pm_sz b) (by omega) (by omega)).1.trans krr
  · rw [e18, e19]; exact pj_X9_t pr (fun x hx => RH x (by omega) (by omega))
  · rw [e21]; exact (KH (pm_sz r) (by omega) (by omega)).1.trans kkk
  · rw [e21, e22, e18]; exact pj_X1_t pk (fun x hx => KH x (by omega) (by omega))
  · rw [e181]; exact (TH (pm_sz k) (by omega) (by omega)).1.trans ktt
  · rw [e181, e182, e18]; exact pj_X10_t pt (fun x hx => TH x (by omega) (by omega))
  · rw [e375]; exact (VH (pm_sz t) (by omega)).1.trans kvv
  · rw [e375, e376, e181, e361]; exact pj_X5_t pv (fun x hx => VH x (by omega))
