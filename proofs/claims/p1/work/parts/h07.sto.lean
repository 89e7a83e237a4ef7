/-! CONSTRUCTORS, seventh: Store -/
theorem pe_fRE (l : pm_H) (b n : Nat) (v : Option Nat) : pm_sz (pe_fR l b n v) = pm_sz l ∧ (∀ x, pm_kd (pe_fR l b n v) x = pm_kd l x) ∧ (∀ x, pm_ln (pe_fR l b n v) x = pm_ln l x) ∧ (∀ x, x ≠ b → pe_E l (pe_fR l b n v) x) ∧ (∀ y, pm_R (pe_fR l b n v) b y = if y < n then v else pm_R l b y) ∧ (∀ x y, pm_I (pe_fR l b n v) x y = pm_I l x y) ∧ (∀ x y, pm_L (pe_fR l b n v) x y = pm_L l x y) ∧ (∀ x y, x ≠ b → pm_R (pe_fR l b n v) x y = pm_R l x y) := by
  refine ⟨rfl, fun _ => rfl, fun _ => rfl, fun x hx => ⟨rfl, rfl, fun _ => rfl, fun _ => rfl, fun y => ?_⟩, fun y => ?_, fun _ _ => rfl, fun _ _ => rfl, fun x y hx => ?_⟩
  · show (if x = b then _ else pm_R l x y) = _
    rw [if_neg hx]
  · show (if b = b then (if y < n then v else pm_R l b y) else pm_R l b y) = _
    rw [if_pos rfl]
  · show (if x = b then _ else pm_R l x y) = _
    rw [if_neg hx]
theorem cX10_l1 {l : pm_H} {a b p : Nat} (nab : a ≠ b) (ka : pm_kd l a = 10) (ra : pm_R l a 10 = some b) (kb : pm_kd l b = 38) (lb : pm_ln l b = 512) (kp : pm_kd l p = 0) : pm_lim sX10_init (.inr (.inr (.inr (.inr (.inr (.inr (.inr (.inr (.inr (.inr (.inr (.inr (.inr (.inr (.inr (.inr (.inr (.inr (.inr (.inr (.inl ((a, p, 0, l))))))))))))))))))))))) = pm_lim sX10_init (.inr (.inr (.inr (.inr (.inr (.inr (.inr (.inr (.inr (.inr (.inr (.inr (.inr (.inr (.inr (.inr (.inr (.inr (.inr (.inr (.inr (.inl ((a, 0, pe_fR l b 512 (some p))))))))))))))))))))))))) := by
  have F := fun i => pe_fRE l b i (some p)
  refine Eq.trans (by rw [pe_fR0]; rfl) ((ev_iter (s := sX10_init) (fun i => (.inr (.inr (.inr (.inr (.inr (.inr (.inr (.inr (.inr (.inr (.inr (.inr (.inr (.inr (.inr (.inr (.inr (.inr (.inr (.inr (.inl ((a, p, Int32.ofNat i, pe_fR l b i (some p))))))))))))))))))))))))) 512 ?_).trans ?_)
  · intro i hi
    rw [ev_lim]
    simp only [sX10_init, tX10_init_159, (F i).2.1, (F i).2.2.1, (F i).2.2.2.2.2.2.2 a _ nab, ka, ra, kb, lb, kp, if_true, Option.bind_some, if_neg (pe_lt (by decide) hi), if_pos (pe_in (by decide) hi), pe_cl (n := 512) (by decide) hi, ev_let, pe_s, pe_fRs]
  · rw [ev_lim]
    simp only [sX10_init, tX10_init_159, (F 512).2.1, (F 512).2.2.1, (F 512).2.2.2.2.2.2.2 a _ nab, ka, ra, kb, lb, if_true, Option.bind_some, if_pos (pe_ge (n := 512))]
theorem cX10_l2 {l : pm_H} {a b p : Nat} (nab : a ≠ b) (ka : pm_kd l a = 10) (ra : pm_R l a 11 = some b) (rp : pm_R l a 16 = some p) (kb : pm_kd l b = 40) (lb : pm_ln l b = 512) (kp : pm_kd l p = 4) : pm_lim sX10_init (.inr (.inr (.inr (.inr (.inr (.inr (.inr (.inr (.inr (.inr (.inr (.inr (.inr (.inr (.inr (.inr (.inr (.inr (.inr (.inr (.inr (.inl ((a, 0, l)))))))))))))))))))))))) = pm_lim sX10_init (.inr (.inr (.inr (.inr (.inr (.inr (.inr (.inr (.inr (.inr (.inr (.inr (.inr (.inr (.inr (.inr (.inr (.inr (.inr (.inr (.inr (.inr ((a, 0, pe_fR l b 512 (some p))))))))))))))))))))))))) := by
  have F := fun i => pe_fRE l b i (some p)
  refine Eq.trans (by rw [pe_fR0]; rfl) ((ev_iter (s := sX10_init) (fun i => (.inr (.inr (.inr (.inr (.inr (.inr (.inr (.inr (.inr (.inr (.inr (.inr (.inr (.inr (.inr (.inr (.inr (.inr (.inr (.inr (.inr (.inl ((a, Int32.ofNat i, pe_fR l b i (some p)))))))))))))))))))))))))) 512 ?_).trans ?_)
  · intro i hi
    rw [ev_lim]
    simp only [sX10_init, tX10_init_186, (F i).2.1, (F i).2.2.1, (F i).2.2.2.2.2.2.2 a _ nab, ka, ra, rp, kb, lb, kp, if_true, Option.bind_some, if_neg (pe_lt (by decide) hi), if_pos (pe_in (by decide) hi), pe_cl (n := 512) (by decide) hi, ev_let, pe_s, pe_fRs]
  · rw [ev_lim]
    simp only [sX10_init, tX10_init_186, (F 512).2.1, (F 512).2.2.1, (F 512).2.2.2.2.2.2.2 a _ nab, ka, ra, kb, lb, if_true, Option.bind_some, if_pos (pe_ge (n := 512))]
theorem cX10_l3 {l : pm_H} {a b p : Nat} (nab : a ≠ b) (ka : pm_kd l a = 10) (ra : pm_R l a 15 = some b) (rp : pm_R l a 16 = some p) (kb : pm_kd l b = 40) (lb : pm_ln l b = 16) (kp : pm_kd l p = 4) : pm_lim sX10_init (.inr (.inr (.inr (.inr (.inr (.inr (.inr (.inr (.inr (.inr (.inr (.inr (.inr (.inr (.inr (.inr (.inr (.inr (.inr (.inr (.inr (.inr ((a, 0, l)))))))))))))))))))))))) = some (pe_fR l b 16 (some p)) := by
  have F := fun i => pe_fRE l b i (some p)
  refine Eq.trans (by rw [pe_fR0]; rfl) ((ev_iter (s := sX10_init) (fun i => (.inr (.inr (.inr (.inr (.inr (.inr (.inr (.inr (.inr (.inr (.inr (.inr (.inr (.inr (.inr (.inr (.inr (.inr (.inr (.inr (.inr (.inr ((a, Int32.ofNat i, pe_fR l b i (some p)))))))))))))))))))))))))) 16 ?_).trans ?_)
  · intro i hi
    rw [ev_lim]
    simp only [sX10_init, tX10_init_216, (F i).2.1, (F i).2.2.1, (F i).2.2.2.2.2.2.2 a _ nab, ka, ra, rp, kb, lb, kp, if_true, Option.bind_some, if_neg (pe_lt (by decide) hi), if_pos (pe_in (by decide) hi), pe_cl (n := 16) (by decide) hi, ev_let, pe_s, pe_fRs]
  · rw [ev_lim]
    simp only [sX10_init, tX10_init_216, (F 16).2.1, (F 16).2.2.1, (F 16).2.2.2.2.2.2.2 a _ nab, ka, ra, kb, lb, if_true, Option.bind_some, if_pos (pe_ge (n := 16))]
set_option maxHeartbeats 4000000 in
/-- the Store -/
theorem cX10 {h : pm_H} {a r n f t m g e d : Nat} (hz : pe_Z h a 10 0) (ha : a < pm_sz h) (hn : pm_kd h n = 7) (hns : n < pm_sz h) (Rf : pm_R h n 4 = some f) (Rt : pm_R h n 5 = some t) (Rm : pm_R h n 6 = some m) (Rg : pm_R h n 7 = some g) (Re : pm_R h n 9 = some e) (Rd : pm_R h n 10 = some d) (hf : f < pm_sz h ∧ pm_kd h f = 35 ∧ pm_ln h f = 0) (ht : t < pm_sz h ∧ pm_kd h t = 35 ∧ pm_ln h t = 0) (hm : m < pm_sz h ∧ pm_kd h m = 35 ∧ pm_ln h m = 0) (hg : g < pm_sz h ∧ pm_kd h g = 35 ∧ pm_ln h g = 0) (he : e < pm_sz h ∧ pm_kd h e = 34 ∧ pm_ln h e = 0) (hd : d < pm_sz h ∧ pm_kd h d = 34 ∧ pm_ln h d = 0) : ∃ h', fX10_init h a r n = some h' ∧ pm_sz h' = pm_sz h + 193 ∧ pe_K h h' a ∧ (∀ y, pm_I h' a y = if y = 17 then 2048 else 0) ∧ (∀ y, pm_L h' a y = 0) ∧ (pm_R h' a 4 = some (pm_sz h) ∧ pm_R h' a 5 = some (pm_sz h + 37) ∧ pm_R h' a 6 = some (pm_sz h + 169) ∧ pm_R h' a 7 = some (pm_sz h + 170) ∧ pm_R h' a 8 = some (pm_sz h + 171) ∧ pm_R h' a 10 = some (pm_sz h + 172) ∧ pm_R h' a 11 = some (pm_sz h + 173) ∧ pm_R h' a 12 = some (pm_sz h + 174) ∧ pm_R h' a 13 = some (pm_sz h + 175) ∧ pm_R h' a 14 = some (pm_sz h + 176) ∧ pm_R h' a 15 = some (pm_sz h + 177) ∧ pm_R h' a 16 = some (pm_sz h + 179) ∧ pm_R h' a 18 = some r ∧ pm_R h' a 19 = some (pm_sz h + 178)) ∧ (pm_kd h' (pm_sz h) = 11 ∧ (∀ y, pm_I h' (pm_sz h) y = if y = 1 then 1024 else 0) ∧ pm_R h' (pm_sz h) 2 = some (pm_sz h + 1) ∧ pm_R h' (pm_sz h) 3 = some (pm_sz h + 2) ∧ pm_R h' (pm_sz h) 4 = some (pm_sz h + 3) ∧ pm_R h' (pm_sz h) 5 = some (pm_sz h + 4)) ∧ (pe_Z h' (pm_sz h + 1) 34 32 ∧ pe_Z h' (pm_sz h + 2) 34 32 ∧ pe_Z h' (pm_sz h + 3) 35 32 ∧ pm_kd h' (pm_sz h + 4) = 36 ∧ pm_ln h' (pm_sz h + 4) = 32 ∧ (∀ y, y < 32 → pm_R h' (pm_sz h + 4) y = some (pm_sz h + 5 + y)) ∧ (∀ i, i < 32 → pe_Z h' (pm_sz h + 5 + i) 34 0)) ∧ (pm_kd h' (pm_sz h + 37) = 6 ∧ (∀ y, pm_I h' (pm_sz h + 37) y = if y = 1 then 8 else 0) ∧ pm_R h' (pm_sz h + 37) 2 = some (pm_sz h + 38) ∧ pm_R h' (pm_sz h + 37) 3 = some (pm_sz h + 39) ∧ pm_R h' (pm_sz h + 37) 4 = some (pm_sz h + 40)) ∧ (pe_Z h' (pm_sz h + 38) 34 16 ∧ pe_Z h' (pm_sz h + 39) 35 16 ∧ pm_kd h' (pm_sz h + 40) = 37 ∧ pm_ln h' (pm_sz h + 40) = 128 ∧ (∀ y, y < 128 → pm_R h' (pm_sz h + 40) y = some (pm_sz h + 41 + y)) ∧ (∀ i, i < 128 → pe_Z h' (pm_sz h + 41 + i) 33 0)) ∧ (pe_Z h' (pm_sz h + 169) 34 256 ∧ pe_Z h' (pm_sz h + 170) 35 256 ∧ pe_Z h' (pm_sz h + 171) 32 256 ∧ pe_Z h' (pm_sz h + 174) 34 512 ∧ pe_Z h' (pm_sz h + 175) 34 512 ∧ pe_Z h' (pm_sz h + 176) 32 512 ∧ pe_Z h' (pm_sz h + 178) 8 0) ∧ (pm_kd h' (pm_sz h + 172) = 38 ∧ pm_ln h' (pm_sz h + 172) = 512 ∧ ∀ y, y < 512 → pm_R h' (pm_sz h + 172) y = some (pm_sz h + 187)) ∧ (pm_kd h' (pm_sz h + 173) = 40 ∧ pm_ln h' (pm_sz h + 173) = 512 ∧ ∀ y, y < 512 → pm_R h' (pm_sz h + 173) y = some (pm_sz h + 179)) ∧ (pm_kd h' (pm_sz h + 177) = 40 ∧ pm_ln h' (pm_sz h + 177) = 16 ∧ ∀ y, y < 16 → pm_R h' (pm_sz h + 177) y = some (pm_sz h + 179)) ∧ (pm_kd h' (pm_sz h + 179) = 4 ∧ pm_R h' (pm_sz h + 179) 0 = some n ∧ pm_R h' (pm_sz h + 179) 1 = some (pm_sz h + 180) ∧ pm_R h' (pm_sz h + 179) 2 = some (pm_sz h + 181) ∧ pm_R h' (pm_sz h + 179) 3 = some (pm_sz h + 182) ∧ pm_R h' (pm_sz h + 179) 4 = some (pm_sz h + 183) ∧ pm_R h' (pm_sz h + 179) 5 = some (pm_sz h + 184) ∧ pm_R h' (pm_sz h + 179) 6 = some (pm_sz h + 185) ∧ pm_R h' (pm_sz h + 179) 7 = some (pm_sz h + 186)) ∧ (pe_Z h' (pm_sz h + 180) 34 0 ∧ pe_Z h' (pm_sz h + 181) 34 0 ∧ pe_Z h' (pm_sz h + 182) 34 0 ∧ pe_Z h' (pm_sz h + 183) 34 0 ∧ (pm_kd h' (pm_sz h + 184) = 36 ∧ pm_ln h' (pm_sz h + 184) = 0) ∧ pe_Z h' (pm_sz h + 185) 34 0 ∧ pe_Z h' (pm_sz h + 186) 34 0) ∧ (pm_kd h' (pm_sz h + 187) = 0 ∧ (∀ y, pm_I h' (pm_sz h + 187) y = 0) ∧ pm_R h' (pm_sz h + 187) 0 = some (pm_sz h + 188) ∧ pm_R h' (pm_sz h + 187) 1 = some (pm_sz h + 192) ∧ pm_R h' (pm_sz h + 187) 5 = some (pm_sz h + 189) ∧ pm_R h' (pm_sz h + 187) 7 = some (pm_sz h + 190) ∧ pm_R h' (pm_sz h + 187) 8 = some (pm_sz h + 191)) ∧ (pe_Z h' (pm_sz h + 188) 34 2 ∧ pe_Z h' (pm_sz h + 189) 34 0 ∧ pe_Z h' (pm_sz h + 190) 34 0 ∧ pe_Z h' (pm_sz h + 191) 35 0 ∧ pe_Z h' (pm_sz h + 192) 34 0) := by
  have hk := hz.1
  have nna := of_eq_false (pe_ne hn hk (by decide))
  have nfa := of_eq_false (pe_ne hf.2.1 hk (by decide))
  have nta := of_eq_false (pe_ne ht.2.1 hk (by decide))
  have nma := of_eq_false (pe_ne hm.2.1 hk (by decide))
  have nga := of_eq_false (pe_ne hg.2.1 hk (by decide))
  have nea := of_eq_false (pe_ne he.2.1 hk (by decide))
  have nda := of_eq_false (pe_ne hd.2.1 hk (by decide))
  -- Tables
  have A0 := pe_new h 11 0 a ha
  have sA : pm_sz (pm_new h 11 0) = pm_sz h + 1 := rfl
  obtain ⟨h1, eh1, a1, a2, a3, a4, ⟨a52, a53, a54, a55⟩, a6, a7, a8, a9, a10, a11, a12⟩ := cX11 A0.2.1 (by omega)
  have E1 : ∀ x, x < pm_sz h → pe_E h h1 x := fun x hx => pe_E_t (A0.2.2 x hx) (a2.2.2.2 x (by omega) (by omega))
  have z1 : pe_Z h1 a 10 0 := pe_E_Z (E1 a ha) hz
  have s1 : pm_sz h1 = pm_sz h + 37 := by omega
  have ha1 : a < pm_sz h1 := by omega
  -- Memories
  have B0 := pe_new (pm_setR h1 a 4 (some (pm_sz h))) 6 0 a ha1
  have sB : pm_sz (pm_setR h1 a 4 (some (pm_sz h))) = pm_sz h1 := rfl
  have sB2 : pm_sz (pm_new (pm_setR h1 a 4 (some (pm_sz h))) 6 0) = pm_sz h1 + 1 := rfl
  have B1 := pe_sR h1 a 4 (some (pm_sz h))
  obtain ⟨h2, eh2, b1, b2, b3, b4, ⟨b52, b53, b54⟩, b6, b7, b8, b9, b10, b11⟩ := cX6 B0.2.1 (by omega)
  have eh2' : fX6_init (pm_new (pm_setR h1 a 4 (some (pm_sz h))) 6 0) (pm_sz h1) = some h2 := eh2
  have E2 : ∀ x, x < pm_sz h1 → x ≠ a → pe_E h1 h2 x := fun x hx hxa => pe_E_t (B1.2 x hxa) (pe_E_t (B0.2.2 x hx) (b2.2.2.2 x (by omega) (by omega)))
  have E2a : pe_E (pm_setR h1 a 4 (some (pm_sz h))) h2 a := pe_E_t (B0.2.2 a ha1) (b2.2.2.2 a (by omega) (by omega))
  have s2 : pm_sz h2 = pm_sz h + 169 := by omega
  have ha2 : a < pm_sz h2 := by omega
  have k2 : pm_kd h2 a = 10 := E2a.1.trans z1.1
  have R2 : ∀ y, pm_R h2 a y = if y = 4 then some (pm_sz h) else none := fun y => by rw [E2a.2.2.2.2 y, ev_RR, if_pos rfl, z1.2.2.2.2 y]
  have I2 : ∀ y, pm_I h2 a y = 0 := fun y => (E2a.2.2.1 y).trans (z1.2.2.1 y)
  have L2 : ∀ y, pm_L h2 a y = 0 := fun y => (E2a.2.2.2.1 y).trans (z1.2.2.2.1 y)
  have l2 : pm_ln h2 a = pm_ln h a := by rw [E2a.2.1]; exact (E1 a ha).2.1
  -- rows
  obtain ⟨w, ew⟩ : ∃ w, w = pm_new (pm_setR (pm_setR (pm_new (pm_setI (pm_setR (pm_new (pm_setR (pm_new (pm_setR (pm_new (pm_setR (pm_new (pm_setR (pm_new (pm_setR (pm_new (pm_setR (pm_new (pm_setR (pm_new (pm_setR (pm_new (pm_setR h2 a 5 (some (pm_sz h1))) 34 256) a 6 (some (pm_sz h2))) 35 256) a 7 (some (pm_sz h2 + 1))) 32 256) a 8 (some (pm_sz h2 + 2))) 38 512) a 10 (some (pm_sz h2 + 3))) 40 512) a 11 (some (pm_sz h2 + 4))) 34 512) a 12 (some (pm_sz h2 + 5))) 34 512) a 13 (some (pm_sz h2 + 6))) 32 512) a 14 (some (pm_sz h2 + 7))) 40 16) a 15 (some (pm_sz h2 + 8))) a 17 2048) 8 0) a 19 (some (pm_sz h2 + 9))) a 18 (some r)) 4 0 := ⟨_, rfl⟩
  have F : pm_sz w = pm_sz h2 + 11 ∧ pe_K h2 w a ∧ (∀ y, pm_I w a y = if y = 17 then 2048 else 0) ∧ (∀ y, pm_L w a y = 0) ∧ (pm_R w a 4 = some (pm_sz h) ∧ pm_R w a 5 = some (pm_sz h1) ∧ pm_R w a 6 = some (pm_sz h2) ∧ pm_R w a 7 = some (pm_sz h2 + 1) ∧ pm_R w a 8 = some (pm_sz h2 + 2) ∧ pm_R w a 10 = some (pm_sz h2 + 3) ∧ pm_R w a 11 = some (pm_sz h2 + 4) ∧ pm_R w a 12 = some (pm_sz h2 + 5) ∧ pm_R w a 13 = some (pm_sz h2 + 6) ∧ pm_R w a 14 = some (pm_sz h2 + 7) ∧ pm_R w a 15 = some (pm_sz h2 + 8) ∧ pm_R w a 19 = some (pm_sz h2 + 9) ∧ pm_R w a 18 = some r) ∧ pe_Z w (pm_sz h2) 34 256 ∧ pe_Z w (pm_sz h2 + 1) 35 256 ∧ pe_Z w (pm_sz h2 + 2) 32 256 ∧ pe_Z w (pm_sz h2 + 3) 38 512 ∧ pe_Z w (pm_sz h2 + 4) 40 512 ∧ pe_Z w (pm_sz h2 + 5) 34 512 ∧ pe_Z w (pm_sz h2 + 6) 34 512 ∧ pe_Z w (pm_sz h2 + 7) 32 512 ∧ pe_Z w (pm_sz h2 + 8) 40 16 ∧ pe_Z w (pm_sz h2 + 9) 8 0 ∧ pe_Z w (pm_sz h2 + 10) 4 0 := by
    rw [ew]
    refine ⟨?_, ⟨?_, ?_, ?_, fun x hx hxa => ⟨?_, ?_, fun y => ?_, fun y => ?_, fun y => ?_⟩⟩, fun y => ?_, fun y => ?_, ⟨?_, ?_, ?_, ?_, ?_, ?_, ?_, ?_, ?_, ?_, ?_, ?_, ?_⟩, ⟨?_, ?_, fun y => ?_, fun y => ?_, fun y => ?_⟩, ⟨?_, ?_, fun y => ?_, fun y => ?_, fun y => ?_⟩, ⟨?_, ?_, fun y => ?_, fun y => ?_, fun y => ?_⟩, ⟨?_, ?_, fun y => ?_, fun y => ?_, fun y => ?_⟩, ⟨?_, ?_, fun y => ?_, fun y => ?_, fun y => ?_⟩, ⟨?_, ?_, fun y => ?_, fun y => ?_, fun y => ?_⟩, ⟨?_, ?_, fun y => ?_, fun y => ?_, fun y => ?_⟩, ⟨?_, ?_, fun y => ?_, fun y => ?_, fun y => ?_⟩, ⟨?_, ?_, fun y => ?_, fun y => ?_, fun y => ?_⟩, ⟨?_, ?_, fun y => ?_, fun y => ?_, fun y => ?_⟩, ⟨?_, ?_, fun y => ?_, fun y => ?_, fun y => ?_⟩⟩
    all_goals first
      | (simp only [ev_szI, ev_szL, ev_szR, ev_szN, ev_kdI, ev_kdL, ev_kdR, ev_kdN, ev_lnI, ev_lnL, ev_lnR, ev_lnN, ev_II, ev_IL, ev_IR, ev_IN, ev_LI, ev_LL, ev_LR, ev_LN, ev_RI, ev_RL, ev_RR, ev_RN, Nat.add_assoc, Nat.reduceAdd, Nat.add_left_cancel_iff, Nat.left_eq_add, Nat.add_eq_left, Nat.reduceEqDiff, reduceIte, if_true, if_false, Option.bind_some, ev_let, pe_na ha2, pe_na0 ha2, pe_nb ha2, pe_nb0 ha2, k2, R2, I2, L2]; done)
      | (simp only [ev_szI, ev_szL, ev_szR, ev_szN, ev_kdI, ev_kdL, ev_kdR, ev_kdN, ev_lnI, ev_lnL, ev_lnR, ev_lnN, ev_II, ev_IL, ev_IR, ev_IN, ev_LI, ev_LL, ev_LR, ev_LN, ev_RI, ev_RL, ev_RR, ev_RN, Nat.add_assoc, Nat.reduceAdd, Nat.add_left_cancel_iff, Nat.left_eq_add, Nat.add_eq_left, Nat.reduceEqDiff, reduceIte, if_true, if_false, Option.bind_some, ev_let, pe_na ha2, pe_na0 ha2, pe_nb ha2, pe_nb0 ha2, pe_na hx, pe_na0 hx, eq_false hxa]; done)
      | (simp only [ev_szI, ev_szL, ev_szR, ev_szN, ev_kdI, ev_kdL, ev_kdR, ev_kdN, ev_lnI, ev_lnL, ev_lnR, ev_lnN, ev_II, ev_IL, ev_IR, ev_IN, ev_LI, ev_LL, ev_LR, ev_LN, ev_RI, ev_RL, ev_RR, ev_RN, Nat.add_assoc, Nat.reduceAdd, Nat.add_left_cancel_iff, Nat.left_eq_add, Nat.add_eq_left, Nat.reduceEqDiff, reduceIte, if_true, if_false, Option.bind_some, ev_let]; omega)
  have T1 : fX10_init h a r n = pm_lim sX10_init (.inr (.inr (.inr (.inr (.inr (.inr (.inr (.inr (.inr (.inr (.inr (.inr (.inr (.inr (.inr (.inl ((a, n, pm_sz h2 + 10, a, w)))))))))))))))))) := by
    rw [ew]
    unfold fX10_init
    rw [ev_lim]; simp only [sX10_init, tX10_init_0, Option.bind_some]
    rw [ev_lim]; simp only [sX10_init, tX10_init_8, eh1, Option.bind_some]
    rw [ev_lim]; simp only [sX10_init, tX10_init_12, z1.1, if_true, Option.bind_some]
    rw [ev_lim]; simp only [sX10_init, tX10_init_19, ev_szR, eh2', Option.bind_some]
    rw [ev_lim]; simp only [sX10_init, tX10_init_23, k2, ev_szI, ev_szL, ev_szR, ev_szN, ev_kdI, ev_kdL, ev_kdR, ev_kdN, ev_lnI, ev_lnL, ev_lnR, ev_lnN, ev_II, ev_IL, ev_IR, ev_IN, ev_LI, ev_LL, ev_LR, ev_LN, ev_RI, ev_RL, ev_RR, ev_RN, Nat.add_assoc, Nat.reduceAdd, Nat.add_left_cancel_iff, Nat.left_eq_add, Nat.add_eq_left, Nat.reduceEqDiff, reduceIte, if_true, if_false, Option.bind_some, ev_let, pe_na ha2, pe_na0 ha2]
    rw [ev_lim]; simp only [sX10_init, tX10_init_32, k2, ev_szI, ev_szL, ev_szR, ev_szN, ev_kdI, ev_kdL, ev_kdR, ev_kdN, ev_lnI, ev_lnL, ev_lnR, ev_lnN, ev_II, ev_IL, ev_IR, ev_IN, ev_LI, ev_LL, ev_LR, ev_LN, ev_RI, ev_RL, ev_RR, ev_RN, Nat.add_assoc, Nat.reduceAdd, Nat.add_left_cancel_iff, Nat.left_eq_add, Nat.add_eq_left, Nat.reduceEqDiff, reduceIte, if_true, if_false, Option.bind_some, ev_let, pe_na ha2, pe_na0 ha2]
    rw [ev_lim]; simp only [sX10_init, tX10_init_41, k2, ev_szI, ev_szL, ev_szR, ev_szN, ev_kdI, ev_kdL, ev_kdR, ev_kdN, ev_lnI, ev_lnL, ev_lnR, ev_lnN, ev_II, ev_IL, ev_IR, ev_IN, ev_LI, ev_LL, ev_LR, ev_LN, ev_RI, ev_RL, ev_RR, ev_RN, Nat.add_assoc, Nat.reduceAdd, Nat.add_left_cancel_iff, Nat.left_eq_add, Nat.add_eq_left, Nat.reduceEqDiff, reduceIte, if_true, if_false, Option.bind_some, ev_let, pe_na ha2, pe_na0 ha2]
    rw [ev_lim]; simp only [sX10_init, tX10_init_50, k2, ev_szI, ev_szL, ev_szR, ev_szN, ev_kdI, ev_kdL, ev_kdR, ev_kdN, ev_lnI, ev_lnL, ev_lnR, ev_lnN, ev_II, ev_IL, ev_IR, ev_IN, ev_LI, ev_LL, ev_LR, ev_LN, ev_RI, ev_RL, ev_RR, ev_RN, Nat.add_assoc, Nat.reduceAdd, Nat.add_left_cancel_iff, Nat.left_eq_add, Nat.add_eq_left, Nat.reduceEqDiff, reduceIte, if_true, if_false, Option.bind_some, ev_let, pe_na ha2, pe_na0 ha2]
    rw [ev_lim]; simp only [sX10_init, tX10_init_60, k2, ev_szI, ev_szL, ev_szR, ev_szN, ev_kdI, ev_kdL, ev_kdR, ev_kdN, ev_lnI, ev_lnL, ev_lnR, ev_lnN, ev_II, ev_IL, ev_IR, ev_IN, ev_LI, ev_LL, ev_LR, ev_LN, ev_RI, ev_RL, ev_RR, ev_RN, Nat.add_assoc, Nat.reduceAdd, Nat.add_left_cancel_iff, Nat.left_eq_add, Nat.add_eq_left, Nat.reduceEqDiff, reduceIte, if_true, if_false, Option.bind_some, ev_let, pe_na ha2, pe_na0 ha2]
    rw [ev_lim]; simp only [sX10_init, tX10_init_70, k2, ev_szI, ev_szL, ev_szR, ev_szN, ev_kdI, ev_kdL, ev_kdR, ev_kdN, ev_lnI, ev_lnL, ev_lnR, ev_lnN, ev_II, ev_IL, ev_IR, ev_IN, ev_LI, ev_LL, ev_LR, ev_LN, ev_RI, ev_RL, ev_RR, ev_RN, Nat.add_assoc, Nat.reduceAdd, Nat.add_left_cancel_iff, Nat.left_eq_add, Nat.add_eq_left, Nat.reduceEqDiff, reduceIte, if_true, if_false, Option.bind_some, ev_let, pe_na ha2, pe_na0 ha2]
    rw [ev_lim]; simp only [sX10_init, tX10_init_79, k2, ev_szI, ev_szL, ev_szR, ev_szN, ev_kdI, ev_kdL, ev_kdR, ev_kdN, ev_lnI, ev_lnL, ev_lnR, ev_lnN, ev_II, ev_IL, ev_IR, ev_IN, ev_LI, ev_LL, ev_LR, ev_LN, ev_RI, ev_RL, ev_RR, ev_RN, Nat.add_assoc, Nat.reduceAdd, Nat.add_left_cancel_iff, Nat.left_eq_add, Nat.add_eq_left, Nat.reduceEqDiff, reduceIte, if_true, if_false, Option.bind_some, ev_let, pe_na ha2, pe_na0 ha2]
    rw [ev_lim]; simp only [sX10_init, tX10_init_88, k2, ev_szI, ev_szL, ev_szR, ev_szN, ev_kdI, ev_kdL, ev_kdR, ev_kdN, ev_lnI, ev_lnL, ev_lnR, ev_lnN, ev_II, ev_IL, ev_IR, ev_IN, ev_LI, ev_LL, ev_LR, ev_LN, ev_RI, ev_RL, ev_RR, ev_RN, Nat.add_assoc, Nat.reduceAdd, Nat.add_left_cancel_iff, Nat.left_eq_add, Nat.add_eq_left, Nat.reduceEqDiff, reduceIte, if_true, if_false, Option.bind_some, ev_let, pe_na ha2, pe_na0 ha2]
    rw [ev_lim]; simp only [sX10_init, tX10_init_97, k2, ev_szI, ev_szL, ev_szR, ev_szN, ev_kdI, ev_kdL, ev_kdR, ev_kdN, ev_lnI, ev_lnL, ev_lnR, ev_lnN, ev_II, ev_IL, ev_IR, ev_IN, ev_LI, ev_LL, ev_LR, ev_LN, ev_RI, ev_RL, ev_RR, ev_RN, Nat.add_assoc, Nat.reduceAdd, Nat.add_left_cancel_iff, Nat.left_eq_add, Nat.add_eq_left, Nat.reduceEqDiff, reduceIte, if_true, if_false, Option.bind_some, ev_let, pe_na ha2, pe_na0 ha2]
    rw [ev_lim]; simp only [sX10_init, tX10_init_106, k2, ev_szI, ev_szL, ev_szR, ev_szN, ev_kdI, ev_kdL, ev_kdR, ev_kdN, ev_lnI, ev_lnL, ev_lnR, ev_lnN, ev_II, ev_IL, ev_IR, ev_IN, ev_LI, ev_LL, ev_LR, ev_LN, ev_RI, ev_RL, ev_RR, ev_RN, Nat.add_assoc, Nat.reduceAdd, Nat.add_left_cancel_iff, Nat.left_eq_add, Nat.add_eq_left, Nat.reduceEqDiff, reduceIte, if_true, if_false, Option.bind_some, ev_let, pe_na ha2, pe_na0 ha2]
    rw [ev_lim]; simp only [sX10_init, tX10_init_120, k2, ev_szI, ev_szL, ev_szR, ev_szN, ev_kdI, ev_kdL, ev_kdR, ev_kdN, ev_lnI, ev_lnL, ev_lnR, ev_lnN, ev_II, ev_IL, ev_IR, ev_IN, ev_LI, ev_LL, ev_LR, ev_LN, ev_RI, ev_RL, ev_RR, ev_RN, Nat.add_assoc, Nat.reduceAdd, Nat.add_left_cancel_iff, Nat.left_eq_add, Nat.add_eq_left, Nat.reduceEqDiff, reduceIte, if_true, if_false, Option.bind_some, ev_let, pe_na ha2, pe_na0 ha2]
  obtain ⟨c1, c2, c3, c4, ⟨w4, w5, w6, w7, w8, w10, w11, w12, w13, w14, w15, w19, w18⟩, y0, y1, y2, y3, y4, y5, y6, y7, y8, y9, y10⟩ := F
  have EW : ∀ x, x < pm_sz h → x ≠ a → pe_E h w x := fun x hx hxa => pe_E_t (E1 x hx) (pe_E_t (E2 x (by omega) hxa) (c2.2.2.2 x (by omega) hxa))
  have kp := fun {x q : Nat} (hx : x < pm_sz h) (hxa : x ≠ a) (e : pm_kd h x = q) => (EW x hx hxa).1.trans e
  have lp := fun {x q : Nat} (hx : x < pm_sz h) (hxa : x ≠ a) (e : pm_ln h x = q) => (EW x hx hxa).2.1.trans e
  have rp := fun (y : Nat) => (EW n hns nna).2.2.2.2 y
  have up := fun {x : Nat} (hx : x < pm_sz h) => (show x < pm_sz w by omega)
  obtain ⟨h3, eh3, d1, d2, d3, d4, ⟨d50, d51, d52, d53, d54, d55, d56, d57⟩, d6, d7, d8, d9, ⟨d10, d11, _⟩, _, d12, d13⟩ := cX4 y10 (by omega) (kp hns nna hn) (up hns) ((rp 4).trans Rf) ((rp 5).trans Rt) ((rp 6).trans Rm) ((rp 7).trans Rg) ((rp 9).trans Re) ((rp 10).trans Rd) ⟨up hf.1, kp hf.1 nfa hf.2.1, lp hf.1 nfa hf.2.2, by decide⟩ ⟨up ht.1, kp ht.1 nta ht.2.1, lp ht.1 nta ht.2.2, by decide⟩ ⟨up hm.1, kp hm.1 nma hm.2.1, lp hm.1 nma hm.2.2, by decide⟩ ⟨up hg.1, kp hg.1 nga hg.2.1, lp hg.1 nga hg.2.2, by decide⟩ ⟨up he.1, kp he.1 nea he.2.1, lp he.1 nea he.2.2, by decide⟩ ⟨up hd.1, kp hd.1 nda hd.2.1, lp hd.1 nda hd.2.2, by decide⟩
  have s3 : pm_sz h3 = pm_sz h + 187 := by omega
  have ha3 : a < pm_sz h3 := by omega
  have E3 : ∀ x, x < pm_sz w → x ≠ pm_sz h2 + 10 → pe_E w h3 x := d2.2.2.2
  have E3a := E3 a (by omega) (by omega)
  have k3 : pm_kd h3 a = 10 := E3a.1.trans (c2.2.1.trans k2)
  -- the body that is nothing
  obtain ⟨u, eu⟩ : ∃ u, u = pm_new (pm_new (pm_setR h3 a 16 (some (pm_sz h2 + 10))) 0 0) 34 2 := ⟨_, rfl⟩
  have U : pm_sz u = pm_sz h3 + 2 ∧ pe_K h3 u a ∧ (∀ y, pm_I u a y = pm_I h3 a y) ∧ (∀ y, pm_L u a y = pm_L h3 a y) ∧ (∀ y, pm_R u a y = if y = 16 then some (pm_sz h2 + 10) else pm_R h3 a y) ∧ pe_Z u (pm_sz h3) 0 0 ∧ pe_Z u (pm_sz h3 + 1) 34 2 := by
    rw [eu]
    refine ⟨?_, ⟨?_, ?_, ?_, fun x hx hxa => ⟨?_, ?_, fun y => ?_, fun y => ?_, fun y => ?_⟩⟩, fun y => ?_, fun y => ?_, fun y => ?_, ⟨?_, ?_, fun y => ?_, fun y => ?_, fun y => ?_⟩, ⟨?_, ?_, fun y => ?_, fun y => ?_, fun y => ?_⟩⟩
    all_goals first
      | (simp only [ev_szI, ev_szL, ev_szR, ev_szN, ev_kdI, ev_kdL, ev_kdR, ev_kdN, ev_lnI, ev_lnL, ev_lnR, ev_lnN, ev_II, ev_IL, ev_IR, ev_IN, ev_LI, ev_LL, ev_LR, ev_LN, ev_RI, ev_RL, ev_RR, ev_RN, Nat.add_assoc, Nat.reduceAdd, Nat.add_left_cancel_iff, Nat.left_eq_add, Nat.add_eq_left, Nat.reduceEqDiff, reduceIte, if_true, if_false, Option.bind_some, ev_let, pe_na ha3, pe_na0 ha3, pe_nb ha3, pe_nb0 ha3]; done)
      | (simp only [ev_szI, ev_szL, ev_szR, ev_szN, ev_kdI, ev_kdL, ev_kdR, ev_kdN, ev_lnI, ev_lnL, ev_lnR, ev_lnN, ev_II, ev_IL, ev_IR, ev_IN, ev_LI, ev_LL, ev_LR, ev_LN, ev_RI, ev_RL, ev_RR, ev_RN, Nat.add_assoc, Nat.reduceAdd, Nat.add_left_cancel_iff, Nat.left_eq_add, Nat.add_eq_left, Nat.reduceEqDiff, reduceIte, if_true, if_false, Option.bind_some, ev_let, pe_na ha3, pe_na0 ha3, pe_nb ha3, pe_nb0 ha3, pe_na hx, pe_na0 hx, eq_false hxa]; done)
      | (simp only [ev_szI, ev_szL, ev_szR, ev_szN, ev_kdI, ev_kdL, ev_kdR, ev_kdN, ev_lnI, ev_lnL, ev_lnR, ev_lnN, ev_II, ev_IL, ev_IR, ev_IN, ev_LI, ev_LL, ev_LR, ev_LN, ev_RI, ev_RL, ev_RR, ev_RN, Nat.add_assoc, Nat.reduceAdd, Nat.add_left_cancel_iff, Nat.left_eq_add, Nat.add_eq_left, Nat.reduceEqDiff, reduceIte, if_true, if_false, Option.bind_some, ev_let]; omega)
  obtain ⟨u1, u2, u3, u4, u5, u6, u7⟩ := U
  have hn0 : ¬ (5 * (if (0 : Int32) < 0 then 0 else (0 : Int32))) < 0 ∧ (5 * (if (0 : Int32) < 0 then 0 else (0 : Int32))).toNatClampNeg * 4 ≤ 536870912 := by decide
  have hl0 : (5 * (if (0 : Int32) < 0 then 0 else (0 : Int32))).toNatClampNeg = 0 := by decide
  obtain ⟨b, eb, v1, v2, v3, v4, ⟨v50, v51, v55, v57, v58⟩, v6, v7, v8, v9⟩ := cX0 (h := u) (a := pm_sz h3) (p := pm_sz h3 + 1) (n := 0) u6 (by omega) hn0
  rw [hl0] at v9
  have Eb : ∀ x, x < pm_sz u → x ≠ pm_sz h3 → pe_E u b x := v2.2.2.2
  have Eba := Eb a (by omega) (by omega)
  have kb : pm_kd b a = 10 := Eba.1.trans (u2.2.1.trans k3)
  have Rb : ∀ y, pm_R b a y = if y = 16 then some (pm_sz h2 + 10) else pm_R w a y := fun y => by rw [Eba.2.2.2.2 y, u5 y, E3a.2.2.2.2 y]
  have T2 : pm_lim sX10_init (.inr (.inr (.inr (.inr (.inr (.inr (.inr (.inr (.inr (.inr (.inr (.inr (.inr (.inr (.inr (.inl ((a, n, pm_sz h2 + 10, a, w)))))))))))))))))) = pm_lim sX10_init (.inr (.inr (.inr (.inr (.inr (.inr (.inr (.inr (.inr (.inr (.inr (.inr (.inr (.inr (.inr (.inr (.inr (.inr (.inr (.inr (.inl ((a, pm_sz h3, 0, b))))))))))))))))))))))) := by
    rw [ev_lim]; simp only [sX10_init, tX10_init_136, eh3, Option.bind_some]
    rw [ev_lim]; simp only [sX10_init, tX10_init_141, k3, if_true, Option.bind_some]
    rw [ev_lim]; simp only [sX10_init, tX10_init_147, Option.bind_some]
    rw [ev_lim]; simp only [sX10_init, tX10_init_151, ← eu, ev_szI, ev_szL, ev_szR, ev_szN, ev_kdI, ev_kdL, ev_kdR, ev_kdN, ev_lnI, ev_lnL, ev_lnR, ev_lnN, ev_II, ev_IL, ev_IR, ev_IN, ev_LI, ev_LL, ev_LR, ev_LN, ev_RI, ev_RL, ev_RR, ev_RN, Nat.add_assoc, Nat.reduceAdd, Nat.add_left_cancel_iff, Nat.left_eq_add, Nat.add_eq_left, Nat.reduceEqDiff, reduceIte, if_true, if_false, Option.bind_some, ev_let, eb]
    rw [ev_lim]; simp only [sX10_init, tX10_init_155, Option.bind_some]
  -- what the loops reach
  have WB : ∀ x, x < pm_sz h2 + 10 → x ≠ a → pe_E w b x := fun x hx hxa => pe_E_t (E3 x (by omega) (by omega)) (pe_E_t (u2.2.2.2 x (by omega) hxa) (Eb x (by omega) (by omega)))
  have D3 : ∀ x, x < pm_sz h3 → x ≠ a → pe_E h3 b x := fun x hx hxa => pe_E_t (u2.2.2.2 x hx hxa) (Eb x (by omega) (by omega))
  have q3 := WB (pm_sz h2 + 3) (by omega) (by omega)
  have q4 := WB (pm_sz h2 + 4) (by omega) (by omega)
  have q8 := WB (pm_sz h2 + 8) (by omega) (by omega)
  have q10 := D3 (pm_sz h2 + 10) (by omega) (by omega)
  have kn : pm_kd b (pm_sz h2 + 10) = 4 := q10.1.trans (d2.2.1.trans y10.1)
  have kno : pm_kd b (pm_sz h3) = 0 := v2.2.1.trans u6.1
  have L1 := cX10_l1 (l := b) (a := a) (b := pm_sz h2 + 3) (p := pm_sz h3) (by omega) kb (by rw [Rb 10]; exact w10) (q3.1.trans y3.1) (q3.2.1.trans y3.2.1) kno
  have F1 := pe_fRE b (pm_sz h2 + 3) 512 (some (pm_sz h3))
  generalize pe_fR b (pm_sz h2 + 3) 512 (some (pm_sz h3)) = b' at *
  obtain ⟨f1, f2, f3, f4, f5, f6, f7, f8⟩ := F1
  have L2' := cX10_l2 (l := b') (a := a) (b := pm_sz h2 + 4) (p := pm_sz h2 + 10) (by omega) (by rw [f2, kb]) (by rw [f8 a _ (by omega), Rb 11]; exact w11) (by rw [f8 a _ (by omega), Rb 16]; rfl) (by rw [f2]; exact q4.1.trans y4.1) (by rw [f3]; exact q4.2.1.trans y4.2.1) (by rw [f2, kn])
  have F2 := pe_fRE b' (pm_sz h2 + 4) 512 (some (pm_sz h2 + 10))
  generalize pe_fR b' (pm_sz h2 + 4) 512 (some (pm_sz h2 + 10)) = b'' at *
  obtain ⟨j1, j2, j3, j4, j5, j6, j7, j8⟩ := F2
  have L3' := cX10_l3 (l := b'') (a := a) (b := pm_sz h2 + 8) (p := pm_sz h2 + 10) (by omega) (by rw [j2, f2, kb]) (by rw [j8 a _ (by omega), f8 a _ (by omega), Rb 15]; exact w15) (by rw [j8 a _ (by omega), f8 a _ (by omega), Rb 16]; rfl) (by rw [j2, f2]; exact q8.1.trans y8.1) (by rw [j3, f3]; exact q8.2.1.trans y8.2.1) (by rw [j2, f2, kn])
  have F3 := pe_fRE b'' (pm_sz h2 + 8) 16 (some (pm_sz h2 + 10))
  generalize pe_fR b'' (pm_sz h2 + 8) 16 (some (pm_sz h2 + 10)) = h' at *
  obtain ⟨i1, i2, i3, i4, i5, i6, i7, i8⟩ := F3
  -- told
  have BH : ∀ x, x ≠ pm_sz h2 + 3 → x ≠ pm_sz h2 + 4 → x ≠ pm_sz h2 + 8 → pe_E b h' x := fun x e3 e4 e8 => pe_E_t (f4 x e3) (pe_E_t (j4 x e4) (i4 x e8))
  have Ha := BH a (by omega) (by omega) (by omega)
  have WH : ∀ x, x < pm_sz h2 + 10 → x ≠ a → x ≠ pm_sz h2 + 3 → x ≠ pm_sz h2 + 4 → x ≠ pm_sz h2 + 8 → pe_E w h' x := fun x hx hxa e3 e4 e8 => pe_E_t (WB x hx hxa) (BH x e3 e4 e8)
  have H2 : ∀ x, x < pm_sz h2 → x ≠ a → pe_E h2 h' x := fun x hx hxa => pe_E_t (c2.2.2.2 x hx hxa) (WH x (by omega) hxa (by omega) (by omega) (by omega))
  have H1 : ∀ x, x < pm_sz h1 → x ≠ a → pe_E h1 h' x := fun x hx hxa => pe_E_t (E2 x hx hxa) (H2 x (by omega) hxa)
  have RA : ∀ y, pm_R h' a y = if y = 16 then some (pm_sz h2 + 10) else pm_R w a y := fun y => (Ha.2.2.2.2 y).trans (Rb y)
  have tb := H1 (pm_sz h) (by omega) (by omega)
  have tr := H1 (pm_sz h + 4) (by omega) (by omega)
  have mb := H2 (pm_sz h1) (by omega) (by omega)
  have mr := H2 (pm_sz h1 + 1 + 2) (by omega) (by omega)
  have nw := pe_E_t q10 (BH (pm_sz h2 + 10) (by omega) (by omega) (by omega))
  have ns := pe_E_t (D3 (pm_sz h + 184) (by omega) (by omega)) (BH (pm_sz h + 184) (by omega) (by omega) (by omega))
  have no := BH (pm_sz h3) (by omega) (by omega) (by omega)
  have D3' : ∀ x, x < pm_sz h3 → x ≠ a → x ≠ pm_sz h2 + 3 → x ≠ pm_sz h2 + 4 → x ≠ pm_sz h2 + 8 → pe_E h3 h' x := fun x hx hxa e3 e4 e8 => pe_E_t (D3 x hx hxa) (BH x e3 e4 e8)
  rw [sA] at a12 a11 a10 a9 a8 a7 a6 a52 a53 a54 a55
  rw [sB2] at b6 b7 b8 b9 b10 b11 b52 b53 b54
  have k37 : pm_sz h + 37 = pm_sz h1 := by omega
  have k40 : pm_sz h + 40 = pm_sz h1 + 1 + 2 := by omega
  have k179 : pm_sz h + 179 = pm_sz h2 + 10 := by omega
  have k187 : pm_sz h + 187 = pm_sz h3 := by omega
  have k172 : pm_sz h + 172 = pm_sz h2 + 3 := by omega
  have k173 : pm_sz h + 173 = pm_sz h2 + 4 := by omega
  have k177 : pm_sz h + 177 = pm_sz h2 + 8 := by omega
  have mv : ∀ {x y : Nat} {q n : Nat} {g : pm_H}, x = y → pe_Z g y q n → pe_Z g x q n := fun e z => e ▸ z
  have so : ∀ {x y : Nat} {o : Option Nat}, o = some x → x = y → o = some y := fun p e => e ▸ p
  refine ⟨h', by rw [T1, T2, L1, L2', L3'], by omega, ⟨by omega, ?_, ?_, fun x hx hxa => pe_E_t (E1 x hx) (H1 x (by omega) hxa)⟩, fun y => ?_, fun y => ?_, ⟨?_, ?_, ?_, ?_, ?_, ?_, ?_, ?_, ?_, ?_, ?_, ?_, ?_, ?_⟩, ⟨tb.1.trans (a2.2.1.trans A0.2.1.1), fun y => (tb.2.2.1 y).trans (a3 y), (tb.2.2.2.2 2).trans a52, so ((tb.2.2.2.2 3).trans a53) (by omega), so ((tb.2.2.2.2 4).trans a54) (by omega), so ((tb.2.2.2.2 5).trans a55) (by omega)⟩, ⟨pe_E_Z (H1 _ (by omega) (by omega)) a6, mv (by omega) (pe_E_Z (H1 _ (by omega) (by omega)) a7), mv (by omega) (pe_E_Z (H1 _ (by omega) (by omega)) a8), tr.1.trans a9, tr.2.1.trans a10, fun y hy => so ((tr.2.2.2.2 y).trans (a11 y hy)) (by omega), fun i hi => mv (by omega) (pe_E_Z (H1 _ (by omega) (by omega)) (a12 i hi))⟩, ⟨by rw [k37]; exact mb.1.trans (b2.2.1.trans B0.2.1.1), fun y => by rw [k37]; exact (mb.2.2.1 y).trans (b3 y), by rw [k37]; exact so ((mb.2.2.2.2 2).trans b52) (by omega), by rw [k37]; exact so ((mb.2.2.2.2 3).trans b53) (by omega), by rw [k37]; exact so ((mb.2.2.2.2 4).trans b54) (by omega)⟩, ⟨mv (by omega) (pe_E_Z (H2 _ (by omega) (by omega)) b6), mv (by omega) (pe_E_Z (H2 _ (by omega) (by omega)) b7), by rw [k40]; exact mr.1.trans b8, by rw [k40]; exact mr.2.1.trans b9, fun y hy => by rw [k40]; exact so ((mr.2.2.2.2 y).trans (b10 y hy)) (by omega), fun i hi => mv (by omega) (pe_E_Z (H2 _ (by omega) (by omega)) (b11 i hi))⟩, ⟨mv (by omega) (pe_E_Z (WH _ (by omega) (by omega) (by omega) (by omega) (by omega)) y0), mv (by omega) (pe_E_Z (WH _ (by omega) (by omega) (by omega) (by omega) (by omega)) y1), mv (by omega) (pe_E_Z (WH _ (by omega) (by omega) (by omega) (by omega) (by omega)) y2), mv (by omega) (pe_E_Z (WH _ (by omega) (by omega) (by omega) (by omega) (by omega)) y5), mv (by omega) (pe_E_Z (WH _ (by omega) (by omega) (by omega) (by omega) (by omega)) y6), mv (by omega) (pe_E_Z (WH _ (by omega) (by omega) (by omega) (by omega) (by omega)) y7), mv (by omega) (pe_E_Z (WH _ (by omega) (by omega) (by omega) (by omega) (by omega)) y9)⟩, ⟨by rw [k172, i2, j2, f2]; exact q3.1.trans y3.1, by rw [k172, i3, j3, f3]; exact q3.2.1.trans y3.2.1, fun y hy => by rw [k172, i8 _ _ (by omega), j8 _ _ (by omega), f5 y, if_pos hy, k187]⟩, ⟨by rw [k173, i2, j2, f2]; exact q4.1.trans y4.1, by rw [k173, i3, j3, f3]; exact q4.2.1.trans y4.2.1, fun y hy => by rw [k173, i8 _ _ (by omega), j5 y, if_pos hy, k179]⟩, ⟨by rw [k177, i2, j2, f2]; exact q8.1.trans y8.1, by rw [k177, i3, j3, f3]; exact q8.2.1.trans y8.2.1, fun y hy => by rw [k177, i5 y, if_pos hy, k179]⟩, ⟨?_, ?_, ?_, ?_, ?_, ?_, ?_, ?_, ?_⟩, ⟨?_, ?_, ?_, ?_, ⟨?_, ?_⟩, ?_, ?_⟩, ⟨?_, fun y => ?_, ?_, ?_, ?_, ?_, ?_⟩, ⟨?_, ?_, ?_, ?_, ?_⟩⟩
  · rw [Ha.1, kb, hk]
  · rw [Ha.2.1, Eba.2.1, u2.2.2.1, E3a.2.1, c2.2.2.1, l2]
  · rw [Ha.2.2.1 y, Eba.2.2.1 y, u3 y, E3a.2.2.1 y, c3 y]
  · rw [Ha.2.2.2.1 y, Eba.2.2.2.1 y, u4 y, E3a.2.2.2.1 y, c4 y]
  · rw [RA 4]; exact w4
  · rw [RA 5]; exact so w5 (by omega)
  · rw [RA 6]; exact so w6 (by omega)
  · rw [RA 7]; exact so w7 (by omega)
  · rw [RA 8]; exact so w8 (by omega)
  · rw [RA 10]; exact so w10 (by omega)
  · rw [RA 11]; exact so w11 (by omega)
  · rw [RA 12]; exact so w12 (by omega)
  · rw [RA 13]; exact so w13 (by omega)
  · rw [RA 14]; exact so w14 (by omega)
  · rw [RA 15]; exact so w15 (by omega)
  · rw [RA 16, if_pos rfl, k179]
  · rw [RA 18]; exact w18
  · rw [RA 19]; exact so w19 (by omega)
  · rw [k179]; exact nw.1.trans (d2.2.1.trans y10.1)
  · rw [k179]; exact (nw.2.2.2.2 0).trans d50
  · rw [k179]; exact so ((nw.2.2.2.2 1).trans d51) (by omega)
  · rw [k179]; exact so ((nw.2.2.2.2 2).trans d52) (by omega)
  · rw [k179]; exact so ((nw.2.2.2.2 3).trans d53) (by omega)
  · rw [k179]; exact so ((nw.2.2.2.2 4).trans d54) (by omega)
  · rw [k179]; exact so ((nw.2.2.2.2 5).trans d55) (by omega)
  · rw [k179]; exact so ((nw.2.2.2.2 6).trans d56) (by omega)
  · rw [k179]; exact so ((nw.2.2.2.2 7).trans d57) (by omega)
  · exact mv (by omega) (pe_E_Z (D3' _ (by omega) (by omega) (by omega) (by omega) (by omega)) d6)
  · exact mv (by omega) (pe_E_Z (D3' _ (by omega) (by omega) (by omega) (by omega) (by omega)) d7)
  · exact mv (by omega) (pe_E_Z (D3' _ (by omega) (by omega) (by omega) (by omega) (by omega)) d8)
  · exact mv (by omega) (pe_E_Z (D3' _ (by omega) (by omega) (by omega) (by omega) (by omega)) d9)
  · rw [ns.1, show pm_sz h + 184 = pm_sz w + 4 by omega]; exact d10
  · rw [ns.2.1, show pm_sz h + 184 = pm_sz w + 4 by omega]; exact d11
  · exact mv (by omega) (pe_E_Z (D3' _ (by omega) (by omega) (by omega) (by omega) (by omega)) d12)
  · exact mv (by omega) (pe_E_Z (D3' _ (by omega) (by omega) (by omega) (by omega) (by omega)) d13)
  · rw [k187]; exact no.1.trans kno
  · rw [k187]; exact (no.2.2.1 y).trans (v3 y)
  · rw [k187]; exact so ((no.2.2.2.2 0).trans v50) (by omega)
  · rw [k187]; exact so ((no.2.2.2.2 1).trans v51) (by omega)
  · rw [k187]; exact so ((no.2.2.2.2 5).trans v55) (by omega)
  · rw [k187]; exact so ((no.2.2.2.2 7).trans v57) (by omega)
  · rw [k187]; exact so ((no.2.2.2.2 8).trans v58) (by omega)
  · exact mv (by omega) (pe_E_Z (BH _ (by omega) (by omega) (by omega)) (pe_E_Z (Eb _ (by omega) (by omega)) u7))
  · exact mv (by omega) (pe_E_Z (BH _ (by omega) (by omega) (by omega)) v6)
  · exact mv (by omega) (pe_E_Z (BH _ (by omega) (by omega) (by omega)) v7)
  · exact mv (by omega) (pe_E_Z (BH _ (by omega) (by omega) (by omega)) v8)
  · exact mv (by omega) (pe_E_Z (BH _ (by omega) (by omega) (by omega)) v9)
