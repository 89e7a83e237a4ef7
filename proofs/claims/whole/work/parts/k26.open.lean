/-! THE CLASS READS: a section is opened -/
/-- the places of the sections, with one more -/
def sec1 (M : tMd) (id p : Nat) : tMd := (M.1, M.2.1, M.2.2.1, M.2.2.2.1, M.2.2.2.2.1, M.2.2.2.2.2.1, M.2.2.2.2.2.2.1, M.2.2.2.2.2.2.2.1, M.2.2.2.2.2.2.2.2.1, M.2.2.2.2.2.2.2.2.2.1, M.2.2.2.2.2.2.2.2.2.2.1, M.2.2.2.2.2.2.2.2.2.2.2.1, (fun i => if id ≠ 0 ∧ i = id then some p else M.2.2.2.2.2.2.2.2.2.2.2.2.1 i), M.2.2.2.2.2.2.2.2.2.2.2.2.2)
/-- a section with no rows to come -/
def oN (h : pm_H) (n b mm me sh e lo last id pl : Nat) (d : Bool) (B : Nat → Nat) (M : tMd) : Prop := cMx h mm lo (pm_sz h) 0 M ∧ lC h n b mm me e d false B ∧ dT h b mm me sh ∧ pm_I h 19 10 = Int32.ofNat id ∧ pm_I h 19 11 = Int32.ofNat pl ∧ pm_I h 19 12 = Int32.ofNat last ∧ pm_I h 19 15 = 0 ∧ pm_L h 19 14 = 0 ∧ pm_I h 19 5 = on3 M.2.2.2.2.2.2.2.2.2.2.2.2.2
section OPE
variable {h : pm_H} {n b mm me sh lo last e p p2 sz id : Nat} {d : Bool} {B : Nat → Nat} {M : tMd} {q : Int32}
/-- the head is noted -/
theorem op_h3 (hid : id < 13) (hp2 : p2 + sz ≤ n) (hp : p < 2147483648) (LC : lC h n b mm me n d false B) (T : dT h b mm me sh) (i12 : pm_I h 19 12 = Int32.ofNat last) (i5 : pm_I h 19 5 = on3 M.2.2.2.2.2.2.2.2.2.2.2.2.2) (CM : cMx h mm lo (pm_sz h) 0 M) (hlo : 19 < lo ∧ me < lo ∧ sh < lo ∧ b < lo ∧ mm < lo) : ∃ h3, fX9_openSection_b93 (rc h (Int32.ofNat p2) 0 q) 19 (Int32.ofNat p) (Int32.ofNat id) (Int64.ofNat sz) = (if Int32.ofNat id = 0 then ((fX9_name (rc h3 (Int32.ofNat p2) 0 q) 19).bind fun v65 => if pm_kd v65.2 19 = 9 then (fX9_skip v65.2 19 (((pm_I v65.2 19 2) - (pm_I v65.2 19 1)).toInt64)).bind fun v69 => some v69 else none) else ((fX9_number (rc h3 (Int32.ofNat p2) 0 q) 19 32).bind fun v49 => if Int32.ofNat id = 8 then (if pm_kd v49.2 19 = 9 then (pm_R v49.2 19 0).bind fun v62 => if pm_kd v49.2 v62 = 7 then fX9_openSection_b212 (pm_setL v49.2 v62 13 v49.1) else none else none) else (if Int32.ofNat id = 12 then (if pm_kd v49.2 19 = 9 then (pm_R v49.2 19 0).bind fun v58 => if pm_kd v49.2 v58 = 7 then fX9_openSection_b212 (pm_setL v49.2 v58 14 v49.1) else none else none) else (if pm_kd v49.2 19 = 9 then (fX9_makeRoom v49.2 19 (Int32.ofNat id) v49.1).bind fun v55 => fX9_openSection_b212 v55 else none)))) ∧ oN h3 n b mm me sh (p2 + sz) lo last id p d B (sec1 M id p) := by
  have K9 := LC.1.1
  have n4 := LC.1.2.2.2.2.2.2.1
  have dm := lC_m LC
  obtain ⟨c1, c2, c3, c4, c5, c6, c7, c8, c9, c10, c11, c12, d1, d3, d4, d5, d6⟩ := CM
  obtain ⟨sc, esc⟩ : ∃ z, z = lo := ⟨_, rfl⟩
  rw [← esc] at d1 d3 d4 d5 d6
  have sc9 : sc ≠ 19 := by omega
  obtain ⟨h1, eh1⟩ : ∃ z, z = pm_setI (pm_setI (pm_setI h 19 2 (Int32.ofNat (p2 + sz))) 19 10 (Int32.ofNat id)) 19 11 (Int32.ofNat p) := ⟨_, rfl⟩
  obtain ⟨h2, eh2⟩ : ∃ z, z = sI h1 sc id (Int32.ofNat p) := ⟨_, rfl⟩
  obtain ⟨h3, eh3⟩ : ∃ z, z = pm_setL (pm_setI h2 19 15 0) 19 14 0 := ⟨_, rfl⟩
  have g1 : nF h h1 := by rw [eh1]; exact nF_sI (nF_sI (nF_sI (nF_r h)))
  have g2 : nF h h2 := by rw [eh2]; exact nF_t g1 (nF_dI ..)
  have g3 : nF h h3 := by rw [eh3]; exact nF_sL (nF_sI g2)
  have X1 : ∀ y, y ≠ 19 → pm_I h1 y = pm_I h y := fun y hy => by funext z; rw [eh1, ev_II, if_neg hy, ev_II, if_neg hy, ev_II, if_neg hy]
  have X2 : ∀ y, y ≠ sc → pm_I h2 y = pm_I h1 y := fun y hy => by funext z; rw [eh2]; exact sI_n hy z
  have X3 : ∀ y, y ≠ 19 → pm_I h3 y = pm_I h2 y := fun y hy => by funext z; rw [eh3, ev_IL, ev_II, if_neg hy]
  have LL2 : pm_L h2 = pm_L h := by rw [eh2, sI_L, eh1]; rfl
  have L3 : ∀ y, y ≠ 19 → pm_L h3 y = pm_L h y := fun y hy => by funext z; rw [eh3, ev_LL, if_neg hy, ev_LI, LL2]
  have I9 : ∀ y, y ≠ 2 → y ≠ 10 → y ≠ 11 → y ≠ 15 → pm_I h3 19 y = pm_I h 19 y := fun y a1 a2 a3 a4 => by rw [eh3, ev_IL, ev_II, if_pos rfl, if_neg a4, X2 19 (fun z => sc9 z.symm), eh1, ev_II, if_pos rfl, if_neg a3, ev_II, if_pos rfl, if_neg a2, ev_II, if_pos rfl, if_neg a1]
  refine ⟨h3, ?_, ?_, ?_, dT_n T g3, ?_, ?_, ?_, ?_, ?_, ?_⟩
  · unfold fX9_openSection_b93
    refine e9_t K9 (e9_l ?_)
    rw [rc_1, ll_t3, nn_ad, rc_19 _ _ _ _ _ (by decide) (by decide) (by decide), rc_19 _ _ _ _ _ (by decide) (by decide) (by decide), rc_19 _ _ _ _ _ (by decide) (by decide) (by decide), ← eh1]
    refine e9_b (gR g1 T.1.1.2.1) (e9_t (gk g1 T.1.1.2.2.1) (e9_b (gR g1 d1) (e9_b (st3_e (gk g1 d4) sc9 (by rw [nF_ln g1, d5]; decide) (by omega) _) ?_)))
    rw [← eh2]
    refine e9_t (gk g2 K9) ?_
    rw [rc_19 _ _ _ _ _ (by decide) (by decide) (by decide), rc_sL, ← eh3]
  · have KC : ∀ y, lo ≤ y → y ≠ sc → pm_kd h3 y = pm_kd h y ∧ pm_ln h3 y = pm_ln h y ∧ pm_I h3 y = pm_I h y ∧ pm_L h3 y = pm_L h y ∧ pm_R h3 y = pm_R h y := fun y y1 ys => ⟨congrFun g3.2.1 y, nF_ln g3, ((X3 y (by omega)).trans (X2 y ys)).trans (X1 y (by omega)), L3 y (by omega), congrFun g3.2.2.2 y⟩
    have RR : ∀ j, pm_R h3 mm j = pm_R h mm j := fun j => congrFun (congrFun g3.2.2.2 mm) j
    have zz := g3.1
    have K' : kC (lo + 1) (pm_sz h) h h3 := fun y y1 y2 => KC y (by omega) (by omega)
    refine ⟨fun z => cTs_k K' (by omega) (RR 2) (c1 (by decide)), fun z => cAr_k st_ent K' (by omega) (RR 3) (c2 (by decide)), fun z => cAr_k st_ent K' (by omega) (RR 4) (c3 (by decide)), fun z => cAr_k st_ent K' (by omega) (RR 5) (c4 (by decide)), fun z => cAr_k st_ent K' (by omega) (RR 6) (c5 (by decide)), fun z => cAr_k st_ge K' (by omega) (RR 7) (c6 (by decide)), fun z => cAr_k st_xp K' (by omega) (RR 8) (c7 (by decide)), fun z => cAr_k st_el K' (by omega) (RR 9) (c8 (by decide)), fun z => cAr_k st_da K' (by omega) (RR 10) (c9 (by decide)), fun z => cAr_k st_bo K' (by omega) (RR 11) (c10 (by decide)), ?_, ?_, by rw [← esc]; exact (RR 1).trans d1, by omega, by rw [← esc]; exact gk g3 d4, by rw [← esc]; exact (nF_ln g3).trans d5, fun i i1 i2 => ?_⟩
    · rw [L3 mm dm.1]; exact c11
    · rw [L3 mm dm.1]; exact c12
    · rw [← esc, X3 sc sc9, eh2]
      refine (sI_g (by rw [nF_ln g1, d5]; exact hid) i).trans ?_
      show _ = on3 (if id ≠ 0 ∧ i = id then some p else _)
      by_cases c : i = id
      · rw [if_pos c, if_pos ⟨by omega, c⟩]; rfl
      · rw [if_neg c, if_neg (fun z => c z.2), X1 sc sc9]; exact d6 i i1 i2
  · obtain ⟨⟨K, rm0, km, rb, kb, lb, hn, b9, hB, hB2⟩, ⟨r17, kme, lme, m9, mb, m7⟩, ie, he, ib, dt⟩ := LC
    have bs : b ≠ sc := by omega
    refine ⟨⟨gk g3 K, gR g3 rm0, gk g3 km, gR g3 rb, gk g3 kb, (nF_ln g3).trans lb, hn, b9, fun i hi => by rw [X3 b b9, X2 b bs, X1 b b9]; exact hB i hi, hB2⟩, ⟨gR g3 r17, gk g3 kme, (nF_ln g3).trans lme, m9, mb, m7⟩, ?_, hp2, ?_, ?_⟩
    · rw [eh3, ev_IL, ev_II, if_pos rfl, if_neg (by decide), X2 19 (fun z => sc9 z.symm), eh1, ev_II, if_pos rfl, if_neg (by decide), ev_II, if_pos rfl, if_neg (by decide), ev_II, if_pos rfl, if_pos rfl]
    · rw [I9 16 (by decide) (by decide) (by decide) (by decide)]; exact ib
    · rw [L3 mm dm.1]; exact dt
  · rw [eh3, ev_IL, ev_II, if_pos rfl, if_neg (by decide), X2 19 (fun z => sc9 z.symm), eh1, ev_II, if_pos rfl, if_neg (by decide), ev_II, if_pos rfl, if_pos rfl]
  · rw [eh3, ev_IL, ev_II, if_pos rfl, if_neg (by decide), X2 19 (fun z => sc9 z.symm), eh1, ev_II, if_pos rfl, if_pos rfl]
  · rw [I9 12 (by decide) (by decide) (by decide) (by decide)]; exact i12
  · rw [eh3, ev_IL, ev_II, if_pos rfl, if_pos rfl]
  · rw [eh3, ev_LL, if_pos rfl, if_pos rfl]
  · rw [I9 5 (by decide) (by decide) (by decide) (by decide)]; exact i5
end OPE
