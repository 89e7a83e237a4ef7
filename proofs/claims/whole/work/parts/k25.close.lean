/-! THE CLASS READS: a section is closed -/
/-- between sections -/
def clS (h : pm_H) (n b mm me sh lo last : Nat) (d : Bool) (B : Nat → Nat) (M : tMd) : Prop := cMx h mm lo (pm_sz h) 0 M ∧ lC h n b mm me n d false B ∧ dT h b mm me sh ∧ pm_I h 19 10 = -1 ∧ pm_I h 19 12 = Int32.ofNat last ∧ pm_I h 19 5 = on3 M.2.2.2.2.2.2.2.2.2.2.2.2.2
section CLO
variable {h : pm_H} {n b mm me sh lo last e p : Nat} {d : Bool} {B : Nat → Nat} {M : tMd} {q : Int32}
theorem lC_nW {h' : pm_H} {ob : Bool} {AI AL AR : Nat → Nat → Prop} (L : lC h n b mm me e d ob B) (g : nW AI AL AR h h') (z : 19 < pm_sz h ∧ b < pm_sz h ∧ mm < pm_sz h ∧ me < pm_sz h) (n1 : ∀ Y, ¬ AI b Y) (n2 : ¬ AI 19 2) (n3 : ¬ AI 19 16) (n4 : ¬ AL mm 14) (n5 : ∀ Y, ¬ AR 19 Y) (n6 : ¬ AR mm 0) : lC h' n b mm me e d ob B := by
  obtain ⟨⟨K, rm0, km, rb, kb, lb, hn, b9, hB, hB2⟩, ⟨r17, kme, lme, m9, mb, m7⟩, ie, he, ib, dt⟩ := L
  obtain ⟨z1, z2, z3, z4⟩ := z
  refine ⟨⟨(g.2.1 19 z1).1.trans K, (g.2.2.2.2 19 0 z1 (n5 0)).trans rm0, (g.2.1 mm z3).1.trans km, (g.2.2.2.2 mm 0 z3 n6).trans rb, (g.2.1 b z2).1.trans kb, (g.2.1 b z2).2.trans lb, hn, b9, fun i hi => ?_, hB2⟩, ⟨(g.2.2.2.2 19 17 z1 (n5 17)).trans r17, (g.2.1 me z4).1.trans kme, (g.2.1 me z4).2.trans lme, m9, mb, m7⟩, ?_, he, ?_, ?_⟩
  · rw [g.2.2.1 b i z2 (n1 i)]; exact hB i hi
  · rw [g.2.2.1 19 2 z1 n2]; exact ie
  · rw [g.2.2.1 19 16 z1 n3]; exact ib
  · rw [g.2.2.2.1 mm 14 z3 n4]; exact dt
/-- the last of it: no section is open, the part is the module -/
theorem c35_ok (LC : lC h n b mm me e d false B) (T : dT h b mm me sh) (i12 : pm_I h 19 12 = Int32.ofNat last) (i5 : pm_I h 19 5 = on3 M.2.2.2.2.2.2.2.2.2.2.2.2.2) (CM : cMx h mm lo (pm_sz h) 0 M) (hlo : 19 < lo ∧ mm < lo) (a : Int32) : ∃ h', fX9_closeSection_b35 (rc h a 0 q) 19 = some (rc h' a 0 q) ∧ clS h' n b mm me sh lo last d B M := by
  have dm := lC_m LC
  obtain ⟨h1, eh1⟩ : ∃ z, z = pm_setI h 19 10 (-1) := ⟨_, rfl⟩
  obtain ⟨h2, eh2⟩ : ∃ z, z = pm_setI h1 19 2 (Int32.ofNat n) := ⟨_, rfl⟩
  have gn : nF h h2 := by rw [eh2, eh1]; exact nF_sI (nF_sI (nF_r h))
  have X : ∀ y, y ≠ 19 → pm_I h2 y = pm_I h y := fun y hy => by funext z; rw [eh2, ev_II, if_neg hy, eh1, ev_II, if_neg hy]
  have LL : pm_L h2 = pm_L h := by rw [eh2, eh1]; rfl
  have I9 : ∀ y, y ≠ 10 → y ≠ 2 → pm_I h2 19 y = pm_I h 19 y := fun y h10 h2' => by rw [eh2, ev_II, if_pos rfl, if_neg h2', eh1, ev_II, if_pos rfl, if_neg h10]
  refine ⟨h2, ?_, ?_, ?_, dT_n T gn, ?_, ?_, ?_⟩
  · unfold fX9_closeSection_b35
    rw [rc_19 _ _ _ _ _ (by decide) (by decide) (by decide), ← eh1]
    have g1 : nF h h1 := by rw [eh1]; exact nF_sI (nF_r h)
    refine e9_t LC.1.1 (e9_b (gR g1 T.1.1.2.1) (e9_t (gk g1 T.1.1.2.2.1) (e9_b (gR g1 T.1.1.2.2.2.1) (e9_t (gk g1 T.1.1.2.2.2.2) (e9_l ?_)))))
    rw [rc_19 _ _ _ _ _ (by decide) (by decide) (by decide), show Int32.ofNat (pm_ln (rc h1 a 0 q) b) = Int32.ofNat n from congrArg Int32.ofNat ((nF_ln g1).trans LC.1.2.2.2.2.2.1), ← eh2]
  · exact cMx_k (h := h) (hi := pm_sz h) (skip := 0) (fun y y1 y2 => ⟨congrFun gn.2.1 y, nF_ln gn, X y (by omega), by rw [LL], congrFun gn.2.2.2 y⟩) (Nat.le_of_eq gn.1.symm) (.inl rfl) (fun jj s _ _ _ => congrFun (congrFun gn.2.2.2 mm) jj) (by decide) (by rw [LL]) (by rw [LL]) CM
  · obtain ⟨⟨K, rm0, km, rb, kb, lb, hn, b9, hB, hB2⟩, ⟨r17, kme, lme, m9, mb, m7⟩, ie, he, ib, dt⟩ := LC
    refine ⟨⟨gk gn K, gR gn rm0, gk gn km, gR gn rb, gk gn kb, (nF_ln gn).trans lb, hn, b9, fun i hi => by rw [X b b9]; exact hB i hi, hB2⟩, ⟨gR gn r17, gk gn kme, (nF_ln gn).trans lme, m9, mb, m7⟩, ?_, Nat.le_refl _, ?_, by rw [LL]; exact dt⟩
    · rw [eh2, ev_II, if_pos rfl, if_pos rfl]
    · rw [I9 16 (by decide) (by decide)]; exact ib
  · rw [eh2, ev_II, if_pos rfl, if_neg (by decide), eh1, ev_II, if_pos rfl, if_pos rfl]
  · rw [I9 12 (by decide) (by decide)]; exact i12
  · rw [I9 5 (by decide) (by decide)]; exact i5
/-- a section that isn't 2 -/
theorem cs_close {id : Nat} (hid : id < 13) (id2 : id ≠ 2) (LC : lC h n b mm me e d false B) (T : dT h b mm me sh) (i10 : pm_I h 19 10 = Int32.ofNat id) (i12 : pm_I h 19 12 = Int32.ofNat last) (i5 : pm_I h 19 5 = on3 M.2.2.2.2.2.2.2.2.2.2.2.2.2) (CM : cMx h mm lo (pm_sz h) 0 M) (hlo : 19 < lo ∧ mm < lo) (hp : p ≤ e) : cs_Q wH (dF b mm me sh) (fun (_ : Unit) p' r => ∃ h', r = rc h' (Int32.ofNat p') 0 q ∧ clS h' n b mm me sh lo last d B M) (fX9_closeSection (rc h (Int32.ofNat p) 0 q) 19) (if p < e then .inl (3, p) else .inr ((), p)) := by
  have K9 := LC.1.1
  have n4 := LC.1.2.2.2.2.2.2.1
  have he := LC.2.2.2.1
  unfold fX9_closeSection fX9_closeSection_b0
  refine u_t K9 ?_
  rw [show pm_I (rc h (Int32.ofNat p) 0 q) 19 2 = Int32.ofNat e from LC.2.2.1, rc_1]
  by_cases c : p < e
  · rw [if_pos c]
    exact u_f (show ¬ Int32.ofNat e ≤ Int32.ofNat p by rw [nn_le (by omega) (by omega)]; omega) (u_b (cs_fail K9 _ _ _ _) ⟨by decide, cd_c20 T _⟩)
  · rw [if_neg c]
    refine u_t (show Int32.ofNat e ≤ Int32.ofNat p by rw [nn_le (by omega) (by omega)]; omega) ?_
    unfold fX9_closeSection_b20
    refine u_t K9 ?_
    rw [show pm_I (rc h (Int32.ofNat p) 0 q) 19 10 = Int32.ofNat id from i10]
    refine u_f (show ¬ Int32.ofNat id = Int32.ofNat 2 by rw [nn_eq (by omega) (by decide)]; exact id2) ?_
    obtain ⟨h', e1, C'⟩ := c35_ok (q := q) LC T i12 i5 CM hlo (Int32.ofNat p)
    exact ⟨_, e1, h', rfl, C'⟩
theorem sp_cAr {k lo' : Nat} {l : List tImp} {h' : pm_H} (hk : k < 4) (hl : lo ≤ lo') (hn : l.length ≤ 40960) (S : spK h' mm lo' k l) : cAr pEnt 35 6 (4 + k) h' mm lo (pm_sz h') l := by
  obtain ⟨x, x1, x2, x3, x4, x5, x6⟩ := S
  exact ⟨x, x1, by omega, x3, x4, x5, by omega, x6⟩
/-- section 2: what is imported comes into the spaces -/
theorem cs_close2 (LC : lC h n b mm me e d false B) (T : dT h b mm me sh) (i10 : pm_I h 19 10 = Int32.ofNat 2) (i12 : pm_I h 19 12 = Int32.ofNat last) (i5 : pm_I h 19 5 = on3 M.2.2.2.2.2.2.2.2.2.2.2.2.2) (hM : M.2.2.1 = [] ∧ M.2.2.2.1 = [] ∧ M.2.2.2.2.1 = [] ∧ M.2.2.2.2.2.1 = []) {M0 : tMd} {x : Nat} (hM0 : M = (M0.1, M.2.1, M0.2.2.1, M0.2.2.2.1, M0.2.2.2.2.1, M0.2.2.2.2.2.1, M0.2.2.2.2.2.2.1, M0.2.2.2.2.2.2.2.1, M0.2.2.2.2.2.2.2.2.1, M0.2.2.2.2.2.2.2.2.2.1, M0.2.2.2.2.2.2.2.2.2.2.1, M0.2.2.2.2.2.2.2.2.2.2.2.1, M0.2.2.2.2.2.2.2.2.2.2.2.2.1, M.2.2.2.2.2.2.2.2.2.2.2.2.2)) (CM : cMx h mm lo x 2 M0) (xs : lo < x ∧ x < pm_sz h) (r3 : pm_R h mm 3 = some x) (k3 : pm_kd h x = 35) (l3 : pm_ln h x = M.2.1.length * 6) (hN : M.2.1.length ≤ 40960) (W : ∀ i v, M.2.1[i]? = some v → v.1 < 4 ∧ pEnt h x (i * 6) v) (hlo : 19 < lo ∧ mm < lo) (hp : p ≤ e) : cs_Q wH (dF b mm me sh) (fun (_ : Unit) p' r => ∃ h', r = rc h' (Int32.ofNat p') 0 q ∧ clS h' n b mm me sh lo last d B M) (fX9_closeSection (rc h (Int32.ofNat p) 0 q) 19) (if p < e then .inl (3, p) else .inr ((), p)) := by
  have K9 := LC.1.1
  have n4 := LC.1.2.2.2.2.2.2.1
  have he := LC.2.2.2.1
  have dm := lC_m LC
  unfold fX9_closeSection fX9_closeSection_b0
  refine u_t K9 ?_
  rw [show pm_I (rc h (Int32.ofNat p) 0 q) 19 2 = Int32.ofNat e from LC.2.2.1, rc_1]
  by_cases c : p < e
  · rw [if_pos c]
    exact u_f (show ¬ Int32.ofNat e ≤ Int32.ofNat p by rw [nn_le (by omega) (by omega)]; omega) (u_b (cs_fail K9 _ _ _ _) ⟨by decide, cd_c20 T _⟩)
  · rw [if_neg c]
    refine u_t (show Int32.ofNat e ≤ Int32.ofNat p by rw [nn_le (by omega) (by omega)]; omega) ?_
    unfold fX9_closeSection_b20
    refine u_t K9 ?_
    rw [show pm_I (rc h (Int32.ofNat p) 0 q) 19 10 = Int32.ofNat 2 from i10]
    obtain ⟨h1, e1, T1, N1, S1⟩ := cs_shr (a := Int32.ofNat p) (f := 0) (q := q) (imps := M.2.1) T r3 k3 l3 xs.2 hN W
    have sz1 := T.2.2.1
    have LC1 : lC h1 n b mm me e d false B := lC_nW LC N1 ⟨sz1.1, sz1.2.1, sz1.2.2.1, sz1.2.2.2.1⟩ (fun _ z => z) (fun z => z) (fun z => z) (fun z => z) (fun Y z => dm.1 z.1.symm) (fun z => by omega)
    have I1 : ∀ y, pm_I h1 19 y = pm_I h 19 y := fun y => N1.2.2.1 19 y sz1.1 (fun z => z)
    have K1 : kC lo (pm_sz h) h h1 := fun y y1 y2 => ⟨(N1.2.1 y y2).1, (N1.2.1 y y2).2, funext fun z => N1.2.2.1 y z y2 (fun z => z), funext fun z => N1.2.2.2.1 y z y2 (fun z => z), funext fun z => N1.2.2.2.2 y z y2 (by omega)⟩
    have K1x : kC lo x h h1 := fun y y1 y2 => K1 y y1 (by omega)
    have K1y : kC (lo + 1) x h h1 := fun y y1 y2 => K1 y (by omega) (by omega)
    have RM : ∀ j, ¬ (4 ≤ j ∧ j ≤ 7) → pm_R h1 mm j = pm_R h mm j := fun j hj => N1.2.2.2.2 mm j sz1.2.2.1 (by omega)
    have zz := N1.1
    have o4 : ∀ j, j < 4 → (ofK j M.2.1).length ≤ 40960 := fun j _ => Nat.le_trans (List.length_filter_le _ _) hN
    obtain ⟨c1, c2, c3, c4, c5, c6, c7, c8, c9, c10, c11, c12, d1, d3, d4, d5, d6⟩ := CM
    have CM1 : cMx h1 mm lo (pm_sz h1) 0 M := by
      obtain ⟨f0, f1, f2, f3⟩ := hM
      refine ⟨fun _ => ?_, fun _ => ?_, fun _ => ?_, fun _ => ?_, fun _ => ?_, fun _ => ?_, fun _ => ?_, fun _ => ?_, fun _ => ?_, fun _ => ?_, ?_, ?_, (RM 1 (by omega)).trans d1, by omega, (K1x lo (Nat.le_refl _) d3).1.trans d4, (K1x lo (Nat.le_refl _) d3).2.1.trans d5, fun i h1' h2' => ?_⟩
      · rw [hM0]; exact cTs_k K1y (by omega) (RM 2 (by omega)) (c1 (by decide))
      · exact ⟨x, (RM 3 (by omega)).trans r3, xs.1, by omega, (K1 x (Nat.le_of_lt xs.1) xs.2).1.trans k3, (K1 x (Nat.le_of_lt xs.1) xs.2).2.1.trans l3, by omega, fun i v ev => pEnt_L (K1 x (Nat.le_of_lt xs.1) xs.2).2.2.2.1 (W i v ev).2⟩
      · unfold spF; rw [f0, List.map_nil, List.append_nil]; exact sp_cAr (by decide) (by omega) (o4 0 (by decide)) (S1 0 (by decide))
      · unfold spT; rw [f1, List.map_nil, List.append_nil]; exact sp_cAr (by decide) (by omega) (o4 1 (by decide)) (S1 1 (by decide))
      · unfold spM; rw [f2, List.map_nil, List.append_nil]; exact sp_cAr (by decide) (by omega) (o4 2 (by decide)) (S1 2 (by decide))
      · unfold spG; rw [f3, List.map_nil, List.append_nil]
        obtain ⟨y, y1, y2, y3, y4, y5, y6⟩ := S1 3 (by decide)
        refine ⟨y, y1, by omega, y3, y4, by rw [List.length_map]; exact y5, by rw [List.length_map]; have := o4 3 (by decide); omega, fun i v ev => ?_⟩
        rw [List.getElem?_map] at ev
        cases hw : (ofK 3 M.2.1)[i]? with
        | none => rw [hw] at ev; cases ev
        | some w =>
          rw [hw] at ev
          cases ev
          obtain ⟨p0, p1, p2, p3, p4, p5⟩ := y6 i w hw
          exact ⟨p0, p1, p2, p5⟩
      · rw [hM0]; exact cAr_k st_xp K1y (by omega) (RM 8 (by omega)) (c7 (by decide))
      · rw [hM0]; exact cAr_k st_el K1y (by omega) (RM 9 (by omega)) (c8 (by decide))
      · rw [hM0]; exact cAr_k st_da K1y (by omega) (RM 10 (by omega)) (c9 (by decide))
      · rw [hM0]; exact cAr_k st_bo K1y (by omega) (RM 11 (by omega)) (c10 (by decide))
      · rw [hM0]; exact (N1.2.2.2.1 mm 13 sz1.2.2.1 (fun z => z)).trans c11
      · rw [hM0]; exact (N1.2.2.2.1 mm 14 sz1.2.2.1 (fun z => z)).trans c12
      · rw [hM0, (K1x lo (Nat.le_refl _) d3).2.2.1]; exact d6 i h1' h2'
    refine u_t (by decide) (u_b T.1.1.2.1 (u_t T.1.1.2.2.1 (u_b e1 ?_)))
    obtain ⟨h', e2, C'⟩ := c35_ok (q := q) LC1 T1 ((I1 12).trans i12) ((I1 5).trans i5) CM1 hlo (Int32.ofNat p)
    exact ⟨_, e2, h', rfl, C'⟩
end CLO
