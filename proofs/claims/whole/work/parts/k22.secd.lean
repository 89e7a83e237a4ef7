/-! THE CLASS READS: sections behind a fault; what a Module holds -/
section SECD
variable {h : pm_H} {b mm me sh : Nat} {f q : Int32}
theorem cd_c35 (T : dT h b mm me sh) (a : Int32) : cd_Q wH (dF b mm me sh) f q (fX9_closeSection_b35 (rc h a f q) 19) := by
  unfold fX9_closeSection_b35
  rw [rc_19 _ _ _ _ _ (by decide) (by decide) (by decide)]
  refine y_t T.1.1.1 (y_b T.1.1.2.1 (y_t T.1.1.2.2.1 (y_b T.1.1.2.2.2.1 (y_t T.1.1.2.2.2.2 (y_l ?_)))))
  rw [rc_19 _ _ _ _ _ (by decide) (by decide) (by decide)]
  exact y_r (a := a) rfl (dT_n T (nF_sI (nF_sI (nF_r h))))
theorem cd_c20 (T : dT h b mm me sh) (a : Int32) : cd_Q wH (dF b mm me sh) f q (fX9_closeSection_b20 (rc h a f q) 19) := by
  unfold fX9_closeSection_b20
  refine y_t T.1.1.1 (y_i (fun _ => y_b T.1.1.2.1 (y_t T.1.1.2.2.1 ?_)) (fun _ => cd_c35 T a))
  obtain ⟨h', e, T'⟩ := cd_shr (a := a) (f := f) (q := q) T
  exact y_b e (cd_c35 T' a)
theorem cd_close (T : dT h b mm me sh) (hf : f ≠ 0) (a : Int32) : cd_Q wH (dF b mm me sh) f q (fX9_closeSection (rc h a f q) 19) := by
  unfold fX9_closeSection fX9_closeSection_b0
  exact y_t T.1.1.1 (y_i (fun _ => cd_c20 T a) (fun _ => y_b (cd_fail T.1.1.1 hf _ _ _ _) (cd_c20 T a)))
theorem cd_138 (T : dT h b mm me sh) (hf : f ≠ 0) (a : Int32) : cd_Q wH (dF b mm me sh) f q (fX9_advance_b138 (rc h a f q) 19) := by
  unfold fX9_advance_b138 fX9_advance_b162
  exact y_t T.1.1.1 (y_i (fun _ => y_r (a := a) rfl T) (fun _ => y_i (fun _ => y_r (a := a) rfl T) (fun _ => y_h (cd_close T hf a) (fun h2 a2 T2 => y_r (a := a2) rfl T2))))
theorem cd_128 (T : dT h b mm me sh) (hf : f ≠ 0) (a : Int32) : cd_Q wH (dF b mm me sh) f q (fX9_advance_b128 (rc h a f q) 19) := by
  unfold fX9_advance_b128
  refine y_t T.1.1.1 (y_l ?_)
  rw [rc_19 _ _ _ _ _ (by decide) (by decide) (by decide)]
  exact cd_138 (dT_n T (nF_sI (nF_r h))) hf a
/-- how many, whatever stands there -/
theorem cd_fin (T : dT h b mm me sh) (hf : f ≠ 0) (a : Int32) : cd_Q wH (nF h) f q (fX9_finish (rc h a f q) 19) := by
  have K9 : pm_kd h 19 = 9 := T.1.1.1
  have km : pm_kd h mm = 7 := T.1.1.2.2.1
  obtain ⟨x4, r4, k4, l4, z4⟩ := T.2.2.2.2.2.1 4 (by decide) (by decide)
  obtain ⟨x3, r3, k3, l3, z3⟩ := T.2.2.2.2.2.1 3 (by decide) (by decide)
  obtain ⟨x11, r11, k11, l11, z11⟩ := T.2.2.2.2.2.2 11 (by decide) (by decide)
  obtain ⟨x10, r10, k10, l10, z10⟩ := T.2.2.2.2.2.2 10 (by decide) (by decide)
  have CN : fX7_count (rc h a f q) mm 0 = some (Int32.ofNat (pm_ln h x4) / 6) := by
    unfold fX7_count
    exact e9_t km (e9_b (fX7_space_k (h := rc h a f q) km (k := 0) (by decide) r4) (e9_t k4 rfl))
  obtain ⟨c, e1, -⟩ := imp_x (h := rc h a f q) km r3 k3 l3 0 81920 0 0 (show pm_ln h x3 ≤ (0 + 81920) * 6 by omega) (by omega) (by omega)
  have IM : fX7_imported (rc h a f q) mm 0 = some (Int32.ofNat c) := e1
  have Y : cd_Q wH (nF h) f q (some (rc h a f q)) := y_r (a := a) rfl (nF_r h)
  unfold fX9_finish
  exact y_t K9 (y_b T.1.1.2.1 (y_t km (y_b CN (y_b IM (y_l (y_b r11 (y_t k11 (y_i (fun _ => y_i (fun _ => Y) (fun _ => y_b r10 (y_t k10 (y_i (fun _ => Y) (fun _ => y_b (cd_fail K9 hf _ _ _ _) Y))))) (fun _ => y_b (cd_fail K9 hf _ _ _ _) (y_t K9 (y_b T.1.1.2.1 (y_t km (y_i (fun _ => Y) (fun _ => y_b r10 (y_t k10 (y_i (fun _ => Y) (fun _ => y_b (cd_fail K9 hf _ _ _ _) Y)))))))))))))))))
end SECD
/-- an array of a Module, its rows told by P -/
def cAr {α : Type} (P : pm_H → Nat → Nat → α → Prop) (k w j : Nat) (h : pm_H) (mm lo hi : Nat) (l : List α) : Prop := ∃ x, pm_R h mm j = some x ∧ lo ≤ x ∧ x < hi ∧ pm_kd h x = k ∧ pm_ln h x = l.length * w ∧ l.length ≤ 81920 ∧ ∀ i v, l[i]? = some v → P h x (i * w) v
def cTs (h : pm_H) (mm lo hi : Nat) (l : List tTy) : Prop := ∃ x, pm_R h mm 2 = some x ∧ lo ≤ x ∧ x < hi ∧ pm_kd h x = 36 ∧ pm_ln h x = l.length ∧ l.length ≤ 40960 ∧ ∀ i v, l[i]? = some v → pTyC h x i v ∧ ∃ s, pm_R h x i = some s ∧ lo ≤ s ∧ s < hi
/-- what stands in the spaces -/
def spF (M : tMd) : List tImp := ofK 0 M.2.1 ++ M.2.2.1.map (fun v => (0, v, 0, -1, 0))
def spT (M : tMd) : List tImp := ofK 1 M.2.1 ++ M.2.2.2.1.map (fun v => (1, v.1, v.2.1, v.2.2, 0))
def spM (M : tMd) : List tImp := ofK 2 M.2.1 ++ M.2.2.2.2.1.map (fun v => (2, 0, v.1, v.2, 0))
def spG (M : tMd) : List (tImp × Nat) := (ofK 3 M.2.1).map (fun v => (v, 0)) ++ M.2.2.2.2.2.1.map (fun v => ((3, v.1, 0, -1, v.2.1), v.2.2))
/-- the class's Module mm holds M, but for the section skip that is open; its cells are lo .. hi -/
def cMx (h : pm_H) (mm lo hi skip : Nat) (M : tMd) : Prop := (skip ≠ 1 → cTs h mm (lo + 1) hi M.1) ∧ (skip ≠ 2 → cAr pEnt 35 6 3 h mm (lo + 1) hi M.2.1) ∧ (skip ≠ 3 → cAr pEnt 35 6 4 h mm (lo + 1) hi (spF M)) ∧ (skip ≠ 4 → cAr pEnt 35 6 5 h mm (lo + 1) hi (spT M)) ∧ (skip ≠ 5 → cAr pEnt 35 6 6 h mm (lo + 1) hi (spM M)) ∧ (skip ≠ 6 → cAr pGe 35 6 7 h mm (lo + 1) hi (spG M)) ∧ (skip ≠ 7 → cAr pXpC 34 4 8 h mm (lo + 1) hi M.2.2.2.2.2.2.1) ∧ (skip ≠ 9 → cAr pElC 34 7 9 h mm (lo + 1) hi M.2.2.2.2.2.2.2.1) ∧ (skip ≠ 11 → cAr pDaC 34 7 10 h mm (lo + 1) hi M.2.2.2.2.2.2.2.2.1) ∧ (skip ≠ 10 → cAr pBoC 34 2 11 h mm (lo + 1) hi M.2.2.2.2.2.2.2.2.2.1) ∧ pm_L h mm 13 = on6 M.2.2.2.2.2.2.2.2.2.2.1 ∧ pm_L h mm 14 = on6 M.2.2.2.2.2.2.2.2.2.2.2.1 ∧ pm_R h mm 1 = some lo ∧ lo < hi ∧ pm_kd h lo = 34 ∧ pm_ln h lo = 13 ∧ ∀ i, 1 ≤ i → i < 13 → pm_I h lo i = on3 (M.2.2.2.2.2.2.2.2.2.2.2.2.1 i)
/-- all cells from lo up to hi stay -/
def kC (lo hi : Nat) (h h' : pm_H) : Prop := ∀ x, lo ≤ x → x < hi → pm_kd h' x = pm_kd h x ∧ pm_ln h' x = pm_ln h x ∧ pm_I h' x = pm_I h x ∧ pm_L h' x = pm_L h x ∧ pm_R h' x = pm_R h x
theorem cAr_k {α : Type} {P : pm_H → Nat → Nat → α → Prop} {k w j : Nat} {h h' : pm_H} {mm lo hi hi' : Nat} {l : List α} (st : stP P w) (K : kC lo hi h h') (hh : hi ≤ hi') (r : pm_R h' mm j = pm_R h mm j) (C : cAr P k w j h mm lo hi l) : cAr P k w j h' mm lo hi' l := by
  obtain ⟨x, x1, x2, x3, x4, x5, x6, x7⟩ := C
  obtain ⟨k1, k2, k3, k4, k5⟩ := K x x2 x3
  exact ⟨x, r.trans x1, x2, by omega, k1.trans x4, k2.trans x5, x6, fun i v e => st h h' x _ v (fun y _ _ => ⟨congrFun k3 y, congrFun k4 y⟩) (x7 i v e)⟩
theorem cTs_k {h h' : pm_H} {mm lo hi hi' : Nat} {l : List tTy} (K : kC lo hi h h') (hh : hi ≤ hi') (r : pm_R h' mm 2 = pm_R h mm 2) (C : cTs h mm lo hi l) : cTs h' mm lo hi' l := by
  obtain ⟨x, x1, x2, x3, x4, x5, x6, x7⟩ := C
  obtain ⟨k1, k2, k3, k4, k5⟩ := K x x2 x3
  refine ⟨x, r.trans x1, x2, by omega, k1.trans x4, k2.trans x5, x6, fun i v e => ?_⟩
  obtain ⟨⟨s, s1, s2, s3⟩, t, t1, t2, t3⟩ := x7 i v e
  have st : s = t := by rw [s1] at t1; exact Option.some.inj t1
  subst st
  obtain ⟨m1, m2, m3, m4, m5⟩ := K s t2 t3
  refine ⟨⟨s, by rw [k5]; exact s1, m1.trans s2, fun hb => ?_⟩, s, by rw [k5]; exact s1, t2, by omega⟩
  obtain ⟨z1, z2, z3, z4, z5⟩ := s3 hb
  exact ⟨m2.trans z1, by rw [m3]; exact z2, by rw [m3]; exact z3, fun j y e => by rw [m3]; exact z4 j y e, fun j y e => by rw [m3]; exact z5 j y e⟩
/-- a Module's content stays where its cells stay; jR: the row that was made anew -/
theorem cMx_k {h h' : pm_H} {mm lo hi hi' skip skip' : Nat} {M : tMd} (K : kC lo hi h h') (hh : hi ≤ hi') (sk : skip = 0 ∨ skip = skip') (r : ∀ j s, j ≠ 0 → s ≠ skip' → (s, j) ∈ [(1, 2), (2, 3), (3, 4), (4, 5), (5, 6), (6, 7), (7, 8), (9, 9), (11, 10), (10, 11), (99, 1)] → pm_R h' mm j = pm_R h mm j) (s9 : skip' ≠ 99) (l3 : pm_L h' mm 13 = pm_L h mm 13) (l4 : pm_L h' mm 14 = pm_L h mm 14) (C : cMx h mm lo hi skip M) : cMx h' mm lo hi' skip' M := by
  obtain ⟨c1, c2, c3, c4, c5, c6, c7, c8, c9, c10, c11, c12, d1, d3, d4, d5, d6⟩ := C
  have K' : kC (lo + 1) hi h h' := fun x a b => K x (by omega) b
  have S : ∀ s, s ≠ 0 → s ≠ skip' → skip ≠ s := fun s h0 h1 => by omega
  obtain ⟨k1, k2, k3, k4, k5⟩ := K lo (Nat.le_refl _) d3
  refine ⟨fun z => cTs_k K' hh (r 2 1 (by decide) (fun e => z e.symm) (by decide)) (c1 (S 1 (by decide) (fun e => z e.symm))), fun z => cAr_k st_ent K' hh (r 3 2 (by decide) (fun e => z e.symm) (by decide)) (c2 (S 2 (by decide) (fun e => z e.symm))), fun z => cAr_k st_ent K' hh (r 4 3 (by decide) (fun e => z e.symm) (by decide)) (c3 (S 3 (by decide) (fun e => z e.symm))), fun z => cAr_k st_ent K' hh (r 5 4 (by decide) (fun e => z e.symm) (by decide)) (c4 (S 4 (by decide) (fun e => z e.symm))), fun z => cAr_k st_ent K' hh (r 6 5 (by decide) (fun e => z e.symm) (by decide)) (c5 (S 5 (by decide) (fun e => z e.symm))), fun z => cAr_k st_ge K' hh (r 7 6 (by decide) (fun e => z e.symm) (by decide)) (c6 (S 6 (by decide) (fun e => z e.symm))), fun z => cAr_k st_xp K' hh (r 8 7 (by decide) (fun e => z e.symm) (by decide)) (c7 (S 7 (by decide) (fun e => z e.symm))), fun z => cAr_k st_el K' hh (r 9 9 (by decide) (fun e => z e.symm) (by decide)) (c8 (S 9 (by decide) (fun e => z e.symm))), fun z => cAr_k st_da K' hh (r 10 11 (by decide) (fun e => z e.symm) (by decide)) (c9 (S 11 (by decide) (fun e => z e.symm))), fun z => cAr_k st_bo K' hh (r 11 10 (by decide) (fun e => z e.symm) (by decide)) (c10 (S 10 (by decide) (fun e => z e.symm))), l3.trans c11, l4.trans c12, (r 1 99 (by decide) (fun e => s9 e.symm) (by decide)).trans d1, by omega, k1.trans d4, k2.trans d5, fun i h1 h2 => by rw [k3]; exact d6 i h1 h2⟩
