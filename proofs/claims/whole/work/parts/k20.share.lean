/-! THE CLASS READS: imports come first -/
section SHR
variable {h : pm_H} {b mm me sh x3 : Nat} {a f q : Int32}
/-- how many imports of a kind, whatever stands there -/
theorem imp_x (km : pm_kd h mm = 7) (r3 : pm_R h mm 3 = some x3) (k3 : pm_kd h x3 = 35) (l3 : pm_ln h x3 ≤ 491520) (k : Int32) : ∀ (j m c : Nat), pm_ln h x3 ≤ (m + j) * 6 → m * 6 ≤ pm_ln h x3 + 5 → c ≤ m → ∃ c', pm_lim (sX7_imported h) (mm, k, Int32.ofNat c, Int32.ofNat (m * 6)) = some (Int32.ofNat c') ∧ c' ≤ (pm_ln h x3 + 5) / 6 := by
  intro j
  induction j with
  | zero =>
    intro m c hm hm5 hc
    refine ⟨c, k_w (aX7_imported_0 ..) ?_, by omega⟩
    unfold tX7_imported_4
    exact k_t km (k_b r3 (k_t k3 (k_t (show Int32.ofNat (pm_ln h x3) ≤ Int32.ofNat (m * 6) by rw [nn_le (by omega) (by omega)]; omega) rfl)))
  | succ j ih =>
    intro m c hm hm5 hc
    by_cases e : pm_ln h x3 ≤ m * 6
    · refine ⟨c, k_w (aX7_imported_0 ..) ?_, by omega⟩
      unfold tX7_imported_4
      exact k_t km (k_b r3 (k_t k3 (k_t (show Int32.ofNat (pm_ln h x3) ≤ Int32.ofNat (m * 6) by rw [nn_le (by omega) (by omega)]; omega) rfl)))
    · have s6 : Int32.ofNat (m * 6) + 6 = Int32.ofNat ((m + 1) * 6) := (nn_ad (m * 6) 6).trans (congrArg Int32.ofNat (by omega))
      have hin : pm_in (Int32.ofNat (m * 6)) (pm_ln h x3) := by rw [nn_in (by omega)]; omega
      have ne : ¬ Int32.ofNat (pm_ln h x3) ≤ Int32.ofNat (m * 6) := by rw [nn_le (by omega) (by omega)]; omega
      by_cases z : pm_L h x3 (Int32.ofNat (m * 6)).toNatClampNeg = k.toInt64
      · obtain ⟨c', e1, e2⟩ := ih (m + 1) (c + 1) (by omega) (by omega) (by omega)
        refine ⟨c', k_w (aX7_imported_0 ..) ?_, e2⟩
        unfold tX7_imported_4
        refine k_t km (k_b r3 (k_t k3 (k_f ne (k_t hin (k_t z (k_l (k_l (k_n ?_))))))))
        rw [s6, show Int32.ofNat c + 1 = Int32.ofNat (c + 1) from nn_ad c 1]
        exact e1
      · obtain ⟨c', e1, e2⟩ := ih (m + 1) c (by omega) (by omega) (by omega)
        refine ⟨c', k_w (aX7_imported_0 ..) ?_, e2⟩
        unfold tX7_imported_4
        refine k_t km (k_b r3 (k_t k3 (k_f ne (k_t hin (k_f z (k_l (k_n ?_)))))))
        rw [s6]
        exact e1
/-- the imports of a kind -/
def ofK (k : Nat) (l : List tImp) : List tImp := l.filter (fun a => decide (a.1 = k))
theorem imp_e (km : pm_kd h mm = 7) (r3 : pm_R h mm 3 = some x3) (k3 : pm_kd h x3 = 35) {N k : Nat} (l3 : pm_ln h x3 = N * 6) (hN : N ≤ 81920) (hk : k < 4) : ∀ (l : List tImp) (m c : Nat), m + l.length = N → c ≤ m → (∀ i v, l[i]? = some v → v.1 < 4 ∧ pm_L h x3 ((m + i) * 6) = Int64.ofNat v.1) → pm_lim (sX7_imported h) (mm, Int32.ofNat k, Int32.ofNat c, Int32.ofNat (m * 6)) = some (Int32.ofNat (c + (ofK k l).length)) := by
  intro l
  induction l with
  | nil =>
    intro m c hm hc W
    have hm : m = N := hm
    refine k_w (aX7_imported_0 ..) ?_
    unfold tX7_imported_4
    exact k_t km (k_b r3 (k_t k3 (k_t (show Int32.ofNat (pm_ln h x3) ≤ Int32.ofNat (m * 6) by rw [nn_le (by omega) (by omega)]; omega) rfl)))
  | cons v l ih =>
    intro m c hm hc W
    rw [List.length_cons] at hm
    have s6 : Int32.ofNat (m * 6) + 6 = Int32.ofNat ((m + 1) * 6) := (nn_ad (m * 6) 6).trans (congrArg Int32.ofNat (by omega))
    have hin : pm_in (Int32.ofNat (m * 6)) (pm_ln h x3) := by rw [nn_in (by omega)]; omega
    have ne : ¬ Int32.ofNat (pm_ln h x3) ≤ Int32.ofNat (m * 6) := by rw [nn_le (by omega) (by omega)]; omega
    obtain ⟨v4, ev⟩ := W 0 v rfl
    rw [Nat.add_zero] at ev
    have W' : ∀ i w, l[i]? = some w → w.1 < 4 ∧ pm_L h x3 ((m + 1 + i) * 6) = Int64.ofNat w.1 := fun i w e => by have := W (i + 1) w e; rw [show m + 1 + i = m + (i + 1) by omega]; exact this
    have k6 : (Int32.ofNat k).toInt64 = Int64.ofNat k := nn_t6 (by omega)
    refine k_w (aX7_imported_0 ..) ?_
    unfold tX7_imported_4
    refine k_t km (k_b r3 (k_t k3 (k_f ne (k_t hin ?_))))
    rw [s6]
    by_cases z : v.1 = k
    · refine k_t (by rw [nn_cm (by omega), ev, k6, z]) (k_l (k_l (k_n ?_)))
      rw [show Int32.ofNat c + 1 = Int32.ofNat (c + 1) from nn_ad c 1, ih (m + 1) (c + 1) (by omega) (by omega) W']
      have : (ofK k (v :: l)).length = (ofK k l).length + 1 := by
        unfold ofK
        rw [List.filter_cons, if_pos (by rw [z]; exact decide_eq_true rfl), List.length_cons]
      rw [this]
      exact congrArg (fun z => some (Int32.ofNat z)) (by omega)
    · refine k_f (by rw [nn_cm (by omega), ev, k6, ll_eq (by omega) (by omega)]; exact z) (k_l (k_n ?_))
      rw [ih (m + 1) c (by omega) (by omega) W']
      have : ofK k (v :: l) = ofK k l := by
        unfold ofK
        rw [List.filter_cons, if_neg (by rw [decide_eq_false z]; decide)]
      rw [this]
theorem setS (km : pm_kd h mm = 7) {k : Nat} (hk : k < 4) (x : Nat) : fX7_setSpace h mm (Int32.ofNat k) x = some (pm_setR h mm (4 + k) (some x)) := by
  unfold fX7_setSpace
  rcases (show k = 0 ∨ k = 1 ∨ k = 2 ∨ k = 3 by omega) with rfl | rfl | rfl | rfl
  · exact e9_t (by decide) (e9_t km rfl)
  · exact e9_f (by decide) (e9_t (by decide) (e9_t km rfl))
  · exact e9_f (by decide) (e9_f (by decide) (e9_t (by decide) (e9_t km rfl)))
  · exact e9_f (by decide) (e9_f (by decide) (e9_f (by decide) (e9_t km rfl)))
/-- where it ends: the space is set, the next kind -/
theorem sh_fin (km : pm_kd h mm = 7) {k x : Nat} (hk : k < 4) {Q : Option pm_H → Prop} (K : Q (pm_lim sX7_shareImports (.inr (.inl (mm, Int32.ofNat (k + 1), rc (pm_setR h mm (4 + k) (some x)) a f q))))) : Q (ev_k sX7_shareImports ((fX7_setSpace (rc h a f q) mm (Int32.ofNat k) x).bind fun v13 => pm_let (Int32.ofNat k + 1) fun y16 => some (.inl (.inr (.inl ((mm, y16, v13))))))) := by
  have e := setS (h := rc h a f q) km hk x
  have : ev_k sX7_shareImports ((fX7_setSpace (rc h a f q) mm (Int32.ofNat k) x).bind fun v13 => pm_let (Int32.ofNat k + 1) fun y16 => some (.inl (.inr (.inl ((mm, y16, v13)))))) = pm_lim sX7_shareImports (.inr (.inl (mm, Int32.ofNat (k + 1), rc (pm_setR h mm (4 + k) (some x)) a f q))) := by
    refine k_b e (k_l (k_n ?_))
    rw [show Int32.ofNat k + 1 = Int32.ofNat (k + 1) from nn_ad k 1]
    rfl
  rw [this]
  exact K
/-- whatever stands there -/
theorem sh_x : ∀ (kk k : Nat) (h : pm_H), k + kk = 4 → dT h b mm me sh → ∃ h', pm_lim sX7_shareImports (.inr (.inl (mm, Int32.ofNat k, rc h a f q))) = some (rc h' a f q) ∧ dT h' b mm me sh := by
  intro kk
  induction kk with
  | zero =>
    intro k h hk T
    refine ⟨h, k_w (aX7_shareImports_1 ..) ?_, T⟩
    unfold tX7_shareImports_2
    exact k_t (show Int32.ofNat 4 ≤ Int32.ofNat k by rw [nn_le (by decide) (by omega)]; omega) rfl
  | succ kk ih =>
    intro k h hk T
    have km : pm_kd h mm = 7 := T.1.1.2.2.1
    have K9 : pm_kd h 19 = 9 := T.1.1.1
    have s19 := T.2.2.1.1
    have sm := T.2.2.1.2.2.1
    obtain ⟨x3, r3, k3, l3, z3⟩ := T.2.2.2.2.2.1 3 (by decide) (by decide)
    obtain ⟨c, e1, hc⟩ := imp_x (h := rc h a f q) km r3 k3 l3 (Int32.ofNat k) 81920 0 0 (show pm_ln h x3 ≤ (0 + 81920) * 6 by omega) (by omega) (by omega)
    have lr : pm_ln (rc h a f q) x3 = pm_ln h x3 := rfl
    rw [lr] at hc
    have c6 : c * 6 ≤ 491520 := by omega
    have A0 := nA_new h 35 (c * 6)
    have T1 := dT_A T A0
    -- the loop
    have LOOP : ∀ (j i fl : Nat) (h1 : pm_H), pm_ln h x3 ≤ (i + j) * 6 → i ≤ 100000 → fl ≤ i → nF (pm_new h 35 (c * 6)) h1 → ∃ h', pm_lim sX7_shareImports (.inr (.inr (.inr (mm, Int32.ofNat k, pm_sz h, Int32.ofNat (fl * 6), Int32.ofNat (i * 6), rc h1 a f q)))) = some (rc h' a f q) ∧ dT h' b mm me sh := by
      intro j
      induction j with
      | zero =>
        intro i fl h1 hi hi2 hfl g
        have T2 := dT_n T1 g
        have hx3 : x3 ≠ pm_sz h := by omega
        have rx : pm_R h1 mm 3 = some x3 := gR g (((A0.2.2.2 mm (by omega)).2.2.2.2 ▸ r3 : pm_R (pm_new h 35 (c * 6)) mm 3 = some x3))
        have kx : pm_kd h1 x3 = 35 := gk g ((A0.2.2.2 x3 hx3).1.trans k3)
        have lx : pm_ln h1 x3 = pm_ln h x3 := (nF_ln g).trans (A0.2.2.2 x3 hx3).2.1
        have km1 : pm_kd h1 mm = 7 := T2.1.1.2.2.1
        have kn : pm_kd h1 (pm_sz h) = 35 := gk g A0.2.1
        have ln' : pm_ln h1 (pm_sz h) = c * 6 := (nF_ln g).trans A0.2.2.1
        have T3 : dT (pm_setR h1 mm (4 + k) (some (pm_sz h))) b mm me sh := dT_R T2 (by omega) (fun z => by omega) (fun z => by omega) (fun _ _ => ⟨kn, by rw [ln']; exact c6, by rw [g.1, A0.1]; omega⟩) (fun z _ => by omega)
        obtain ⟨h', e, T'⟩ := ih (k + 1) _ (by omega) T3
        have s6 : Int32.ofNat (i * 6) + 6 = Int32.ofNat (i * 6 + 6) := nn_ad _ 6
        rw [ev_lm, aX7_shareImports_3]
        unfold tX7_shareImports_23
        refine ⟨h', k_t km1 (k_b rx (k_t kx ?_)), T'⟩
        rw [s6]
        exact k_t (show Int32.ofNat (pm_ln h1 x3) < Int32.ofNat (i * 6 + 6) by rw [lx, nn_lt (by omega) (by omega)]; omega) (sh_fin (Q := fun x => x = some (rc h' a f q)) km1 (by omega) e)
      | succ j ihj =>
        intro i fl h1 hi hi2 hfl g
        have T2 := dT_n T1 g
        have hx3 : x3 ≠ pm_sz h := by omega
        have rx : pm_R h1 mm 3 = some x3 := gR g (((A0.2.2.2 mm (by omega)).2.2.2.2 ▸ r3 : pm_R (pm_new h 35 (c * 6)) mm 3 = some x3))
        have kx : pm_kd h1 x3 = 35 := gk g ((A0.2.2.2 x3 hx3).1.trans k3)
        have lx : pm_ln h1 x3 = pm_ln h x3 := (nF_ln g).trans (A0.2.2.2 x3 hx3).2.1
        have km1 : pm_kd h1 mm = 7 := T2.1.1.2.2.1
        have kn : pm_kd h1 (pm_sz h) = 35 := gk g A0.2.1
        have ln' : pm_ln h1 (pm_sz h) = c * 6 := (nF_ln g).trans A0.2.2.1
        have T3 : dT (pm_setR h1 mm (4 + k) (some (pm_sz h))) b mm me sh := dT_R T2 (by omega) (fun z => by omega) (fun z => by omega) (fun _ _ => ⟨kn, by rw [ln']; exact c6, by rw [g.1, A0.1]; omega⟩) (fun z _ => by omega)
        obtain ⟨h', e, T'⟩ := ih (k + 1) _ (by omega) T3
        have s6 : Int32.ofNat (i * 6) + 6 = Int32.ofNat (i * 6 + 6) := nn_ad _ 6
        have t6 : Int32.ofNat (fl * 6) + 6 = Int32.ofNat (fl * 6 + 6) := nn_ad _ 6
        by_cases c1 : pm_ln h x3 < i * 6 + 6
        · rw [ev_lm, aX7_shareImports_3]
          unfold tX7_shareImports_23
          refine ⟨h', k_t km1 (k_b rx (k_t kx ?_)), T'⟩
          rw [s6]
          exact k_t (show Int32.ofNat (pm_ln h1 x3) < Int32.ofNat (i * 6 + 6) by rw [lx, nn_lt (by omega) (by omega)]; omega) (sh_fin (Q := fun x => x = some (rc h' a f q)) km1 (by omega) e)
        by_cases c2 : c * 6 < fl * 6 + 6
        · rw [ev_lm, aX7_shareImports_3]
          unfold tX7_shareImports_23
          refine ⟨h', k_t km1 (k_b rx (k_t kx ?_)), T'⟩
          rw [s6, t6]
          exact k_f (show ¬ Int32.ofNat (pm_ln h1 x3) < Int32.ofNat (i * 6 + 6) by rw [lx, nn_lt (by omega) (by omega)]; omega) (k_t kn (k_t (show Int32.ofNat (pm_ln h1 (pm_sz h)) < Int32.ofNat (fl * 6 + 6) by rw [ln', nn_lt (by omega) (by omega)]; omega) (sh_fin (Q := fun x => x = some (rc h' a f q)) km1 (by omega) e)))
        · have hin : pm_in (Int32.ofNat (i * 6)) (pm_ln h1 x3) := by rw [lx, nn_in (by omega)]; omega
          by_cases z : pm_L (rc h1 a f q) x3 (Int32.ofNat (i * 6)).toNatClampNeg = (Int32.ofNat k).toInt64
          · obtain ⟨h9, e9, T9⟩ := ihj (i + 1) (fl + 1) (pm_cpL h1 x3 (i * 6) (pm_sz h) (fl * 6) 6) (by omega) (by omega) (by omega) ⟨g.1, g.2.1, g.2.2.1, g.2.2.2⟩
            rw [ev_lm, aX7_shareImports_3]
            unfold tX7_shareImports_23
            refine ⟨h9, k_t km1 (k_b rx (k_t kx ?_)), T9⟩
            rw [s6, t6]
            refine k_f (show ¬ Int32.ofNat (pm_ln h1 x3) < Int32.ofNat (i * 6 + 6) by rw [lx, nn_lt (by omega) (by omega)]; omega) (k_t kn (k_f (show ¬ Int32.ofNat (pm_ln h1 (pm_sz h)) < Int32.ofNat (fl * 6 + 6) by rw [ln', nn_lt (by omega) (by omega)]; omega) (k_t hin (k_t z (k_t ⟨?_, ?_, by decide, ?_, ?_⟩ (k_l (k_l (k_n ?_))))))))
            · rw [n3_0, nn_lt (by omega) (by decide)]; omega
            · rw [n3_0, nn_lt (by omega) (by decide)]; omega
            · rw [nn_cm (by omega)]; show i * 6 + 6 ≤ pm_ln h1 x3; omega
            · rw [nn_cm (by omega)]; show fl * 6 + 6 ≤ pm_ln h1 (pm_sz h); omega
            · rw [nn_cm (by omega), nn_cm (by omega), show i * 6 + 6 = (i + 1) * 6 by omega, show fl * 6 + 6 = (fl + 1) * 6 by omega]
              exact e9
          · obtain ⟨h9, e9, T9⟩ := ihj (i + 1) fl h1 (by omega) (by omega) (by omega) g
            rw [ev_lm, aX7_shareImports_3]
            unfold tX7_shareImports_23
            refine ⟨h9, k_t km1 (k_b rx (k_t kx ?_)), T9⟩
            rw [s6, t6]
            refine k_f (show ¬ Int32.ofNat (pm_ln h1 x3) < Int32.ofNat (i * 6 + 6) by rw [lx, nn_lt (by omega) (by omega)]; omega) (k_t kn (k_f (show ¬ Int32.ofNat (pm_ln h1 (pm_sz h)) < Int32.ofNat (fl * 6 + 6) by rw [ln', nn_lt (by omega) (by omega)]; omega) (k_t hin (k_f z (k_l (k_n ?_))))))
            rw [show i * 6 + 6 = (i + 1) * 6 by omega]
            exact e9
    obtain ⟨h', e2, T'⟩ := LOOP 81920 0 0 (pm_new h 35 (c * 6)) (by omega) (by omega) (by omega) (nF_r _)
    refine ⟨h', k_w (aX7_shareImports_1 ..) ?_, T'⟩
    unfold tX7_shareImports_2
    refine k_f (show ¬ Int32.ofNat 4 ≤ Int32.ofNat k by rw [nn_le (by decide) (by omega)]; omega) (k_t km (k_b e1 (k_l ?_)))
    have m6 : Int32.ofNat c * 6 = Int32.ofNat (c * 6) := nn_ml c 6
    rw [m6]
    refine k_t ⟨by rw [n3_0, nn_lt (by omega) (by decide)]; omega, by rw [nn_cm (by omega)]; omega⟩ (k_n ?_)
    rw [nn_cm (by omega), rc_N s19]
    refine k_w (aX7_shareImports_2 ..) ?_
    unfold tX7_shareImports_17
    exact k_n e2
theorem cd_shr (T : dT h b mm me sh) : ∃ h', fX7_shareImports (rc h a f q) mm = some (rc h' a f q) ∧ dT h' b mm me sh := by
  obtain ⟨h', e, T'⟩ := sh_x (a := a) (f := f) (q := q) 4 0 h (by decide) T
  refine ⟨h', ?_, T'⟩
  unfold fX7_shareImports
  refine k_w (aX7_shareImports_0 ..) ?_
  unfold tX7_shareImports_0
  exact k_n e
/-- six numbers moved -/
theorem cp_ent {h : pm_H} {x y i j : Nat} (hxy : x ≠ y) {v : tImp} (W : pEnt h x i v) : pEnt (pm_cpL h x i y j 6) y j v := by
  have E : ∀ z, z < 6 → pm_L (pm_cpL h x i y j 6) y (j + z) = pm_L h x (i + z) := by
    intro z hz
    show (if y = y then va_cpy (pm_L h x) (pm_L h y) i j 6 (j + z) else _) = _
    rw [if_pos rfl]
    show (if j ≤ j + z ∧ j + z < j + 6 then pm_L h x (i + (j + z - j)) else _) = _
    rw [if_pos ⟨by omega, by omega⟩, show i + (j + z - j) = i + z by omega]
  obtain ⟨a, b, c, d, e, f⟩ := W
  exact ⟨(E 0 (by decide)).trans a, (E 1 (by decide)).trans b, (E 2 (by decide)).trans c, (E 3 (by decide)).trans d, (E 4 (by decide)).trans e, (E 5 (by decide)).trans f⟩
theorem cp_oth {h : pm_H} {x y i j k : Nat} (hk : k + 6 ≤ j) {v : tImp} (W : pEnt h y k v) : pEnt (pm_cpL h x i y j 6) y k v := by
  have E : ∀ z, z < 6 → pm_L (pm_cpL h x i y j 6) y (k + z) = pm_L h y (k + z) := by
    intro z hz
    show (if y = y then va_cpy (pm_L h x) (pm_L h y) i j 6 (k + z) else _) = _
    rw [if_pos rfl]
    show (if j ≤ k + z ∧ k + z < j + 6 then _ else pm_L h y (k + z)) = _
    rw [if_neg (by omega)]
  obtain ⟨a, b, c, d, e, f⟩ := W
  exact ⟨(E 0 (by decide)).trans a, (E 1 (by decide)).trans b, (E 2 (by decide)).trans c, (E 3 (by decide)).trans d, (E 4 (by decide)).trans e, (E 5 (by decide)).trans f⟩
theorem pEnt_L {h h' : pm_H} {x i : Nat} {v : tImp} (e : pm_L h' x = pm_L h x) (W : pEnt h x i v) : pEnt h' x i v := by
  unfold pEnt at W ⊢
  rw [e]
  exact W
/-- a space as it is once the imports are shared -/
def spK (h : pm_H) (mm lo k : Nat) (l : List tImp) : Prop := ∃ x, pm_R h mm (4 + k) = some x ∧ lo ≤ x ∧ x < pm_sz h ∧ pm_kd h x = 35 ∧ pm_ln h x = l.length * 6 ∧ ∀ i v, l[i]? = some v → pEnt h x (i * 6) v
theorem sh_e {imps : List tImp} {lo : Nat} : ∀ (kk k : Nat) (h : pm_H), k + kk = 4 → dT h b mm me sh → pm_R h mm 3 = some x3 → pm_kd h x3 = 35 → pm_ln h x3 = imps.length * 6 → x3 < lo → lo ≤ pm_sz h → imps.length ≤ 40960 → (∀ i v, imps[i]? = some v → v.1 < 4 ∧ pEnt h x3 (i * 6) v) → (∀ j, j < k → spK h mm lo j (ofK j imps)) → ∃ h', pm_lim sX7_shareImports (.inr (.inl (mm, Int32.ofNat k, rc h a f q))) = some (rc h' a f q) ∧ dT h' b mm me sh ∧ nW (fun _ _ => False) (fun _ _ => False) (fun X Y => X = mm ∧ 4 ≤ Y ∧ Y ≤ 7) h h' ∧ ∀ j, j < 4 → spK h' mm lo j (ofK j imps) := by
  intro kk
  induction kk with
  | zero =>
    intro k h hk T r3 k3 l3 hlo hsz hN W S
    refine ⟨h, k_w (aX7_shareImports_1 ..) ?_, T, nW_r h, fun j hj => S j (by omega)⟩
    unfold tX7_shareImports_2
    exact k_t (show Int32.ofNat 4 ≤ Int32.ofNat k by rw [nn_le (by decide) (by omega)]; omega) rfl
  | succ kk ih =>
    intro k h hk T r3 k3 l3 hlo hsz hN W S
    have km : pm_kd h mm = 7 := T.1.1.2.2.1
    have K9 : pm_kd h 19 = 9 := T.1.1.1
    have s19 := T.2.2.1.1
    have sm := T.2.2.1.2.2.1
    have e1 := imp_e (h := rc h a f q) km r3 k3 l3 (by omega) (show k < 4 by omega) imps 0 0 (by omega) (Nat.le_refl _) (fun i v e => ⟨(W i v e).1, by rw [Nat.zero_add]; exact (W i v e).2.1⟩)
    rw [Nat.zero_add] at e1
    obtain ⟨c, ec⟩ : ∃ c, c = (ofK k imps).length := ⟨_, rfl⟩
    rw [← ec] at e1
    have cN : c ≤ imps.length := by rw [ec]; exact List.length_filter_le _ _
    have A0 := nA_new h 35 (c * 6)
    have T1 := dT_A T A0
    have hx3 : x3 ≠ pm_sz h := by omega
    have LOOP : ∀ (l : List tImp) (i : Nat) (acc : List tImp) (h1 : pm_H), i + l.length = imps.length → acc.length + (ofK k l).length = c → acc.length ≤ i → (∀ j v, l[j]? = some v → imps[i + j]? = some v) → gF (fun _ _ => False) (fun X _ => X = pm_sz h) (pm_new h 35 (c * 6)) h1 → (∀ j v, acc[j]? = some v → pEnt h1 (pm_sz h) (j * 6) v) → ∃ h2, pm_lim sX7_shareImports (.inr (.inr (.inr (mm, Int32.ofNat k, pm_sz h, Int32.ofNat (acc.length * 6), Int32.ofNat (i * 6), rc h1 a f q)))) = pm_lim sX7_shareImports (.inr (.inl (mm, Int32.ofNat (k + 1), rc (pm_setR h2 mm (4 + k) (some (pm_sz h))) a f q))) ∧ gF (fun _ _ => False) (fun X _ => X = pm_sz h) (pm_new h 35 (c * 6)) h2 ∧ ∀ j v, (acc ++ ofK k l)[j]? = some v → pEnt h2 (pm_sz h) (j * 6) v := by
      intro l
      induction l with
      | nil =>
        intro i acc h1 hi hacc hai hl g Wa
        have hi : i = imps.length := hi
        have gn : nF (pm_new h 35 (c * 6)) h1 := nF_g g
        have T2 := dT_n T1 gn
        have rx : pm_R h1 mm 3 = some x3 := gR gn (((A0.2.2.2 mm (by omega)).2.2.2.2 ▸ r3 : pm_R (pm_new h 35 (c * 6)) mm 3 = some x3))
        have kx : pm_kd h1 x3 = 35 := gk gn ((A0.2.2.2 x3 hx3).1.trans k3)
        have lx : pm_ln h1 x3 = imps.length * 6 := (nF_ln gn).trans ((A0.2.2.2 x3 hx3).2.1.trans l3)
        have km1 : pm_kd h1 mm = 7 := T2.1.1.2.2.1
        have s6 : Int32.ofNat (i * 6) + 6 = Int32.ofNat (i * 6 + 6) := nn_ad _ 6
        refine ⟨h1, k_w (aX7_shareImports_3 ..) ?_, g, fun j v e => Wa j v (by rw [show ofK k [] = [] from rfl, List.append_nil] at e; exact e)⟩
        unfold tX7_shareImports_23
        rw [s6]
        refine k_t km1 (k_b rx (k_t kx (k_t (show Int32.ofNat (pm_ln h1 x3) < Int32.ofNat (i * 6 + 6) by rw [lx, nn_lt (by omega) (by omega)]; omega) ?_)))
        exact sh_fin (Q := fun x => x = _) km1 (by omega) rfl
      | cons w l ihl =>
        intro i acc h1 hi hacc hai hl g Wa
        rw [List.length_cons] at hi
        have gn : nF (pm_new h 35 (c * 6)) h1 := nF_g g
        have T2 := dT_n T1 gn
        have rx : pm_R h1 mm 3 = some x3 := gR gn (((A0.2.2.2 mm (by omega)).2.2.2.2 ▸ r3 : pm_R (pm_new h 35 (c * 6)) mm 3 = some x3))
        have kx : pm_kd h1 x3 = 35 := gk gn ((A0.2.2.2 x3 hx3).1.trans k3)
        have lx : pm_ln h1 x3 = imps.length * 6 := (nF_ln gn).trans ((A0.2.2.2 x3 hx3).2.1.trans l3)
        have km1 : pm_kd h1 mm = 7 := T2.1.1.2.2.1
        have kn : pm_kd h1 (pm_sz h) = 35 := gk gn A0.2.1
        have ln' : pm_ln h1 (pm_sz h) = c * 6 := (nF_ln gn).trans A0.2.2.1
        have s6 : Int32.ofNat (i * 6) + 6 = Int32.ofNat (i * 6 + 6) := nn_ad _ 6
        have t6 : Int32.ofNat (acc.length * 6) + 6 = Int32.ofNat (acc.length * 6 + 6) := nn_ad _ 6
        have hin : pm_in (Int32.ofNat (i * 6)) (pm_ln h1 x3) := by rw [lx, nn_in (by omega)]; omega
        obtain ⟨w4, we⟩ := W i w (hl 0 w rfl)
        have k6 : (Int32.ofNat k).toInt64 = Int64.ofNat k := nn_t6 (by omega)
        have L3 : pm_L h1 x3 = pm_L h x3 := by
          funext y
          rw [g.2.2.2.2.2 x3 y hx3, (A0.2.2.2 x3 hx3).2.2.2.1]
        have ent : pEnt h1 x3 (i * 6) w := pEnt_L L3 we
        have hl' : ∀ j v, l[j]? = some v → imps[i + 1 + j]? = some v := fun j v e => by have := hl (j + 1) v e; rw [show i + 1 + j = i + (j + 1) by omega]; exact this
        have ne1 : ¬ Int32.ofNat (pm_ln h1 x3) < Int32.ofNat (i * 6 + 6) := by rw [lx, nn_lt (by omega) (by omega)]; omega
        by_cases z : w.1 = k
        · have oK : ofK k (w :: l) = w :: ofK k l := by
            unfold ofK
            rw [List.filter_cons, if_pos (by rw [z]; exact decide_eq_true rfl)]
          rw [oK, List.length_cons] at hacc
          have g' : gF (fun _ _ => False) (fun X _ => X = pm_sz h) (pm_new h 35 (c * 6)) (pm_cpL h1 x3 (i * 6) (pm_sz h) (acc.length * 6) 6) := by
            refine gF_t g ⟨rfl, rfl, rfl, rfl, fun _ _ _ => rfl, fun X Y n => ?_⟩
            show (if X = pm_sz h then _ else pm_L h1 X Y) = _
            rw [if_neg n]
          obtain ⟨h2, e2, g2, W2⟩ := ihl (i + 1) (acc ++ [w]) _ (by omega) (by rw [List.length_append]; show acc.length + 1 + _ = c; omega) (by rw [List.length_append]; show acc.length + 1 ≤ _; omega) hl' g' (by
            intro j v e
            by_cases hj : j < acc.length
            · rw [List.getElem?_append_left hj] at e
              exact cp_oth (by omega) (Wa j v e)
            · rw [List.getElem?_append_right (by omega)] at e
              have hj0 : j - acc.length = 0 := by
                by_cases z0 : j - acc.length = 0
                · exact z0
                · exfalso
                  rw [List.getElem?_eq_none (by show 1 ≤ _; omega)] at e
                  cases e
              rw [hj0] at e
              cases e
              rw [show j = acc.length by omega]
              exact cp_ent hx3 ent)
          refine ⟨h2, k_w (aX7_shareImports_3 ..) ?_, g2, fun j v e => W2 j v (by rw [oK] at e; rw [List.append_assoc]; exact e)⟩
          unfold tX7_shareImports_23
          rw [s6, t6]
          refine k_t km1 (k_b rx (k_t kx (k_f ne1 (k_t kn (k_f (show ¬ Int32.ofNat (pm_ln h1 (pm_sz h)) < Int32.ofNat (acc.length * 6 + 6) by rw [ln', nn_lt (by omega) (by omega)]; omega) (k_t hin (k_t (show pm_L h1 x3 (Int32.ofNat (i * 6)).toNatClampNeg = (Int32.ofNat k).toInt64 by rw [nn_cm (by omega), k6, ent.1, z]) (k_t ⟨?_, ?_, by decide, ?_, ?_⟩ (k_l (k_l (k_n ?_)))))))))))
          · rw [n3_0, nn_lt (by omega) (by decide)]; omega
          · rw [n3_0, nn_lt (by omega) (by decide)]; omega
          · rw [nn_cm (by omega)]; show i * 6 + 6 ≤ pm_ln h1 x3; omega
          · rw [nn_cm (by omega)]; show acc.length * 6 + 6 ≤ pm_ln h1 (pm_sz h); omega
          · rw [nn_cm (by omega), nn_cm (by omega), show i * 6 + 6 = (i + 1) * 6 by omega, show acc.length * 6 + 6 = (acc ++ [w]).length * 6 by rw [List.length_append]; show _ = (acc.length + 1) * 6; omega]
            exact e2
        · have oK : ofK k (w :: l) = ofK k l := by
            unfold ofK
            rw [List.filter_cons, if_neg (by rw [decide_eq_false z]; decide)]
          rw [oK] at hacc ⊢
          have nz : ¬ pm_L h1 x3 (Int32.ofNat (i * 6)).toNatClampNeg = (Int32.ofNat k).toInt64 := by rw [nn_cm (by omega), k6, ent.1, ll_eq (by omega) (by omega)]; exact z
          by_cases c2 : c * 6 < acc.length * 6 + 6
          · -- no more of them
            have o0 : ofK k l = [] := List.eq_nil_of_length_eq_zero (by omega)
            refine ⟨h1, k_w (aX7_shareImports_3 ..) ?_, g, fun j v e => Wa j v (by rw [o0, List.append_nil] at e; exact e)⟩
            unfold tX7_shareImports_23
            rw [s6, t6]
            refine k_t km1 (k_b rx (k_t kx (k_f ne1 (k_t kn (k_t (show Int32.ofNat (pm_ln h1 (pm_sz h)) < Int32.ofNat (acc.length * 6 + 6) by rw [ln', nn_lt (by omega) (by omega)]; omega) ?_)))))
            exact sh_fin (Q := fun x => x = _) km1 (by omega) rfl
          · obtain ⟨h2, e2, g2, W2⟩ := ihl (i + 1) acc h1 (by omega) hacc (by omega) hl' g Wa
            refine ⟨h2, k_w (aX7_shareImports_3 ..) ?_, g2, W2⟩
            unfold tX7_shareImports_23
            rw [s6, t6]
            refine k_t km1 (k_b rx (k_t kx (k_f ne1 (k_t kn (k_f (show ¬ Int32.ofNat (pm_ln h1 (pm_sz h)) < Int32.ofNat (acc.length * 6 + 6) by rw [ln', nn_lt (by omega) (by omega)]; omega) (k_t hin (k_f nz (k_l (k_n ?_)))))))))
            rw [show i * 6 + 6 = (i + 1) * 6 by omega]
            exact e2
    obtain ⟨h2, e2, g2, W2⟩ := LOOP imps 0 [] (pm_new h 35 (c * 6)) (by omega) (by show 0 + _ = c; omega) (by show 0 ≤ 0; omega) (fun j v e => by rw [Nat.zero_add]; exact e) (gF_r _ _ _) (fun j v e => by cases e)
    have gn : nF (pm_new h 35 (c * 6)) h2 := nF_g g2
    have T2 := dT_n T1 gn
    have kn : pm_kd h2 (pm_sz h) = 35 := gk gn A0.2.1
    have ln' : pm_ln h2 (pm_sz h) = c * 6 := (nF_ln gn).trans A0.2.2.1
    have sz2 : pm_sz h2 = pm_sz h + 1 := gn.1.trans A0.1
    have T3 : dT (pm_setR h2 mm (4 + k) (some (pm_sz h))) b mm me sh := dT_R T2 (by omega) (fun z => by omega) (fun z => by omega) (fun _ _ => ⟨kn, by rw [ln']; omega, by omega⟩) (fun z _ => by omega)
    have OLD : ∀ x, x < pm_sz h → pm_kd h2 x = pm_kd h x ∧ pm_ln h2 x = pm_ln h x ∧ pm_L h2 x = pm_L h x ∧ pm_R h2 x = pm_R h x := by
      intro x hx
      obtain ⟨a1, a2, a3, a4, a5⟩ := A0.2.2.2 x (by omega)
      refine ⟨(congrFun gn.2.1 x).trans a1, (nF_ln gn).trans a2, ?_, (congrFun gn.2.2.2 x).trans a5⟩
      funext y
      rw [g2.2.2.2.2.2 x y (show ¬ x = pm_sz h by omega), a4]
    obtain ⟨o1, o2, o3, o4⟩ := OLD x3 (by omega)
    obtain ⟨m1, m2, m3, m4⟩ := OLD mm sm
    have RM : ∀ y, y ≠ 4 + k → pm_R (pm_setR h2 mm (4 + k) (some (pm_sz h))) mm y = pm_R h mm y := fun y hy => by rw [ev_RR, if_pos rfl, if_neg hy, m4]
    obtain ⟨h', e9, T9, N9, S9⟩ := ih (k + 1) (pm_setR h2 mm (4 + k) (some (pm_sz h))) (by omega) T3 ((RM 3 (by omega)).trans r3) (o1.trans k3) (o2.trans l3) hlo (by rw [ev_szR]; omega) hN (fun i v e => ⟨(W i v e).1, pEnt_L (h := h) (by funext y; rw [ev_LR, o3]) (W i v e).2⟩) (by
      intro j hj
      by_cases jk : j = k
      · subst jk
        exact ⟨pm_sz h, by rw [ev_RR, if_pos rfl, if_pos rfl], hsz, by rw [ev_szR]; omega, kn, by rw [ev_lnR, ln', ec], fun i v e => pEnt_L (h := h2) rfl (W2 i v (by rw [List.nil_append]; exact e))⟩
      · obtain ⟨x, x1, x2, x3', x4, x5, x6⟩ := S j (by omega)
        obtain ⟨p1, p2, p3, p4⟩ := OLD x x3'
        exact ⟨x, (RM (4 + j) (by omega)).trans x1, x2, by rw [ev_szR]; omega, p1.trans x4, p2.trans x5, fun i v e => pEnt_L (h := h) (by funext y; rw [ev_LR, p3]) (x6 i v e)⟩)
    refine ⟨h', k_w (aX7_shareImports_1 ..) ?_, T9, nW_t (nW_R ⟨by omega, fun y hy => ⟨(OLD y hy).1, (OLD y hy).2.1⟩, fun x y hx _ => by rw [g2.2.2.2.2.1 x y (fun z => z), (A0.2.2.2 x (by omega)).2.2.1], fun x y hx _ => by rw [(OLD x hx).2.2.1], fun x y hx _ => by rw [(OLD x hx).2.2.2]⟩ (fun _ => ⟨rfl, by omega, by omega⟩)) N9, S9⟩
    · unfold tX7_shareImports_2
      refine k_f (show ¬ Int32.ofNat 4 ≤ Int32.ofNat k by rw [nn_le (by decide) (by omega)]; omega) (k_t km (k_b e1 (k_l ?_)))
      have m6 : Int32.ofNat c * 6 = Int32.ofNat (c * 6) := nn_ml c 6
      rw [m6]
      refine k_t ⟨by rw [n3_0, nn_lt (by omega) (by decide)]; omega, by rw [nn_cm (by omega)]; omega⟩ (k_n ?_)
      rw [nn_cm (by omega), rc_N s19]
      refine k_w (aX7_shareImports_2 ..) ?_
      unfold tX7_shareImports_17
      exact k_n (e2.trans e9)
theorem cs_shr {imps : List tImp} (T : dT h b mm me sh) (r3 : pm_R h mm 3 = some x3) (k3 : pm_kd h x3 = 35) (l3 : pm_ln h x3 = imps.length * 6) (z3 : x3 < pm_sz h) (hN : imps.length ≤ 40960) (W : ∀ i v, imps[i]? = some v → v.1 < 4 ∧ pEnt h x3 (i * 6) v) : ∃ h', fX7_shareImports (rc h a f q) mm = some (rc h' a f q) ∧ dT h' b mm me sh ∧ nW (fun _ _ => False) (fun _ _ => False) (fun X Y => X = mm ∧ 4 ≤ Y ∧ Y ≤ 7) h h' ∧ ∀ j, j < 4 → spK h' mm (pm_sz h) j (ofK j imps) := by
  obtain ⟨h', e, R⟩ := sh_e (a := a) (f := f) (q := q) (imps := imps) (lo := pm_sz h) 4 0 h (by decide) T r3 k3 l3 z3 (Nat.le_refl _) hN W (fun j hj => absurd hj (Nat.not_lt_zero _))
  refine ⟨h', ?_, R⟩
  unfold fX7_shareImports
  refine k_w (aX7_shareImports_0 ..) ?_
  unfold tX7_shareImports_0
  exact k_n e
end SHR
