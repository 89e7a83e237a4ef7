/-! THE FIRST CALL: module, the class's side -/
theorem pe_cp0 (h : pm_H) (a b : Nat) : pm_cpI h a 0 b 0 0 = h := by
  have e : pm_row (pm_I h) b (va_cpy (pm_I h a) (pm_I h b) 0 0 0) = pm_I h := by
    funext x y
    show (if x = b then (if 0 ≤ y ∧ y < 0 + 0 then pm_I h a (0 + (y - 0)) else pm_I h b y) else pm_I h x y) = pm_I h x y
    by_cases e : x = b
    · rw [if_pos e, if_neg (by omega), e]
    · rw [if_neg e]
  show (pm_sz h, pm_kd h, pm_ln h, pm_row (pm_I h) b (va_cpy (pm_I h a) (pm_I h b) 0 0 0), pm_L h, pm_R h) = h
  rw [e]
theorem pu_split (f : Nat → Nat) (n m : Nat) : ((List.range (n + m)).map f).sum = ((List.range n).map f).sum + ((List.range m).map (fun i => f (n + i))).sum := by
  induction m with
  | zero => rfl
  | succ m ih =>
    rw [← Nat.add_assoc, List.range_succ, List.map_append, List.sum_append, ih, List.range_succ, List.map_append, List.sum_append, Nat.add_assoc]
    rfl
/-- what new cells add to the room -/
theorem pu_add {h h' : pm_H} {a N : Nat} (K : pe_K h h' a) (hs : pm_sz h' = pm_sz h + N) : pm_us h' = pm_us h + ((List.range N).map (fun i => pu_s h' (pm_sz h + i))).sum := by
  rw [pu_us, pu_us, hs, pu_split]
  have e : ∀ l : List Nat, (∀ x, x ∈ l → x < pm_sz h) → (l.map (pu_s h')).sum = (l.map (pu_s h)).sum := by
    intro l
    induction l with
    | nil => intro _; rfl
    | cons x l ih =>
      intro hl
      rw [List.map_cons, List.map_cons, List.sum_cons, List.sum_cons, ih (fun y hy => hl y (List.mem_cons_of_mem _ hy))]
      have hx := hl x (List.mem_cons_self ..)
      have : pu_s h' x = pu_s h x := by
        unfold pu_s
        by_cases e : x = a
        · rw [e, K.2.1, K.2.2.1]
        · have q := K.2.2.2 x hx e
          rw [q.1, q.2.1]
      rw [this]
  rw [e _ (fun x hx => List.mem_range.mp hx)]
theorem pu_same {h h' : pm_H} (s : pm_sz h' = pm_sz h) (k : ∀ x, pm_kd h' x = pm_kd h x) (l : ∀ x, pm_ln h' x = pm_ln h x) : pm_us h' = pm_us h := by
  rw [pu_us, pu_us, s]
  have : pu_s h' = pu_s h := by
    funext x
    unfold pu_s
    rw [k x, l x]
  rw [this]
/-- a new Module adds 13 -/
theorem pu_X7 {h h' : pm_H} {a p : Nat} (K : pe_K h h' a) (hs : pm_sz h' = pm_sz h + 12) (P : pj_X7 h' a (pm_sz h) p) : pm_us h' = pm_us h + 13 := by
  rw [pu_add K hs]
  obtain ⟨_, _, _, ⟨k, l, _⟩, z1, z2, z3, z4, z5, z6, z7, z8, z9, z10, z11⟩ := P
  have e0 : pu_s h' (pm_sz h + 0) = 13 := pu_r k l (by decide)
  have e1 := pu_Z z1
  have e2 := pu_Z z2
  have e3 := pu_Z z3
  have e4 := pu_Z z4
  have e5 := pu_Z z5
  have e6 := pu_Z z6
  have e7 := pu_Z z7
  have e8 := pu_Z z8
  have e9 := pu_Z z9
  have e10 := pu_Z z10
  have e11 := pu_Z z11
  have r : List.range 12 = [0, 1, 2, 3, 4, 5, 6, 7, 8, 9, 10, 11] := rfl
  rw [r]
  simp only [List.map_cons, List.map_nil, List.sum_cons, List.sum_nil, e0, e1, e2, e3, e4, e5, e6, e7, e8, e9, e10, e11]
  rfl
set_option maxHeartbeats 4000000 in
theorem fr_c1 {h : pm_H} (p : pj_0 h) : ∃ g, fX12_module h 0 0 = some (-1, g) ∧ pm_sz g = 663 ∧ pm_us g = pm_us h + (15 + 13) ∧ (∀ x, 23 ≤ x → x < 649 → pe_E h g x) := by
  have sz : pm_sz h = 649 := p.2.2.1
  have z1 := fr_z1 p
  have n00 : ((0 : Int32) < 0) = False := eq_false (by decide)
  have n4 : ((40960 : Int32) < 0) = False := eq_false (by decide)
  have l16 : ((0 : Int32) < Int32.ofNat 16) = True := eq_true (by decide)
  -- the module's cell and its bytes
  have N1 := pe_new h 7 0 0 (by omega)
  have s1 : pm_sz (pm_new h 7 0) = 650 := by rw [ev_szN, sz]
  have N2 := pe_new (pm_new h 7 0) 33 0 0 (by omega)
  have s2 : pm_sz (pm_new (pm_new h 7 0) 33 0) = 651 := by rw [ev_szN, s1]
  have a1 := N1.2.2 1 (by omega)
  have a2 := N2.2.2 1 (by omega)
  rw [sz] at N1
  rw [s1] at N2
  have cp : fJ7_copyOf_9075b (pm_new h 7 0) 1 0 = some (650, pm_new (pm_new h 7 0) 33 0) := by
    have k1 : pm_kd (pm_new h 7 0) 1 = 33 := a1.1.trans z1.1
    have l1 : pm_ln (pm_new h 7 0) 1 = 40960 := a1.2.1.trans z1.2.1
    have k2 : pm_kd (pm_new (pm_new h 7 0) 33 0) 1 = 33 := a2.1.trans k1
    have l2 : pm_ln (pm_new (pm_new h 7 0) 33 0) 1 = 40960 := a2.2.1.trans l1
    have k3 : pm_kd (pm_new (pm_new h 7 0) 33 0) 650 = 33 := N2.2.1.1
    have l3 : pm_ln (pm_new (pm_new h 7 0) 33 0) 650 = 0 := N2.2.1.2.1
    have c0 : (0 : Int32).toNatClampNeg = 0 := by decide
    have e0 : ((0 : Int32) = Int32.ofNat 40960) = False := eq_false (by decide)
    have lt : ((0 : Int32) < Int32.ofNat 40960) = True := eq_true (by decide)
    unfold fJ7_copyOf_9075b fJ7_copyOf_9075b_b0
    simp only [k1, l1, e0, if_true, if_false, n00, c0, s1, not_false_eq_true, true_and, Nat.zero_mul, Nat.zero_le]
    unfold fJ7_copyOf_9075b_b17
    simp only [k2, l2, k3, l3, lt, if_true, if_false, n00, c0, not_false_eq_true, true_and, and_true, and_self, Nat.zero_add, Nat.add_zero, Nat.zero_le, Nat.le_refl, List.range_zero, List.all_nil, pe_cp0]
  have zm : pe_Z (pm_new (pm_new h 7 0) 33 0) 649 7 0 := pe_E_Z (N2.2.2 649 (by omega)) N1.2.1
  obtain ⟨m, em, sm, Km, pm⟩ : ∃ h', fX7_init (pm_new (pm_new h 7 0) 33 0) 649 650 = some h' ∧ pm_sz h' = pm_sz (pm_new (pm_new h 7 0) 33 0) + 12 ∧ pe_K (pm_new (pm_new h 7 0) 33 0) h' 649 ∧ pj_X7 h' 649 (pm_sz (pm_new (pm_new h 7 0) 33 0)) 650 := cX7 zm (by omega)
  have um := pu_X7 Km sm pm
  rw [s2] at sm pm
  have HM : ∀ x, x < 649 → pe_E h m x := fun x hx => pe_E_t (N1.2.2 x (by omega)) (pe_E_t (N2.2.2 x (by omega)) (Km.2.2.2 x (by omega) (by omega)))
  have h0 := HM 0 (by decide)
  have h19 := HM 19 (by decide)
  have h2 := HM 2 (by decide)
  have mk0 : pm_kd m 0 = 12 := h0.1.trans (fr_k0 p)
  have mr08 : pm_R m 0 8 = some 19 := (h0.2.2.2.2 8).trans (fr_r0_8 p)
  have mk19 : pm_kd m 19 = 9 := h19.1.trans (fr_rd p).1
  have mk649 : pm_kd m 649 = 7 := Km.2.1.trans zm.1
  have mk650 : pm_kd m 650 = 33 := (Km.2.2.2 650 (by omega) (by omega)).1.trans N2.2.1.1
  have ml650 : pm_ln m 650 = 0 := (Km.2.2.2 650 (by omega) (by omega)).2.1.trans N2.2.1.2.1
  obtain ⟨_, Lm, ⟨q0, _, _, q3, q4, _, _, _, _, _, _, q11, _⟩, _, _, y2, y3, _, _, _, _, _, _, y10, _⟩ := pm
  have Lm14 : pm_L m 649 14 = -1 := Lm 14
  -- the reader begins, and meets the end at once
  obtain ⟨w, ew⟩ : ∃ w, w = pm_setI (pm_setI (pm_setI (pm_setI (pm_setI (pm_setI (pm_setI (pm_setI (pm_setR (pm_setI (pm_setI m 0 1 0) 0 5 1) 19 0 (some 649)) 19 1 0) 19 2 0) 19 3 0) 19 4 (-1)) 19 16 0) 19 5 (-1)) 19 12 0) 19 10 (-1) := ⟨_, rfl⟩
  have wk : ∀ x, pm_kd w x = pm_kd m x := fun x => by rw [ew]; simp only [ev_kdI, ev_kdR]
  have wl : ∀ x, pm_ln w x = pm_ln m x := fun x => by rw [ew]; simp only [ev_lnI, ev_lnR]
  have wL : ∀ x y, pm_L w x y = pm_L m x y := fun x y => by rw [ew]; simp only [ev_LI, ev_LR]
  have wR : ∀ x y, x ≠ 19 → pm_R w x y = pm_R m x y := fun x y hx => by rw [ew]; simp only [ev_RI, ev_RR, if_neg hx]
  have wR19 : pm_R w 19 0 = some 649 := by rw [ew]; simp only [ev_RI, ev_RR, if_true]
  have w1 : pm_I w 19 1 = 0 := by rw [ew]; simp only [ev_II, ev_IR, if_true, Nat.reduceEqDiff, if_false, reduceIte]
  have w2 : pm_I w 19 2 = 0 := by rw [ew]; simp only [ev_II, ev_IR, if_true, Nat.reduceEqDiff, if_false, reduceIte]
  have w3 : pm_I w 19 3 = 0 := by rw [ew]; simp only [ev_II, ev_IR, if_true, Nat.reduceEqDiff, if_false, reduceIte]
  have wI : ∀ x y, x ≠ 0 → x ≠ 19 → pm_I w x y = pm_I m x y := fun x y h1 h2 => by rw [ew]; simp only [ev_II, ev_IR, if_neg h1, if_neg h2]
  have op : fX9_open (pm_setI (pm_setI m 0 1 0) 0 5 1) 19 649 0 = some (pm_setI (pm_setI (pm_setI (pm_setI (pm_setI (pm_setR (pm_setI (pm_setI m 0 1 0) 0 5 1) 19 0 (some 649)) 19 1 0) 19 2 0) 19 3 0) 19 4 (-1)) 19 16 0) := by
    have o0 : Int32.ofNat 0 = 0 := rfl
    unfold fX9_open
    simp only [ev_kdI, ev_kdR, ev_RI, ev_RR, ev_lnI, ev_lnR, mk19, mk649, q0, mk650, ml650, if_true, Nat.reduceEqDiff, if_false, reduceIte, Option.bind_some, ev_let, o0]
  have l00 : ((0 : Int32) ≤ 0) = True := eq_true (by decide)
  have nx : fX9_next w 19 = some (0, pm_setI (pm_setI w 19 3 1) 19 4 0) := by
    unfold fX9_next
    simp only [wk, mk19, w1, w2, w3, n00, l00, if_true, if_false, ev_let, ev_II, Nat.reduceEqDiff, reduceIte]
  have bg : fX9_begin (pm_setI (pm_setI m 0 1 0) 0 5 1) 19 649 = some (pm_setI (pm_setI w 19 3 1) 19 4 0) := by
    have p8 : pm_in 0 8 = True := eq_true (pe_in (i := 0) (by decide) (by decide))
    have c0 : (0 : Int32).toNatClampNeg = 0 := by decide
    have b0 : pm_beg.getD 0 0 = 0 := rfl
    have g80 : ((8 : Int32) ≤ 0) = False := eq_false (by decide)
    have g81 : ((8 : Int32) ≤ 1) = False := eq_false (by decide)
    have e10 : ((1 : Int32) = 0) = False := eq_false (by decide)
    have a01 : (0 : Int32) + 1 = 1 := by decide
    unfold fX9_begin
    simp only [ev_kdI, mk19, if_true, op, Option.bind_some, ev_kdR]
    rw [← ew, ev_lim]
    simp only [sX9_begin, tX9_begin_23, g80, wk, mk19, w3, nx, p8, c0, b0, a01, if_true, if_false, Option.bind_some, ev_let]
    rw [ev_lim]
    simp only [sX9_begin, tX9_begin_23, g81, ev_kdI, wk, mk19, ev_II, e10, if_true, if_false, Option.bind_some, Nat.reduceEqDiff, reduceIte]
  obtain ⟨u, eu⟩ : ∃ u, u = pm_setI (pm_setI w 19 3 1) 19 4 0 := ⟨_, rfl⟩
  rw [← eu] at bg
  have uk : ∀ x, pm_kd u x = pm_kd m x := fun x => by rw [eu]; exact wk x
  have ul : ∀ x, pm_ln u x = pm_ln m x := fun x => by rw [eu]; exact wl x
  have uL : ∀ x y, pm_L u x y = pm_L m x y := fun x y => by rw [eu]; exact wL x y
  have uR : ∀ x y, x ≠ 19 → pm_R u x y = pm_R m x y := fun x y hx => by rw [eu]; exact wR x y hx
  have uR19 : pm_R u 19 0 = some 649 := by rw [eu]; exact wR19
  have u3 : pm_I u 19 3 = 1 := by rw [eu]; simp only [ev_II, if_true, Nat.reduceEqDiff, if_false, reduceIte]
  have u4 : pm_I u 19 4 = 0 := by rw [eu]; simp only [ev_II, if_true]
  have uI : ∀ x y, x ≠ 0 → x ≠ 19 → pm_I u x y = pm_I m x y := fun x y h1 h2 => by rw [eu]; simp only [ev_II, if_neg h2]; exact wI x y h1 h2
  have fi : fX9_finish u 19 = some u := by
    have d6 : Int32.ofNat 0 / 6 = 0 := by decide
    have d2 : Int32.ofNat 0 / 2 = 0 := by decide
    have m0 : (0 : Int32) - 0 = 0 := by decide
    have lm : ((-1 : Int64) < 0) = True := eq_true (by decide)
    have o0 : (Int32.ofNat 0 ≤ 0) = True := eq_true (by decide)
    have im : fX7_imported u 649 0 = some 0 := by
      unfold fX7_imported
      rw [ev_lim]
      simp only [sX7_imported, tX7_imported_4, uk, ul, uR 649 3 (by decide), mk649, q3, y2.1, y2.2.1, o0, if_true, Option.bind_some]
    unfold fX9_finish fX7_count fX7_space
    simp only [uk, ul, uL, mk19, mk649, uR19, uR 649 4 (by decide), uR 649 11 (by decide), q4, q11, y3.1, y3.2.1, y10.1, y10.2.1, im, d6, d2, m0, Lm14, lm, if_true, Option.bind_some, ev_let]
  -- the call
  have e10 : ((1 : Int32) = 0) = False := eq_false (by decide)
  have fin : fX12_module h 0 0 = some (-1, pm_setI (pm_setI u 0 6 1) 0 7 0) := by
    have k1 : pm_kd (pm_new h 7 0) 0 = 12 := (N1.2.2 0 (by omega)).1.trans (fr_k0 p)
    have r1 : pm_R (pm_new h 7 0) 0 0 = some 1 := ((N1.2.2 0 (by omega)).2.2.2.2 0).trans (fr_r0_0 p)
    unfold fX12_module
    rw [ev_lim]; simp only [sX12_module, tX12_module_0, n00, n4, fr_k0 p, fr_i0 p, fr_r0_3 p, (fr_k2 p).1, (fr_k2 p).2, l16, sz, if_true, if_false, Option.bind_some]
    rw [ev_lim]; simp only [sX12_module, tX12_module_36, k1, r1, cp, if_true, Option.bind_some]
    rw [ev_lim]; simp only [sX12_module, tX12_module_45, em, Option.bind_some]
    rw [ev_lim]; simp only [sX12_module, tX12_module_48, mk0, ev_RI, ev_kdI, mr08, mk19, bg, if_true, Option.bind_some]
    rw [ev_lim]; simp only [sX12_module, tX12_module_69, l00, if_true, Option.bind_some]
    rw [ev_lim]; simp only [sX12_module, tX12_module_97, uk, mk0, uR 0 8 (by decide), mr08, mk19, fi, u3, u4, ev_II, e10, if_true, if_false, Option.bind_some, ev_let, Nat.reduceEqDiff, reduceIte]
  refine ⟨_, fin, ?_, ?_, fun x h1 h2 => ?_⟩
  · show pm_sz u = 663
    rw [eu, ew]; simp only [ev_szI, ev_szR]
    exact sm
  · have us : pm_sz u = pm_sz m := by rw [eu, ew]; simp only [ev_szI, ev_szR]
    have e1 : pm_us (pm_setI (pm_setI u 0 6 1) 0 7 0) = pm_us m := pu_same us (fun x => uk x) (fun x => ul x)
    have a7 : (if 7 < 32 then pm_fN 7 else 0) = 15 := rfl
    have a33 : (if 33 < 32 then pm_fN 33 else 0) = 0 := rfl
    rw [e1, um, pm_us_new, pm_us_new, a7, a33, Nat.add_zero]
  · have e := HM x h2
    refine ⟨(uk x).trans e.1, (ul x).trans e.2.1, fun y => ?_, fun y => (uL x y).trans (e.2.2.2.1 y), fun y => (uR x y (by omega)).trans (e.2.2.2.2 y)⟩
    rw [ev_II, if_neg (by omega), ev_II, if_neg (by omega), uI x y (by omega) (by omega), e.2.2.1 y]
