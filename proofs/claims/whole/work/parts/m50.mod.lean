/-! THE CLASS: module() whole -/
/-- a module of bytes: refused with fault and place, or what was read with its bodies checked -/
def mSp (B : Nat → Nat) (n : Nat) : sp_O (tMd × List (Nat × tK)) := sp_b (sp_all B n) fun M _ => sp_b (sp_chk B n (isS (M.2.2.2.2.2.2.2.2.2.2.2.2.1 12)) M) fun vs _ => .inr ((M, vs), 0)
/-- what module() may touch of the heap before -/
def mZ (x : Nat) : Prop := x = 0 ∨ x = 2 ∨ x = 19 ∨ x = 20 ∨ x = 21 ∨ x = 22 ∨ (24 ≤ x ∧ x ≤ 28)
def mFr (h r : pm_H) : Prop := (∀ x, x < pm_sz h → ¬ mZ x → pe_E h r x) ∧ (∀ x, x < pm_sz h → pm_kd r x = pm_kd h x ∧ pm_ln r x = pm_ln h x) ∧ ((∀ y, pm_R r 0 y = pm_R h 0 y) ∧ (∀ y, pm_L r 0 y = pm_L h 0 y) ∧ pm_I r 0 1 = 0 ∧ pm_I r 0 5 = 1 ∧ ∀ y, y ≠ 1 → y ≠ 4 → y ≠ 5 → y ≠ 6 → y ≠ 7 → pm_I r 0 y = pm_I h 0 y) ∧ (∀ k, k ≠ 0 → pm_R r 19 k = pm_R h 19 k) ∧ (∀ k, pm_R r 20 k = pm_R h 20 k) ∧ (∀ k, pm_R r 21 k = pm_R h 21 k) ∧ (∀ y, y ≠ 2 → y ≠ 4 → y ≠ 17 → pm_R r 22 y = pm_R h 22 y) ∧ pm_sz h + 14 ≤ pm_sz r
/-- a module that stands, at mm -/
def cMd (r : pm_H) (mm n : Nat) (B : Nat → Nat) (M : tMd) (vs : List (Nat × tK)) : Prop := ∃ hi cs, pm_kd r mm = 7 ∧ (pm_R r mm 0 = some (mm + 1) ∧ pm_kd r (mm + 1) = 33 ∧ pm_ln r (mm + 1) = n ∧ ∀ i, i < n → pm_I r (mm + 1) i &&& 255 = Int32.ofNat (B i)) ∧ cMx r mm (mm + 2) hi 0 M ∧ hi ≤ cs ∧ (pm_R r mm 12 = some cs ∧ pm_kd r cs = 38 ∧ pm_ln r cs = M.2.2.2.2.2.2.2.2.2.1.length) ∧ bLp r (mm + 2) hi cs M M.2.2.2.2.2.2.2.2.2.1.length vs
section CMOD
variable {h X Y r r' : pm_H} {n fed cnt mm : Nat} {B : Nat → Nat}
theorem eCl_m (C : eCl h fed cnt) (F : mFr h r) (J : pw_J r) {c : Nat} (hc : c ≤ 16) (i4 : pm_I r 0 4 = Int32.ofNat c) : eCl r 0 c := by
  obtain ⟨⟨e1, e2, e3, e4, e5, e6, e7⟩, ⟨f1, f2⟩, ⟨t1, t2, t3, t4⟩, ⟨m1, m2⟩, ⟨r1, r2, r3, r4⟩, ⟨b1, b2, b3⟩, ⟨s1, s2, s3⟩, ⟨k1, k2⟩, Q0, -, sz⟩ := C
  obtain ⟨F1, F2, ⟨G1, G2, G3, G4, G5⟩, F4, F5, F6, F7, F8⟩ := F
  have E1 := F1 1 (by omega) (by unfold mZ; omega)
  refine ⟨⟨(F2 0 (by omega)).1.trans e1, G3, i4, (G1 0).trans e4, (G1 3).trans e5, (G1 8).trans e6, (G1 9).trans e7⟩, ⟨Nat.zero_le _, hc⟩, ⟨E1.1.trans t1, E1.2.1.trans t2, fun k => (E1.2.2.2.2 k).trans (t3 k), fun j => by rw [E1.2.2.1]; exact t4 j⟩, ⟨(F2 2 (by omega)).1.trans m1, (F2 2 (by omega)).2.trans m2⟩, ⟨(F2 19 (by omega)).1.trans r1, (F4 17 (by decide)).trans r2, (F4 18 (by decide)).trans r3, fun k h0 h1 h2 => (F4 k h0).trans (r4 k h0 h1 h2)⟩, ⟨(F2 20 (by omega)).1.trans b1, (F2 20 (by omega)).2.trans b2, fun k => (F5 k).trans (b3 k)⟩, ⟨(F2 21 (by omega)).1.trans s1, (F2 21 (by omega)).2.trans s2, fun k => (F6 k).trans (s3 k)⟩, ⟨(F2 22 (by omega)).1.trans k1, (F7 3 (by decide) (by decide) (by decide)).trans k2⟩, xQ0_k Q0 (fun x hx => F2 x (by omega)) F7 (fun x h1 h2 => F1 x (by omega) (by unfold mZ; omega)), J, by omega⟩
theorem chF_r (h : pm_H) (mm : Nat) : chF h h mm := ⟨fun _ _ => ⟨rfl, rfl⟩, fun x _ _ _ => pe_E_r h x, fun _ => rfl, fun _ _ _ _ _ => rfl, fun _ _ _ _ => rfl, fun _ _ _ _ => rfl⟩
/-- X after reading, Y the same but for the engine's fault, r' after the checks, r the end -/
theorem mFr_of (s648 : 648 < pm_sz h) (k0 : pm_kd h 0 = 12) (k9 : pm_kd h 19 = 9) (C : cFr h X) (y1 : pm_sz Y = pm_sz X) (y2 : pm_kd Y = pm_kd X) (y3 : pm_ln Y = pm_ln X) (y4 : pm_L Y = pm_L X) (y5 : pm_R Y = pm_R X) (y6 : ∀ x y, ¬ (x = 0 ∧ (y = 6 ∨ y = 7)) → pm_I Y x y = pm_I X x y) (F : chF Y r' (pm_sz h)) (sz : pm_sz Y ≤ pm_sz r') (z1 : pm_sz r = pm_sz r') (z2 : pm_kd r = pm_kd r') (z3 : pm_ln r = pm_ln r') (z4 : pm_L r = pm_L r') (z5 : ∀ x y, x ≠ 2 → pm_R r x y = pm_R r' x y) (z6 : ∀ x y, ¬ (x = 0 ∧ (y = 4 ∨ y = 6 ∨ y = 7)) → pm_I r x y = pm_I r' x y) : mFr h r := by
  obtain ⟨c1, ⟨c2, c3, c4, c5, c6⟩, ⟨d1, d2, d3, d4⟩, ⟨d5, d6, d7⟩, ⟨d8, d9, d10⟩, -, szX, -, -⟩ := C
  obtain ⟨f1, f2, f3, f4, f5, f6⟩ := F
  have kl : ∀ x, x < pm_sz h → pm_kd r x = pm_kd X x ∧ pm_ln r x = pm_ln X x := fun x hx => by
    obtain ⟨a, b⟩ := f1 x (by omega)
    exact ⟨by rw [z2, a, y2], by rw [z3, b, y3]⟩
  have klh : ∀ x, x < pm_sz h → x ≠ 0 → x ≠ 19 → pm_kd r x = pm_kd h x ∧ pm_ln r x = pm_ln h x := fun x hx h0 h19 => by
    obtain ⟨a, b⟩ := kl x hx
    by_cases q20 : x = 20
    · rw [q20] at a b ⊢; exact ⟨a.trans d5, b.trans d6⟩
    · by_cases q21 : x = 21
      · rw [q21] at a b ⊢; exact ⟨a.trans d8, b.trans d9⟩
      · have e := c1 x hx h0 h19 q20 q21
        exact ⟨a.trans e.1, b.trans e.2.1⟩
  have g0 := f2 0 (by omega) (by unfold xZ; omega) (by omega)
  have I0 : ∀ y, y ≠ 4 → y ≠ 6 → y ≠ 7 → pm_I r 0 y = if y = 5 then 1 else if y = 1 then 0 else pm_I h 0 y := fun y h4 h6 h7 => by
    rw [z6 0 y (by omega), g0.2.2.1 y, y6 0 y (by omega)]
    exact c6 y
  refine ⟨fun x hx hz => ?_, fun x hx => ?_, ⟨fun y => ?_, fun y => ?_, I0 1 (by decide) (by decide) (by decide), I0 5 (by decide) (by decide) (by decide), fun y h1 h4 h5 h6 h7 => by rw [I0 y h4 h6 h7, if_neg h5, if_neg h1]⟩, fun k hk => ?_, fun k => ?_, fun k => ?_, fun y h2 h4 h17 => ?_, by omega⟩
  · unfold mZ at hz
    have e := c1 x hx (by omega) (by omega) (by omega) (by omega)
    have g := f2 x (by omega) (by unfold xZ; omega) (by omega)
    exact ⟨(klh x hx (by omega) (by omega)).1, (klh x hx (by omega) (by omega)).2, fun y => by rw [z6 x y (by omega), g.2.2.1 y, y6 x y (by omega)]; exact e.2.2.1 y, fun y => by rw [z4, g.2.2.2.1 y, y4]; exact e.2.2.2.1 y, fun y => by rw [z5 x y (by omega), g.2.2.2.2 y, y5]; exact e.2.2.2.2 y⟩
  · by_cases x0 : x = 0
    · rw [x0]
      obtain ⟨a, b⟩ := kl 0 (by omega)
      exact ⟨(a.trans c2).trans k0.symm, b.trans c3⟩
    · by_cases x19 : x = 19
      · rw [x19]
        obtain ⟨a, b⟩ := kl 19 (by omega)
        exact ⟨(a.trans d1).trans k9.symm, b.trans d2⟩
      · exact klh x hx x0 x19
  · rw [z5 0 y (by decide), f4 0 (by omega) (by decide) y (by omega), y5]; exact c4 y
  · rw [z4, f6 0 (by omega) (by decide) y, y4]; exact c5 y
  · rw [z5 19 k (by decide), f4 19 (by omega) (by decide) k (by omega), y5]; exact d4 k hk
  · rw [z5 20 k (by decide), f4 20 (by omega) (by decide) k (by omega), y5]; exact d7 k
  · rw [z5 21 k (by decide), f4 21 (by omega) (by decide) k (by omega), y5]; exact d10 k
  · rw [z5 22 y (by decide), f5 y h2 h4 h17, y5]; exact (c1 22 (by omega) (by decide) (by decide) (by decide) (by decide)).2.2.2.2 y
/-- the end, refused -/
theorem s183_n (k0 : pm_kd r 0 = 12) (r9 : pm_R r 0 9 = some 22) (k1 : pm_kd r 22 = 1) {fl : Nat} (hf : 0 < fl ∧ fl < 100) (i0 : pm_I r 22 0 = Int32.ofNat fl) : s183 mm r = some (-1, pm_setI (pm_setI r 0 6 (Int32.ofNat fl)) 0 7 (pm_I r 22 1)) := by
  refine k_w (aX12_module_9 ..) ?_
  unfold tX12_module_183
  refine k_t k0 (k_b r9 (k_t k1 (k_l ?_)))
  rw [i0]
  refine k_l (k_f ?_ rfl)
  rw [ev_II, if_pos rfl, if_neg (by decide), ev_II, if_pos rfl, if_pos rfl, n3_0, nn_eq (by omega) (by decide)]
  omega
/-- the end, taken in -/
theorem s183_y (k0 : pm_kd r 0 = 12) (r9 : pm_R r 0 9 = some 22) (k1 : pm_kd r 22 = 1) (i0 : pm_I r 22 0 = 0) (r3 : pm_R r 0 3 = some 2) (k2 : pm_kd r 2 = 41) (l2 : pm_ln r 2 = 16) (km : pm_kd r mm = 7) {c : Nat} (hc : c < 16) (i4 : pm_I r 0 4 = Int32.ofNat c) : s183 mm r = some (Int32.ofNat c, pm_setI (pm_setR (pm_setI (pm_setI (pm_setI r 0 6 0) 0 7 (pm_I r 22 1)) 0 7 (-1)) 2 c (some mm)) 0 4 (Int32.ofNat (c + 1))) := by
  obtain ⟨q, eq⟩ : ∃ z, z = pm_setI (pm_setI (pm_setI r 0 6 0) 0 7 (pm_I r 22 1)) 0 7 (-1) := ⟨_, rfl⟩
  have q4 : pm_I q 0 4 = Int32.ofNat c := by
    rw [eq, ev_II, if_pos rfl, if_neg (by decide), ev_II, if_pos rfl, if_neg (by decide), ev_II, if_pos rfl, if_neg (by decide)]
    exact i4
  have kq : pm_kd q = pm_kd r := by rw [eq]; rfl
  have lq : pm_ln q = pm_ln r := by rw [eq]; rfl
  have rq : pm_R q = pm_R r := by rw [eq]; rfl
  refine k_w (aX12_module_9 ..) ?_
  unfold tX12_module_183
  refine k_t k0 (k_b r9 (k_t k1 (k_l ?_)))
  rw [i0]
  refine k_l (k_t ?_ ?_)
  · rw [ev_II, if_pos rfl, if_neg (by decide), ev_II, if_pos rfl, if_pos rfl]
  · rw [show pm_I (pm_setI r 0 6 0) 22 1 = pm_I r 22 1 by rw [ev_II, if_neg (by decide)], ← eq]
    refine k_b (by rw [rq]; exact r3) (k_t (by rw [kq]; exact k2) (k_t (by rw [kq]; exact km) (k_t (by rw [q4, lq, l2, nn_in (by omega)]; exact hc) ?_)))
    rw [q4, nn_cm (by omega)]
    refine k_l ?_
    rw [show pm_I (pm_setR q 2 c (some mm)) 0 4 = Int32.ofNat c from q4, show Int32.ofNat c + 1 = Int32.ofNat (c + 1) from nn_ad c 1, ev_II, if_pos rfl, if_pos rfl, show Int32.ofNat (c + 1) - 1 = Int32.ofNat c from nn_sb (m := c + 1) (n := 1) (by omega)]
    rfl
theorem bLp_E {lo hi cs i : Nat} {M : tMd} {vs : List (Nat × tK)} (sz : pm_sz r = pm_sz r') (l181 : 181 < lo) (c28 : 28 < cs) (E : ∀ x, 28 < x → pe_E r r' x) (P : bLp r lo hi cs M i vs) : bLp r' lo hi cs M i vs := by
  obtain ⟨p1, p2, p3, p4, p5⟩ := P
  have Es : ∀ x, sLo lo hi x → pe_E r r' x := fun x hx => E x (by unfold sLo at hx; omega)
  exact ⟨sz.symm.trans p1, p2, fun j hj => ((E cs c28).2.2.2.2 j).trans (p3 j hj), fun j v hv => bDn_E Es (fun x h1 h2 => E x (by omega)) (E _ (by omega)) (p4 j v hv), fun j h1 h2 => bFa_E Es (fun x h3 h4 => E x (by omega)) (p5 j h1 h2)⟩
theorem l97_n (C : eCl h fed cnt) (FX : cFr h X) (ef : fX9_finish X 19 = some Y) (FY : cFr h Y) {fl : Nat} (hf : 0 < fl ∧ fl < 100) (i3 : pm_I Y 19 3 = Int32.ofNat fl) : s97' mm X = some (-1, pm_setI (pm_setI Y 0 6 (Int32.ofNat fl)) 0 7 (pm_I Y 19 4)) := by
  obtain ⟨⟨e1, e2, e3, e4, e5, e6, e7⟩, -⟩ := C
  obtain ⟨x1, ⟨x2, x3, x4, x5, x6⟩, ⟨x7, x8, x9, x10⟩, -⟩ := FX
  obtain ⟨y1, ⟨y2, y3, y4, y5, y6⟩, ⟨y7, y8, y9, y10⟩, -⟩ := FY
  have nz : ¬ pm_I (pm_setI (pm_setI Y 0 6 (Int32.ofNat fl)) 0 7 (pm_I (pm_setI Y 0 6 (Int32.ofNat fl)) 19 4)) 0 6 = 0 := by
    rw [ev_II, if_pos rfl, if_neg (by decide), ev_II, if_pos rfl, if_pos rfl, n3_0, nn_eq (by omega) (by decide)]
    omega
  refine k_w (aX12_module_5 ..) ?_
  unfold tX12_module_97
  refine k_t x2 (k_b ((x4 8).trans e6) (k_t x7 (k_b ef (k_t y2 (k_b ((y4 8).trans e6) (k_t y7 (k_l ?_)))))))
  rw [i3]
  exact k_l (k_f nz (k_f nz rfl))
theorem l97_y (C : eCl h fed cnt) (FX : cFr h X) (ef : fX9_finish X 19 = some X) (i3 : pm_I X 19 3 = 0) (i4 : pm_I X 19 4 = -1) {v : pm_H} (ec : fX1_check (pm_setI (pm_setI X 0 6 0) 0 7 (-1)) 22 mm (pm_I X 19 5) = some v) : s97' mm X = s150 mm 0 v := by
  obtain ⟨⟨e1, e2, e3, e4, e5, e6, e7⟩, -, -, -, -, -, -, ⟨k1, k2⟩, -, -, sz⟩ := C
  obtain ⟨x1, ⟨x2, x3, x4, x5, x6⟩, ⟨x7, x8, x9, x10⟩, -⟩ := FX
  have e22 := x1 22 (by omega) (by decide) (by decide) (by decide) (by decide)
  refine k_w (aX12_module_5 ..) ?_
  unfold tX12_module_97
  refine k_t x2 (k_b ((x4 8).trans e6) (k_t x7 (k_b ef (k_t x2 (k_b ((x4 8).trans e6) (k_t x7 (k_l ?_)))))))
  rw [i3]
  refine k_l ?_
  rw [show pm_I (pm_setI X 0 6 0) 19 4 = -1 from i4]
  refine k_t ?_ (k_b ((x4 9).trans e7) (k_t (e22.1.trans k1) (k_b ec (k_n (k_w (aX12_module_7 ..) ?_)))))
  · rw [ev_II, if_pos rfl, if_neg (by decide), ev_II, if_pos rfl, if_pos rfl]
  · unfold tX12_module_148
    rfl
theorem c_mod (C : eCl h fed cnt) (hn : n ≤ fed) (hc : cnt < 16) (hB1 : ∀ i, i < n → pm_I h 1 i &&& 255 = Int32.ofNat (B i)) (hB2 : ∀ i, B i < 256) (hN : ∀ i j, i < n → j < n → (pm_I h 1 i = pm_I h 1 j) = (B i = B j)) : ∃ ans r, fX12_module h 0 (Int32.ofNat n) = some (ans, r) ∧ mFr h r ∧ match mSp B n with
    | .inl (fl, pl) => ans = -1 ∧ eCl r 0 cnt ∧ (0 < fl ∧ fl < 100) ∧ pm_I r 0 6 = Int32.ofNat fl ∧ pm_I r 0 7 = Int32.ofNat pl ∧ ∀ k, pm_R r 2 k = pm_R h 2 k
    | .inr v => ans = Int32.ofNat cnt ∧ eCl r 0 (cnt + 1) ∧ pm_I r 0 6 = 0 ∧ pm_I r 0 7 = -1 ∧ (∀ k, pm_R r 2 k = if k = cnt then some (pm_sz h) else pm_R h 2 k) ∧ cMd r (pm_sz h) n B v.1.1 v.1.2 := by
  have C' := C
  obtain ⟨⟨e1, e2, e3, e4, e5, e6, e7⟩, ⟨f1, f2⟩, ⟨t1, t2, t3, t4⟩, ⟨m1, m2⟩, ⟨r1, r2, r3, r4⟩, ⟨b1, b2, b3⟩, ⟨s1, s2, s3⟩, ⟨k1, k2⟩, Q0, J, sz⟩ := C
  obtain ⟨X, eX, FX, lnX, RD⟩ := c_read C' hn hc hB1 hB2
  -- the heap stays clean beyond
  have JJ : ∀ {a : Int32} {r : pm_H}, fX12_module h 0 (Int32.ofNat n) = some (a, r) → pw_J r := fun {a r} e => (wfX12_module (pw_rf h) e).2.2.2.1 J
  have R2 : ∀ {Z : pm_H}, cFr h Z → ∀ k, pm_R Z 2 k = pm_R h 2 k := fun {Z} F k => (F.1 2 (by omega) (by decide) (by decide) (by decide) (by decide)).2.2.2.2 k
  have i67 : ∀ (Z : pm_H) (a c : Int32) (x y : Nat), ¬ (x = 0 ∧ (y = 6 ∨ y = 7)) → pm_I (pm_setI (pm_setI Z 0 6 a) 0 7 c) x y = pm_I Z x y := fun Z a c x y hn => by
    rw [ev_II]
    by_cases x0 : x = 0
    · rw [if_pos x0, if_neg (by omega), ev_II, if_pos x0, if_neg (by omega)]
    · rw [if_neg x0, ev_II, if_neg x0]
  unfold mSp
  cases ha : sp_all B n with
  | inl z =>
    obtain ⟨fl, pl⟩ := z
    rw [ha] at RD
    obtain ⟨hfl, Y, ef, FY, i3, i4⟩ := RD
    have e := eX.trans (l97_n C' FX ef FY hfl i3)
    obtain ⟨r, er⟩ : ∃ z, z = pm_setI (pm_setI Y 0 6 (Int32.ofNat fl)) 0 7 (pm_I Y 19 4) := ⟨_, rfl⟩
    rw [← er] at e
    have F : mFr h r := mFr_of sz e1 r1 FY (Y := Y) (r' := Y) rfl rfl rfl rfl rfl (fun _ _ _ => rfl) (chF_r Y _) (Nat.le_refl _) (by rw [er]; rfl) (by rw [er]; rfl) (by rw [er]; rfl) (by rw [er]; rfl) (fun x y _ => by rw [er]; rfl) (fun x y hn => by rw [er]; exact i67 Y _ _ x y (by omega))
    have i40 : pm_I r 0 4 = Int32.ofNat cnt := by
      rw [er, i67 Y _ _ 0 4 (by decide), FY.2.1.2.2.2.2 4]
      exact e3
    refine ⟨-1, r, e, F, rfl, eCl_m C' F (JJ e) f2 i40, hfl, ?_, ?_, fun k => ?_⟩
    · rw [er, ev_II, if_pos rfl, if_neg (by decide), ev_II, if_pos rfl, if_pos rfl]
    · rw [er, ev_II, if_pos rfl, if_pos rfl]; exact i4
    · rw [er]; exact R2 FY k
  | inr z =>
    obtain ⟨M, pz⟩ := z
    rw [ha] at RD
    obtain ⟨ef, h', la, eh, CL⟩ := RD
    rw [sp_br]
    obtain ⟨g1, g2⟩ := gd_all hB2 ha
    obtain ⟨v1, v2⟩ := gIv_all ha
    obtain ⟨D, eD⟩ : ∃ D, D = isS (M.2.2.2.2.2.2.2.2.2.2.2.2.1 12) := ⟨_, rfl⟩
    rw [← eD] at CL g1 ⊢
    obtain ⟨CM, LC, -, -, -, i5⟩ := CL
    obtain ⟨⟨c1, c2, c3, c4, c5, c6, c7, c8, c9, c10⟩, -, -, -, -, dt⟩ := LC
    have n4 : n ≤ 40960 := c7
    have X3 : pm_I X 19 3 = 0 := by rw [eh]; rfl
    have X4 : pm_I X 19 4 = -1 := by rw [eh]; rfl
    have X5 : pm_I X 19 5 = on3 M.2.2.2.2.2.2.2.2.2.2.2.2.2 := by rw [eh]; exact i5
    have XI : ∀ x, x ≠ 19 → pm_I X x = pm_I h' x := fun x hx => by rw [eh]; exact rc_x _ _ _ _ hx
    have Xk : pm_kd X = pm_kd h' := by rw [eh]; rfl
    have Xl : pm_ln X = pm_ln h' := by rw [eh]; rfl
    have XL : pm_L X = pm_L h' := by rw [eh]; rfl
    have XR : pm_R X = pm_R h' := by rw [eh]; rfl
    have Xs : pm_sz X = pm_sz h' := by rw [eh]; rfl
    obtain ⟨Y, eY⟩ : ∃ z, z = pm_setI (pm_setI X 0 6 0) 0 7 (-1) := ⟨_, rfl⟩
    have Yk : pm_kd Y = pm_kd X := by rw [eY]; rfl
    have Yl : pm_ln Y = pm_ln X := by rw [eY]; rfl
    have YL : pm_L Y = pm_L X := by rw [eY]; rfl
    have YR : pm_R Y = pm_R X := by rw [eY]; rfl
    have Ys : pm_sz Y = pm_sz X := by rw [eY]; rfl
    have YI : ∀ x y, ¬ (x = 0 ∧ (y = 6 ∨ y = 7)) → pm_I Y x y = pm_I X x y := fun x y hn => by rw [eY]; exact i67 X _ _ x y hn
    obtain ⟨x1, ⟨x2, x3, x4, x5, x6⟩, ⟨x7, x8, x9, x10⟩, ⟨x11, x12, x13⟩, ⟨x14, x15, x16⟩, JX, szX, ⟨z1, z2, z3⟩, tb⟩ := id FX
    have e22 := x1 22 (by omega) (by decide) (by decide) (by decide) (by decide)
    have EY : ∀ x, 28 < x → x < pm_sz h → pe_E h Y x := fun x h1 h2 => by
      have e := x1 x h2 (by omega) (by omega) (by omega) (by omega)
      exact ⟨by rw [Yk]; exact e.1, by rw [Yl]; exact e.2.1, fun y => by rw [YI x y (by omega)]; exact e.2.2.1 y, fun y => by rw [YL]; exact e.2.2.2.1 y, fun y => by rw [YR]; exact e.2.2.2.2 y⟩
    have P : xP Y n (pm_sz h + 1) (pm_sz h) (pm_sz h + 2) (pm_sz Y) B M D := by
      refine ⟨⟨by rw [Yk, Xk]; exact c1, by rw [YR, XR]; exact c2, by rw [Yk, Xk]; exact c3, by rw [YR, XR]; exact c4, by rw [Yk, Xk]; exact c5, by rw [Yl, Xl]; exact c6, c7, c8, fun i hi => by rw [YI _ i (by omega), XI _ (by omega)]; exact c9 i hi, c10⟩, ?_, ⟨by rw [Yk]; exact e22.1.trans k1, by rw [YR]; exact (e22.2.2.2.2 3).trans k2⟩, ⟨sz, by omega, by omega, by omega, Nat.le_refl _⟩, by rw [YL, XL]; exact dt, fun i j hi hj => ?_⟩
      · rw [Ys, Xs]
        exact cMx_k (fun x q1 q2 => ⟨by rw [Yk, Xk], by rw [Yl, Xl], funext fun y => by rw [YI x y (by omega), XI x (by omega)], by rw [YL, XL], by rw [YR, XR]⟩) (Nat.le_refl _) (.inl rfl) (fun j s _ _ _ => by rw [YR, XR]) (by decide) (by rw [YL, XL]) (by rw [YL, XL]) CM
      · rw [YI _ i (by omega), YI _ j (by omega), (tb i).resolve_right (by rw [lnX]; omega), (tb j).resolve_right (by rw [lnX]; omega)]
        exact hN i j hi hj
    have kl : ∀ x, x < 182 → pm_kd Y x = pm_kd h x ∧ pm_ln Y x = pm_ln h x := fun x hx => by
      rw [Yk, Yl]
      by_cases q0 : x = 0
      · rw [q0]; exact ⟨x2.trans e1.symm, x3⟩
      · by_cases q19 : x = 19
        · rw [q19]; exact ⟨x7.trans r1.symm, x8⟩
        · by_cases q20 : x = 20
          · rw [q20]; exact ⟨x11, x12⟩
          · by_cases q21 : x = 21
            · rw [q21]; exact ⟨x14, x15⟩
            · have e := x1 x (by omega) q0 q19 q20 q21
              exact ⟨e.1, e.2.1⟩
    have QY : xQ0 Y := xQ0_k Q0 kl (fun y _ _ _ => by rw [YR]; exact e22.2.2.2.2 y) (fun x h1 h2 => EY x h1 (by omega))
    obtain ⟨v, r', ec, es, CF, sz1, sz2, AL⟩ := x_all P QY (by omega) ⟨by rw [Yk]; exact x2, by rw [YR]; exact (x4 9).trans e7⟩ g1 g2 v1 v2 (z := pm_sz h + 13) (by rw [YR]; exact z1) ⟨by omega, by omega⟩ (by omega) (by rw [Yk]; exact z2) (by rw [Yl]; exact z3)
    have e97 : s97' (pm_sz h) X = s183 (pm_sz h) r' := (l97_y C' FX ef X3 X4 (by rw [← eY, X5]; exact ec)).trans es
    have g0 := CF.2.1 0 (by omega) (by unfold xZ; omega) (by omega)
    have q4 : pm_I r' 0 4 = Int32.ofNat cnt := by rw [g0.2.2.1 4, YI 0 4 (by decide), x6 4]; exact e3
    have q9 : pm_R r' 0 9 = some 22 := by rw [g0.2.2.2.2 9, YR]; exact (x4 9).trans e7
    have q22 : pm_kd r' 22 = 1 := by rw [(CF.1 22 (by omega)).1, Yk]; exact e22.1.trans k1
    have q0 : pm_kd r' 0 = 12 := by rw [g0.1, Yk]; exact x2
    have q2 : ∀ k, pm_R r' 2 k = pm_R h 2 k := fun k => by rw [CF.2.2.2.1 2 (by omega) (by decide) k (by omega), YR]; exact R2 FX k
    cases hk : sp_chk B n D M with
    | inl w =>
      rw [hk] at AL
      obtain ⟨w1, w2, w3⟩ := AL
      have e := (eX.trans e97).trans (s183_n q0 q9 q22 w1 w2)
      obtain ⟨r, er⟩ : ∃ z, z = pm_setI (pm_setI r' 0 6 (Int32.ofNat w.1)) 0 7 (pm_I r' 22 1) := ⟨_, rfl⟩
      rw [← er] at e
      have F : mFr h r := mFr_of sz e1 r1 FX (Y := Y) (r' := r') Ys Yk Yl YL YR YI CF sz1 (by rw [er]; rfl) (by rw [er]; rfl) (by rw [er]; rfl) (by rw [er]; rfl) (fun x y _ => by rw [er]; rfl) (fun x y hn => by rw [er]; exact i67 r' _ _ x y (by omega))
      refine ⟨-1, r, e, F, rfl, eCl_m C' F (JJ e) f2 (by rw [er, i67 r' _ _ 0 4 (by decide)]; exact q4), w1, ?_, ?_, fun k => ?_⟩
      · rw [er, ev_II, if_pos rfl, if_neg (by decide), ev_II, if_pos rfl, if_pos rfl]
      · rw [er, ev_II, if_pos rfl, if_pos rfl]; exact w3
      · rw [er]; exact q2 k
    | inr vs =>
      rw [hk] at AL
      obtain ⟨w1, ⟨⟨⟨y1, y2, y3, y4, y5, y6, y7, y8, y9, y10⟩, w2, -⟩, -, -, -, -, -, w3, w4⟩, w5⟩ := AL
      have e := (eX.trans e97).trans (s183_y (mm := pm_sz h) q0 q9 q22 w1 (by rw [g0.2.2.2.2 3, YR]; exact (x4 3).trans e5) (by rw [(CF.1 2 (by omega)).1, Yk]; exact (x1 2 (by omega) (by decide) (by decide) (by decide) (by decide)).1.trans m1) (by rw [(CF.1 2 (by omega)).2, Yl]; exact (x1 2 (by omega) (by decide) (by decide) (by decide) (by decide)).2.1.trans m2) y3 hc q4)
      obtain ⟨r, er⟩ : ∃ z, z = pm_setI (pm_setR (pm_setI (pm_setI (pm_setI r' 0 6 0) 0 7 (pm_I r' 22 1)) 0 7 (-1)) 2 cnt (some (pm_sz h))) 0 4 (Int32.ofNat (cnt + 1)) := ⟨_, rfl⟩
      rw [← er] at e
      have rI : ∀ x y, ¬ (x = 0 ∧ (y = 4 ∨ y = 6 ∨ y = 7)) → pm_I r x y = pm_I r' x y := fun x y hn => by
        rw [er, ev_II]
        by_cases x0 : x = 0
        · rw [if_pos x0, if_neg (by omega), ev_IR, ev_II, if_pos x0, if_neg (by omega), ev_II, if_pos x0, if_neg (by omega), ev_II, if_pos x0, if_neg (by omega)]
        · rw [if_neg x0, ev_IR, ev_II, if_neg x0, ev_II, if_neg x0, ev_II, if_neg x0]
      have rR : ∀ x y, pm_R r x y = if x = 2 then (if y = cnt then some (pm_sz h) else pm_R r' x y) else pm_R r' x y := fun x y => by rw [er]; rfl
      have F : mFr h r := mFr_of sz e1 r1 FX (Y := Y) (r' := r') Ys Yk Yl YL YR YI CF sz1 (by rw [er]; rfl) (by rw [er]; rfl) (by rw [er]; rfl) (by rw [er]; rfl) (fun x y hx => by rw [rR, if_neg hx]) rI
      have ER : ∀ x, 28 < x → pe_E r' r x := fun x hx => ⟨by rw [er]; rfl, by rw [er]; rfl, fun y => rI x y (by omega), fun y => by rw [er]; rfl, fun y => by rw [rR, if_neg (by omega)]⟩
      refine ⟨Int32.ofNat cnt, r, e, F, rfl, eCl_m C' F (JJ e) (by omega) (by rw [er, ev_II, if_pos rfl, if_pos rfl]), ?_, ?_, fun k => ?_, pm_sz Y, pm_sz Y + 1, ?_⟩
      · rw [er, ev_II, if_pos rfl, if_neg (by decide), ev_IR, ev_II, if_pos rfl, if_neg (by decide), ev_II, if_pos rfl, if_neg (by decide), ev_II, if_pos rfl, if_pos rfl]
      · rw [er, ev_II, if_pos rfl, if_neg (by decide), ev_IR, ev_II, if_pos rfl, if_pos rfl]
      · rw [rR, if_pos rfl, q2 k]
      · have em := ER (pm_sz h) (by omega)
        have eb := ER (pm_sz h + 1) (by omega)
        have ecs := ER (pm_sz Y + 1) (by omega)
        exact ⟨em.1.trans y3, ⟨(em.2.2.2.2 0).trans y4, eb.1.trans y5, eb.2.1.trans y6, fun i hi => by rw [eb.2.2.1 i]; exact y9 i hi⟩, cMx_k (fun x q1 q2 => by
          have ex := ER x (by omega)
          exact ⟨ex.1, ex.2.1, funext ex.2.2.1, funext ex.2.2.2.1, funext ex.2.2.2.2⟩) (Nat.le_refl _) (.inl rfl) (fun j s _ _ _ => em.2.2.2.2 j) (by decide) (em.2.2.2.1 13) (em.2.2.2.1 14) w2, by omega, ⟨(em.2.2.2.2 12).trans w3.1, ecs.1.trans w3.2.1, ecs.2.1.trans w3.2.2⟩, bLp_E (by rw [er]; rfl) (by omega) (by omega) ER w5⟩
end CMOD
