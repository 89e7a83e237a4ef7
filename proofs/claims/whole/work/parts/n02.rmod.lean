/-! THE REFERENCE: module() whole -/
/-- the reference between two calls, as module() needs it -/
def rEn (h : pm_H) (fed cnt : Nat) : Prop := (pm_kd h 592 = 16 ∧ pm_I h 592 1 = Int32.ofNat fed ∧ pm_I h 592 3 = Int32.ofNat cnt ∧ pm_R h 592 0 = some 593 ∧ pm_R h 592 4 = some 594 ∧ pm_R h 592 9 = some 595 ∧ pm_R h 592 14 = some 596 ∧ pm_R h 592 15 = some 597) ∧ (fed ≤ 40960 ∧ cnt ≤ 16) ∧ (pm_kd h 593 = 33 ∧ pm_ln h 593 = 40980) ∧ (pm_kd h 594 = 42 ∧ pm_ln h 594 = 16) ∧ pm_kd h 595 = 13 ∧ (pm_kd h 596 = 34 ∧ pm_ln h 596 = 40962 ∧ pm_kd h 597 = 34 ∧ pm_ln h 597 = 40962) ∧ vX h ∧ 648 < pm_sz h ∧ ∀ p, pm_R h 592 5 = some p → pm_kd h p = 14 ∧ mP h p ∧ 648 < p ∧ p + 39 < pm_sz h
def rV (m x : Nat) : Prop := x = 592 ∨ x = 594 ∨ (596 ≤ x ∧ x ≤ 604) ∨ (m ≤ x ∧ x ≤ m + 39)
/-- what module() leaves of the heap before; m its Plan -/
def rFr (h r : pm_H) (m : Nat) : Prop := (∀ x, x < pm_sz h → ¬ rV m x → pe_E h r x) ∧ (∀ x, x < pm_sz h → pm_kd r x = pm_kd h x ∧ pm_ln r x = pm_ln h x) ∧ (∀ y, y ≠ 5 → pm_R r 592 y = pm_R h 592 y) ∧ (∀ y, ¬ rY y → pm_I r 592 y = pm_I h 592 y) ∧ (∀ y, y ≠ 17 → y ≠ 18 → pm_L r 592 y = pm_L h 592 y) ∧ pm_sz h + 3 ≤ pm_sz r ∧ (648 < m ∧ m + 39 < pm_sz r) ∧ pm_kd r m = 14 ∧ mP r m
section RMOD
variable {h h4 w r : pm_H} {n m fed cnt : Nat} {B : Nat → Nat}
/-- begin, and what is behind it; h4 stands on the Plan m -/
theorem r_beg (K : pm_kd h4 592 = 16) (rr : pm_R h4 592 10 = some m) (km : pm_kd h4 m = 14) (P : mP h4 m) (hm : 648 < m) (ms : m + 39 < pm_sz h4) (hn : n ≤ 40960) (r0 : pm_R h4 592 0 = some 593) (k3 : pm_kd h4 593 = 33) (l3 : pm_ln h4 593 = 40980) (r9 : pm_R h4 592 9 = some 595) (k5 : pm_kd h4 595 = 13) (r14 : pm_R h4 592 14 = some 596) (k6 : pm_kd h4 596 = 34) (l6 : pm_ln h4 596 = 40962) (r15 : pm_R h4 592 15 = some 597) (k7 : pm_kd h4 597 = 34) (l7 : pm_ln h4 597 = 40962) (hB : ∀ i, i < n → pm_I h4 593 i &&& 255 = Int32.ofNat (B i)) (hB2 : ∀ i, B i < 256) (i3 : pm_I h4 592 3 = Int32.ofNat cnt) (hc : cnt < 16) (r4 : pm_R h4 592 4 = some 594) (k4 : pm_kd h4 594 = 42) (l4 : pm_ln h4 594 = 16) (V : vX h4) (z : Option Nat) : ∃ w, fX14_begin h4 m (Int32.ofNat n) = some w ∧ ∃ ans r, pm_lim sX16_module (.inr (.inr (.inr (.inr (.inl (592, Int32.ofNat n, z, 0, w)))))) = some (ans, r) ∧ (pm_sz r = pm_sz h4 + 3 ∧ (∀ x, x < pm_sz h4 → ¬ rV m x → pe_E h4 r x) ∧ (∀ x, x < pm_sz h4 → pm_kd r x = pm_kd h4 x ∧ pm_ln r x = pm_ln h4 x) ∧ (∀ y, y ≠ 5 → y ≠ 10 → pm_R r 592 y = pm_R h4 592 y) ∧ (∀ y, ¬ rY y → pm_I r 592 y = pm_I h4 592 y) ∧ (∀ y, y ≠ 17 → y ≠ 18 → pm_L r 592 y = pm_L h4 592 y) ∧ pm_kd r m = 14 ∧ mP r m) ∧ pm_R r 592 10 = z ∧ pm_I r 592 1 = 0 ∧ pm_I r 592 6 = 1 ∧ match mSp B n with
    | .inl (fl, pl) => ans = -1 ∧ pm_I r 592 7 = Int32.ofNat fl ∧ pm_I r 592 8 = Int32.ofNat pl ∧ pm_I r 592 3 = Int32.ofNat cnt ∧ pm_R r 592 5 = pm_R h4 592 5 ∧ ∀ k, pm_R r 594 k = pm_R h4 594 k
    | .inr v => ans = Int32.ofNat cnt ∧ pm_I r 592 7 = 0 ∧ pm_I r 592 8 = -1 ∧ pm_I r 592 3 = Int32.ofNat (cnt + 1) ∧ pm_R r 592 5 = none ∧ (∀ k, pm_R r 594 k = if k = cnt then some m else pm_R h4 594 k) ∧ rMd r m n B v.1.1 v.1.2 := by
  obtain ⟨p1, p2, p3⟩ := mP_2 P
  obtain ⟨w, e1, z1, E1, ⟨q1, q2, q3, q4⟩, q5, ⟨q6, q7, q8⟩, ⟨q9, q10⟩, ⟨q11, q12⟩, ⟨q13, q14⟩⟩ := cX14b km (by omega) p1 p2 p3 (by omega) hn
  obtain ⟨w', e2, y3, y4, y8, y14, y15, y17, y21, y24, y28, y33, y34, y42, y43, y44, y50, ys, yel, yR⟩ := cX14c km (by omega) p1 p2 p3 (by omega) hn
  rw [e1] at e2
  cases e2
  have F : ∀ x, x < pm_sz h4 → x ≠ m → x ≠ m + 1 → pe_E h4 w x := E1
  have f5 := F 592 (by omega) (by omega) (by omega)
  have f93 := F 593 (by omega) (by omega) (by omega)
  have f94 := F 594 (by omega) (by omega) (by omega)
  have f95 := F 595 (by omega) (by omega) (by omega)
  have f96 := F 596 (by omega) (by omega) (by omega)
  have f97 := F 597 (by omega) (by omega) (by omega)
  have kl : ∀ x, x < pm_sz h4 → pm_kd w x = pm_kd h4 x ∧ pm_ln w x = pm_ln h4 x := fun x hx => by
    by_cases c : x = m
    · rw [c]; exact ⟨q1.trans km.symm, q2⟩
    · by_cases d : x = m + 1
      · rw [d]; exact ⟨q3.trans p2.symm, q4.trans p3.symm⟩
      · have e := F x hx c d
        exact ⟨e.1, e.2.1⟩
  have P' : mP w m := ⟨fun y hy => by
    rw [yR y (fun z => hy (by rw [z]; rfl)) (fun z => hy (by rw [z]; rfl)) (fun z => hy (by rw [z]; rfl))]
    exact P.1 y hy, fun j h1 h2 => by
    obtain ⟨a, b⟩ := kl (m + j) (by omega)
    rw [a, b]
    exact P.2 j h1 h2⟩
  have V' : vX w := by
    unfold vX at V ⊢
    obtain ⟨⟨a1, a2, a3⟩, ⟨a4, a5, a6⟩, ⟨a7, a8, a9⟩, ⟨b1, b2, b3⟩, ⟨b4, b5, b6⟩, ⟨b7, b8, b9⟩, ⟨c1, c2, c3⟩⟩ := V
    have k : ∀ x, x < 649 → pm_kd w x = pm_kd h4 x ∧ pm_ln w x = pm_ln h4 x := fun x hx => kl x (by omega)
    exact ⟨⟨(f5.2.2.2.2 20).trans a1, (k 598 (by decide)).1.trans a2, (k 598 (by decide)).2.trans a3⟩, ⟨(f5.2.2.2.2 22).trans a4, (k 599 (by decide)).1.trans a5, (k 599 (by decide)).2.trans a6⟩, ⟨(f5.2.2.2.2 25).trans a7, (k 600 (by decide)).1.trans a8, (k 600 (by decide)).2.trans a9⟩, ⟨(f5.2.2.2.2 26).trans b1, (k 601 (by decide)).1.trans b2, (k 601 (by decide)).2.trans b3⟩, ⟨(f5.2.2.2.2 27).trans b4, (k 602 (by decide)).1.trans b5, (k 602 (by decide)).2.trans b6⟩, ⟨(f5.2.2.2.2 28).trans b7, (k 603 (by decide)).1.trans b8, (k 603 (by decide)).2.trans b9⟩, ⟨(f5.2.2.2.2 32).trans c1, (k 604 (by decide)).1.trans c2, (k 604 (by decide)).2.trans c3⟩⟩
  obtain ⟨ans, r, er, ⟨g1, g2, g3, g4, g5, g6, g7, g8⟩, r10, i1, i6, R⟩ := r_run (w := w) (m := m) (b := pm_sz h4) (eo := pm_sz h4 + 1) (el := pm_sz h4 + 2) (B := B) (cnt := cnt) (f5.1.trans K) ((f5.2.2.2.2 10).trans rr) q1 q6 q9 q10 hn ((f5.2.2.2.2 0).trans r0) (f93.1.trans k3) (by rw [f93.2.1, l3]; decide) ((f5.2.2.2.2 9).trans r9) (f95.1.trans k5) ((f5.2.2.2.2 14).trans r14) (f96.1.trans k6) (f96.2.1.trans l6) ((f5.2.2.2.2 15).trans r15) (f97.1.trans k7) (f97.2.1.trans l7) q7 q11 q12 q8 q13 q14 P' hm ms (by omega) (by omega) (by omega) (fun i hi => by rw [f93.2.2.1]; exact hB i hi) hB2 ⟨y3, y4, y8, y14, y15, y17, y21, y24, y28, y33, y34, y42, y43, y44, y50, ys, yel⟩ q5 ((f5.2.2.1 3).trans i3) hc ((f5.2.2.2.2 4).trans r4) (f94.1.trans k4) (f94.2.1.trans l4) V' z
  refine ⟨w, e1, ans, r, er, ⟨by omega, fun x hx hv => ?_, fun x hx => ?_, fun y h1 h2 => (g5 y h1 h2).trans (f5.2.2.2.2 y), fun y hy => (g7 y hy).trans (f5.2.2.1 y), fun y h1 h2 => (g8 y h1 h2).trans (f5.2.2.2.1 y), by rw [g2]; exact q1, ⟨fun y hy => (g4 m y (by omega) (by omega)).trans (P'.1 y hy), fun j h1 h2 => by rw [g2, g3]; exact P'.2 j h1 h2⟩⟩, r10, i1, i6, ?_⟩
  · unfold rV at hv
    have e := F x hx (by omega) (by omega)
    have n1 : ¬ rW m (pm_sz h4) (pm_sz h4 + 1) (pm_sz h4 + 2) x := by unfold rW; omega
    exact ⟨by rw [g2]; exact e.1, by rw [g3]; exact e.2.1, fun y => (g6 x y n1).1.trans (e.2.2.1 y), fun y => (g6 x y n1).2.trans (e.2.2.2.1 y), fun y => (g4 x y (by omega) (by omega)).trans (e.2.2.2.2 y)⟩
  · rw [g2, g3]; exact kl x hx
  · cases hs : mSp B n with
    | inl x =>
      rw [hs] at R
      obtain ⟨a1, a2, a3, a4, a5, a6⟩ := R
      exact ⟨a1, a2, a3, a4, a5.trans (f5.2.2.2.2 5), fun k => (a6 k).trans (f94.2.2.2.2 k)⟩
    | inr v =>
      rw [hs] at R
      obtain ⟨a1, a2, a3, a4, a5, a6, a7⟩ := R
      exact ⟨a1, a2, a3, a4, a5, fun k => by rw [a6 k, f94.2.2.2.2 k], a7⟩
theorem rEn_n (E : rEn h fed cnt) (F : rFr h r m) (i1 : pm_I r 592 1 = 0) {c : Nat} (hc : c ≤ 16) (i3 : pm_I r 592 3 = Int32.ofNat c) (r5 : pm_R r 592 5 = none ∨ pm_R r 592 5 = some m) : rEn r 0 c := by
  obtain ⟨⟨e1, e2, e3, e4, e5, e6, e7, e8⟩, ⟨f1, f2⟩, ⟨t1, t2⟩, ⟨m1, m2⟩, k5, ⟨b1, b2, b3, b4⟩, V, sz, -⟩ := E
  obtain ⟨F1, F2, F3, F4, F5, F6, ⟨F7, F8⟩, F9, F10⟩ := F
  have kl := fun x (hx : x < 649) => F2 x (by omega)
  have V' : vX r := by
    unfold vX at V ⊢
    obtain ⟨⟨a1, a2, a3⟩, ⟨a4, a5, a6⟩, ⟨a7, a8, a9⟩, ⟨b1, b2, b3⟩, ⟨b4, b5, b6⟩, ⟨b7, b8, b9⟩, ⟨c1, c2, c3⟩⟩ := V
    exact ⟨⟨(F3 20 (by decide)).trans a1, (kl 598 (by decide)).1.trans a2, (kl 598 (by decide)).2.trans a3⟩, ⟨(F3 22 (by decide)).trans a4, (kl 599 (by decide)).1.trans a5, (kl 599 (by decide)).2.trans a6⟩, ⟨(F3 25 (by decide)).trans a7, (kl 600 (by decide)).1.trans a8, (kl 600 (by decide)).2.trans a9⟩, ⟨(F3 26 (by decide)).trans b1, (kl 601 (by decide)).1.trans b2, (kl 601 (by decide)).2.trans b3⟩, ⟨(F3 27 (by decide)).trans b4, (kl 602 (by decide)).1.trans b5, (kl 602 (by decide)).2.trans b6⟩, ⟨(F3 28 (by decide)).trans b7, (kl 603 (by decide)).1.trans b8, (kl 603 (by decide)).2.trans b9⟩, ⟨(F3 32 (by decide)).trans c1, (kl 604 (by decide)).1.trans c2, (kl 604 (by decide)).2.trans c3⟩⟩
  refine ⟨⟨(kl 592 (by decide)).1.trans e1, i1, i3, (F3 0 (by decide)).trans e4, (F3 4 (by decide)).trans e5, (F3 9 (by decide)).trans e6, (F3 14 (by decide)).trans e7, (F3 15 (by decide)).trans e8⟩, ⟨Nat.zero_le _, hc⟩, ⟨(kl 593 (by decide)).1.trans t1, (kl 593 (by decide)).2.trans t2⟩, ⟨(kl 594 (by decide)).1.trans m1, (kl 594 (by decide)).2.trans m2⟩, (kl 595 (by decide)).1.trans k5, ⟨(kl 596 (by decide)).1.trans b1, (kl 596 (by decide)).2.trans b2, (kl 597 (by decide)).1.trans b3, (kl 597 (by decide)).2.trans b4⟩, V', by omega, fun p hp => ?_⟩
  rcases r5 with q | q
  · rw [q] at hp; cases hp
  · rw [q] at hp
    cases hp
    exact ⟨F9, F10, F7, F8⟩
theorem r_mod (E : rEn h fed cnt) (hn : n ≤ fed) (hc : cnt < 16) (hB : ∀ i, i < n → pm_I h 593 i &&& 255 = Int32.ofNat (B i)) (hB2 : ∀ i, B i < 256) : ∃ ans r m, fX16_module h 592 (Int32.ofNat n) = some (ans, r) ∧ rFr h r m ∧ (pm_R h 592 5 = none ∧ m = pm_sz h ∨ pm_R h 592 5 = some m) ∧ pm_I r 592 6 = 1 ∧ match mSp B n with
    | .inl (fl, pl) => ans = -1 ∧ rEn r 0 cnt ∧ pm_I r 592 7 = Int32.ofNat fl ∧ pm_I r 592 8 = Int32.ofNat pl ∧ ∀ k, pm_R r 594 k = pm_R h 594 k
    | .inr v => ans = Int32.ofNat cnt ∧ rEn r 0 (cnt + 1) ∧ pm_I r 592 7 = 0 ∧ pm_I r 592 8 = -1 ∧ pm_R r 592 5 = none ∧ (∀ k, pm_R r 594 k = if k = cnt then some m else pm_R h 594 k) ∧ rMd r m n B v.1.1 v.1.2 := by
  have E' := E
  obtain ⟨⟨e1, e2, e3, e4, e5, e6, e7, e8⟩, ⟨f1, f2⟩, ⟨t1, t2⟩, ⟨m1, m2⟩, k5, ⟨b1, b2, b3, b4⟩, V, sz, kp⟩ := E
  have hd : ∀ {Y : Option (Int32 × pm_H)}, ev_k sX16_module (pc_oc (pm_R h 592 5) (some (.inl (.inr (.inl ((592, Int32.ofNat n, pm_R h 592 10, pm_sz h, 592, pm_new h 14 0)))))) ((pm_R h 592 5).bind fun v6 => (pm_R (pm_setR h 592 10 (some v6)) 592 10).bind fun v8 => if pm_kd (pm_setR h 592 10 (some v6)) v8 = 14 then (fX14_begin (pm_setR h 592 10 (some v6)) v8 (Int32.ofNat n)).bind fun v11 => some (.inl (.inr (.inr (.inl ((592, Int32.ofNat n, pm_R h 592 10, v11)))))) else none)) = Y → fX16_module h 592 (Int32.ofNat n) = Y := fun {Y} hY => by
    unfold fX16_module
    refine k_w (aX16_module_0 ..) ?_
    unfold tX16_module_0
    refine k_f (by rw [n3_0, nn_lt (by omega) (by decide)]; omega) (k_t e1 (k_f (by rw [e2, nn_lt (by omega) (by omega)]; omega) (k_f ?_ hY)))
    rw [e3, show (16 : Int32) = Int32.ofNat 16 from rfl, nn_eq (by omega) (by decide)]
    omega
  -- from the heap h4 that stands on the Plan m
  have fin : ∀ {h4 r : pm_H} {m : Nat} {ans : Int32} {z : Option Nat}, z = pm_R h 592 10 → (648 < m) → (∀ x, x < pm_sz h → x ≠ 592 → pe_E h h4 x) → (∀ y, y ≠ 5 → y ≠ 10 → pm_R h4 592 y = pm_R h 592 y) → (pm_kd h4 592 = 16 ∧ pm_ln h4 592 = pm_ln h 592 ∧ (∀ y, pm_I h4 592 y = pm_I h 592 y) ∧ ∀ y, pm_L h4 592 y = pm_L h 592 y) → pm_sz h ≤ pm_sz h4 → m + 39 < pm_sz h4 → (pm_R h4 592 5 = none ∨ pm_R h4 592 5 = some m) → fX16_module h 592 (Int32.ofNat n) = some (ans, r) → (pm_R h 592 5 = none ∧ m = pm_sz h ∨ pm_R h 592 5 = some m) → (pm_sz r = pm_sz h4 + 3 ∧ (∀ x, x < pm_sz h4 → ¬ rV m x → pe_E h4 r x) ∧ (∀ x, x < pm_sz h4 → pm_kd r x = pm_kd h4 x ∧ pm_ln r x = pm_ln h4 x) ∧ (∀ y, y ≠ 5 → y ≠ 10 → pm_R r 592 y = pm_R h4 592 y) ∧ (∀ y, ¬ rY y → pm_I r 592 y = pm_I h4 592 y) ∧ (∀ y, y ≠ 17 → y ≠ 18 → pm_L r 592 y = pm_L h4 592 y) ∧ pm_kd r m = 14 ∧ mP r m) → pm_R r 592 10 = z → pm_I r 592 1 = 0 → pm_I r 592 6 = 1 → (match mSp B n with
    | .inl (fl, pl) => ans = -1 ∧ pm_I r 592 7 = Int32.ofNat fl ∧ pm_I r 592 8 = Int32.ofNat pl ∧ pm_I r 592 3 = Int32.ofNat cnt ∧ pm_R r 592 5 = pm_R h4 592 5 ∧ ∀ k, pm_R r 594 k = pm_R h4 594 k
    | .inr v => ans = Int32.ofNat cnt ∧ pm_I r 592 7 = 0 ∧ pm_I r 592 8 = -1 ∧ pm_I r 592 3 = Int32.ofNat (cnt + 1) ∧ pm_R r 592 5 = none ∧ (∀ k, pm_R r 594 k = if k = cnt then some m else pm_R h4 594 k) ∧ rMd r m n B v.1.1 v.1.2) → ∃ ans r m, fX16_module h 592 (Int32.ofNat n) = some (ans, r) ∧ rFr h r m ∧ (pm_R h 592 5 = none ∧ m = pm_sz h ∨ pm_R h 592 5 = some m) ∧ pm_I r 592 6 = 1 ∧ match mSp B n with
    | .inl (fl, pl) => ans = -1 ∧ rEn r 0 cnt ∧ pm_I r 592 7 = Int32.ofNat fl ∧ pm_I r 592 8 = Int32.ofNat pl ∧ ∀ k, pm_R r 594 k = pm_R h 594 k
    | .inr v => ans = Int32.ofNat cnt ∧ rEn r 0 (cnt + 1) ∧ pm_I r 592 7 = 0 ∧ pm_I r 592 8 = -1 ∧ pm_R r 592 5 = none ∧ (∀ k, pm_R r 594 k = if k = cnt then some m else pm_R h 594 k) ∧ rMd r m n B v.1.1 v.1.2 := by
    intro h4 r m ans z hz hm EH RH ⟨K1, K2, K3, K4⟩ s1 s2 r5 er way ⟨g1, g2, g3, g5, g6, g7, g8, g9⟩ r10 i1 i6 R
    have e94 := EH 594 (by omega) (by decide)
    have F : rFr h r m := ⟨fun x hx hv => pe_E_t (EH x hx (fun z => hv (.inl z))) (g2 x (by omega) hv), fun x hx => by
      obtain ⟨a, b⟩ := g3 x (by omega)
      by_cases c : x = 592
      · rw [c] at a b ⊢
        exact ⟨(a.trans K1).trans e1.symm, b.trans K2⟩
      · have e := EH x hx c
        exact ⟨a.trans e.1, b.trans e.2.1⟩, fun y hy => by
      by_cases c : y = 10
      · rw [c, r10]; exact hz
      · rw [g5 y hy c]; exact RH y hy c, fun y hy => (g6 y hy).trans (K3 y), fun y h1 h2 => (g7 y h1 h2).trans (K4 y), by omega, ⟨hm, by omega⟩, g8, g9⟩
    refine ⟨ans, r, m, er, F, way, i6, ?_⟩
    cases hs : mSp B n with
    | inl x =>
      rw [hs] at R
      obtain ⟨a1, a2, a3, a4, a5, a6⟩ := R
      exact ⟨a1, rEn_n E' F i1 f2 a4 (by rw [a5]; exact r5), a2, a3, fun k => (a6 k).trans (e94.2.2.2.2 k)⟩
    | inr v =>
      rw [hs] at R
      obtain ⟨a1, a2, a3, a4, a5, a6, a7⟩ := R
      exact ⟨a1, rEn_n E' F i1 (by omega) a4 (.inl a5), a2, a3, a5, fun k => by rw [a6 k, e94.2.2.2.2 k], a7⟩
  obtain ⟨o, ho⟩ : ∃ o, o = pm_R h 592 5 := ⟨_, rfl⟩
  cases o with
  | some p =>
    have hp := ho.symm
    obtain ⟨kp1, kp2, kp3, kp4⟩ := kp p hp
    obtain ⟨h4, eh4⟩ : ∃ x, x = pm_setR h 592 10 (some p) := ⟨_, rfl⟩
    have E4 : ∀ x, x < pm_sz h → x ≠ 592 → pe_E h h4 x := fun x _ hx => ⟨by rw [eh4]; rfl, by rw [eh4]; rfl, fun y => by rw [eh4]; rfl, fun y => by rw [eh4]; rfl, fun y => by rw [eh4, ev_RR, if_neg hx]⟩
    have R4 : ∀ y, y ≠ 10 → pm_R h4 592 y = pm_R h 592 y := fun y hy => by rw [eh4, ev_RR, if_pos rfl, if_neg hy]
    have k4 : pm_kd h4 = pm_kd h := by rw [eh4]; rfl
    have l4 : pm_ln h4 = pm_ln h := by rw [eh4]; rfl
    have I4 : pm_I h4 = pm_I h := by rw [eh4]; rfl
    have r10 : pm_R h4 592 10 = some p := by rw [eh4, ev_RR, if_pos rfl, if_pos rfl]
    have s4 : pm_sz h4 = pm_sz h := by rw [eh4]; rfl
    obtain ⟨w, ew, ans, r, er, FR, q10, i1, i6, R⟩ := r_beg (h4 := h4) (n := n) (m := p) (B := B) (cnt := cnt) (by rw [k4]; exact e1) r10 (by rw [k4]; exact kp1) ⟨fun y hy => ((E4 p (by omega) (by omega)).2.2.2.2 y).trans (kp2.1 y hy), fun j h1 h2 => by rw [k4, l4]; exact kp2.2 j h1 h2⟩ kp3 (by omega) (by omega) ((R4 0 (by decide)).trans e4) (by rw [k4]; exact t1) (by rw [l4]; exact t2) ((R4 9 (by decide)).trans e6) (by rw [k4]; exact k5) ((R4 14 (by decide)).trans e7) (by rw [k4]; exact b1) (by rw [l4]; exact b2) ((R4 15 (by decide)).trans e8) (by rw [k4]; exact b3) (by rw [l4]; exact b4) (fun i hi => by rw [I4]; exact hB i hi) hB2 (by rw [I4]; exact e3) hc ((R4 4 (by decide)).trans e5) (by rw [k4]; exact m1) (by rw [l4]; exact m2) (by
      unfold vX at V ⊢
      rw [k4, l4, R4 20 (by decide), R4 22 (by decide), R4 25 (by decide), R4 26 (by decide), R4 27 (by decide), R4 28 (by decide), R4 32 (by decide)]
      exact V) (pm_R h 592 10)
    refine fin (h4 := h4) rfl kp3 E4 (fun y _ hy => R4 y hy) ⟨by rw [k4]; exact e1, by rw [l4], fun y => by rw [I4], fun y => by rw [eh4]; rfl⟩ (by omega) (by omega) (.inr ((R4 5 (by decide)).trans hp)) (hd ?_) (.inr hp) FR q10 i1 i6 R
    rw [hp]
    rw [eh4] at r10 ew
    show ev_k sX16_module ((some p : Option Nat).bind fun v6 => (pm_R (pm_setR h 592 10 (some v6)) 592 10).bind fun v8 => if pm_kd (pm_setR h 592 10 (some v6)) v8 = 14 then (fX14_begin (pm_setR h 592 10 (some v6)) v8 (Int32.ofNat n)).bind fun v11 => some (.inl (.inr (.inr (.inl ((592, Int32.ofNat n, pm_R h 592 10, v11)))))) else none) = _
    refine k_b (show (some p : Option Nat) = some p from rfl) (k_b r10 (k_t (show pm_kd h p = 14 from kp1) (k_b ew (k_n (k_w (aX16_module_2 ..) ?_)))))
    unfold tX16_module_63
    exact k_n er
  | none =>
    have hp := ho.symm
    obtain ⟨h1, eh1⟩ : ∃ x, x = pm_new h 14 0 := ⟨_, rfl⟩
    obtain ⟨-, N2, N3⟩ := pe_new h 14 0 592 (by omega)
    rw [← eh1] at N2 N3
    have z1 : pm_sz h1 = pm_sz h + 1 := by rw [eh1]; rfl
    obtain ⟨h2, eh2, z2, ⟨-, kk, -, EK⟩, PJ⟩ := cX14 N2 rfl (by omega)
    rw [z1] at z2 PJ
    have P2 := X14_mP PJ
    obtain ⟨h4, eh4⟩ : ∃ x, x = pm_setR (pm_setR h2 592 5 (some (pm_sz h))) 592 10 (some (pm_sz h)) := ⟨_, rfl⟩
    have E2 : ∀ x, x < pm_sz h → pe_E h h2 x := fun x hx => pe_E_t (N3 x hx) (EK x (by omega) (by omega))
    have E24 : ∀ x, x ≠ 592 → pe_E h2 h4 x := fun x hx => ⟨by rw [eh4]; rfl, by rw [eh4]; rfl, fun y => by rw [eh4]; rfl, fun y => by rw [eh4]; rfl, fun y => by rw [eh4, ev_RR, if_neg hx, ev_RR, if_neg hx]⟩
    have E4 : ∀ x, x < pm_sz h → x ≠ 592 → pe_E h h4 x := fun x hx h5 => pe_E_t (E2 x hx) (E24 x h5)
    have e5' := E2 592 (by omega)
    have k4 : ∀ x, x < pm_sz h → pm_kd h4 x = pm_kd h x ∧ pm_ln h4 x = pm_ln h x := fun x hx => by rw [eh4]; exact ⟨(E2 x hx).1, (E2 x hx).2.1⟩
    have R4 : ∀ y, y ≠ 5 → y ≠ 10 → pm_R h4 592 y = pm_R h 592 y := fun y h5 hy => by rw [eh4, ev_RR, if_pos rfl, if_neg hy, ev_RR, if_pos rfl, if_neg h5]; exact e5'.2.2.2.2 y
    have r10 : pm_R h4 592 10 = some (pm_sz h) := by rw [eh4, ev_RR, if_pos rfl, if_pos rfl]
    have r5 : pm_R h4 592 5 = some (pm_sz h) := by rw [eh4, ev_RR, if_pos rfl, if_neg (by decide), ev_RR, if_pos rfl, if_pos rfl]
    have I4 : pm_I h4 = pm_I h2 := by rw [eh4]; rfl
    have s4 : pm_sz h4 = pm_sz h + 40 := by rw [eh4]; show pm_sz h2 = _; omega
    have km : pm_kd h4 (pm_sz h) = 14 := (E24 _ (by omega)).1.trans (kk.trans N2.1)
    have kl := fun x (hx : x < 649) => k4 x (by omega)
    obtain ⟨w, ew, ans, r, er, FR, q10, i1, i6, R⟩ := r_beg (h4 := h4) (n := n) (m := pm_sz h) (B := B) (cnt := cnt) ((kl 592 (by decide)).1.trans e1) r10 km ⟨fun y hy => ((E24 _ (by omega)).2.2.2.2 y).trans (P2.1 y hy), fun j h1 h2 => by
      have e := E24 (pm_sz h + j) (by omega)
      rw [e.1, e.2.1]; exact P2.2 j h1 h2⟩ sz (by omega) (by omega) ((R4 0 (by decide) (by decide)).trans e4) ((kl 593 (by decide)).1.trans t1) ((kl 593 (by decide)).2.trans t2) ((R4 9 (by decide) (by decide)).trans e6) ((kl 595 (by decide)).1.trans k5) ((R4 14 (by decide) (by decide)).trans e7) ((kl 596 (by decide)).1.trans b1) ((kl 596 (by decide)).2.trans b2) ((R4 15 (by decide) (by decide)).trans e8) ((kl 597 (by decide)).1.trans b3) ((kl 597 (by decide)).2.trans b4) (fun i hi => by rw [(E4 593 (by omega) (by decide)).2.2.1]; exact hB i hi) hB2 (by rw [I4, e5'.2.2.1]; exact e3) hc ((R4 4 (by decide) (by decide)).trans e5) ((kl 594 (by decide)).1.trans m1) ((kl 594 (by decide)).2.trans m2) (by
      unfold vX at V ⊢
      rw [R4 20 (by decide) (by decide), R4 22 (by decide) (by decide), R4 25 (by decide) (by decide), R4 26 (by decide) (by decide), R4 27 (by decide) (by decide), R4 28 (by decide) (by decide), R4 32 (by decide) (by decide), (kl 598 (by decide)).1, (kl 598 (by decide)).2, (kl 599 (by decide)).1, (kl 599 (by decide)).2, (kl 600 (by decide)).1, (kl 600 (by decide)).2, (kl 601 (by decide)).1, (kl 601 (by decide)).2, (kl 602 (by decide)).1, (kl 602 (by decide)).2, (kl 603 (by decide)).1, (kl 603 (by decide)).2, (kl 604 (by decide)).1, (kl 604 (by decide)).2]
      exact V) (pm_R h 592 10)
    refine fin (h4 := h4) rfl sz E4 R4 ⟨(kl 592 (by decide)).1.trans e1, (kl 592 (by decide)).2, fun y => by rw [I4, e5'.2.2.1], fun y => by rw [eh4]; exact e5'.2.2.2.1 y⟩ (by omega) (by omega) (.inr r5) (hd ?_) (.inl ⟨hp, rfl⟩) FR q10 i1 i6 R
    rw [hp]
    show ev_k sX16_module (some (.inl (.inr (.inl ((592, Int32.ofNat n, pm_R h 592 10, pm_sz h, 592, pm_new h 14 0)))))) = _
    rw [← eh1]
    refine k_n (k_w (aX16_module_1 ..) ?_)
    unfold tX16_module_40
    refine k_b eh2 (k_n (k_w (aX16_module_3 ..) ?_))
    unfold tX16_module_44
    have k5' : pm_kd h2 592 = 16 := e5'.1.trans e1
    refine k_t k5' (k_t k5' (k_b (show pm_R (pm_setR h2 592 5 (some (pm_sz h))) 592 5 = some (pm_sz h) by rw [ev_RR, if_pos rfl, if_pos rfl]) ?_))
    rw [← eh4]
    refine k_b r10 (k_t km (k_b ew (k_n (k_w (aX16_module_2 ..) ?_))))
    unfold tX16_module_63
    exact k_n er
end RMOD
