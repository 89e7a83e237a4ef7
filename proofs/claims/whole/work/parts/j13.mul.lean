/-! NUMBERS: products: class and reference give the same -/
/-- two floating values as the reference holds them -/
def m2 (H : pm_H) (g1 : Bool) (s1 w1 : Nat) (p1 : Int) (g2 : Bool) (s2 w2 : Nat) (p2 : Int) : Prop := pm_I H 605 0 = bI g1 ∧ pm_I H 605 1 = Int32.ofInt s1 ∧ pm_L H 605 2 = Int64.ofNat w1 ∧ pm_I H 605 3 = Int32.ofInt p1 ∧ pm_I H 606 0 = bI g2 ∧ pm_I H 606 1 = Int32.ofInt s2 ∧ pm_L H 606 2 = Int64.ofNat w2 ∧ pm_I H 606 3 = Int32.ofInt p2
theorem m2_rv (h : pm_H) (g1 : Bool) (s1 w1 : Nat) (p1 : Int) (g2 : Bool) (s2 w2 : Nat) (p2 : Int) : m2 (rv (rv h 605 g1 s1 w1 p1) 606 g2 s2 w2 p2) g1 s1 w1 p1 g2 s2 w2 p2 := by
  refine ⟨?_, ?_, ?_, ?_, ?_, ?_, ?_, ?_⟩
  · rw [rv_In _ _ _ _ _ _ (by decide), rv_I0]
  · rw [rv_In _ _ _ _ _ _ (by decide), rv_I1]
  · rw [rv_Ln _ _ _ _ _ _ (by decide), rv_L2]
  · rw [rv_In _ _ _ _ _ _ (by decide), rv_I3]
  · rw [rv_I0]
  · rw [rv_I1]
  · rw [rv_L2]
  · rw [rv_I3]
theorem bx_t {b : Bool} (c : ¬ b = false) : b = true := by cases b <;> simp at c ⊢
theorem so2_i (s k : Nat) (hs : s ≤ 3) (hk : k ≤ 6) : (Int32.ofInt (s : Int) = Int32.ofInt (k : Int)) = (s = k) := by
  rw [zz_eq (by omega) (by omega) (by omega) (by omega)]
  exact propext ⟨fun z => by omega, fun z => by omega⟩
theorem mp2_b {H : pm_H} (O : mO H) {X Y : Nat} (hm : m2 H (ng2 X) (so2 X) (wh2 X) (pw2 X) (ng2 Y) (so2 Y) (wh2 Y) (pw2 Y)) {g : Bool} (hg : (ng2 X ^^ ng2 Y) = g) : fX16_product_b41 H 592 2 (bI g) = some (Int64.ofNat (ml2 X Y), H) := by
  obtain ⟨k, r1, r2, k1, k2⟩ := O
  obtain ⟨i0, i1, i2, i3, j0, j1, j2, j3⟩ := hm
  have cX := so2_c X
  have cY := so2_c Y
  have wX := wh2_lt X
  have wY := wh2_lt Y
  have pX := pw2_b X
  have pY := pw2_b Y
  have s3 : ∀ s : Nat, s ≤ 3 → (Int32.ofInt (s : Int) = (3 : Int32)) = (s = 3) := fun s hs => so2_i s 3 hs (by decide)
  have s2 : ∀ s : Nat, s ≤ 3 → (Int32.ofInt (s : Int) = (2 : Int32)) = (s = 2) := fun s hs => so2_i s 2 hs (by decide)
  have s1 : ∀ s : Nat, s ≤ 3 → (Int32.ofInt (s : Int) = (1 : Int32)) = (s = 1) := fun s hs => so2_i s 1 hs (by decide)
  have s4 : (Int32.ofInt (so2 X) + Int32.ofInt (so2 Y) = 3) = (so2 X + so2 Y = 3) := by
    rw [zz_ad, m3_3, zz_eq (by omega) (by omega) (by omega) (by omega)]
    exact propext ⟨fun z => by omega, fun z => by omega⟩
  have nn : fX16_noneOf 2 = Int64.ofNat 2143289344 := by decide
  have ni : fX16_withSign 2 (bI g) (fX16_infinite 2) = Int64.ofNat (sg2 g + 2139095040) := by
    rw [show fX16_infinite 2 = Int64.ofNat 2139095040 by decide]
    exact mw2 g (by decide)
  have nz : fX16_withSign 2 (bI g) 0 = Int64.ofNat (sg2 g) := mw2 g (a := 0) (by decide)
  unfold fX16_product_b41 ml2
  simp only [k, r1, r2, k1, k2, i1, j1, if_true, jr_bs, s3 (so2 X) (by omega), s3 (so2 Y) (by omega), s2 (so2 X) (by omega), s2 (so2 Y) (by omega), s1 (so2 X) (by omega), s1 (so2 Y) (by omega), s4, i2, i3, j2, j3, hg]
  by_cases c1 : so2 X = 3
  · simp (disch := omega) only [c1, nn, ↓reduceIte, jr_kl, jr_kr, ↓jr_let, jr_bs, and_true, true_and, and_false, false_and, or_true, true_or, or_false, false_or, not_true_eq_false, not_false_eq_true, b_let, b_lef, b_ltt, b_ltf, b_eqt, b_eqf, bz_let, bz_lef, bz_ltt, bz_ltf, bz_eqt, bz_eqf, Nat.reducePow, Nat.reduceMul, Nat.reduceAdd, Nat.reduceSub, Nat.reduceMod, Nat.reduceDiv, Int.reduceAdd, Int.reduceSub, Int.reduceMul, Int.reduceNeg, Int.reduceToNat, Int.toNat_natCast]
  by_cases c2 : so2 Y = 3
  · simp (disch := omega) only [c1, c2, nn, ↓reduceIte, jr_kl, jr_kr, ↓jr_let, jr_bs, and_true, true_and, and_false, false_and, or_true, true_or, or_false, false_or, not_true_eq_false, not_false_eq_true, b_let, b_lef, b_ltt, b_ltf, b_eqt, b_eqf, bz_let, bz_lef, bz_ltt, bz_ltf, bz_eqt, bz_eqf, Nat.reducePow, Nat.reduceMul, Nat.reduceAdd, Nat.reduceSub, Nat.reduceMod, Nat.reduceDiv, Int.reduceAdd, Int.reduceSub, Int.reduceMul, Int.reduceNeg, Int.reduceToNat, Int.toNat_natCast]
  by_cases c3 : so2 X + so2 Y = 3
  · simp (disch := omega) only [c1, c2, c3, nn, ↓reduceIte, jr_kl, jr_kr, ↓jr_let, jr_bs, and_true, true_and, and_false, false_and, or_true, true_or, or_false, false_or, not_true_eq_false, not_false_eq_true, b_let, b_lef, b_ltt, b_ltf, b_eqt, b_eqf, bz_let, bz_lef, bz_ltt, bz_ltf, bz_eqt, bz_eqf, Nat.reducePow, Nat.reduceMul, Nat.reduceAdd, Nat.reduceSub, Nat.reduceMod, Nat.reduceDiv, Int.reduceAdd, Int.reduceSub, Int.reduceMul, Int.reduceNeg, Int.reduceToNat, Int.toNat_natCast]
  by_cases c4 : so2 X = 2
  · simp (disch := omega) only [c1, c2, c3, c4, ni, ↓reduceIte, jr_kl, jr_kr, ↓jr_let, jr_bs, and_true, true_and, and_false, false_and, or_true, true_or, or_false, false_or, not_true_eq_false, not_false_eq_true, b_let, b_lef, b_ltt, b_ltf, b_eqt, b_eqf, bz_let, bz_lef, bz_ltt, bz_ltf, bz_eqt, bz_eqf, Nat.reducePow, Nat.reduceMul, Nat.reduceAdd, Nat.reduceSub, Nat.reduceMod, Nat.reduceDiv, Int.reduceAdd, Int.reduceSub, Int.reduceMul, Int.reduceNeg, Int.reduceToNat, Int.toNat_natCast]
  by_cases c5 : so2 Y = 2
  · simp (disch := omega) only [c1, c2, c3, c4, c5, ni, ↓reduceIte, jr_kl, jr_kr, ↓jr_let, jr_bs, and_true, true_and, and_false, false_and, or_true, true_or, or_false, false_or, not_true_eq_false, not_false_eq_true, b_let, b_lef, b_ltt, b_ltf, b_eqt, b_eqf, bz_let, bz_lef, bz_ltt, bz_ltf, bz_eqt, bz_eqf, Nat.reducePow, Nat.reduceMul, Nat.reduceAdd, Nat.reduceSub, Nat.reduceMod, Nat.reduceDiv, Int.reduceAdd, Int.reduceSub, Int.reduceMul, Int.reduceNeg, Int.reduceToNat, Int.toNat_natCast]
  by_cases c6 : so2 X = 1
  · simp (disch := omega) only [c1, c2, c3, c4, c5, c6, nz, ↓reduceIte, jr_kl, jr_kr, ↓jr_let, jr_bs, and_true, true_and, and_false, false_and, or_true, true_or, or_false, false_or, not_true_eq_false, not_false_eq_true, b_let, b_lef, b_ltt, b_ltf, b_eqt, b_eqf, bz_let, bz_lef, bz_ltt, bz_ltf, bz_eqt, bz_eqf, Nat.reducePow, Nat.reduceMul, Nat.reduceAdd, Nat.reduceSub, Nat.reduceMod, Nat.reduceDiv, Int.reduceAdd, Int.reduceSub, Int.reduceMul, Int.reduceNeg, Int.reduceToNat, Int.toNat_natCast]
  by_cases c7 : so2 Y = 1
  · simp (disch := omega) only [c1, c2, c3, c4, c5, c6, c7, nz, ↓reduceIte, jr_kl, jr_kr, ↓jr_let, jr_bs, and_true, true_and, and_false, false_and, or_true, true_or, or_false, false_or, not_true_eq_false, not_false_eq_true, b_let, b_lef, b_ltt, b_ltf, b_eqt, b_eqf, bz_let, bz_lef, bz_ltt, bz_ltf, bz_eqt, bz_eqf, Nat.reducePow, Nat.reduceMul, Nat.reduceAdd, Nat.reduceSub, Nat.reduceMod, Nat.reduceDiv, Int.reduceAdd, Int.reduceSub, Int.reduceMul, Int.reduceNeg, Int.reduceToNat, Int.toNat_natCast]
  obtain ⟨hi, lo, b1, b2, b3, J⟩ := jp_ref (x := wh2 X) (y := wh2 Y) (by omega) (by omega)
  have J := J (fun a b => (fX16_rounded 2 (bI g) a b (Int32.ofInt (pw2 X) + Int32.ofInt (pw2 Y)) 0).bind fun v69 => some ((v69, H)))
  simp only [c1, c2, c3, c4, c5, c6, c7, if_false, or_self]
  refine J.trans ?_
  have w0 : wh2 X * wh2 Y ≠ 0 := Nat.mul_ne_zero (wh2_0 (by omega)) (wh2_0 (by omega))
  have R := mr2 g false b1 b2 b3 w0 (E := pw2 X + pw2 Y) (by omega) (by omega)
  show (fX16_rounded 2 (bI g) (Int64.ofNat hi) (Int64.ofNat lo) (Int32.ofInt (pw2 X) + Int32.ofInt (pw2 Y)) (bI false)).bind _ = _
  rw [zz_ad, R, jr_bs]
theorem mp2 {h : pm_H} (O : mO h) {X Y : Nat} (hX : X < 4294967296) (hY : Y < 4294967296) : fX16_product h 592 2 (Int64.ofNat X) (Int64.ofNat Y) = some (Int64.ofNat (ml2 X Y), rv (rv h 605 (ng2 X) (so2 X) (wh2 X) (pw2 X)) 606 (ng2 Y) (so2 Y) (wh2 Y) (pw2 Y)) := by
  have O1 := rv_O 605 (ng2 X) (so2 X) (wh2 X) (pw2 X) O
  have O2 := rv_O 606 (ng2 Y) (so2 Y) (wh2 Y) (pw2 Y) O1
  have e1 := mf2 (h := h) (a := 605) O.2.2.2.1 hX
  have e2 := mf2 (h := rv h 605 (ng2 X) (so2 X) (wh2 X) (pw2 X)) (a := 606) O1.2.2.2.2 hY
  have hm := m2_rv h (ng2 X) (so2 X) (wh2 X) (pw2 X) (ng2 Y) (so2 Y) (wh2 Y) (pw2 Y)
  unfold fX16_product
  rw [if_pos O.1, O.2.1, jr_bs, if_pos O.2.2.2.1, e1, jr_bs, if_pos O1.1, O1.2.2.1, jr_bs, if_pos O1.2.2.2.2, e2, jr_bs]
  generalize rv (rv h 605 (ng2 X) (so2 X) (wh2 X) (pw2 X)) 606 (ng2 Y) (so2 Y) (wh2 Y) (pw2 Y) = H at *
  rw [if_pos O2.1, O2.2.1, jr_bs, if_pos O2.2.2.2.1, O2.2.2.1, jr_bs, if_pos O2.2.2.2.2, hm.1, hm.2.2.2.2.1]
  by_cases c : (ng2 X ^^ ng2 Y) = false
  · rw [if_pos (by rw [bN_ne]; exact c), show (0 : Int32) = bI false from rfl]
    exact mp2_b O2 hm c
  · rw [if_neg (by rw [bN_ne]; exact c), show (1 : Int32) = bI true from rfl]
    exact mp2_b O2 hm (bx_t c)
theorem so3_i (s k : Nat) (hs : s ≤ 3) (hk : k ≤ 6) : (Int32.ofInt (s : Int) = Int32.ofInt (k : Int)) = (s = k) := by
  rw [zz_eq (by omega) (by omega) (by omega) (by omega)]
  exact propext ⟨fun z => by omega, fun z => by omega⟩
theorem mp3_b {H : pm_H} (O : mO H) {X Y : Nat} (hm : m2 H (ng3 X) (so3 X) (wh3 X) (pw3 X) (ng3 Y) (so3 Y) (wh3 Y) (pw3 Y)) {g : Bool} (hg : (ng3 X ^^ ng3 Y) = g) : fX16_product_b41 H 592 3 (bI g) = some (Int64.ofNat (ml3 X Y), H) := by
  obtain ⟨k, r1, r2, k1, k2⟩ := O
  obtain ⟨i0, i1, i2, i3, j0, j1, j2, j3⟩ := hm
  have cX := so3_c X
  have cY := so3_c Y
  have wX := wh3_lt X
  have wY := wh3_lt Y
  have pX := pw3_b X
  have pY := pw3_b Y
  have s3 : ∀ s : Nat, s ≤ 3 → (Int32.ofInt (s : Int) = (3 : Int32)) = (s = 3) := fun s hs => so3_i s 3 hs (by decide)
  have s2 : ∀ s : Nat, s ≤ 3 → (Int32.ofInt (s : Int) = (2 : Int32)) = (s = 2) := fun s hs => so3_i s 2 hs (by decide)
  have s1 : ∀ s : Nat, s ≤ 3 → (Int32.ofInt (s : Int) = (1 : Int32)) = (s = 1) := fun s hs => so3_i s 1 hs (by decide)
  have s4 : (Int32.ofInt (so3 X) + Int32.ofInt (so3 Y) = 3) = (so3 X + so3 Y = 3) := by
    rw [zz_ad, m3_3, zz_eq (by omega) (by omega) (by omega) (by omega)]
    exact propext ⟨fun z => by omega, fun z => by omega⟩
  have nn : fX16_noneOf 3 = Int64.ofNat 9221120237041090560 := by decide
  have ni : fX16_withSign 3 (bI g) (fX16_infinite 3) = Int64.ofNat (sg3 g + 9218868437227405312) := by
    rw [show fX16_infinite 3 = Int64.ofNat 9218868437227405312 by decide]
    exact mw3 g (by decide)
  have nz : fX16_withSign 3 (bI g) 0 = Int64.ofNat (sg3 g) := mw3 g (a := 0) (by decide)
  unfold fX16_product_b41 ml3
  simp only [k, r1, r2, k1, k2, i1, j1, if_true, jr_bs, s3 (so3 X) (by omega), s3 (so3 Y) (by omega), s2 (so3 X) (by omega), s2 (so3 Y) (by omega), s1 (so3 X) (by omega), s1 (so3 Y) (by omega), s4, i2, i3, j2, j3, hg]
  by_cases c1 : so3 X = 3
  · simp (disch := omega) only [c1, nn, ↓reduceIte, jr_kl, jr_kr, ↓jr_let, jr_bs, and_true, true_and, and_false, false_and, or_true, true_or, or_false, false_or, not_true_eq_false, not_false_eq_true, b_let, b_lef, b_ltt, b_ltf, b_eqt, b_eqf, bz_let, bz_lef, bz_ltt, bz_ltf, bz_eqt, bz_eqf, Nat.reducePow, Nat.reduceMul, Nat.reduceAdd, Nat.reduceSub, Nat.reduceMod, Nat.reduceDiv, Int.reduceAdd, Int.reduceSub, Int.reduceMul, Int.reduceNeg, Int.reduceToNat, Int.toNat_natCast]
  by_cases c2 : so3 Y = 3
  · simp (disch := omega) only [c1, c2, nn, ↓reduceIte, jr_kl, jr_kr, ↓jr_let, jr_bs, and_true, true_and, and_false, false_and, or_true, true_or, or_false, false_or, not_true_eq_false, not_false_eq_true, b_let, b_lef, b_ltt, b_ltf, b_eqt, b_eqf, bz_let, bz_lef, bz_ltt, bz_ltf, bz_eqt, bz_eqf, Nat.reducePow, Nat.reduceMul, Nat.reduceAdd, Nat.reduceSub, Nat.reduceMod, Nat.reduceDiv, Int.reduceAdd, Int.reduceSub, Int.reduceMul, Int.reduceNeg, Int.reduceToNat, Int.toNat_natCast]
  by_cases c3 : so3 X + so3 Y = 3
  · simp (disch := omega) only [c1, c2, c3, nn, ↓reduceIte, jr_kl, jr_kr, ↓jr_let, jr_bs, and_true, true_and, and_false, false_and, or_true, true_or, or_false, false_or, not_true_eq_false, not_false_eq_true, b_let, b_lef, b_ltt, b_ltf, b_eqt, b_eqf, bz_let, bz_lef, bz_ltt, bz_ltf, bz_eqt, bz_eqf, Nat.reducePow, Nat.reduceMul, Nat.reduceAdd, Nat.reduceSub, Nat.reduceMod, Nat.reduceDiv, Int.reduceAdd, Int.reduceSub, Int.reduceMul, Int.reduceNeg, Int.reduceToNat, Int.toNat_natCast]
  by_cases c4 : so3 X = 2
  · simp (disch := omega) only [c1, c2, c3, c4, ni, ↓reduceIte, jr_kl, jr_kr, ↓jr_let, jr_bs, and_true, true_and, and_false, false_and, or_true, true_or, or_false, false_or, not_true_eq_false, not_false_eq_true, b_let, b_lef, b_ltt, b_ltf, b_eqt, b_eqf, bz_let, bz_lef, bz_ltt, bz_ltf, bz_eqt, bz_eqf, Nat.reducePow, Nat.reduceMul, Nat.reduceAdd, Nat.reduceSub, Nat.reduceMod, Nat.reduceDiv, Int.reduceAdd, Int.reduceSub, Int.reduceMul, Int.reduceNeg, Int.reduceToNat, Int.toNat_natCast]
  by_cases c5 : so3 Y = 2
  · simp (disch := omega) only [c1, c2, c3, c4, c5, ni, ↓reduceIte, jr_kl, jr_kr, ↓jr_let, jr_bs, and_true, true_and, and_false, false_and, or_true, true_or, or_false, false_or, not_true_eq_false, not_false_eq_true, b_let, b_lef, b_ltt, b_ltf, b_eqt, b_eqf, bz_let, bz_lef, bz_ltt, bz_ltf, bz_eqt, bz_eqf, Nat.reducePow, Nat.reduceMul, Nat.reduceAdd, Nat.reduceSub, Nat.reduceMod, Nat.reduceDiv, Int.reduceAdd, Int.reduceSub, Int.reduceMul, Int.reduceNeg, Int.reduceToNat, Int.toNat_natCast]
  by_cases c6 : so3 X = 1
  · simp (disch := omega) only [c1, c2, c3, c4, c5, c6, nz, ↓reduceIte, jr_kl, jr_kr, ↓jr_let, jr_bs, and_true, true_and, and_false, false_and, or_true, true_or, or_false, false_or, not_true_eq_false, not_false_eq_true, b_let, b_lef, b_ltt, b_ltf, b_eqt, b_eqf, bz_let, bz_lef, bz_ltt, bz_ltf, bz_eqt, bz_eqf, Nat.reducePow, Nat.reduceMul, Nat.reduceAdd, Nat.reduceSub, Nat.reduceMod, Nat.reduceDiv, Int.reduceAdd, Int.reduceSub, Int.reduceMul, Int.reduceNeg, Int.reduceToNat, Int.toNat_natCast]
  by_cases c7 : so3 Y = 1
  · simp (disch := omega) only [c1, c2, c3, c4, c5, c6, c7, nz, ↓reduceIte, jr_kl, jr_kr, ↓jr_let, jr_bs, and_true, true_and, and_false, false_and, or_true, true_or, or_false, false_or, not_true_eq_false, not_false_eq_true, b_let, b_lef, b_ltt, b_ltf, b_eqt, b_eqf, bz_let, bz_lef, bz_ltt, bz_ltf, bz_eqt, bz_eqf, Nat.reducePow, Nat.reduceMul, Nat.reduceAdd, Nat.reduceSub, Nat.reduceMod, Nat.reduceDiv, Int.reduceAdd, Int.reduceSub, Int.reduceMul, Int.reduceNeg, Int.reduceToNat, Int.toNat_natCast]
  obtain ⟨hi, lo, b1, b2, b3, J⟩ := jp_ref (x := wh3 X) (y := wh3 Y) (by omega) (by omega)
  have J := J (fun a b => (fX16_rounded 3 (bI g) a b (Int32.ofInt (pw3 X) + Int32.ofInt (pw3 Y)) 0).bind fun v69 => some ((v69, H)))
  simp only [c1, c2, c3, c4, c5, c6, c7, if_false, or_self]
  refine J.trans ?_
  have w0 : wh3 X * wh3 Y ≠ 0 := Nat.mul_ne_zero (wh3_0 (by omega)) (wh3_0 (by omega))
  have R := mr3 g false b1 b2 b3 w0 (E := pw3 X + pw3 Y) (by omega) (by omega)
  show (fX16_rounded 3 (bI g) (Int64.ofNat hi) (Int64.ofNat lo) (Int32.ofInt (pw3 X) + Int32.ofInt (pw3 Y)) (bI false)).bind _ = _
  rw [zz_ad, R, jr_bs]
theorem mp3 {h : pm_H} (O : mO h) {X Y : Nat} (hX : X < 18446744073709551616) (hY : Y < 18446744073709551616) : fX16_product h 592 3 (Int64.ofNat X) (Int64.ofNat Y) = some (Int64.ofNat (ml3 X Y), rv (rv h 605 (ng3 X) (so3 X) (wh3 X) (pw3 X)) 606 (ng3 Y) (so3 Y) (wh3 Y) (pw3 Y)) := by
  have O1 := rv_O 605 (ng3 X) (so3 X) (wh3 X) (pw3 X) O
  have O2 := rv_O 606 (ng3 Y) (so3 Y) (wh3 Y) (pw3 Y) O1
  have e1 := mf3 (h := h) (a := 605) O.2.2.2.1 hX
  have e2 := mf3 (h := rv h 605 (ng3 X) (so3 X) (wh3 X) (pw3 X)) (a := 606) O1.2.2.2.2 hY
  have hm := m2_rv h (ng3 X) (so3 X) (wh3 X) (pw3 X) (ng3 Y) (so3 Y) (wh3 Y) (pw3 Y)
  unfold fX16_product
  rw [if_pos O.1, O.2.1, jr_bs, if_pos O.2.2.2.1, e1, jr_bs, if_pos O1.1, O1.2.2.1, jr_bs, if_pos O1.2.2.2.2, e2, jr_bs]
  generalize rv (rv h 605 (ng3 X) (so3 X) (wh3 X) (pw3 X)) 606 (ng3 Y) (so3 Y) (wh3 Y) (pw3 Y) = H at *
  rw [if_pos O2.1, O2.2.1, jr_bs, if_pos O2.2.2.2.1, O2.2.2.1, jr_bs, if_pos O2.2.2.2.2, hm.1, hm.2.2.2.2.1]
  by_cases c : (ng3 X ^^ ng3 Y) = false
  · rw [if_pos (by rw [bN_ne]; exact c), show (0 : Int32) = bI false from rfl]
    exact mp3_b O2 hm c
  · rw [if_neg (by rw [bN_ne]; exact c), show (1 : Int32) = bI true from rfl]
    exact mp3_b O2 hm (bx_t c)
theorem cm2_f {X Y : Nat} (hX : X < 4294967296) (hY : Y < 4294967296) (x0 : X % 2147483648 ≠ 0) (y0 : Y % 2147483648 ≠ 0) (g : Bool) : f2 g (od (wh2 X * 2 ^ (53 - nl (wh2 X)) * (wh2 Y * 2 ^ (53 - nl (wh2 Y))) / 2 ^ 44) (decide (wh2 X * 2 ^ (53 - nl (wh2 X)) * (wh2 Y * 2 ^ (53 - nl (wh2 Y))) % 2 ^ 44 ≠ 0))) (pw2 X - (53 - nl (wh2 X) : Nat) + (pw2 Y - (53 - nl (wh2 Y) : Nat)) + (44 : Nat)) false = f2 g (wh2 X * wh2 Y) (pw2 X + pw2 Y) false := by
  have a := (sn2 x0).2
  have b := (sn2 y0).2
  have w0 : wh2 X * wh2 Y ≠ 0 := Nat.mul_ne_zero (wh2_0 x0) (wh2_0 y0)
  have ab : 4503599627370496 * 4503599627370496 ≤ wh2 X * 2 ^ (53 - nl (wh2 X)) * (wh2 Y * 2 ^ (53 - nl (wh2 Y))) := Nat.mul_le_mul a b
  have n : 104 < nl (wh2 X * 2 ^ (53 - nl (wh2 X)) * (wh2 Y * 2 ^ (53 - nl (wh2 Y)))) := nl_gt (Nat.le_trans (by decide) ab)
  unfold f2
  rw [fl_odd (by decide) (by omega), Nat.mul_mul_mul_comm, ← Nat.pow_add, ← fl_ex (53 - nl (wh2 X) + (53 - nl (wh2 Y))) w0]
  congr 1
  omega
theorem cm2_b {X Y : Nat} (hX : X < 4294967296) (hY : Y < 4294967296) (nX : so2 X ≠ 3) (nY : so2 Y ≠ 3) {g : Bool} (hg : (ng2 X ^^ ng2 Y) = g) : fX8_multiply_b33 2 (Int64.ofNat X) (Int64.ofNat Y) (bI g) (Int64.ofNat (sg2 g)) = Int64.ofNat (ml2 X Y) := by
  have cX := so2_c X
  have cY := so2_c Y
  have ni : Int64.ofNat (sg2 g) ||| fX8_infinite 2 = Int64.ofNat (sg2 g + 2139095040) := by
    rw [show fX8_infinite 2 = Int64.ofNat 2139095040 by decide]
    have o := jl_o (k := 31) (a := 2139095040) (c := bN g) (by decide) (by cases g <;> decide)
    have e : bN g * 2 ^ 31 = sg2 g := by cases g <;> rfl
    rw [e] at o
    exact o
  have nn : fX8_none 2 = Int64.ofNat 2143289344 := by decide
  unfold fX8_multiply_b33 fX8_multiply_b51 fX8_multiply_b56 ml2
  simp only [jr_let, cf2_zero hX, cf2_zero hY, cf2_inf hX, cf2_inf hY, bI_0, decide_eq_false_iff_not, hg, ni, nn]
  by_cases c1 : so2 X = 2
  · by_cases c2 : so2 Y = 1
    · simp (disch := omega) only [c1, c2, ↓reduceIte, jr_kl, jr_kr, ↓jr_let, jr_bs, and_true, true_and, and_false, false_and, or_true, true_or, or_false, false_or, not_true_eq_false, not_false_eq_true, b_let, b_lef, b_ltt, b_ltf, b_eqt, b_eqf, bz_let, bz_lef, bz_ltt, bz_ltf, bz_eqt, bz_eqf, Nat.reducePow, Nat.reduceMul, Nat.reduceAdd, Nat.reduceSub, Nat.reduceMod, Nat.reduceDiv, Int.reduceAdd, Int.reduceSub, Int.reduceMul, Int.reduceNeg, Int.reduceToNat, Int.toNat_natCast, m3_0, m3_1, zz_eq]
    · simp (disch := omega) only [c1, c2, ↓reduceIte, jr_kl, jr_kr, ↓jr_let, jr_bs, and_true, true_and, and_false, false_and, or_true, true_or, or_false, false_or, not_true_eq_false, not_false_eq_true, b_let, b_lef, b_ltt, b_ltf, b_eqt, b_eqf, bz_let, bz_lef, bz_ltt, bz_ltf, bz_eqt, bz_eqf, Nat.reducePow, Nat.reduceMul, Nat.reduceAdd, Nat.reduceSub, Nat.reduceMod, Nat.reduceDiv, Int.reduceAdd, Int.reduceSub, Int.reduceMul, Int.reduceNeg, Int.reduceToNat, Int.toNat_natCast, m3_0, m3_1, zz_eq]
  by_cases c3 : so2 Y = 2
  · by_cases c4 : so2 X = 1
    · simp (disch := omega) only [c1, c3, c4, ↓reduceIte, jr_kl, jr_kr, ↓jr_let, jr_bs, and_true, true_and, and_false, false_and, or_true, true_or, or_false, false_or, not_true_eq_false, not_false_eq_true, b_let, b_lef, b_ltt, b_ltf, b_eqt, b_eqf, bz_let, bz_lef, bz_ltt, bz_ltf, bz_eqt, bz_eqf, Nat.reducePow, Nat.reduceMul, Nat.reduceAdd, Nat.reduceSub, Nat.reduceMod, Nat.reduceDiv, Int.reduceAdd, Int.reduceSub, Int.reduceMul, Int.reduceNeg, Int.reduceToNat, Int.toNat_natCast, m3_0, m3_1, zz_eq]
    · simp (disch := omega) only [c1, c3, c4, ↓reduceIte, jr_kl, jr_kr, ↓jr_let, jr_bs, and_true, true_and, and_false, false_and, or_true, true_or, or_false, false_or, not_true_eq_false, not_false_eq_true, b_let, b_lef, b_ltt, b_ltf, b_eqt, b_eqf, bz_let, bz_lef, bz_ltt, bz_ltf, bz_eqt, bz_eqf, Nat.reducePow, Nat.reduceMul, Nat.reduceAdd, Nat.reduceSub, Nat.reduceMod, Nat.reduceDiv, Int.reduceAdd, Int.reduceSub, Int.reduceMul, Int.reduceNeg, Int.reduceToNat, Int.toNat_natCast, m3_0, m3_1, zz_eq]
  by_cases c5 : so2 X = 1
  · simp (disch := omega) only [c1, c3, c5, ↓reduceIte, jr_kl, jr_kr, ↓jr_let, jr_bs, and_true, true_and, and_false, false_and, or_true, true_or, or_false, false_or, not_true_eq_false, not_false_eq_true, b_let, b_lef, b_ltt, b_ltf, b_eqt, b_eqf, bz_let, bz_lef, bz_ltt, bz_ltf, bz_eqt, bz_eqf, Nat.reducePow, Nat.reduceMul, Nat.reduceAdd, Nat.reduceSub, Nat.reduceMod, Nat.reduceDiv, Int.reduceAdd, Int.reduceSub, Int.reduceMul, Int.reduceNeg, Int.reduceToNat, Int.toNat_natCast, m3_0, m3_1, zz_eq]
  by_cases c6 : so2 Y = 1
  · simp (disch := omega) only [c1, c3, c5, c6, ↓reduceIte, jr_kl, jr_kr, ↓jr_let, jr_bs, and_true, true_and, and_false, false_and, or_true, true_or, or_false, false_or, not_true_eq_false, not_false_eq_true, b_let, b_lef, b_ltt, b_ltf, b_eqt, b_eqf, bz_let, bz_lef, bz_ltt, bz_ltf, bz_eqt, bz_eqf, Nat.reducePow, Nat.reduceMul, Nat.reduceAdd, Nat.reduceSub, Nat.reduceMod, Nat.reduceDiv, Int.reduceAdd, Int.reduceSub, Int.reduceMul, Int.reduceNeg, Int.reduceToNat, Int.toNat_natCast, m3_0, m3_1, zz_eq]
  have x0 : X % 2147483648 ≠ 0 := by omega
  have y0 : Y % 2147483648 ≠ 0 := by omega
  have p1 := pw2_b X
  have p2 := pw2_b Y
  have l1 : nl (wh2 X) ≤ 53 := nl_le (by have := wh2_lt X; omega)
  have l2 : nl (wh2 Y) ≤ 53 := nl_le (by have := wh2_lt Y; omega)
  have J := jp_cls (sn2 x0).1 (sn2 y0).1 (fun e => fX8_round 2 (bI g) e ((fX8_scale 2 (Int64.ofNat X) + fX8_scale 2 (Int64.ofNat Y)) + 44))
  have F := cm2_f hX hY x0 y0 g
  have V : od (wh2 X * 2 ^ (53 - nl (wh2 X)) * (wh2 Y * 2 ^ (53 - nl (wh2 Y))) / 17592186044416) (decide (wh2 X * 2 ^ (53 - nl (wh2 X)) * (wh2 Y * 2 ^ (53 - nl (wh2 Y))) % 17592186044416 ≠ 0)) < 18446744073709551616 := by
    have a := (sn2 x0).1
    have b := (sn2 y0).1
    have ab : wh2 X * 2 ^ (53 - nl (wh2 X)) * (wh2 Y * 2 ^ (53 - nl (wh2 Y))) < 9007199254740992 * 9007199254740992 := jp_lt a b (by decide)
    unfold od
    split <;> omega
  rw [show (2 : Nat) ^ 44 = 17592186044416 from rfl] at F
  simp only [jr_let] at J
  simp (disch := omega) only [c1, c3, c5, c6, ↓reduceIte, b_eqt, b_eqf, and_true, true_and, and_false, false_and, or_true, true_or, or_false, false_or, not_true_eq_false, not_false_eq_true]
  rw [cs2 hX x0, cs2 hY y0]
  refine J.trans ?_
  rw [cq2 hX x0, cq2 hY y0, m3_44, zz_ad, zz_ad, cr2 g V (by omega) (by omega), ← F]
  rfl
theorem cm2 {X Y : Nat} (hX : X < 4294967296) (hY : Y < 4294967296) (nX : so2 X ≠ 3) (nY : so2 Y ≠ 3) : fX8_multiply 2 (Int64.ofNat X) (Int64.ofNat Y) = Int64.ofNat (ml2 X Y) := by
  unfold fX8_multiply fX8_multiply_b18
  rw [jr_let, jr_let, cf2_minus hX, cf2_minus hY]
  by_cases c : (ng2 X ^^ ng2 Y) = false
  · have e := cm2_b hX hY nX nY c
    rw [show bI false = 0 from rfl, show Int64.ofNat (sg2 false) = 0 by decide] at e
    rw [if_pos (by rw [bN_ne]; exact c), if_pos rfl, e]
  · rw [if_neg (by rw [bN_ne]; exact c), if_neg (by decide), jr_let, show fX8_sign 2 = Int64.ofNat (sg2 true) by decide, show (1 : Int32) = bI true from rfl, cm2_b hX hY nX nY (bx_t c)]
theorem cm3_f {X Y : Nat} (hX : X < 18446744073709551616) (hY : Y < 18446744073709551616) (x0 : X % 9223372036854775808 ≠ 0) (y0 : Y % 9223372036854775808 ≠ 0) (g : Bool) : f3 g (od (wh3 X * 2 ^ (53 - nl (wh3 X)) * (wh3 Y * 2 ^ (53 - nl (wh3 Y))) / 2 ^ 44) (decide (wh3 X * 2 ^ (53 - nl (wh3 X)) * (wh3 Y * 2 ^ (53 - nl (wh3 Y))) % 2 ^ 44 ≠ 0))) (pw3 X - (53 - nl (wh3 X) : Nat) + (pw3 Y - (53 - nl (wh3 Y) : Nat)) + (44 : Nat)) false = f3 g (wh3 X * wh3 Y) (pw3 X + pw3 Y) false := by
  have a := (sn3 x0).2
  have b := (sn3 y0).2
  have w0 : wh3 X * wh3 Y ≠ 0 := Nat.mul_ne_zero (wh3_0 x0) (wh3_0 y0)
  have ab : 4503599627370496 * 4503599627370496 ≤ wh3 X * 2 ^ (53 - nl (wh3 X)) * (wh3 Y * 2 ^ (53 - nl (wh3 Y))) := Nat.mul_le_mul a b
  have n : 104 < nl (wh3 X * 2 ^ (53 - nl (wh3 X)) * (wh3 Y * 2 ^ (53 - nl (wh3 Y)))) := nl_gt (Nat.le_trans (by decide) ab)
  unfold f3
  rw [fl_odd (by decide) (by omega), Nat.mul_mul_mul_comm, ← Nat.pow_add, ← fl_ex (53 - nl (wh3 X) + (53 - nl (wh3 Y))) w0]
  congr 1
  omega
theorem cm3_b {X Y : Nat} (hX : X < 18446744073709551616) (hY : Y < 18446744073709551616) (nX : so3 X ≠ 3) (nY : so3 Y ≠ 3) {g : Bool} (hg : (ng3 X ^^ ng3 Y) = g) : fX8_multiply_b33 3 (Int64.ofNat X) (Int64.ofNat Y) (bI g) (Int64.ofNat (sg3 g)) = Int64.ofNat (ml3 X Y) := by
  have cX := so3_c X
  have cY := so3_c Y
  have ni : Int64.ofNat (sg3 g) ||| fX8_infinite 3 = Int64.ofNat (sg3 g + 9218868437227405312) := by
    rw [show fX8_infinite 3 = Int64.ofNat 9218868437227405312 by decide]
    have o := jl_o (k := 63) (a := 9218868437227405312) (c := bN g) (by decide) (by cases g <;> decide)
    have e : bN g * 2 ^ 63 = sg3 g := by cases g <;> rfl
    rw [e] at o
    exact o
  have nn : fX8_none 3 = Int64.ofNat 9221120237041090560 := by decide
  unfold fX8_multiply_b33 fX8_multiply_b51 fX8_multiply_b56 ml3
  simp only [jr_let, cf3_zero hX, cf3_zero hY, cf3_inf hX, cf3_inf hY, bI_0, decide_eq_false_iff_not, hg, ni, nn]
  by_cases c1 : so3 X = 2
  · by_cases c2 : so3 Y = 1
    · simp (disch := omega) only [c1, c2, ↓reduceIte, jr_kl, jr_kr, ↓jr_let, jr_bs, and_true, true_and, and_false, false_and, or_true, true_or, or_false, false_or, not_true_eq_false, not_false_eq_true, b_let, b_lef, b_ltt, b_ltf, b_eqt, b_eqf, bz_let, bz_lef, bz_ltt, bz_ltf, bz_eqt, bz_eqf, Nat.reducePow, Nat.reduceMul, Nat.reduceAdd, Nat.reduceSub, Nat.reduceMod, Nat.reduceDiv, Int.reduceAdd, Int.reduceSub, Int.reduceMul, Int.reduceNeg, Int.reduceToNat, Int.toNat_natCast, m3_0, m3_1, zz_eq]
    · simp (disch := omega) only [c1, c2, ↓reduceIte, jr_kl, jr_kr, ↓jr_let, jr_bs, and_true, true_and, and_false, false_and, or_true, true_or, or_false, false_or, not_true_eq_false, not_false_eq_true, b_let, b_lef, b_ltt, b_ltf, b_eqt, b_eqf, bz_let, bz_lef, bz_ltt, bz_ltf, bz_eqt, bz_eqf, Nat.reducePow, Nat.reduceMul, Nat.reduceAdd, Nat.reduceSub, Nat.reduceMod, Nat.reduceDiv, Int.reduceAdd, Int.reduceSub, Int.reduceMul, Int.reduceNeg, Int.reduceToNat, Int.toNat_natCast, m3_0, m3_1, zz_eq]
  by_cases c3 : so3 Y = 2
  · by_cases c4 : so3 X = 1
    · simp (disch := omega) only [c1, c3, c4, ↓reduceIte, jr_kl, jr_kr, ↓jr_let, jr_bs, and_true, true_and, and_false, false_and, or_true, true_or, or_false, false_or, not_true_eq_false, not_false_eq_true, b_let, b_lef, b_ltt, b_ltf, b_eqt, b_eqf, bz_let, bz_lef, bz_ltt, bz_ltf, bz_eqt, bz_eqf, Nat.reducePow, Nat.reduceMul, Nat.reduceAdd, Nat.reduceSub, Nat.reduceMod, Nat.reduceDiv, Int.reduceAdd, Int.reduceSub, Int.reduceMul, Int.reduceNeg, Int.reduceToNat, Int.toNat_natCast, m3_0, m3_1, zz_eq]
    · simp (disch := omega) only [c1, c3, c4, ↓reduceIte, jr_kl, jr_kr, ↓jr_let, jr_bs, and_true, true_and, and_false, false_and, or_true, true_or, or_false, false_or, not_true_eq_false, not_false_eq_true, b_let, b_lef, b_ltt, b_ltf, b_eqt, b_eqf, bz_let, bz_lef, bz_ltt, bz_ltf, bz_eqt, bz_eqf, Nat.reducePow, Nat.reduceMul, Nat.reduceAdd, Nat.reduceSub, Nat.reduceMod, Nat.reduceDiv, Int.reduceAdd, Int.reduceSub, Int.reduceMul, Int.reduceNeg, Int.reduceToNat, Int.toNat_natCast, m3_0, m3_1, zz_eq]
  by_cases c5 : so3 X = 1
  · simp (disch := omega) only [c1, c3, c5, ↓reduceIte, jr_kl, jr_kr, ↓jr_let, jr_bs, and_true, true_and, and_false, false_and, or_true, true_or, or_false, false_or, not_true_eq_false, not_false_eq_true, b_let, b_lef, b_ltt, b_ltf, b_eqt, b_eqf, bz_let, bz_lef, bz_ltt, bz_ltf, bz_eqt, bz_eqf, Nat.reducePow, Nat.reduceMul, Nat.reduceAdd, Nat.reduceSub, Nat.reduceMod, Nat.reduceDiv, Int.reduceAdd, Int.reduceSub, Int.reduceMul, Int.reduceNeg, Int.reduceToNat, Int.toNat_natCast, m3_0, m3_1, zz_eq]
  by_cases c6 : so3 Y = 1
  · simp (disch := omega) only [c1, c3, c5, c6, ↓reduceIte, jr_kl, jr_kr, ↓jr_let, jr_bs, and_true, true_and, and_false, false_and, or_true, true_or, or_false, false_or, not_true_eq_false, not_false_eq_true, b_let, b_lef, b_ltt, b_ltf, b_eqt, b_eqf, bz_let, bz_lef, bz_ltt, bz_ltf, bz_eqt, bz_eqf, Nat.reducePow, Nat.reduceMul, Nat.reduceAdd, Nat.reduceSub, Nat.reduceMod, Nat.reduceDiv, Int.reduceAdd, Int.reduceSub, Int.reduceMul, Int.reduceNeg, Int.reduceToNat, Int.toNat_natCast, m3_0, m3_1, zz_eq]
  have x0 : X % 9223372036854775808 ≠ 0 := by omega
  have y0 : Y % 9223372036854775808 ≠ 0 := by omega
  have p1 := pw3_b X
  have p2 := pw3_b Y
  have l1 : nl (wh3 X) ≤ 53 := nl_le (by have := wh3_lt X; omega)
  have l2 : nl (wh3 Y) ≤ 53 := nl_le (by have := wh3_lt Y; omega)
  have J := jp_cls (sn3 x0).1 (sn3 y0).1 (fun e => fX8_round 3 (bI g) e ((fX8_scale 3 (Int64.ofNat X) + fX8_scale 3 (Int64.ofNat Y)) + 44))
  have F := cm3_f hX hY x0 y0 g
  have V : od (wh3 X * 2 ^ (53 - nl (wh3 X)) * (wh3 Y * 2 ^ (53 - nl (wh3 Y))) / 17592186044416) (decide (wh3 X * 2 ^ (53 - nl (wh3 X)) * (wh3 Y * 2 ^ (53 - nl (wh3 Y))) % 17592186044416 ≠ 0)) < 18446744073709551616 := by
    have a := (sn3 x0).1
    have b := (sn3 y0).1
    have ab : wh3 X * 2 ^ (53 - nl (wh3 X)) * (wh3 Y * 2 ^ (53 - nl (wh3 Y))) < 9007199254740992 * 9007199254740992 := jp_lt a b (by decide)
    unfold od
    split <;> omega
  rw [show (2 : Nat) ^ 44 = 17592186044416 from rfl] at F
  simp only [jr_let] at J
  simp (disch := omega) only [c1, c3, c5, c6, ↓reduceIte, b_eqt, b_eqf, and_true, true_and, and_false, false_and, or_true, true_or, or_false, false_or, not_true_eq_false, not_false_eq_true]
  rw [cs3 hX x0, cs3 hY y0]
  refine J.trans ?_
  rw [cq3 hX x0, cq3 hY y0, m3_44, zz_ad, zz_ad, cr3 g V (by omega) (by omega), ← F]
  rfl
theorem cm3 {X Y : Nat} (hX : X < 18446744073709551616) (hY : Y < 18446744073709551616) (nX : so3 X ≠ 3) (nY : so3 Y ≠ 3) : fX8_multiply 3 (Int64.ofNat X) (Int64.ofNat Y) = Int64.ofNat (ml3 X Y) := by
  unfold fX8_multiply fX8_multiply_b18
  rw [jr_let, jr_let, cf3_minus hX, cf3_minus hY]
  by_cases c : (ng3 X ^^ ng3 Y) = false
  · have e := cm3_b hX hY nX nY c
    rw [show bI false = 0 from rfl, show Int64.ofNat (sg3 false) = 0 by decide] at e
    rw [if_pos (by rw [bN_ne]; exact c), if_pos rfl, e]
  · rw [if_neg (by rw [bN_ne]; exact c), if_neg (by decide), jr_let, show fX8_sign 3 = Int64.ofNat (sg3 true) by decide, show (1 : Int32) = bI true from rfl, cm3_b hX hY nX nY (bx_t c)]
