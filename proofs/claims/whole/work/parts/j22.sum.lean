/-! NUMBERS: sums: class and reference give the same -/
theorem m2_set {H : pm_H} {g1 : Bool} {s1 w1 : Nat} {p1 : Int} {g2 : Bool} {s2 w2 : Nat} {p2 : Int} (hm : m2 H g1 s1 w1 p1 g2 s2 w2 p2) (g : Bool) : m2 (pm_setI H 606 0 (bI g)) g1 s1 w1 p1 g s2 w2 p2 := by
  obtain ⟨i0, i1, i2, i3, j0, j1, j2, j3⟩ := hm
  refine ⟨?_, ?_, i2, ?_, ?_, ?_, j2, ?_⟩
  · rw [ev_II, if_neg (by decide)]; exact i0
  · rw [ev_II, if_neg (by decide)]; exact i1
  · rw [ev_II, if_neg (by decide)]; exact i3
  · rw [ev_II, if_pos rfl, if_pos rfl]
  · rw [ev_II, if_pos rfl, if_neg (by decide)]; exact j1
  · rw [ev_II, if_pos rfl, if_neg (by decide)]; exact j3
theorem mn2_c {H : pm_H} (O : mO H) {X Y : Nat} (hX : X < 4294967296) (hY : Y < 4294967296) {g2 : Bool} (hm : m2 H (ng2 X) (so2 X) (wh2 X) (pw2 X) g2 (so2 Y) (wh2 Y) (pw2 Y)) (gy : Bool) : fX16_sum_b40 H 592 2 (Int64.ofNat X) (Int64.ofNat Y) (bI gy) 606 = some (Int64.ofNat (su2 X Y gy), pm_setI H 606 0 (bI gy)) := by
  have O2 : mO (pm_setI H 606 0 (bI gy)) := O
  have hm2 := m2_set hm gy
  have g01 : bI gy = 0 ∨ bI gy = 1 := by cases gy <;> simp [bI]
  have k606 := O.2.2.2.2
  have cX := so2_c X
  have cY := so2_c Y
  have s3 : ∀ s : Nat, s ≤ 3 → (Int32.ofInt (s : Int) = (3 : Int32)) = (s = 3) := fun s hs => so2_i s 3 hs (by decide)
  have s2 : ∀ s : Nat, s ≤ 3 → (Int32.ofInt (s : Int) = (2 : Int32)) = (s = 2) := fun s hs => so2_i s 2 hs (by decide)
  have nn : fX16_noneOf 2 = Int64.ofNat 2143289344 := by decide
  have B := fun n3 n2 => mn2_b O2 hX hY hm2 n3 n2
  unfold fX16_sum_b40
  rw [if_pos k606, if_pos g01]
  generalize pm_setI H 606 0 (bI gy) = K at *
  obtain ⟨k, r1, r2, k1, k2⟩ := O2
  obtain ⟨i0, i1, i2, i3, j0, j1, j2, j3⟩ := hm2
  simp only [k, r1, r2, k1, k2, i0, j0, i1, j1, if_true, jr_bs, jr_let, s3 (so2 X) (by omega), s3 (so2 Y) (by omega), s2 (so2 X) (by omega), s2 (so2 Y) (by omega), nn, bN_ne]
  by_cases c1 : so2 X = 3
  · rw [if_pos c1]
    unfold su2
    rw [if_pos (.inl c1)]
  rw [if_neg c1]
  by_cases c2 : so2 Y = 3
  · rw [if_pos c2]
    unfold su2
    rw [if_pos (.inr c2)]
  rw [if_neg c2]
  by_cases c4 : so2 X = 2 ∧ so2 Y = 2 ∧ (ng2 X ^^ gy) = true
  · rw [if_pos c4.1, if_pos c4.2.1, if_neg (by rw [c4.2.2]; decide)]
    unfold su2
    rw [if_neg (by omega), if_pos c4.1, if_pos c4.2]
  · have b := B ⟨c1, c2⟩ c4
    by_cases d1 : so2 X = 2
    · rw [if_pos d1]
      by_cases d2 : so2 Y = 2
      · rw [if_pos d2]
        by_cases d3 : (ng2 X ^^ gy) = false
        · rw [if_pos d3, b]
        · exact absurd ⟨d1, d2, bx_t d3⟩ c4
      · rw [if_neg d2, b]
    · rw [if_neg d1, b]
theorem mn2 {h : pm_H} (O : mO h) {X Y : Nat} (hX : X < 4294967296) (hY : Y < 4294967296) (less : Bool) : fX16_sum h 592 2 (Int64.ofNat X) (Int64.ofNat Y) (bI less) = some (Int64.ofNat (su2 X Y (ng2 Y ^^ less)), pm_setI (rv (rv h 605 (ng2 X) (so2 X) (wh2 X) (pw2 X)) 606 (ng2 Y) (so2 Y) (wh2 Y) (pw2 Y)) 606 0 (bI (ng2 Y ^^ less))) := by
  have O1 := rv_O 605 (ng2 X) (so2 X) (wh2 X) (pw2 X) O
  have O2 := rv_O 606 (ng2 Y) (so2 Y) (wh2 Y) (pw2 Y) O1
  have e1 := mf2 (h := h) (a := 605) O.2.2.2.1 hX
  have e2 := mf2 (h := rv h 605 (ng2 X) (so2 X) (wh2 X) (pw2 X)) (a := 606) O1.2.2.2.2 hY
  have hm := m2_rv h (ng2 X) (so2 X) (wh2 X) (pw2 X) (ng2 Y) (so2 Y) (wh2 Y) (pw2 Y)
  unfold fX16_sum
  rw [if_pos O.1, O.2.1, jr_bs, if_pos O.2.2.2.1, e1, jr_bs, if_pos O1.1, O1.2.2.1, jr_bs, if_pos O1.2.2.2.2, e2, jr_bs]
  generalize rv (rv h 605 (ng2 X) (so2 X) (wh2 X) (pw2 X)) 606 (ng2 Y) (so2 Y) (wh2 Y) (pw2 Y) = H at *
  rw [if_pos O2.1, O2.2.2.1, jr_bs, if_pos O2.2.2.2.2, hm.2.2.2.2.1]
  have B := mn2_c O2 hX hY hm (ng2 Y ^^ less)
  by_cases c : (ng2 Y ^^ less) = false
  · rw [c] at B ⊢
    rw [if_pos (by rw [bN_ne]; exact c)]
    exact B
  · rw [bx_t c] at B ⊢
    rw [if_neg (by rw [bN_ne]; exact c)]
    exact B
theorem mn3_c {H : pm_H} (O : mO H) {X Y : Nat} (hX : X < 18446744073709551616) (hY : Y < 18446744073709551616) {g2 : Bool} (hm : m2 H (ng3 X) (so3 X) (wh3 X) (pw3 X) g2 (so3 Y) (wh3 Y) (pw3 Y)) (gy : Bool) : fX16_sum_b40 H 592 3 (Int64.ofNat X) (Int64.ofNat Y) (bI gy) 606 = some (Int64.ofNat (su3 X Y gy), pm_setI H 606 0 (bI gy)) := by
  have O2 : mO (pm_setI H 606 0 (bI gy)) := O
  have hm2 := m2_set hm gy
  have g01 : bI gy = 0 ∨ bI gy = 1 := by cases gy <;> simp [bI]
  have k606 := O.2.2.2.2
  have cX := so3_c X
  have cY := so3_c Y
  have s3 : ∀ s : Nat, s ≤ 3 → (Int32.ofInt (s : Int) = (3 : Int32)) = (s = 3) := fun s hs => so3_i s 3 hs (by decide)
  have s2 : ∀ s : Nat, s ≤ 3 → (Int32.ofInt (s : Int) = (2 : Int32)) = (s = 2) := fun s hs => so3_i s 2 hs (by decide)
  have nn : fX16_noneOf 3 = Int64.ofNat 9221120237041090560 := by decide
  have B := fun n3 n2 => mn3_b O2 hX hY hm2 n3 n2
  unfold fX16_sum_b40
  rw [if_pos k606, if_pos g01]
  generalize pm_setI H 606 0 (bI gy) = K at *
  obtain ⟨k, r1, r2, k1, k2⟩ := O2
  obtain ⟨i0, i1, i2, i3, j0, j1, j2, j3⟩ := hm2
  simp only [k, r1, r2, k1, k2, i0, j0, i1, j1, if_true, jr_bs, jr_let, s3 (so3 X) (by omega), s3 (so3 Y) (by omega), s2 (so3 X) (by omega), s2 (so3 Y) (by omega), nn, bN_ne]
  by_cases c1 : so3 X = 3
  · rw [if_pos c1]
    unfold su3
    rw [if_pos (.inl c1)]
  rw [if_neg c1]
  by_cases c2 : so3 Y = 3
  · rw [if_pos c2]
    unfold su3
    rw [if_pos (.inr c2)]
  rw [if_neg c2]
  by_cases c4 : so3 X = 2 ∧ so3 Y = 2 ∧ (ng3 X ^^ gy) = true
  · rw [if_pos c4.1, if_pos c4.2.1, if_neg (by rw [c4.2.2]; decide)]
    unfold su3
    rw [if_neg (by omega), if_pos c4.1, if_pos c4.2]
  · have b := B ⟨c1, c2⟩ c4
    by_cases d1 : so3 X = 2
    · rw [if_pos d1]
      by_cases d2 : so3 Y = 2
      · rw [if_pos d2]
        by_cases d3 : (ng3 X ^^ gy) = false
        · rw [if_pos d3, b]
        · exact absurd ⟨d1, d2, bx_t d3⟩ c4
      · rw [if_neg d2, b]
    · rw [if_neg d1, b]
theorem mn3 {h : pm_H} (O : mO h) {X Y : Nat} (hX : X < 18446744073709551616) (hY : Y < 18446744073709551616) (less : Bool) : fX16_sum h 592 3 (Int64.ofNat X) (Int64.ofNat Y) (bI less) = some (Int64.ofNat (su3 X Y (ng3 Y ^^ less)), pm_setI (rv (rv h 605 (ng3 X) (so3 X) (wh3 X) (pw3 X)) 606 (ng3 Y) (so3 Y) (wh3 Y) (pw3 Y)) 606 0 (bI (ng3 Y ^^ less))) := by
  have O1 := rv_O 605 (ng3 X) (so3 X) (wh3 X) (pw3 X) O
  have O2 := rv_O 606 (ng3 Y) (so3 Y) (wh3 Y) (pw3 Y) O1
  have e1 := mf3 (h := h) (a := 605) O.2.2.2.1 hX
  have e2 := mf3 (h := rv h 605 (ng3 X) (so3 X) (wh3 X) (pw3 X)) (a := 606) O1.2.2.2.2 hY
  have hm := m2_rv h (ng3 X) (so3 X) (wh3 X) (pw3 X) (ng3 Y) (so3 Y) (wh3 Y) (pw3 Y)
  unfold fX16_sum
  rw [if_pos O.1, O.2.1, jr_bs, if_pos O.2.2.2.1, e1, jr_bs, if_pos O1.1, O1.2.2.1, jr_bs, if_pos O1.2.2.2.2, e2, jr_bs]
  generalize rv (rv h 605 (ng3 X) (so3 X) (wh3 X) (pw3 X)) 606 (ng3 Y) (so3 Y) (wh3 Y) (pw3 Y) = H at *
  rw [if_pos O2.1, O2.2.2.1, jr_bs, if_pos O2.2.2.2.2, hm.2.2.2.2.1]
  have B := mn3_c O2 hX hY hm (ng3 Y ^^ less)
  by_cases c : (ng3 Y ^^ less) = false
  · rw [c] at B ⊢
    rw [if_pos (by rw [bN_ne]; exact c)]
    exact B
  · rw [bx_t c] at B ⊢
    rw [if_neg (by rw [bN_ne]; exact c)]
    exact B
theorem jl_sa {a b : Nat} (h : a ≤ b) : Int64.ofNat a + -Int64.ofNat b = -Int64.ofNat (b - a) := by
  rw [← ll_sb h, Int64.neg_sub, Int64.sub_eq_add_neg]
theorem jl_sd {a b : Nat} (h : b ≤ a) : Int64.ofNat a + -Int64.ofNat b = Int64.ofNat (a - b) := by
  rw [← ll_sb h, Int64.sub_eq_add_neg]
theorem jl_n0 {c : Nat} (h0 : c ≠ 0) (h : c < 9223372036854775808) : ¬ (0 : Int64) ≤ -Int64.ofNat c ∧ ¬ (0 : Int64) < -Int64.ofNat c := by
  have e := jl_ng (x := c) (by omega)
  have n := jl_neg (x := 18446744073709551616 - c) (by omega) (by omega)
  rw [← e] at n
  exact ⟨Int64.not_le.mpr n, fun z => Int64.lt_irrefl (Int64.lt_trans z n)⟩
theorem jl_ps {c : Nat} (h : c < 9223372036854775808) : (0 : Int64) ≤ Int64.ofNat c ∧ (if (0 : Int64) < Int64.ofNat c then Int64.ofNat c else -Int64.ofNat c) = Int64.ofNat c := by
  refine ⟨jl_pos h, ?_⟩
  by_cases z : c = 0
  · subst z; decide
  · rw [if_pos (by rw [n6_0, ll_lt (by decide) h]; omega)]
theorem ca2_ev {G S : Nat} (hG : G < 4294967296) (hS : S < 4294967296) (g0 : G % 2147483648 ≠ 0) {a b : Nat} (a0 : a ≠ 0) (ha : a < 4611686018427387904) (b0 : b ≠ 0) (hb : b < 4611686018427387904) : fX8_add_b208 2 (Int64.ofNat G) (Int64.ofNat S) (Int64.ofNat a) (Int64.ofNat b) = Int64.ofNat (fg 31 24 (-149) 255 (ng2 G) a (ng2 S) b (sE2 G - 9)) := by
  have bE := sE2_b G
  have eE : pw2 G - ((53 - nl (wh2 G) : Nat) : Int) = sE2 G := rfl
  have sc : fX8_scale 2 (Int64.ofNat G) - 9 = Int32.ofInt (sE2 G - 9) := by rw [cq2 hG g0, eE, m3_9, zz_sb]
  have R0 : ∀ c : Nat, c < 9223372036854775808 → fX8_round 2 0 (Int64.ofNat c) (Int32.ofInt (sE2 G - 9)) = Int64.ofNat (f2 false c (sE2 G - 9) false) := fun c hc => cr2 false (by omega) (by omega) (by omega)
  have R1 : ∀ c : Nat, c < 9223372036854775808 → fX8_round 2 1 (Int64.ofNat c) (Int32.ofInt (sE2 G - 9)) = Int64.ofNat (f2 true c (sE2 G - 9) false) := fun c hc => cr2 true (by omega) (by omega) (by omega)
  have z0 : f2 false 0 (sE2 G - 9) false = 0 := by unfold f2 fl; rw [if_pos rfl]; rfl
  unfold fX8_add_b208 fX8_add_b225 fg
  rw [jr_let, jr_let, jr_let, cf2_minus hG, cf2_minus hS]
  simp only [jr_let, sc]
  cases hg : ng2 G with
  | false =>
    rw [if_pos (show bI false = 0 from rfl)]
    cases hs : ng2 S with
    | false =>
      have p := jl_ps (c := a + b) (by omega)
      rw [if_pos (show bI false = 0 from rfl), if_pos (show false = false from rfl), ll_ad, if_pos p.1, p.2, R0 _ (by omega)]
    | true =>
      rw [if_neg (show ¬ bI true = 0 by decide), if_neg (show ¬ false = true by decide)]
      by_cases c1 : b ≤ a
      · have p := jl_ps (c := a - b) (by omega)
        rw [jl_sd c1, if_pos p.1, p.2, R0 _ (by omega)]
        by_cases c2 : a = b
        · rw [if_pos c2, c2, Nat.sub_self, z0]
        · rw [if_neg c2, if_pos (by omega)]
      · have n := jl_n0 (c := b - a) (by omega) (by omega)
        rw [jl_sa (by omega), if_neg n.1, if_neg n.2, Int64.neg_neg, R1 _ (by omega), if_neg (show ¬ a = b by omega), if_neg (show ¬ b < a by omega)]
  | true =>
    rw [if_neg (show ¬ bI true = 0 by decide)]
    cases hs : ng2 S with
    | false =>
      rw [if_pos (show bI false = 0 from rfl), if_neg (show ¬ true = false by decide)]
      by_cases c1 : a ≤ b
      · have p := jl_ps (c := b - a) (by omega)
        rw [Int64.add_comm, jl_sd c1, if_pos p.1, p.2, R0 _ (by omega)]
        by_cases c2 : a = b
        · rw [if_pos c2, c2, Nat.sub_self, z0]
        · rw [if_neg c2, if_neg (show ¬ b < a by omega)]
      · have n := jl_n0 (c := a - b) (by omega) (by omega)
        rw [Int64.add_comm, jl_sa (by omega), if_neg n.1, if_neg n.2, Int64.neg_neg, R1 _ (by omega), if_neg (show ¬ a = b by omega), if_pos (show b < a by omega)]
    | true =>
      have n := jl_n0 (c := a + b) (by omega) (by omega)
      have e : -Int64.ofNat a + -Int64.ofNat b = -Int64.ofNat (a + b) := by rw [← ll_ad, Int64.neg_add, Int64.sub_eq_add_neg]
      rw [if_neg (show ¬ bI true = 0 by decide), if_pos (show true = true from rfl), e, if_neg n.1, if_neg n.2, Int64.neg_neg, R1 _ (by omega)]
theorem ca3_ev {G S : Nat} (hG : G < 18446744073709551616) (hS : S < 18446744073709551616) (g0 : G % 9223372036854775808 ≠ 0) {a b : Nat} (a0 : a ≠ 0) (ha : a < 4611686018427387904) (b0 : b ≠ 0) (hb : b < 4611686018427387904) : fX8_add_b208 3 (Int64.ofNat G) (Int64.ofNat S) (Int64.ofNat a) (Int64.ofNat b) = Int64.ofNat (fg 63 53 (-1074) 2047 (ng3 G) a (ng3 S) b (sE3 G - 9)) := by
  have bE := sE3_b G
  have eE : pw3 G - ((53 - nl (wh3 G) : Nat) : Int) = sE3 G := rfl
  have sc : fX8_scale 3 (Int64.ofNat G) - 9 = Int32.ofInt (sE3 G - 9) := by rw [cq3 hG g0, eE, m3_9, zz_sb]
  have R0 : ∀ c : Nat, c < 9223372036854775808 → fX8_round 3 0 (Int64.ofNat c) (Int32.ofInt (sE3 G - 9)) = Int64.ofNat (f3 false c (sE3 G - 9) false) := fun c hc => cr3 false (by omega) (by omega) (by omega)
  have R1 : ∀ c : Nat, c < 9223372036854775808 → fX8_round 3 1 (Int64.ofNat c) (Int32.ofInt (sE3 G - 9)) = Int64.ofNat (f3 true c (sE3 G - 9) false) := fun c hc => cr3 true (by omega) (by omega) (by omega)
  have z0 : f3 false 0 (sE3 G - 9) false = 0 := by unfold f3 fl; rw [if_pos rfl]; rfl
  unfold fX8_add_b208 fX8_add_b225 fg
  rw [jr_let, jr_let, jr_let, cf3_minus hG, cf3_minus hS]
  simp only [jr_let, sc]
  cases hg : ng3 G with
  | false =>
    rw [if_pos (show bI false = 0 from rfl)]
    cases hs : ng3 S with
    | false =>
      have p := jl_ps (c := a + b) (by omega)
      rw [if_pos (show bI false = 0 from rfl), if_pos (show false = false from rfl), ll_ad, if_pos p.1, p.2, R0 _ (by omega)]
    | true =>
      rw [if_neg (show ¬ bI true = 0 by decide), if_neg (show ¬ false = true by decide)]
      by_cases c1 : b ≤ a
      · have p := jl_ps (c := a - b) (by omega)
        rw [jl_sd c1, if_pos p.1, p.2, R0 _ (by omega)]
        by_cases c2 : a = b
        · rw [if_pos c2, c2, Nat.sub_self, z0]
        · rw [if_neg c2, if_pos (by omega)]
      · have n := jl_n0 (c := b - a) (by omega) (by omega)
        rw [jl_sa (by omega), if_neg n.1, if_neg n.2, Int64.neg_neg, R1 _ (by omega), if_neg (show ¬ a = b by omega), if_neg (show ¬ b < a by omega)]
  | true =>
    rw [if_neg (show ¬ bI true = 0 by decide)]
    cases hs : ng3 S with
    | false =>
      rw [if_pos (show bI false = 0 from rfl), if_neg (show ¬ true = false by decide)]
      by_cases c1 : a ≤ b
      · have p := jl_ps (c := b - a) (by omega)
        rw [Int64.add_comm, jl_sd c1, if_pos p.1, p.2, R0 _ (by omega)]
        by_cases c2 : a = b
        · rw [if_pos c2, c2, Nat.sub_self, z0]
        · rw [if_neg c2, if_neg (show ¬ b < a by omega)]
      · have n := jl_n0 (c := a - b) (by omega) (by omega)
        rw [Int64.add_comm, jl_sa (by omega), if_neg n.1, if_neg n.2, Int64.neg_neg, R1 _ (by omega), if_neg (show ¬ a = b by omega), if_pos (show b < a by omega)]
    | true =>
      have n := jl_n0 (c := a + b) (by omega) (by omega)
      have e : -Int64.ofNat a + -Int64.ofNat b = -Int64.ofNat (a + b) := by rw [← ll_ad, Int64.neg_add, Int64.sub_eq_add_neg]
      rw [if_neg (show ¬ bI true = 0 by decide), if_pos (show true = true from rfl), e, if_neg n.1, if_neg n.2, Int64.neg_neg, R1 _ (by omega)]
