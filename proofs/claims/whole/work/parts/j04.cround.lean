/-! NUMBERS: the class rounds -/
theorem rd_small {p : Nat} {em : Int} {M : Nat} {E : Int} (h : M < 9223372036854775808) (c : 63 < rd_q p em M E - E) : rd p em M E false = 0 := by
  have a := rd_q_c p em M E
  have b := nl_le (L := 63) h
  have k : 64 ≤ (rd_q p em M E - E).toNat := by omega
  have w : 2 ^ 64 ≤ 2 ^ (rd_q p em M E - E).toNat := Nat.pow_le_pow_right (by decide) k
  have q : rd_q p em M E = em := by omega
  unfold rd rd_s
  rw [if_neg (by omega)]
  unfold rd_m
  rw [Nat.mod_eq_of_lt (by omega), Nat.div_eq_of_lt (by omega), if_neg, q, Int.sub_self]
  · show 0 * 2 ^ (p - 1) + 0 = 0
    rw [Nat.zero_mul]
  · rintro (z | ⟨z, -⟩) <;> omega
theorem cr2_79 (x7 : Int64) {M : Nat} {E : Int} (h0 : M ≠ 0) (hM : M < 9223372036854775808) (h1 : -10000 ≤ E) (h2 : E ≤ 10000) : fX8_round_b79 2 (Int64.ofNat M) (Int32.ofInt E) 24 127 x7 = x7 ||| Int64.ofNat (min (rd 24 (-149) M E false) (255 * 2 ^ (24 - 1))) := by
  have a := rd_q_c 24 (-149) M E
  have l64 := nl_le (L := 63) hM
  have l1 := (nl_ge h0).1
  have lt := nl_lt M
  rw [← jk_rd (top := 255) false (by decide) h0 (by decide)]
  have eq : (if Int32.ofInt E + (Int32.ofInt 64 - Int32.ofInt (64 - nl M)) - Int32.ofInt 24 < Int32.ofInt 2 - Int32.ofInt 127 - Int32.ofInt 24 then Int32.ofInt 2 - Int32.ofInt 127 - Int32.ofInt 24 else Int32.ofInt E + (Int32.ofInt 64 - Int32.ofInt (64 - nl M)) - Int32.ofInt 24) = Int32.ofInt (rd_q 24 (-149) M E) := by
    rw [zz_sb, zz_sb, zz_sb, zz_ad, zz_sb]
    by_cases c : E + (64 - (64 - (nl M : Int))) - 24 < 2 - 127 - 24
    · rw [if_pos (by rw [zz_lt (by omega) (by omega) (by omega) (by omega)]; exact c)]
      congr 1
      omega
    · rw [if_neg (by rw [zz_lt (by omega) (by omega) (by omega) (by omega)]; exact c)]
      congr 1
      omega
  unfold fX8_round_b79
  rw [jn_lz6 (by omega), show (64 : Int32) = Int32.ofInt 64 from rfl, show (2 : Int32) = Int32.ofInt 2 from rfl, show (127 : Int32) = Int32.ofInt 127 from rfl, show (24 : Int32) = Int32.ofInt 24 from rfl]
  simp only [jr_let, eq]
  generalize hq : rd_q 24 (-149) M E = q at a ⊢
  by_cases c : q - E ≤ 63
  · by_cases c1 : 0 < q - E
    · obtain ⟨j, hj⟩ : ∃ j : Nat, q - E = (j + 1 : Nat) := ⟨(q - E - 1).toNat, by omega⟩
      have w := cr2_142 x7 (q := q) (M := M) (j := j) hM (by omega)
      have v : rd_s 24 (-149) M E false = rd_m M (j + 1) false := by
        unfold rd_s
        rw [hq, if_neg (by omega), show (q - E).toNat = j + 1 by omega]
      have u := rd_s_le (p := 24) (em := (-149)) (M := M) (E := E) false
      rw [v] at u
      have z := cr2_pk x7 (q := q) (m := rd_m M (j + 1) false) (by omega) (by omega) u
      rw [v, ← z, ← w]
      have e5 : ((j + 1 : Nat) : Int).toNat = j + 1 := by omega
      rw [show (24 : Int32) = Int32.ofInt 24 from rfl, show (127 : Int32) = Int32.ofInt 127 from rfl]
      simp (disch := omega) only [zz_sb, hj, m3_0, m3_63, zz_le, zz_lt, zz_tn, jl_u63, jl_us, n6_63, e5, ↓reduceIte, jr_kl, jr_kr, ↓jr_let, jr_bs, and_true, true_and, and_false, false_and, or_true, true_or, or_false, false_or, not_true_eq_false, not_false_eq_true, b_let, b_lef, b_ltt, b_ltf, b_eqt, b_eqf, bz_let, bz_lef, bz_ltt, bz_ltf, bz_eqt, bz_eqf, Nat.reducePow, Nat.reduceMul, Nat.reduceAdd, Nat.reduceSub, Nat.reduceMod, Nat.reduceDiv, Int.reduceAdd, Int.reduceSub, Int.reduceMul, Int.reduceNeg, Int.reduceToNat, Int.toNat_natCast]
      all_goals (try simp only [show (2 : Int32) = Int32.ofInt 2 from rfl])
    · have v : rd_s 24 (-149) M E false = M * 2 ^ (E - q).toNat := by
        unfold rd_s
        rw [hq, if_pos (by omega)]
      have u := rd_s_le (p := 24) (em := (-149)) (M := M) (E := E) false
      rw [v] at u
      have z := cr2_pk x7 (q := q) (m := M * 2 ^ (E - q).toNat) (by omega) (by omega) u
      rw [v, ← z]
      unfold fX8_round_b142
      rw [show (24 : Int32) = Int32.ofInt 24 from rfl, show (127 : Int32) = Int32.ofInt 127 from rfl]
      have e6 : (-(q - E)).toNat = (E - q).toNat := by omega
      simp (disch := omega) only [zz_sb, zz_ng, m3_0, m3_63, zz_le, zz_lt, zz_tn, jl_63, ll_sl, n6_63, e6, ↓reduceIte, jr_kl, jr_kr, ↓jr_let, jr_bs, and_true, true_and, and_false, false_and, or_true, true_or, or_false, false_or, not_true_eq_false, not_false_eq_true, b_let, b_lef, b_ltt, b_ltf, b_eqt, b_eqf, bz_let, bz_lef, bz_ltt, bz_ltf, bz_eqt, bz_eqf, Nat.reducePow, Nat.reduceMul, Nat.reduceAdd, Nat.reduceSub, Nat.reduceMod, Nat.reduceDiv, Int.reduceAdd, Int.reduceSub, Int.reduceMul, Int.reduceNeg, Int.reduceToNat, Int.toNat_natCast]
      all_goals (try simp only [show (2 : Int32) = Int32.ofInt 2 from rfl])
  · have z := rd_small (p := 24) (em := (-149)) hM (E := E) (by omega)
    have v := jk_rd (p := 24) (em := (-149)) (top := 255) (E := E) false (by decide) h0 (by decide)
    rw [hq, z] at v
    rw [v]
    simp (disch := omega) only [zz_sb, m3_63, zz_le, ↓reduceIte, jr_kl, jr_kr, ↓jr_let, jr_bs, and_true, true_and, and_false, false_and, or_true, true_or, or_false, false_or, not_true_eq_false, not_false_eq_true, b_let, b_lef, b_ltt, b_ltf, b_eqt, b_eqf, bz_let, bz_lef, bz_ltt, bz_ltf, bz_eqt, bz_eqf, Nat.reducePow, Nat.reduceMul, Nat.reduceAdd, Nat.reduceSub, Nat.reduceMod, Nat.reduceDiv, Int.reduceAdd, Int.reduceSub, Int.reduceMul, Int.reduceNeg, Int.reduceToNat, Int.toNat_natCast]
    exact (jl_o0 _).symm
theorem cr3_79 (x7 : Int64) {M : Nat} {E : Int} (h0 : M ≠ 0) (hM : M < 9223372036854775808) (h1 : -10000 ≤ E) (h2 : E ≤ 10000) : fX8_round_b79 3 (Int64.ofNat M) (Int32.ofInt E) 53 1023 x7 = x7 ||| Int64.ofNat (min (rd 53 (-1074) M E false) (2047 * 2 ^ (53 - 1))) := by
  have a := rd_q_c 53 (-1074) M E
  have l64 := nl_le (L := 63) hM
  have l1 := (nl_ge h0).1
  have lt := nl_lt M
  rw [← jk_rd (top := 2047) false (by decide) h0 (by decide)]
  have eq : (if Int32.ofInt E + (Int32.ofInt 64 - Int32.ofInt (64 - nl M)) - Int32.ofInt 53 < Int32.ofInt 2 - Int32.ofInt 1023 - Int32.ofInt 53 then Int32.ofInt 2 - Int32.ofInt 1023 - Int32.ofInt 53 else Int32.ofInt E + (Int32.ofInt 64 - Int32.ofInt (64 - nl M)) - Int32.ofInt 53) = Int32.ofInt (rd_q 53 (-1074) M E) := by
    rw [zz_sb, zz_sb, zz_sb, zz_ad, zz_sb]
    by_cases c : E + (64 - (64 - (nl M : Int))) - 53 < 2 - 1023 - 53
    · rw [if_pos (by rw [zz_lt (by omega) (by omega) (by omega) (by omega)]; exact c)]
      congr 1
      omega
    · rw [if_neg (by rw [zz_lt (by omega) (by omega) (by omega) (by omega)]; exact c)]
      congr 1
      omega
  unfold fX8_round_b79
  rw [jn_lz6 (by omega), show (64 : Int32) = Int32.ofInt 64 from rfl, show (2 : Int32) = Int32.ofInt 2 from rfl, show (1023 : Int32) = Int32.ofInt 1023 from rfl, show (53 : Int32) = Int32.ofInt 53 from rfl]
  simp only [jr_let, eq]
  generalize hq : rd_q 53 (-1074) M E = q at a ⊢
  by_cases c : q - E ≤ 63
  · by_cases c1 : 0 < q - E
    · obtain ⟨j, hj⟩ : ∃ j : Nat, q - E = (j + 1 : Nat) := ⟨(q - E - 1).toNat, by omega⟩
      have w := cr3_142 x7 (q := q) (M := M) (j := j) hM (by omega)
      have v : rd_s 53 (-1074) M E false = rd_m M (j + 1) false := by
        unfold rd_s
        rw [hq, if_neg (by omega), show (q - E).toNat = j + 1 by omega]
      have u := rd_s_le (p := 53) (em := (-1074)) (M := M) (E := E) false
      rw [v] at u
      have z := cr3_pk x7 (q := q) (m := rd_m M (j + 1) false) (by omega) (by omega) u
      rw [v, ← z, ← w]
      have e5 : ((j + 1 : Nat) : Int).toNat = j + 1 := by omega
      rw [show (53 : Int32) = Int32.ofInt 53 from rfl, show (1023 : Int32) = Int32.ofInt 1023 from rfl]
      simp (disch := omega) only [zz_sb, hj, m3_0, m3_63, zz_le, zz_lt, zz_tn, jl_u63, jl_us, n6_63, e5, ↓reduceIte, jr_kl, jr_kr, ↓jr_let, jr_bs, and_true, true_and, and_false, false_and, or_true, true_or, or_false, false_or, not_true_eq_false, not_false_eq_true, b_let, b_lef, b_ltt, b_ltf, b_eqt, b_eqf, bz_let, bz_lef, bz_ltt, bz_ltf, bz_eqt, bz_eqf, Nat.reducePow, Nat.reduceMul, Nat.reduceAdd, Nat.reduceSub, Nat.reduceMod, Nat.reduceDiv, Int.reduceAdd, Int.reduceSub, Int.reduceMul, Int.reduceNeg, Int.reduceToNat, Int.toNat_natCast]
      all_goals (try simp only [show (2 : Int32) = Int32.ofInt 2 from rfl])
    · have v : rd_s 53 (-1074) M E false = M * 2 ^ (E - q).toNat := by
        unfold rd_s
        rw [hq, if_pos (by omega)]
      have u := rd_s_le (p := 53) (em := (-1074)) (M := M) (E := E) false
      rw [v] at u
      have z := cr3_pk x7 (q := q) (m := M * 2 ^ (E - q).toNat) (by omega) (by omega) u
      rw [v, ← z]
      unfold fX8_round_b142
      rw [show (53 : Int32) = Int32.ofInt 53 from rfl, show (1023 : Int32) = Int32.ofInt 1023 from rfl]
      have e6 : (-(q - E)).toNat = (E - q).toNat := by omega
      simp (disch := omega) only [zz_sb, zz_ng, m3_0, m3_63, zz_le, zz_lt, zz_tn, jl_63, ll_sl, n6_63, e6, ↓reduceIte, jr_kl, jr_kr, ↓jr_let, jr_bs, and_true, true_and, and_false, false_and, or_true, true_or, or_false, false_or, not_true_eq_false, not_false_eq_true, b_let, b_lef, b_ltt, b_ltf, b_eqt, b_eqf, bz_let, bz_lef, bz_ltt, bz_ltf, bz_eqt, bz_eqf, Nat.reducePow, Nat.reduceMul, Nat.reduceAdd, Nat.reduceSub, Nat.reduceMod, Nat.reduceDiv, Int.reduceAdd, Int.reduceSub, Int.reduceMul, Int.reduceNeg, Int.reduceToNat, Int.toNat_natCast]
      all_goals (try simp only [show (2 : Int32) = Int32.ofInt 2 from rfl])
  · have z := rd_small (p := 53) (em := (-1074)) hM (E := E) (by omega)
    have v := jk_rd (p := 53) (em := (-1074)) (top := 2047) (E := E) false (by decide) h0 (by decide)
    rw [hq, z] at v
    rw [v]
    simp (disch := omega) only [zz_sb, m3_63, zz_le, ↓reduceIte, jr_kl, jr_kr, ↓jr_let, jr_bs, and_true, true_and, and_false, false_and, or_true, true_or, or_false, false_or, not_true_eq_false, not_false_eq_true, b_let, b_lef, b_ltt, b_ltf, b_eqt, b_eqf, bz_let, bz_lef, bz_ltt, bz_ltf, bz_eqt, bz_eqf, Nat.reducePow, Nat.reduceMul, Nat.reduceAdd, Nat.reduceSub, Nat.reduceMod, Nat.reduceDiv, Int.reduceAdd, Int.reduceSub, Int.reduceMul, Int.reduceNeg, Int.reduceToNat, Int.toNat_natCast]
    exact (jl_o0 _).symm
theorem jo_1 {M : Nat} (hM : M < 18446744073709551616) : Int64.ofNat (M / 2) ||| Int64.ofNat (M % 2) = Int64.ofNat (od (M / 2) (decide (M % 2 ≠ 0))) := by
  unfold od
  by_cases c : M % 2 = 0
  · rw [c, jl_o0, if_neg (fun z => by simp at z)]
  · have c1 : M % 2 = 1 := by omega
    rw [c1]
    by_cases d : M / 2 % 2 = 0
    · rw [jl_o1 (by omega) d, if_pos ⟨by decide, d⟩]
    · rw [jl_o2 (by omega) (by omega), if_neg (fun z => d z.2)]
theorem rd_half {p : Nat} {em : Int} {M : Nat} {E : Int} (hp : 1 ≤ p) (hp2 : p ≤ 60) (h1 : 9223372036854775808 ≤ M) : rd p em (od (M / 2) (decide (M % 2 ≠ 0))) (E + 1) false = rd p em M E false := by
  have n : 63 < nl M := nl_gt h1
  have a := rd_q_c p em M E
  have w := rd_odd (p := p) (em := em) (M := M) (E := E) (s := false) (k := 1) (by omega)
  have v := rd_q_div (p := p) (em := em) (M := M) (E := E) (k := 1) (by omega)
  rw [show 2 ^ 1 = 2 from rfl, Bool.false_or] at w
  rw [show 2 ^ 1 = 2 from rfl] at v
  have v : rd_q p em (M / 2) (E + 1) = rd_q p em M E := v
  rw [w]
  exact (rd_od _ hp (by rw [v]; omega)).symm
theorem cr2_51 (x7 : Int64) {M : Nat} {E : Int} (hM : M < 18446744073709551616) (h1 : -9999 ≤ E) (h2 : E ≤ 9999) : fX8_round_b51 2 (Int64.ofNat M) (Int32.ofInt E) 24 127 x7 = x7 ||| Int64.ofNat (if M = 0 then 0 else min (rd 24 (-149) M E false) (255 * 2 ^ (24 - 1))) := by
  unfold fX8_round_b51
  by_cases c0 : M = 0
  · rw [if_pos c0, c0, if_pos (show Int64.ofNat 0 = 0 from rfl), jl_o0]
  rw [if_neg c0, if_neg (by rw [show (0 : Int64) = Int64.ofNat 0 from rfl, jl_eq hM (by decide)]; exact c0)]
  by_cases c : M < 9223372036854775808
  · rw [if_pos (jl_pos c)]
    exact cr2_79 x7 c0 c (by omega) (by omega)
  · rw [if_neg (Int64.not_le.mpr (jl_neg (by omega) hM)), show (1 : Int32).toInt64 = Int64.ofNat 1 from rfl, show (63 : Int64) = Int64.ofNat 63 from rfl, jl_u63 (by decide), jl_us hM (by decide), show (1 : Int64) = Int64.ofNat 1 from rfl, ll_m1]
    rw [jr_let, jr_let, Nat.pow_one, jo_1 hM, show (1 : Int32) = Int32.ofInt 1 from rfl, zz_ad]
    have z : od (M / 2) (decide (M % 2 ≠ 0)) ≠ 0 ∧ od (M / 2) (decide (M % 2 ≠ 0)) < 9223372036854775808 := by
      unfold od
      split <;> omega
    rw [cr2_79 x7 z.1 z.2 (by omega) (by omega), rd_half (by decide) (by decide) (by omega)]
/-- what the class's round gives -/
theorem cr2 {M : Nat} {E : Int} (g : Bool) (hM : M < 18446744073709551616) (h1 : -9999 ≤ E) (h2 : E ≤ 9999) : fX8_round 2 (bI g) (Int64.ofNat M) (Int32.ofInt E) = Int64.ofNat (f2 g M E false) := by
  have w := fun x7 => cr2_51 x7 hM h1 h2
  have le : (if M = 0 then 0 else min (rd 24 (-149) M E false) (255 * 2 ^ (24 - 1))) < 2 ^ 31 := by
    split
    · decide
    · exact Nat.lt_of_le_of_lt (Nat.min_le_right _ _) (by decide)
  unfold fX8_round fX8_round_b12 fX8_round_b27 f2 fl bI
  cases g with
  | false =>
    simp only [Bool.false_eq_true, if_false, if_true, w, eq_self]
    rw [show (0 : Int64) ||| Int64.ofNat (if M = 0 then 0 else min (rd 24 (-149) M E false) (255 * 2 ^ (24 - 1))) = _ from Int64.zero_or, Nat.zero_add]
  | true =>
    have o := jl_o (c := 1) le (by have := le; omega)
    rw [Nat.one_mul] at o
    simp only [if_true, if_false, w, show ((1 : Int32) = 0) = False from eq_false (by decide), eq_self]
    exact o
theorem cr3_51 (x7 : Int64) {M : Nat} {E : Int} (hM : M < 18446744073709551616) (h1 : -9999 ≤ E) (h2 : E ≤ 9999) : fX8_round_b51 3 (Int64.ofNat M) (Int32.ofInt E) 53 1023 x7 = x7 ||| Int64.ofNat (if M = 0 then 0 else min (rd 53 (-1074) M E false) (2047 * 2 ^ (53 - 1))) := by
  unfold fX8_round_b51
  by_cases c0 : M = 0
  · rw [if_pos c0, c0, if_pos (show Int64.ofNat 0 = 0 from rfl), jl_o0]
  rw [if_neg c0, if_neg (by rw [show (0 : Int64) = Int64.ofNat 0 from rfl, jl_eq hM (by decide)]; exact c0)]
  by_cases c : M < 9223372036854775808
  · rw [if_pos (jl_pos c)]
    exact cr3_79 x7 c0 c (by omega) (by omega)
  · rw [if_neg (Int64.not_le.mpr (jl_neg (by omega) hM)), show (1 : Int32).toInt64 = Int64.ofNat 1 from rfl, show (63 : Int64) = Int64.ofNat 63 from rfl, jl_u63 (by decide), jl_us hM (by decide), show (1 : Int64) = Int64.ofNat 1 from rfl, ll_m1]
    rw [jr_let, jr_let, Nat.pow_one, jo_1 hM, show (1 : Int32) = Int32.ofInt 1 from rfl, zz_ad]
    have z : od (M / 2) (decide (M % 2 ≠ 0)) ≠ 0 ∧ od (M / 2) (decide (M % 2 ≠ 0)) < 9223372036854775808 := by
      unfold od
      split <;> omega
    rw [cr3_79 x7 z.1 z.2 (by omega) (by omega), rd_half (by decide) (by decide) (by omega)]
/-- what the class's round gives -/
theorem cr3 {M : Nat} {E : Int} (g : Bool) (hM : M < 18446744073709551616) (h1 : -9999 ≤ E) (h2 : E ≤ 9999) : fX8_round 3 (bI g) (Int64.ofNat M) (Int32.ofInt E) = Int64.ofNat (f3 g M E false) := by
  have w := fun x7 => cr3_51 x7 hM h1 h2
  have le : (if M = 0 then 0 else min (rd 53 (-1074) M E false) (2047 * 2 ^ (53 - 1))) < 2 ^ 63 := by
    split
    · decide
    · exact Nat.lt_of_le_of_lt (Nat.min_le_right _ _) (by decide)
  unfold fX8_round fX8_round_b12 fX8_round_b27 f3 fl bI
  cases g with
  | false =>
    simp only [Bool.false_eq_true, if_false, if_true, w, show ((3 : Int32) = 2) = False from eq_false (by decide)]
    rw [show (0 : Int64) ||| Int64.ofNat (if M = 0 then 0 else min (rd 53 (-1074) M E false) (2047 * 2 ^ (53 - 1))) = _ from Int64.zero_or, Nat.zero_add]
  | true =>
    have o := jl_o (c := 1) le (by have := le; omega)
    rw [Nat.one_mul] at o
    simp only [if_true, if_false, w, show ((1 : Int32) = 0) = False from eq_false (by decide), show ((3 : Int32) = 2) = False from eq_false (by decide)]
    exact o
