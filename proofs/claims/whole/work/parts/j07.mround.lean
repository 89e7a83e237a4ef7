/-! NUMBERS: the reference rounds, from its beginning -/
theorem jw_lo {hi lo : Nat} (h2 : lo < 18446744073709551616) : Int64.ofNat lo = Int64.ofNat (hi * 18446744073709551616 + lo) := by
  rw [jl_wrap (hi * 18446744073709551616 + lo)]
  congr 1
  omega
theorem jw_h {hi lo : Nat} (h2 : lo < 18446744073709551616) : Int64.ofNat hi = Int64.ofNat ((hi * 18446744073709551616 + lo) / 18446744073709551616) := by
  congr 1
  omega
theorem rw_sum (M n : Nat) (s : Bool) (hn : 1 ≤ n) : rd_m (4 * M + 2 * bN false + bN s) (n + 2) false = rd_m M n s := by
  have b : bN s ≤ 1 := by cases s <;> decide
  rw [show n + 2 = 2 + n by omega, rd_mk _ _ _ _ hn, show bN false = 0 from rfl, show (2 : Nat) ^ 2 = 4 from rfl, show (4 * M + 2 * 0 + bN s) / 4 = M by omega, show (4 * M + 2 * 0 + bN s) % 4 = bN s by omega]
  congr 1
  cases s <;> decide
theorem mr2_q (g more : Bool) {hi lo M : Nat} {E : Int} (len : fX16_length (Int64.ofNat hi) (Int64.ofNat lo) = some (Int32.ofInt (nl M))) (lM : nl M ≤ 128) (e1 : -9999 ≤ E) (e2 : E ≤ 9999) : fX16_rounded 2 (bI g) (Int64.ofNat hi) (Int64.ofNat lo) (Int32.ofInt E) (bI more) = pm_lim sX16_rounded (.inr (.inr (.inl (2, bI g, Int64.ofNat hi, Int64.ofNat lo, Int32.ofInt E, bI more, 24, (-149), Int32.ofInt (rd_q 24 (-149) M E))))) := by
  have et : ((2 : Int32) = 2) = (2 = 2) := by decide
  have em : ((-149) : Int32) = Int32.ofInt (-149) := by decide
  have ep : (24 : Int32) = Int32.ofInt 24 := by decide
  have a := rd_q_c 24 (-149) M E
  unfold fX16_rounded
  simp only [et, if_true, if_false, eq_self]
  rw [ev_lm]; simp only [aX16_rounded_0, tX16_rounded_12, et, if_true, if_false, eq_self, jr_kl]
  rw [ev_lm]; simp only [aX16_rounded_1, tX16_rounded_28, len, jr_bs, jr_let]
  rw [em, ep, zz_ad, zz_sb]
  by_cases c : (-149) ≤ E + nl M - 24
  · rw [if_pos (by rw [zz_le (by omega) (by omega) (by omega) (by omega)]; exact c), jr_kl, show rd_q 24 (-149) M E = E + nl M - 24 by omega]
  · rw [if_neg (by rw [zz_le (by omega) (by omega) (by omega) (by omega)]; exact c), jr_kl, show rd_q 24 (-149) M E = (-149) by omega]
theorem mr2_a (g more : Bool) {x M : Nat} {E q : Int} (hM : M < 18446744073709551616) (c : q ≤ E) (c2 : E - q < 64) (q1 : -100000 ≤ q) (q2 : E ≤ 100000) : pm_lim sX16_rounded (.inr (.inr (.inl (2, bI g, Int64.ofNat x, Int64.ofNat M, Int32.ofInt E, bI more, 24, (-149), Int32.ofInt q)))) = pm_lim sX16_rounded (.inr (.inr (.inr (.inr (.inr (.inr (.inl (2, bI g, 24, (-149), Int32.ofInt q, Int64.ofNat (M * 2 ^ (E - q).toNat))))))))) := by
  rw [ev_lm]; simp (disch := omega) only [aX16_rounded_2, tX16_rounded_58, zz_ad, zz_sb, zz_ng, zz_ml, zz_le, zz_lt, zz_eq, zz_tn, jl_u63, jl_us, jl_63, ll_sl, ll_sr, ll_ad, ll_sb, ll_ml, ll_le, ll_lt, jl_eq, ll_m1, n6_63, n6_1, n6_0, ↓reduceIte, jr_kl, jr_kr, ↓jr_let, jr_bs, and_true, true_and, and_false, false_and, or_true, true_or, or_false, false_or, not_true_eq_false, not_false_eq_true, b_let, b_lef, b_ltt, b_ltf, b_eqt, b_eqf, bz_let, bz_lef, bz_ltt, bz_ltf, bz_eqt, bz_eqf, Nat.reducePow, Nat.reduceMul, Nat.reduceAdd, Nat.reduceSub, Nat.reduceMod, Nat.reduceDiv, Int.reduceAdd, Int.reduceSub, Int.reduceMul, Int.reduceNeg, Int.reduceToNat, Int.toNat_natCast]
  rw [ev_lm]; simp (disch := omega) only [aX16_rounded_3, tX16_rounded_96, zz_ad, zz_sb, zz_ng, zz_ml, zz_le, zz_lt, zz_eq, zz_tn, jl_u63, jl_us, jl_63, ll_sl, ll_sr, ll_ad, ll_sb, ll_ml, ll_le, ll_lt, jl_eq, ll_m1, n6_63, n6_1, n6_0, ↓reduceIte, jr_kl, jr_kr, ↓jr_let, jr_bs, and_true, true_and, and_false, false_and, or_true, true_or, or_false, false_or, not_true_eq_false, not_false_eq_true, b_let, b_lef, b_ltt, b_ltf, b_eqt, b_eqf, bz_let, bz_lef, bz_ltt, bz_ltf, bz_eqt, bz_eqf, Nat.reducePow, Nat.reduceMul, Nat.reduceAdd, Nat.reduceSub, Nat.reduceMod, Nat.reduceDiv, Int.reduceAdd, Int.reduceSub, Int.reduceMul, Int.reduceNeg, Int.reduceToNat, Int.toNat_natCast]
  rw [ev_lm]; simp (disch := omega) only [aX16_rounded_4, tX16_rounded_179, zz_ad, zz_sb, zz_ng, zz_ml, zz_le, zz_lt, zz_eq, zz_tn, jl_u63, jl_us, jl_63, ll_sl, ll_sr, ll_ad, ll_sb, ll_ml, ll_le, ll_lt, jl_eq, ll_m1, n6_63, n6_1, n6_0, ↓reduceIte, jr_kl, jr_kr, ↓jr_let, jr_bs, and_true, true_and, and_false, false_and, or_true, true_or, or_false, false_or, not_true_eq_false, not_false_eq_true, b_let, b_lef, b_ltt, b_ltf, b_eqt, b_eqf, bz_let, bz_lef, bz_ltt, bz_ltf, bz_eqt, bz_eqf, Nat.reducePow, Nat.reduceMul, Nat.reduceAdd, Nat.reduceSub, Nat.reduceMod, Nat.reduceDiv, Int.reduceAdd, Int.reduceSub, Int.reduceMul, Int.reduceNeg, Int.reduceToNat, Int.toNat_natCast]
theorem mr2_b (g more : Bool) {hi lo : Int64} {E q : Int} (c : ¬ q ≤ E) (q1 : -100000 ≤ E) (q2 : q ≤ 100000) : pm_lim sX16_rounded (.inr (.inr (.inl (2, bI g, hi, lo, Int32.ofInt E, bI more, 24, (-149), Int32.ofInt q)))) = pm_lim sX16_rounded (.inr (.inr (.inr (.inl (2, bI g, 24, (-149), Int32.ofInt q, hi, lo, bI false, bI more, Int32.ofInt E))))) := by
  rw [ev_lm]; simp (disch := omega) only [aX16_rounded_2, tX16_rounded_58, zz_le, show bI false = 0 from rfl, ↓reduceIte, jr_kl, jr_kr, ↓jr_let, jr_bs, and_true, true_and, and_false, false_and, or_true, true_or, or_false, false_or, not_true_eq_false, not_false_eq_true, b_let, b_lef, b_ltt, b_ltf, b_eqt, b_eqf, bz_let, bz_lef, bz_ltt, bz_ltf, bz_eqt, bz_eqf, Nat.reducePow, Nat.reduceMul, Nat.reduceAdd, Nat.reduceSub, Nat.reduceMod, Nat.reduceDiv, Int.reduceAdd, Int.reduceSub, Int.reduceMul, Int.reduceNeg, Int.reduceToNat, Int.toNat_natCast]
/-- what the reference's rounding gives -/
theorem mr2 (g more : Bool) {hi lo M : Nat} {E : Int} (h1 : hi < 18446744073709551616) (h2 : lo < 18446744073709551616) (hM : hi * 18446744073709551616 + lo = M) (h0 : M ≠ 0) (e1 : -9999 ≤ E) (e2 : E ≤ 9999) : fX16_rounded 2 (bI g) (Int64.ofNat hi) (Int64.ofNat lo) (Int32.ofInt E) (bI more) = some (Int64.ofNat (f2 g M E more)) := by
  have len := jm_length h1 h2
  have jl := jw_lo (hi := hi) h2
  have jh := jw_h (hi := hi) h2
  rw [hM] at len jl jh
  have a := rd_q_c 24 (-149) M E
  have lM : nl M ≤ 128 := nl_le (by omega)
  have l1 := (nl_ge h0).1
  have u := rd_s_le (p := 24) (em := (-149)) (M := M) (E := E) more
  have fin := mr2_end g (q := rd_q 24 (-149) M E) (m := rd_s 24 (-149) M E more) (by omega) (by omega) u
  rw [jk_rd more (by decide) h0 (by decide)] at fin
  have r : f2 g M E more = (if g = true then 2 ^ 31 else 0) + min (rd 24 (-149) M E more) (255 * 2 ^ (24 - 1)) := by
    unfold f2 fl
    rw [if_neg h0]
  rw [r, ← fin, mr2_q g more len lM e1 e2]
  generalize hq : rd_q 24 (-149) M E = q at a ⊢
  by_cases c : q ≤ E
  · have v : rd_s 24 (-149) M E more = M * 2 ^ (E - q).toNat := by
      unfold rd_s
      rw [hq, if_pos c]
    have hM2 : M < 18446744073709551616 := by
      have n := nl_lt M
      have w : 2 ^ nl M ≤ 2 ^ 24 := Nat.pow_le_pow_right (by decide) (by omega)
      omega
    rw [v, jl, mr2_a g more hM2 c (by omega) (by omega) (by omega)]
  · have v : rd_s 24 (-149) M E more = rd_m M (q - E).toNat more := by
      unfold rd_s
      rw [hq, if_neg c]
    have z := mr_loop 2 (bI g) 24 (-149) (q := q) (by omega) (by omega) (q - E).toNat M false more E (by omega) (by omega) (by omega)
    rw [rw_sum _ _ _ (by omega)] at z
    rw [v, ← z, mr2_b g more c (by omega) (by omega), jl, jh]
theorem mr3_q (g more : Bool) {hi lo M : Nat} {E : Int} (len : fX16_length (Int64.ofNat hi) (Int64.ofNat lo) = some (Int32.ofInt (nl M))) (lM : nl M ≤ 128) (e1 : -9999 ≤ E) (e2 : E ≤ 9999) : fX16_rounded 3 (bI g) (Int64.ofNat hi) (Int64.ofNat lo) (Int32.ofInt E) (bI more) = pm_lim sX16_rounded (.inr (.inr (.inl (3, bI g, Int64.ofNat hi, Int64.ofNat lo, Int32.ofInt E, bI more, 53, (-1074), Int32.ofInt (rd_q 53 (-1074) M E))))) := by
  have et : ((3 : Int32) = 2) = (3 = 2) := by decide
  have em : ((-1074) : Int32) = Int32.ofInt (-1074) := by decide
  have ep : (53 : Int32) = Int32.ofInt 53 := by decide
  have a := rd_q_c 53 (-1074) M E
  unfold fX16_rounded
  simp only [et, if_true, if_false, show ((3 : Nat) = 2) = False from eq_false (by decide)]
  rw [ev_lm]; simp only [aX16_rounded_0, tX16_rounded_12, et, if_true, if_false, show ((3 : Nat) = 2) = False from eq_false (by decide), jr_kl]
  rw [ev_lm]; simp only [aX16_rounded_1, tX16_rounded_28, len, jr_bs, jr_let]
  rw [em, ep, zz_ad, zz_sb]
  by_cases c : (-1074) ≤ E + nl M - 53
  · rw [if_pos (by rw [zz_le (by omega) (by omega) (by omega) (by omega)]; exact c), jr_kl, show rd_q 53 (-1074) M E = E + nl M - 53 by omega]
  · rw [if_neg (by rw [zz_le (by omega) (by omega) (by omega) (by omega)]; exact c), jr_kl, show rd_q 53 (-1074) M E = (-1074) by omega]
theorem mr3_a (g more : Bool) {x M : Nat} {E q : Int} (hM : M < 18446744073709551616) (c : q ≤ E) (c2 : E - q < 64) (q1 : -100000 ≤ q) (q2 : E ≤ 100000) : pm_lim sX16_rounded (.inr (.inr (.inl (3, bI g, Int64.ofNat x, Int64.ofNat M, Int32.ofInt E, bI more, 53, (-1074), Int32.ofInt q)))) = pm_lim sX16_rounded (.inr (.inr (.inr (.inr (.inr (.inr (.inl (3, bI g, 53, (-1074), Int32.ofInt q, Int64.ofNat (M * 2 ^ (E - q).toNat))))))))) := by
  rw [ev_lm]; simp (disch := omega) only [aX16_rounded_2, tX16_rounded_58, zz_ad, zz_sb, zz_ng, zz_ml, zz_le, zz_lt, zz_eq, zz_tn, jl_u63, jl_us, jl_63, ll_sl, ll_sr, ll_ad, ll_sb, ll_ml, ll_le, ll_lt, jl_eq, ll_m1, n6_63, n6_1, n6_0, ↓reduceIte, jr_kl, jr_kr, ↓jr_let, jr_bs, and_true, true_and, and_false, false_and, or_true, true_or, or_false, false_or, not_true_eq_false, not_false_eq_true, b_let, b_lef, b_ltt, b_ltf, b_eqt, b_eqf, bz_let, bz_lef, bz_ltt, bz_ltf, bz_eqt, bz_eqf, Nat.reducePow, Nat.reduceMul, Nat.reduceAdd, Nat.reduceSub, Nat.reduceMod, Nat.reduceDiv, Int.reduceAdd, Int.reduceSub, Int.reduceMul, Int.reduceNeg, Int.reduceToNat, Int.toNat_natCast]
  rw [ev_lm]; simp (disch := omega) only [aX16_rounded_3, tX16_rounded_96, zz_ad, zz_sb, zz_ng, zz_ml, zz_le, zz_lt, zz_eq, zz_tn, jl_u63, jl_us, jl_63, ll_sl, ll_sr, ll_ad, ll_sb, ll_ml, ll_le, ll_lt, jl_eq, ll_m1, n6_63, n6_1, n6_0, ↓reduceIte, jr_kl, jr_kr, ↓jr_let, jr_bs, and_true, true_and, and_false, false_and, or_true, true_or, or_false, false_or, not_true_eq_false, not_false_eq_true, b_let, b_lef, b_ltt, b_ltf, b_eqt, b_eqf, bz_let, bz_lef, bz_ltt, bz_ltf, bz_eqt, bz_eqf, Nat.reducePow, Nat.reduceMul, Nat.reduceAdd, Nat.reduceSub, Nat.reduceMod, Nat.reduceDiv, Int.reduceAdd, Int.reduceSub, Int.reduceMul, Int.reduceNeg, Int.reduceToNat, Int.toNat_natCast]
  rw [ev_lm]; simp (disch := omega) only [aX16_rounded_4, tX16_rounded_179, zz_ad, zz_sb, zz_ng, zz_ml, zz_le, zz_lt, zz_eq, zz_tn, jl_u63, jl_us, jl_63, ll_sl, ll_sr, ll_ad, ll_sb, ll_ml, ll_le, ll_lt, jl_eq, ll_m1, n6_63, n6_1, n6_0, ↓reduceIte, jr_kl, jr_kr, ↓jr_let, jr_bs, and_true, true_and, and_false, false_and, or_true, true_or, or_false, false_or, not_true_eq_false, not_false_eq_true, b_let, b_lef, b_ltt, b_ltf, b_eqt, b_eqf, bz_let, bz_lef, bz_ltt, bz_ltf, bz_eqt, bz_eqf, Nat.reducePow, Nat.reduceMul, Nat.reduceAdd, Nat.reduceSub, Nat.reduceMod, Nat.reduceDiv, Int.reduceAdd, Int.reduceSub, Int.reduceMul, Int.reduceNeg, Int.reduceToNat, Int.toNat_natCast]
theorem mr3_b (g more : Bool) {hi lo : Int64} {E q : Int} (c : ¬ q ≤ E) (q1 : -100000 ≤ E) (q2 : q ≤ 100000) : pm_lim sX16_rounded (.inr (.inr (.inl (3, bI g, hi, lo, Int32.ofInt E, bI more, 53, (-1074), Int32.ofInt q)))) = pm_lim sX16_rounded (.inr (.inr (.inr (.inl (3, bI g, 53, (-1074), Int32.ofInt q, hi, lo, bI false, bI more, Int32.ofInt E))))) := by
  rw [ev_lm]; simp (disch := omega) only [aX16_rounded_2, tX16_rounded_58, zz_le, show bI false = 0 from rfl, ↓reduceIte, jr_kl, jr_kr, ↓jr_let, jr_bs, and_true, true_and, and_false, false_and, or_true, true_or, or_false, false_or, not_true_eq_false, not_false_eq_true, b_let, b_lef, b_ltt, b_ltf, b_eqt, b_eqf, bz_let, bz_lef, bz_ltt, bz_ltf, bz_eqt, bz_eqf, Nat.reducePow, Nat.reduceMul, Nat.reduceAdd, Nat.reduceSub, Nat.reduceMod, Nat.reduceDiv, Int.reduceAdd, Int.reduceSub, Int.reduceMul, Int.reduceNeg, Int.reduceToNat, Int.toNat_natCast]
/-- what the reference's rounding gives -/
theorem mr3 (g more : Bool) {hi lo M : Nat} {E : Int} (h1 : hi < 18446744073709551616) (h2 : lo < 18446744073709551616) (hM : hi * 18446744073709551616 + lo = M) (h0 : M ≠ 0) (e1 : -9999 ≤ E) (e2 : E ≤ 9999) : fX16_rounded 3 (bI g) (Int64.ofNat hi) (Int64.ofNat lo) (Int32.ofInt E) (bI more) = some (Int64.ofNat (f3 g M E more)) := by
  have len := jm_length h1 h2
  have jl := jw_lo (hi := hi) h2
  have jh := jw_h (hi := hi) h2
  rw [hM] at len jl jh
  have a := rd_q_c 53 (-1074) M E
  have lM : nl M ≤ 128 := nl_le (by omega)
  have l1 := (nl_ge h0).1
  have u := rd_s_le (p := 53) (em := (-1074)) (M := M) (E := E) more
  have fin := mr3_end g (q := rd_q 53 (-1074) M E) (m := rd_s 53 (-1074) M E more) (by omega) (by omega) u
  rw [jk_rd more (by decide) h0 (by decide)] at fin
  have r : f3 g M E more = (if g = true then 2 ^ 63 else 0) + min (rd 53 (-1074) M E more) (2047 * 2 ^ (53 - 1)) := by
    unfold f3 fl
    rw [if_neg h0]
  rw [r, ← fin, mr3_q g more len lM e1 e2]
  generalize hq : rd_q 53 (-1074) M E = q at a ⊢
  by_cases c : q ≤ E
  · have v : rd_s 53 (-1074) M E more = M * 2 ^ (E - q).toNat := by
      unfold rd_s
      rw [hq, if_pos c]
    have hM2 : M < 18446744073709551616 := by
      have n := nl_lt M
      have w : 2 ^ nl M ≤ 2 ^ 53 := Nat.pow_le_pow_right (by decide) (by omega)
      omega
    rw [v, jl, mr3_a g more hM2 c (by omega) (by omega) (by omega)]
  · have v : rd_s 53 (-1074) M E more = rd_m M (q - E).toNat more := by
      unfold rd_s
      rw [hq, if_neg c]
    have z := mr_loop 3 (bI g) 53 (-1074) (q := q) (by omega) (by omega) (q - E).toNat M false more E (by omega) (by omega) (by omega)
    rw [rw_sum _ _ _ (by omega)] at z
    rw [v, ← z, mr3_b g more c (by omega) (by omega), jl, jh]
