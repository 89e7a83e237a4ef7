/-! NUMBERS: sums, the reference -/
theorem od_it (c n : Nat) : od (od (c / 2) (decide (c % 2 ≠ 0)) / 2 ^ n) (decide (od (c / 2) (decide (c % 2 ≠ 0)) % 2 ^ n ≠ 0)) = od (c / 2 ^ (n + 1)) (decide (c % 2 ^ (n + 1) ≠ 0)) := by
  have e1 : c / 2 ^ (n + 1) = c / 2 / 2 ^ n := by rw [Nat.pow_succ', Nat.div_div_eq_div_mul]
  have e2 : c % 2 ^ (n + 1) = c % 2 + 2 * (c / 2 % 2 ^ n) := by rw [Nat.pow_succ', Nat.mod_mul]
  rw [e1, e2]
  by_cases d : c % 2 = 0
  · rw [d, show decide ((0 : Nat) ≠ 0) = false by decide, od_f]
    congr 1
    by_cases f : c / 2 % 2 ^ n = 0
    · rw [f]
    · rw [decide_eq_true f, decide_eq_true (by omega)]
  · have d1 : c % 2 = 1 := by omega
    rw [d1, show decide ((1 : Nat) ≠ 0) = true by decide, decide_eq_true (show 1 + 2 * (c / 2 % 2 ^ n) ≠ 0 by omega)]
    generalize c / 2 = x
    cases n with
    | zero =>
      rw [Nat.pow_zero, Nat.div_one, Nat.div_one, Nat.mod_one, show decide ((0 : Nat) ≠ 0) = false by decide, od_f]
    | succ i =>
      have e : 2 ^ (i + 1) = 2 * 2 ^ i := Nat.pow_succ'
      have p := Nat.two_pow_pos i
      have md : x % 2 ^ (i + 1) % 2 = x % 2 := Nat.mod_mod_of_dvd _ ⟨2 ^ i, e⟩
      have r0 : x % 2 ^ (i + 1) < 2 ^ (i + 1) := Nat.mod_lt _ (by omega)
      have dm := Nat.div_add_mod x (2 ^ (i + 1))
      by_cases f : x % 2 = 0
      · have o : od x true = x + 1 := if_pos ⟨rfl, f⟩
        have dv : (x + 1) / 2 ^ (i + 1) = x / 2 ^ (i + 1) ∧ (x + 1) % 2 ^ (i + 1) = x % 2 ^ (i + 1) + 1 := (Nat.div_mod_unique (by omega)).mpr ⟨by omega, by omega⟩
        rw [o, dv.1, dv.2, decide_eq_true (show x % 2 ^ (i + 1) + 1 ≠ 0 by omega)]
      · have o : od x true = x := if_neg (fun z => f z.2)
        rw [o, decide_eq_true (show x % 2 ^ (i + 1) ≠ 0 by omega)]
theorem js_lp (H : pm_H) (x0 : Int32) (x1 x2 : Nat) (x4 : Int32) (x5 x7 : Int64) {d : Int} (hd : d ≤ 100000) : ∀ (n c : Nat) (k : Int), k + n = d → 0 ≤ k → c ≠ 0 → c < 9007199254740992 → pm_lim (sX16_sumOf H) (.inr (.inr (.inl (x0, x1, x2, Int32.ofInt d, x4, x5, x7, Int64.ofNat c, Int32.ofInt k)))) = pm_lim (sX16_sumOf H) (.inr (.inr (.inr (.inl (x0, x1, x2, x4, x5, x7, Int64.ofNat (od (c / 2 ^ n) (decide (c % 2 ^ n ≠ 0)))))))) := by
  intro n
  induction n with
  | zero =>
    intro c k hk k0 c0 hc
    rw [Nat.pow_zero, Nat.div_one, Nat.mod_one, show decide ((0 : Nat) ≠ 0) = false by decide, od_f]
    rw [ev_lm]; simp (disch := omega) only [aX16_sumOf_2, tX16_sumOf_92, zz_le, ↓reduceIte, jr_kl, jr_kr, ↓jr_let, jr_bs, and_true, true_and, and_false, false_and, or_true, true_or, or_false, false_or, not_true_eq_false, not_false_eq_true, b_let, b_lef, b_ltt, b_ltf, b_eqt, b_eqf, bz_let, bz_lef, bz_ltt, bz_ltf, bz_eqt, bz_eqf, Nat.reducePow, Nat.reduceMul, Nat.reduceAdd, Nat.reduceSub, Nat.reduceMod, Nat.reduceDiv, Int.reduceAdd, Int.reduceSub, Int.reduceMul, Int.reduceNeg, Int.reduceToNat, Int.toNat_natCast]
  | succ n ih =>
    intro c k hk k0 c0 hc
    have l1 : ¬ Int32.ofInt d ≤ Int32.ofInt k := by rw [zz_le (by omega) (by omega) (by omega) (by omega)]; omega
    have cl : (Int64.ofNat c ≤ 1) = (c ≤ 1) := by rw [n6_1, ll_le (by omega) (by decide)]
    by_cases c1 : c ≤ 1
    · have e : c = 1 := by omega
      have w : 1 * 2 ≤ 2 ^ (n + 1) := by rw [Nat.pow_succ]; exact Nat.mul_le_mul_right _ (Nat.two_pow_pos n)
      rw [e, Nat.div_eq_of_lt (by omega), Nat.mod_eq_of_lt (by omega), show od 0 (decide ((1 : Nat) ≠ 0)) = 1 by decide]
      rw [e] at cl
      rw [ev_lm, aX16_sumOf_2]
      unfold tX16_sumOf_92
      rw [if_neg l1, if_pos (by rw [cl]; decide), jr_kl]
    · have o1 : od (c / 2) (decide (c % 2 ≠ 0)) ≠ 0 ∧ od (c / 2) (decide (c % 2 ≠ 0)) < 9007199254740992 := by
        unfold od
        split <;> omega
      have i := ih (od (c / 2) (decide (c % 2 ≠ 0))) (k + 1) (by omega) (by omega) o1.1 o1.2
      rw [od_it] at i
      rw [← i, ev_lm, aX16_sumOf_2]
      unfold tX16_sumOf_92
      rw [if_neg l1, if_neg (by rw [cl]; exact c1), jr_let, jr_let, jr_kl, show (1 : Int32).toInt64 = Int64.ofNat 1 from rfl, show (63 : Int64) = Int64.ofNat 63 from rfl, jl_u63 (by decide), jl_us (by omega) (by decide), Nat.pow_one, show (1 : Int64) = Int64.ofNat 1 from rfl, ll_m1, jo_1 (by omega), m3_1, zz_ad]
theorem js2_fin {H : pm_H} {P Q : Nat} (kP : pm_kd H P = 15) (kQ : pm_kd H Q = 15) {gA gB : Bool} (iA : pm_I H P 0 = bI gA) (iB : pm_I H Q 0 = bI gB) {V c : Nat} {E : Int} (V0 : V ≠ 0) (hV : V < 340282366920938463444927863358058659840) (c0 : c ≠ 0) (hc : c < 18446744073709551616) (e1 : -9999 ≤ E) (e2 : E ≤ 9999) : pm_lim (sX16_sumOf H) (.inr (.inr (.inr (.inl (2, P, Q, Int32.ofInt E, Int64.ofNat (V / 18446744073709551616), Int64.ofNat V, Int64.ofNat c))))) = some (Int64.ofNat (fg 31 24 (-149) 255 gA V gB c E)) := by
  have wl := jl_wrap V
  have ws := jl_wrap (V + c)
  have be1 := jm_below (a := (V + c) % 18446744073709551616) (b := V % 18446744073709551616) (by omega) (by omega)
  have be2 := jm_below (a := V % 18446744073709551616) (b := c) (by omega) hc
  rw [← jl_wrap, ← jl_wrap] at be1
  rw [← jl_wrap] at be2
  have h0 : (Int64.ofNat (V / 18446744073709551616) = 0) = (V / 18446744073709551616 = 0) := by rw [n6_0, jl_eq (by omega) (by decide)]
  have lc : (Int64.ofNat V = Int64.ofNat c) = (V % 18446744073709551616 = c) := by rw [wl, jl_eq (by omega) hc]
  have b0 : (0 : Int32) = bI false := rfl
  rw [ev_lm, aX16_sumOf_3]
  unfold tX16_sumOf_122 fg
  rw [if_pos kP, if_pos kQ, iA, iB]
  by_cases c1 : gA = gB
  · rw [if_pos c1, if_pos (by rw [c1]), jr_let, jr_let, ll_ad, be1]
    by_cases c2 : (V + c) % 18446744073709551616 < V % 18446744073709551616
    · have R := mr2 gA false (hi := V / 18446744073709551616 + 1) (lo := (V + c) % 18446744073709551616) (M := V + c) (E := E) (by omega) (by omega) (by omega) (by omega) e1 e2
      rw [← jl_wrap, ← b0] at R
      rw [if_neg (by rw [bI_0]; simp [c2]), n6_1, ll_ad, R]
      rfl
    · have R := mr2 gA false (hi := V / 18446744073709551616) (lo := (V + c) % 18446744073709551616) (M := V + c) (E := E) (by omega) (by omega) (by omega) (by omega) e1 e2
      rw [← jl_wrap, ← b0] at R
      rw [if_pos (by rw [bI_0]; simp [c2]), R]
      rfl
  · have nb : ¬ bI gA = bI gB := by
      rw [bN_ne]
      revert c1
      cases gA <;> cases gB <;> simp
    rw [if_neg nb, if_neg c1]
    by_cases z : V = c
    · have z1 : V / 18446744073709551616 = 0 := by omega
      rw [if_pos z, if_pos (by rw [h0]; exact z1), if_pos (by rw [lc]; omega), jr_kr]
      rfl
    rw [if_neg z]
    have s1 : ev_k (sX16_sumOf H) (if Int64.ofNat (V / 18446744073709551616) = 0 then (if Int64.ofNat V = Int64.ofNat c then (some (.inr (0))) else (some (.inl (.inr (.inr (.inr (.inr ((2, P, Q, Int32.ofInt E, Int64.ofNat (V / 18446744073709551616), Int64.ofNat V, Int64.ofNat c))))))))) else (some (.inl (.inr (.inr (.inr (.inr ((2, P, Q, Int32.ofInt E, Int64.ofNat (V / 18446744073709551616), Int64.ofNat V, Int64.ofNat c))))))))) = pm_lim (sX16_sumOf H) (.inr (.inr (.inr (.inr (2, P, Q, Int32.ofInt E, Int64.ofNat (V / 18446744073709551616), Int64.ofNat V, Int64.ofNat c))))) := by
      by_cases z1 : V / 18446744073709551616 = 0
      · rw [if_pos (by rw [h0]; exact z1), if_neg (by rw [lc]; omega), jr_kl]
      · rw [if_neg (by rw [h0]; exact z1), jr_kl]
    rw [s1, ev_lm, aX16_sumOf_4]
    unfold tX16_sumOf_190
    rw [be2]
    have sl : Int64.ofNat V - Int64.ofNat c = Int64.ofNat (V % 18446744073709551616 + 18446744073709551616 - c) := by
      have : Int64.ofNat V = Int64.ofNat (V % 18446744073709551616 + 18446744073709551616) := by
        rw [jl_wrap V, jl_wrap (V % 18446744073709551616 + 18446744073709551616), show (V % 18446744073709551616 + 18446744073709551616) % 18446744073709551616 = V % 18446744073709551616 by omega]
      rw [this, ll_sb (by omega)]
    by_cases z1 : V / 18446744073709551616 = 0
    · by_cases z2 : V < c
      · have R := mr2 gB false (hi := 0) (lo := c - V) (M := c - V) (E := E) (by decide) (by omega) (by rw [Nat.zero_mul, Nat.zero_add]) (by omega) e1 e2
        rw [← b0, show Int64.ofNat 0 = 0 from rfl] at R
        rw [if_neg (show ¬ c < V by omega), if_pos (by rw [h0]; exact z1), jr_let, if_neg (by rw [bI_0]; simp; omega), if_pos kQ, iB, ll_sb (by omega), R]
        rfl
      · have R := mr2 gA false (hi := 0) (lo := V - c) (M := V - c) (E := E) (by decide) (by omega) (by rw [Nat.zero_mul, Nat.zero_add]) (by omega) e1 e2
        rw [← b0, show Int64.ofNat 0 = 0 from rfl] at R
        rw [if_pos (show c < V by omega), if_pos (by rw [h0]; exact z1), jr_let, if_pos (by rw [bI_0]; simp; omega), if_pos kP, jr_let, if_pos (by rw [bI_0]; simp; omega), iA, z1, ll_sb (by omega), show Int64.ofNat 0 = 0 from rfl, R]
        rfl
    · rw [if_pos (show c < V by omega), if_neg (by rw [h0]; exact z1), if_pos kP, jr_let]
      by_cases z2 : V % 18446744073709551616 < c
      · have R := mr2 gA false (hi := V / 18446744073709551616 - 1) (lo := V % 18446744073709551616 + 18446744073709551616 - c) (M := V - c) (E := E) (by omega) (by omega) (by omega) (by omega) e1 e2
        rw [← b0] at R
        rw [if_neg (by rw [bI_0]; simp; omega), iA, sl, n6_1, ll_sb (by omega), R]
        rfl
      · have R := mr2 gA false (hi := V / 18446744073709551616) (lo := V % 18446744073709551616 - c) (M := V - c) (E := E) (by omega) (by omega) (by omega) (by omega) e1 e2
        rw [← b0] at R
        rw [if_pos (by rw [bI_0]; simp; omega), iA, wl, ll_sb (by omega), R]
        rfl
theorem js3_fin {H : pm_H} {P Q : Nat} (kP : pm_kd H P = 15) (kQ : pm_kd H Q = 15) {gA gB : Bool} (iA : pm_I H P 0 = bI gA) (iB : pm_I H Q 0 = bI gB) {V c : Nat} {E : Int} (V0 : V ≠ 0) (hV : V < 340282366920938463444927863358058659840) (c0 : c ≠ 0) (hc : c < 18446744073709551616) (e1 : -9999 ≤ E) (e2 : E ≤ 9999) : pm_lim (sX16_sumOf H) (.inr (.inr (.inr (.inl (3, P, Q, Int32.ofInt E, Int64.ofNat (V / 18446744073709551616), Int64.ofNat V, Int64.ofNat c))))) = some (Int64.ofNat (fg 63 53 (-1074) 2047 gA V gB c E)) := by
  have wl := jl_wrap V
  have ws := jl_wrap (V + c)
  have be1 := jm_below (a := (V + c) % 18446744073709551616) (b := V % 18446744073709551616) (by omega) (by omega)
  have be2 := jm_below (a := V % 18446744073709551616) (b := c) (by omega) hc
  rw [← jl_wrap, ← jl_wrap] at be1
  rw [← jl_wrap] at be2
  have h0 : (Int64.ofNat (V / 18446744073709551616) = 0) = (V / 18446744073709551616 = 0) := by rw [n6_0, jl_eq (by omega) (by decide)]
  have lc : (Int64.ofNat V = Int64.ofNat c) = (V % 18446744073709551616 = c) := by rw [wl, jl_eq (by omega) hc]
  have b0 : (0 : Int32) = bI false := rfl
  rw [ev_lm, aX16_sumOf_3]
  unfold tX16_sumOf_122 fg
  rw [if_pos kP, if_pos kQ, iA, iB]
  by_cases c1 : gA = gB
  · rw [if_pos c1, if_pos (by rw [c1]), jr_let, jr_let, ll_ad, be1]
    by_cases c2 : (V + c) % 18446744073709551616 < V % 18446744073709551616
    · have R := mr3 gA false (hi := V / 18446744073709551616 + 1) (lo := (V + c) % 18446744073709551616) (M := V + c) (E := E) (by omega) (by omega) (by omega) (by omega) e1 e2
      rw [← jl_wrap, ← b0] at R
      rw [if_neg (by rw [bI_0]; simp [c2]), n6_1, ll_ad, R]
      rfl
    · have R := mr3 gA false (hi := V / 18446744073709551616) (lo := (V + c) % 18446744073709551616) (M := V + c) (E := E) (by omega) (by omega) (by omega) (by omega) e1 e2
      rw [← jl_wrap, ← b0] at R
      rw [if_pos (by rw [bI_0]; simp [c2]), R]
      rfl
  · have nb : ¬ bI gA = bI gB := by
      rw [bN_ne]
      revert c1
      cases gA <;> cases gB <;> simp
    rw [if_neg nb, if_neg c1]
    by_cases z : V = c
    · have z1 : V / 18446744073709551616 = 0 := by omega
      rw [if_pos z, if_pos (by rw [h0]; exact z1), if_pos (by rw [lc]; omega), jr_kr]
      rfl
    rw [if_neg z]
    have s1 : ev_k (sX16_sumOf H) (if Int64.ofNat (V / 18446744073709551616) = 0 then (if Int64.ofNat V = Int64.ofNat c then (some (.inr (0))) else (some (.inl (.inr (.inr (.inr (.inr ((3, P, Q, Int32.ofInt E, Int64.ofNat (V / 18446744073709551616), Int64.ofNat V, Int64.ofNat c))))))))) else (some (.inl (.inr (.inr (.inr (.inr ((3, P, Q, Int32.ofInt E, Int64.ofNat (V / 18446744073709551616), Int64.ofNat V, Int64.ofNat c))))))))) = pm_lim (sX16_sumOf H) (.inr (.inr (.inr (.inr (3, P, Q, Int32.ofInt E, Int64.ofNat (V / 18446744073709551616), Int64.ofNat V, Int64.ofNat c))))) := by
      by_cases z1 : V / 18446744073709551616 = 0
      · rw [if_pos (by rw [h0]; exact z1), if_neg (by rw [lc]; omega), jr_kl]
      · rw [if_neg (by rw [h0]; exact z1), jr_kl]
    rw [s1, ev_lm, aX16_sumOf_4]
    unfold tX16_sumOf_190
    rw [be2]
    have sl : Int64.ofNat V - Int64.ofNat c = Int64.ofNat (V % 18446744073709551616 + 18446744073709551616 - c) := by
      have : Int64.ofNat V = Int64.ofNat (V % 18446744073709551616 + 18446744073709551616) := by
        rw [jl_wrap V, jl_wrap (V % 18446744073709551616 + 18446744073709551616), show (V % 18446744073709551616 + 18446744073709551616) % 18446744073709551616 = V % 18446744073709551616 by omega]
      rw [this, ll_sb (by omega)]
    by_cases z1 : V / 18446744073709551616 = 0
    · by_cases z2 : V < c
      · have R := mr3 gB false (hi := 0) (lo := c - V) (M := c - V) (E := E) (by decide) (by omega) (by rw [Nat.zero_mul, Nat.zero_add]) (by omega) e1 e2
        rw [← b0, show Int64.ofNat 0 = 0 from rfl] at R
        rw [if_neg (show ¬ c < V by omega), if_pos (by rw [h0]; exact z1), jr_let, if_neg (by rw [bI_0]; simp; omega), if_pos kQ, iB, ll_sb (by omega), R]
        rfl
      · have R := mr3 gA false (hi := 0) (lo := V - c) (M := V - c) (E := E) (by decide) (by omega) (by rw [Nat.zero_mul, Nat.zero_add]) (by omega) e1 e2
        rw [← b0, show Int64.ofNat 0 = 0 from rfl] at R
        rw [if_pos (show c < V by omega), if_pos (by rw [h0]; exact z1), jr_let, if_pos (by rw [bI_0]; simp; omega), if_pos kP, jr_let, if_pos (by rw [bI_0]; simp; omega), iA, z1, ll_sb (by omega), show Int64.ofNat 0 = 0 from rfl, R]
        rfl
    · rw [if_pos (show c < V by omega), if_neg (by rw [h0]; exact z1), if_pos kP, jr_let]
      by_cases z2 : V % 18446744073709551616 < c
      · have R := mr3 gA false (hi := V / 18446744073709551616 - 1) (lo := V % 18446744073709551616 + 18446744073709551616 - c) (M := V - c) (E := E) (by omega) (by omega) (by omega) (by omega) e1 e2
        rw [← b0] at R
        rw [if_neg (by rw [bI_0]; simp; omega), iA, sl, n6_1, ll_sb (by omega), R]
        rfl
      · have R := mr3 gA false (hi := V / 18446744073709551616) (lo := V % 18446744073709551616 - c) (M := V - c) (E := E) (by omega) (by omega) (by omega) (by omega) e1 e2
        rw [← b0] at R
        rw [if_pos (by rw [bI_0]; simp; omega), iA, wl, ll_sb (by omega), R]
        rfl
