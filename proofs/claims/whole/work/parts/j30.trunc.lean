/-! NUMBERS: floating values towards 0, the whole way -/
def tH (H : pm_H) (be kp : Bool) : pm_H := if be = true ∧ kp = false then pm_setI H 592 33 2 else H
theorem mtr_41 {H : pm_H} (O : mO H) {b : Nat} (hb : b = 32 ∨ b = 64) (s kp g be : Bool) (i0 : pm_I H 605 0 = bI g) {m : Nat} (hm : m < 18446744073709551616) : fX16_towards_b241 H 592 (Int32.ofInt b) (bI s) (bI kp) (Int64.ofNat m) ((1 : Int64) <<< ((Int32.ofInt (b : Int) - 1).toInt64 &&& 63)) (bI be) = some (Int64.ofNat (vl b g (if be = true then lm b s g else m)), tH H be kp) := by
  unfold fX16_towards_b241 tH
  have e := mtr_58 O hb s g be i0 hm
  have i1 : pm_I (pm_setI H 592 33 2) 605 0 = bI g := by rw [ev_II, if_neg (by decide)]; exact i0
  have O2 : mO (pm_setI H 592 33 2) := O
  have e2 := mtr_58 O2 hb s g be i1 hm
  cases be with
  | false => rw [if_pos bI_f, e, if_neg (show ¬ (false = true ∧ kp = false) by simp)]
  | true =>
    rw [if_neg bI_t]
    cases kp with
    | false =>
      have t : fX16_traps H 592 2 = some (pm_setI H 592 33 2) := by unfold fX16_traps; rw [if_pos O.1]
      rw [if_pos bI_f, if_pos O.1, t, jr_bs, e2, if_pos (show (true = true ∧ false = false) by simp)]
    | true => rw [if_neg bI_t, e, if_neg (show ¬ (true = true ∧ true = false) by simp)]
theorem mtr_48 {H : pm_H} (O : mO H) {b : Nat} (hb : b = 32 ∨ b = 64) (s kp g far : Bool) (i0 : pm_I H 605 0 = bI g) {m : Nat} (hm : m < 18446744073709551616) : fX16_towards_b148 H 592 (Int32.ofInt b) (bI s) (bI kp) (bI far) (Int64.ofNat m) = some (Int64.ofNat (vl b g (if (far || decide (lm b s g < m)) = true then lm b s g else m)), tH H (far || decide (lm b s g < m)) kp) := by
  have E0 := mtr_41 O hb s kp g false i0 hm
  have E1 := mtr_41 O hb s kp g true i0 hm
  rw [show bI false = 0 from rfl] at E0
  rw [show bI true = 1 from rfl] at E1
  unfold fX16_towards_b148 fX16_towards_b240 fX16_towards_b236
  simp only [jr_let, E0, E1, O.1, O.2.1, O.2.2.2.1, jr_bs, i0, if_true]
  cases far with
  | true =>
    rw [if_neg bI_t, Bool.true_or]
    rfl
  | false =>
    rw [if_pos bI_f, Bool.false_or]
    have z : (Int64.ofNat m = 0) = (m = 0) := by rw [n6_0, jl_eq hm (by decide)]
    have tp : (1 : Int64) <<< ((Int32.ofInt (b : Int) - 1).toInt64 &&& 63) = Int64.ofNat (2 ^ (b - 1)) := by
      rcases hb with rfl | rfl <;> decide +kernel
    have tb : 2 ^ (b - 1) < 18446744073709551616 := by rcases hb with rfl | rfl <;> decide
    have u32 : ((Int64.ofNat m).toUInt64 >>> ((32 : Int32).toInt64.toUInt64 &&& Int64.toUInt64 63)).toInt64 = Int64.ofNat (m / 2 ^ 32) := by
      rw [show ((32 : Int32).toInt64.toUInt64 &&& Int64.toUInt64 63) = (Int64.ofNat 32).toUInt64 by decide, jl_us hm (by decide)]
    have z32 : (Int64.ofNat (m / 2 ^ 32) = 0) = (m / 2 ^ 32 = 0) := by rw [n6_0, jl_eq (by omega) (by decide)]
    rw [tp, u32]
    simp only [z, z32, jm_below hm tb, jm_below tb hm, bI_0, decide_eq_false_iff_not]
    cases g with
    | false =>
      rw [if_pos b_ff]
      cases s with
      | false =>
        rw [if_pos b_ff]
        rcases hb with rfl | rfl
        · rw [if_pos (show Int32.ofInt ((32 : Nat) : Int) = 32 from rfl)]
          by_cases c : m / 2 ^ 32 = 0
          · rw [if_pos c, decide_eq_false (show ¬ lm 32 false false < m by simp only [lm]; simp; omega)]
          · rw [if_neg c, decide_eq_true (show lm 32 false false < m by simp only [lm]; simp; omega), if_pos b_tt]
        · rw [if_neg (by decide), decide_eq_false (show ¬ lm 64 false false < m by simp only [lm]; simp; omega)]
      | true =>
        have e : lm b true false = 2 ^ (b - 1) - 1 := rfl
        have p := Nat.two_pow_pos (b - 1)
        rw [if_neg b_tf, e]
        by_cases c : m < 2 ^ (b - 1)
        · rw [if_neg (by simp; omega), decide_eq_false (show ¬ 2 ^ (b - 1) - 1 < m by omega)]
        · rw [if_pos (by simp; omega), decide_eq_true (show 2 ^ (b - 1) - 1 < m by omega), if_pos b_tt]
    | true =>
      rw [if_neg b_tf]
      cases s with
      | false =>
        have e : lm b false true = 0 := rfl
        rw [if_pos b_ff, e]
        by_cases c : m = 0
        · rw [if_pos c, decide_eq_false (show ¬ 0 < m by omega)]
        · rw [if_neg c, decide_eq_true (show 0 < m by omega), if_pos b_tt]
      | true =>
        have e : lm b true true = 2 ^ (b - 1) := rfl
        rw [if_neg b_tf, e]
        by_cases c : 2 ^ (b - 1) < m
        · rw [if_neg (by simp; omega), decide_eq_true c, if_pos b_tt]
        · rw [if_pos (by simp; omega), decide_eq_false c]
theorem mtr2_91 {H : pm_H} (O : mO H) {b : Nat} (hb : b = 32 ∨ b = 64) (s kp : Bool) {X : Nat} (hX : X < 4294967296) (i0 : pm_I H 605 0 = bI (ng2 X)) (i1 : pm_I H 605 1 = Int32.ofInt (so2 X)) (i2 : pm_L H 605 2 = Int64.ofNat (wh2 X)) : fX16_towards_b91 H 592 (Int32.ofInt b) (bI s) (bI kp) (Int32.ofInt (pw2 X)) (bI (fa2 X)) = some (Int64.ofNat (tv2 b s X), tH H (be2 b s X) kp) := by
  have cX := so2_c X
  have w := wh2_lt X
  have pb := pw2_b X
  have s0 : (Int32.ofInt (so2 X : Int) = (0 : Int32)) = (so2 X = 0) := so2_i _ 0 (by omega) (by decide)
  have E := fun (far : Bool) (m : Nat) (hm : m < 18446744073709551616) => mtr_48 O hb s kp (ng2 X) far i0 hm
  have Z : (Int64.ofNat 0) = 0 := rfl
  have E0 := E (fa2 X) 0 (by decide)
  rw [Z] at E0
  have tz : ∀ m : Nat, (fa2 X = true ∨ m = tM2 X) → some (Int64.ofNat (vl b (ng2 X) (if (fa2 X || decide (lm b s (ng2 X) < m)) = true then lm b s (ng2 X) else m)), tH H (fa2 X || decide (lm b s (ng2 X) < m)) kp) = some (Int64.ofNat (tv2 b s X), tH H (be2 b s X) kp) := by
    intro m hm
    unfold tv2 be2 vl
    rcases hm with q | q
    · rw [q, Bool.true_or, Bool.true_or, if_pos b_tt, if_pos b_tt]
    · rw [q]
  unfold fX16_towards_b91 fX16_towards_b115
  simp only [O.1, O.2.1, O.2.2.2.1, jr_bs, if_true, i1, i2, s0, E0]
  by_cases c1 : so2 X = 0
  · rw [if_pos c1]
    by_cases c2 : fa2 X = true
    · rw [if_neg (by rw [c2]; decide), tz 0 (.inl c2)]
    · have c2' : fa2 X = false := Bool.eq_false_iff.mpr c2
      have nf : ¬ 11 < sE2 X := by rw [← fa2_e c1]; exact c2
      have tb := (tM2_s hX c1 nf).1
      have l1 : nl (wh2 X) ≤ 53 := nl_le (by omega)
      have l0 := (nl_ge (wh2_0 (X := X) (by omega))).1
      rw [if_pos (by rw [c2']; rfl)]
      have p64 : pw2 X ≤ 63 := by
        unfold fa2 at c2
        rw [decide_eq_true_eq] at c2
        omega
      by_cases c3 : -63 ≤ pw2 X
      · rw [if_pos (by rw [show (-63 : Int32) = Int32.ofInt (-63) by decide, zz_le (by omega) (by omega) (by omega) (by omega)]; exact c3)]
        by_cases c4 : 0 ≤ pw2 X
        · have e : tM2 X = wh2 X * 2 ^ (pw2 X).toNat := by unfold tM2; rw [if_neg (by omega), if_pos c4]
          have F := E (fa2 X) (tM2 X) tb
          rw [if_pos (by rw [m3_0, zz_le (by omega) (by omega) (by omega) (by omega)]; exact c4), zz_tn c4 (by omega), n6_63, jl_63 (by omega), ll_sl _ (by omega), ← e, F, tz _ (.inr rfl)]
        · have e : tM2 X = wh2 X / 2 ^ (-pw2 X).toNat := by unfold tM2; rw [if_neg (by omega), if_neg c4]
          have F := E (fa2 X) (tM2 X) tb
          rw [if_neg (by rw [m3_0, zz_le (by omega) (by omega) (by omega) (by omega)]; exact c4), zz_ng, zz_tn (by omega) (by omega), n6_63, jl_u63 (by omega), jl_us (by omega) (by omega), ← e, F, tz _ (.inr rfl)]
      · have e : tM2 X = 0 := by
          unfold tM2
          rw [if_neg (by omega), if_neg (by omega), Nat.div_eq_of_lt]
          have : 2 ^ 64 ≤ 2 ^ (-pw2 X).toNat := Nat.pow_le_pow_right (by decide) (by omega)
          omega
        rw [if_neg (by rw [show (-63 : Int32) = Int32.ofInt (-63) by decide, zz_le (by omega) (by omega) (by omega) (by omega)]; exact c3), tz 0 (.inr e.symm)]
  · have e : tM2 X = 0 := by unfold tM2; rw [if_pos c1]
    rw [if_neg c1, tz 0 (.inr e.symm)]
def tw2 (h : pm_H) (b : Nat) (s kp : Bool) (X : Nat) : Option (Int64 × pm_H) := if so2 X = 3 then (if kp = true then some (0, h) else some (0, pm_setI h 592 33 3)) else some (Int64.ofNat (tv2 b s X), tH h (be2 b s X) kp)
theorem mtw2 {h : pm_H} (O : mO h) {b : Nat} (hb : b = 32 ∨ b = 64) (s kp : Bool) {X : Nat} (hX : X < 4294967296) : fX16_towards h 592 2 (Int64.ofNat X) (Int32.ofInt b) (bI s) (bI kp) = tw2 (rv h 605 (ng2 X) (so2 X) (wh2 X) (pw2 X)) b s kp X := by
  have O1 := rv_O 605 (ng2 X) (so2 X) (wh2 X) (pw2 X) O
  have e1 := mf2 (h := h) (a := 605) O.2.2.2.1 hX
  have i0 := rv_I0 h 605 (ng2 X) (so2 X) (wh2 X) (pw2 X)
  have i1 := rv_I1 h 605 (ng2 X) (so2 X) (wh2 X) (pw2 X)
  have i2 := rv_L2 h 605 (ng2 X) (so2 X) (wh2 X) (pw2 X)
  have i3 := rv_I3 h 605 (ng2 X) (so2 X) (wh2 X) (pw2 X)
  have cX := so2_c X
  have w := wh2_lt X
  have pb := pw2_b X
  have l1 : nl (wh2 X) ≤ 53 := nl_le (by omega)
  have s3 : ∀ s : Nat, s ≤ 3 → (Int32.ofInt (s : Int) = (3 : Int32)) = (s = 3) := fun s hs => so2_i s 3 hs (by decide)
  have s2 : ∀ s : Nat, s ≤ 3 → (Int32.ofInt (s : Int) = (2 : Int32)) = (s = 2) := fun s hs => so2_i s 2 hs (by decide)
  have s0 : ∀ s : Nat, s ≤ 3 → (Int32.ofInt (s : Int) = (0 : Int32)) = (s = 0) := fun s hs => so2_i s 0 hs (by decide)
  unfold fX16_towards tw2
  rw [if_pos O.1, O.2.1, jr_bs, if_pos O.2.2.2.1, e1, jr_bs]
  generalize rv h 605 (ng2 X) (so2 X) (wh2 X) (pw2 X) = H at *
  rw [if_pos O1.1, O1.2.1, jr_bs, if_pos O1.2.2.2.1]
  have M := mtr2_91 O1 hb s kp hX i0 i1 i2
  have tr : fX16_traps H 592 3 = some (pm_setI H 592 33 3) := by unfold fX16_traps; rw [if_pos O1.1]
  have len := jm_length (hi := 0) (lo := wh2 X) (by decide) (by omega)
  rw [Nat.zero_mul, Nat.zero_add, show Int64.ofNat 0 = 0 from rfl] at len
  unfold fX16_towards_b90 fX16_towards_b86
  simp only [i1, i2, i3, s3 (so2 X) (by omega), s2 (so2 X) (by omega), s0 (so2 X) (by omega), jr_let, tr, jr_bs, len, bI_0]
  by_cases c1 : so2 X = 3
  · rw [if_pos c1, if_pos c1]
    cases kp with
    | false => rw [if_pos b_ff, if_neg b_ft]
    | true => rw [if_neg b_tf, if_pos b_tt]
  rw [if_neg c1, if_neg c1]
  have f0 : fa2 X = false → bI (fa2 X) = 0 := fun q => by rw [q]; rfl
  have f1 : fa2 X = true → bI (fa2 X) = 1 := fun q => by rw [q]; rfl
  by_cases c2 : so2 X = 2
  · rw [f1 (by unfold fa2; rw [decide_eq_true_eq]; exact .inl c2)] at M
    rw [if_pos c2, M]
  rw [if_neg c2]
  by_cases c3 : so2 X = 0
  · rw [if_pos c3]
    by_cases c4 : pw2 X ≤ 0
    · rw [f0 (by unfold fa2; rw [decide_eq_false_iff_not]; omega)] at M
      rw [if_pos (by rw [m3_0, zz_le (by omega) (by omega) (by omega) (by omega)]; exact c4), M]
    · rw [if_neg (by rw [m3_0, zz_le (by omega) (by omega) (by omega) (by omega)]; exact c4), zz_ad]
      by_cases c5 : (nl (wh2 X) : Int) + pw2 X ≤ 64
      · rw [f0 (by unfold fa2; rw [decide_eq_false_iff_not]; omega)] at M
        rw [if_pos (by rw [m3_64, zz_le (by omega) (by omega) (by omega) (by omega)]; exact c5), M]
      · rw [f1 (by unfold fa2; rw [decide_eq_true_eq]; exact .inr ⟨c3, by omega, by omega⟩)] at M
        rw [if_neg (by rw [m3_64, zz_le (by omega) (by omega) (by omega) (by omega)]; exact c5), M]
  · rw [f0 (by unfold fa2; rw [decide_eq_false_iff_not]; omega)] at M
    rw [if_neg c3, M]
theorem mtr3_91 {H : pm_H} (O : mO H) {b : Nat} (hb : b = 32 ∨ b = 64) (s kp : Bool) {X : Nat} (hX : X < 18446744073709551616) (i0 : pm_I H 605 0 = bI (ng3 X)) (i1 : pm_I H 605 1 = Int32.ofInt (so3 X)) (i2 : pm_L H 605 2 = Int64.ofNat (wh3 X)) : fX16_towards_b91 H 592 (Int32.ofInt b) (bI s) (bI kp) (Int32.ofInt (pw3 X)) (bI (fa3 X)) = some (Int64.ofNat (tv3 b s X), tH H (be3 b s X) kp) := by
  have cX := so3_c X
  have w := wh3_lt X
  have pb := pw3_b X
  have s0 : (Int32.ofInt (so3 X : Int) = (0 : Int32)) = (so3 X = 0) := so3_i _ 0 (by omega) (by decide)
  have E := fun (far : Bool) (m : Nat) (hm : m < 18446744073709551616) => mtr_48 O hb s kp (ng3 X) far i0 hm
  have Z : (Int64.ofNat 0) = 0 := rfl
  have E0 := E (fa3 X) 0 (by decide)
  rw [Z] at E0
  have tz : ∀ m : Nat, (fa3 X = true ∨ m = tM3 X) → some (Int64.ofNat (vl b (ng3 X) (if (fa3 X || decide (lm b s (ng3 X) < m)) = true then lm b s (ng3 X) else m)), tH H (fa3 X || decide (lm b s (ng3 X) < m)) kp) = some (Int64.ofNat (tv3 b s X), tH H (be3 b s X) kp) := by
    intro m hm
    unfold tv3 be3 vl
    rcases hm with q | q
    · rw [q, Bool.true_or, Bool.true_or, if_pos b_tt, if_pos b_tt]
    · rw [q]
  unfold fX16_towards_b91 fX16_towards_b115
  simp only [O.1, O.2.1, O.2.2.2.1, jr_bs, if_true, i1, i2, s0, E0]
  by_cases c1 : so3 X = 0
  · rw [if_pos c1]
    by_cases c2 : fa3 X = true
    · rw [if_neg (by rw [c2]; decide), tz 0 (.inl c2)]
    · have c2' : fa3 X = false := Bool.eq_false_iff.mpr c2
      have nf : ¬ 11 < sE3 X := by rw [← fa3_e c1]; exact c2
      have tb := (tM3_s hX c1 nf).1
      have l1 : nl (wh3 X) ≤ 53 := nl_le (by omega)
      have l0 := (nl_ge (wh3_0 (X := X) (by omega))).1
      rw [if_pos (by rw [c2']; rfl)]
      have p64 : pw3 X ≤ 63 := by
        unfold fa3 at c2
        rw [decide_eq_true_eq] at c2
        omega
      by_cases c3 : -63 ≤ pw3 X
      · rw [if_pos (by rw [show (-63 : Int32) = Int32.ofInt (-63) by decide, zz_le (by omega) (by omega) (by omega) (by omega)]; exact c3)]
        by_cases c4 : 0 ≤ pw3 X
        · have e : tM3 X = wh3 X * 2 ^ (pw3 X).toNat := by unfold tM3; rw [if_neg (by omega), if_pos c4]
          have F := E (fa3 X) (tM3 X) tb
          rw [if_pos (by rw [m3_0, zz_le (by omega) (by omega) (by omega) (by omega)]; exact c4), zz_tn c4 (by omega), n6_63, jl_63 (by omega), ll_sl _ (by omega), ← e, F, tz _ (.inr rfl)]
        · have e : tM3 X = wh3 X / 2 ^ (-pw3 X).toNat := by unfold tM3; rw [if_neg (by omega), if_neg c4]
          have F := E (fa3 X) (tM3 X) tb
          rw [if_neg (by rw [m3_0, zz_le (by omega) (by omega) (by omega) (by omega)]; exact c4), zz_ng, zz_tn (by omega) (by omega), n6_63, jl_u63 (by omega), jl_us (by omega) (by omega), ← e, F, tz _ (.inr rfl)]
      · have e : tM3 X = 0 := by
          unfold tM3
          rw [if_neg (by omega), if_neg (by omega), Nat.div_eq_of_lt]
          have : 2 ^ 64 ≤ 2 ^ (-pw3 X).toNat := Nat.pow_le_pow_right (by decide) (by omega)
          omega
        rw [if_neg (by rw [show (-63 : Int32) = Int32.ofInt (-63) by decide, zz_le (by omega) (by omega) (by omega) (by omega)]; exact c3), tz 0 (.inr e.symm)]
  · have e : tM3 X = 0 := by unfold tM3; rw [if_pos c1]
    rw [if_neg c1, tz 0 (.inr e.symm)]
def tw3 (h : pm_H) (b : Nat) (s kp : Bool) (X : Nat) : Option (Int64 × pm_H) := if so3 X = 3 then (if kp = true then some (0, h) else some (0, pm_setI h 592 33 3)) else some (Int64.ofNat (tv3 b s X), tH h (be3 b s X) kp)
theorem mtw3 {h : pm_H} (O : mO h) {b : Nat} (hb : b = 32 ∨ b = 64) (s kp : Bool) {X : Nat} (hX : X < 18446744073709551616) : fX16_towards h 592 3 (Int64.ofNat X) (Int32.ofInt b) (bI s) (bI kp) = tw3 (rv h 605 (ng3 X) (so3 X) (wh3 X) (pw3 X)) b s kp X := by
  have O1 := rv_O 605 (ng3 X) (so3 X) (wh3 X) (pw3 X) O
  have e1 := mf3 (h := h) (a := 605) O.2.2.2.1 hX
  have i0 := rv_I0 h 605 (ng3 X) (so3 X) (wh3 X) (pw3 X)
  have i1 := rv_I1 h 605 (ng3 X) (so3 X) (wh3 X) (pw3 X)
  have i2 := rv_L2 h 605 (ng3 X) (so3 X) (wh3 X) (pw3 X)
  have i3 := rv_I3 h 605 (ng3 X) (so3 X) (wh3 X) (pw3 X)
  have cX := so3_c X
  have w := wh3_lt X
  have pb := pw3_b X
  have l1 : nl (wh3 X) ≤ 53 := nl_le (by omega)
  have s3 : ∀ s : Nat, s ≤ 3 → (Int32.ofInt (s : Int) = (3 : Int32)) = (s = 3) := fun s hs => so3_i s 3 hs (by decide)
  have s2 : ∀ s : Nat, s ≤ 3 → (Int32.ofInt (s : Int) = (2 : Int32)) = (s = 2) := fun s hs => so3_i s 2 hs (by decide)
  have s0 : ∀ s : Nat, s ≤ 3 → (Int32.ofInt (s : Int) = (0 : Int32)) = (s = 0) := fun s hs => so3_i s 0 hs (by decide)
  unfold fX16_towards tw3
  rw [if_pos O.1, O.2.1, jr_bs, if_pos O.2.2.2.1, e1, jr_bs]
  generalize rv h 605 (ng3 X) (so3 X) (wh3 X) (pw3 X) = H at *
  rw [if_pos O1.1, O1.2.1, jr_bs, if_pos O1.2.2.2.1]
  have M := mtr3_91 O1 hb s kp hX i0 i1 i2
  have tr : fX16_traps H 592 3 = some (pm_setI H 592 33 3) := by unfold fX16_traps; rw [if_pos O1.1]
  have len := jm_length (hi := 0) (lo := wh3 X) (by decide) (by omega)
  rw [Nat.zero_mul, Nat.zero_add, show Int64.ofNat 0 = 0 from rfl] at len
  unfold fX16_towards_b90 fX16_towards_b86
  simp only [i1, i2, i3, s3 (so3 X) (by omega), s2 (so3 X) (by omega), s0 (so3 X) (by omega), jr_let, tr, jr_bs, len, bI_0]
  by_cases c1 : so3 X = 3
  · rw [if_pos c1, if_pos c1]
    cases kp with
    | false => rw [if_pos b_ff, if_neg b_ft]
    | true => rw [if_neg b_tf, if_pos b_tt]
  rw [if_neg c1, if_neg c1]
  have f0 : fa3 X = false → bI (fa3 X) = 0 := fun q => by rw [q]; rfl
  have f1 : fa3 X = true → bI (fa3 X) = 1 := fun q => by rw [q]; rfl
  by_cases c2 : so3 X = 2
  · rw [f1 (by unfold fa3; rw [decide_eq_true_eq]; exact .inl c2)] at M
    rw [if_pos c2, M]
  rw [if_neg c2]
  by_cases c3 : so3 X = 0
  · rw [if_pos c3]
    by_cases c4 : pw3 X ≤ 0
    · rw [f0 (by unfold fa3; rw [decide_eq_false_iff_not]; omega)] at M
      rw [if_pos (by rw [m3_0, zz_le (by omega) (by omega) (by omega) (by omega)]; exact c4), M]
    · rw [if_neg (by rw [m3_0, zz_le (by omega) (by omega) (by omega) (by omega)]; exact c4), zz_ad]
      by_cases c5 : (nl (wh3 X) : Int) + pw3 X ≤ 64
      · rw [f0 (by unfold fa3; rw [decide_eq_false_iff_not]; omega)] at M
        rw [if_pos (by rw [m3_64, zz_le (by omega) (by omega) (by omega) (by omega)]; exact c5), M]
      · rw [f1 (by unfold fa3; rw [decide_eq_true_eq]; exact .inr ⟨c3, by omega, by omega⟩)] at M
        rw [if_neg (by rw [m3_64, zz_le (by omega) (by omega) (by omega) (by omega)]; exact c5), M]
  · rw [f0 (by unfold fa3; rw [decide_eq_false_iff_not]; omega)] at M
    rw [if_neg c3, M]
theorem ctr_46 {h : pm_H} {a b : Nat} (k : pm_kd h a = 8) (hb : b = 32 ∨ b = 64) (kp g s far : Bool) {m : Nat} (hm : m < 18446744073709551616) : fX8_truncated_b146 h a (Int32.ofInt b) (bI kp) (bI g) (bI s) (Int64.ofNat m) (bI far) = if far = true ∨ lm b s g < m then (if kp = true then some (Int64.ofNat (vl b g (lm b s g)), h) else some (0, pm_setI h a 0 3)) else some (Int64.ofNat (vl b g m), h) := by
  have lb : lm b s g < 18446744073709551616 := by rcases hb with rfl | rfl <;> cases s <;> cases g <;> decide
  have E := ctr_end k hb kp g far hm lb
  have q : fX8_truncated_b146 h a (Int32.ofInt b) (bI kp) (bI g) (bI s) (Int64.ofNat m) (bI far) = fX8_truncated_b188 h a (Int32.ofInt b) (bI kp) (bI g) (Int64.ofNat m) (bI far) (Int64.ofNat (lm b s g)) := by
    unfold fX8_truncated_b146
    cases s with
    | false =>
      rw [if_pos bI_f]
      cases g with
      | false =>
        rw [if_pos bI_f, show ((((-1) : Int64).toUInt64 >>> ((64 - Int32.ofInt (b : Int)).toInt64.toUInt64 &&& Int64.toUInt64 63)).toInt64) = Int64.ofNat (lm b false false) by rcases hb with rfl | rfl <;> decide +kernel]
      | true => rw [if_neg bI_t, show Int64.ofNat (lm b false true) = 0 from rfl]
    | true =>
      rw [if_neg bI_t]
      cases g with
      | false =>
        rw [if_pos bI_f, show ((1 : Int64) <<< ((Int32.ofInt (b : Int) - 1).toInt64 &&& 63)) - ((1 : Int32).toInt64) = Int64.ofNat (lm b true false) by rcases hb with rfl | rfl <;> decide +kernel]
      | true =>
        rw [if_neg bI_t, show ((1 : Int64) <<< ((Int32.ofInt (b : Int) - 1).toInt64 &&& 63)) - ((0 : Int32).toInt64) = Int64.ofNat (lm b true true) by rcases hb with rfl | rfl <;> decide +kernel]
  rw [q, E]
def cw02 (h : pm_H) (a b : Nat) (s kp : Bool) (X : Nat) : Option (Int64 × pm_H) := if so2 X = 3 then (if kp = true then some (0, h) else some (0, pm_setI h a 0 4)) else if be2 b s X = true ∧ kp = false then some (0, pm_setI h a 0 3) else some (Int64.ofNat (tv2 b s X), h)
theorem ctw2 {h : pm_H} {a b o : Nat} (k : pm_kd h a = 8) (hb : b = 32 ∨ b = 64) (ho : o < 1000) {X : Nat} (hX : X < 4294967296) : fX8_truncated h a 2 (Int32.ofInt b) (Int32.ofInt o) (Int64.ofNat X) = cw02 h a b (decide (o % 2 = 0)) (decide (200 ≤ o)) X := by
  have cX := so2_c X
  have bE := sE2_b X
  have eA : wh2 X * 2 ^ (53 - nl (wh2 X)) = sA2 X := rfl
  have eE : pw2 X - ((53 - nl (wh2 X) : Nat) : Int) = sE2 X := rfl
  have B : ∀ (s kp far : Bool) (m : Nat), m < 18446744073709551616 → so2 X ≠ 3 → far = fa2 X → (fa2 X = true ∨ m = tM2 X) → fX8_truncated_b146 h a (Int32.ofInt b) (bI kp) (bI (ng2 X)) (bI s) (Int64.ofNat m) (bI far) = cw02 h a b s kp X := by
    intro s kp far m hm n3 hf hq
    rw [ctr_46 k hb kp (ng2 X) s far hm]
    unfold cw02 be2 tv2 be2 vl
    rw [if_neg n3, hf]
    rcases hq with q | q
    · rw [q, Bool.true_or, if_pos (show true = true ∨ lm b s (ng2 X) < m from .inl rfl), if_pos b_tt]
      cases kp with
      | false => rw [if_neg b_ft, if_pos (show true = true ∧ false = false by simp)]
      | true => rw [if_pos b_tt, if_neg (show ¬ (true = true ∧ true = false) by simp)]
    · rw [q]
      by_cases c : lm b s (ng2 X) < tM2 X
      · rw [if_pos (.inr c), decide_eq_true c, Bool.or_true, if_pos b_tt]
        cases kp with
        | false => rw [if_neg b_ft, if_pos (show true = true ∧ false = false by simp)]
        | true => rw [if_pos b_tt, if_neg (show ¬ (true = true ∧ true = false) by simp)]
      · rw [decide_eq_false c, Bool.or_false]
        cases hfa : fa2 X with
        | true =>
          rw [if_pos (show true = true ∨ lm b s (ng2 X) < tM2 X from .inl rfl), if_pos b_tt]
          cases kp with
          | false => rw [if_neg b_ft, if_pos (show true = true ∧ false = false by simp)]
          | true => rw [if_pos b_tt, if_neg (show ¬ (true = true ∧ true = false) by simp)]
        | false => rw [if_neg (show ¬ (false = true ∨ lm b s (ng2 X) < tM2 X) by simp [c]), if_neg (show ¬ (false = true ∧ kp = false) by simp), if_neg b_ft]
  have C : ∀ kp : Bool, fX8_truncated_b12 h a 2 (Int32.ofInt b) (Int32.ofInt o) (Int64.ofNat X) (bI kp) = cw02 h a b (decide (o % 2 = 0)) kp X := by
    intro kp
    unfold fX8_truncated_b12
    simp only [jr_let, cf2_none hX, cf2_minus hX, zz_odd]
    by_cases c1 : so2 X = 3
    · rw [if_neg (by rw [bI_0]; simp; omega), if_pos k]
      unfold cw02
      rw [if_pos c1]
      cases kp with
      | false => rw [if_pos bI_f, if_neg b_ft]
      | true => rw [if_neg bI_t, if_pos b_tt]
    rw [if_pos (by rw [bI_0]; simp; omega)]
    have D : ∀ s : Bool, fX8_truncated_b54 h a 2 (Int32.ofInt b) (Int64.ofNat X) (bI kp) (bI (ng2 X)) (bI s) = cw02 h a b s kp X := by
      intro s
      unfold fX8_truncated_b54
      simp only [jr_let, cf2_inf hX, cf2_zero hX]
      have B0 := fun far => B s kp far 0 (by decide) c1
      rw [show Int64.ofNat 0 = 0 from rfl] at B0
      by_cases c2 : so2 X = 2
      · have f : true = fa2 X := by unfold fa2; rw [decide_eq_true (.inl c2)]
        rw [decide_eq_true (show X % 2147483648 = 2139095040 by omega), if_neg bI_t, B0 true f (.inl f.symm)]
      rw [decide_eq_false (show ¬ X % 2147483648 = 2139095040 by omega), if_pos bI_f]
      by_cases c3 : so2 X = 1
      · have f : false = fa2 X := by unfold fa2; rw [decide_eq_false (by omega)]
        rw [decide_eq_true (show X % 2147483648 = 0 by omega), if_neg bI_t, B0 false f (.inr (by unfold tM2; rw [if_pos (by omega)]))]
      have c0 : so2 X = 0 := by omega
      have x0 : X % 2147483648 ≠ 0 := by omega
      have sx := sn2 x0
      rw [eA] at sx
      rw [decide_eq_false (show ¬ X % 2147483648 = 0 by omega), if_pos bI_f, cq2 hX x0, eE]
      unfold fX8_truncated_b101
      simp only [jr_let]
      rw [cs2 hX x0, eA]
      by_cases c4 : sE2 X ≤ 11
      · have f : false = fa2 X := (Bool.eq_false_iff.mpr (fun q => by rw [fa2_e c0] at q; omega)).symm
        have ts := tM2_s hX c0 (by omega)
        rw [if_pos (by rw [m3_11, zz_le (by omega) (by omega) (by omega) (by omega)]; exact c4)]
        by_cases c5 : sE2 X < 0
        · rw [if_pos (by rw [m3_0, zz_lt (by omega) (by omega) (by omega) (by omega)]; exact c5)]
          by_cases c6 : sE2 X ≤ -64
          · have e : tM2 X = 0 := by
              rw [← ts.2.2 c5, Nat.div_eq_of_lt]
              have : 2 ^ 64 ≤ 2 ^ (-sE2 X).toNat := Nat.pow_le_pow_right (by decide) (by omega)
              omega
            rw [if_pos (by rw [show (-64 : Int32) = Int32.ofInt (-64) by decide, zz_le (by omega) (by omega) (by omega) (by omega)]; exact c6), show (0 : Int32) = bI false from rfl, B0 false f (.inr e.symm)]
          · rw [if_neg (by rw [show (-64 : Int32) = Int32.ofInt (-64) by decide, zz_le (by omega) (by omega) (by omega) (by omega)]; exact c6), zz_ng, zz_tn (by omega) (by omega), n6_63, jl_u63 (by omega), jl_us (by omega) (by omega), ts.2.2 c5, show (0 : Int32) = bI false from rfl, B s kp false (tM2 X) ts.1 c1 f (.inr rfl)]
        · have mn : (if (11 : Int32) < Int32.ofInt (sE2 X) then (11 : Int32) else Int32.ofInt (sE2 X)) = Int32.ofInt (sE2 X) := by
            rw [if_neg (by rw [m3_11, zz_lt (by omega) (by omega) (by omega) (by omega)]; omega)]
          rw [if_neg (by rw [m3_0, zz_lt (by omega) (by omega) (by omega) (by omega)]; exact c5), mn, zz_tn (by omega) (by omega), n6_63, jl_63 (by omega), ll_sl _ (by omega), ts.2.1 (by omega), show (0 : Int32) = bI false from rfl, B s kp false (tM2 X) ts.1 c1 f (.inr rfl)]
      · have f : true = fa2 X := by rw [(fa2_e c0).mpr (by omega)]
        rw [if_neg (by rw [m3_11, zz_le (by omega) (by omega) (by omega) (by omega)]; exact c4), if_neg (by rw [m3_0, zz_lt (by omega) (by omega) (by omega) (by omega)]; omega)]
        have mn : (if (11 : Int32) < Int32.ofInt (sE2 X) then (11 : Int32) else Int32.ofInt (sE2 X)) = Int32.ofInt 11 := by
          rw [if_pos (by rw [m3_11, zz_lt (by omega) (by omega) (by omega) (by omega)]; omega)]
          rfl
        rw [mn, zz_tn (by omega) (by omega), n6_63, jl_63 (by decide), ll_sl _ (by decide), show (1 : Int32) = bI true from rfl, B s kp true _ (by rw [show (2 : Nat) ^ (11 : Int).toNat = 2048 from rfl]; omega) c1 f (.inl f.symm)]
    by_cases c2 : o % 2 = 0
    · rw [if_pos (by omega), decide_eq_true c2]
      exact D true
    · rw [if_neg (by omega), decide_eq_false c2]
      exact D false
  unfold fX8_truncated
  by_cases c : o < 200
  · rw [if_pos (by rw [m3_200, zz_lt (by omega) (by omega) (by omega) (by omega)]; omega), decide_eq_false (show ¬ 200 ≤ o by omega)]
    exact C false
  · rw [if_neg (by rw [m3_200, zz_lt (by omega) (by omega) (by omega) (by omega)]; omega), decide_eq_true (show 200 ≤ o by omega)]
    exact C true
def cw03 (h : pm_H) (a b : Nat) (s kp : Bool) (X : Nat) : Option (Int64 × pm_H) := if so3 X = 3 then (if kp = true then some (0, h) else some (0, pm_setI h a 0 4)) else if be3 b s X = true ∧ kp = false then some (0, pm_setI h a 0 3) else some (Int64.ofNat (tv3 b s X), h)
theorem ctw3 {h : pm_H} {a b o : Nat} (k : pm_kd h a = 8) (hb : b = 32 ∨ b = 64) (ho : o < 1000) {X : Nat} (hX : X < 18446744073709551616) : fX8_truncated h a 3 (Int32.ofInt b) (Int32.ofInt o) (Int64.ofNat X) = cw03 h a b (decide (o % 2 = 0)) (decide (200 ≤ o)) X := by
  have cX := so3_c X
  have bE := sE3_b X
  have eA : wh3 X * 2 ^ (53 - nl (wh3 X)) = sA3 X := rfl
  have eE : pw3 X - ((53 - nl (wh3 X) : Nat) : Int) = sE3 X := rfl
  have B : ∀ (s kp far : Bool) (m : Nat), m < 18446744073709551616 → so3 X ≠ 3 → far = fa3 X → (fa3 X = true ∨ m = tM3 X) → fX8_truncated_b146 h a (Int32.ofInt b) (bI kp) (bI (ng3 X)) (bI s) (Int64.ofNat m) (bI far) = cw03 h a b s kp X := by
    intro s kp far m hm n3 hf hq
    rw [ctr_46 k hb kp (ng3 X) s far hm]
    unfold cw03 be3 tv3 be3 vl
    rw [if_neg n3, hf]
    rcases hq with q | q
    · rw [q, Bool.true_or, if_pos (show true = true ∨ lm b s (ng3 X) < m from .inl rfl), if_pos b_tt]
      cases kp with
      | false => rw [if_neg b_ft, if_pos (show true = true ∧ false = false by simp)]
      | true => rw [if_pos b_tt, if_neg (show ¬ (true = true ∧ true = false) by simp)]
    · rw [q]
      by_cases c : lm b s (ng3 X) < tM3 X
      · rw [if_pos (.inr c), decide_eq_true c, Bool.or_true, if_pos b_tt]
        cases kp with
        | false => rw [if_neg b_ft, if_pos (show true = true ∧ false = false by simp)]
        | true => rw [if_pos b_tt, if_neg (show ¬ (true = true ∧ true = false) by simp)]
      · rw [decide_eq_false c, Bool.or_false]
        cases hfa : fa3 X with
        | true =>
          rw [if_pos (show true = true ∨ lm b s (ng3 X) < tM3 X from .inl rfl), if_pos b_tt]
          cases kp with
          | false => rw [if_neg b_ft, if_pos (show true = true ∧ false = false by simp)]
          | true => rw [if_pos b_tt, if_neg (show ¬ (true = true ∧ true = false) by simp)]
        | false => rw [if_neg (show ¬ (false = true ∨ lm b s (ng3 X) < tM3 X) by simp [c]), if_neg (show ¬ (false = true ∧ kp = false) by simp), if_neg b_ft]
  have C : ∀ kp : Bool, fX8_truncated_b12 h a 3 (Int32.ofInt b) (Int32.ofInt o) (Int64.ofNat X) (bI kp) = cw03 h a b (decide (o % 2 = 0)) kp X := by
    intro kp
    unfold fX8_truncated_b12
    simp only [jr_let, cf3_none hX, cf3_minus hX, zz_odd]
    by_cases c1 : so3 X = 3
    · rw [if_neg (by rw [bI_0]; simp; omega), if_pos k]
      unfold cw03
      rw [if_pos c1]
      cases kp with
      | false => rw [if_pos bI_f, if_neg b_ft]
      | true => rw [if_neg bI_t, if_pos b_tt]
    rw [if_pos (by rw [bI_0]; simp; omega)]
    have D : ∀ s : Bool, fX8_truncated_b54 h a 3 (Int32.ofInt b) (Int64.ofNat X) (bI kp) (bI (ng3 X)) (bI s) = cw03 h a b s kp X := by
      intro s
      unfold fX8_truncated_b54
      simp only [jr_let, cf3_inf hX, cf3_zero hX]
      have B0 := fun far => B s kp far 0 (by decide) c1
      rw [show Int64.ofNat 0 = 0 from rfl] at B0
      by_cases c2 : so3 X = 2
      · have f : true = fa3 X := by unfold fa3; rw [decide_eq_true (.inl c2)]
        rw [decide_eq_true (show X % 9223372036854775808 = 9218868437227405312 by omega), if_neg bI_t, B0 true f (.inl f.symm)]
      rw [decide_eq_false (show ¬ X % 9223372036854775808 = 9218868437227405312 by omega), if_pos bI_f]
      by_cases c3 : so3 X = 1
      · have f : false = fa3 X := by unfold fa3; rw [decide_eq_false (by omega)]
        rw [decide_eq_true (show X % 9223372036854775808 = 0 by omega), if_neg bI_t, B0 false f (.inr (by unfold tM3; rw [if_pos (by omega)]))]
      have c0 : so3 X = 0 := by omega
      have x0 : X % 9223372036854775808 ≠ 0 := by omega
      have sx := sn3 x0
      rw [eA] at sx
      rw [decide_eq_false (show ¬ X % 9223372036854775808 = 0 by omega), if_pos bI_f, cq3 hX x0, eE]
      unfold fX8_truncated_b101
      simp only [jr_let]
      rw [cs3 hX x0, eA]
      by_cases c4 : sE3 X ≤ 11
      · have f : false = fa3 X := (Bool.eq_false_iff.mpr (fun q => by rw [fa3_e c0] at q; omega)).symm
        have ts := tM3_s hX c0 (by omega)
        rw [if_pos (by rw [m3_11, zz_le (by omega) (by omega) (by omega) (by omega)]; exact c4)]
        by_cases c5 : sE3 X < 0
        · rw [if_pos (by rw [m3_0, zz_lt (by omega) (by omega) (by omega) (by omega)]; exact c5)]
          by_cases c6 : sE3 X ≤ -64
          · have e : tM3 X = 0 := by
              rw [← ts.2.2 c5, Nat.div_eq_of_lt]
              have : 2 ^ 64 ≤ 2 ^ (-sE3 X).toNat := Nat.pow_le_pow_right (by decide) (by omega)
              omega
            rw [if_pos (by rw [show (-64 : Int32) = Int32.ofInt (-64) by decide, zz_le (by omega) (by omega) (by omega) (by omega)]; exact c6), show (0 : Int32) = bI false from rfl, B0 false f (.inr e.symm)]
          · rw [if_neg (by rw [show (-64 : Int32) = Int32.ofInt (-64) by decide, zz_le (by omega) (by omega) (by omega) (by omega)]; exact c6), zz_ng, zz_tn (by omega) (by omega), n6_63, jl_u63 (by omega), jl_us (by omega) (by omega), ts.2.2 c5, show (0 : Int32) = bI false from rfl, B s kp false (tM3 X) ts.1 c1 f (.inr rfl)]
        · have mn : (if (11 : Int32) < Int32.ofInt (sE3 X) then (11 : Int32) else Int32.ofInt (sE3 X)) = Int32.ofInt (sE3 X) := by
            rw [if_neg (by rw [m3_11, zz_lt (by omega) (by omega) (by omega) (by omega)]; omega)]
          rw [if_neg (by rw [m3_0, zz_lt (by omega) (by omega) (by omega) (by omega)]; exact c5), mn, zz_tn (by omega) (by omega), n6_63, jl_63 (by omega), ll_sl _ (by omega), ts.2.1 (by omega), show (0 : Int32) = bI false from rfl, B s kp false (tM3 X) ts.1 c1 f (.inr rfl)]
      · have f : true = fa3 X := by rw [(fa3_e c0).mpr (by omega)]
        rw [if_neg (by rw [m3_11, zz_le (by omega) (by omega) (by omega) (by omega)]; exact c4), if_neg (by rw [m3_0, zz_lt (by omega) (by omega) (by omega) (by omega)]; omega)]
        have mn : (if (11 : Int32) < Int32.ofInt (sE3 X) then (11 : Int32) else Int32.ofInt (sE3 X)) = Int32.ofInt 11 := by
          rw [if_pos (by rw [m3_11, zz_lt (by omega) (by omega) (by omega) (by omega)]; omega)]
          rfl
        rw [mn, zz_tn (by omega) (by omega), n6_63, jl_63 (by decide), ll_sl _ (by decide), show (1 : Int32) = bI true from rfl, B s kp true _ (by rw [show (2 : Nat) ^ (11 : Int).toNat = 2048 from rfl]; omega) c1 f (.inl f.symm)]
    by_cases c2 : o % 2 = 0
    · rw [if_pos (by omega), decide_eq_true c2]
      exact D true
    · rw [if_neg (by omega), decide_eq_false c2]
      exact D false
  unfold fX8_truncated
  by_cases c : o < 200
  · rw [if_pos (by rw [m3_200, zz_lt (by omega) (by omega) (by omega) (by omega)]; omega), decide_eq_false (show ¬ 200 ≤ o by omega)]
    exact C false
  · rw [if_neg (by rw [m3_200, zz_lt (by omega) (by omega) (by omega) (by omega)]; omega), decide_eq_true (show 200 ≤ o by omega)]
    exact C true
