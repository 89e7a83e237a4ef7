/-! NUMBERS: whole operators of 64 bits as both do them -/
theorem qL_of {k : Int32} {x y u : Int64} (e1 : ∀ h : pm_H, fX16_long64 h 592 k x y = some (u, h)) (e2 : ∀ (h : pm_H) (a : Nat), fX8_whole64 h a k x y = some (u, h)) : qL k x y := qD_v q_id_b (fun h _ => e1 h) (fun h a _ => e2 h a) rfl
theorem qL_of2 {k : Int32} {x y u w : Int64} (e1 : ∀ h : pm_H, fX16_long64 h 592 k x y = some (u, h)) (e2 : ∀ (h : pm_H) (a : Nat), fX8_whole64 h a k x y = some (w, h)) (e : u = w) : qL k x y := qD_v q_id_b (fun h _ => e1 h) (fun h a _ => e2 h a) e
theorem qS_of {k : Int32} {x y : Int64} (q : q32 k x y) : qS k x y := by
  obtain ⟨v, hv, e1, e2⟩ := q
  exact ⟨v, 0, hv, by decide, by decide, fun h k => (e1 h k).elim fun u z => ⟨u, z.1, fun _ => z.2⟩, fun h a k => (e2 h a k).elim fun u z => ⟨u, z.1, fun _ => z.2⟩⟩
section W64
variable {X Y : Nat}
theorem qL_0 (hX : X < 18446744073709551616) : qL 0 (Int64.ofNat X) (Int64.ofNat Y) := by
  have hl := nl_le (L := 64) hX
  refine qL_of (u := Int64.ofNat (64 - nl X)) (fun h => ?_) (fun h a => ?_)
  · have z : fX16_zeros (Int64.ofNat X) 64 1 = some (Int32.ofInt ((64 - nl X : Nat) : Int)) := by
      unfold fX16_zeros
      exact mz_lead (b := 64) (.inr rfl) hX (64 - nl X) 0 (by omega)
    show ((fX16_zeros (Int64.ofNat X) 64 1).bind fun v4 => some ((v4.toInt64, h))) = _
    rw [z, jr_bs, nu_i _ (by omega)]
  · show some ((fJ13_numberOfLeadingZeros_95d88 (Int64.ofNat X)).toInt64, h) = _
    rw [jn_lz6 hX, show (64 - (nl X : Int)) = ((64 - nl X : Nat) : Int) by omega, nu_i _ (by omega)]
theorem qL_1 (hX : X < 18446744073709551616) : qL 1 (Int64.ofNat X) (Int64.ofNat Y) := by
  have hl := tz_le 64 X
  refine qL_of (u := Int64.ofNat (tz 64 X)) (fun h => ?_) (fun h a => ?_)
  · have z : fX16_zeros (Int64.ofNat X) 64 0 = some (Int32.ofInt ((tz 64 X : Nat) : Int)) := by
      have := mz_trail (b := 64) (X := X) (.inr rfl) hX 64 0 rfl
      rw [Nat.zero_add, Nat.pow_zero, Nat.div_one] at this
      unfold fX16_zeros
      exact this
    show ((fX16_zeros (Int64.ofNat X) 64 0).bind fun v4 => some ((v4.toInt64, h))) = _
    rw [z, jr_bs, nu_i _ (by omega)]
  · show some ((fJ13_numberOfTrailingZeros_95d88 (Int64.ofNat X)).toInt64, h) = _
    rw [jn_tz6 hX, nu_i _ (by omega)]
theorem qL_2 (hX : X < 18446744073709551616) : qL 2 (Int64.ofNat X) (Int64.ofNat Y) := by
  have hl := pc_le 64 X
  refine qL_of (u := Int64.ofNat (pc 64 X)) (fun h => ?_) (fun h a => ?_)
  · have z : fX16_ones (Int64.ofNat X) = some (Int32.ofInt ((pc 64 X : Nat) : Int)) := by
      have := mz_ones (X := X) hX 64 0 0 rfl (Nat.le_refl _)
      rw [Nat.zero_add, Nat.pow_zero, Nat.div_one] at this
      unfold fX16_ones
      exact this
    show ((fX16_ones (Int64.ofNat X)).bind fun v4 => some ((v4.toInt64, h))) = _
    rw [z, jr_bs, nu_i _ (by omega)]
  · show some ((fJ13_bitCount_95d88 (Int64.ofNat X)).toInt64, h) = _
    rw [jn_pc6 hX, nu_i _ (by omega)]
theorem qL_3 (x y : Int64) : qL 3 x y := qL_of (u := x + y) (fun _ => rfl) (fun _ _ => rfl)
theorem qL_4 (x y : Int64) : qL 4 x y := qL_of (u := x - y) (fun _ => rfl) (fun _ _ => rfl)
theorem qL_5 (x y : Int64) : qL 5 x y := qL_of (u := x * y) (fun _ => rfl) (fun _ _ => rfl)
theorem qL_10 (x y : Int64) : qL 10 x y := qL_of (u := x &&& y) (fun _ => rfl) (fun _ _ => rfl)
theorem qL_11 (x y : Int64) : qL 11 x y := qL_of (u := x ||| y) (fun _ => rfl) (fun _ _ => rfl)
theorem qL_12 (x y : Int64) : qL 12 x y := qL_of (u := x ^^^ y) (fun _ => rfl) (fun _ _ => rfl)
theorem qL_13 (x y : Int64) : qL 13 x y := qL_of2 (fun _ => rfl) (fun _ _ => rfl) rfl
theorem qL_14 (x y : Int64) : qL 14 x y := qL_of2 (fun _ => rfl) (fun _ _ => rfl) rfl
theorem qL_15 (x y : Int64) : qL 15 x y := qL_of2 (fun _ => rfl) (fun _ _ => rfl) rfl
theorem nu_by6 (Y : Nat) : (Int64.ofNat Y).toInt32 &&& 63 = Int32.ofNat (Y % 64) := by rw [ll_t3, n3_63, nn_m63]
theorem qL_16 (hX : X < 18446744073709551616) : qL 16 (Int64.ofNat X) (Int64.ofNat Y) := by
  by_cases c : Y % 64 = 0
  · refine qL_of2 (u := Int64.ofNat X) (fun h => ?_) (fun _ _ => rfl) ?_
    · show (if (Int64.ofNat Y).toInt32 &&& 63 = 0 then (some ((Int64.ofNat X, h))) else _) = _
      rw [if_pos (by rw [nu_by6, c]; rfl)]
    · rw [nu_by6, c, nu_mk _ (by decide), n3_63, nx_ng6 0 (by decide), show (64 - 0 % 64) % 64 = 0 from rfl, nu_mu _ (by decide), jl_us hX (by decide), ll_sl _ (by decide), lo_or, Nat.pow_zero, Nat.div_one, Nat.mul_one, Nat.or_self]
  · refine qL_of2 (u := (Int64.ofNat X <<< (((Int64.ofNat Y).toInt32 &&& 63).toInt64 &&& 63)) ||| (((Int64.ofNat X).toUInt64 >>> ((64 - ((Int64.ofNat Y).toInt32 &&& 63)).toInt64.toUInt64 &&& Int64.toUInt64 63)).toInt64)) (fun h => ?_) (fun _ _ => rfl) ?_
    · show (if (Int64.ofNat Y).toInt32 &&& 63 = 0 then (some ((Int64.ofNat X, h))) else _) = _
      rw [if_neg (by rw [nu_by6]; intro z; rw [show (0 : Int32) = Int32.ofNat 0 from rfl, nn_eq (by omega) (by decide)] at z; exact c z)]
    · rw [nu_by6, n3_64, nn_sb (by omega), nu_mu _ (by omega), n3_63, nx_ng6 _ (by omega), show (64 - Y % 64 % 64) % 64 = 64 - Y % 64 by omega, nu_mu _ (by omega)]
theorem qL_17 (hX : X < 18446744073709551616) : qL 17 (Int64.ofNat X) (Int64.ofNat Y) := by
  by_cases c : Y % 64 = 0
  · refine qL_of2 (u := Int64.ofNat X) (fun h => ?_) (fun _ _ => rfl) ?_
    · show (if (Int64.ofNat Y).toInt32 &&& 63 = 0 then (some ((Int64.ofNat X, h))) else _) = _
      rw [if_pos (by rw [nu_by6, c]; rfl)]
    · rw [nu_by6, c, nu_mu _ (by decide), n3_63, nx_ng6 0 (by decide), show (64 - 0 % 64) % 64 = 0 from rfl, nu_mk _ (by decide), jl_us hX (by decide), ll_sl _ (by decide), lo_or, Nat.pow_zero, Nat.div_one, Nat.mul_one, Nat.or_self]
  · refine qL_of2 (u := (((Int64.ofNat X).toUInt64 >>> (((Int64.ofNat Y).toInt32 &&& 63).toInt64.toUInt64 &&& Int64.toUInt64 63)).toInt64) ||| (Int64.ofNat X <<< ((64 - ((Int64.ofNat Y).toInt32 &&& 63)).toInt64 &&& 63))) (fun h => ?_) (fun _ _ => rfl) ?_
    · show (if (Int64.ofNat Y).toInt32 &&& 63 = 0 then (some ((Int64.ofNat X, h))) else _) = _
      rw [if_neg (by rw [nu_by6]; intro z; rw [show (0 : Int32) = Int32.ofNat 0 from rfl, nn_eq (by omega) (by decide)] at z; exact c z)]
    · rw [nu_by6, n3_64, nn_sb (by omega), nu_mk (64 - Y % 64) (by omega), n3_63, nx_ng6 _ (by omega), show (64 - Y % 64 % 64) % 64 = 64 - Y % 64 by omega, nu_mk (64 - Y % 64) (by omega)]
theorem eL_6 {h : pm_H} (k : pm_kd h 592 = 16) (x y : Int64) : fX16_long64 h 592 6 x y = (fX16_divided h 592 0 x y (-9223372036854775808)).bind fun v => some (v.1, v.2) := by
  show (if pm_kd h 592 = 16 then (fX16_divided h 592 0 x y (-9223372036854775808)).bind fun v25 => some ((v25.1, v25.2)) else none) = _
  rw [if_pos k]
theorem eL_7 {h : pm_H} (k : pm_kd h 592 = 16) (x y : Int64) : fX16_long64 h 592 7 x y = (fX16_divided h 592 1 x y (-9223372036854775808)).bind fun v => some (v.1, v.2) := by
  show (if pm_kd h 592 = 16 then (fX16_divided h 592 1 x y (-9223372036854775808)).bind fun v25 => some ((v25.1, v25.2)) else none) = _
  rw [if_pos k]
theorem eL_8 {h : pm_H} (k : pm_kd h 592 = 16) (x y : Int64) : fX16_long64 h 592 8 x y = (fX16_divided h 592 2 x y (-9223372036854775808)).bind fun v => some (v.1, v.2) := by
  show (if pm_kd h 592 = 16 then (fX16_divided h 592 2 x y (-9223372036854775808)).bind fun v25 => some ((v25.1, v25.2)) else none) = _
  rw [if_pos k]
theorem eL_9 {h : pm_H} (k : pm_kd h 592 = 16) (x y : Int64) : fX16_long64 h 592 9 x y = (fX16_divided h 592 3 x y (-9223372036854775808)).bind fun v => some (v.1, v.2) := by
  show (if pm_kd h 592 = 16 then (fX16_divided h 592 3 x y (-9223372036854775808)).bind fun v25 => some ((v25.1, v25.2)) else none) = _
  rw [if_pos k]
theorem eC_0 {h : pm_H} {a : Nat} (k : pm_kd h a = 8) {p : Int32} (h6 : 6 ≤ p) (h9 : p ≤ 9) (x : Int64) : fX8_whole64 h a p x 0 = some (0, pm_setI h a 0 2) := by
  unfold fX8_whole64
  rw [if_neg (by rw [Int32.not_lt]; exact h6), if_neg (by rw [Int32.not_lt]; exact h9), if_pos k]
  unfold fX8_divide64
  rw [if_pos rfl, if_pos k]
  rfl
theorem eC_6 {h : pm_H} {a : Nat} (k : pm_kd h a = 8) (x y : Int64) (h0 : y ≠ 0) : fX8_whole64 h a 6 x y = if x = -9223372036854775808 ∧ y = -1 then some (0, pm_setI h a 0 3) else some (x / y, h) := by
  show (if pm_kd h a = 8 then (fX8_divide64 h a 6 x y).bind fun v4 => some ((v4.1, v4.2)) else none) = _
  rw [if_pos k]
  unfold fX8_divide64
  rw [if_neg h0, if_neg (by decide), if_neg (by decide)]
  have l : fX8_divide64_b66 h a 6 x y = some (x / y, h) := by
    show (if ¬ y = 0 then some ((x / y, h)) else none) = _
    rw [if_pos h0]
  by_cases d : x = -9223372036854775808
  · rw [if_pos d]
    by_cases e : y = -1
    · rw [if_pos e, if_pos (show x = -9223372036854775808 ∧ y = -1 from ⟨d, e⟩)]
      show ((if pm_kd h a = 8 then some ((0, pm_setI h a 0 3)) else none).bind fun v4 => some ((v4.1, v4.2))) = _
      rw [if_pos k]
      rfl
    · rw [if_neg e, if_neg (show ¬ (x = -9223372036854775808 ∧ y = -1) from fun q => e q.2), l]; rfl
  · rw [if_neg d, if_neg (show ¬ (x = -9223372036854775808 ∧ y = -1) from fun q => d q.1), l]; rfl
theorem eC_8 {h : pm_H} {a : Nat} (k : pm_kd h a = 8) (x y : Int64) (h0 : y ≠ 0) : fX8_whole64 h a 8 x y = if x = -9223372036854775808 ∧ y = -1 then some (0, h) else some (x - x / y * y, h) := by
  show (if pm_kd h a = 8 then (fX8_divide64 h a 8 x y).bind fun v4 => some ((v4.1, v4.2)) else none) = _
  rw [if_pos k]
  unfold fX8_divide64
  rw [if_neg h0, if_neg (by decide), if_neg (by decide)]
  have l : fX8_divide64_b66 h a 8 x y = some (x - x / y * y, h) := by
    show (if ¬ y = 0 then some ((x - x / y * y, h)) else none) = _
    rw [if_pos h0]
  by_cases d : x = -9223372036854775808
  · rw [if_pos d]
    by_cases e : y = -1
    · rw [if_pos e, if_pos (show x = -9223372036854775808 ∧ y = -1 from ⟨d, e⟩)]
      rfl
    · rw [if_neg e, if_neg (show ¬ (x = -9223372036854775808 ∧ y = -1) from fun q => e q.2), l]; rfl
  · rw [if_neg d, if_neg (show ¬ (x = -9223372036854775808 ∧ y = -1) from fun q => d q.1), l]; rfl
theorem eC_7 {h : pm_H} {a : Nat} (k : pm_kd h a = 8) (x y : Int64) (h0 : y ≠ 0) : fX8_whole64 h a 7 x y = ((fX8_quotientWithoutSign x y).bind fun v8 => some ((v8, h))).bind fun v4 => some ((v4.1, v4.2)) := by
  show (if pm_kd h a = 8 then (fX8_divide64 h a 7 x y).bind fun v4 => some ((v4.1, v4.2)) else none) = _
  rw [if_pos k]
  unfold fX8_divide64
  rw [if_neg h0, if_pos rfl]
theorem eC_9 {h : pm_H} {a : Nat} (k : pm_kd h a = 8) (x y : Int64) (h0 : y ≠ 0) : fX8_whole64 h a 9 x y = ((fX8_quotientWithoutSign x y).bind fun v6 => some ((x - (y * v6), h))).bind fun v4 => some ((v4.1, v4.2)) := by
  show (if pm_kd h a = 8 then (fX8_divide64 h a 9 x y).bind fun v4 => some ((v4.1, v4.2)) else none) = _
  rw [if_pos k]
  unfold fX8_divide64
  rw [if_neg h0, if_neg (by decide), if_pos rfl]
theorem qL_6 (x y : Int64) : qL 6 x y := by
  by_cases c : y = 0
  · subst c
    refine qD_t (u := 0) (w := 0) 2 (by decide) (by decide) (by decide) (fun h k => ?_) (fun h a k => eC_0 k (by decide) (by decide) x)
    rw [eL_6 k, dR_0 k]; rfl
  · by_cases d : x = -9223372036854775808 ∧ y = -1
    · refine qD_t (u := -x) (w := 0) 3 (by decide) (by decide) (by decide) (fun h k => ?_) (fun h a k => ?_)
      · rw [eL_6 k, dR_s k c, if_pos d.2, if_pos d.1]; rfl
      · rw [eC_6 k x y c, if_pos d]; rfl
    · refine qD_v q_id_b (u := x / y) (fun h k => ?_) (fun h a k => ?_) rfl
      · rw [eL_6 k, dR_s k c]
        by_cases e : y = -1
        · rw [if_pos e, if_neg (fun q => d ⟨q, e⟩), e, jd_m1]; rfl
        · rw [if_neg e]; rfl
      · rw [eC_6 k x y c, if_neg d]
theorem qL_8 (x y : Int64) : qL 8 x y := by
  by_cases c : y = 0
  · subst c
    refine qD_t (u := 0) (w := 0) 2 (by decide) (by decide) (by decide) (fun h k => ?_) (fun h a k => eC_0 k (by decide) (by decide) x)
    rw [eL_8 k, dR_0 k]; rfl
  · refine qD_v q_id_b (u := x - x / y * y) (w := x - x / y * y) (fun h k => ?_) (fun h a k => ?_) rfl
    · rw [eL_8 k, dR_r c]
      by_cases e : y = -1
      · rw [if_pos e, e, jd_r1]; rfl
      · rw [if_neg e]; rfl
    · rw [eC_8 k x y c]
      by_cases d : x = -9223372036854775808 ∧ y = -1
      · rw [if_pos d, d.2, jd_r1]
      · rw [if_neg d]
theorem qL_7 (hX : X < 18446744073709551616) (hY : Y < 18446744073709551616) : qL 7 (Int64.ofNat X) (Int64.ofNat Y) := by
  by_cases c : Y = 0
  · subst c
    refine qD_t (u := 0) (w := 0) 2 (by decide) (by decide) (by decide) (fun h k => ?_) (fun h a k => eC_0 k (by decide) (by decide) _)
    rw [eL_7 k, show Int64.ofNat 0 = 0 from rfl, dR_0 k]; rfl
  · have c6 : Int64.ofNat Y ≠ 0 := by rw [Ne, jl_z0 hY]; exact c
    refine qD_v q_id_b (u := Int64.ofNat (X / Y)) (w := Int64.ofNat (X / Y)) (fun h k => ?_) (fun h a k => ?_) rfl
    · rw [eL_7 k, dR_u c6, ju_div hX hY c]; rfl
    · rw [eC_7 k _ _ c6, cu_q hX hY c]; rfl
theorem qL_9 (hX : X < 18446744073709551616) (hY : Y < 18446744073709551616) : qL 9 (Int64.ofNat X) (Int64.ofNat Y) := by
  by_cases c : Y = 0
  · subst c
    refine qD_t (u := 0) (w := 0) 2 (by decide) (by decide) (by decide) (fun h k => ?_) (fun h a k => eC_0 k (by decide) (by decide) _)
    rw [eL_9 k, show Int64.ofNat 0 = 0 from rfl, dR_0 k]; rfl
  · have c6 : Int64.ofNat Y ≠ 0 := by rw [Ne, jl_z0 hY]; exact c
    refine qD_v q_id_b (u := Int64.ofNat (X % Y)) (w := Int64.ofNat (X % Y)) (fun h k => ?_) (fun h a k => ?_) rfl
    · rw [eL_9 k, dR_v c6, ju_rem hX hY c]; rfl
    · rw [eC_9 k _ _ c6, cu_q hX hY c, jr_bs, jr_bs, ll_ml, ll_sb (Nat.mul_div_le X Y), show X - Y * (X / Y) = X % Y by have := Nat.mod_add_div X Y; omega]
end W64
