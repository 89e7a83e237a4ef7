/-! NUMBERS: floating values towards 0: class and reference -/
theorem bI_f : bI false = 0 := rfl
theorem bI_t : ¬ bI true = 0 := by decide
theorem b_ft : ¬ (false = true) := by decide
theorem b_tf : ¬ (true = false) := by decide
theorem b_tt : true = true := rfl
theorem b_ff : false = false := rfl
def vl (b : Nat) (g : Bool) (v : Nat) : Nat := if g = true then (18446744073709551616 - v) % 2 ^ b else v % 2 ^ b
theorem jt_mask {b : Nat} (hb : b = 32 ∨ b = 64) (v : Nat) : Int64.ofNat v &&& ((((-1) : Int64).toUInt64 >>> ((64 - Int32.ofInt (b : Int)).toInt64.toUInt64 &&& Int64.toUInt64 63)).toInt64) = Int64.ofNat (v % 2 ^ b) := by
  rcases hb with rfl | rfl
  · rw [show ((((-1) : Int64).toUInt64 >>> ((64 - Int32.ofInt ((32 : Nat) : Int)).toInt64.toUInt64 &&& Int64.toUInt64 63)).toInt64) = Int64.ofNat (2 ^ 32 - 1) by decide +kernel, ll_mk _ _ (by decide)]
  · rw [show ((((-1) : Int64).toUInt64 >>> ((64 - Int32.ofInt ((64 : Nat) : Int)).toInt64.toUInt64 &&& Int64.toUInt64 63)).toInt64) = -1 by decide +kernel, Int64.and_neg_one, jl_wrap v]
theorem jt_val {b : Nat} (hb : b = 32 ∨ b = 64) (g : Bool) {v : Nat} (hv : v < 18446744073709551616) : (if bI g = 0 then Int64.ofNat v else -Int64.ofNat v) &&& ((((-1) : Int64).toUInt64 >>> ((64 - Int32.ofInt (b : Int)).toInt64.toUInt64 &&& Int64.toUInt64 63)).toInt64) = Int64.ofNat (vl b g v) := by
  unfold vl
  cases g with
  | false => rw [if_pos bI_f, jt_mask hb, if_neg b_ft]
  | true => rw [if_neg bI_t, jl_ng (by omega), jt_mask hb, if_pos b_tt]
theorem jt_m0 {b : Nat} (hb : b = 32 ∨ b = 64) : (0 : Int64) &&& ((((-1) : Int64).toUInt64 >>> ((64 - Int32.ofInt (b : Int)).toInt64.toUInt64 &&& Int64.toUInt64 63)).toInt64) = 0 := Int64.zero_and
theorem ctr_end {h : pm_H} {a b : Nat} (k : pm_kd h a = 8) (hb : b = 32 ∨ b = 64) (kp g far : Bool) {m L : Nat} (hm : m < 18446744073709551616) (hL : L < 18446744073709551616) : fX8_truncated_b188 h a (Int32.ofInt b) (bI kp) (bI g) (Int64.ofNat m) (bI far) (Int64.ofNat L) = if far = true ∨ L < m then (if kp = true then some (Int64.ofNat (vl b g L), h) else some (0, pm_setI h a 0 3)) else some (Int64.ofNat (vl b g m), h) := by
  have c := cu_cmp hm hL
  have V : ∀ v : Nat, v < 18446744073709551616 → (if bI g = 0 then (some ((Int64.ofNat v &&& ((((-1) : Int64).toUInt64 >>> ((64 - Int32.ofInt (b : Int)).toInt64.toUInt64 &&& Int64.toUInt64 63)).toInt64), h))) else (some (((-Int64.ofNat v) &&& ((((-1) : Int64).toUInt64 >>> ((64 - Int32.ofInt (b : Int)).toInt64.toUInt64 &&& Int64.toUInt64 63)).toInt64), h)))) = some (Int64.ofNat (vl b g v), h) := by
    intro v hv
    have e := jt_val hb g hv
    cases g with
    | false => rw [if_pos bI_f] at e ⊢; rw [e]
    | true => rw [if_neg bI_t] at e ⊢; rw [e]
  have E : fX8_truncated_b205 h a (Int32.ofInt b) (bI kp) (bI g) (Int64.ofNat L) = (if kp = true then some (Int64.ofNat (vl b g L), h) else some (0, pm_setI h a 0 3)) := by
    unfold fX8_truncated_b205 fX8_truncated_b215
    cases kp with
    | false =>
      rw [if_pos bI_f, if_pos k, if_pos bI_f, if_neg b_ft, show -(0 : Int64) = 0 by decide, jt_m0 hb]
      cases g <;> rfl
    | true =>
      rw [if_neg bI_t, if_neg bI_t, V L hL, if_pos b_tt]
  unfold fX8_truncated_b188
  rw [E]
  simp only [jr_let, c, bI_0]
  cases far with
  | true => rw [if_neg b_tf, if_pos (show true = true ∨ L < m from .inl rfl)]
  | false =>
    rw [if_pos b_ff]
    by_cases d : m ≤ L
    · have v := V m hm
      simp only [bI_0] at v
      rw [if_pos d, v, if_neg (show ¬ (false = true ∨ L < m) by simp; omega)]
    · rw [if_neg d, if_pos (show false = true ∨ L < m from .inr (by omega))]
theorem mtr_v {b : Nat} (hb : b = 32 ∨ b = 64) (H : pm_H) (v : Nat) : (if Int32.ofInt (b : Int) = 32 then (some ((Int64.ofNat v &&& 4294967295, H))) else (some ((Int64.ofNat v, H)))) = some (Int64.ofNat (v % 2 ^ b), H) := by
  rcases hb with rfl | rfl
  · rw [if_pos (show Int32.ofInt ((32 : Nat) : Int) = 32 from rfl), show (4294967295 : Int64) = Int64.ofNat (2 ^ 32 - 1) by decide, ll_mk _ _ (by decide)]
  · rw [if_neg (by decide), jl_wrap v]
theorem mtr_58 {H : pm_H} (O : mO H) {b : Nat} (hb : b = 32 ∨ b = 64) (s g be : Bool) (i0 : pm_I H 605 0 = bI g) {m : Nat} (hm : m < 18446744073709551616) : fX16_towards_b258 H 592 (Int32.ofInt b) (bI s) (Int64.ofNat m) ((1 : Int64) <<< ((Int32.ofInt (b : Int) - 1).toInt64 &&& 63)) (bI be) = some (Int64.ofNat (vl b g (if be = true then lm b s g else m)), H) := by
  obtain ⟨k, r1, r2, k1, k2⟩ := O
  unfold fX16_towards_b258 fX16_towards_b276
  simp only [k, r1, k1, i0, if_true, jr_bs, jr_let, bI_0]
  unfold vl
  cases be with
  | false =>
    cases g with
    | false => rw [if_pos b_ff, if_pos b_ff, mtr_v hb, if_neg b_ft, if_neg b_ft]
    | true => rw [if_neg b_tf, if_pos b_ff, jl_ng (by omega), mtr_v hb, if_pos b_tt, if_neg b_ft]
  | true =>
    have c32 : (Int32.ofInt ((32 : Nat) : Int) = 32) = True := eq_true rfl
    have c64 : (Int32.ofInt ((64 : Nat) : Int) = 32) = False := eq_false (by decide)
    rcases hb with rfl | rfl <;> cases g <;> cases s <;> simp only [c32, c64, if_true, if_false, reduceCtorEq] <;> exact congrArg (fun z => some (z, H)) (by decide +kernel)
