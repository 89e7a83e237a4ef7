/-! NUMBERS: sums as plain arithmetic -/
def fg (w p : Nat) (em : Int) (top : Nat) (g1 : Bool) (a : Nat) (g2 : Bool) (b : Nat) (E : Int) : Nat := if g1 = g2 then fl w p em top g1 (a + b) E false else if a = b then 0 else if b < a then fl w p em top g1 (a - b) E false else fl w p em top g2 (b - a) E false
theorem fg_sw {w p : Nat} {em : Int} {top : Nat} (g1 : Bool) (a : Nat) (g2 : Bool) (b : Nat) (E : Int) : fg w p em top g1 a g2 b E = fg w p em top g2 b g1 a E := by
  unfold fg
  by_cases c : g1 = g2
  · subst c
    rw [if_pos rfl, if_pos rfl, Nat.add_comm]
  · rw [if_neg c, if_neg (show ¬ g2 = g1 from fun z => c z.symm)]
    by_cases d : a = b
    · rw [if_pos d, if_pos d.symm]
    · rw [if_neg d, if_neg (show ¬ b = a from fun z => d z.symm)]
      by_cases e : b < a
      · rw [if_pos e, if_neg (show ¬ a < b by omega)]
      · rw [if_neg e, if_pos (show a < b by omega)]
theorem fg_ex {w p : Nat} {em : Int} {top : Nat} (g1 : Bool) {a : Nat} (g2 : Bool) (b : Nat) (E : Int) (z : Nat) (ha : a ≠ 0) : fg w p em top g1 (a * 2 ^ z) g2 (b * 2 ^ z) (E - z) = fg w p em top g1 a g2 b E := by
  have p := Nat.two_pow_pos z
  unfold fg
  by_cases c : g1 = g2
  · rw [if_pos c, if_pos c, ← Nat.add_mul, fl_ex z (by omega)]
  · rw [if_neg c, if_neg c]
    by_cases d : a = b
    · rw [if_pos d, if_pos (show a * 2 ^ z = b * 2 ^ z by rw [d])]
    · rw [if_neg d, if_neg (show ¬ a * 2 ^ z = b * 2 ^ z from fun q => d (Nat.eq_of_mul_eq_mul_right p q))]
      by_cases e : b < a
      · rw [if_pos e, if_pos (Nat.mul_lt_mul_of_pos_right e p), ← Nat.sub_mul, fl_ex z (by omega)]
      · rw [if_neg e, if_neg (show ¬ b * 2 ^ z < a * 2 ^ z from fun q => e (Nat.lt_of_mul_lt_mul_right q)), ← Nat.sub_mul, fl_ex z (by omega)]
theorem od_ad {a B k : Nat} (h2 : a % 2 = 0) : od ((a * 2 ^ k + B) / 2 ^ k) (decide ((a * 2 ^ k + B) % 2 ^ k ≠ 0)) = a + od (B / 2 ^ k) (decide (B % 2 ^ k ≠ 0)) := by
  have p := Nat.two_pow_pos k
  rw [Nat.add_comm, Nat.add_mul_div_right _ _ p, Nat.add_mul_mod_self_right]
  unfold od
  by_cases c : decide (B % 2 ^ k ≠ 0) = true
  · by_cases d : B / 2 ^ k % 2 = 0
    · rw [if_pos ⟨c, by omega⟩, if_pos ⟨c, d⟩]
      omega
    · rw [if_neg (fun z => by omega), if_neg (fun z => d z.2)]
      omega
  · rw [if_neg (fun z => c z.1), if_neg (fun z => c z.1)]
    omega
theorem od_sb {a B k : Nat} (h2 : a % 2 = 0) (h : B / 2 ^ k < a) : od ((a * 2 ^ k - B) / 2 ^ k) (decide ((a * 2 ^ k - B) % 2 ^ k ≠ 0)) = a - od (B / 2 ^ k) (decide (B % 2 ^ k ≠ 0)) := by
  have p := Nat.two_pow_pos k
  have dm := Nat.div_add_mod B (2 ^ k)
  have ml := Nat.mod_lt B p
  rw [Nat.mul_comm] at dm
  by_cases c : B % 2 ^ k = 0
  · have e : a * 2 ^ k - B = (a - B / 2 ^ k) * 2 ^ k := by
      rw [Nat.sub_mul]
      omega
    rw [e, Nat.mul_div_cancel _ p, Nat.mul_mod_left, c]
    unfold od
    rw [if_neg (fun z => by simp at z), if_neg (fun z => by simp at z)]
  · have w : (B / 2 ^ k + 1) * 2 ^ k ≤ a * 2 ^ k := Nat.mul_le_mul_right _ (by omega)
    rw [Nat.add_mul, Nat.one_mul] at w
    have e : (a * 2 ^ k - B) / 2 ^ k = a - B / 2 ^ k - 1 ∧ (a * 2 ^ k - B) % 2 ^ k = 2 ^ k - B % 2 ^ k := by
      refine (Nat.div_mod_unique p).mpr ⟨?_, by omega⟩
      rw [Nat.mul_comm, Nat.sub_mul, Nat.sub_mul, Nat.one_mul]
      omega
    rw [e.1, e.2]
    unfold od
    have t1 : decide (B % 2 ^ k ≠ 0) = true := decide_eq_true c
    have t2 : decide (2 ^ k - B % 2 ^ k ≠ 0) = true := decide_eq_true (by omega)
    by_cases d : B / 2 ^ k % 2 = 0
    · rw [if_neg (fun z => by omega), if_pos ⟨t1, d⟩]
      omega
    · rw [if_pos ⟨t2, by omega⟩, if_neg (fun z => d z.2)]
      omega
theorem fg_odd {w p : Nat} {em : Int} {top : Nat} (g1 : Bool) {a : Nat} (g2 : Bool) {B k : Nat} (E : Int) (hp : 1 ≤ p) (h2 : a % 2 = 0) (h : 2 ^ (p + 1) + (B / 2 ^ k + 1) ≤ a) : fg w p em top g1 a g2 (od (B / 2 ^ k) (decide (B % 2 ^ k ≠ 0))) (E + k) = fg w p em top g1 (a * 2 ^ k) g2 B E := by
  have pk := Nat.two_pow_pos k
  have pp := Nat.two_pow_pos (p + 1)
  have pq := Nat.two_pow_pos (p + 1 + k)
  have dm := Nat.div_add_mod B (2 ^ k)
  have ml := Nat.mod_lt B pk
  rw [Nat.mul_comm] at dm
  have ob : od (B / 2 ^ k) (decide (B % 2 ^ k ≠ 0)) ≤ B / 2 ^ k + 1 := by
    unfold od
    split <;> omega
  have w1 : (2 ^ (p + 1) + (B / 2 ^ k + 1)) * 2 ^ k ≤ a * 2 ^ k := Nat.mul_le_mul_right _ h
  rw [Nat.add_mul, Nat.add_mul, Nat.one_mul, ← Nat.pow_add] at w1
  have m1 := nl_gt (M := a * 2 ^ k + B) (L := p + 1 + k) (by omega)
  have m2 := nl_gt (M := a * 2 ^ k - B) (L := p + 1 + k) (by omega)
  have n1 : p + k + 2 ≤ nl (a * 2 ^ k + B) := by omega
  have n2 : p + k + 2 ≤ nl (a * 2 ^ k - B) := by omega
  unfold fg
  by_cases c : g1 = g2
  · rw [if_pos c, if_pos c, ← fl_odd hp n1, od_ad h2]
  · rw [if_neg c, if_neg c, if_neg (show ¬ a = od (B / 2 ^ k) (decide (B % 2 ^ k ≠ 0)) by omega), if_neg (show ¬ a * 2 ^ k = B by omega), if_pos (show od (B / 2 ^ k) (decide (B % 2 ^ k ≠ 0)) < a by omega), if_pos (show B < a * 2 ^ k by omega), ← fl_odd hp n2, od_sb h2 (by omega)]
