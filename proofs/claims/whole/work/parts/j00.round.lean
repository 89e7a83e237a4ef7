/-! NUMBERS: rounding as plain arithmetic. rd p em M E s: the bits (without sign; not yet held to INFINITE) of M * 2 ^ E, with something more behind it if s, rounded to p bits, the least unit being 2 ^ em -/
theorem jt_if {α : Type} {b c : Prop} [Decidable b] [Decidable c] {x y : α} (h : b ↔ c) : (if b then x else y) = if c then x else y := by
  by_cases q : b
  · rw [if_pos q, if_pos (h.mp q)]
  · rw [if_neg q, if_neg (fun z => q (h.mpr z))]
def nl (M : Nat) : Nat := if M = 0 then 0 else M.log2 + 1
theorem nl_0 : nl 0 = 0 := rfl
theorem nl_lt (M : Nat) : M < 2 ^ nl M := by
  unfold nl
  split
  · next h => subst h; decide
  · exact Nat.lt_log2_self
theorem nl_ge {M : Nat} (h : M ≠ 0) : 1 ≤ nl M ∧ 2 ^ (nl M - 1) ≤ M := by
  unfold nl
  rw [if_neg h]
  exact ⟨Nat.le_add_left _ _, Nat.log2_self_le h⟩
theorem nl_of {M L : Nat} (h1 : 2 ^ L ≤ M) (h2 : M < 2 ^ (L + 1)) : nl M = L + 1 := by
  have h : M ≠ 0 := by have := Nat.two_pow_pos L; omega
  unfold nl
  rw [if_neg h, (Nat.log2_eq_iff h).mpr ⟨h1, h2⟩]
theorem nl_le {M L : Nat} (h : M < 2 ^ L) : nl M ≤ L := by
  by_cases z : M = 0
  · subst z; exact Nat.zero_le _
  · unfold nl; rw [if_neg z]; exact (Nat.log2_lt z).mpr h
theorem nl_gt {M L : Nat} (h : 2 ^ L ≤ M) : L < nl M := by
  have z : M ≠ 0 := by have := Nat.two_pow_pos L; omega
  unfold nl; rw [if_neg z]; exact Nat.lt_succ_of_le ((Nat.le_log2 z).mpr h)
theorem nl_mul {M : Nat} (z : Nat) (h : M ≠ 0) : nl (M * 2 ^ z) = nl M + z := by
  obtain ⟨h1, h2⟩ := nl_ge h
  have h3 := nl_lt M
  have e : nl M - 1 + z + 1 = nl M + z := by omega
  rw [← e]
  refine nl_of ?_ ?_
  · rw [Nat.pow_add]; exact Nat.mul_le_mul_right _ h2
  · rw [e, Nat.pow_add]; exact Nat.mul_lt_mul_of_pos_right h3 (Nat.two_pow_pos z)
theorem nl_div {M k : Nat} (h : M / 2 ^ k ≠ 0) : nl (M / 2 ^ k) + k = nl M := by
  obtain ⟨h1, h2⟩ := nl_ge h
  have h3 := nl_lt (M / 2 ^ k)
  have p := Nat.two_pow_pos k
  have e : nl (M / 2 ^ k) - 1 + k + 1 = nl (M / 2 ^ k) + k := by omega
  have w : nl M = nl (M / 2 ^ k) - 1 + k + 1 := by
    refine nl_of ?_ ?_
    · rw [Nat.pow_add]; exact (Nat.le_div_iff_mul_le p).mp h2
    · rw [e, Nat.pow_add]; exact (Nat.div_lt_iff_lt_mul p).mp h3
  omega
def rd_q (p : Nat) (em : Int) (M : Nat) (E : Int) : Int := if E + nl M - p ≤ em then em else E + nl M - p
def rd_m (M k : Nat) (s : Bool) : Nat := if 2 ^ k < 2 * (M % 2 ^ k) ∨ (2 * (M % 2 ^ k) = 2 ^ k ∧ (s = true ∨ M / 2 ^ k % 2 = 1)) then M / 2 ^ k + 1 else M / 2 ^ k
def rd_s (p : Nat) (em : Int) (M : Nat) (E : Int) (s : Bool) : Nat := if rd_q p em M E ≤ E then M * 2 ^ (E - rd_q p em M E).toNat else rd_m M (rd_q p em M E - E).toNat s
def rd (p : Nat) (em : Int) (M : Nat) (E : Int) (s : Bool) : Nat := (rd_q p em M E - em).toNat * 2 ^ (p - 1) + rd_s p em M E s
theorem rd_q_c (p : Nat) (em : Int) (M : Nat) (E : Int) : (rd_q p em M E = em ∧ E + nl M - p ≤ em) ∨ (rd_q p em M E = E + nl M - p ∧ em < E + nl M - p) := by
  unfold rd_q
  split <;> omega
/-- cutting bits off leaves a trace -/
theorem rd_mk (M k j : Nat) (s : Bool) (hj : 1 ≤ j) : rd_m M (k + j) s = rd_m (M / 2 ^ k) j (s || decide (M % 2 ^ k ≠ 0)) := by
  obtain ⟨i, rfl⟩ : ∃ i, j = i + 1 := ⟨j - 1, by omega⟩
  have e1 : M / 2 ^ (k + (i + 1)) = M / 2 ^ k / 2 ^ (i + 1) := by rw [Nat.pow_add, Nat.div_div_eq_div_mul]
  have e2 : M % 2 ^ (k + (i + 1)) = M % 2 ^ k + 2 ^ k * (M / 2 ^ k % 2 ^ (i + 1)) := by rw [Nat.pow_add, Nat.mod_mul]
  have e3 : 2 ^ (k + (i + 1)) = 2 * (2 ^ k * 2 ^ i) := by rw [Nat.pow_add, Nat.pow_succ, ← Nat.mul_assoc, Nat.mul_comm]
  have e4 : 2 ^ (i + 1) = 2 * 2 ^ i := by rw [Nat.pow_succ, Nat.mul_comm]
  have hr1 : M % 2 ^ k < 2 ^ k := Nat.mod_lt _ (Nat.two_pow_pos k)
  unfold rd_m
  rw [e1, e2, e3]
  refine jt_if ?_
  generalize M / 2 ^ k / 2 ^ (i + 1) % 2 = o
  generalize M / 2 ^ k % 2 ^ (i + 1) = r2
  generalize M % 2 ^ k = r1 at hr1 ⊢
  rw [e4]
  rcases Nat.lt_trichotomy r2 (2 ^ i) with c | c | c
  · have w : 2 ^ k * r2 + 2 ^ k ≤ 2 ^ k * 2 ^ i := by
      have := Nat.mul_le_mul_left (2 ^ k) (show r2 + 1 ≤ 2 ^ i from c)
      rwa [Nat.mul_add, Nat.mul_one] at this
    constructor
    · rintro (h | ⟨h, -⟩) <;> exfalso <;> omega
    · rintro (h | ⟨h, -⟩) <;> exfalso <;> omega
  · subst c
    constructor
    · rintro (h | ⟨h, h'⟩)
      · exact .inr ⟨rfl, .inl (by have : r1 ≠ 0 := by omega
                                  simp [this])⟩
      · refine .inr ⟨rfl, ?_⟩
        rcases h' with h' | h'
        · exact .inl (by simp [h'])
        · exact .inr h'
    · rintro (h | ⟨-, h'⟩)
      · exfalso; omega
      · by_cases z : r1 = 0
        · refine .inr ⟨by omega, ?_⟩
          rcases h' with h' | h'
          · exact .inl (by simpa [z] using h')
          · exact .inr h'
        · exact .inl (by omega)
  · have w : 2 ^ k * 2 ^ i + 2 ^ k ≤ 2 ^ k * r2 := by
      have := Nat.mul_le_mul_left (2 ^ k) (show 2 ^ i + 1 ≤ r2 from c)
      rwa [Nat.mul_add, Nat.mul_one] at this
    have p := Nat.two_pow_pos k
    exact ⟨fun _ => .inl (by omega), fun _ => .inl (by omega)⟩
theorem rd_q_div {p : Nat} {em : Int} {M : Nat} {E : Int} {k : Nat} (c : E + k + 1 ≤ rd_q p em M E) : rd_q p em (M / 2 ^ k) (E + k) = rd_q p em M E := by
  have a := rd_q_c p em M E
  have b := rd_q_c p em (M / 2 ^ k) (E + k)
  by_cases z : M / 2 ^ k = 0
  · have h : nl M ≤ k := nl_le ((Nat.div_eq_zero_iff_lt (Nat.two_pow_pos k)).mp z)
    rw [z, nl_0] at b
    rw [z]
    omega
  · have h := nl_div z
    omega
theorem rd_odd {p : Nat} {em : Int} {M : Nat} {E : Int} {s : Bool} {k : Nat} (c : E + k + 1 ≤ rd_q p em M E) : rd p em M E s = rd p em (M / 2 ^ k) (E + k) (s || decide (M % 2 ^ k ≠ 0)) := by
  have hq := rd_q_div c
  unfold rd rd_s
  rw [hq, if_neg (by omega), if_neg (by omega)]
  have e : (rd_q p em M E - E).toNat = k + (rd_q p em M E - (E + k)).toNat := by omega
  rw [e, rd_mk _ _ _ _ (by omega)]
/-- the trace as the lowest bit -/
def od (M : Nat) (s : Bool) : Nat := if s = true ∧ M % 2 = 0 then M + 1 else M
theorem od_f (M : Nat) : od M false = M := if_neg (fun h => by cases h.1)
theorem od_nl {M : Nat} (s : Bool) (h : M ≠ 0) : nl (od M s) = nl M := by
  unfold od
  split
  · next c =>
    obtain ⟨h1, h2⟩ := nl_ge h
    have h3 := nl_lt M
    have e : 2 ^ nl M = 2 * 2 ^ (nl M - 1) := by
      have := Nat.pow_succ' (n := nl M - 1) (m := 2)
      rwa [show (nl M - 1).succ = nl M by omega] at this
    have w := nl_of (M := M + 1) (L := nl M - 1) (by omega) (by rw [show nl M - 1 + 1 = nl M by omega]; omega)
    omega
  · rfl
theorem rd_q_od {p : Nat} {em : Int} {M : Nat} {E : Int} (s : Bool) (hp : 1 ≤ p) (c : E + 2 ≤ rd_q p em M E) : rd_q p em (od M s) E = rd_q p em M E := by
  by_cases z : M = 0
  · subst z
    have w : nl (od 0 s) ≤ 1 := by cases s <;> decide
    have a := rd_q_c p em 0 E
    have b := rd_q_c p em (od 0 s) E
    rw [nl_0] at a
    omega
  · unfold rd_q
    rw [od_nl s z]
theorem rd_m_od (M j : Nat) (s : Bool) (hj : 2 ≤ j) : rd_m M j s = rd_m (od M s) j false := by
  obtain ⟨i, rfl⟩ : ∃ i, j = i + 2 := ⟨j - 2, by omega⟩
  cases s with
  | false => rw [od_f]
  | true =>
    have e : 2 ^ (i + 2) = 4 * 2 ^ i := by rw [Nat.pow_succ, Nat.pow_succ]; omega
    have p := Nat.two_pow_pos i
    have md : M % 2 ^ (i + 2) % 2 = M % 2 := Nat.mod_mod_of_dvd _ ⟨2 * 2 ^ i, by omega⟩
    have r0 : M % 2 ^ (i + 2) < 2 ^ (i + 2) := Nat.mod_lt _ (by omega)
    have dm := Nat.div_add_mod M (2 ^ (i + 2))
    by_cases c : M % 2 = 0
    · have o : od M true = M + 1 := if_pos ⟨rfl, c⟩
      have dv : (M + 1) / 2 ^ (i + 2) = M / 2 ^ (i + 2) ∧ (M + 1) % 2 ^ (i + 2) = M % 2 ^ (i + 2) + 1 := (Nat.div_mod_unique (by omega)).mpr ⟨by omega, by omega⟩
      unfold rd_m
      rw [o, dv.1, dv.2]
      refine jt_if ?_
      generalize M % 2 ^ (i + 2) = r at *
      constructor
      · rintro (h | ⟨h, -⟩)
        · exact .inl (by omega)
        · exact .inl (by omega)
      · rintro (h | ⟨h, -⟩)
        · by_cases z : 2 * r = 2 ^ (i + 2)
          · exact .inr ⟨z, .inl rfl⟩
          · exact .inl (by omega)
        · exfalso; omega
    · have o : od M true = M := if_neg (fun h => c h.2)
      unfold rd_m
      rw [o]
      refine jt_if ?_
      generalize M % 2 ^ (i + 2) = r at *
      constructor
      · rintro (h | ⟨h, -⟩)
        · exact .inl h
        · exfalso; omega
      · rintro (h | ⟨h, -⟩)
        · exact .inl h
        · exact .inr ⟨h, .inl rfl⟩
theorem rd_od {p : Nat} {em : Int} {M : Nat} {E : Int} (s : Bool) (hp : 1 ≤ p) (c : E + 2 ≤ rd_q p em M E) : rd p em M E s = rd p em (od M s) E false := by
  unfold rd rd_s
  rw [rd_q_od s hp c, if_neg (by omega), if_neg (by omega), rd_m_od _ _ _ (by omega)]
theorem rd_m_mul (N k : Nat) (s : Bool) : rd_m (N * 2 ^ k) k s = N := by
  have p := Nat.two_pow_pos k
  unfold rd_m
  rw [Nat.mul_mod_left, Nat.mul_div_cancel _ p, if_neg]
  rintro (h | ⟨h, -⟩) <;> omega
/-- an exact number may be told with more zeros -/
theorem rd_ex {p : Nat} {em : Int} {M : Nat} {E : Int} (z : Nat) (h : M ≠ 0) : rd p em (M * 2 ^ z) (E - z) false = rd p em M E false := by
  have hq : rd_q p em (M * 2 ^ z) (E - z) = rd_q p em M E := by
    have a := rd_q_c p em M E
    have b := rd_q_c p em (M * 2 ^ z) (E - z)
    rw [nl_mul z h] at b
    omega
  unfold rd rd_s
  rw [hq]
  generalize rd_q p em M E = q
  congr 1
  by_cases c1 : q ≤ E - z
  · rw [if_pos c1, if_pos (by omega), Nat.mul_assoc, ← Nat.pow_add]
    congr 2
    omega
  · rw [if_neg c1]
    by_cases c2 : q ≤ E
    · rw [if_pos c2]
      obtain ⟨w, hw⟩ : ∃ w, z = w + (q - (E - z)).toNat := ⟨z - (q - (E - z)).toNat, by omega⟩
      have e : M * 2 ^ z = M * 2 ^ w * 2 ^ (q - (E - z)).toNat := by rw [Nat.mul_assoc, ← Nat.pow_add, ← hw]
      rw [e, rd_m_mul]
      congr 2
      omega
    · rw [if_neg c2, show (q - (E - z)).toNat = z + (q - E).toNat by omega, rd_mk _ _ _ _ (by omega), Nat.mul_div_cancel _ (Nat.two_pow_pos z), Nat.mul_mod_left]
      rfl
theorem rd_s_le {p : Nat} {em : Int} {M : Nat} {E : Int} (s : Bool) : rd_s p em M E s ≤ 2 ^ p := by
  have a := rd_q_c p em M E
  have h3 := nl_lt M
  unfold rd_s
  split
  · next c =>
    refine Nat.le_of_lt (Nat.lt_of_lt_of_le (Nat.mul_lt_mul_of_pos_right h3 (Nat.two_pow_pos _)) ?_)
    rw [← Nat.pow_add]
    exact Nat.pow_le_pow_right (by decide) (by omega)
  · next c =>
    have w : M / 2 ^ (rd_q p em M E - E).toNat < 2 ^ p := by
      rw [Nat.div_lt_iff_lt_mul (Nat.two_pow_pos _), ← Nat.pow_add]
      exact Nat.lt_of_lt_of_le h3 (Nat.pow_le_pow_right (by decide) (by omega))
    unfold rd_m
    split <;> omega
theorem rd_s_ge {p : Nat} {em : Int} {M : Nat} {E : Int} (s : Bool) (hp : 1 ≤ p) (h : M ≠ 0) (c0 : em < rd_q p em M E) : 2 ^ (p - 1) ≤ rd_s p em M E s := by
  have a := rd_q_c p em M E
  obtain ⟨h1, h2⟩ := nl_ge h
  unfold rd_s
  split
  · next c =>
    refine Nat.le_trans ?_ (Nat.mul_le_mul_right _ h2)
    rw [← Nat.pow_add]
    exact Nat.pow_le_pow_right (by decide) (by omega)
  · next c =>
    have w : 2 ^ (p - 1) ≤ M / 2 ^ (rd_q p em M E - E).toNat := by
      rw [Nat.le_div_iff_mul_le (Nat.two_pow_pos _), ← Nat.pow_add]
      exact Nat.le_trans (Nat.pow_le_pow_right (by decide) (by omega)) h2
    unfold rd_m
    split <;> omega
/-- the way from a significand and a unit to the bits, as both programs go it -/
def jk (p : Nat) (em : Int) (top : Nat) (q : Int) (m : Nat) : Nat := if m < 2 ^ (p - 1) then m else if (top : Int) ≤ q - em + 1 then top * 2 ^ (p - 1) else (q - em + 1).toNat * 2 ^ (p - 1) + (m - 2 ^ (p - 1))
def jk2 (p : Nat) (em : Int) (top : Nat) (q : Int) (m : Nat) : Nat := if m = 2 ^ p then jk p em top (q + 1) (m / 2) else jk p em top q m
theorem jk_eq {p : Nat} {em : Int} {top : Nat} {q : Int} {m : Nat} (hp : 1 ≤ p) (h1 : em ≤ q) (h2 : m ≤ 2 ^ p) (h3 : em < q → 2 ^ (p - 1) ≤ m) (ht : 1 ≤ top) : jk2 p em top q m = min ((q - em).toNat * 2 ^ (p - 1) + m) (top * 2 ^ (p - 1)) := by
  obtain ⟨r, rfl⟩ : ∃ r, p = r + 1 := ⟨p - 1, by omega⟩
  rw [Nat.add_sub_cancel] at h3 ⊢
  have e : 2 ^ (r + 1) = 2 * 2 ^ r := by rw [Nat.pow_succ, Nat.mul_comm]
  have pp := Nat.two_pow_pos r
  obtain ⟨u, hu⟩ : ∃ u : Nat, q = em + u := ⟨(q - em).toNat, by omega⟩
  subst hu
  have e1 : (em + (u : Int) - em).toNat = u := by omega
  rw [e1]
  unfold jk2 jk
  rw [Nat.add_sub_cancel, e]
  by_cases c : m = 2 * 2 ^ r
  · rw [if_pos c, if_neg (by omega)]
    by_cases c2 : (top : Int) ≤ em + (u : Int) + 1 - em + 1
    · rw [if_pos c2]
      have w : top * 2 ^ r ≤ (u + 2) * 2 ^ r := Nat.mul_le_mul_right _ (by omega)
      rw [Nat.add_mul] at w
      omega
    · rw [if_neg c2, show (em + (u : Int) + 1 - em + 1).toNat = u + 2 by omega]
      have w : (u + 2) * 2 ^ r ≤ top * 2 ^ r := Nat.mul_le_mul_right _ (by omega)
      rw [Nat.add_mul] at w ⊢
      omega
  · rw [if_neg c]
    by_cases c1 : m < 2 ^ r
    · rw [if_pos c1]
      have u0 : u = 0 := by
        rcases Nat.eq_zero_or_pos u with z | z
        · exact z
        · have := h3 (by omega); omega
      have w : 1 * 2 ^ r ≤ top * 2 ^ r := Nat.mul_le_mul_right _ ht
      rw [u0]
      omega
    · rw [if_neg c1]
      by_cases c2 : (top : Int) ≤ em + (u : Int) - em + 1
      · rw [if_pos c2]
        have w : top * 2 ^ r ≤ (u + 1) * 2 ^ r := Nat.mul_le_mul_right _ (by omega)
        rw [Nat.add_mul] at w
        omega
      · rw [if_neg c2, show (em + (u : Int) - em + 1).toNat = u + 1 by omega]
        have w : (u + 2) * 2 ^ r ≤ top * 2 ^ r := Nat.mul_le_mul_right _ (by omega)
        rw [Nat.add_mul] at w
        rw [Nat.add_mul]
        omega
theorem jk_rd {p : Nat} {em : Int} {top M : Nat} {E : Int} (s : Bool) (hp : 1 ≤ p) (h : M ≠ 0) (ht : 1 ≤ top) : jk2 p em top (rd_q p em M E) (rd_s p em M E s) = min (rd p em M E s) (top * 2 ^ (p - 1)) := by
  have a := rd_q_c p em M E
  exact jk_eq hp (by omega) (rd_s_le s) (fun c => rd_s_ge s hp h c) ht
/-- what a floating value is comes back -/
theorem rd_own0 {p : Nat} {em : Int} {f : Nat} (h : f ≠ 0) (hf : f < 2 ^ (p - 1)) : rd p em f em false = f := by
  have a := rd_q_c p em f em
  have b := nl_le hf
  have q : rd_q p em f em = em := by omega
  unfold rd rd_s
  rw [q, if_pos (Int.le_refl _), Int.sub_self]
  show 0 * 2 ^ (p - 1) + f * 2 ^ 0 = f
  rw [Nat.pow_zero, Nat.mul_one, Nat.zero_mul, Nat.zero_add]
theorem rd_own1 {p : Nat} {em : Int} {f e : Nat} (hp : 1 ≤ p) (he : 1 ≤ e) (hf : f < 2 ^ (p - 1)) : rd p em (2 ^ (p - 1) + f) (em + e - 1) false = e * 2 ^ (p - 1) + f := by
  obtain ⟨r, rfl⟩ : ∃ r, p = r + 1 := ⟨p - 1, by omega⟩
  rw [Nat.add_sub_cancel] at hf ⊢
  have e2 : 2 ^ (r + 1) = 2 * 2 ^ r := by rw [Nat.pow_succ, Nat.mul_comm]
  have n := nl_of (M := 2 ^ r + f) (L := r) (by omega) (by omega)
  have a := rd_q_c (r + 1) em (2 ^ r + f) (em + e - 1)
  have q : rd_q (r + 1) em (2 ^ r + f) (em + e - 1) = em + e - 1 := by omega
  unfold rd rd_s
  rw [q, if_pos (Int.le_refl _), Int.sub_self, Nat.add_sub_cancel]
  obtain ⟨w, rfl⟩ : ∃ w, e = w + 1 := ⟨e - 1, by omega⟩
  rw [show (em + ((w + 1 : Nat) : Int) - 1 - em).toNat = w by omega]
  show w * 2 ^ r + (2 ^ r + f) * 2 ^ 0 = (w + 1) * 2 ^ r + f
  rw [Nat.pow_zero, Nat.mul_one, Nat.add_mul]
  omega
