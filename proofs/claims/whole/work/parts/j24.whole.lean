/-! NUMBERS: to whole numbers -/
def wu (k : Nat) (g : Bool) (w r H : Nat) : Bool := decide (r ≠ 0 ∧ ((k = 0 ∧ g = false) ∨ (k = 1 ∧ g = true) ∨ (k = 3 ∧ (H < r ∨ (r = H ∧ w % 2 = 1)))))
theorem wu_z (k : Nat) (g : Bool) (w r H z : Nat) : wu k g w (r * 2 ^ z) (H * 2 ^ z) = wu k g w r H := by
  have p := Nat.two_pow_pos z
  have e1 : (r * 2 ^ z ≠ 0) = (r ≠ 0) := propext ⟨fun q e => q (by rw [e, Nat.zero_mul]), fun q => Nat.mul_ne_zero q (by omega)⟩
  have e2 : (H * 2 ^ z < r * 2 ^ z) = (H < r) := propext (Nat.mul_lt_mul_right p)
  have e3 : (r * 2 ^ z = H * 2 ^ z) = (r = H) := propext ⟨fun q => Nat.eq_of_mul_eq_mul_right p q, fun q => by rw [q]⟩
  unfold wu
  simp only [e1, e2, e3]
theorem jk_i {k j : Nat} (hk : k ≤ 20) (hj : j ≤ 20) : (Int32.ofInt (k : Int) = Int32.ofInt (j : Int)) = (k = j) := by
  rw [zz_eq (by omega) (by omega) (by omega) (by omega)]
  exact propext ⟨fun z => by omega, fun z => by omega⟩
def wo2 (k X : Nat) : Nat := if so2 X = 3 then 2143289344 else if so2 X ≠ 0 ∨ 0 ≤ pw2 X then X else f2 (ng2 X) (if wu k (ng2 X) (wh2 X / 2 ^ (-pw2 X).toNat) (wh2 X % 2 ^ (-pw2 X).toNat) (2 ^ ((-pw2 X).toNat - 1)) = true then wh2 X / 2 ^ (-pw2 X).toNat + 1 else wh2 X / 2 ^ (-pw2 X).toNat) 0 false
theorem own2 {X : Nat} (h : X < 4294967296) (s : so2 X = 0) : f2 (ng2 X) (wh2 X) (pw2 X) false = X := by
  have cX := so2_c X
  have xs : X % 2147483648 = ex2 X * 8388608 + fr2 X := by unfold ex2 fr2; omega
  have fb : fr2 X < 8388608 := by unfold fr2; omega
  have w0 := wh2_0 (X := X) (by omega)
  have r : rd 24 (-149) (wh2 X) (pw2 X) false = X % 2147483648 := by
    unfold wh2 pw2
    by_cases c : ex2 X = 0
    · rw [if_pos c, if_pos c, show (1 : Int) + (-149) - 1 = (-149) by omega, xs, c]
      have f0 : fr2 X ≠ 0 := by intro z; rw [c, z] at xs; omega
      rw [rd_own0 f0 (by exact fb)]
      omega
    · have o := rd_own1 (p := 24) (em := (-149)) (f := fr2 X) (e := ex2 X) (by decide) (by omega) (by exact fb)
      rw [show (2 : Nat) ^ (24 - 1) = 8388608 by decide] at o
      rw [if_neg c, if_neg c, xs, Nat.add_comm (fr2 X) 8388608, show (ex2 X : Int) + (-149) - 1 = (-149) + ex2 X - 1 by omega, o]
  unfold f2 fl
  rw [if_neg w0, r, Nat.min_eq_left (by rw [show 255 * 2 ^ (24 - 1) = 2139095040 by decide]; omega)]
  exact sg2_x h
theorem mo2_b {H : pm_H} (O : mO H) {g : Bool} (i0 : pm_I H 605 0 = bI g) {k w r hf : Nat} (hk : k ≤ 3) (hw : w < 9007199254740992) (hr : r < 9223372036854775808) (hh : hf < 9223372036854775808) : fX16_wholeOf_b131 H 592 (Int32.ofInt k) 2 (Int64.ofNat w) (Int64.ofNat r) (Int64.ofNat hf) = some (Int64.ofNat (f2 g (if wu k g w r hf = true then w + 1 else w) 0 false), H) := by
  obtain ⟨kk, r1, r2, k1, k2⟩ := O
  have E : ∀ W : Nat, W < 9007199254740993 → (if Int64.ofNat W = 0 then (if pm_kd H 592 = 16 then (pm_R H 592 34).bind fun v51 => if pm_kd H v51 = 15 then pm_let (fX16_withSign 2 (pm_I H v51 0) 0) fun v54 => some ((v54, H)) else none else none) else (if pm_kd H 592 = 16 then (pm_R H 592 34).bind fun v45 => if pm_kd H v45 = 15 then (fX16_rounded 2 (pm_I H v45 0) 0 (Int64.ofNat W) 0 0).bind fun v48 => some ((v48, H)) else none else none)) = some (Int64.ofNat (f2 g W 0 false), H) := by
    intro W hW
    have z : (Int64.ofNat W = 0) = (W = 0) := by rw [n6_0, jl_eq (by omega) (by decide)]
    simp only [kk, r1, k1, i0, jr_bs, jr_let, if_true, z]
    by_cases c : W = 0
    · rw [if_pos c, show fX16_withSign 2 (bI g) 0 = Int64.ofNat (sg2 g) from mw2 g (a := 0) (by decide), c]
      unfold f2 fl
      rw [if_pos rfl]
      rfl
    · have R := mr2 g false (hi := 0) (lo := W) (M := W) (E := 0) (by decide) (by omega) (by rw [Nat.zero_mul, Nat.zero_add]) c (by decide) (by decide)
      rw [show Int64.ofNat 0 = 0 from rfl, show Int32.ofInt 0 = 0 from rfl, show bI false = 0 from rfl] at R
      rw [if_neg c, R, jr_bs]
  have E0 : fX16_wholeOf_b204 H 592 2 (Int64.ofNat w) 0 = some (Int64.ofNat (f2 g w 0 false), H) := by
    unfold fX16_wholeOf_b204
    rw [if_pos rfl]
    exact E w (by omega)
  have E1 : fX16_wholeOf_b204 H 592 2 (Int64.ofNat w) 1 = some (Int64.ofNat (f2 g (w + 1) 0 false), H) := by
    unfold fX16_wholeOf_b204
    rw [if_neg (by decide), jr_let, n6_1, ll_ad]
    exact E (w + 1) (by omega)
  have z : (Int64.ofNat r = 0) = (r = 0) := by rw [n6_0, jl_eq (by omega) (by decide)]
  have l : (Int64.ofNat hf < Int64.ofNat r) = (hf < r) := ll_lt hh hr
  have e : (Int64.ofNat r = Int64.ofNat hf) = (r = hf) := jl_eq (by omega) (by omega)
  have o : (Int64.ofNat w &&& 1 = 1) = (w % 2 = 1) := jw_1 w
  have q0 : (Int32.ofInt (k : Int) = 0) = (k = 0) := jk_i (j := 0) (by omega) (by decide)
  have q1 : (Int32.ofInt (k : Int) = 1) = (k = 1) := jk_i (j := 1) (by omega) (by decide)
  have q3 : (Int32.ofInt (k : Int) = 3) = (k = 3) := jk_i (j := 3) (by omega) (by decide)
  unfold fX16_wholeOf_b131 fX16_wholeOf_b154 fX16_wholeOf_b169 fX16_wholeOf_b203 fX16_wholeOf_b199
  simp only [kk, r1, k1, i0, jr_bs, if_true, z, l, e, o, q0, q1, q3, bI_0, E0, E1]
  unfold wu
  by_cases c1 : r = 0
  · simp [c1]
  by_cases c2 : k = 0
  · cases g <;> simp [c1, c2]
  by_cases c3 : k = 1
  · cases g <;> simp [c1, c2, c3]
  by_cases c4 : k = 3
  · by_cases d1 : hf < r
    · simp [c1, c2, c3, c4, d1]
    · by_cases d2 : r = hf
      · by_cases d3 : w % 2 = 1
        · simp [c1, c2, c3, c4, d1, d2, d3]
          split <;> rfl
        · simp [c1, c2, c3, c4, d1, d2, d3]
      · simp [c1, c2, c3, c4, d1, d2]
  · simp [c1, c2, c3, c4]
def wo3 (k X : Nat) : Nat := if so3 X = 3 then 9221120237041090560 else if so3 X ≠ 0 ∨ 0 ≤ pw3 X then X else f3 (ng3 X) (if wu k (ng3 X) (wh3 X / 2 ^ (-pw3 X).toNat) (wh3 X % 2 ^ (-pw3 X).toNat) (2 ^ ((-pw3 X).toNat - 1)) = true then wh3 X / 2 ^ (-pw3 X).toNat + 1 else wh3 X / 2 ^ (-pw3 X).toNat) 0 false
theorem own3 {X : Nat} (h : X < 18446744073709551616) (s : so3 X = 0) : f3 (ng3 X) (wh3 X) (pw3 X) false = X := by
  have cX := so3_c X
  have xs : X % 9223372036854775808 = ex3 X * 4503599627370496 + fr3 X := by unfold ex3 fr3; omega
  have fb : fr3 X < 4503599627370496 := by unfold fr3; omega
  have w0 := wh3_0 (X := X) (by omega)
  have r : rd 53 (-1074) (wh3 X) (pw3 X) false = X % 9223372036854775808 := by
    unfold wh3 pw3
    by_cases c : ex3 X = 0
    · rw [if_pos c, if_pos c, show (1 : Int) + (-1074) - 1 = (-1074) by omega, xs, c]
      have f0 : fr3 X ≠ 0 := by intro z; rw [c, z] at xs; omega
      rw [rd_own0 f0 (by exact fb)]
      omega
    · have o := rd_own1 (p := 53) (em := (-1074)) (f := fr3 X) (e := ex3 X) (by decide) (by omega) (by exact fb)
      rw [show (2 : Nat) ^ (53 - 1) = 4503599627370496 by decide] at o
      rw [if_neg c, if_neg c, xs, Nat.add_comm (fr3 X) 4503599627370496, show (ex3 X : Int) + (-1074) - 1 = (-1074) + ex3 X - 1 by omega, o]
  unfold f3 fl
  rw [if_neg w0, r, Nat.min_eq_left (by rw [show 2047 * 2 ^ (53 - 1) = 9218868437227405312 by decide]; omega)]
  exact sg3_x h
theorem mo3_b {H : pm_H} (O : mO H) {g : Bool} (i0 : pm_I H 605 0 = bI g) {k w r hf : Nat} (hk : k ≤ 3) (hw : w < 9007199254740992) (hr : r < 9223372036854775808) (hh : hf < 9223372036854775808) : fX16_wholeOf_b131 H 592 (Int32.ofInt k) 3 (Int64.ofNat w) (Int64.ofNat r) (Int64.ofNat hf) = some (Int64.ofNat (f3 g (if wu k g w r hf = true then w + 1 else w) 0 false), H) := by
  obtain ⟨kk, r1, r2, k1, k2⟩ := O
  have E : ∀ W : Nat, W < 9007199254740993 → (if Int64.ofNat W = 0 then (if pm_kd H 592 = 16 then (pm_R H 592 34).bind fun v51 => if pm_kd H v51 = 15 then pm_let (fX16_withSign 3 (pm_I H v51 0) 0) fun v54 => some ((v54, H)) else none else none) else (if pm_kd H 592 = 16 then (pm_R H 592 34).bind fun v45 => if pm_kd H v45 = 15 then (fX16_rounded 3 (pm_I H v45 0) 0 (Int64.ofNat W) 0 0).bind fun v48 => some ((v48, H)) else none else none)) = some (Int64.ofNat (f3 g W 0 false), H) := by
    intro W hW
    have z : (Int64.ofNat W = 0) = (W = 0) := by rw [n6_0, jl_eq (by omega) (by decide)]
    simp only [kk, r1, k1, i0, jr_bs, jr_let, if_true, z]
    by_cases c : W = 0
    · rw [if_pos c, show fX16_withSign 3 (bI g) 0 = Int64.ofNat (sg3 g) from mw3 g (a := 0) (by decide), c]
      unfold f3 fl
      rw [if_pos rfl]
      rfl
    · have R := mr3 g false (hi := 0) (lo := W) (M := W) (E := 0) (by decide) (by omega) (by rw [Nat.zero_mul, Nat.zero_add]) c (by decide) (by decide)
      rw [show Int64.ofNat 0 = 0 from rfl, show Int32.ofInt 0 = 0 from rfl, show bI false = 0 from rfl] at R
      rw [if_neg c, R, jr_bs]
  have E0 : fX16_wholeOf_b204 H 592 3 (Int64.ofNat w) 0 = some (Int64.ofNat (f3 g w 0 false), H) := by
    unfold fX16_wholeOf_b204
    rw [if_pos rfl]
    exact E w (by omega)
  have E1 : fX16_wholeOf_b204 H 592 3 (Int64.ofNat w) 1 = some (Int64.ofNat (f3 g (w + 1) 0 false), H) := by
    unfold fX16_wholeOf_b204
    rw [if_neg (by decide), jr_let, n6_1, ll_ad]
    exact E (w + 1) (by omega)
  have z : (Int64.ofNat r = 0) = (r = 0) := by rw [n6_0, jl_eq (by omega) (by decide)]
  have l : (Int64.ofNat hf < Int64.ofNat r) = (hf < r) := ll_lt hh hr
  have e : (Int64.ofNat r = Int64.ofNat hf) = (r = hf) := jl_eq (by omega) (by omega)
  have o : (Int64.ofNat w &&& 1 = 1) = (w % 2 = 1) := jw_1 w
  have q0 : (Int32.ofInt (k : Int) = 0) = (k = 0) := jk_i (j := 0) (by omega) (by decide)
  have q1 : (Int32.ofInt (k : Int) = 1) = (k = 1) := jk_i (j := 1) (by omega) (by decide)
  have q3 : (Int32.ofInt (k : Int) = 3) = (k = 3) := jk_i (j := 3) (by omega) (by decide)
  unfold fX16_wholeOf_b131 fX16_wholeOf_b154 fX16_wholeOf_b169 fX16_wholeOf_b203 fX16_wholeOf_b199
  simp only [kk, r1, k1, i0, jr_bs, if_true, z, l, e, o, q0, q1, q3, bI_0, E0, E1]
  unfold wu
  by_cases c1 : r = 0
  · simp [c1]
  by_cases c2 : k = 0
  · cases g <;> simp [c1, c2]
  by_cases c3 : k = 1
  · cases g <;> simp [c1, c2, c3]
  by_cases c4 : k = 3
  · by_cases d1 : hf < r
    · simp [c1, c2, c3, c4, d1]
    · by_cases d2 : r = hf
      · by_cases d3 : w % 2 = 1
        · simp [c1, c2, c3, c4, d1, d2, d3]
          split <;> rfl
        · simp [c1, c2, c3, c4, d1, d2, d3]
      · simp [c1, c2, c3, c4, d1, d2]
  · simp [c1, c2, c3, c4]
theorem mo2 {h : pm_H} (O : mO h) {X k : Nat} (hX : X < 4294967296) (hk : k ≤ 3) : fX16_wholeOf h 592 (Int32.ofInt k) 2 (Int64.ofNat X) = some (Int64.ofNat (wo2 k X), rv h 605 (ng2 X) (so2 X) (wh2 X) (pw2 X)) := by
  have O1 := rv_O 605 (ng2 X) (so2 X) (wh2 X) (pw2 X) O
  have e1 := mf2 (h := h) (a := 605) O.2.2.2.1 hX
  have i0 := rv_I0 h 605 (ng2 X) (so2 X) (wh2 X) (pw2 X)
  have i1 := rv_I1 h 605 (ng2 X) (so2 X) (wh2 X) (pw2 X)
  have i2 := rv_L2 h 605 (ng2 X) (so2 X) (wh2 X) (pw2 X)
  have i3 := rv_I3 h 605 (ng2 X) (so2 X) (wh2 X) (pw2 X)
  have cX := so2_c X
  have w := wh2_lt X
  have pb := pw2_b X
  have s3 : ∀ s : Nat, s ≤ 3 → (Int32.ofInt (s : Int) = (3 : Int32)) = (s = 3) := fun s hs => so2_i s 3 hs (by decide)
  have s0 : ∀ s : Nat, s ≤ 3 → (Int32.ofInt (s : Int) = (0 : Int32)) = (s = 0) := fun s hs => so2_i s 0 hs (by decide)
  have nn : fX16_noneOf 2 = Int64.ofNat 2143289344 := by decide
  have lt : (Int32.ofInt (pw2 X) < 0) = (pw2 X < 0) := by rw [m3_0, zz_lt (by omega) (by omega) (by omega) (by omega)]
  unfold fX16_wholeOf wo2
  rw [if_pos O.1, O.2.1, jr_bs, if_pos O.2.2.2.1, e1, jr_bs]
  generalize rv h 605 (ng2 X) (so2 X) (wh2 X) (pw2 X) = H at *
  rw [if_pos O1.1, O1.2.1, jr_bs, if_pos O1.2.2.2.1]
  simp only [i1, i2, i3, s3 (so2 X) (by omega), s0 (so2 X) (by omega), lt, nn, jr_let, zz_ng]
  by_cases c1 : so2 X = 3
  · rw [if_pos c1, if_pos c1]
  rw [if_neg c1, if_neg c1]
  by_cases c2 : so2 X = 0
  · rw [if_pos c2]
    by_cases c3 : pw2 X < 0
    · rw [if_pos c3, if_neg (show ¬ (so2 X ≠ 0 ∨ 0 ≤ pw2 X) by omega)]
      obtain ⟨s, hs⟩ : ∃ s : Nat, -pw2 X = (s : Int) := ⟨(-pw2 X).toNat, by omega⟩
      rw [hs, Int.toNat_natCast]
      have ps := Nat.two_pow_pos s
      have d1 : wh2 X / 2 ^ s ≤ wh2 X := Nat.div_le_self _ _
      have m1 : wh2 X % 2 ^ s ≤ wh2 X := Nat.mod_le _ _
      have dm : wh2 X / 2 ^ s * 2 ^ s + wh2 X % 2 ^ s = wh2 X := by rw [Nat.mul_comm]; exact Nat.div_add_mod _ _
      unfold fX16_wholeOf_b78 fX16_wholeOf_b110
      rw [if_pos O1.1, O1.2.1, jr_bs, if_pos O1.2.2.2.1, i2]
      by_cases c4 : s ≤ 62
      · have le : Int32.ofInt (s : Int) ≤ 62 := by rw [m3_62, zz_le (by omega) (by omega) (by omega) (by omega)]; omega
        have ph : 2 ^ (s - 1) ≤ 2 ^ 61 := Nat.pow_le_pow_right (by decide) (by omega)
        have M := mo2_b O1 i0 (k := k) (w := wh2 X / 2 ^ s) (r := wh2 X % 2 ^ s) (hf := 2 ^ (s - 1)) hk (by omega) (by omega) (by omega)
        have u := js_u (B := wh2 X) (K := s) (by omega) c4
        have sl : Int64.ofNat (wh2 X / 2 ^ s) <<< ((Int32.ofInt (s : Int)).toInt64 &&& 63) = Int64.ofNat (wh2 X / 2 ^ s * 2 ^ s) := by
          rw [zz_tn (by omega) (by omega), Int.toNat_natCast, n6_63, jl_63 (by omega), ll_sl _ (by omega)]
        have hv : (1 : Int64) <<< ((Int32.ofInt (s : Int) - 1).toInt64 &&& 63) = Int64.ofNat (2 ^ (s - 1)) := by
          rw [m3_1, zz_sb, zz_tn (by omega) (by omega), n6_63, jl_63 (by omega), n6_1, ll_sl _ (by omega), Nat.one_mul, show ((s : Int) - 1).toNat = s - 1 by omega]
        rw [if_pos le, if_pos le, if_pos le, u, sl, ll_sb (by omega), show wh2 X - wh2 X / 2 ^ s * 2 ^ s = wh2 X % 2 ^ s by omega, hv, M]
      · have le : ¬ Int32.ofInt (s : Int) ≤ 62 := by rw [m3_62, zz_le (by omega) (by omega) (by omega) (by omega)]; omega
        have big : 2 ^ 63 ≤ 2 ^ s := Nat.pow_le_pow_right (by decide) (by omega)
        have big2 : 2 ^ 62 ≤ 2 ^ (s - 1) := Nat.pow_le_pow_right (by decide) (by omega)
        have M := mo2_b O1 i0 (k := k) (w := 0) (r := wh2 X) (hf := 9223372036854775807) hk (by decide) (by omega) (by decide)
        have ux : wu k (ng2 X) 0 (wh2 X) 9223372036854775807 = wu k (ng2 X) 0 (wh2 X) (2 ^ (s - 1)) := by
          unfold wu
          have a1 : (9223372036854775807 < wh2 X) = (2 ^ (s - 1) < wh2 X) := propext ⟨fun z => by omega, fun z => by omega⟩
          have a2 : (wh2 X = 9223372036854775807) = (wh2 X = 2 ^ (s - 1)) := propext ⟨fun z => by omega, fun z => by omega⟩
          simp only [a1, a2]
        rw [ux] at M
        rw [if_neg le, if_neg le, if_pos O1.1, jr_bs, if_pos O1.2.2.2.1, i2, if_neg le, Nat.div_eq_of_lt (by omega), Nat.mod_eq_of_lt (by omega), show (0 : Int64) = Int64.ofNat 0 from rfl, n6_9223372036854775807, M]
    · rw [if_neg c3, if_pos (show (so2 X ≠ 0 ∨ 0 ≤ pw2 X) by omega)]
  · rw [if_neg c2, if_pos (show (so2 X ≠ 0 ∨ 0 ≤ pw2 X) from .inl c2)]
theorem mo3 {h : pm_H} (O : mO h) {X k : Nat} (hX : X < 18446744073709551616) (hk : k ≤ 3) : fX16_wholeOf h 592 (Int32.ofInt k) 3 (Int64.ofNat X) = some (Int64.ofNat (wo3 k X), rv h 605 (ng3 X) (so3 X) (wh3 X) (pw3 X)) := by
  have O1 := rv_O 605 (ng3 X) (so3 X) (wh3 X) (pw3 X) O
  have e1 := mf3 (h := h) (a := 605) O.2.2.2.1 hX
  have i0 := rv_I0 h 605 (ng3 X) (so3 X) (wh3 X) (pw3 X)
  have i1 := rv_I1 h 605 (ng3 X) (so3 X) (wh3 X) (pw3 X)
  have i2 := rv_L2 h 605 (ng3 X) (so3 X) (wh3 X) (pw3 X)
  have i3 := rv_I3 h 605 (ng3 X) (so3 X) (wh3 X) (pw3 X)
  have cX := so3_c X
  have w := wh3_lt X
  have pb := pw3_b X
  have s3 : ∀ s : Nat, s ≤ 3 → (Int32.ofInt (s : Int) = (3 : Int32)) = (s = 3) := fun s hs => so3_i s 3 hs (by decide)
  have s0 : ∀ s : Nat, s ≤ 3 → (Int32.ofInt (s : Int) = (0 : Int32)) = (s = 0) := fun s hs => so3_i s 0 hs (by decide)
  have nn : fX16_noneOf 3 = Int64.ofNat 9221120237041090560 := by decide
  have lt : (Int32.ofInt (pw3 X) < 0) = (pw3 X < 0) := by rw [m3_0, zz_lt (by omega) (by omega) (by omega) (by omega)]
  unfold fX16_wholeOf wo3
  rw [if_pos O.1, O.2.1, jr_bs, if_pos O.2.2.2.1, e1, jr_bs]
  generalize rv h 605 (ng3 X) (so3 X) (wh3 X) (pw3 X) = H at *
  rw [if_pos O1.1, O1.2.1, jr_bs, if_pos O1.2.2.2.1]
  simp only [i1, i2, i3, s3 (so3 X) (by omega), s0 (so3 X) (by omega), lt, nn, jr_let, zz_ng]
  by_cases c1 : so3 X = 3
  · rw [if_pos c1, if_pos c1]
  rw [if_neg c1, if_neg c1]
  by_cases c2 : so3 X = 0
  · rw [if_pos c2]
    by_cases c3 : pw3 X < 0
    · rw [if_pos c3, if_neg (show ¬ (so3 X ≠ 0 ∨ 0 ≤ pw3 X) by omega)]
      obtain ⟨s, hs⟩ : ∃ s : Nat, -pw3 X = (s : Int) := ⟨(-pw3 X).toNat, by omega⟩
      rw [hs, Int.toNat_natCast]
      have ps := Nat.two_pow_pos s
      have d1 : wh3 X / 2 ^ s ≤ wh3 X := Nat.div_le_self _ _
      have m1 : wh3 X % 2 ^ s ≤ wh3 X := Nat.mod_le _ _
      have dm : wh3 X / 2 ^ s * 2 ^ s + wh3 X % 2 ^ s = wh3 X := by rw [Nat.mul_comm]; exact Nat.div_add_mod _ _
      unfold fX16_wholeOf_b78 fX16_wholeOf_b110
      rw [if_pos O1.1, O1.2.1, jr_bs, if_pos O1.2.2.2.1, i2]
      by_cases c4 : s ≤ 62
      · have le : Int32.ofInt (s : Int) ≤ 62 := by rw [m3_62, zz_le (by omega) (by omega) (by omega) (by omega)]; omega
        have ph : 2 ^ (s - 1) ≤ 2 ^ 61 := Nat.pow_le_pow_right (by decide) (by omega)
        have M := mo3_b O1 i0 (k := k) (w := wh3 X / 2 ^ s) (r := wh3 X % 2 ^ s) (hf := 2 ^ (s - 1)) hk (by omega) (by omega) (by omega)
        have u := js_u (B := wh3 X) (K := s) (by omega) c4
        have sl : Int64.ofNat (wh3 X / 2 ^ s) <<< ((Int32.ofInt (s : Int)).toInt64 &&& 63) = Int64.ofNat (wh3 X / 2 ^ s * 2 ^ s) := by
          rw [zz_tn (by omega) (by omega), Int.toNat_natCast, n6_63, jl_63 (by omega), ll_sl _ (by omega)]
        have hv : (1 : Int64) <<< ((Int32.ofInt (s : Int) - 1).toInt64 &&& 63) = Int64.ofNat (2 ^ (s - 1)) := by
          rw [m3_1, zz_sb, zz_tn (by omega) (by omega), n6_63, jl_63 (by omega), n6_1, ll_sl _ (by omega), Nat.one_mul, show ((s : Int) - 1).toNat = s - 1 by omega]
        rw [if_pos le, if_pos le, if_pos le, u, sl, ll_sb (by omega), show wh3 X - wh3 X / 2 ^ s * 2 ^ s = wh3 X % 2 ^ s by omega, hv, M]
      · have le : ¬ Int32.ofInt (s : Int) ≤ 62 := by rw [m3_62, zz_le (by omega) (by omega) (by omega) (by omega)]; omega
        have big : 2 ^ 63 ≤ 2 ^ s := Nat.pow_le_pow_right (by decide) (by omega)
        have big2 : 2 ^ 62 ≤ 2 ^ (s - 1) := Nat.pow_le_pow_right (by decide) (by omega)
        have M := mo3_b O1 i0 (k := k) (w := 0) (r := wh3 X) (hf := 9223372036854775807) hk (by decide) (by omega) (by decide)
        have ux : wu k (ng3 X) 0 (wh3 X) 9223372036854775807 = wu k (ng3 X) 0 (wh3 X) (2 ^ (s - 1)) := by
          unfold wu
          have a1 : (9223372036854775807 < wh3 X) = (2 ^ (s - 1) < wh3 X) := propext ⟨fun z => by omega, fun z => by omega⟩
          have a2 : (wh3 X = 9223372036854775807) = (wh3 X = 2 ^ (s - 1)) := propext ⟨fun z => by omega, fun z => by omega⟩
          simp only [a1, a2]
        rw [ux] at M
        rw [if_neg le, if_neg le, if_pos O1.1, jr_bs, if_pos O1.2.2.2.1, i2, if_neg le, Nat.div_eq_of_lt (by omega), Nat.mod_eq_of_lt (by omega), show (0 : Int64) = Int64.ofNat 0 from rfl, n6_9223372036854775807, M]
    · rw [if_neg c3, if_pos (show (so3 X ≠ 0 ∨ 0 ≤ pw3 X) by omega)]
  · rw [if_neg c2, if_pos (show (so3 X ≠ 0 ∨ 0 ≤ pw3 X) from .inl c2)]
