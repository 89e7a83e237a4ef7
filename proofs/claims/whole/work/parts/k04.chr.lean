/-! THE CLASS READS: a character's length -/
theorem c9_c2 : ∀ c : Fin 256, (((Int32.ofNat c.val).toUInt32 >>> ((6 : Int32).toUInt32 &&& Int32.toUInt32 31)).toInt32 = 2) ↔ c.val / 64 = 2 := by decide +kernel
section CCHR
variable {h : pm_H} {n b mm t p : Nat} {B : Nat → Nat}
theorem cc_204 (h : pm_H) {s x mn : Nat} (hs : s ≤ 3) (hx : x < 2147483648) (hm : mn < 2147483648) : pm_lim (sX9_characterLength h) (.inr (.inr (Int32.ofNat s, Int32.ofNat x, Int32.ofNat mn))) = some (Int32.ofNat (if mn ≤ x ∧ x ≤ 1114111 ∧ (x < 55296 ∨ 57343 < x) then s + 1 else 0)) := by
  have l1 : (Int32.ofNat x < 55296) = (x < 55296) := by rw [show (55296 : Int32) = Int32.ofNat 55296 from rfl, nn_lt hx (by decide)]
  have l2 : ((57343 : Int32) < Int32.ofNat x) = (57343 < x) := by rw [show (57343 : Int32) = Int32.ofNat 57343 from rfl, nn_lt (by decide) hx]
  have l3 : ((1114111 : Int32) < Int32.ofNat x) = (1114111 < x) := by rw [show (1114111 : Int32) = Int32.ofNat 1114111 from rfl, nn_lt (by decide) hx]
  have l4 : (Int32.ofNat x < Int32.ofNat mn) = (x < mn) := nn_lt hx hm
  refine k_w (aX9_characterLength_2 ..) ?_
  unfold tX9_characterLength_204
  by_cases a1 : x < mn
  · rw [if_neg (show ¬ (mn ≤ x ∧ x ≤ 1114111 ∧ (x < 55296 ∨ 57343 < x)) by omega)]
    by_cases a2 : x < 55296
    · exact k_t (by rw [l1]; exact a2) (k_t (by rw [l4]; exact a1) rfl)
    · refine k_f (by rw [l1]; exact a2) ?_
      by_cases a3 : 57343 < x
      · exact k_t (by rw [l2]; exact a3) (k_t (by rw [l4]; exact a1) rfl)
      · exact k_f (by rw [l2]; exact a3) (k_t (by rw [l4]; exact a1) rfl)
  · by_cases a4 : 1114111 < x
    · rw [if_neg (show ¬ (mn ≤ x ∧ x ≤ 1114111 ∧ (x < 55296 ∨ 57343 < x)) by omega)]
      exact k_f (by rw [l1]; omega) (k_t (by rw [l2]; omega) (k_f (by rw [l4]; exact a1) (k_t (by rw [l3]; exact a4) rfl)))
    · by_cases a2 : x < 55296
      · rw [if_pos (show (mn ≤ x ∧ x ≤ 1114111 ∧ (x < 55296 ∨ 57343 < x)) by omega)]
        refine k_t (by rw [l1]; exact a2) (k_f (by rw [l4]; exact a1) (k_f (by rw [l3]; exact a4) (k_t rfl ?_)))
        exact congrArg some (nn_ad s 1)
      · refine k_f (by rw [l1]; exact a2) ?_
        by_cases a3 : 57343 < x
        · rw [if_pos (show (mn ≤ x ∧ x ≤ 1114111 ∧ (x < 55296 ∨ 57343 < x)) by omega)]
          refine k_t (by rw [l2]; exact a3) (k_f (by rw [l4]; exact a1) (k_f (by rw [l3]; exact a4) (k_t rfl ?_)))
          exact congrArg some (nn_ad s 1)
        · rw [if_neg (show ¬ (mn ≤ x ∧ x ≤ 1114111 ∧ (x < 55296 ∨ 57343 < x)) by omega)]
          exact k_f (by rw [l2]; exact a3) (k_f (by rw [l4]; exact a1) (k_f (by rw [l3]; exact a4) (k_f (by decide) rfl)))
/-- a byte behind the first -/
theorem cc_125 (C : cS h n b mm B) (f q : Int32) {s j x : Nat} (hj : j ≤ s) (hs : s ≤ 3) (ht : t ≤ n) (hp : p + j < t) (hx : x < 33554432) : pm_lim (sX9_characterLength (rc h (Int32.ofNat t) f q)) (.inr (.inl (19, Int32.ofNat p, Int32.ofNat s, Int32.ofNat x, Int32.ofNat j))) = if B (p + j) / 64 = 2 then pm_lim (sX9_characterLength (rc h (Int32.ofNat t) f q)) (.inr (.inl (19, Int32.ofNat p, Int32.ofNat s, Int32.ofNat (x * 64 + B (p + j) % 64), Int32.ofNat (j + 1)))) else some 0 := by
  obtain ⟨K, rm0, km, rb, kb, lb, hn, b9, hB, hB2⟩ := C
  have eb : pm_I (rc h (Int32.ofNat t) f q) b (p + j) &&& 255 = Int32.ofNat (B (p + j)) := by rw [rc_x _ _ _ _ b9]; exact hB _ (by omega)
  have c2 : ((Int32.ofNat (B (p + j))).toUInt32 >>> ((6 : Int32).toUInt32 &&& Int32.toUInt32 31)).toInt32 = 2 ↔ B (p + j) / 64 = 2 := c9_c2 ⟨B (p + j), hB2 _⟩
  refine k_w (aX9_characterLength_1 ..) ?_
  unfold tX9_characterLength_125
  refine k_f (show ¬ Int32.ofNat s < Int32.ofNat j by rw [nn_lt (by omega) (by omega)]; omega) (k_t K (k_b rm0 (k_t km (k_b rb (k_l (k_t kb ?_))))))
  rw [nn_ad p j]
  refine k_t (show pm_in (Int32.ofNat (p + j)) (pm_ln h b) by rw [lb, nn_in (by omega)]; omega) (k_l ?_)
  rw [nn_cm (by omega), eb]
  by_cases c : B (p + j) / 64 = 2
  · rw [if_pos c]
    refine k_t (c2.mpr c) (k_l (k_l (k_n ?_)))
    have e6 : (6 : Int32) &&& 31 = Int32.ofNat 6 := by decide
    rw [e6, show (63 : Int32) = Int32.ofNat 63 from rfl, nn_m63, nn_sl6 (by omega) hx, show Int32.ofNat j + 1 = Int32.ofNat (j + 1) from nn_ad j 1]
  · rw [if_neg c]
    exact k_f (fun z => c (c2.mp z)) rfl
def c_mn (s : Nat) : Nat := if s = 1 then 128 else if s = 2 then 2048 else 65536
theorem cc_fin (h : pm_H) {s x : Nat} (h0 : 0 < s) (hs : s ≤ 3) (hx : x < 2147483648) : pm_lim (sX9_characterLength h) (.inr (.inl (19, Int32.ofNat p, Int32.ofNat s, Int32.ofNat x, Int32.ofNat (s + 1)))) = some (Int32.ofNat (if c_mn s ≤ x ∧ x ≤ 1114111 ∧ (x < 55296 ∨ 57343 < x) then s + 1 else 0)) := by
  refine k_w (aX9_characterLength_1 ..) ?_
  unfold tX9_characterLength_125
  refine k_t (show Int32.ofNat s < Int32.ofNat (s + 1) by rw [nn_lt (by omega) (by omega)]; omega) ?_
  rcases (show s = 1 ∨ s = 2 ∨ s = 3 by omega) with rfl | rfl | rfl
  · exact k_t (by decide) (k_n (cc_204 h (mn := 128) (by decide) hx (by decide)))
  · exact k_f (by decide) (k_t (by decide) (k_n (cc_204 h (mn := 2048) (by decide) hx (by decide))))
  · exact k_f (by decide) (k_f (by decide) (k_n (cc_204 h (mn := 65536) (by decide) hx (by decide))))
end CCHR
