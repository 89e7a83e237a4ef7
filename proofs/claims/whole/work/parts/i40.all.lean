/-! THE REFERENCE READS: the first eight bytes, then the sections -/
def mg (k : Nat) : Nat := if k = 6 then 97 else if k = 5 then 115 else if k = 4 then 109 else if k = 3 then 1 else 0
theorem mg_v : ∀ k : Fin 8, ((((27429984746340352 : Int64) >>> ((Int32.ofNat (8 * k.val)).toInt64 &&& 63)) &&& 255).toInt32) = Int32.ofNat (mg k.val) := by decide +kernel
theorem mg_n : ∀ k : Fin 8, Int32.ofNat (8 * k.val) + (-8) = (if k.val = 0 then -8 else Int32.ofNat (8 * (k.val - 1))) := by decide
theorem mg_l (k : Nat) : mg k < 256 := by unfold mg; split <;> (try split) <;> (try split) <;> (try split) <;> decide
/-- k of the first bytes are still to be read -/
def sp_mg {β : Type} (B : Nat → Nat) (n : Nat) (K : Nat → sp_O β) : Nat → Nat → sp_O β
  | 0, p => K p
  | k + 1, p => sp_b (sp_next B n p) fun v p1 => if v = mg k then sp_mg B n K k p1 else .inl (5, p)
/-- a module that says nothing -/
def M0 : tMd := ([], [], [], [], [], [], [], [], [], [], none, none, fun _ => none, none)
def sp_all (B : Nat → Nat) (n : Nat) : sp_O tMd := sp_mg B n (fun p => sp_secs B n (n + 1) 0 M0 p) 8 0
section MAG
variable {n b m eo el : Nat} {B : Nat → Nat}
theorem ms_mag (f q : Int32) {h : pm_H} {N : Nat} {M : tMd} (hN : n < N) (C : mC h n b m eo el n (isS (M.2.2.2.2.2.2.2.2.2.2.2.2.1 12)) B) (i1 : pm_I h m 1 = Int32.ofNat n) (hli : ∀ x, M.2.2.2.2.2.2.2.2.2.2.2.2.2 = some x → x < 2147483648) : ∀ (k p : Nat), k ≤ 8 → mD m n eo el h M p → p ≤ n → ms_Q (fun h' => aF m eo el h h') (fun M' p' r => ∃ h', r = rm h' (Int32.ofNat p') f q ∧ aF m eo el h h' ∧ mC h' n b m eo el n (isS (M'.2.2.2.2.2.2.2.2.2.2.2.2.1 12)) B ∧ mD m n eo el h' M' p' ∧ n ≤ p' ∧ p' ≤ n) (pm_lim sX16_readsAll (.inl (592, (if k = 0 then -8 else Int32.ofNat (8 * (k - 1))), rm h (Int32.ofNat p) f q))) (sp_mg B n (fun p => sp_secs B n N 0 M p) k p) := by
  intro k
  have K : pm_kd h 592 = 16 := C.1.1
  have n4 := C.1.2.2.2.2.2.2.1
  have hb := C.1.2.2.2.2.2.2.2.2.2
  induction k with
  | zero =>
    intro p hk D hp
    rw [if_pos rfl]
    refine s_w (aX16_readsAll_0 ..) ?_
    unfold tX16_readsAll_19 sp_mg
    refine s_t (by decide) (s_n ?_)
    exact ms_secs f q N 0 p M h (by omega) C D i1 hp (by omega) hli
  | succ k ih =>
    intro p hk D hp
    rw [if_neg (Nat.succ_ne_zero k), Nat.add_sub_cancel]
    refine s_w (aX16_readsAll_0 ..) ?_
    unfold tX16_readsAll_19 sp_mg
    refine s_f (show ¬ Int32.ofNat (8 * k) < 0 by rw [n3_0, nn_lt (by omega) (by decide)]; omega) (s_t K ?_)
    refine s_c (MR_Q (ms_next C.1 C.2.2.2.2.1 C.2.2.2.2.2.1 hp f q)) (fun h' z => by rw [z]; exact gF_r _ _ h) ?_
    intro v p1 r e1 er
    subst er
    obtain ⟨b1, b2, b3⟩ := sp_next_b e1
    have vl : v < 256 := by rw [b2]; exact hb p
    have ml := mg_l k
    have ev := mg_v ⟨k, by omega⟩
    have en := mg_n ⟨k, by omega⟩
    by_cases c : v = mg k
    · refine s_t (show Int32.ofNat v = ((((27429984746340352 : Int64) >>> ((Int32.ofNat (8 * k)).toInt64 &&& 63)) &&& 255).toInt32) by rw [ev, c]) (s_l (s_n ?_))
      rw [if_pos c, en]
      exact ih p1 (by omega) (mD_p D (by omega)) (by omega)
    · refine s_f (show ¬ Int32.ofNat v = ((((27429984746340352 : Int64) >>> ((Int32.ofNat (8 * k)).toInt64 &&& 63)) &&& 255).toInt32) by rw [ev, nn_eq (by omega) (show mg k < 2147483648 by omega)]; exact c) (s_t K ?_)
      rw [if_neg c]
      refine q_stop (γ := Nat) C (gF_r _ _ h) (show Int32.ofNat p1 - 1 = Int32.ofNat p from ?_) rfl
      rw [show (1 : Int32) = Int32.ofNat 1 from rfl, nn_sb (by omega)]
      exact congrArg Int32.ofNat (by omega)
/-- the whole reading -/
theorem ms_all (p f q : Int32) {h : pm_H} (C : mC (pm_setI h 592 12 (Int32.ofNat n)) n b m eo el n false B) (D : mD m n eo el (pm_setI h 592 12 (Int32.ofNat n)) M0 0) (i1 : pm_I h m 1 = Int32.ofNat n) : ms_Q (fun h' => aF m eo el (pm_setI h 592 12 (Int32.ofNat n)) h') (fun M' p' r => ∃ h', r = rm h' (Int32.ofNat p') f q ∧ aF m eo el (pm_setI h 592 12 (Int32.ofNat n)) h' ∧ mC h' n b m eo el n (isS (M'.2.2.2.2.2.2.2.2.2.2.2.2.1 12)) B ∧ mD m n eo el h' M' p' ∧ n ≤ p' ∧ p' ≤ n) (fX16_readsAll (rm h p f q) 592) (sp_all B n) := by
  have hm : 648 < m := mC_m C
  have m5 : m ≠ 592 := by omega
  unfold fX16_readsAll sp_all
  rw [rm_s11]
  refine q_t C.1.1 (q_b C.1.2.1 (q_t C.1.2.2.1 (q_l ?_)))
  have e1 : pm_I (rm h 0 f q) m 1 = Int32.ofNat n := by rw [rm_x _ _ _ _ m5]; exact i1
  rw [e1, rm_o _ _ _ _ _ (by decide) (by decide) (by decide)]
  exact ms_mag f q (Nat.lt_succ_self n) C (by rw [ev_II, if_neg m5]; exact i1) (fun x hx => by cases hx) 8 0 (Nat.le_refl _) D (Nat.zero_le _)
end MAG
