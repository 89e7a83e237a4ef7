/-! THE REFERENCE LOOKS AGAIN: bytes, block types, what comes behind an instruction -/
/-- a block type as the reference keeps it -/
def mbt (t : Int64) : Int64 := if 0 ≤ t then t else -128 - t
theorem mbt_b : ∀ c : Fin 256, (c.val = 64 ∨ sp_isT c.val = true) → (-(Int32.ofNat c.val)).toInt64 = mbt (Int64.ofInt ((c.val : Int) - 128)) := by decide +kernel
theorem k_hn : ∀ c : Fin 256, (fX16_hasNumber (Int32.ofNat c.val) = 0) ↔ ¬ sp_cls c.val = 1 := by decide +kernel
theorem sp_byte_b' {ok : Nat → Bool} {w : Nat} {B : Nat → Nat} {e p v p' : Nat} (q : sp_byte ok w B e p = .inr (v, p')) : p < e ∧ p' = p + 1 := by
  unfold sp_byte at q
  split at q
  · split at q
    · cases q; exact ⟨by assumption, rfl⟩
    · cases q
  · cases q
theorem tys_p {B : Nat → Nat} {e : Nat} : ∀ (j t p t' p' : Nat), sp_tys B e j t p = .inr (t', p') → p' = p + j
  | 0, _, _, _, _, q => by cases q; rfl
  | j + 1, t, p, t', p', q => by
    obtain ⟨a, p1, e1, e2⟩ := b_inv q
    have h1 := sp_byte_b' e1
    have := tys_p j a p1 t' p' e2
    omega
theorem les_p {B : Nat → Nat} {e : Nat} : ∀ (j i v p v' p' : Nat), sp_les B e j i v p = .inr (v', p') → p' = p + j
  | 0, _, _, _, _, _, q => by cases q; rfl
  | j + 1, i, v, p, v', p', q => by
    obtain ⟨a, p1, e1, e2⟩ := b_inv q
    have h1 := (sp_next_b e1).2.2
    have := les_p j (i + 1) _ p1 v' p' e2
    omega
section BEHIND
variable {h : pm_H} {n b m s e p : Nat} {B : Nat → Nat} {d : Bool}
theorem mw_les (C : mS h n b m s B) (he : e ≤ n) (p0 : Nat) : ∀ (j i v x p' : Nat), i + j ≤ 8 → v < 2 ^ (8 * i) → sp_les B e j i v (p0 + i) = .inr (x, p') → pm_lim sX16_bytesAt (592, Int32.ofNat (i + j), Int64.ofNat v, Int32.ofNat i, lk h p0) = some (Int64.ofNat x, lk h (p0 + i + j)) := by
  have hb := C.2.2.2.2.2.2.2.2.2
  have n4 := C.2.2.2.2.2.2.1
  intro j
  induction j with
  | zero =>
    intro i v x p' hi hv q
    cases q
    refine k_w (aX16_bytesAt_0 ..) ?_
    unfold tX16_bytesAt_5
    refine k_t (show Int32.ofNat (i + 0) ≤ Int32.ofNat i by rw [nn_le (by omega) (by omega)]; omega) (k_t C.1 (k_l ?_))
    rw [lk_19, nn_ad, lk_v]
    rfl
  | succ j ih =>
    intro i v x p' hi hv q
    obtain ⟨a, p1, e1, e2⟩ := b_inv q
    obtain ⟨c1, c2, c3⟩ := sp_next_b e1
    have b0 := hb (p0 + i)
    have pw : 2 ^ (8 * i) ≤ 2 ^ 56 := Nat.pow_le_pow_right (by decide) (by omega)
    have p2 : 2 ^ (8 * (i + 1)) = 256 * 2 ^ (8 * i) := by rw [Nat.mul_succ, Nat.pow_add, Nat.mul_comm]
    have m2 : B (p0 + i) * 2 ^ (8 * i) ≤ 255 * 2 ^ (8 * i) := Nat.mul_le_mul_right _ (by omega)
    have por := ll_or (v := v) (a := B (p0 + i)) (t := 8 * i) (by omega) hv (by omega)
    refine k_w (aX16_bytesAt_0 ..) ?_
    unfold tX16_bytesAt_5
    refine k_f (show ¬ Int32.ofNat (i + (j + 1)) ≤ Int32.ofNat i by rw [nn_le (by omega) (by omega)]; omega) (k_t C.1 (k_b C.2.1 (k_t C.2.2.1 (k_b (v := Int32.ofNat (B (p0 + i))) (by rw [lk_19, nn_ad]; exact mw_at_lk C _ (by omega)) ?_))))
    have e3 : Int64.ofNat v ||| ((Int32.ofNat (B (p0 + i))).toInt64 <<< ((8 * Int32.ofNat i).toInt64 &&& 63)) = Int64.ofNat (v + B (p0 + i) * 2 ^ (8 * i)) := by
      rw [show (8 : Int32) * Int32.ofNat i = Int32.ofNat (8 * i) from nn_ml 8 i, nn_t6 (by omega), nn_t6 (by omega), show Int64.ofNat (8 * i) &&& 63 = Int64.ofNat (8 * i % 64) from ll_m63 _, Nat.mod_eq_of_lt (by omega), por]
    refine k_l ?_
    rw [e3]
    refine k_l ?_
    rw [show Int32.ofNat i + 1 = Int32.ofNat (i + 1) from nn_ad _ 1]
    refine k_n ?_
    rw [c2] at e2
    have c3 : p1 = p0 + (i + 1) := by omega
    rw [c3] at e2
    have := ih (i + 1) _ x p' (by omega) (by omega) e2
    rw [show i + (j + 1) = i + 1 + j by omega, show p0 + i + (j + 1) = p0 + (i + 1) + j by omega]
    exact this
theorem mw_bytes {j x p' : Nat} (C : mS h n b m s B) (he : e ≤ n) (hj : j ≤ 8) (q : sp_les B e j 0 0 p = .inr (x, p')) : fX16_bytesAt (lk h p) 592 (Int32.ofNat j) = some (Int64.ofNat x, lk h p') := by
  have := mw_les C he p j 0 0 x p' (by omega) (by decide) q
  rw [Nat.zero_add] at this
  rw [les_p _ _ _ _ _ _ q]
  exact this
theorem mw_blk {t : Int64} {p' : Nat} (C : mS h n b m s B) (he : e ≤ n) (q : sp_blk B e p = .inr (t, p')) : fX16_blockWord (lk h p) 592 = some (mbt t, lk h p') := by
  have hb := C.2.2.2.2.2.2.2.2.2
  have b0 := hb p
  have tm : fX16_isType (Int32.ofNat (B p)) = if sp_isT (B p) = true then 1 else 0 := sp_isT_m ⟨B p, b0⟩
  unfold sp_blk at q
  unfold fX16_blockWord
  by_cases c : p < e ∧ (B p = 64 ∨ sp_isT (B p) = true)
  · rw [if_pos c] at q
    cases q
    have mb := mbt_b ⟨B p, b0⟩ c.2
    refine e9_t C.1 (e9_b C.2.1 (e9_t C.2.2.1 (e9_b (v := Int32.ofNat (B p)) (by rw [lk_19]; exact mw_at_lk C _ (by omega)) ?_)))
    have fin : (some ((-(Int32.ofNat (B p))).toInt64, pm_setI (lk h p) 592 19 (pm_I (lk h p) 592 19 + 1)) : Option (Int64 × pm_H)) = some (mbt (Int64.ofInt ((B p : Int) - 128)), lk h (p + 1)) := by
      rw [lk_19, show Int32.ofNat p + 1 = Int32.ofNat (p + 1) from nn_ad _ 1, lk_v]
      exact congrArg (fun z => some (z, lk h (p + 1))) mb
    by_cases c2 : B p = 64
    · exact e9_t (by rw [c2]; rfl) (e9_l fin)
    · refine e9_f (show ¬ Int32.ofNat (B p) = Int32.ofNat 64 by rw [nn_eq (by omega) (by decide)]; exact c2) (e9_l ?_)
      rw [tm, if_pos (c.2.resolve_left c2)]
      exact e9_f (by decide) (e9_l fin)
  · rw [if_neg c] at q
    obtain ⟨t1, p1, e1, e2⟩ := b_inv q
    have hl : p < e := by
      unfold sp_sig at e1
      exact sg_lt (N := 4) e1
    have n64 : B p ≠ 64 := fun z => c ⟨hl, .inl z⟩
    have nT : ¬ sp_isT (B p) = true := fun z => c ⟨hl, .inr z⟩
    refine e9_t C.1 (e9_b C.2.1 (e9_t C.2.2.1 (e9_b (v := Int32.ofNat (B p)) (by rw [lk_19]; exact mw_at_lk C _ (by omega)) ?_)))
    refine e9_f (show ¬ Int32.ofNat (B p) = Int32.ofNat 64 by rw [nn_eq (by omega) (by decide)]; exact n64) (e9_l ?_)
    rw [tm, if_neg nT]
    refine e9_t rfl (e9_b (mw_sig C he (.inr (.inl rfl)) e1) ?_)
    by_cases c3 : 0 ≤ t1
    · rw [if_pos c3] at e2
      cases e2
      show some (t, lk h p') = some (mbt t, lk h p')
      unfold mbt
      rw [if_pos c3]
    · rw [if_neg c3] at e2; cases e2
theorem k_e19 {σ : Type} {s : σ → Option (σ ⊕ (Int32 × pm_H))} (h : pm_H) (p : Nat) : ev_k s (some (.inr (pm_I (lk h p) 592 19, lk h p))) = some (Int32.ofNat p, lk h p) := by rw [lk_19]; rfl
theorem k_a19 {σ : Type} {s : σ → Option (σ ⊕ (Int32 × pm_H))} (h : pm_H) (p k : Nat) : ev_k s (pm_let (pm_I (lk h p) 592 19 + Int32.ofNat k) fun y => some (.inr (pm_I (pm_setI (lk h p) 592 19 y) 592 19, pm_setI (lk h p) 592 19 y))) = some (Int32.ofNat (p + k), lk h (p + k)) := by
  rw [lk_19, nn_ad]
  show ev_k s (some (.inr (pm_I (pm_setI (lk h p) 592 19 (Int32.ofNat (p + k))) 592 19, pm_setI (lk h p) 592 19 (Int32.ofNat (p + k))))) = _
  rw [lk_v, lk_19]
  rfl
theorem mw_nums (C : mS h n b m s B) (he : e ≤ n) {x : Nat} (hx : x < 4294967296) : ∀ (j k p p' : Nat) (u : Unit), k + j = x + 1 → sp_nums B e j p = .inr (u, p') → pm_lim sX16_behind (.inr (.inr (592, Int64.ofNat x, Int64.ofNat k, lk h p))) = some (Int32.ofNat p', lk h p') := by
  intro j
  induction j with
  | zero =>
    intro k p p' u hk q
    cases q
    refine k_w (aX16_behind_2 ..) ?_
    unfold tX16_behind_90
    exact k_t (by rw [ll_lt (by omega) (by omega)]; omega) (k_t C.1 (k_e19 h p))
  | succ j ih =>
    intro k p p' u hk q
    obtain ⟨a, p1, e1, e2⟩ := b_inv q
    refine k_w (aX16_behind_2 ..) ?_
    unfold tX16_behind_90
    refine k_f (by rw [ll_lt (by omega) (by omega)]; omega) (k_t C.1 (k_b (mw_word C he e1) (k_l ?_)))
    rw [show Int64.ofNat k + 1 = Int64.ofNat (k + 1) from ll_ad _ 1]
    exact k_n (ih (k + 1) p1 p' u (by omega) e2)
theorem mw_b55 (C : mS h n b m s B) {k : Nat} (hk : k < 100) (p : Nat) : fX16_passesFurther_b55 (lk h p) 592 (Int64.ofNat k) = some (lk h (p + if k = 10 then 2 else if k = 8 ∨ k = 11 then 1 else 0)) := by
  have N : ∀ j, j < 100 → k ≠ j → ¬ Int64.ofNat k = Int64.ofNat j := fun j hj z => by rw [ll_eq (by omega) (by omega)]; exact z
  have F : ∀ j : Nat, (pm_let (pm_I (lk h p) 592 19 + Int32.ofNat j) fun y => some (pm_setI (lk h p) 592 19 y)) = some (lk h (p + j)) := fun j => by
    rw [lk_19, nn_ad]
    exact congrArg some (lk_v h _ _)
  unfold fX16_passesFurther_b55
  refine e9_t C.1 ?_
  by_cases c1 : k = 10
  · rw [if_pos c1]; exact e9_t (by rw [c1]; rfl) (F 2)
  rw [if_neg c1]
  refine e9_f (N 10 (by decide) c1) ?_
  by_cases c2 : k = 8
  · rw [if_pos (show k = 8 ∨ k = 11 from .inl c2)]; exact e9_t (by rw [c2]; rfl) (F 1)
  refine e9_f (N 8 (by decide) c2) ?_
  by_cases c3 : k = 11
  · rw [if_pos (show k = 8 ∨ k = 11 from .inr c3)]; exact e9_t (by rw [c3]; rfl) (F 1)
  refine e9_f (N 11 (by decide) c3) ?_
  rw [if_neg (by omega)]
  exact F 0
theorem mw_fur {v : sp_I} {p' p0 : Nat} (C : mS h n b m s B) (he : e ≤ n) (q : sp_fur B e d p0 p = .inr (v, p')) : fX16_passesFurther (lk h p) 592 = some (lk h p') := by
  unfold sp_fur at q
  obtain ⟨k, p1, e1, e2⟩ := b_inv q
  by_cases c17 : 17 < k
  · rw [if_pos c17] at e2; cases e2
  rw [if_neg c17] at e2
  by_cases c89 : (k = 8 ∨ k = 9) ∧ d = false
  · rw [if_pos c89] at e2; cases e2
  rw [if_neg c89] at e2
  have N : ∀ j, j < 100 → k ≠ j → ¬ Int64.ofNat k = Int64.ofNat j := fun j hj z => by rw [ll_eq (by omega) (by omega)]; exact z
  have b50 : ∀ (x p2 p3 : Nat), sp_num B e p2 = .inr (x, p3) → fX16_passesFurther_b50 (lk h p2) 592 (Int64.ofNat k) = some (lk h (p3 + if k = 10 then 2 else if k = 8 ∨ k = 11 then 1 else 0)) := fun x p2 p3 z => by
    unfold fX16_passesFurther_b50
    exact e9_t C.1 (e9_b (mw_word C he z) (mw_b55 C (by omega) p3))
  unfold fX16_passesFurther
  refine e9_t C.1 (e9_b (mw_word C he e1) ?_)
  show (if Int64.ofNat k = Int64.ofNat 12 then _ else _) = _
  by_cases k1214 : k = 12 ∨ k = 14
  · rw [if_neg (by omega), if_neg (by omega), if_neg (by omega), if_neg (by omega), if_pos k1214] at e2
    obtain ⟨x, p2, e3, e4⟩ := b_inv e2
    obtain ⟨y, p3, e5, e6⟩ := b_inv e4
    cases e6
    have b21 : fX16_passesFurther_b21 (lk h p1) 592 (Int64.ofNat k) = some (lk h p') := by
      unfold fX16_passesFurther_b21 fX16_passesFurther_b26
      have r := b50 y p2 p' e5
      rw [if_neg (by omega), if_neg (by omega)] at r
      exact e9_t C.1 (e9_b (mw_word C he e3) (e9_f (N 8 (by decide) (by omega)) (e9_f (N 9 (by decide) (by omega)) (e9_f (show ¬ Int64.ofNat k ≤ Int64.ofNat 11 by rw [ll_le (by omega) (by decide)]; omega) r))))
    rcases k1214 with z | z
    · exact e9_t (by rw [z]) b21
    · exact e9_f (N 12 (by decide) (by omega)) (e9_t (by rw [z]; rfl) b21)
  · refine e9_f (N 12 (by decide) (by omega)) (e9_f (N 14 (by decide) (by omega)) ?_)
    unfold fX16_passesFurther_b26
    by_cases c8 : k = 8
    · rw [if_neg (by omega), if_pos c8] at e2
      obtain ⟨x, p2, e3, e4⟩ := b_inv e2
      obtain ⟨y, p3, e5, e6⟩ := b_inv e4
      cases e6
      have z := sp_byte_b' e5
      have r := b50 x p1 p2 e3
      rw [if_neg (by omega), if_pos (.inl c8)] at r
      rw [z.2]
      exact e9_t (by rw [c8]; rfl) r
    refine e9_f (N 8 (by decide) c8) ?_
    by_cases c9 : k = 9
    · rw [if_neg (by omega), if_neg c8, if_neg (by omega), if_neg (by omega), if_neg k1214] at e2
      obtain ⟨x, p2, e3, e4⟩ := b_inv e2
      cases e4
      have r := b50 x p1 p' e3
      rw [if_neg (by omega), if_neg (by omega)] at r
      exact e9_t (by rw [c9]; rfl) r
    refine e9_f (N 9 (by decide) c9) ?_
    by_cases c11 : k ≤ 11
    · refine e9_t (show Int64.ofNat k ≤ Int64.ofNat 11 by rw [ll_le (by omega) (by decide)]; exact c11) ?_
      have r := mw_b55 C (k := k) (by omega) p1
      by_cases c7 : k < 8
      · rw [if_pos c7] at e2
        cases e2
        rw [if_neg (by omega), if_neg (by omega)] at r
        exact r
      rw [if_neg c7, if_neg c8] at e2
      by_cases c10 : k = 10
      · rw [if_pos c10] at e2 r
        obtain ⟨x, p2, e3, e4⟩ := b_inv e2
        obtain ⟨y, p3, e5, e6⟩ := b_inv e4
        cases e6
        have z1 := sp_byte_b' e3
        have z2 := sp_byte_b' e5
        rw [z2.2, z1.2]
        exact r
      · rw [if_neg c10, if_pos (show k = 11 by omega)] at e2
        obtain ⟨x, p2, e3, e4⟩ := b_inv e2
        cases e4
        have z1 := sp_byte_b' e3
        rw [if_neg c10, if_pos (.inr (by omega))] at r
        rw [z1.2]
        exact r
    · rw [if_neg (by omega), if_neg c8, if_neg (by omega), if_neg (by omega), if_neg k1214] at e2
      obtain ⟨x, p2, e3, e4⟩ := b_inv e2
      cases e4
      have r := b50 x p1 p' e3
      rw [if_neg (by omega), if_neg (by omega)] at r
      exact e9_f (show ¬ Int64.ofNat k ≤ Int64.ofNat 11 by rw [ll_le (by omega) (by decide)]; exact c11) r
end BEHIND
