/-! THE REFERENCE READS: numbers with sign, single bytes, names -/
/-- may this byte be the last one of a number of so many bits, its k-th -/
def sp_end (bits k c : Nat) : Bool := c < 128 && (c / 2 ^ (bits - 7 * k - 1) == 0 || c / 2 ^ (bits - 7 * k - 1) == 127 / 2 ^ (bits - 7 * k - 1))
def sp_sa (k c : Nat) (w : Int64) : Int64 := w ||| Int64.ofNat (c % 128) <<< Int64.ofNat (7 * k)
def sp_sx (k c : Nat) (w : Int64) : Int64 := if 64 ≤ 7 * k + 7 then w else if c / 64 % 2 = 0 then w else w ||| (-1 : Int64) <<< Int64.ofNat (7 * k + 7)
/-- a number with sign -/
def sp_sg (B : Nat → Nat) (e bits : Nat) : Nat → Nat → Int64 → Nat → sp_O Int64
  | 0, _, w, p => .inr (w, p)
  | N + 1, k, w, p => if p < e then (if N = 0 ∧ sp_end bits k (B p) = false then .inl (4, p) else if B p < 128 then .inr (sp_sx k (B p) (sp_sa k (B p) w), p + 1) else sp_sg B e bits N (k + 1) (sp_sa k (B p) w) (p + 1)) else .inl (1, e)
def sp_sig (B : Nat → Nat) (e bits p : Nat) : sp_O Int64 := sp_sg B e bits (if bits = 64 then 10 else 5) 0 0 p
theorem sp_sg_b {B : Nat → Nat} {e bits : Nat} : ∀ {N k : Nat} {w : Int64} {p : Nat} {r : Int64 × Nat}, p ≤ e → sp_sg B e bits N k w p = .inr r → p ≤ r.2 ∧ r.2 ≤ e ∧ (0 < N → p < r.2)
  | 0, _, _, p, r, hp, q => by
    cases q
    exact ⟨Nat.le_refl _, hp, fun z => absurd z (Nat.lt_irrefl 0)⟩
  | N + 1, k, w, p, r, hp, q => by
    unfold sp_sg at q
    split at q
    · split at q
      · cases q
      · split at q
        · cases q
          exact ⟨Nat.le_succ _, by show p + 1 ≤ e; omega, fun _ => Nat.lt_succ_self p⟩
        · have := sp_sg_b (by omega) q
          exact ⟨by omega, this.2.1, fun _ => by omega⟩
    · cases q
theorem sp_e4 : ∀ c : Fin 256, (Int32.ofNat c.val >>> Int32.ofNat 3 &&& 1 = 1 → ((sp_end 32 4 c.val = true ↔ c.val < 128 ∧ Int32.ofNat (c.val % 128) >>> Int32.ofNat 4 = (1 : Int32) <<< Int32.ofNat 3 - 1))) ∧ (¬ Int32.ofNat c.val >>> Int32.ofNat 3 &&& 1 = 1 → ((sp_end 32 4 c.val = true ↔ c.val < 128 ∧ Int32.ofNat (c.val % 128) >>> Int32.ofNat 4 = 0))) := by decide +kernel
theorem sp_e5 : ∀ c : Fin 256, (Int32.ofNat c.val >>> Int32.ofNat 4 &&& 1 = 1 → ((sp_end 33 4 c.val = true ↔ c.val < 128 ∧ Int32.ofNat (c.val % 128) >>> Int32.ofNat 5 = (1 : Int32) <<< Int32.ofNat 2 - 1))) ∧ (¬ Int32.ofNat c.val >>> Int32.ofNat 4 &&& 1 = 1 → ((sp_end 33 4 c.val = true ↔ c.val < 128 ∧ Int32.ofNat (c.val % 128) >>> Int32.ofNat 5 = 0))) := by decide +kernel
theorem sp_e1 : ∀ c : Fin 256, (Int32.ofNat c.val >>> Int32.ofNat 0 &&& 1 = 1 → ((sp_end 64 9 c.val = true ↔ c.val < 128 ∧ Int32.ofNat (c.val % 128) >>> Int32.ofNat 1 = (1 : Int32) <<< Int32.ofNat 6 - 1))) ∧ (¬ Int32.ofNat c.val >>> Int32.ofNat 0 &&& 1 = 1 → ((sp_end 64 9 c.val = true ↔ c.val < 128 ∧ Int32.ofNat (c.val % 128) >>> Int32.ofNat 1 = 0))) := by decide +kernel
theorem sp_b6 : ∀ c : Fin 256, (Int32.ofNat c.val &&& 64 = 0) = (c.val / 64 % 2 = 0) := by
  have : ∀ c : Fin 256, (Int32.ofNat c.val &&& 64 = 0) ↔ (c.val / 64 % 2 = 0) := by decide +kernel
  exact fun c => propext (this c)
section MREAD
variable {h : pm_H} {n b m s e p : Nat} {B : Nat → Nat}
theorem ms_sg (C : mS h n b m s B) (ie : pm_I h 592 12 = Int32.ofNat e) (he : e ≤ n) (f q : Int32) {bits M : Nat} (hM : (bits = 32 ∧ M = 5) ∨ (bits = 33 ∧ M = 5) ∨ (bits = 64 ∧ M = 10)) : ∀ (N k : Nat) (w : Int64) (p : Nat), k + N = M → 0 < N → p ≤ e → MR h s f q id (pm_lim sX16_signed (.inl (592, Int32.ofNat bits, Int32.ofNat M, w, Int32.ofNat k, rm h (Int32.ofNat p) f q))) (sp_sg B e bits N k w p) := by
  have st := ms_stops C
  have k16 := C.1
  have hb := C.2.2.2.2.2.2.2.2.2
  have n4 := C.2.2.2.2.2.2.1
  intro N
  induction N with
  | zero => exact fun k v p _ h0 => absurd h0 (Nat.lt_irrefl 0)
  | succ N ih =>
    intro k w p hk _ hp
    have nx := ms_next C ie he hp f q
    have b0 := hb p
    have e7 : 7 * k % 64 = if k = 10 then 6 else 7 * k := by split <;> omega
    have b6 : (Int32.ofNat (B p) &&& Int32.ofNat 64 = Int32.ofNat 0) = (B p / 64 % 2 = 0) := sp_b6 ⟨B p, b0⟩
    unfold sp_sg
    unfold sp_next at nx
    by_cases hl : p < e
    · rw [if_pos hl] at nx ⊢
      have nx : fX16_next (rm h (Int32.ofNat p) f q) 592 = some (.inr (Int32.ofNat (B p), rm h (Int32.ofNat (p + 1)) f q)) := nx
      have s1 : N = 0 → sp_end bits k (B p) = false → ∃ a, pm_lim sX16_signed (.inl (592, Int32.ofNat bits, Int32.ofNat M, w, Int32.ofNat k, rm h (Int32.ofNat p) f q)) = some (.inl (s, rm h a 4 (Int32.ofNat p))) := by
        intro hN hE
        refine ⟨Int32.ofNat (p + 1), ?_⟩
        rcases hM with ⟨hb', hM'⟩ | ⟨hb', hM'⟩ | ⟨hb', hM'⟩
        · have k4 : k = 4 := by omega
          subst k4 hb' hM'
          obtain ⟨z1, z2⟩ := sp_e4 ⟨B p, b0⟩
          have z1 : Int32.ofNat (B p) >>> Int32.ofNat 3 &&& Int32.ofNat 1 = Int32.ofNat 1 → _ := z1
          by_cases d1 : 127 < B p
          · rw [ev_lm]; simp (disch := omega) only [rm_kd, rm_11, k16, nx, st, Nat.add_sub_cancel, aX16_signed_0, tX16_signed_18, aX16_signed_1, tX16_signed_110, aX16_signed_2, tX16_signed_96, n3_1, n3_4, n3_5, n3_7, n3_9, n3_31, n3_127, nn_m31, nn_m63, nn_m15, nn_m7, nn_m127, ll_m63, Nat.reduceMod, Nat.reduceAdd, Nat.reduceMul, Nat.reduceSub, nn_sr6, nn_sl6, nn_le, nn_lt, nn_eq, nn_ad, nn_ml, nn_sb, nn_cm, nn_in, nn_t6, ll_le, ll_lt, ll_eq, ll_ad, ll_ml, ll_sb, ll_t3, ↓reduceIte, ev_kl, ev_kr, ↓ev_let, Option.bind_some, pt_k_r, pt_k_l, pt_s_r, pt_s_l, b_let, b_lef, b_ltt, b_ltf, b_eqt, b_eqf, and_true, true_and, and_false, false_and, or_true, true_or, or_false, false_or, not_true_eq_false, not_false_eq_true]
          · by_cases d2 : Int32.ofNat (B p) >>> Int32.ofNat 3 &&& Int32.ofNat 1 = Int32.ofNat 1
            · have d3 : ¬ Int32.ofNat (B p % 128) >>> Int32.ofNat 4 = Int32.ofNat 1 <<< Int32.ofNat 3 - Int32.ofNat 1 := fun z => by rw [(z1 d2).mpr ⟨by show B p < 128; omega, z⟩] at hE; cases hE
              repeat (rw [ev_lm]; simp (disch := omega) only [rm_kd, rm_11, k16, nx, st, Nat.add_sub_cancel, d2, d3, aX16_signed_0, tX16_signed_18, aX16_signed_1, tX16_signed_110, aX16_signed_2, tX16_signed_96, n3_1, n3_4, n3_5, n3_7, n3_9, n3_31, n3_127, nn_m31, nn_m63, nn_m15, nn_m7, nn_m127, ll_m63, Nat.reduceMod, Nat.reduceAdd, Nat.reduceMul, Nat.reduceSub, nn_sr6, nn_sl6, nn_le, nn_lt, nn_eq, nn_ad, nn_ml, nn_sb, nn_cm, nn_in, nn_t6, ll_le, ll_lt, ll_eq, ll_ad, ll_ml, ll_sb, ll_t3, ↓reduceIte, ev_kl, ev_kr, ↓ev_let, Option.bind_some, pt_k_r, pt_k_l, pt_s_r, pt_s_l, b_let, b_lef, b_ltt, b_ltf, b_eqt, b_eqf, and_true, true_and, and_false, false_and, or_true, true_or, or_false, false_or, not_true_eq_false, not_false_eq_true])
            · have d3 : ¬ Int32.ofNat (B p % 128) >>> Int32.ofNat 4 = Int32.ofNat 0 := fun z => by rw [(z2 d2).mpr ⟨by show B p < 128; omega, z⟩] at hE; cases hE
              repeat (rw [ev_lm]; simp (disch := omega) only [rm_kd, rm_11, k16, nx, st, Nat.add_sub_cancel, d2, d3, aX16_signed_0, tX16_signed_18, aX16_signed_1, tX16_signed_110, aX16_signed_2, tX16_signed_96, n3_0, n3_1, n3_4, n3_5, n3_7, n3_9, n3_31, n3_127, nn_m31, nn_m63, nn_m15, nn_m7, nn_m127, ll_m63, Nat.reduceMod, Nat.reduceAdd, Nat.reduceMul, Nat.reduceSub, nn_sr6, nn_sl6, nn_le, nn_lt, nn_eq, nn_ad, nn_ml, nn_sb, nn_cm, nn_in, nn_t6, ll_le, ll_lt, ll_eq, ll_ad, ll_ml, ll_sb, ll_t3, ↓reduceIte, ev_kl, ev_kr, ↓ev_let, Option.bind_some, pt_k_r, pt_k_l, pt_s_r, pt_s_l, b_let, b_lef, b_ltt, b_ltf, b_eqt, b_eqf, and_true, true_and, and_false, false_and, or_true, true_or, or_false, false_or, not_true_eq_false, not_false_eq_true])
        · have k4 : k = 4 := by omega
          subst k4 hb' hM'
          obtain ⟨z1, z2⟩ := sp_e5 ⟨B p, b0⟩
          have z1 : Int32.ofNat (B p) >>> Int32.ofNat 4 &&& Int32.ofNat 1 = Int32.ofNat 1 → _ := z1
          by_cases d1 : 127 < B p
          · rw [ev_lm]; simp (disch := omega) only [rm_kd, rm_11, k16, nx, st, Nat.add_sub_cancel, aX16_signed_0, tX16_signed_18, aX16_signed_1, tX16_signed_110, aX16_signed_2, tX16_signed_96, n3_1, n3_4, n3_5, n3_7, n3_9, n3_31, n3_127, nn_m31, nn_m63, nn_m15, nn_m7, nn_m127, ll_m63, Nat.reduceMod, Nat.reduceAdd, Nat.reduceMul, Nat.reduceSub, nn_sr6, nn_sl6, nn_le, nn_lt, nn_eq, nn_ad, nn_ml, nn_sb, nn_cm, nn_in, nn_t6, ll_le, ll_lt, ll_eq, ll_ad, ll_ml, ll_sb, ll_t3, ↓reduceIte, ev_kl, ev_kr, ↓ev_let, Option.bind_some, pt_k_r, pt_k_l, pt_s_r, pt_s_l, b_let, b_lef, b_ltt, b_ltf, b_eqt, b_eqf, and_true, true_and, and_false, false_and, or_true, true_or, or_false, false_or, not_true_eq_false, not_false_eq_true]
          · by_cases d2 : Int32.ofNat (B p) >>> Int32.ofNat 4 &&& Int32.ofNat 1 = Int32.ofNat 1
            · have d3 : ¬ Int32.ofNat (B p % 128) >>> Int32.ofNat 5 = Int32.ofNat 1 <<< Int32.ofNat 2 - Int32.ofNat 1 := fun z => by rw [(z1 d2).mpr ⟨by show B p < 128; omega, z⟩] at hE; cases hE
              repeat (rw [ev_lm]; simp (disch := omega) only [rm_kd, rm_11, k16, nx, st, Nat.add_sub_cancel, d2, d3, aX16_signed_0, tX16_signed_18, aX16_signed_1, tX16_signed_110, aX16_signed_2, tX16_signed_96, n3_1, n3_4, n3_5, n3_7, n3_9, n3_31, n3_127, nn_m31, nn_m63, nn_m15, nn_m7, nn_m127, ll_m63, Nat.reduceMod, Nat.reduceAdd, Nat.reduceMul, Nat.reduceSub, nn_sr6, nn_sl6, nn_le, nn_lt, nn_eq, nn_ad, nn_ml, nn_sb, nn_cm, nn_in, nn_t6, ll_le, ll_lt, ll_eq, ll_ad, ll_ml, ll_sb, ll_t3, ↓reduceIte, ev_kl, ev_kr, ↓ev_let, Option.bind_some, pt_k_r, pt_k_l, pt_s_r, pt_s_l, b_let, b_lef, b_ltt, b_ltf, b_eqt, b_eqf, and_true, true_and, and_false, false_and, or_true, true_or, or_false, false_or, not_true_eq_false, not_false_eq_true])
            · have d3 : ¬ Int32.ofNat (B p % 128) >>> Int32.ofNat 5 = Int32.ofNat 0 := fun z => by rw [(z2 d2).mpr ⟨by show B p < 128; omega, z⟩] at hE; cases hE
              repeat (rw [ev_lm]; simp (disch := omega) only [rm_kd, rm_11, k16, nx, st, Nat.add_sub_cancel, d2, d3, aX16_signed_0, tX16_signed_18, aX16_signed_1, tX16_signed_110, aX16_signed_2, tX16_signed_96, n3_0, n3_1, n3_4, n3_5, n3_7, n3_9, n3_31, n3_127, nn_m31, nn_m63, nn_m15, nn_m7, nn_m127, ll_m63, Nat.reduceMod, Nat.reduceAdd, Nat.reduceMul, Nat.reduceSub, nn_sr6, nn_sl6, nn_le, nn_lt, nn_eq, nn_ad, nn_ml, nn_sb, nn_cm, nn_in, nn_t6, ll_le, ll_lt, ll_eq, ll_ad, ll_ml, ll_sb, ll_t3, ↓reduceIte, ev_kl, ev_kr, ↓ev_let, Option.bind_some, pt_k_r, pt_k_l, pt_s_r, pt_s_l, b_let, b_lef, b_ltt, b_ltf, b_eqt, b_eqf, and_true, true_and, and_false, false_and, or_true, true_or, or_false, false_or, not_true_eq_false, not_false_eq_true])
        · have k4 : k = 9 := by omega
          subst k4 hb' hM'
          obtain ⟨z1, z2⟩ := sp_e1 ⟨B p, b0⟩
          have z1 : Int32.ofNat (B p) >>> Int32.ofNat 0 &&& Int32.ofNat 1 = Int32.ofNat 1 → _ := z1
          by_cases d1 : 127 < B p
          · rw [ev_lm]; simp (disch := omega) only [rm_kd, rm_11, k16, nx, st, Nat.add_sub_cancel, aX16_signed_0, tX16_signed_18, aX16_signed_1, tX16_signed_110, aX16_signed_2, tX16_signed_96, n3_1, n3_4, n3_5, n3_7, n3_9, n3_31, n3_127, nn_m31, nn_m63, nn_m15, nn_m7, nn_m127, ll_m63, Nat.reduceMod, Nat.reduceAdd, Nat.reduceMul, Nat.reduceSub, nn_sr6, nn_sl6, nn_le, nn_lt, nn_eq, nn_ad, nn_ml, nn_sb, nn_cm, nn_in, nn_t6, ll_le, ll_lt, ll_eq, ll_ad, ll_ml, ll_sb, ll_t3, ↓reduceIte, ev_kl, ev_kr, ↓ev_let, Option.bind_some, pt_k_r, pt_k_l, pt_s_r, pt_s_l, b_let, b_lef, b_ltt, b_ltf, b_eqt, b_eqf, and_true, true_and, and_false, false_and, or_true, true_or, or_false, false_or, not_true_eq_false, not_false_eq_true]
          · by_cases d2 : Int32.ofNat (B p) >>> Int32.ofNat 0 &&& Int32.ofNat 1 = Int32.ofNat 1
            · have d3 : ¬ Int32.ofNat (B p % 128) >>> Int32.ofNat 1 = Int32.ofNat 1 <<< Int32.ofNat 6 - Int32.ofNat 1 := fun z => by rw [(z1 d2).mpr ⟨by show B p < 128; omega, z⟩] at hE; cases hE
              repeat (rw [ev_lm]; simp (disch := omega) only [rm_kd, rm_11, k16, nx, st, Nat.add_sub_cancel, d2, d3, aX16_signed_0, tX16_signed_18, aX16_signed_1, tX16_signed_110, aX16_signed_2, tX16_signed_96, n3_1, n3_4, n3_5, n3_7, n3_9, n3_31, n3_127, nn_m31, nn_m63, nn_m15, nn_m7, nn_m127, ll_m63, Nat.reduceMod, Nat.reduceAdd, Nat.reduceMul, Nat.reduceSub, nn_sr6, nn_sl6, nn_le, nn_lt, nn_eq, nn_ad, nn_ml, nn_sb, nn_cm, nn_in, nn_t6, ll_le, ll_lt, ll_eq, ll_ad, ll_ml, ll_sb, ll_t3, ↓reduceIte, ev_kl, ev_kr, ↓ev_let, Option.bind_some, pt_k_r, pt_k_l, pt_s_r, pt_s_l, b_let, b_lef, b_ltt, b_ltf, b_eqt, b_eqf, and_true, true_and, and_false, false_and, or_true, true_or, or_false, false_or, not_true_eq_false, not_false_eq_true])
            · have d3 : ¬ Int32.ofNat (B p % 128) >>> Int32.ofNat 1 = Int32.ofNat 0 := fun z => by rw [(z2 d2).mpr ⟨by show B p < 128; omega, z⟩] at hE; cases hE
              repeat (rw [ev_lm]; simp (disch := omega) only [rm_kd, rm_11, k16, nx, st, Nat.add_sub_cancel, d2, d3, aX16_signed_0, tX16_signed_18, aX16_signed_1, tX16_signed_110, aX16_signed_2, tX16_signed_96, n3_0, n3_1, n3_4, n3_5, n3_7, n3_9, n3_31, n3_127, nn_m31, nn_m63, nn_m15, nn_m7, nn_m127, ll_m63, Nat.reduceMod, Nat.reduceAdd, Nat.reduceMul, Nat.reduceSub, nn_sr6, nn_sl6, nn_le, nn_lt, nn_eq, nn_ad, nn_ml, nn_sb, nn_cm, nn_in, nn_t6, ll_le, ll_lt, ll_eq, ll_ad, ll_ml, ll_sb, ll_t3, ↓reduceIte, ev_kl, ev_kr, ↓ev_let, Option.bind_some, pt_k_r, pt_k_l, pt_s_r, pt_s_l, b_let, b_lef, b_ltt, b_ltf, b_eqt, b_eqf, and_true, true_and, and_false, false_and, or_true, true_or, or_false, false_or, not_true_eq_false, not_false_eq_true])
      have s2 : (N = 0 → sp_end bits k (B p) = true) → pm_lim sX16_signed (.inl (592, Int32.ofNat bits, Int32.ofNat M, w, Int32.ofNat k, rm h (Int32.ofNat p) f q)) = pm_lim sX16_signed (.inr (.inl (592, Int32.ofNat bits, Int32.ofNat M, w, Int32.ofNat k, Int32.ofNat (B p), rm h (Int32.ofNat (p + 1)) f q))) := by
        intro hE
        by_cases hN : N = 0
        · have hE := hE hN
          rcases hM with ⟨hb', hM'⟩ | ⟨hb', hM'⟩ | ⟨hb', hM'⟩
          · have k4 : k = 4 := by omega
            subst k4 hb' hM'
            obtain ⟨z1, z2⟩ := sp_e4 ⟨B p, b0⟩
            have z1 : Int32.ofNat (B p) >>> Int32.ofNat 3 &&& Int32.ofNat 1 = Int32.ofNat 1 → _ := z1
            by_cases d1 : 127 < B p
            · exfalso; by_cases d2 : Int32.ofNat (B p) >>> Int32.ofNat 3 &&& Int32.ofNat 1 = Int32.ofNat 1
              · have := ((z1 d2).mp hE).1; have : B p < 128 := this; omega
              · have := ((z2 d2).mp hE).1; have : B p < 128 := this; omega
            · by_cases d2 : Int32.ofNat (B p) >>> Int32.ofNat 3 &&& Int32.ofNat 1 = Int32.ofNat 1
              · have d3 : Int32.ofNat (B p % 128) >>> Int32.ofNat 4 = Int32.ofNat 1 <<< Int32.ofNat 3 - Int32.ofNat 1 := ((z1 d2).mp hE).2
                iterate 2 (rw [ev_lm]; simp (disch := omega) only [rm_kd, rm_11, k16, nx, st, Nat.add_sub_cancel, d2, d3, aX16_signed_0, tX16_signed_18, aX16_signed_1, tX16_signed_110, aX16_signed_2, tX16_signed_96, n3_1, n3_4, n3_5, n3_7, n3_9, n3_31, n3_127, nn_m31, nn_m63, nn_m15, nn_m7, nn_m127, ll_m63, Nat.reduceMod, Nat.reduceAdd, Nat.reduceMul, Nat.reduceSub, nn_sr6, nn_sl6, nn_le, nn_lt, nn_eq, nn_ad, nn_ml, nn_sb, nn_cm, nn_in, nn_t6, ll_le, ll_lt, ll_eq, ll_ad, ll_ml, ll_sb, ll_t3, ↓reduceIte, ev_kl, ev_kr, ↓ev_let, Option.bind_some, pt_k_r, pt_k_l, pt_s_r, pt_s_l, b_let, b_lef, b_ltt, b_ltf, b_eqt, b_eqf, and_true, true_and, and_false, false_and, or_true, true_or, or_false, false_or, not_true_eq_false, not_false_eq_true])
              · have d3 : Int32.ofNat (B p % 128) >>> Int32.ofNat 4 = Int32.ofNat 0 := ((z2 d2).mp hE).2
                iterate 2 (rw [ev_lm]; simp (disch := omega) only [rm_kd, rm_11, k16, nx, st, Nat.add_sub_cancel, d2, d3, aX16_signed_0, tX16_signed_18, aX16_signed_1, tX16_signed_110, aX16_signed_2, tX16_signed_96, n3_0, n3_1, n3_4, n3_5, n3_7, n3_9, n3_31, n3_127, nn_m31, nn_m63, nn_m15, nn_m7, nn_m127, ll_m63, Nat.reduceMod, Nat.reduceAdd, Nat.reduceMul, Nat.reduceSub, nn_sr6, nn_sl6, nn_le, nn_lt, nn_eq, nn_ad, nn_ml, nn_sb, nn_cm, nn_in, nn_t6, ll_le, ll_lt, ll_eq, ll_ad, ll_ml, ll_sb, ll_t3, ↓reduceIte, ev_kl, ev_kr, ↓ev_let, Option.bind_some, pt_k_r, pt_k_l, pt_s_r, pt_s_l, b_let, b_lef, b_ltt, b_ltf, b_eqt, b_eqf, and_true, true_and, and_false, false_and, or_true, true_or, or_false, false_or, not_true_eq_false, not_false_eq_true])
          · have k4 : k = 4 := by omega
            subst k4 hb' hM'
            obtain ⟨z1, z2⟩ := sp_e5 ⟨B p, b0⟩
            have z1 : Int32.ofNat (B p) >>> Int32.ofNat 4 &&& Int32.ofNat 1 = Int32.ofNat 1 → _ := z1
            by_cases d1 : 127 < B p
            · exfalso; by_cases d2 : Int32.ofNat (B p) >>> Int32.ofNat 4 &&& Int32.ofNat 1 = Int32.ofNat 1
              · have := ((z1 d2).mp hE).1; have : B p < 128 := this; omega
              · have := ((z2 d2).mp hE).1; have : B p < 128 := this; omega
            · by_cases d2 : Int32.ofNat (B p) >>> Int32.ofNat 4 &&& Int32.ofNat 1 = Int32.ofNat 1
              · have d3 : Int32.ofNat (B p % 128) >>> Int32.ofNat 5 = Int32.ofNat 1 <<< Int32.ofNat 2 - Int32.ofNat 1 := ((z1 d2).mp hE).2
                iterate 2 (rw [ev_lm]; simp (disch := omega) only [rm_kd, rm_11, k16, nx, st, Nat.add_sub_cancel, d2, d3, aX16_signed_0, tX16_signed_18, aX16_signed_1, tX16_signed_110, aX16_signed_2, tX16_signed_96, n3_1, n3_4, n3_5, n3_7, n3_9, n3_31, n3_127, nn_m31, nn_m63, nn_m15, nn_m7, nn_m127, ll_m63, Nat.reduceMod, Nat.reduceAdd, Nat.reduceMul, Nat.reduceSub, nn_sr6, nn_sl6, nn_le, nn_lt, nn_eq, nn_ad, nn_ml, nn_sb, nn_cm, nn_in, nn_t6, ll_le, ll_lt, ll_eq, ll_ad, ll_ml, ll_sb, ll_t3, ↓reduceIte, ev_kl, ev_kr, ↓ev_let, Option.bind_some, pt_k_r, pt_k_l, pt_s_r, pt_s_l, b_let, b_lef, b_ltt, b_ltf, b_eqt, b_eqf, and_true, true_and, and_false, false_and, or_true, true_or, or_false, false_or, not_true_eq_false, not_false_eq_true])
              · have d3 : Int32.ofNat (B p % 128) >>> Int32.ofNat 5 = Int32.ofNat 0 := ((z2 d2).mp hE).2
                iterate 2 (rw [ev_lm]; simp (disch := omega) only [rm_kd, rm_11, k16, nx, st, Nat.add_sub_cancel, d2, d3, aX16_signed_0, tX16_signed_18, aX16_signed_1, tX16_signed_110, aX16_signed_2, tX16_signed_96, n3_0, n3_1, n3_4, n3_5, n3_7, n3_9, n3_31, n3_127, nn_m31, nn_m63, nn_m15, nn_m7, nn_m127, ll_m63, Nat.reduceMod, Nat.reduceAdd, Nat.reduceMul, Nat.reduceSub, nn_sr6, nn_sl6, nn_le, nn_lt, nn_eq, nn_ad, nn_ml, nn_sb, nn_cm, nn_in, nn_t6, ll_le, ll_lt, ll_eq, ll_ad, ll_ml, ll_sb, ll_t3, ↓reduceIte, ev_kl, ev_kr, ↓ev_let, Option.bind_some, pt_k_r, pt_k_l, pt_s_r, pt_s_l, b_let, b_lef, b_ltt, b_ltf, b_eqt, b_eqf, and_true, true_and, and_false, false_and, or_true, true_or, or_false, false_or, not_true_eq_false, not_false_eq_true])
          · have k4 : k = 9 := by omega
            subst k4 hb' hM'
            obtain ⟨z1, z2⟩ := sp_e1 ⟨B p, b0⟩
            have z1 : Int32.ofNat (B p) >>> Int32.ofNat 0 &&& Int32.ofNat 1 = Int32.ofNat 1 → _ := z1
            by_cases d1 : 127 < B p
            · exfalso; by_cases d2 : Int32.ofNat (B p) >>> Int32.ofNat 0 &&& Int32.ofNat 1 = Int32.ofNat 1
              · have := ((z1 d2).mp hE).1; have : B p < 128 := this; omega
              · have := ((z2 d2).mp hE).1; have : B p < 128 := this; omega
            · by_cases d2 : Int32.ofNat (B p) >>> Int32.ofNat 0 &&& Int32.ofNat 1 = Int32.ofNat 1
              · have d3 : Int32.ofNat (B p % 128) >>> Int32.ofNat 1 = Int32.ofNat 1 <<< Int32.ofNat 6 - Int32.ofNat 1 := ((z1 d2).mp hE).2
                iterate 2 (rw [ev_lm]; simp (disch := omega) only [rm_kd, rm_11, k16, nx, st, Nat.add_sub_cancel, d2, d3, aX16_signed_0, tX16_signed_18, aX16_signed_1, tX16_signed_110, aX16_signed_2, tX16_signed_96, n3_1, n3_4, n3_5, n3_7, n3_9, n3_31, n3_127, nn_m31, nn_m63, nn_m15, nn_m7, nn_m127, ll_m63, Nat.reduceMod, Nat.reduceAdd, Nat.reduceMul, Nat.reduceSub, nn_sr6, nn_sl6, nn_le, nn_lt, nn_eq, nn_ad, nn_ml, nn_sb, nn_cm, nn_in, nn_t6, ll_le, ll_lt, ll_eq, ll_ad, ll_ml, ll_sb, ll_t3, ↓reduceIte, ev_kl, ev_kr, ↓ev_let, Option.bind_some, pt_k_r, pt_k_l, pt_s_r, pt_s_l, b_let, b_lef, b_ltt, b_ltf, b_eqt, b_eqf, and_true, true_and, and_false, false_and, or_true, true_or, or_false, false_or, not_true_eq_false, not_false_eq_true])
              · have d3 : Int32.ofNat (B p % 128) >>> Int32.ofNat 1 = Int32.ofNat 0 := ((z2 d2).mp hE).2
                iterate 2 (rw [ev_lm]; simp (disch := omega) only [rm_kd, rm_11, k16, nx, st, Nat.add_sub_cancel, d2, d3, aX16_signed_0, tX16_signed_18, aX16_signed_1, tX16_signed_110, aX16_signed_2, tX16_signed_96, n3_0, n3_1, n3_4, n3_5, n3_7, n3_9, n3_31, n3_127, nn_m31, nn_m63, nn_m15, nn_m7, nn_m127, ll_m63, Nat.reduceMod, Nat.reduceAdd, Nat.reduceMul, Nat.reduceSub, nn_sr6, nn_sl6, nn_le, nn_lt, nn_eq, nn_ad, nn_ml, nn_sb, nn_cm, nn_in, nn_t6, ll_le, ll_lt, ll_eq, ll_ad, ll_ml, ll_sb, ll_t3, ↓reduceIte, ev_kl, ev_kr, ↓ev_let, Option.bind_some, pt_k_r, pt_k_l, pt_s_r, pt_s_l, b_let, b_lef, b_ltt, b_ltf, b_eqt, b_eqf, and_true, true_and, and_false, false_and, or_true, true_or, or_false, false_or, not_true_eq_false, not_false_eq_true])
        · rw [ev_lm]; simp (disch := omega) only [rm_kd, k16, nx, aX16_signed_0, tX16_signed_18, aX16_signed_1, tX16_signed_110, aX16_signed_2, tX16_signed_96, n3_1, nn_m31, nn_m63, nn_m15, nn_m7, nn_m127, ll_m63, Nat.reduceMod, Nat.reduceAdd, Nat.reduceMul, Nat.reduceSub, nn_sr6, nn_sl6, nn_le, nn_lt, nn_eq, nn_ad, nn_ml, nn_sb, nn_cm, nn_in, nn_t6, ll_le, ll_lt, ll_eq, ll_ad, ll_ml, ll_sb, ll_t3, ↓reduceIte, ev_kl, ev_kr, ↓ev_let, Option.bind_some, pt_k_r, pt_k_l, pt_s_r, pt_s_l, b_let, b_lef, b_ltt, b_ltf, b_eqt, b_eqf, and_true, true_and, and_false, false_and, or_true, true_or, or_false, false_or, not_true_eq_false, not_false_eq_true]
      by_cases c1 : N = 0 ∧ sp_end bits k (B p) = false
      · rw [if_pos c1]
        exact s1 c1.1 c1.2
      · rw [if_neg c1]
        rw [s2 (fun z => by cases hz : sp_end bits k (B p) with | true => rfl | false => exact absurd ⟨z, hz⟩ c1)]
        have k10 : k ≠ 10 := by omega
        have e7' : 7 * k % 64 = 7 * k := by omega
        by_cases c2 : B p < 128
        · rw [if_pos c2]
          show _ = some _
          unfold sp_sx sp_sa
          by_cases c3 : 64 ≤ 7 * k + 7
          · rw [ev_lm]; simp (disch := omega) only [e7', id, aX16_signed_0, tX16_signed_18, aX16_signed_1, tX16_signed_110, aX16_signed_2, tX16_signed_96, n3_7, n3_64, n3_127, n3_128, n6_63, nn_m31, nn_m63, nn_m15, nn_m7, nn_m127, ll_m63, Nat.reduceMod, Nat.reduceAdd, Nat.reduceMul, Nat.reduceSub, nn_sr6, nn_sl6, nn_le, nn_lt, nn_eq, nn_ad, nn_ml, nn_sb, nn_cm, nn_in, nn_t6, ll_le, ll_lt, ll_eq, ll_ad, ll_ml, ll_sb, ll_t3, ↓reduceIte, ev_kl, ev_kr, ↓ev_let, Option.bind_some, pt_k_r, pt_k_l, pt_s_r, pt_s_l, b_let, b_lef, b_ltt, b_ltf, b_eqt, b_eqf, and_true, true_and, and_false, false_and, or_true, true_or, or_false, false_or, not_true_eq_false, not_false_eq_true]
          · have e8 : (7 * k + 7) % 64 = 7 * k + 7 := by omega
            by_cases c4 : B p / 64 % 2 = 0
            · rw [ev_lm]; simp (disch := omega) only [e7', id, b6, c4, aX16_signed_0, tX16_signed_18, aX16_signed_1, tX16_signed_110, aX16_signed_2, tX16_signed_96, n3_0, n3_7, n3_64, n3_127, n3_128, n6_63, nn_m31, nn_m63, nn_m15, nn_m7, nn_m127, ll_m63, Nat.reduceMod, Nat.reduceAdd, Nat.reduceMul, Nat.reduceSub, nn_sr6, nn_sl6, nn_le, nn_lt, nn_eq, nn_ad, nn_ml, nn_sb, nn_cm, nn_in, nn_t6, ll_le, ll_lt, ll_eq, ll_ad, ll_ml, ll_sb, ll_t3, ↓reduceIte, ev_kl, ev_kr, ↓ev_let, Option.bind_some, pt_k_r, pt_k_l, pt_s_r, pt_s_l, b_let, b_lef, b_ltt, b_ltf, b_eqt, b_eqf, and_true, true_and, and_false, false_and, or_true, true_or, or_false, false_or, not_true_eq_false, not_false_eq_true]
            · rw [ev_lm]; simp (disch := omega) only [e7', e8, id, b6, c4, aX16_signed_0, tX16_signed_18, aX16_signed_1, tX16_signed_110, aX16_signed_2, tX16_signed_96, n3_0, n3_7, n3_64, n3_127, n3_128, n6_63, nn_m31, nn_m63, nn_m15, nn_m7, nn_m127, ll_m63, Nat.reduceMod, Nat.reduceAdd, Nat.reduceMul, Nat.reduceSub, nn_sr6, nn_sl6, nn_le, nn_lt, nn_eq, nn_ad, nn_ml, nn_sb, nn_cm, nn_in, nn_t6, ll_le, ll_lt, ll_eq, ll_ad, ll_ml, ll_sb, ll_t3, ↓reduceIte, ev_kl, ev_kr, ↓ev_let, Option.bind_some, pt_k_r, pt_k_l, pt_s_r, pt_s_l, b_let, b_lef, b_ltt, b_ltf, b_eqt, b_eqf, and_true, true_and, and_false, false_and, or_true, true_or, or_false, false_or, not_true_eq_false, not_false_eq_true]
        · rw [if_neg c2]
          have hE : N ≠ 0 := by
            intro hN
            apply c1
            refine ⟨hN, ?_⟩
            unfold sp_end
            simp only [decide_eq_false c2, Bool.false_and]
          have i := ih (k + 1) (sp_sa k (B p) w) (p + 1) (by omega) (by omega) (by omega)
          have s3 : pm_lim sX16_signed (.inr (.inl (592, Int32.ofNat bits, Int32.ofNat M, w, Int32.ofNat k, Int32.ofNat (B p), rm h (Int32.ofNat (p + 1)) f q))) = pm_lim sX16_signed (.inl (592, Int32.ofNat bits, Int32.ofNat M, sp_sa k (B p) w, Int32.ofNat (k + 1), rm h (Int32.ofNat (p + 1)) f q)) := by
            unfold sp_sa
            rw [ev_lm]; simp (disch := omega) only [e7', aX16_signed_0, tX16_signed_18, aX16_signed_1, tX16_signed_110, aX16_signed_2, tX16_signed_96, n3_1, n3_7, n3_127, n3_128, n6_63, nn_m31, nn_m63, nn_m15, nn_m7, nn_m127, ll_m63, Nat.reduceMod, Nat.reduceAdd, Nat.reduceMul, Nat.reduceSub, nn_sr6, nn_sl6, nn_le, nn_lt, nn_eq, nn_ad, nn_ml, nn_sb, nn_cm, nn_in, nn_t6, ll_le, ll_lt, ll_eq, ll_ad, ll_ml, ll_sb, ll_t3, ↓reduceIte, ev_kl, ev_kr, ↓ev_let, Option.bind_some, pt_k_r, pt_k_l, pt_s_r, pt_s_l, b_let, b_lef, b_ltt, b_ltf, b_eqt, b_eqf, and_true, true_and, and_false, false_and, or_true, true_or, or_false, false_or, not_true_eq_false, not_false_eq_true]
          rw [s3]
          exact i
    · rw [if_neg hl] at nx ⊢
      obtain ⟨a, nx⟩ := nx
      refine ⟨a, ?_⟩
      rw [ev_lm]; simp (disch := omega) only [rm_kd, k16, nx, aX16_signed_0, tX16_signed_18, aX16_signed_1, tX16_signed_110, aX16_signed_2, tX16_signed_96, n3_5, nn_m31, nn_m63, nn_m15, nn_m7, nn_m127, ll_m63, Nat.reduceMod, Nat.reduceAdd, Nat.reduceMul, Nat.reduceSub, nn_sr6, nn_sl6, nn_le, nn_lt, nn_eq, nn_ad, nn_ml, nn_sb, nn_cm, nn_in, nn_t6, ll_le, ll_lt, ll_eq, ll_ad, ll_ml, ll_sb, ll_t3, ↓reduceIte, ev_kl, ev_kr, ↓ev_let, Option.bind_some, pt_k_r, pt_k_l, pt_s_r, pt_s_l, b_let, b_lef, b_ltt, b_ltf, b_eqt, b_eqf, and_true, true_and, and_false, false_and, or_true, true_or, or_false, false_or, not_true_eq_false, not_false_eq_true]
theorem ms_sig (C : mS h n b m s B) (ie : pm_I h 592 12 = Int32.ofNat e) (he : e ≤ n) (hp : p ≤ e) (f q : Int32) {bits : Nat} (hb : bits = 32 ∨ bits = 33 ∨ bits = 64) : MR h s f q id (fX16_signed (rm h (Int32.ofNat p) f q) 592 (Int32.ofNat bits)) (sp_sig B e bits p) := by
  unfold sp_sig
  rcases hb with rfl | rfl | rfl
  · exact ms_sg C ie he f q (.inl ⟨rfl, rfl⟩) 5 0 0 p rfl (by decide) hp
  · exact ms_sg C ie he f q (.inr (.inl ⟨rfl, rfl⟩)) 5 0 0 p rfl (by decide) hp
  · exact ms_sg C ie he f q (.inr (.inr ⟨rfl, rfl⟩)) 10 0 0 p rfl (by decide) hp
end MREAD
