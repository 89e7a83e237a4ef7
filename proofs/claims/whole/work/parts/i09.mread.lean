/-! THE REFERENCE READS: what stands behind an instruction's number -/
def sp_cls (op : Nat) : Nat := if op < 2 ∨ op = 15 ∨ op = 26 ∨ op = 27 ∨ (69 ≤ op ∧ op ≤ 196) ∨ op = 209 then 0 else if op = 12 ∨ op = 13 ∨ op = 16 ∨ (32 ≤ op ∧ op ≤ 38) ∨ op = 210 then 1 else if (40 ≤ op ∧ op ≤ 62) ∨ op = 17 then 2 else if op = 14 then 3 else if op = 28 then 4 else if op = 63 ∨ op = 64 then 5 else if op = 65 then 6 else if op = 66 then 7 else if op = 67 then 8 else if op = 68 then 9 else if op = 208 then 10 else if op = 252 then 11 else 12
/-- so many numbers; so many types (the last one is told); so many bytes, the lowest first -/
def sp_nums (B : Nat → Nat) (e : Nat) : Nat → Nat → sp_O Unit
  | 0, p => .inr ((), p)
  | j + 1, p => sp_b (sp_num B e p) fun _ p' => sp_nums B e j p'
def sp_tys (B : Nat → Nat) (e : Nat) : Nat → Nat → Nat → sp_O Nat
  | 0, t, p => .inr (t, p)
  | j + 1, _, p => sp_b (sp_byte sp_isT 8 B e p) fun c p' => sp_tys B e j c p'
def sp_les (B : Nat → Nat) (e : Nat) : Nat → Nat → Nat → Nat → sp_O Nat
  | 0, _, v, p => .inr (v, p)
  | j + 1, i, v, p => sp_b (sp_next B e p) fun c p' => sp_les B e j (i + 1) (v + c * 2 ^ (8 * i)) p'
/-- an instruction: its number, two numbers behind it, and whether it is beyond the engine's limits in a body -/
abbrev sp_I : Type := Nat × Int64 × Int64 × Bool
def sp_fur (B : Nat → Nat) (e : Nat) (d : Bool) (p0 p : Nat) : sp_O sp_I := sp_b (sp_num B e p) fun k p1 =>
  if 17 < k then .inl (10, p0) else if (k = 8 ∨ k = 9) ∧ d = false then .inl (11, p0)
  else if k < 8 then .inr ((200 + k, 0, 0, false), p1)
  else if k = 8 then sp_b (sp_num B e p1) fun x p2 => sp_b (sp_byte (fun c => decide (c ≤ 0)) 7 B e p2) fun _ p3 => .inr ((300 + k, Int64.ofNat x, 0, false), p3)
  else if k = 10 then sp_b (sp_byte (fun c => decide (c ≤ 0)) 7 B e p1) fun _ p2 => sp_b (sp_byte (fun c => decide (c ≤ 0)) 7 B e p2) fun _ p3 => .inr ((300 + k, 0, 0, false), p3)
  else if k = 11 then sp_b (sp_byte (fun c => decide (c ≤ 0)) 7 B e p1) fun _ p2 => .inr ((300 + k, 0, 0, false), p2)
  else if k = 12 ∨ k = 14 then sp_b (sp_num B e p1) fun x p2 => sp_b (sp_num B e p2) fun y p3 => .inr ((300 + k, Int64.ofNat x, Int64.ofNat y, false), p3)
  else sp_b (sp_num B e p1) fun x p2 => .inr ((300 + k, Int64.ofNat x, 0, false), p2)
def sp_ops (B : Nat → Nat) (e : Nat) (d : Bool) (op p0 p : Nat) : sp_O sp_I :=
  if sp_cls op = 0 then .inr ((op, 0, 0, false), p)
  else if sp_cls op = 1 then sp_b (sp_num B e p) fun x p1 => .inr ((op, Int64.ofNat x, 0, false), p1)
  else if sp_cls op = 2 then sp_b (sp_num B e p) fun x p1 => sp_b (sp_num B e p1) fun y p2 => .inr ((op, Int64.ofNat x, Int64.ofNat y, false), p2)
  else if sp_cls op = 3 then sp_b (sp_num B e p) fun x p1 => sp_b (sp_nums B e (x + 1) p1) fun _ p2 => .inr ((op, Int64.ofNat x, Int64.ofNat p1, decide (200 < x)), p2)
  else if sp_cls op = 4 then sp_b (sp_num B e p) fun x p1 => sp_b (sp_tys B e x 0 p1) fun t p2 => .inr ((op, Int64.ofNat x, Int64.ofNat t, decide (x ≠ 1)), p2)
  else if sp_cls op = 5 then sp_b (sp_byte (fun c => decide (c ≤ 0)) 7 B e p) fun _ p1 => .inr ((op, 0, 0, false), p1)
  else if sp_cls op = 6 then sp_b (sp_sig B e 32 p) fun x p1 => .inr ((op, x &&& 4294967295, 0, false), p1)
  else if sp_cls op = 7 then sp_b (sp_sig B e 64 p) fun x p1 => .inr ((op, x, 0, false), p1)
  else if sp_cls op = 8 then sp_b (sp_les B e 4 0 0 p) fun x p1 => .inr ((op, Int64.ofNat x, 0, false), p1)
  else if sp_cls op = 9 then sp_b (sp_les B e 8 0 0 p) fun x p1 => .inr ((op, Int64.ofNat x, 0, false), p1)
  else if sp_cls op = 10 then sp_b (sp_byte sp_isR 8 B e p) fun x p1 => .inr ((op, Int64.ofNat x, 0, false), p1)
  else if sp_cls op = 11 then sp_fur B e d p0 p
  else .inl (10, p0)
theorem sp_byte_b {ok : Nat → Bool} {w : Nat} {B : Nat → Nat} {e p v p' : Nat} (hp : p ≤ e) (q : sp_byte ok w B e p = .inr (v, p')) : (p < p' ∧ p' = p + 1 ∧ v = B p ∧ ok v = true) ∧ p' ≤ e := by
  unfold sp_byte at q
  split at q
  · split at q
    · next z =>
      cases q
      exact ⟨⟨Nat.lt_succ_self p, rfl, rfl, z⟩, by omega⟩
    · cases q
  · cases q
theorem sp_sig_b {B : Nat → Nat} {e bits p p' : Nat} {v : Int64} (hp : p ≤ e) (q : sp_sig B e bits p = .inr (v, p')) : p < p' ∧ p' ≤ e := by
  have := sp_sg_b hp q
  exact ⟨this.2.2 (by split <;> decide), this.2.1⟩
theorem sp_alone : ∀ op : Fin 256, (fX16_isAlone (Int32.ofNat op.val) = 0) = ¬ (sp_cls op.val = 0) := by
  have : ∀ op : Fin 256, (fX16_isAlone (Int32.ofNat op.val) = 0) ↔ ¬ (sp_cls op.val = 0) := by decide +kernel
  exact fun c => propext (this c)
theorem sp_hasn : ∀ op : Fin 256, ¬ sp_cls op.val = 0 → (fX16_hasNumber (Int32.ofNat op.val) = 0) = ¬ (sp_cls op.val = 1) := by
  have : ∀ op : Fin 256, ¬ sp_cls op.val = 0 → ((fX16_hasNumber (Int32.ofNat op.val) = 0) ↔ ¬ (sp_cls op.val = 1)) := by decide +kernel
  exact fun c h => propext (this c h)
theorem sp_isac : ∀ op : Fin 256, (fX16_isAccess (Int32.ofNat op.val) = 0) = ¬ (40 ≤ op.val ∧ op.val ≤ 62) := by
  have : ∀ op : Fin 256, (fX16_isAccess (Int32.ofNat op.val) = 0) ↔ ¬ (40 ≤ op.val ∧ op.val ≤ 62) := by decide +kernel
  exact fun c => propext (this c)
/-- the base with the limit told, if it wasn't yet -/
def xc (h : pm_H) (m : Nat) : pm_H := if 0 ≤ pm_I h m 3 then h else pm_setI h m 3 (pm_I h 592 13)
section MREAD
variable {h : pm_H} {n b m s e p : Nat} {B : Nat → Nat}
theorem mS_nm (C : mS h n b m s B) : m ≠ b := fun q => by have := C.2.2.1; rw [q, C.2.2.2.2.1] at this; exact absurd this (by decide)
theorem mS_m (C : mS h n b m s B) : m ≠ 592 := fun q => by have := C.2.2.1; rw [q, C.1] at this; exact absurd this (by decide)
theorem mS_x (C : mS h n b m s B) : mS (xc h m) n b m s B := by
  unfold xc
  split
  · exact C
  · exact mS_I C (mS_nm C)
theorem xc_f (C : mS h n b m s B) (y : Nat) : pm_I (xc h m) 592 y = pm_I h 592 y := by
  unfold xc
  split
  · rfl
  · rw [ev_II, if_neg (Ne.symm (mS_m C))]
theorem ms_exc (C : mS h n b m s B) (a f q : Int32) : fX16_exceeds (rm h a f q) 592 (Int32.ofNat 1) = some (rm (xc h m) a f q) := by
  have nm := mS_m C
  obtain ⟨k, rr, km, rb, kb, lb, n4, rs, hB, hb⟩ := C
  unfold xc
  by_cases z : 0 ≤ pm_I h m 3
  · rw [if_pos z]
    have z' : Int32.ofNat 0 ≤ pm_I h m 3 := z
    simp (disch := omega) only [fX16_exceeds, rm_kd, rm_R, rm_x _ _ _ _ nm, k, rr, km, eq_true z', n3_0, nn_m31, nn_m63, nn_m15, nn_m7, nn_m127, ll_m63, Nat.reduceMod, Nat.reduceAdd, Nat.reduceMul, Nat.reduceSub, nn_sr6, nn_sl6, nn_le, nn_lt, nn_eq, nn_ad, nn_ml, nn_sb, nn_cm, nn_in, nn_t6, ll_le, ll_lt, ll_eq, ll_ad, ll_ml, ll_sb, ll_t3, ↓reduceIte, ev_kl, ev_kr, ↓ev_let, Option.bind_some, pt_k_r, pt_k_l, pt_s_r, pt_s_l, b_let, b_lef, b_ltt, b_ltf, b_eqt, b_eqf, and_true, true_and, and_false, false_and, or_true, true_or, or_false, false_or, not_true_eq_false, not_false_eq_true]
  · rw [if_neg z]
    have z' : ¬ Int32.ofNat 0 ≤ pm_I h m 3 := z
    simp (disch := omega) only [fX16_exceeds, rm_kd, rm_R, rm_x _ _ _ _ nm, rm_13, rm_a _ _ _ _ _ nm, k, rr, km, eq_false z', n3_0, nn_m31, nn_m63, nn_m15, nn_m7, nn_m127, ll_m63, Nat.reduceMod, Nat.reduceAdd, Nat.reduceMul, Nat.reduceSub, nn_sr6, nn_sl6, nn_le, nn_lt, nn_eq, nn_ad, nn_ml, nn_sb, nn_cm, nn_in, nn_t6, ll_le, ll_lt, ll_eq, ll_ad, ll_ml, ll_sb, ll_t3, ↓reduceIte, ev_kl, ev_kr, ↓ev_let, Option.bind_some, pt_k_r, pt_k_l, pt_s_r, pt_s_l, b_let, b_lef, b_ltt, b_ltf, b_eqt, b_eqf, and_true, true_and, and_false, false_and, or_true, true_or, or_false, false_or, not_true_eq_false, not_false_eq_true]
theorem ms_exc0 (h : pm_H) : fX16_exceeds h 592 (Int32.ofNat 0) = some h := rfl
/-- the three loops -/
theorem ms_lnums (C : mS h n b m 595 B) (ie : pm_I h 592 12 = Int32.ofNat e) (he : e ≤ n) (f q : Int32) {c : Nat} (hc : c < 4294967296) : ∀ j k p : Nat, k + j = c + 1 → p ≤ e → ms_Q (fun h' => h' = h) (fun _ p' r => r = rm h (Int32.ofNat p') f q ∧ p ≤ p' ∧ p' ≤ e) (pm_lim sX16_operands (.inr (.inr (592, Int64.ofNat c, Int64.ofNat k, rm h (Int32.ofNat p) f q)))) (sp_nums B e j p) := by
  have k16 := C.1
  intro j
  induction j with
  | zero =>
    intro k p hk hp
    refine ⟨rm h (Int32.ofNat p) f q, ?_, rfl, Nat.le_refl _, hp⟩
    rw [ev_lm]; simp (disch := omega) only [rm_kd, k16, aX16_operands_0, tX16_operands_247, aX16_operands_1, tX16_operands_150, aX16_operands_2, tX16_operands_89, nn_m31, nn_m63, nn_m15, nn_m7, nn_m127, ll_m63, Nat.reduceMod, Nat.reduceAdd, Nat.reduceMul, Nat.reduceSub, nn_sr6, nn_sl6, nn_le, nn_lt, nn_eq, nn_ad, nn_ml, nn_sb, nn_cm, nn_in, nn_t6, ll_le, ll_lt, ll_eq, ll_ad, ll_ml, ll_sb, ll_t3, ↓reduceIte, ev_kl, ev_kr, ↓ev_let, Option.bind_some, pt_k_r, pt_k_l, pt_s_r, pt_s_l, b_let, b_lef, b_ltt, b_ltf, b_eqt, b_eqf, and_true, true_and, and_false, false_and, or_true, true_or, or_false, false_or, not_true_eq_false, not_false_eq_true]
  | succ j ih =>
    intro k p hk hp
    unfold sp_nums

    have x1 := ms_num C ie he hp f q
    cases ho1 : sp_num B e p with
    | inl w =>
      rw [ho1] at x1
      obtain ⟨a, x1⟩ := x1
      exact ⟨_, a, rfl, by rw [ev_lm]; simp (disch := omega) only [rm_kd, k16, x1, aX16_operands_0, tX16_operands_247, aX16_operands_1, tX16_operands_150, aX16_operands_2, tX16_operands_89, n6_1, nn_m31, nn_m63, nn_m15, nn_m7, nn_m127, ll_m63, Nat.reduceMod, Nat.reduceAdd, Nat.reduceMul, Nat.reduceSub, nn_sr6, nn_sl6, nn_le, nn_lt, nn_eq, nn_ad, nn_ml, nn_sb, nn_cm, nn_in, nn_t6, ll_le, ll_lt, ll_eq, ll_ad, ll_ml, ll_sb, ll_t3, ↓reduceIte, ev_kl, ev_kr, ↓ev_let, Option.bind_some, pt_k_r, pt_k_l, pt_s_r, pt_s_l, b_let, b_lef, b_ltt, b_ltf, b_eqt, b_eqf, and_true, true_and, and_false, false_and, or_true, true_or, or_false, false_or, not_true_eq_false, not_false_eq_true]⟩
    | inr v =>
      obtain ⟨v1, p1⟩ := v
      rw [ho1] at x1
      have x1 : fX16_number (rm h (Int32.ofNat p) f q) 592 = some (.inr (Int64.ofNat v1, rm h (Int32.ofNat p1) f q)) := x1
      obtain ⟨bd1, hp1⟩ := sp_num_b hp ho1
      have i := ih (k + 1) p1 (by omega) (by omega)
      have s1 : pm_lim sX16_operands (.inr (.inr (592, Int64.ofNat c, Int64.ofNat k, rm h (Int32.ofNat p) f q))) = pm_lim sX16_operands (.inr (.inr (592, Int64.ofNat c, Int64.ofNat (k + 1), rm h (Int32.ofNat p1) f q))) := by
        rw [ev_lm]; simp (disch := omega) only [rm_kd, k16, x1, aX16_operands_0, tX16_operands_247, aX16_operands_1, tX16_operands_150, aX16_operands_2, tX16_operands_89, n6_1, nn_m31, nn_m63, nn_m15, nn_m7, nn_m127, ll_m63, Nat.reduceMod, Nat.reduceAdd, Nat.reduceMul, Nat.reduceSub, nn_sr6, nn_sl6, nn_le, nn_lt, nn_eq, nn_ad, nn_ml, nn_sb, nn_cm, nn_in, nn_t6, ll_le, ll_lt, ll_eq, ll_ad, ll_ml, ll_sb, ll_t3, ↓reduceIte, ev_kl, ev_kr, ↓ev_let, Option.bind_some, pt_k_r, pt_k_l, pt_s_r, pt_s_l, b_let, b_lef, b_ltt, b_ltf, b_eqt, b_eqf, and_true, true_and, and_false, false_and, or_true, true_or, or_false, false_or, not_true_eq_false, not_false_eq_true]
      rw [s1]
      show ms_Q _ _ _ (sp_nums B e j p1)
      revert i
      cases sp_nums B e j p1 with
      | inl w => exact id
      | inr v =>
        intro i
        obtain ⟨r, e1, e2, e3, e4⟩ := i
        exact ⟨r, e1, e2, by omega, e4⟩
theorem ms_ltys (C : mS h n b m 595 B) (ie : pm_I h 592 12 = Int32.ofNat e) (he : e ≤ n) (f q : Int32) {c : Nat} (hc : c < 4294967296) : ∀ j k t p : Nat, k + j = c → p ≤ e → ms_Q (fun h' => h' = h) (fun _ p' r => r = rm h (Int32.ofNat p') f q ∧ p ≤ p' ∧ p' ≤ e) (pm_lim sX16_operands (.inr (.inl (592, Int64.ofNat c, Int64.ofNat k, rm h (Int32.ofNat p) f q)))) (sp_tys B e j t p) := by
  have k16 := C.1
  intro j
  induction j with
  | zero =>
    intro k t p hk hp
    refine ⟨rm h (Int32.ofNat p) f q, ?_, rfl, Nat.le_refl _, hp⟩
    rw [ev_lm]; simp (disch := omega) only [rm_kd, k16, aX16_operands_0, tX16_operands_247, aX16_operands_1, tX16_operands_150, aX16_operands_2, tX16_operands_89, nn_m31, nn_m63, nn_m15, nn_m7, nn_m127, ll_m63, Nat.reduceMod, Nat.reduceAdd, Nat.reduceMul, Nat.reduceSub, nn_sr6, nn_sl6, nn_le, nn_lt, nn_eq, nn_ad, nn_ml, nn_sb, nn_cm, nn_in, nn_t6, ll_le, ll_lt, ll_eq, ll_ad, ll_ml, ll_sb, ll_t3, ↓reduceIte, ev_kl, ev_kr, ↓ev_let, Option.bind_some, pt_k_r, pt_k_l, pt_s_r, pt_s_l, b_let, b_lef, b_ltt, b_ltf, b_eqt, b_eqf, and_true, true_and, and_false, false_and, or_true, true_or, or_false, false_or, not_true_eq_false, not_false_eq_true]
  | succ j ih =>
    intro k t p hk hp
    unfold sp_tys

    have x1 := ms_type C ie he hp f q
    cases ho1 : sp_byte sp_isT 8 B e p with
    | inl w =>
      rw [ho1] at x1
      obtain ⟨a, x1⟩ := x1
      exact ⟨_, a, rfl, by rw [ev_lm]; simp (disch := omega) only [rm_kd, k16, x1, aX16_operands_0, tX16_operands_247, aX16_operands_1, tX16_operands_150, aX16_operands_2, tX16_operands_89, n6_1, nn_m31, nn_m63, nn_m15, nn_m7, nn_m127, ll_m63, Nat.reduceMod, Nat.reduceAdd, Nat.reduceMul, Nat.reduceSub, nn_sr6, nn_sl6, nn_le, nn_lt, nn_eq, nn_ad, nn_ml, nn_sb, nn_cm, nn_in, nn_t6, ll_le, ll_lt, ll_eq, ll_ad, ll_ml, ll_sb, ll_t3, ↓reduceIte, ev_kl, ev_kr, ↓ev_let, Option.bind_some, pt_k_r, pt_k_l, pt_s_r, pt_s_l, b_let, b_lef, b_ltt, b_ltf, b_eqt, b_eqf, and_true, true_and, and_false, false_and, or_true, true_or, or_false, false_or, not_true_eq_false, not_false_eq_true]⟩
    | inr v =>
      obtain ⟨v1, p1⟩ := v
      rw [ho1] at x1
      have x1 : fX16_type (rm h (Int32.ofNat p) f q) 592 = some (.inr (Int32.ofNat v1, rm h (Int32.ofNat p1) f q)) := x1
      obtain ⟨bd1, hp1⟩ := sp_byte_b hp ho1
      have i := ih (k + 1) v1 p1 (by omega) (by omega)
      have s1 : pm_lim sX16_operands (.inr (.inl (592, Int64.ofNat c, Int64.ofNat k, rm h (Int32.ofNat p) f q))) = pm_lim sX16_operands (.inr (.inl (592, Int64.ofNat c, Int64.ofNat (k + 1), rm h (Int32.ofNat p1) f q))) := by
        rw [ev_lm]; simp (disch := omega) only [rm_kd, k16, x1, aX16_operands_0, tX16_operands_247, aX16_operands_1, tX16_operands_150, aX16_operands_2, tX16_operands_89, n6_1, nn_m31, nn_m63, nn_m15, nn_m7, nn_m127, ll_m63, Nat.reduceMod, Nat.reduceAdd, Nat.reduceMul, Nat.reduceSub, nn_sr6, nn_sl6, nn_le, nn_lt, nn_eq, nn_ad, nn_ml, nn_sb, nn_cm, nn_in, nn_t6, ll_le, ll_lt, ll_eq, ll_ad, ll_ml, ll_sb, ll_t3, ↓reduceIte, ev_kl, ev_kr, ↓ev_let, Option.bind_some, pt_k_r, pt_k_l, pt_s_r, pt_s_l, b_let, b_lef, b_ltt, b_ltf, b_eqt, b_eqf, and_true, true_and, and_false, false_and, or_true, true_or, or_false, false_or, not_true_eq_false, not_false_eq_true]
      rw [s1]
      show ms_Q _ _ _ (sp_tys B e j v1 p1)
      revert i
      cases sp_tys B e j v1 p1 with
      | inl w => exact id
      | inr v =>
        intro i
        obtain ⟨r, e1, e2, e3, e4⟩ := i
        exact ⟨r, e1, e2, by omega, e4⟩
theorem ms_lles (C : mS h n b m 595 B) (ie : pm_I h 592 12 = Int32.ofNat e) (he : e ≤ n) (f q : Int32) {op c : Nat} (hc : (op = 67 ∧ c = 4) ∨ (op = 68 ∧ c = 8)) : ∀ j k v p : Nat, k + j = c → p ≤ e → ms_Q (fun h' => h' = h) (fun _ p' r => r = rm h (Int32.ofNat p') f q ∧ p ≤ p' ∧ p' ≤ e) (pm_lim sX16_operands (.inl (592, Int32.ofNat op, Int32.ofNat k, rm h (Int32.ofNat p) f q))) (sp_les B e j k v p) := by
  have k16 := C.1
  intro j
  induction j with
  | zero =>
    intro k v p hk hp
    refine ⟨rm h (Int32.ofNat p) f q, ?_, rfl, Nat.le_refl _, hp⟩
    by_cases o67 : op = 67
    · rw [ev_lm]; simp (disch := omega) only [rm_kd, k16, aX16_operands_0, tX16_operands_247, aX16_operands_1, tX16_operands_150, aX16_operands_2, tX16_operands_89, n3_4, n3_8, n3_67, nn_m31, nn_m63, nn_m15, nn_m7, nn_m127, ll_m63, Nat.reduceMod, Nat.reduceAdd, Nat.reduceMul, Nat.reduceSub, nn_sr6, nn_sl6, nn_le, nn_lt, nn_eq, nn_ad, nn_ml, nn_sb, nn_cm, nn_in, nn_t6, ll_le, ll_lt, ll_eq, ll_ad, ll_ml, ll_sb, ll_t3, ↓reduceIte, ev_kl, ev_kr, ↓ev_let, Option.bind_some, pt_k_r, pt_k_l, pt_s_r, pt_s_l, b_let, b_lef, b_ltt, b_ltf, b_eqt, b_eqf, and_true, true_and, and_false, false_and, or_true, true_or, or_false, false_or, not_true_eq_false, not_false_eq_true]
    · rw [ev_lm]; simp (disch := omega) only [rm_kd, k16, aX16_operands_0, tX16_operands_247, aX16_operands_1, tX16_operands_150, aX16_operands_2, tX16_operands_89, n3_4, n3_8, n3_67, nn_m31, nn_m63, nn_m15, nn_m7, nn_m127, ll_m63, Nat.reduceMod, Nat.reduceAdd, Nat.reduceMul, Nat.reduceSub, nn_sr6, nn_sl6, nn_le, nn_lt, nn_eq, nn_ad, nn_ml, nn_sb, nn_cm, nn_in, nn_t6, ll_le, ll_lt, ll_eq, ll_ad, ll_ml, ll_sb, ll_t3, ↓reduceIte, ev_kl, ev_kr, ↓ev_let, Option.bind_some, pt_k_r, pt_k_l, pt_s_r, pt_s_l, b_let, b_lef, b_ltt, b_ltf, b_eqt, b_eqf, and_true, true_and, and_false, false_and, or_true, true_or, or_false, false_or, not_true_eq_false, not_false_eq_true]
  | succ j ih =>
    intro k v p hk hp
    unfold sp_les
    rcases ms_byte C ie he hp f q with ⟨e1, hl, nx⟩ | ⟨e1, hl, a, nx⟩
    · rw [e1]
      have i := ih (k + 1) (v + B p * 2 ^ (8 * k)) (p + 1) (by omega) (by omega)
      have s1 : pm_lim sX16_operands (.inl (592, Int32.ofNat op, Int32.ofNat k, rm h (Int32.ofNat p) f q)) = pm_lim sX16_operands (.inl (592, Int32.ofNat op, Int32.ofNat (k + 1), rm h (Int32.ofNat (p + 1)) f q)) := by
        by_cases o67 : op = 67
        · rw [ev_lm]; simp (disch := omega) only [rm_kd, k16, nx, aX16_operands_0, tX16_operands_247, aX16_operands_1, tX16_operands_150, aX16_operands_2, tX16_operands_89, n3_1, n3_4, n3_8, n3_67, nn_m31, nn_m63, nn_m15, nn_m7, nn_m127, ll_m63, Nat.reduceMod, Nat.reduceAdd, Nat.reduceMul, Nat.reduceSub, nn_sr6, nn_sl6, nn_le, nn_lt, nn_eq, nn_ad, nn_ml, nn_sb, nn_cm, nn_in, nn_t6, ll_le, ll_lt, ll_eq, ll_ad, ll_ml, ll_sb, ll_t3, ↓reduceIte, ev_kl, ev_kr, ↓ev_let, Option.bind_some, pt_k_r, pt_k_l, pt_s_r, pt_s_l, b_let, b_lef, b_ltt, b_ltf, b_eqt, b_eqf, and_true, true_and, and_false, false_and, or_true, true_or, or_false, false_or, not_true_eq_false, not_false_eq_true]
        · rw [ev_lm]; simp (disch := omega) only [rm_kd, k16, nx, aX16_operands_0, tX16_operands_247, aX16_operands_1, tX16_operands_150, aX16_operands_2, tX16_operands_89, n3_1, n3_4, n3_8, n3_67, nn_m31, nn_m63, nn_m15, nn_m7, nn_m127, ll_m63, Nat.reduceMod, Nat.reduceAdd, Nat.reduceMul, Nat.reduceSub, nn_sr6, nn_sl6, nn_le, nn_lt, nn_eq, nn_ad, nn_ml, nn_sb, nn_cm, nn_in, nn_t6, ll_le, ll_lt, ll_eq, ll_ad, ll_ml, ll_sb, ll_t3, ↓reduceIte, ev_kl, ev_kr, ↓ev_let, Option.bind_some, pt_k_r, pt_k_l, pt_s_r, pt_s_l, b_let, b_lef, b_ltt, b_ltf, b_eqt, b_eqf, and_true, true_and, and_false, false_and, or_true, true_or, or_false, false_or, not_true_eq_false, not_false_eq_true]
      rw [s1]
      show ms_Q _ _ _ (sp_les B e j (k + 1) (v + B p * 2 ^ (8 * k)) (p + 1))
      revert i
      cases sp_les B e j (k + 1) (v + B p * 2 ^ (8 * k)) (p + 1) with
      | inl w => exact id
      | inr v =>
        intro i
        obtain ⟨r, e1, e2, e3, e4⟩ := i
        exact ⟨r, e1, e2, by omega, e4⟩
    · rw [e1]
      refine ⟨h, a, rfl, ?_⟩
      by_cases o67 : op = 67
      · rw [ev_lm]; simp (disch := omega) only [rm_kd, k16, nx, aX16_operands_0, tX16_operands_247, aX16_operands_1, tX16_operands_150, aX16_operands_2, tX16_operands_89, n3_1, n3_4, n3_8, n3_67, nn_m31, nn_m63, nn_m15, nn_m7, nn_m127, ll_m63, Nat.reduceMod, Nat.reduceAdd, Nat.reduceMul, Nat.reduceSub, nn_sr6, nn_sl6, nn_le, nn_lt, nn_eq, nn_ad, nn_ml, nn_sb, nn_cm, nn_in, nn_t6, ll_le, ll_lt, ll_eq, ll_ad, ll_ml, ll_sb, ll_t3, ↓reduceIte, ev_kl, ev_kr, ↓ev_let, Option.bind_some, pt_k_r, pt_k_l, pt_s_r, pt_s_l, b_let, b_lef, b_ltt, b_ltf, b_eqt, b_eqf, and_true, true_and, and_false, false_and, or_true, true_or, or_false, false_or, not_true_eq_false, not_false_eq_true]
      · rw [ev_lm]; simp (disch := omega) only [rm_kd, k16, nx, aX16_operands_0, tX16_operands_247, aX16_operands_1, tX16_operands_150, aX16_operands_2, tX16_operands_89, n3_1, n3_4, n3_8, n3_67, nn_m31, nn_m63, nn_m15, nn_m7, nn_m127, ll_m63, Nat.reduceMod, Nat.reduceAdd, Nat.reduceMul, Nat.reduceSub, nn_sr6, nn_sl6, nn_le, nn_lt, nn_eq, nn_ad, nn_ml, nn_sb, nn_cm, nn_in, nn_t6, ll_le, ll_lt, ll_eq, ll_ad, ll_ml, ll_sb, ll_t3, ↓reduceIte, ev_kl, ev_kr, ↓ev_let, Option.bind_some, pt_k_r, pt_k_l, pt_s_r, pt_s_l, b_let, b_lef, b_ltt, b_ltf, b_eqt, b_eqf, and_true, true_and, and_false, false_and, or_true, true_or, or_false, false_or, not_true_eq_false, not_false_eq_true]
end MREAD
