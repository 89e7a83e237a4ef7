/-! THE REFERENCE READS: single bytes, names -/
/-- a run x of the reference does what o says: a fault over a base that F allows, or an end as R says -/
def ms_Q {α γ : Type} (F : pm_H → Prop) (R : α → Nat → γ → Prop) (x : Option ((Nat × pm_H) ⊕ γ)) (o : sp_O α) : Prop := match o with
  | .inl w => ∃ h' a, F h' ∧ x = some (.inl (595, rm h' a (Int32.ofNat w.1) (Int32.ofNat w.2)))
  | .inr v => ∃ r, x = some (.inr r) ∧ R v.1 v.2 r
theorem sp_isT_m : ∀ c : Fin 256, fX16_isType (Int32.ofNat c.val) = if sp_isT c.val = true then 1 else 0 := by decide +kernel
theorem sp_isR_m : ∀ c : Fin 256, fX16_isReference (Int32.ofNat c.val) = if sp_isR c.val = true then 1 else 0 := by decide +kernel
theorem sp_chr_le {B : Nat → Nat} {t p : Nat} (hp : p < t) : p + sp_chr B t p ≤ t := by
  unfold sp_chr
  repeat' split
  all_goals omega
theorem sp_num_b {B : Nat → Nat} {e p v p' : Nat} (hp : p ≤ e) (q : sp_num B e p = .inr (v, p')) : p < p' ∧ p' ≤ e := by
  have := sp_nu_b hp q
  exact ⟨this.2.2 (by decide), this.2.1⟩
theorem sp_num_v {B : Nat → Nat} (hB : ∀ i, B i < 256) {e p v p' : Nat} (q : sp_num B e p = .inr (v, p')) : v < 4294967296 := sp_nu_v (r := (v, p')) hB rfl (by decide) (by decide) q
section MREAD
variable {h : pm_H} {n b m s e p : Nat} {B : Nat → Nat}
theorem mS_I (C : mS h n b m s B) {x y : Nat} {v : Int32} (hx : x ≠ b) : mS (pm_setI h x y v) n b m s B := by
  obtain ⟨k, rr, km, rb, kb, lb, n4, rs, hB, hb⟩ := C
  refine ⟨k, rr, km, rb, kb, lb, n4, rs, fun i hi => ?_, hb⟩
  rw [ev_II, if_neg (Ne.symm hx)]
  exact hB i hi
theorem mS_L (C : mS h n b m s B) {x y : Nat} {v : Int64} : mS (pm_setL h x y v) n b m s B := C
theorem ms_byte (C : mS h n b m s B) (ie : pm_I h 592 12 = Int32.ofNat e) (he : e ≤ n) (hp : p ≤ e) (f q : Int32) : (sp_next B e p = .inr (B p, p + 1) ∧ p < e ∧ fX16_next (rm h (Int32.ofNat p) f q) 592 = some (.inr (Int32.ofNat (B p), rm h (Int32.ofNat (p + 1)) f q))) ∨ (sp_next B e p = .inl (1, e) ∧ ¬ p < e ∧ ∃ a, fX16_next (rm h (Int32.ofNat p) f q) 592 = some (.inl (s, rm h a 1 (Int32.ofNat e)))) := by
  have nx := ms_next C ie he hp f q
  unfold sp_next at nx ⊢
  by_cases hl : p < e
  · rw [if_pos hl] at nx ⊢
    exact .inl ⟨rfl, hl, nx⟩
  · rw [if_neg hl] at nx ⊢
    exact .inr ⟨rfl, hl, nx⟩
theorem ms_type (C : mS h n b m s B) (ie : pm_I h 592 12 = Int32.ofNat e) (he : e ≤ n) (hp : p ≤ e) (f q : Int32) : MR h s f q Int32.ofNat (fX16_type (rm h (Int32.ofNat p) f q) 592) (sp_byte sp_isT 8 B e p) := by
  have st := ms_stops C
  have k16 := C.1
  have n4 := C.2.2.2.2.2.2.1
  have tm : fX16_isType (Int32.ofNat (B p)) = if sp_isT (B p) = true then 1 else 0 := sp_isT_m ⟨B p, C.2.2.2.2.2.2.2.2.2 p⟩
  unfold sp_byte
  rcases ms_byte C ie he hp f q with ⟨_, hl, nx⟩ | ⟨_, hl, a, nx⟩
  · rw [if_pos hl]
    by_cases t : sp_isT (B p) = true
    · rw [if_pos t] at tm ⊢
      show _ = some _
      simp (disch := omega) only [fX16_type, rm_kd, k16, nx, tm, n3_0, n3_1, nn_m31, nn_m63, nn_m15, nn_m7, nn_m127, ll_m63, Nat.reduceMod, Nat.reduceAdd, Nat.reduceMul, Nat.reduceSub, nn_sr6, nn_sl6, nn_le, nn_lt, nn_eq, nn_ad, nn_ml, nn_sb, nn_cm, nn_in, nn_t6, ll_le, ll_lt, ll_eq, ll_ad, ll_ml, ll_sb, ll_t3, ↓reduceIte, ev_kl, ev_kr, ↓ev_let, Option.bind_some, pt_k_r, pt_k_l, pt_s_r, pt_s_l, b_let, b_lef, b_ltt, b_ltf, b_eqt, b_eqf, and_true, true_and, and_false, false_and, or_true, true_or, or_false, false_or, not_true_eq_false, not_false_eq_true]
    · rw [if_neg t] at tm ⊢
      refine ⟨Int32.ofNat (p + 1), ?_⟩
      simp (disch := omega) only [fX16_type, rm_kd, rm_11, k16, nx, tm, st, Nat.add_sub_cancel, n3_0, n3_1, n3_8, nn_m31, nn_m63, nn_m15, nn_m7, nn_m127, ll_m63, Nat.reduceMod, Nat.reduceAdd, Nat.reduceMul, Nat.reduceSub, nn_sr6, nn_sl6, nn_le, nn_lt, nn_eq, nn_ad, nn_ml, nn_sb, nn_cm, nn_in, nn_t6, ll_le, ll_lt, ll_eq, ll_ad, ll_ml, ll_sb, ll_t3, ↓reduceIte, ev_kl, ev_kr, ↓ev_let, Option.bind_some, pt_k_r, pt_k_l, pt_s_r, pt_s_l, b_let, b_lef, b_ltt, b_ltf, b_eqt, b_eqf, and_true, true_and, and_false, false_and, or_true, true_or, or_false, false_or, not_true_eq_false, not_false_eq_true]
  · rw [if_neg hl]
    refine ⟨a, ?_⟩
    simp (disch := omega) only [fX16_type, rm_kd, k16, nx, n3_1, nn_m31, nn_m63, nn_m15, nn_m7, nn_m127, ll_m63, Nat.reduceMod, Nat.reduceAdd, Nat.reduceMul, Nat.reduceSub, nn_sr6, nn_sl6, nn_le, nn_lt, nn_eq, nn_ad, nn_ml, nn_sb, nn_cm, nn_in, nn_t6, ll_le, ll_lt, ll_eq, ll_ad, ll_ml, ll_sb, ll_t3, ↓reduceIte, ev_kl, ev_kr, ↓ev_let, Option.bind_some, pt_k_r, pt_k_l, pt_s_r, pt_s_l, b_let, b_lef, b_ltt, b_ltf, b_eqt, b_eqf, and_true, true_and, and_false, false_and, or_true, true_or, or_false, false_or, not_true_eq_false, not_false_eq_true]
theorem ms_ref (C : mS h n b m s B) (ie : pm_I h 592 12 = Int32.ofNat e) (he : e ≤ n) (hp : p ≤ e) (f q : Int32) : MR h s f q Int32.ofNat (fX16_referenceType (rm h (Int32.ofNat p) f q) 592) (sp_byte sp_isR 8 B e p) := by
  have st := ms_stops C
  have k16 := C.1
  have n4 := C.2.2.2.2.2.2.1
  have tm : fX16_isReference (Int32.ofNat (B p)) = if sp_isR (B p) = true then 1 else 0 := sp_isR_m ⟨B p, C.2.2.2.2.2.2.2.2.2 p⟩
  unfold sp_byte
  rcases ms_byte C ie he hp f q with ⟨_, hl, nx⟩ | ⟨_, hl, a, nx⟩
  · rw [if_pos hl]
    by_cases t : sp_isR (B p) = true
    · rw [if_pos t] at tm ⊢
      show _ = some _
      simp (disch := omega) only [fX16_referenceType, rm_kd, k16, nx, tm, n3_0, n3_1, nn_m31, nn_m63, nn_m15, nn_m7, nn_m127, ll_m63, Nat.reduceMod, Nat.reduceAdd, Nat.reduceMul, Nat.reduceSub, nn_sr6, nn_sl6, nn_le, nn_lt, nn_eq, nn_ad, nn_ml, nn_sb, nn_cm, nn_in, nn_t6, ll_le, ll_lt, ll_eq, ll_ad, ll_ml, ll_sb, ll_t3, ↓reduceIte, ev_kl, ev_kr, ↓ev_let, Option.bind_some, pt_k_r, pt_k_l, pt_s_r, pt_s_l, b_let, b_lef, b_ltt, b_ltf, b_eqt, b_eqf, and_true, true_and, and_false, false_and, or_true, true_or, or_false, false_or, not_true_eq_false, not_false_eq_true]
    · rw [if_neg t] at tm ⊢
      refine ⟨Int32.ofNat (p + 1), ?_⟩
      simp (disch := omega) only [fX16_referenceType, rm_kd, rm_11, k16, nx, tm, st, Nat.add_sub_cancel, n3_0, n3_1, n3_8, nn_m31, nn_m63, nn_m15, nn_m7, nn_m127, ll_m63, Nat.reduceMod, Nat.reduceAdd, Nat.reduceMul, Nat.reduceSub, nn_sr6, nn_sl6, nn_le, nn_lt, nn_eq, nn_ad, nn_ml, nn_sb, nn_cm, nn_in, nn_t6, ll_le, ll_lt, ll_eq, ll_ad, ll_ml, ll_sb, ll_t3, ↓reduceIte, ev_kl, ev_kr, ↓ev_let, Option.bind_some, pt_k_r, pt_k_l, pt_s_r, pt_s_l, b_let, b_lef, b_ltt, b_ltf, b_eqt, b_eqf, and_true, true_and, and_false, false_and, or_true, true_or, or_false, false_or, not_true_eq_false, not_false_eq_true]
  · rw [if_neg hl]
    refine ⟨a, ?_⟩
    simp (disch := omega) only [fX16_referenceType, rm_kd, k16, nx, n3_1, nn_m31, nn_m63, nn_m15, nn_m7, nn_m127, ll_m63, Nat.reduceMod, Nat.reduceAdd, Nat.reduceMul, Nat.reduceSub, nn_sr6, nn_sl6, nn_le, nn_lt, nn_eq, nn_ad, nn_ml, nn_sb, nn_cm, nn_in, nn_t6, ll_le, ll_lt, ll_eq, ll_ad, ll_ml, ll_sb, ll_t3, ↓reduceIte, ev_kl, ev_kr, ↓ev_let, Option.bind_some, pt_k_r, pt_k_l, pt_s_r, pt_s_l, b_let, b_lef, b_ltt, b_ltf, b_eqt, b_eqf, and_true, true_and, and_false, false_and, or_true, true_or, or_false, false_or, not_true_eq_false, not_false_eq_true]
theorem ms_small (C : mS h n b m s B) (ie : pm_I h 592 12 = Int32.ofNat e) (he : e ≤ n) (hp : p ≤ e) (f q : Int32) {t : Nat} (ht : t < 256) : MR h s f q Int32.ofNat (fX16_small (rm h (Int32.ofNat p) f q) 592 (Int32.ofNat t)) (sp_byte (fun c => decide (c ≤ t)) 7 B e p) := by
  have st := ms_stops C
  have k16 := C.1
  have n4 := C.2.2.2.2.2.2.1
  have b0 := C.2.2.2.2.2.2.2.2.2 p
  unfold sp_byte
  rcases ms_byte C ie he hp f q with ⟨_, hl, nx⟩ | ⟨_, hl, a, nx⟩
  · rw [if_pos hl]
    by_cases t : B p ≤ t
    · rw [if_pos (decide_eq_true t)]
      show _ = some _
      simp (disch := omega) only [fX16_small, rm_kd, k16, nx, n3_0, n3_1, nn_m31, nn_m63, nn_m15, nn_m7, nn_m127, ll_m63, Nat.reduceMod, Nat.reduceAdd, Nat.reduceMul, Nat.reduceSub, nn_sr6, nn_sl6, nn_le, nn_lt, nn_eq, nn_ad, nn_ml, nn_sb, nn_cm, nn_in, nn_t6, ll_le, ll_lt, ll_eq, ll_ad, ll_ml, ll_sb, ll_t3, ↓reduceIte, ev_kl, ev_kr, ↓ev_let, Option.bind_some, pt_k_r, pt_k_l, pt_s_r, pt_s_l, b_let, b_lef, b_ltt, b_ltf, b_eqt, b_eqf, and_true, true_and, and_false, false_and, or_true, true_or, or_false, false_or, not_true_eq_false, not_false_eq_true]
    · rw [if_neg (by rw [decide_eq_true_iff]; exact t)]
      refine ⟨Int32.ofNat (p + 1), ?_⟩
      simp (disch := omega) only [fX16_small, rm_kd, rm_11, k16, nx, st, Nat.add_sub_cancel, n3_0, n3_1, n3_7, nn_m31, nn_m63, nn_m15, nn_m7, nn_m127, ll_m63, Nat.reduceMod, Nat.reduceAdd, Nat.reduceMul, Nat.reduceSub, nn_sr6, nn_sl6, nn_le, nn_lt, nn_eq, nn_ad, nn_ml, nn_sb, nn_cm, nn_in, nn_t6, ll_le, ll_lt, ll_eq, ll_ad, ll_ml, ll_sb, ll_t3, ↓reduceIte, ev_kl, ev_kr, ↓ev_let, Option.bind_some, pt_k_r, pt_k_l, pt_s_r, pt_s_l, b_let, b_lef, b_ltt, b_ltf, b_eqt, b_eqf, and_true, true_and, and_false, false_and, or_true, true_or, or_false, false_or, not_true_eq_false, not_false_eq_true]
  · rw [if_neg hl]
    refine ⟨a, ?_⟩
    simp (disch := omega) only [fX16_small, rm_kd, k16, nx, n3_1, nn_m31, nn_m63, nn_m15, nn_m7, nn_m127, ll_m63, Nat.reduceMod, Nat.reduceAdd, Nat.reduceMul, Nat.reduceSub, nn_sr6, nn_sl6, nn_le, nn_lt, nn_eq, nn_ad, nn_ml, nn_sb, nn_cm, nn_in, nn_t6, ll_le, ll_lt, ll_eq, ll_ad, ll_ml, ll_sb, ll_t3, ↓reduceIte, ev_kl, ev_kr, ↓ev_let, Option.bind_some, pt_k_r, pt_k_l, pt_s_r, pt_s_l, b_let, b_lef, b_ltt, b_ltf, b_eqt, b_eqf, and_true, true_and, and_false, false_and, or_true, true_or, or_false, false_or, not_true_eq_false, not_false_eq_true]
/-- a name's bytes -/
theorem ms_skip (C : mS h n b m s B) (ie : pm_I h 592 12 = Int32.ofNat e) (he : e ≤ n) (f q : Int32) {c : Nat} (hc : c < 4294967296) : ∀ j k p : Nat, k + j = c → p ≤ e → (p + j ≤ e → pm_lim sX16_name (.inl (592, Int64.ofNat c, Int64.ofNat k, rm h (Int32.ofNat p) f q)) = pm_lim sX16_name (.inr (592, pm_I h 592 16, rm h (Int32.ofNat (p + j)) f q))) ∧ (¬ p + j ≤ e → ∃ a, pm_lim sX16_name (.inl (592, Int64.ofNat c, Int64.ofNat k, rm h (Int32.ofNat p) f q)) = some (.inl (s, rm h a 1 (Int32.ofNat e)))) := by
  have k16 := C.1
  intro j
  induction j with
  | zero =>
    intro k p hk hp
    refine ⟨fun _ => ?_, fun z => absurd hp z⟩
    rw [ev_lm]; simp (disch := omega) only [rm_kd, rm_16, k16, Nat.add_zero, aX16_name_0, tX16_name_15, aX16_name_1, tX16_name_39, nn_m31, nn_m63, nn_m15, nn_m7, nn_m127, ll_m63, Nat.reduceMod, Nat.reduceAdd, Nat.reduceMul, Nat.reduceSub, nn_sr6, nn_sl6, nn_le, nn_lt, nn_eq, nn_ad, nn_ml, nn_sb, nn_cm, nn_in, nn_t6, ll_le, ll_lt, ll_eq, ll_ad, ll_ml, ll_sb, ll_t3, ↓reduceIte, ev_kl, ev_kr, ↓ev_let, Option.bind_some, pt_k_r, pt_k_l, pt_s_r, pt_s_l, b_let, b_lef, b_ltt, b_ltf, b_eqt, b_eqf, and_true, true_and, and_false, false_and, or_true, true_or, or_false, false_or, not_true_eq_false, not_false_eq_true]
  | succ j ih =>
    intro k p hk hp
    rcases ms_byte C ie he hp f q with ⟨_, hl, nx⟩ | ⟨_, hl, a, nx⟩
    · obtain ⟨i1, i2⟩ := ih (k + 1) (p + 1) (by omega) (by omega)
      have s1 : pm_lim sX16_name (.inl (592, Int64.ofNat c, Int64.ofNat k, rm h (Int32.ofNat p) f q)) = pm_lim sX16_name (.inl (592, Int64.ofNat c, Int64.ofNat (k + 1), rm h (Int32.ofNat (p + 1)) f q)) := by
        rw [ev_lm]; simp (disch := omega) only [rm_kd, k16, nx, aX16_name_0, tX16_name_15, aX16_name_1, tX16_name_39, n6_1, nn_m31, nn_m63, nn_m15, nn_m7, nn_m127, ll_m63, Nat.reduceMod, Nat.reduceAdd, Nat.reduceMul, Nat.reduceSub, nn_sr6, nn_sl6, nn_le, nn_lt, nn_eq, nn_ad, nn_ml, nn_sb, nn_cm, nn_in, nn_t6, ll_le, ll_lt, ll_eq, ll_ad, ll_ml, ll_sb, ll_t3, ↓reduceIte, ev_kl, ev_kr, ↓ev_let, Option.bind_some, pt_k_r, pt_k_l, pt_s_r, pt_s_l, b_let, b_lef, b_ltt, b_ltf, b_eqt, b_eqf, and_true, true_and, and_false, false_and, or_true, true_or, or_false, false_or, not_true_eq_false, not_false_eq_true]
      rw [s1]
      refine ⟨fun z => ?_, fun z => ?_⟩
      · rw [i1 (by omega)]
        congr 6
        omega
      · exact i2 (by omega)
    · refine ⟨fun z => absurd z (by omega), fun _ => ⟨a, ?_⟩⟩
      rw [ev_lm]; simp (disch := omega) only [rm_kd, k16, nx, aX16_name_0, tX16_name_15, aX16_name_1, tX16_name_39, n6_1, nn_m31, nn_m63, nn_m15, nn_m7, nn_m127, ll_m63, Nat.reduceMod, Nat.reduceAdd, Nat.reduceMul, Nat.reduceSub, nn_sr6, nn_sl6, nn_le, nn_lt, nn_eq, nn_ad, nn_ml, nn_sb, nn_cm, nn_in, nn_t6, ll_le, ll_lt, ll_eq, ll_ad, ll_ml, ll_sb, ll_t3, ↓reduceIte, ev_kl, ev_kr, ↓ev_let, Option.bind_some, pt_k_r, pt_k_l, pt_s_r, pt_s_l, b_let, b_lef, b_ltt, b_ltf, b_eqt, b_eqf, and_true, true_and, and_false, false_and, or_true, true_or, or_false, false_or, not_true_eq_false, not_false_eq_true]
/-- its characters -/
theorem ms_bad (C : mS h n b m s B) {t : Nat} (ht : t ≤ n) (f q : Int32) : ∀ N p : Nat, p ≤ t → t ≤ p + N → pm_lim sX16_name (.inr (592, Int32.ofNat p, rm h (Int32.ofNat t) f q)) = match sp_bad B t N p with
    | some x => some (.inl (s, rm h (Int32.ofNat t) 9 (Int32.ofNat x)))
    | none => some (.inr (rm h (Int32.ofNat t) f q)) := by
  have k16 := C.1
  have n4 := C.2.2.2.2.2.2.1
  intro N
  induction N with
  | zero =>
    intro p hp h2
    show _ = some _
    rw [ev_lm]; simp (disch := omega) only [rm_kd, rm_11, k16, aX16_name_0, tX16_name_15, aX16_name_1, tX16_name_39, nn_m31, nn_m63, nn_m15, nn_m7, nn_m127, ll_m63, Nat.reduceMod, Nat.reduceAdd, Nat.reduceMul, Nat.reduceSub, nn_sr6, nn_sl6, nn_le, nn_lt, nn_eq, nn_ad, nn_ml, nn_sb, nn_cm, nn_in, nn_t6, ll_le, ll_lt, ll_eq, ll_ad, ll_ml, ll_sb, ll_t3, ↓reduceIte, ev_kl, ev_kr, ↓ev_let, Option.bind_some, pt_k_r, pt_k_l, pt_s_r, pt_s_l, b_let, b_lef, b_ltt, b_ltf, b_eqt, b_eqf, and_true, true_and, and_false, false_and, or_true, true_or, or_false, false_or, not_true_eq_false, not_false_eq_true]
  | succ N ih =>
    intro p hp h2
    unfold sp_bad
    by_cases hl : p < t
    · rw [if_pos hl]
      have ch := ms_chr C hl ht (Int32.ofNat t) f q
      have cl := sp_chr_le (B := B) hl
      by_cases z : sp_chr B t p = 0
      · rw [if_pos z] at ch ⊢
        show _ = some _
        rw [ev_lm]; simp (disch := omega) only [rm_kd, rm_11, k16, ch, aX16_name_0, tX16_name_15, aX16_name_1, tX16_name_39, nn_m31, nn_m63, nn_m15, nn_m7, nn_m127, ll_m63, Nat.reduceMod, Nat.reduceAdd, Nat.reduceMul, Nat.reduceSub, nn_sr6, nn_sl6, nn_le, nn_lt, nn_eq, nn_ad, nn_ml, nn_sb, nn_cm, nn_in, nn_t6, ll_le, ll_lt, ll_eq, ll_ad, ll_ml, ll_sb, ll_t3, ↓reduceIte, ev_kl, ev_kr, ↓ev_let, Option.bind_some, pt_k_r, pt_k_l, pt_s_r, pt_s_l, b_let, b_lef, b_ltt, b_ltf, b_eqt, b_eqf, and_true, true_and, and_false, false_and, or_true, true_or, or_false, false_or, not_true_eq_false, not_false_eq_true]
      · rw [if_neg z] at ch ⊢
        have s1 : pm_lim sX16_name (.inr (592, Int32.ofNat p, rm h (Int32.ofNat t) f q)) = pm_lim sX16_name (.inr (592, Int32.ofNat (p + sp_chr B t p), rm h (Int32.ofNat t) f q)) := by
          rw [ev_lm]; simp (disch := omega) only [rm_kd, rm_11, k16, ch, aX16_name_0, tX16_name_15, aX16_name_1, tX16_name_39, nn_m31, nn_m63, nn_m15, nn_m7, nn_m127, ll_m63, Nat.reduceMod, Nat.reduceAdd, Nat.reduceMul, Nat.reduceSub, nn_sr6, nn_sl6, nn_le, nn_lt, nn_eq, nn_ad, nn_ml, nn_sb, nn_cm, nn_in, nn_t6, ll_le, ll_lt, ll_eq, ll_ad, ll_ml, ll_sb, ll_t3, ↓reduceIte, ev_kl, ev_kr, ↓ev_let, Option.bind_some, pt_k_r, pt_k_l, pt_s_r, pt_s_l, b_let, b_lef, b_ltt, b_ltf, b_eqt, b_eqf, and_true, true_and, and_false, false_and, or_true, true_or, or_false, false_or, not_true_eq_false, not_false_eq_true]
        rw [s1]
        exact ih (p + sp_chr B t p) cl (by omega)
    · rw [if_neg hl]
      show _ = some _
      rw [ev_lm]; simp (disch := omega) only [rm_kd, rm_11, k16, aX16_name_0, tX16_name_15, aX16_name_1, tX16_name_39, nn_m31, nn_m63, nn_m15, nn_m7, nn_m127, ll_m63, Nat.reduceMod, Nat.reduceAdd, Nat.reduceMul, Nat.reduceSub, nn_sr6, nn_sl6, nn_le, nn_lt, nn_eq, nn_ad, nn_ml, nn_sb, nn_cm, nn_in, nn_t6, ll_le, ll_lt, ll_eq, ll_ad, ll_ml, ll_sb, ll_t3, ↓reduceIte, ev_kl, ev_kr, ↓ev_let, Option.bind_some, pt_k_r, pt_k_l, pt_s_r, pt_s_l, b_let, b_lef, b_ltt, b_ltf, b_eqt, b_eqf, and_true, true_and, and_false, false_and, or_true, true_or, or_false, false_or, not_true_eq_false, not_false_eq_true]
theorem ms_name (C : mS h n b m 595 B) (ie : pm_I h 592 12 = Int32.ofNat e) (he : e ≤ n) (hp : p ≤ e) (f q : Int32) : ms_Q (fun h' => h' = h ∨ ∃ v, h' = pm_setI h 592 16 v) (fun p1 p' r => r = rm (pm_setI h 592 16 (Int32.ofNat p1)) (Int32.ofNat p') f q) (fX16_name (rm h (Int32.ofNat p) f q) 592) (sp_name B e p) := by
  have k16 := C.1
  have n4 := C.2.2.2.2.2.2.1
  have hb := C.2.2.2.2.2.2.2.2.2
  have x := ms_num C ie he hp f q
  unfold sp_name
  cases ho : sp_num B e p with
  | inl w =>
    rw [ho] at x
    obtain ⟨a, x⟩ := x
    refine ⟨h, a, .inl rfl, ?_⟩
    simp (disch := omega) only [fX16_name, rm_kd, k16, x, ↓reduceIte, ev_kl, ev_kr, ↓ev_let, Option.bind_some, pt_k_r, pt_k_l, pt_s_r, pt_s_l, b_let, b_lef, b_ltt, b_ltf, b_eqt, b_eqf, and_true, true_and, and_false, false_and, or_true, true_or, or_false, false_or, not_true_eq_false, not_false_eq_true]
  | inr v =>
    obtain ⟨c, p1⟩ := v
    rw [ho] at x
    have x : fX16_number (rm h (Int32.ofNat p) f q) 592 = some (.inr (Int64.ofNat c, rm h (Int32.ofNat p1) f q)) := x
    obtain ⟨bd1, bd2⟩ := sp_num_b hp ho
    have nv := sp_num_v hb ho
    have C1 : mS (pm_setI h 592 16 (Int32.ofNat p1)) n b m 595 B := mS_I C (Ne.symm (mS_nb C))
    have ie1 : pm_I (pm_setI h 592 16 (Int32.ofNat p1)) 592 12 = Int32.ofNat e := ie
    have e0 : fX16_name (rm h (Int32.ofNat p) f q) 592 = pm_lim sX16_name (.inl (592, Int64.ofNat c, Int64.ofNat 0, rm (pm_setI h 592 16 (Int32.ofNat p1)) (Int32.ofNat p1) f q)) := by
      simp (disch := omega) only [fX16_name, rm_kd, rm_11, rm_o, k16, x, n6_0, ↓reduceIte, ev_kl, ev_kr, ↓ev_let, Option.bind_some, pt_k_r, pt_k_l, pt_s_r, pt_s_l, b_let, b_lef, b_ltt, b_ltf, b_eqt, b_eqf, and_true, true_and, and_false, false_and, or_true, true_or, or_false, false_or, not_true_eq_false, not_false_eq_true]
    obtain ⟨s1, s2⟩ := ms_skip C1 ie1 he f q nv c 0 p1 (Nat.zero_add _) bd2
    show ms_Q _ _ _ (if p1 + c ≤ e then _ else _)
    rw [e0]
    by_cases hc : p1 + c ≤ e
    · rw [if_pos hc, s1 hc]
      have e16 : pm_I (pm_setI h 592 16 (Int32.ofNat p1)) 592 16 = Int32.ofNat p1 := rfl
      have bd := ms_bad C1 (t := p1 + c) (by omega) f q c p1 (by omega) (Nat.le_refl _)
      rw [e16, bd]
      cases sp_bad B (p1 + c) c p1 with
      | some y => exact ⟨_, _, .inr ⟨_, rfl⟩, rfl⟩
      | none => exact ⟨_, rfl, rfl⟩
    · rw [if_neg hc]
      obtain ⟨a, s2⟩ := s2 hc
      exact ⟨_, a, .inr ⟨_, rfl⟩, s2⟩
end MREAD
