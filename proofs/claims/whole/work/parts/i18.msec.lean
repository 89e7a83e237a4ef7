/-! THE REFERENCE READS: rows of types, section 1 -/
def toI (to : Option Nat) : Int32 := match to with
  | some t => Int32.ofNat t
  | none => -1
def m16 (c : Nat) : Nat := if c ≤ 16 then c else 16
def up16 (h : pm_H) (m : Nat) (to : Option Nat) (k c : Nat) : pm_H := match to with
  | some t => if k < 16 then pm_setI h (m + 4) (t + k) (Int32.ofNat c) else h
  | none => h
def sp_tr (B : Nat → Nat) (e m : Nat) (to : Option Nat) : Nat → Nat → pm_H → Nat → sp_O pm_H
  | 0, _, h, p => .inr (h, p)
  | j + 1, k, h, p => sp_b (sp_byte sp_isT 8 B e p) fun c p' => sp_tr B e m to j (k + 1) (up16 h m to k c) p'
def sp_trow (B : Nat → Nat) (e m : Nat) (to : Option Nat) (h : pm_H) (p : Nat) : sp_O (pm_H × Nat) := sp_b (sp_num B e p) fun c p1 => sp_b (sp_tr B e m to c 0 (if c ≤ 16 then h else xc h m) p1) fun h' p2 => .inr ((h', m16 c), p2)
theorem up16_F {m eo el : Nat} (h : pm_H) (hm : 648 < m) (to : Option Nat) (k c : Nat) : yF m eo el h (up16 h m to k c) := by
  unfold up16
  cases to with
  | none => exact yF_r m eo el h
  | some t =>
    show yF m eo el h (if k < 16 then _ else _)
    split
    · exact yF_I h hm (by omega)
    · exact yF_r m eo el h
section MSEC
variable {n b m eo el e : Nat} {B : Nat → Nat} {d : Bool}
theorem ml_tr (f q : Int32) {c : Nat} (hc : c < 4294967296) (to : Option Nat) (ht : ∀ t, to = some t → t + 16 ≤ 2048) : ∀ (j k : Nat) (h : pm_H) (p : Nat), mC h n b m eo el e d B → k + j = c → p ≤ e → ms_Q (fun h' => yF m eo el h h') (fun h' p' r => r = (Int32.ofNat (m16 c), rm h' (Int32.ofNat p') f q) ∧ yF m eo el h h' ∧ p ≤ p' ∧ p' ≤ e) (pm_lim sX16_typeRow (592, toI to, Int64.ofNat c, Int64.ofNat k, rm h (Int32.ofNat p) f q)) (sp_tr B e m to j k h p) := by
  intro j
  induction j with
  | zero =>
    intro k h p C hk hp
    refine ⟨(Int32.ofNat (m16 c), rm h (Int32.ofNat p) f q), ?_, rfl, yF_r m eo el h, Nat.le_refl _, hp⟩
    unfold m16
    by_cases z : c ≤ 16
    · rw [if_pos z]
      rw [ev_lm]; simp (disch := omega) only [aX16_typeRow_0, tX16_typeRow_25, n6_16, n3_16, nn_m31, nn_m63, nn_m15, nn_m7, nn_m127, ll_m63, Nat.reduceMod, Nat.reduceAdd, Nat.reduceMul, Nat.reduceSub, nn_sr6, nn_sl6, nn_le, nn_lt, nn_eq, nn_ad, nn_ml, nn_sb, nn_cm, nn_in, nn_t6, ll_le, ll_lt, ll_eq, ll_ad, ll_ml, ll_sb, ll_t3, ↓reduceIte, ev_kl, ev_kr, ↓r_let, r_bs, pt_k_r, pt_k_l, pt_s_r, pt_s_l, b_let, b_lef, b_ltt, b_ltf, b_eqt, b_eqf, and_true, true_and, and_false, false_and, or_true, true_or, or_false, false_or, not_true_eq_false, not_false_eq_true]
    · rw [if_neg z]
      rw [ev_lm]; simp (disch := omega) only [aX16_typeRow_0, tX16_typeRow_25, n6_16, n3_16, nn_m31, nn_m63, nn_m15, nn_m7, nn_m127, ll_m63, Nat.reduceMod, Nat.reduceAdd, Nat.reduceMul, Nat.reduceSub, nn_sr6, nn_sl6, nn_le, nn_lt, nn_eq, nn_ad, nn_ml, nn_sb, nn_cm, nn_in, nn_t6, ll_le, ll_lt, ll_eq, ll_ad, ll_ml, ll_sb, ll_t3, ↓reduceIte, ev_kl, ev_kr, ↓r_let, r_bs, pt_k_r, pt_k_l, pt_s_r, pt_s_l, b_let, b_lef, b_ltt, b_ltf, b_eqt, b_eqf, and_true, true_and, and_false, false_and, or_true, true_or, or_false, false_or, not_true_eq_false, not_false_eq_true]
  | succ j ih =>
    intro k h p C hk hp
    obtain ⟨S, X, P, Z, ie, he, hd⟩ := id C
    have hm : 648 < m := X.2.2.2.2.2.2.2.2.2.2.2.2.2.2.2.2.2.1
    have k16 := S.1
    have rr := S.2.1
    have km := S.2.2.1
    have hb := S.2.2.2.2.2.2.2.2.2
    have st := ms_stops S
    obtain ⟨r7, k7, l7⟩ := mP_7 P
    have lz : ((-1 : Int32) < Int32.ofNat 0) = True := eq_true (by decide)
    unfold sp_tr
    have x1 := ms_type S ie he hp f q
    cases ho1 : sp_byte sp_isT 8 B e p with
    | inl w =>
      rw [ho1] at x1
      try rw [sp_bl]
      obtain ⟨a, x1⟩ := x1
      exact ⟨_, a, yF_r m eo el h, by rw [ev_lm, aX16_typeRow_0]; unfold tX16_typeRow_25; simp only [r_kd, r_R, r_ln, r_L, rm_sL, r_kdL, r_kdI, r_lnI, r_lnL, r_RI, r_RL, k16, rr, km, x1, ↓reduceIte, r_bs, ↓r_let, r_sr, r_sl, r_kl, r_kr]; (try simp (disch := omega) only [r_kd, r_R, r_ln, r_L, rm_sL, rm_a, rm_x, r_kdL, r_kdI, r_lnI, r_lnL, r_RI, r_RL, ev_LL, ev_LI, ev_II, ev_IL, k16, rr, km, x1, n6_0, n6_1, n3_0, nn_m31, nn_m63, nn_m15, nn_m7, nn_m127, ll_m63, Nat.reduceMod, Nat.reduceAdd, Nat.reduceMul, Nat.reduceSub, nn_sr6, nn_sl6, nn_le, nn_lt, nn_eq, nn_ad, nn_ml, nn_sb, nn_cm, nn_in, nn_t6, ll_le, ll_lt, ll_eq, ll_ad, ll_ml, ll_sb, ll_t3, ↓reduceIte, ev_kl, ev_kr, ↓r_let, r_bs, pt_k_r, pt_k_l, pt_s_r, pt_s_l, b_let, b_lef, b_ltt, b_ltf, b_eqt, b_eqf, and_true, true_and, and_false, false_and, or_true, true_or, or_false, false_or, not_true_eq_false, not_false_eq_true])⟩
    | inr v =>
      obtain ⟨v1, p1⟩ := v
      try rw [sp_br]
      rw [ho1] at x1
      have x1 : fX16_type (rm h (Int32.ofNat p) f q) 592 = some (.inr (Int32.ofNat v1, rm h (Int32.ofNat p1) f q)) := x1
      obtain ⟨bd1, hp1⟩ := sp_byte_b hp ho1
      have F := up16_F (eo := eo) (el := el) h hm to k v1
      have i := ih (k + 1) _ p1 (mC_F C F) (by omega) hp1
      have s1 : pm_lim sX16_typeRow (592, toI to, Int64.ofNat c, Int64.ofNat k, rm h (Int32.ofNat p) f q) = pm_lim sX16_typeRow (592, toI to, Int64.ofNat c, Int64.ofNat (k + 1), rm (up16 h m to k v1) (Int32.ofNat p1) f q) := by
        cases to with
        | none =>
          show pm_lim sX16_typeRow (592, -1, Int64.ofNat c, Int64.ofNat k, rm h (Int32.ofNat p) f q) = pm_lim sX16_typeRow (592, -1, Int64.ofNat c, Int64.ofNat (k + 1), rm h (Int32.ofNat p1) f q)
          rw [ev_lm, aX16_typeRow_0]; unfold tX16_typeRow_25; simp only [r_kd, r_R, r_ln, r_L, rm_sL, r_kdL, r_kdI, r_lnI, r_lnL, r_RI, r_RL, k16, rr, km, r7, k7, l7, x1, ↓reduceIte, r_bs, ↓r_let, r_sr, r_sl, r_kl, r_kr]; (try simp (disch := omega) only [r_kd, r_R, r_ln, r_L, rm_sL, rm_a, rm_x, r_kdL, r_kdI, r_lnI, r_lnL, r_RI, r_RL, ev_LL, ev_LI, ev_II, ev_IL, k16, rr, km, r7, k7, l7, x1, lz, n6_0, n6_1, n3_0, nn_m31, nn_m63, nn_m15, nn_m7, nn_m127, ll_m63, Nat.reduceMod, Nat.reduceAdd, Nat.reduceMul, Nat.reduceSub, nn_sr6, nn_sl6, nn_le, nn_lt, nn_eq, nn_ad, nn_ml, nn_sb, nn_cm, nn_in, nn_t6, ll_le, ll_lt, ll_eq, ll_ad, ll_ml, ll_sb, ll_t3, ↓reduceIte, ev_kl, ev_kr, ↓r_let, r_bs, pt_k_r, pt_k_l, pt_s_r, pt_s_l, b_let, b_lef, b_ltt, b_ltf, b_eqt, b_eqf, and_true, true_and, and_false, false_and, or_true, true_or, or_false, false_or, not_true_eq_false, not_false_eq_true])
        | some t =>
          have ht := ht t rfl
          show pm_lim sX16_typeRow (592, Int32.ofNat t, Int64.ofNat c, Int64.ofNat k, rm h (Int32.ofNat p) f q) = pm_lim sX16_typeRow (592, Int32.ofNat t, Int64.ofNat c, Int64.ofNat (k + 1), rm (if k < 16 then pm_setI h (m + 4) (t + k) (Int32.ofNat v1) else h) (Int32.ofNat p1) f q)
          by_cases k6 : k < 16
          · rw [if_pos k6]
            rw [ev_lm, aX16_typeRow_0]; unfold tX16_typeRow_25; simp only [r_kd, r_R, r_ln, r_L, rm_sL, r_kdL, r_kdI, r_lnI, r_lnL, r_RI, r_RL, k16, rr, km, r7, k7, l7, x1, ↓reduceIte, r_bs, ↓r_let, r_sr, r_sl, r_kl, r_kr]; (try simp (disch := omega) only [r_kd, r_R, r_ln, r_L, rm_sL, rm_a, rm_x, r_kdL, r_kdI, r_lnI, r_lnL, r_RI, r_RL, ev_LL, ev_LI, ev_II, ev_IL, k16, rr, km, r7, k7, l7, x1, n6_0, n6_1, n6_16, n3_0, nn_m31, nn_m63, nn_m15, nn_m7, nn_m127, ll_m63, Nat.reduceMod, Nat.reduceAdd, Nat.reduceMul, Nat.reduceSub, nn_sr6, nn_sl6, nn_le, nn_lt, nn_eq, nn_ad, nn_ml, nn_sb, nn_cm, nn_in, nn_t6, ll_le, ll_lt, ll_eq, ll_ad, ll_ml, ll_sb, ll_t3, ↓reduceIte, ev_kl, ev_kr, ↓r_let, r_bs, pt_k_r, pt_k_l, pt_s_r, pt_s_l, b_let, b_lef, b_ltt, b_ltf, b_eqt, b_eqf, and_true, true_and, and_false, false_and, or_true, true_or, or_false, false_or, not_true_eq_false, not_false_eq_true])
          · rw [if_neg k6]
            rw [ev_lm, aX16_typeRow_0]; unfold tX16_typeRow_25; simp only [r_kd, r_R, r_ln, r_L, rm_sL, r_kdL, r_kdI, r_lnI, r_lnL, r_RI, r_RL, k16, rr, km, r7, k7, l7, x1, ↓reduceIte, r_bs, ↓r_let, r_sr, r_sl, r_kl, r_kr]; (try simp (disch := omega) only [r_kd, r_R, r_ln, r_L, rm_sL, rm_a, rm_x, r_kdL, r_kdI, r_lnI, r_lnL, r_RI, r_RL, ev_LL, ev_LI, ev_II, ev_IL, k16, rr, km, r7, k7, l7, x1, n6_0, n6_1, n6_16, n3_0, nn_m31, nn_m63, nn_m15, nn_m7, nn_m127, ll_m63, Nat.reduceMod, Nat.reduceAdd, Nat.reduceMul, Nat.reduceSub, nn_sr6, nn_sl6, nn_le, nn_lt, nn_eq, nn_ad, nn_ml, nn_sb, nn_cm, nn_in, nn_t6, ll_le, ll_lt, ll_eq, ll_ad, ll_ml, ll_sb, ll_t3, ↓reduceIte, ev_kl, ev_kr, ↓r_let, r_bs, pt_k_r, pt_k_l, pt_s_r, pt_s_l, b_let, b_lef, b_ltt, b_ltf, b_eqt, b_eqf, and_true, true_and, and_false, false_and, or_true, true_or, or_false, false_or, not_true_eq_false, not_false_eq_true])
      rw [s1]
      revert i
      cases sp_tr B e m to j (k + 1) (up16 h m to k v1) p1 with
      | inl w =>
        rintro ⟨h2, a, F2, e2⟩
        exact ⟨h2, a, yF_t F F2, e2⟩
      | inr v =>
        rintro ⟨r, e1, e2, F2, e3, e4⟩
        exact ⟨r, e1, e2, yF_t F F2, by omega, e4⟩
theorem ms_trow {h : pm_H} {p : Nat} (C : mC h n b m eo el e d B) (hp : p ≤ e) (f q : Int32) (to : Option Nat) (ht : ∀ t, to = some t → t + 16 ≤ 2048) : ms_Q (fun h' => yF m eo el h h') (fun v p' r => r = (Int32.ofNat v.2, rm v.1 (Int32.ofNat p') f q) ∧ yF m eo el h v.1 ∧ p < p' ∧ p' ≤ e) (fX16_typeRow (rm h (Int32.ofNat p) f q) 592 (toI to)) (sp_trow B e m to h p) := by
  obtain ⟨S, X, P, Z, ie, he, hd⟩ := id C
  have hm : 648 < m := X.2.2.2.2.2.2.2.2.2.2.2.2.2.2.2.2.2.1
  have k16 := S.1
  have rr := S.2.1
  have km := S.2.2.1
  have hb := S.2.2.2.2.2.2.2.2.2
  have st := ms_stops S
  have ex0 := fun a => ms_exc0 (rm h a f q)
  have ex1 := fun a => ms_exc S a f q
  unfold sp_trow
  have x1 := ms_num S ie he hp f q
  cases ho1 : sp_num B e p with
  | inl w =>
    rw [ho1] at x1
    try rw [sp_bl]
    obtain ⟨a, x1⟩ := x1
    exact ⟨_, a, yF_r m eo el h, by simp (disch := omega) only [fX16_typeRow, r_kd, r_R, r_ln, r_L, rm_sL, rm_a, rm_x, r_kdL, r_kdI, r_lnI, r_lnL, r_RI, r_RL, ev_LL, ev_LI, ev_II, ev_IL, k16, rr, km, x1, n6_0, n6_16, n3_0, n3_1, nn_m31, nn_m63, nn_m15, nn_m7, nn_m127, ll_m63, Nat.reduceMod, Nat.reduceAdd, Nat.reduceMul, Nat.reduceSub, nn_sr6, nn_sl6, nn_le, nn_lt, nn_eq, nn_ad, nn_ml, nn_sb, nn_cm, nn_in, nn_t6, ll_le, ll_lt, ll_eq, ll_ad, ll_ml, ll_sb, ll_t3, ↓reduceIte, ev_kl, ev_kr, ↓r_let, r_bs, pt_k_r, pt_k_l, pt_s_r, pt_s_l, b_let, b_lef, b_ltt, b_ltf, b_eqt, b_eqf, and_true, true_and, and_false, false_and, or_true, true_or, or_false, false_or, not_true_eq_false, not_false_eq_true]⟩
  | inr v =>
    obtain ⟨v1, p1⟩ := v
    try rw [sp_br]
    rw [ho1] at x1
    have x1 : fX16_number (rm h (Int32.ofNat p) f q) 592 = some (.inr (Int64.ofNat v1, rm h (Int32.ofNat p1) f q)) := x1
    obtain ⟨bd1, hp1⟩ := sp_num_b hp ho1
    have nv := sp_num_v hb ho1
    have F : yF m eo el h (if v1 ≤ 16 then h else xc h m) := by
      split
      · exact yF_r m eo el h
      · exact yF_x hm (by omega) (by omega) (xc_F h)
    have i := ml_tr f q nv to ht v1 0 _ p1 (mC_F C F) (by omega) hp1
    have s1 : fX16_typeRow (rm h (Int32.ofNat p) f q) 592 (toI to) = pm_lim sX16_typeRow (592, toI to, Int64.ofNat v1, Int64.ofNat 0, rm (if v1 ≤ 16 then h else xc h m) (Int32.ofNat p1) f q) := by
      by_cases z : v1 ≤ 16
      · rw [if_pos z]
        simp (disch := omega) only [fX16_typeRow, r_kd, r_R, r_ln, r_L, rm_sL, rm_a, rm_x, r_kdL, r_kdI, r_lnI, r_lnL, r_RI, r_RL, ev_LL, ev_LI, ev_II, ev_IL, k16, rr, km, x1, ex0, n6_0, n6_16, n3_0, n3_1, nn_m31, nn_m63, nn_m15, nn_m7, nn_m127, ll_m63, Nat.reduceMod, Nat.reduceAdd, Nat.reduceMul, Nat.reduceSub, nn_sr6, nn_sl6, nn_le, nn_lt, nn_eq, nn_ad, nn_ml, nn_sb, nn_cm, nn_in, nn_t6, ll_le, ll_lt, ll_eq, ll_ad, ll_ml, ll_sb, ll_t3, ↓reduceIte, ev_kl, ev_kr, ↓r_let, r_bs, pt_k_r, pt_k_l, pt_s_r, pt_s_l, b_let, b_lef, b_ltt, b_ltf, b_eqt, b_eqf, and_true, true_and, and_false, false_and, or_true, true_or, or_false, false_or, not_true_eq_false, not_false_eq_true]
      · rw [if_neg z]
        simp (disch := omega) only [fX16_typeRow, r_kd, r_R, r_ln, r_L, rm_sL, rm_a, rm_x, r_kdL, r_kdI, r_lnI, r_lnL, r_RI, r_RL, ev_LL, ev_LI, ev_II, ev_IL, k16, rr, km, x1, ex1, n6_0, n6_16, n3_0, n3_1, nn_m31, nn_m63, nn_m15, nn_m7, nn_m127, ll_m63, Nat.reduceMod, Nat.reduceAdd, Nat.reduceMul, Nat.reduceSub, nn_sr6, nn_sl6, nn_le, nn_lt, nn_eq, nn_ad, nn_ml, nn_sb, nn_cm, nn_in, nn_t6, ll_le, ll_lt, ll_eq, ll_ad, ll_ml, ll_sb, ll_t3, ↓reduceIte, ev_kl, ev_kr, ↓r_let, r_bs, pt_k_r, pt_k_l, pt_s_r, pt_s_l, b_let, b_lef, b_ltt, b_ltf, b_eqt, b_eqf, and_true, true_and, and_false, false_and, or_true, true_or, or_false, false_or, not_true_eq_false, not_false_eq_true]
    rw [s1]
    cases hot : sp_tr B e m to v1 0 (if v1 ≤ 16 then h else xc h m) p1 with
    | inl w =>
      rw [hot] at i
      obtain ⟨h2, a, F2, e2⟩ := i
      exact ⟨h2, a, yF_t F F2, e2⟩
    | inr v =>
      obtain ⟨h2, p2⟩ := v
      rw [hot] at i
      obtain ⟨r, e1, e2, F2, e3, e4⟩ := i
      have e3 : p1 ≤ p2 := e3
      exact ⟨r, e1, e2, yF_t F F2, by show p < p2; omega, e4⟩
end MSEC
