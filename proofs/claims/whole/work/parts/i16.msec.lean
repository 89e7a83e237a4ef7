/-! THE REFERENCE READS: limits, functions' types, tables, memories -/
def kp (h : pm_H) (m c : Nat) : pm_H := if c ≤ 64 then h else xc h m
def k64 (c : Nat) : Nat := if c ≤ 64 then c else 64
theorem kp_x (h : pm_H) (m eo el c : Nat) : xF m eo el h (kp h m c) := by
  unfold kp
  split
  · exact xF_r m eo el h
  · exact xc_F h
/-- limits: the least, the greatest or -1 -/
def sp_lim (B : Nat → Nat) (e p : Nat) : sp_O (Nat × Int64) := sp_b (sp_byte (fun c => decide (c ≤ 1)) 7 B e p) fun c p1 => sp_b (sp_num B e p1) fun v p2 => if c = 1 then sp_b (sp_num B e p2) fun w p3 => .inr ((v, Int64.ofNat w), p3) else .inr ((v, -1), p2)
section MSEC
variable {h : pm_H} {n b m eo el e p : Nat} {B : Nat → Nat} {d : Bool}
theorem r_L (h : pm_H) (p f q : Int32) : pm_L (rm h p f q) = pm_L h := (rfl)
theorem r_kdL (h : pm_H) (a k x : Nat) (v : Int64) : pm_kd (pm_setL h a k v) x = pm_kd h x := (rfl)
theorem r_lnL (h : pm_H) (a k x : Nat) (v : Int64) : pm_ln (pm_setL h a k v) x = pm_ln h x := (rfl)
theorem r_RL (h : pm_H) (a k x y : Nat) (v : Int64) : pm_R (pm_setL h a k v) x y = pm_R h x y := (rfl)
theorem ms_kept (S : mS h n b m 595 B) {c : Nat} (hc : c < 4294967296) (a f q : Int32) : fX16_kept (rm h a f q) 592 (Int64.ofNat c) = some (Int32.ofNat (k64 c), rm (kp h m c) a f q) := by
  have k16 := S.1
  have ex0 := fun a => ms_exc0 (rm h a f q)
  have ex1 := fun a => ms_exc S a f q
  unfold kp k64
  by_cases z : c ≤ 64
  · rw [if_pos z, if_pos z]
    simp (disch := omega) only [fX16_kept, r_kd, k16, ex0, n3_0, n3_1, n6_64, nn_m31, nn_m63, nn_m15, nn_m7, nn_m127, ll_m63, Nat.reduceMod, Nat.reduceAdd, Nat.reduceMul, Nat.reduceSub, nn_sr6, nn_sl6, nn_le, nn_lt, nn_eq, nn_ad, nn_ml, nn_sb, nn_cm, nn_in, nn_t6, ll_le, ll_lt, ll_eq, ll_ad, ll_ml, ll_sb, ll_t3, ↓reduceIte, ev_kl, ev_kr, ↓r_let, r_bs, pt_k_r, pt_k_l, pt_s_r, pt_s_l, b_let, b_lef, b_ltt, b_ltf, b_eqt, b_eqf, and_true, true_and, and_false, false_and, or_true, true_or, or_false, false_or, not_true_eq_false, not_false_eq_true]
  · rw [if_neg z, if_neg z]
    simp (disch := omega) only [fX16_kept, r_kd, k16, ex1, n3_0, n3_1, n3_64, n6_64, nn_m31, nn_m63, nn_m15, nn_m7, nn_m127, ll_m63, Nat.reduceMod, Nat.reduceAdd, Nat.reduceMul, Nat.reduceSub, nn_sr6, nn_sl6, nn_le, nn_lt, nn_eq, nn_ad, nn_ml, nn_sb, nn_cm, nn_in, nn_t6, ll_le, ll_lt, ll_eq, ll_ad, ll_ml, ll_sb, ll_t3, ↓reduceIte, ev_kl, ev_kr, ↓r_let, r_bs, pt_k_r, pt_k_l, pt_s_r, pt_s_l, b_let, b_lef, b_ltt, b_ltf, b_eqt, b_eqf, and_true, true_and, and_false, false_and, or_true, true_or, or_false, false_or, not_true_eq_false, not_false_eq_true]
theorem ms_lim (C : mC h n b m eo el e d B) (hp : p ≤ e) (f q : Int32) : ms_Q (fun h' => yF m eo el h h') (fun v p' r => r = rm (pm_setL (pm_setL h 592 17 (Int64.ofNat v.1)) 592 18 v.2) (Int32.ofNat p') f q ∧ v.1 < 4294967296 ∧ p < p' ∧ p' ≤ e) (fX16_limits (rm h (Int32.ofNat p) f q) 592) (sp_lim B e p) := by
  obtain ⟨S, X, P, Z, ie, he, hd⟩ := C
  have hm := X.2.2.2.2.2.2.2.2.2.2.2.2.2.2.2.2.2.1
  have k16 := S.1
  have hb := S.2.2.2.2.2.2.2.2.2
  have S1 : ∀ v, mS (pm_setL h 592 17 v) n b m 595 B := fun v => S
  have ie1 : ∀ v, pm_I (pm_setL h 592 17 v) 592 12 = Int32.ofNat e := fun v => ie
  unfold sp_lim
  have x1 := ms_small S ie he hp f q (t := 1) (by decide)
  cases ho1 : sp_byte (fun c => decide (c ≤ 1)) 7 B e p with
  | inl w =>
    rw [ho1] at x1
    try rw [sp_bl]
    obtain ⟨a, x1⟩ := x1
    exact ⟨_, a, yF_r m eo el h, by simp (disch := omega) only [fX16_limits, r_kd, r_R, r_ln, rm_sL, r_kdL, k16, x1, n3_0, n3_1, n6_0, nn_m31, nn_m63, nn_m15, nn_m7, nn_m127, ll_m63, Nat.reduceMod, Nat.reduceAdd, Nat.reduceMul, Nat.reduceSub, nn_sr6, nn_sl6, nn_le, nn_lt, nn_eq, nn_ad, nn_ml, nn_sb, nn_cm, nn_in, nn_t6, ll_le, ll_lt, ll_eq, ll_ad, ll_ml, ll_sb, ll_t3, ↓reduceIte, ev_kl, ev_kr, ↓r_let, r_bs, pt_k_r, pt_k_l, pt_s_r, pt_s_l, b_let, b_lef, b_ltt, b_ltf, b_eqt, b_eqf, and_true, true_and, and_false, false_and, or_true, true_or, or_false, false_or, not_true_eq_false, not_false_eq_true]⟩
  | inr v =>
    obtain ⟨v1, p1⟩ := v
    try rw [sp_br]
    rw [ho1] at x1
    have x1 : fX16_small (rm h (Int32.ofNat p) f q) 592 (Int32.ofNat 1) = some (.inr (Int32.ofNat v1, rm h (Int32.ofNat p1) f q)) := x1
    obtain ⟨bd1, hp1⟩ := sp_byte_b hp ho1
    have x2 := ms_num S ie he hp1 f q
    cases ho2 : sp_num B e p1 with
    | inl w =>
      rw [ho2] at x2
      try rw [sp_bl]
      obtain ⟨a, x2⟩ := x2
      exact ⟨_, a, yF_r m eo el h, by simp (disch := omega) only [fX16_limits, r_kd, r_R, r_ln, rm_sL, r_kdL, k16, x1, x2, n3_0, n3_1, n6_0, nn_m31, nn_m63, nn_m15, nn_m7, nn_m127, ll_m63, Nat.reduceMod, Nat.reduceAdd, Nat.reduceMul, Nat.reduceSub, nn_sr6, nn_sl6, nn_le, nn_lt, nn_eq, nn_ad, nn_ml, nn_sb, nn_cm, nn_in, nn_t6, ll_le, ll_lt, ll_eq, ll_ad, ll_ml, ll_sb, ll_t3, ↓reduceIte, ev_kl, ev_kr, ↓r_let, r_bs, pt_k_r, pt_k_l, pt_s_r, pt_s_l, b_let, b_lef, b_ltt, b_ltf, b_eqt, b_eqf, and_true, true_and, and_false, false_and, or_true, true_or, or_false, false_or, not_true_eq_false, not_false_eq_true]⟩
    | inr v =>
      obtain ⟨v2, p2⟩ := v
      try rw [sp_br]
      rw [ho2] at x2
      have x2 : fX16_number (rm h (Int32.ofNat p1) f q) 592 = some (.inr (Int64.ofNat v2, rm h (Int32.ofNat p2) f q)) := x2
      obtain ⟨bd2, hp2⟩ := sp_num_b hp1 ho2
      have nv := sp_num_v hb ho2
      have b1 := bd1.2.2.2
      by_cases c1 : v1 = 1
      · rw [if_pos c1]
        have x3 := ms_num (S1 (Int64.ofNat v2)) (ie1 _) he hp2 f q
        cases ho3 : sp_num B e p2 with
        | inl w =>
          rw [ho3] at x3
          rw [sp_bl]
          obtain ⟨a, x3⟩ := x3
          exact ⟨pm_setL h 592 17 (Int64.ofNat v2), a, yF_L h hm (by omega), by simp (disch := omega) only [fX16_limits, r_kd, r_R, r_ln, rm_sL, r_kdL, k16, x1, x2, x3, n3_0, n3_1, n6_0, nn_m31, nn_m63, nn_m15, nn_m7, nn_m127, ll_m63, Nat.reduceMod, Nat.reduceAdd, Nat.reduceMul, Nat.reduceSub, nn_sr6, nn_sl6, nn_le, nn_lt, nn_eq, nn_ad, nn_ml, nn_sb, nn_cm, nn_in, nn_t6, ll_le, ll_lt, ll_eq, ll_ad, ll_ml, ll_sb, ll_t3, ↓reduceIte, ev_kl, ev_kr, ↓r_let, r_bs, pt_k_r, pt_k_l, pt_s_r, pt_s_l, b_let, b_lef, b_ltt, b_ltf, b_eqt, b_eqf, and_true, true_and, and_false, false_and, or_true, true_or, or_false, false_or, not_true_eq_false, not_false_eq_true]⟩
        | inr v =>
          obtain ⟨v3, p3⟩ := v
          rw [sp_br]
          rw [ho3] at x3
          have x3 : fX16_number (rm (pm_setL h 592 17 (Int64.ofNat v2)) (Int32.ofNat p2) f q) 592 = some (.inr (Int64.ofNat v3, rm (pm_setL h 592 17 (Int64.ofNat v2)) (Int32.ofNat p3) f q)) := x3
          obtain ⟨bd3, hp3⟩ := sp_num_b hp2 ho3
          exact ⟨_, by simp (disch := omega) only [fX16_limits, r_kd, r_R, r_ln, rm_sL, r_kdL, k16, x1, x2, x3, n3_0, n3_1, n6_0, nn_m31, nn_m63, nn_m15, nn_m7, nn_m127, ll_m63, Nat.reduceMod, Nat.reduceAdd, Nat.reduceMul, Nat.reduceSub, nn_sr6, nn_sl6, nn_le, nn_lt, nn_eq, nn_ad, nn_ml, nn_sb, nn_cm, nn_in, nn_t6, ll_le, ll_lt, ll_eq, ll_ad, ll_ml, ll_sb, ll_t3, ↓reduceIte, ev_kl, ev_kr, ↓r_let, r_bs, pt_k_r, pt_k_l, pt_s_r, pt_s_l, b_let, b_lef, b_ltt, b_ltf, b_eqt, b_eqf, and_true, true_and, and_false, false_and, or_true, true_or, or_false, false_or, not_true_eq_false, not_false_eq_true], rfl, nv, by omega, hp3⟩
      · rw [if_neg c1]
        have bb : v1 ≤ 1 := by
          have := bd1.2.2.2
          exact of_decide_eq_true this
        exact ⟨_, by simp (disch := omega) only [fX16_limits, r_kd, r_R, r_ln, rm_sL, r_kdL, k16, x1, x2, n3_0, n3_1, n6_0, nn_m31, nn_m63, nn_m15, nn_m7, nn_m127, ll_m63, Nat.reduceMod, Nat.reduceAdd, Nat.reduceMul, Nat.reduceSub, nn_sr6, nn_sl6, nn_le, nn_lt, nn_eq, nn_ad, nn_ml, nn_sb, nn_cm, nn_in, nn_t6, ll_le, ll_lt, ll_eq, ll_ad, ll_ml, ll_sb, ll_t3, ↓reduceIte, ev_kl, ev_kr, ↓r_let, r_bs, pt_k_r, pt_k_l, pt_s_r, pt_s_l, b_let, b_lef, b_ltt, b_ltf, b_eqt, b_eqf, and_true, true_and, and_false, false_and, or_true, true_or, or_false, false_or, not_true_eq_false, not_false_eq_true], rfl, nv, by omega, hp2⟩
end MSEC
