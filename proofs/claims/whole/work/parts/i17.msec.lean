/-! THE REFERENCE READS: the sections 3, 4, 5 -/
section MSEC
variable {n b m eo el e : Nat} {B : Nat → Nat} {d : Bool}
def sp_fns (B : Nat → Nat) (e m : Nat) : Nat → Nat → pm_H → Nat → sp_O pm_H
  | 0, _, h, p => .inr (h, p)
  | j + 1, k, h, p => sp_b (sp_num B e p) fun v p' => sp_fns B e m j (k + 1) (if k < 64 then pm_setL h (m + 10) k (Int64.ofNat v) else h) p'
theorem ml_fns (f q : Int32) {c : Nat} (hc : c < 4294967296) : ∀ (j k : Nat) (h : pm_H) (p : Nat), mC h n b m eo el e d B → k + j = c → p ≤ e → ms_Q (fun h' => yF m eo el h h') (fun h' p' r => r = rm h' (Int32.ofNat p') f q ∧ yF m eo el h h' ∧ p ≤ p' ∧ p' ≤ e) (pm_lim sX16_readsFunctions (592, Int64.ofNat c, Int64.ofNat k, rm h (Int32.ofNat p) f q)) (sp_fns B e m j k h p) := by
  intro j
  induction j with
  | zero =>
    intro k h p C hk hp
    refine ⟨rm h (Int32.ofNat p) f q, ?_, rfl, yF_r m eo el h, Nat.le_refl _, hp⟩
    rw [ev_lm]; simp (disch := omega) only [aX16_readsFunctions_0, tX16_readsFunctions_27, nn_m31, nn_m63, nn_m15, nn_m7, nn_m127, ll_m63, Nat.reduceMod, Nat.reduceAdd, Nat.reduceMul, Nat.reduceSub, nn_sr6, nn_sl6, nn_le, nn_lt, nn_eq, nn_ad, nn_ml, nn_sb, nn_cm, nn_in, nn_t6, ll_le, ll_lt, ll_eq, ll_ad, ll_ml, ll_sb, ll_t3, ↓reduceIte, ev_kl, ev_kr, ↓r_let, r_bs, pt_k_r, pt_k_l, pt_s_r, pt_s_l, b_let, b_lef, b_ltt, b_ltf, b_eqt, b_eqf, and_true, true_and, and_false, false_and, or_true, true_or, or_false, false_or, not_true_eq_false, not_false_eq_true]
  | succ j ih =>
    intro k h p C hk hp
    obtain ⟨S, X, P, Z, ie, he, hd⟩ := id C
    have hm : 648 < m := X.2.2.2.2.2.2.2.2.2.2.2.2.2.2.2.2.2.1
    have k16 := S.1
    have rr := S.2.1
    have km := S.2.2.1
    have hb := S.2.2.2.2.2.2.2.2.2
    obtain ⟨r16, k16, l16⟩ := mP_16 P
    have next : ∀ (h' : pm_H) (p' : Nat), yF m eo el h h' → p ≤ p' → p' ≤ e → pm_lim sX16_readsFunctions (592, Int64.ofNat c, Int64.ofNat k, rm h (Int32.ofNat p) f q) = pm_lim sX16_readsFunctions (592, Int64.ofNat c, Int64.ofNat (k + 1), rm h' (Int32.ofNat p') f q) → ms_Q (fun h' => yF m eo el h h') (fun h' p' r => r = rm h' (Int32.ofNat p') f q ∧ yF m eo el h h' ∧ p ≤ p' ∧ p' ≤ e) (pm_lim sX16_readsFunctions (592, Int64.ofNat c, Int64.ofNat k, rm h (Int32.ofNat p) f q)) (sp_fns B e m j (k + 1) h' p') := by
      intro h' p' F hp1 hp2 hs
      have i := ih (k + 1) h' p' (mC_F C F) (by omega) hp2
      rw [hs]
      revert i
      cases sp_fns B e m j (k + 1) h' p' with
      | inl w =>
        rintro ⟨h2, a, F2, e2⟩
        exact ⟨h2, a, yF_t F F2, e2⟩
      | inr v =>
        rintro ⟨r, e1, e2, F2, e3, e4⟩
        exact ⟨r, e1, e2, yF_t F F2, by omega, e4⟩
    unfold sp_fns
    have x1 := ms_num S ie he hp f q
    cases ho1 : sp_num B e p with
    | inl w =>
      rw [ho1] at x1
      try rw [sp_bl]
      obtain ⟨a, x1⟩ := x1
      exact ⟨_, a, yF_r m eo el h, by rw [ev_lm, aX16_readsFunctions_0]; unfold tX16_readsFunctions_27; simp only [r_kd, r_R, r_ln, r_L, rm_sL, r_kdL, r_kdI, r_lnI, r_lnL, r_RI, r_RL, k16, rr, km, r16, k16, l16, x1, ↓reduceIte, r_bs, ↓r_let, r_sr, r_sl, r_kl, r_kr]; (try simp (disch := omega) only [r_kd, r_R, r_ln, r_L, rm_sL, rm_a, rm_x, r_kdL, r_kdI, r_lnI, r_lnL, r_RI, r_RL, ev_LL, ev_LI, ev_II, ev_IL, k16, rr, km, r16, k16, l16, x1, n6_0, n6_1, n6_64, n3_0, nn_m31, nn_m63, nn_m15, nn_m7, nn_m127, ll_m63, Nat.reduceMod, Nat.reduceAdd, Nat.reduceMul, Nat.reduceSub, nn_sr6, nn_sl6, nn_le, nn_lt, nn_eq, nn_ad, nn_ml, nn_sb, nn_cm, nn_in, nn_t6, ll_le, ll_lt, ll_eq, ll_ad, ll_ml, ll_sb, ll_t3, ↓reduceIte, ev_kl, ev_kr, ↓r_let, r_bs, pt_k_r, pt_k_l, pt_s_r, pt_s_l, b_let, b_lef, b_ltt, b_ltf, b_eqt, b_eqf, and_true, true_and, and_false, false_and, or_true, true_or, or_false, false_or, not_true_eq_false, not_false_eq_true])⟩
    | inr v =>
      obtain ⟨v1, p1⟩ := v
      try rw [sp_br]
      rw [ho1] at x1
      have x1 : fX16_number (rm h (Int32.ofNat p) f q) 592 = some (.inr (Int64.ofNat v1, rm h (Int32.ofNat p1) f q)) := x1
      obtain ⟨bd1, hp1⟩ := sp_num_b hp ho1
      by_cases c64 : k < 64
      · rw [if_pos c64]
        exact next _ p1 (yF_L h hm (by omega)) (by omega) hp1 (by rw [ev_lm, aX16_readsFunctions_0]; unfold tX16_readsFunctions_27; simp only [r_kd, r_R, r_ln, r_L, rm_sL, r_kdL, r_kdI, r_lnI, r_lnL, r_RI, r_RL, k16, rr, km, r16, k16, l16, x1, ↓reduceIte, r_bs, ↓r_let, r_sr, r_sl, r_kl, r_kr]; (try simp (disch := omega) only [r_kd, r_R, r_ln, r_L, rm_sL, rm_a, rm_x, r_kdL, r_kdI, r_lnI, r_lnL, r_RI, r_RL, ev_LL, ev_LI, ev_II, ev_IL, k16, rr, km, r16, k16, l16, x1, n6_0, n6_1, n6_64, n3_0, nn_m31, nn_m63, nn_m15, nn_m7, nn_m127, ll_m63, Nat.reduceMod, Nat.reduceAdd, Nat.reduceMul, Nat.reduceSub, nn_sr6, nn_sl6, nn_le, nn_lt, nn_eq, nn_ad, nn_ml, nn_sb, nn_cm, nn_in, nn_t6, ll_le, ll_lt, ll_eq, ll_ad, ll_ml, ll_sb, ll_t3, ↓reduceIte, ev_kl, ev_kr, ↓r_let, r_bs, pt_k_r, pt_k_l, pt_s_r, pt_s_l, b_let, b_lef, b_ltt, b_ltf, b_eqt, b_eqf, and_true, true_and, and_false, false_and, or_true, true_or, or_false, false_or, not_true_eq_false, not_false_eq_true]))
      · rw [if_neg c64]
        exact next _ p1 (yF_r m eo el h) (by omega) hp1 (by rw [ev_lm, aX16_readsFunctions_0]; unfold tX16_readsFunctions_27; simp only [r_kd, r_R, r_ln, r_L, rm_sL, r_kdL, r_kdI, r_lnI, r_lnL, r_RI, r_RL, k16, rr, km, r16, k16, l16, x1, ↓reduceIte, r_bs, ↓r_let, r_sr, r_sl, r_kl, r_kr]; (try simp (disch := omega) only [r_kd, r_R, r_ln, r_L, rm_sL, rm_a, rm_x, r_kdL, r_kdI, r_lnI, r_lnL, r_RI, r_RL, ev_LL, ev_LI, ev_II, ev_IL, k16, rr, km, r16, k16, l16, x1, n6_0, n6_1, n6_64, n3_0, nn_m31, nn_m63, nn_m15, nn_m7, nn_m127, ll_m63, Nat.reduceMod, Nat.reduceAdd, Nat.reduceMul, Nat.reduceSub, nn_sr6, nn_sl6, nn_le, nn_lt, nn_eq, nn_ad, nn_ml, nn_sb, nn_cm, nn_in, nn_t6, ll_le, ll_lt, ll_eq, ll_ad, ll_ml, ll_sb, ll_t3, ↓reduceIte, ev_kl, ev_kr, ↓r_let, r_bs, pt_k_r, pt_k_l, pt_s_r, pt_s_l, b_let, b_lef, b_ltt, b_ltf, b_eqt, b_eqf, and_true, true_and, and_false, false_and, or_true, true_or, or_false, false_or, not_true_eq_false, not_false_eq_true]))
def sp_mms (B : Nat → Nat) (e m : Nat) : Nat → Nat → pm_H → Nat → sp_O pm_H
  | 0, _, h, p => .inr (h, p)
  | j + 1, k, h, p => sp_b (sp_lim B e p) fun v p' => sp_mms B e m j (k + 1) (if k < 64 then pm_setL (pm_setL (pm_setL (pm_setL h 592 17 (Int64.ofNat v.1)) 592 18 v.2) (m + 14) k (Int64.ofNat v.1)) (m + 15) k v.2 else pm_setL (pm_setL h 592 17 (Int64.ofNat v.1)) 592 18 v.2) p'
theorem ml_mms (f q : Int32) {c : Nat} (hc : c < 4294967296) : ∀ (j k : Nat) (h : pm_H) (p : Nat), mC h n b m eo el e d B → k + j = c → p ≤ e → ms_Q (fun h' => yF m eo el h h') (fun h' p' r => r = rm h' (Int32.ofNat p') f q ∧ yF m eo el h h' ∧ p ≤ p' ∧ p' ≤ e) (pm_lim sX16_readsMemories (592, Int64.ofNat c, Int64.ofNat k, rm h (Int32.ofNat p) f q)) (sp_mms B e m j k h p) := by
  intro j
  induction j with
  | zero =>
    intro k h p C hk hp
    refine ⟨rm h (Int32.ofNat p) f q, ?_, rfl, yF_r m eo el h, Nat.le_refl _, hp⟩
    rw [ev_lm]; simp (disch := omega) only [aX16_readsMemories_0, tX16_readsMemories_19, nn_m31, nn_m63, nn_m15, nn_m7, nn_m127, ll_m63, Nat.reduceMod, Nat.reduceAdd, Nat.reduceMul, Nat.reduceSub, nn_sr6, nn_sl6, nn_le, nn_lt, nn_eq, nn_ad, nn_ml, nn_sb, nn_cm, nn_in, nn_t6, ll_le, ll_lt, ll_eq, ll_ad, ll_ml, ll_sb, ll_t3, ↓reduceIte, ev_kl, ev_kr, ↓r_let, r_bs, pt_k_r, pt_k_l, pt_s_r, pt_s_l, b_let, b_lef, b_ltt, b_ltf, b_eqt, b_eqf, and_true, true_and, and_false, false_and, or_true, true_or, or_false, false_or, not_true_eq_false, not_false_eq_true]
  | succ j ih =>
    intro k h p C hk hp
    obtain ⟨S, X, P, Z, ie, he, hd⟩ := id C
    have hm : 648 < m := X.2.2.2.2.2.2.2.2.2.2.2.2.2.2.2.2.2.1
    have k16 := S.1
    have rr := S.2.1
    have km := S.2.2.1
    have hb := S.2.2.2.2.2.2.2.2.2
    obtain ⟨r22, k22, l22⟩ := mP_22 P
    obtain ⟨r23, k23, l23⟩ := mP_23 P
    have next : ∀ (h' : pm_H) (p' : Nat), yF m eo el h h' → p ≤ p' → p' ≤ e → pm_lim sX16_readsMemories (592, Int64.ofNat c, Int64.ofNat k, rm h (Int32.ofNat p) f q) = pm_lim sX16_readsMemories (592, Int64.ofNat c, Int64.ofNat (k + 1), rm h' (Int32.ofNat p') f q) → ms_Q (fun h' => yF m eo el h h') (fun h' p' r => r = rm h' (Int32.ofNat p') f q ∧ yF m eo el h h' ∧ p ≤ p' ∧ p' ≤ e) (pm_lim sX16_readsMemories (592, Int64.ofNat c, Int64.ofNat k, rm h (Int32.ofNat p) f q)) (sp_mms B e m j (k + 1) h' p') := by
      intro h' p' F hp1 hp2 hs
      have i := ih (k + 1) h' p' (mC_F C F) (by omega) hp2
      rw [hs]
      revert i
      cases sp_mms B e m j (k + 1) h' p' with
      | inl w =>
        rintro ⟨h2, a, F2, e2⟩
        exact ⟨h2, a, yF_t F F2, e2⟩
      | inr v =>
        rintro ⟨r, e1, e2, F2, e3, e4⟩
        exact ⟨r, e1, e2, yF_t F F2, by omega, e4⟩
    unfold sp_mms
    have xl := ms_lim C hp f q
    cases hol : sp_lim B e p with
    | inl w =>
      rw [hol] at xl
      rw [sp_bl]
      obtain ⟨h', a, Fl, xl⟩ := xl
      exact ⟨h', a, Fl, by rw [ev_lm, aX16_readsMemories_0]; unfold tX16_readsMemories_19; simp only [r_kd, r_R, r_ln, r_L, rm_sL, r_kdL, r_kdI, r_lnI, r_lnL, r_RI, r_RL, k16, rr, km, r22, k22, l22, r23, k23, l23, xl, ↓reduceIte, r_bs, ↓r_let, r_sr, r_sl, r_kl, r_kr]; (try simp (disch := omega) only [r_kd, r_R, r_ln, r_L, rm_sL, rm_a, rm_x, r_kdL, r_kdI, r_lnI, r_lnL, r_RI, r_RL, ev_LL, ev_LI, ev_II, ev_IL, k16, rr, km, r22, k22, l22, r23, k23, l23, xl, n6_0, n6_1, n6_64, n3_0, nn_m31, nn_m63, nn_m15, nn_m7, nn_m127, ll_m63, Nat.reduceMod, Nat.reduceAdd, Nat.reduceMul, Nat.reduceSub, nn_sr6, nn_sl6, nn_le, nn_lt, nn_eq, nn_ad, nn_ml, nn_sb, nn_cm, nn_in, nn_t6, ll_le, ll_lt, ll_eq, ll_ad, ll_ml, ll_sb, ll_t3, ↓reduceIte, ev_kl, ev_kr, ↓r_let, r_bs, pt_k_r, pt_k_l, pt_s_r, pt_s_l, b_let, b_lef, b_ltt, b_ltf, b_eqt, b_eqf, and_true, true_and, and_false, false_and, or_true, true_or, or_false, false_or, not_true_eq_false, not_false_eq_true])⟩
    | inr v =>
      obtain ⟨⟨vl, gl⟩, pl⟩ := v
      rw [sp_br]
      rw [hol] at xl
      obtain ⟨r, xl, er, nv, bdl, hpl⟩ := xl
      subst er
      have bdl : p < pl := bdl
      have xl : fX16_limits (rm h (Int32.ofNat p) f q) 592 = some (.inr (rm (pm_setL (pm_setL h 592 17 (Int64.ofNat vl)) 592 18 gl) (Int32.ofNat pl) f q)) := xl
      by_cases c64 : k < 64
      · rw [if_pos c64]
        exact next _ pl (yF_t (yF_t (yF_L h hm (by omega)) (yF_L _ hm (by omega))) (yF_t (yF_L _ hm (by omega)) (yF_L _ hm (by omega)))) (by omega) hpl (by rw [ev_lm, aX16_readsMemories_0]; unfold tX16_readsMemories_19; simp only [r_kd, r_R, r_ln, r_L, rm_sL, r_kdL, r_kdI, r_lnI, r_lnL, r_RI, r_RL, k16, rr, km, r22, k22, l22, r23, k23, l23, xl, ↓reduceIte, r_bs, ↓r_let, r_sr, r_sl, r_kl, r_kr]; (try simp (disch := omega) only [r_kd, r_R, r_ln, r_L, rm_sL, rm_a, rm_x, r_kdL, r_kdI, r_lnI, r_lnL, r_RI, r_RL, ev_LL, ev_LI, ev_II, ev_IL, k16, rr, km, r22, k22, l22, r23, k23, l23, xl, n6_0, n6_1, n6_64, n3_0, nn_m31, nn_m63, nn_m15, nn_m7, nn_m127, ll_m63, Nat.reduceMod, Nat.reduceAdd, Nat.reduceMul, Nat.reduceSub, nn_sr6, nn_sl6, nn_le, nn_lt, nn_eq, nn_ad, nn_ml, nn_sb, nn_cm, nn_in, nn_t6, ll_le, ll_lt, ll_eq, ll_ad, ll_ml, ll_sb, ll_t3, ↓reduceIte, ev_kl, ev_kr, ↓r_let, r_bs, pt_k_r, pt_k_l, pt_s_r, pt_s_l, b_let, b_lef, b_ltt, b_ltf, b_eqt, b_eqf, and_true, true_and, and_false, false_and, or_true, true_or, or_false, false_or, not_true_eq_false, not_false_eq_true]))
      · rw [if_neg c64]
        exact next _ pl (yF_t (yF_L h hm (by omega)) (yF_L _ hm (by omega))) (by omega) hpl (by rw [ev_lm, aX16_readsMemories_0]; unfold tX16_readsMemories_19; simp only [r_kd, r_R, r_ln, r_L, rm_sL, r_kdL, r_kdI, r_lnI, r_lnL, r_RI, r_RL, k16, rr, km, r22, k22, l22, r23, k23, l23, xl, ↓reduceIte, r_bs, ↓r_let, r_sr, r_sl, r_kl, r_kr]; (try simp (disch := omega) only [r_kd, r_R, r_ln, r_L, rm_sL, rm_a, rm_x, r_kdL, r_kdI, r_lnI, r_lnL, r_RI, r_RL, ev_LL, ev_LI, ev_II, ev_IL, k16, rr, km, r22, k22, l22, r23, k23, l23, xl, n6_0, n6_1, n6_64, n3_0, nn_m31, nn_m63, nn_m15, nn_m7, nn_m127, ll_m63, Nat.reduceMod, Nat.reduceAdd, Nat.reduceMul, Nat.reduceSub, nn_sr6, nn_sl6, nn_le, nn_lt, nn_eq, nn_ad, nn_ml, nn_sb, nn_cm, nn_in, nn_t6, ll_le, ll_lt, ll_eq, ll_ad, ll_ml, ll_sb, ll_t3, ↓reduceIte, ev_kl, ev_kr, ↓r_let, r_bs, pt_k_r, pt_k_l, pt_s_r, pt_s_l, b_let, b_lef, b_ltt, b_ltf, b_eqt, b_eqf, and_true, true_and, and_false, false_and, or_true, true_or, or_false, false_or, not_true_eq_false, not_false_eq_true]))
def sp_tbs (B : Nat → Nat) (e m : Nat) : Nat → Nat → pm_H → Nat → sp_O pm_H
  | 0, _, h, p => .inr (h, p)
  | j + 1, k, h, p => sp_b (sp_byte sp_isR 8 B e p) fun t p1 => sp_b (sp_lim B e p1) fun v p' => sp_tbs B e m j (k + 1) (if k < 64 then pm_setL (pm_setL (pm_setI (pm_setL (pm_setL h 592 17 (Int64.ofNat v.1)) 592 18 v.2) (m + 11) k (Int32.ofNat t)) (m + 12) k (Int64.ofNat v.1)) (m + 13) k v.2 else pm_setL (pm_setL h 592 17 (Int64.ofNat v.1)) 592 18 v.2) p'
theorem ml_tbs (f q : Int32) {c : Nat} (hc : c < 4294967296) : ∀ (j k : Nat) (h : pm_H) (p : Nat), mC h n b m eo el e d B → k + j = c → p ≤ e → ms_Q (fun h' => yF m eo el h h') (fun h' p' r => r = rm h' (Int32.ofNat p') f q ∧ yF m eo el h h' ∧ p ≤ p' ∧ p' ≤ e) (pm_lim sX16_readsTables (592, Int64.ofNat c, Int64.ofNat k, rm h (Int32.ofNat p) f q)) (sp_tbs B e m j k h p) := by
  intro j
  induction j with
  | zero =>
    intro k h p C hk hp
    refine ⟨rm h (Int32.ofNat p) f q, ?_, rfl, yF_r m eo el h, Nat.le_refl _, hp⟩
    rw [ev_lm]; simp (disch := omega) only [aX16_readsTables_0, tX16_readsTables_19, nn_m31, nn_m63, nn_m15, nn_m7, nn_m127, ll_m63, Nat.reduceMod, Nat.reduceAdd, Nat.reduceMul, Nat.reduceSub, nn_sr6, nn_sl6, nn_le, nn_lt, nn_eq, nn_ad, nn_ml, nn_sb, nn_cm, nn_in, nn_t6, ll_le, ll_lt, ll_eq, ll_ad, ll_ml, ll_sb, ll_t3, ↓reduceIte, ev_kl, ev_kr, ↓r_let, r_bs, pt_k_r, pt_k_l, pt_s_r, pt_s_l, b_let, b_lef, b_ltt, b_ltf, b_eqt, b_eqf, and_true, true_and, and_false, false_and, or_true, true_or, or_false, false_or, not_true_eq_false, not_false_eq_true]
  | succ j ih =>
    intro k h p C hk hp
    obtain ⟨S, X, P, Z, ie, he, hd⟩ := id C
    have hm : 648 < m := X.2.2.2.2.2.2.2.2.2.2.2.2.2.2.2.2.2.1
    have k16 := S.1
    have rr := S.2.1
    have km := S.2.2.1
    have hb := S.2.2.2.2.2.2.2.2.2
    obtain ⟨r18, k18, l18⟩ := mP_18 P
    obtain ⟨r19, k19, l19⟩ := mP_19 P
    obtain ⟨r20, k20, l20⟩ := mP_20 P
    have next : ∀ (h' : pm_H) (p' : Nat), yF m eo el h h' → p ≤ p' → p' ≤ e → pm_lim sX16_readsTables (592, Int64.ofNat c, Int64.ofNat k, rm h (Int32.ofNat p) f q) = pm_lim sX16_readsTables (592, Int64.ofNat c, Int64.ofNat (k + 1), rm h' (Int32.ofNat p') f q) → ms_Q (fun h' => yF m eo el h h') (fun h' p' r => r = rm h' (Int32.ofNat p') f q ∧ yF m eo el h h' ∧ p ≤ p' ∧ p' ≤ e) (pm_lim sX16_readsTables (592, Int64.ofNat c, Int64.ofNat k, rm h (Int32.ofNat p) f q)) (sp_tbs B e m j (k + 1) h' p') := by
      intro h' p' F hp1 hp2 hs
      have i := ih (k + 1) h' p' (mC_F C F) (by omega) hp2
      rw [hs]
      revert i
      cases sp_tbs B e m j (k + 1) h' p' with
      | inl w =>
        rintro ⟨h2, a, F2, e2⟩
        exact ⟨h2, a, yF_t F F2, e2⟩
      | inr v =>
        rintro ⟨r, e1, e2, F2, e3, e4⟩
        exact ⟨r, e1, e2, yF_t F F2, by omega, e4⟩
    unfold sp_tbs
    have x1 := ms_ref S ie he hp f q
    cases ho1 : sp_byte sp_isR 8 B e p with
    | inl w =>
      rw [ho1] at x1
      try rw [sp_bl]
      obtain ⟨a, x1⟩ := x1
      exact ⟨_, a, yF_r m eo el h, by rw [ev_lm, aX16_readsTables_0]; unfold tX16_readsTables_19; simp only [r_kd, r_R, r_ln, r_L, rm_sL, r_kdL, r_kdI, r_lnI, r_lnL, r_RI, r_RL, k16, rr, km, r18, k18, l18, r19, k19, l19, r20, k20, l20, x1, ↓reduceIte, r_bs, ↓r_let, r_sr, r_sl, r_kl, r_kr]; (try simp (disch := omega) only [r_kd, r_R, r_ln, r_L, rm_sL, rm_a, rm_x, r_kdL, r_kdI, r_lnI, r_lnL, r_RI, r_RL, ev_LL, ev_LI, ev_II, ev_IL, k16, rr, km, r18, k18, l18, r19, k19, l19, r20, k20, l20, x1, n6_0, n6_1, n6_64, n3_0, nn_m31, nn_m63, nn_m15, nn_m7, nn_m127, ll_m63, Nat.reduceMod, Nat.reduceAdd, Nat.reduceMul, Nat.reduceSub, nn_sr6, nn_sl6, nn_le, nn_lt, nn_eq, nn_ad, nn_ml, nn_sb, nn_cm, nn_in, nn_t6, ll_le, ll_lt, ll_eq, ll_ad, ll_ml, ll_sb, ll_t3, ↓reduceIte, ev_kl, ev_kr, ↓r_let, r_bs, pt_k_r, pt_k_l, pt_s_r, pt_s_l, b_let, b_lef, b_ltt, b_ltf, b_eqt, b_eqf, and_true, true_and, and_false, false_and, or_true, true_or, or_false, false_or, not_true_eq_false, not_false_eq_true])⟩
    | inr v =>
      obtain ⟨v1, p1⟩ := v
      try rw [sp_br]
      rw [ho1] at x1
      have x1 : fX16_referenceType (rm h (Int32.ofNat p) f q) 592 = some (.inr (Int32.ofNat v1, rm h (Int32.ofNat p1) f q)) := x1
      obtain ⟨bd1, hp1⟩ := sp_byte_b hp ho1
      have xl := ms_lim C hp1 f q
      cases hol : sp_lim B e p1 with
      | inl w =>
        rw [hol] at xl
        rw [sp_bl]
        obtain ⟨h', a, Fl, xl⟩ := xl
        exact ⟨h', a, Fl, by rw [ev_lm, aX16_readsTables_0]; unfold tX16_readsTables_19; simp only [r_kd, r_R, r_ln, r_L, rm_sL, r_kdL, r_kdI, r_lnI, r_lnL, r_RI, r_RL, k16, rr, km, r18, k18, l18, r19, k19, l19, r20, k20, l20, x1, xl, ↓reduceIte, r_bs, ↓r_let, r_sr, r_sl, r_kl, r_kr]; (try simp (disch := omega) only [r_kd, r_R, r_ln, r_L, rm_sL, rm_a, rm_x, r_kdL, r_kdI, r_lnI, r_lnL, r_RI, r_RL, ev_LL, ev_LI, ev_II, ev_IL, k16, rr, km, r18, k18, l18, r19, k19, l19, r20, k20, l20, x1, xl, n6_0, n6_1, n6_64, n3_0, nn_m31, nn_m63, nn_m15, nn_m7, nn_m127, ll_m63, Nat.reduceMod, Nat.reduceAdd, Nat.reduceMul, Nat.reduceSub, nn_sr6, nn_sl6, nn_le, nn_lt, nn_eq, nn_ad, nn_ml, nn_sb, nn_cm, nn_in, nn_t6, ll_le, ll_lt, ll_eq, ll_ad, ll_ml, ll_sb, ll_t3, ↓reduceIte, ev_kl, ev_kr, ↓r_let, r_bs, pt_k_r, pt_k_l, pt_s_r, pt_s_l, b_let, b_lef, b_ltt, b_ltf, b_eqt, b_eqf, and_true, true_and, and_false, false_and, or_true, true_or, or_false, false_or, not_true_eq_false, not_false_eq_true])⟩
      | inr v =>
        obtain ⟨⟨vl, gl⟩, pl⟩ := v
        rw [sp_br]
        rw [hol] at xl
        obtain ⟨r, xl, er, nv, bdl, hpl⟩ := xl
        subst er
        have bdl : p1 < pl := bdl
        have xl : fX16_limits (rm h (Int32.ofNat p1) f q) 592 = some (.inr (rm (pm_setL (pm_setL h 592 17 (Int64.ofNat vl)) 592 18 gl) (Int32.ofNat pl) f q)) := xl
        by_cases c64 : k < 64
        · rw [if_pos c64]
          exact next _ pl (yF_t (yF_t (yF_L h hm (by omega)) (yF_L _ hm (by omega))) (yF_t (yF_I _ hm (by omega)) (yF_t (yF_L _ hm (by omega)) (yF_L _ hm (by omega))))) (by omega) hpl (by rw [ev_lm, aX16_readsTables_0]; unfold tX16_readsTables_19; simp only [r_kd, r_R, r_ln, r_L, rm_sL, r_kdL, r_kdI, r_lnI, r_lnL, r_RI, r_RL, k16, rr, km, r18, k18, l18, r19, k19, l19, r20, k20, l20, x1, xl, ↓reduceIte, r_bs, ↓r_let, r_sr, r_sl, r_kl, r_kr]; (try simp (disch := omega) only [r_kd, r_R, r_ln, r_L, rm_sL, rm_a, rm_x, r_kdL, r_kdI, r_lnI, r_lnL, r_RI, r_RL, ev_LL, ev_LI, ev_II, ev_IL, k16, rr, km, r18, k18, l18, r19, k19, l19, r20, k20, l20, x1, xl, n6_0, n6_1, n6_64, n3_0, nn_m31, nn_m63, nn_m15, nn_m7, nn_m127, ll_m63, Nat.reduceMod, Nat.reduceAdd, Nat.reduceMul, Nat.reduceSub, nn_sr6, nn_sl6, nn_le, nn_lt, nn_eq, nn_ad, nn_ml, nn_sb, nn_cm, nn_in, nn_t6, ll_le, ll_lt, ll_eq, ll_ad, ll_ml, ll_sb, ll_t3, ↓reduceIte, ev_kl, ev_kr, ↓r_let, r_bs, pt_k_r, pt_k_l, pt_s_r, pt_s_l, b_let, b_lef, b_ltt, b_ltf, b_eqt, b_eqf, and_true, true_and, and_false, false_and, or_true, true_or, or_false, false_or, not_true_eq_false, not_false_eq_true]))
        · rw [if_neg c64]
          exact next _ pl (yF_t (yF_L h hm (by omega)) (yF_L _ hm (by omega))) (by omega) hpl (by rw [ev_lm, aX16_readsTables_0]; unfold tX16_readsTables_19; simp only [r_kd, r_R, r_ln, r_L, rm_sL, r_kdL, r_kdI, r_lnI, r_lnL, r_RI, r_RL, k16, rr, km, r18, k18, l18, r19, k19, l19, r20, k20, l20, x1, xl, ↓reduceIte, r_bs, ↓r_let, r_sr, r_sl, r_kl, r_kr]; (try simp (disch := omega) only [r_kd, r_R, r_ln, r_L, rm_sL, rm_a, rm_x, r_kdL, r_kdI, r_lnI, r_lnL, r_RI, r_RL, ev_LL, ev_LI, ev_II, ev_IL, k16, rr, km, r18, k18, l18, r19, k19, l19, r20, k20, l20, x1, xl, n6_0, n6_1, n6_64, n3_0, nn_m31, nn_m63, nn_m15, nn_m7, nn_m127, ll_m63, Nat.reduceMod, Nat.reduceAdd, Nat.reduceMul, Nat.reduceSub, nn_sr6, nn_sl6, nn_le, nn_lt, nn_eq, nn_ad, nn_ml, nn_sb, nn_cm, nn_in, nn_t6, ll_le, ll_lt, ll_eq, ll_ad, ll_ml, ll_sb, ll_t3, ↓reduceIte, ev_kl, ev_kr, ↓r_let, r_bs, pt_k_r, pt_k_l, pt_s_r, pt_s_l, b_let, b_lef, b_ltt, b_ltf, b_eqt, b_eqf, and_true, true_and, and_false, false_and, or_true, true_or, or_false, false_or, not_true_eq_false, not_false_eq_true]))
def sp_fns0 (B : Nat → Nat) (e m : Nat) (h : pm_H) (p : Nat) : sp_O pm_H := sp_b (sp_num B e p) fun c p1 => sp_fns B e m c 0 (pm_setI (kp (pm_setL h m 14 (Int64.ofNat c)) m c) m 15 (Int32.ofNat (k64 c))) p1
theorem ms_fns {h : pm_H} {p : Nat} (C : mC h n b m eo el e d B) (hp : p ≤ e) (f q : Int32) : ms_Q (fun h' => yF m eo el h h') (fun h' p' r => r = rm h' (Int32.ofNat p') f q ∧ yF m eo el h h' ∧ p < p' ∧ p' ≤ e) (fX16_readsFunctions (rm h (Int32.ofNat p) f q) 592) (sp_fns0 B e m h p) := by
  obtain ⟨S, X, P, Z, ie, he, hd⟩ := id C
  have hm : 648 < m := X.2.2.2.2.2.2.2.2.2.2.2.2.2.2.2.2.2.1
  have k16 := S.1
  have rr := S.2.1
  have km := S.2.2.1
  have hb := S.2.2.2.2.2.2.2.2.2
  unfold sp_fns0
  have x1 := ms_num S ie he hp f q
  cases ho1 : sp_num B e p with
  | inl w =>
    rw [ho1] at x1
    try rw [sp_bl]
    obtain ⟨a, x1⟩ := x1
    exact ⟨_, a, yF_r m eo el h, by simp (disch := omega) only [fX16_readsFunctions, r_kd, r_R, r_ln, r_L, rm_sL, rm_a, rm_x, r_kdL, r_kdI, r_lnI, r_lnL, r_RI, r_RL, ev_LL, ev_LI, ev_II, ev_IL, k16, rr, km, x1, n6_0, n3_0, nn_m31, nn_m63, nn_m15, nn_m7, nn_m127, ll_m63, Nat.reduceMod, Nat.reduceAdd, Nat.reduceMul, Nat.reduceSub, nn_sr6, nn_sl6, nn_le, nn_lt, nn_eq, nn_ad, nn_ml, nn_sb, nn_cm, nn_in, nn_t6, ll_le, ll_lt, ll_eq, ll_ad, ll_ml, ll_sb, ll_t3, ↓reduceIte, ev_kl, ev_kr, ↓r_let, r_bs, pt_k_r, pt_k_l, pt_s_r, pt_s_l, b_let, b_lef, b_ltt, b_ltf, b_eqt, b_eqf, and_true, true_and, and_false, false_and, or_true, true_or, or_false, false_or, not_true_eq_false, not_false_eq_true]⟩
  | inr v =>
    obtain ⟨v1, p1⟩ := v
    try rw [sp_br]
    rw [ho1] at x1
    have x1 : fX16_number (rm h (Int32.ofNat p) f q) 592 = some (.inr (Int64.ofNat v1, rm h (Int32.ofNat p1) f q)) := x1
    obtain ⟨bd1, hp1⟩ := sp_num_b hp ho1
    have nv := sp_num_v hb ho1
    have S0 : mS (pm_setL h m 14 (Int64.ofNat v1)) n b m 595 B := S
    have kt := fun a => ms_kept S0 nv a f q
    have kk : pm_kd (kp (pm_setL h m 14 (Int64.ofNat v1)) m v1) = pm_kd h := (kp_x (pm_setL h m 14 (Int64.ofNat v1)) m eo el v1).2.1
    have F : yF m eo el h (pm_setI (kp (pm_setL h m 14 (Int64.ofNat v1)) m v1) m 15 (Int32.ofNat (k64 v1))) := yF_t (yF_L h hm (by omega)) (yF_t (yF_x hm (by omega) (by omega) (kp_x _ m eo el v1)) (yF_I _ hm (by omega)))
    have i := ml_fns f q nv v1 0 _ p1 (mC_F C F) (by omega) hp1
    have s1 : fX16_readsFunctions (rm h (Int32.ofNat p) f q) 592 = pm_lim sX16_readsFunctions (592, Int64.ofNat v1, Int64.ofNat 0, rm (pm_setI (kp (pm_setL h m 14 (Int64.ofNat v1)) m v1) m 15 (Int32.ofNat (k64 v1))) (Int32.ofNat p1) f q) := by
      simp (disch := omega) only [fX16_readsFunctions, r_kd, r_R, r_ln, r_L, rm_sL, rm_a, rm_x, r_kdL, r_kdI, r_lnI, r_lnL, r_RI, r_RL, ev_LL, ev_LI, ev_II, ev_IL, k16, rr, km, x1, kt, kk, n6_0, n3_0, nn_m31, nn_m63, nn_m15, nn_m7, nn_m127, ll_m63, Nat.reduceMod, Nat.reduceAdd, Nat.reduceMul, Nat.reduceSub, nn_sr6, nn_sl6, nn_le, nn_lt, nn_eq, nn_ad, nn_ml, nn_sb, nn_cm, nn_in, nn_t6, ll_le, ll_lt, ll_eq, ll_ad, ll_ml, ll_sb, ll_t3, ↓reduceIte, ev_kl, ev_kr, ↓r_let, r_bs, pt_k_r, pt_k_l, pt_s_r, pt_s_l, b_let, b_lef, b_ltt, b_ltf, b_eqt, b_eqf, and_true, true_and, and_false, false_and, or_true, true_or, or_false, false_or, not_true_eq_false, not_false_eq_true]
    rw [s1]
    revert i
    cases sp_fns B e m v1 0 (pm_setI (kp (pm_setL h m 14 (Int64.ofNat v1)) m v1) m 15 (Int32.ofNat (k64 v1))) p1 with
    | inl w =>
      rintro ⟨h2, a, F2, e2⟩
      exact ⟨h2, a, yF_t F F2, e2⟩
    | inr v =>
      rintro ⟨r, e1, e2, F2, e3, e4⟩
      exact ⟨r, e1, e2, yF_t F F2, by omega, e4⟩
def sp_mms0 (B : Nat → Nat) (e m : Nat) (h : pm_H) (p : Nat) : sp_O pm_H := sp_b (sp_num B e p) fun c p1 => sp_mms B e m c 0 (pm_setI (kp h m c) m 21 (Int32.ofNat (k64 c))) p1
theorem ms_mms {h : pm_H} {p : Nat} (C : mC h n b m eo el e d B) (hp : p ≤ e) (f q : Int32) : ms_Q (fun h' => yF m eo el h h') (fun h' p' r => r = rm h' (Int32.ofNat p') f q ∧ yF m eo el h h' ∧ p < p' ∧ p' ≤ e) (fX16_readsMemories (rm h (Int32.ofNat p) f q) 592) (sp_mms0 B e m h p) := by
  obtain ⟨S, X, P, Z, ie, he, hd⟩ := id C
  have hm : 648 < m := X.2.2.2.2.2.2.2.2.2.2.2.2.2.2.2.2.2.1
  have k16 := S.1
  have rr := S.2.1
  have km := S.2.2.1
  have hb := S.2.2.2.2.2.2.2.2.2
  unfold sp_mms0
  have x1 := ms_num S ie he hp f q
  cases ho1 : sp_num B e p with
  | inl w =>
    rw [ho1] at x1
    try rw [sp_bl]
    obtain ⟨a, x1⟩ := x1
    exact ⟨_, a, yF_r m eo el h, by simp (disch := omega) only [fX16_readsMemories, r_kd, r_R, r_ln, r_L, rm_sL, rm_a, rm_x, r_kdL, r_kdI, r_lnI, r_lnL, r_RI, r_RL, ev_LL, ev_LI, ev_II, ev_IL, k16, rr, km, x1, n6_0, n3_0, nn_m31, nn_m63, nn_m15, nn_m7, nn_m127, ll_m63, Nat.reduceMod, Nat.reduceAdd, Nat.reduceMul, Nat.reduceSub, nn_sr6, nn_sl6, nn_le, nn_lt, nn_eq, nn_ad, nn_ml, nn_sb, nn_cm, nn_in, nn_t6, ll_le, ll_lt, ll_eq, ll_ad, ll_ml, ll_sb, ll_t3, ↓reduceIte, ev_kl, ev_kr, ↓r_let, r_bs, pt_k_r, pt_k_l, pt_s_r, pt_s_l, b_let, b_lef, b_ltt, b_ltf, b_eqt, b_eqf, and_true, true_and, and_false, false_and, or_true, true_or, or_false, false_or, not_true_eq_false, not_false_eq_true]⟩
  | inr v =>
    obtain ⟨v1, p1⟩ := v
    try rw [sp_br]
    rw [ho1] at x1
    have x1 : fX16_number (rm h (Int32.ofNat p) f q) 592 = some (.inr (Int64.ofNat v1, rm h (Int32.ofNat p1) f q)) := x1
    obtain ⟨bd1, hp1⟩ := sp_num_b hp ho1
    have nv := sp_num_v hb ho1
    have S0 : mS h n b m 595 B := S
    have kt := fun a => ms_kept S0 nv a f q
    have kk : pm_kd (kp h m v1) = pm_kd h := (kp_x h m eo el v1).2.1
    have F : yF m eo el h (pm_setI (kp h m v1) m 21 (Int32.ofNat (k64 v1))) := yF_t (yF_r m eo el h) (yF_t (yF_x hm (by omega) (by omega) (kp_x _ m eo el v1)) (yF_I _ hm (by omega)))
    have i := ml_mms f q nv v1 0 _ p1 (mC_F C F) (by omega) hp1
    have s1 : fX16_readsMemories (rm h (Int32.ofNat p) f q) 592 = pm_lim sX16_readsMemories (592, Int64.ofNat v1, Int64.ofNat 0, rm (pm_setI (kp h m v1) m 21 (Int32.ofNat (k64 v1))) (Int32.ofNat p1) f q) := by
      simp (disch := omega) only [fX16_readsMemories, r_kd, r_R, r_ln, r_L, rm_sL, rm_a, rm_x, r_kdL, r_kdI, r_lnI, r_lnL, r_RI, r_RL, ev_LL, ev_LI, ev_II, ev_IL, k16, rr, km, x1, kt, kk, n6_0, n3_0, nn_m31, nn_m63, nn_m15, nn_m7, nn_m127, ll_m63, Nat.reduceMod, Nat.reduceAdd, Nat.reduceMul, Nat.reduceSub, nn_sr6, nn_sl6, nn_le, nn_lt, nn_eq, nn_ad, nn_ml, nn_sb, nn_cm, nn_in, nn_t6, ll_le, ll_lt, ll_eq, ll_ad, ll_ml, ll_sb, ll_t3, ↓reduceIte, ev_kl, ev_kr, ↓r_let, r_bs, pt_k_r, pt_k_l, pt_s_r, pt_s_l, b_let, b_lef, b_ltt, b_ltf, b_eqt, b_eqf, and_true, true_and, and_false, false_and, or_true, true_or, or_false, false_or, not_true_eq_false, not_false_eq_true]
    rw [s1]
    revert i
    cases sp_mms B e m v1 0 (pm_setI (kp h m v1) m 21 (Int32.ofNat (k64 v1))) p1 with
    | inl w =>
      rintro ⟨h2, a, F2, e2⟩
      exact ⟨h2, a, yF_t F F2, e2⟩
    | inr v =>
      rintro ⟨r, e1, e2, F2, e3, e4⟩
      exact ⟨r, e1, e2, yF_t F F2, by omega, e4⟩
def sp_tbs0 (B : Nat → Nat) (e m : Nat) (h : pm_H) (p : Nat) : sp_O pm_H := sp_b (sp_num B e p) fun c p1 => sp_tbs B e m c 0 (pm_setI (kp h m c) m 17 (Int32.ofNat (k64 c))) p1
theorem ms_tbs {h : pm_H} {p : Nat} (C : mC h n b m eo el e d B) (hp : p ≤ e) (f q : Int32) : ms_Q (fun h' => yF m eo el h h') (fun h' p' r => r = rm h' (Int32.ofNat p') f q ∧ yF m eo el h h' ∧ p < p' ∧ p' ≤ e) (fX16_readsTables (rm h (Int32.ofNat p) f q) 592) (sp_tbs0 B e m h p) := by
  obtain ⟨S, X, P, Z, ie, he, hd⟩ := id C
  have hm : 648 < m := X.2.2.2.2.2.2.2.2.2.2.2.2.2.2.2.2.2.1
  have k16 := S.1
  have rr := S.2.1
  have km := S.2.2.1
  have hb := S.2.2.2.2.2.2.2.2.2
  unfold sp_tbs0
  have x1 := ms_num S ie he hp f q
  cases ho1 : sp_num B e p with
  | inl w =>
    rw [ho1] at x1
    try rw [sp_bl]
    obtain ⟨a, x1⟩ := x1
    exact ⟨_, a, yF_r m eo el h, by simp (disch := omega) only [fX16_readsTables, r_kd, r_R, r_ln, r_L, rm_sL, rm_a, rm_x, r_kdL, r_kdI, r_lnI, r_lnL, r_RI, r_RL, ev_LL, ev_LI, ev_II, ev_IL, k16, rr, km, x1, n6_0, n3_0, nn_m31, nn_m63, nn_m15, nn_m7, nn_m127, ll_m63, Nat.reduceMod, Nat.reduceAdd, Nat.reduceMul, Nat.reduceSub, nn_sr6, nn_sl6, nn_le, nn_lt, nn_eq, nn_ad, nn_ml, nn_sb, nn_cm, nn_in, nn_t6, ll_le, ll_lt, ll_eq, ll_ad, ll_ml, ll_sb, ll_t3, ↓reduceIte, ev_kl, ev_kr, ↓r_let, r_bs, pt_k_r, pt_k_l, pt_s_r, pt_s_l, b_let, b_lef, b_ltt, b_ltf, b_eqt, b_eqf, and_true, true_and, and_false, false_and, or_true, true_or, or_false, false_or, not_true_eq_false, not_false_eq_true]⟩
  | inr v =>
    obtain ⟨v1, p1⟩ := v
    try rw [sp_br]
    rw [ho1] at x1
    have x1 : fX16_number (rm h (Int32.ofNat p) f q) 592 = some (.inr (Int64.ofNat v1, rm h (Int32.ofNat p1) f q)) := x1
    obtain ⟨bd1, hp1⟩ := sp_num_b hp ho1
    have nv := sp_num_v hb ho1
    have S0 : mS h n b m 595 B := S
    have kt := fun a => ms_kept S0 nv a f q
    have kk : pm_kd (kp h m v1) = pm_kd h := (kp_x h m eo el v1).2.1
    have F : yF m eo el h (pm_setI (kp h m v1) m 17 (Int32.ofNat (k64 v1))) := yF_t (yF_r m eo el h) (yF_t (yF_x hm (by omega) (by omega) (kp_x _ m eo el v1)) (yF_I _ hm (by omega)))
    have i := ml_tbs f q nv v1 0 _ p1 (mC_F C F) (by omega) hp1
    have s1 : fX16_readsTables (rm h (Int32.ofNat p) f q) 592 = pm_lim sX16_readsTables (592, Int64.ofNat v1, Int64.ofNat 0, rm (pm_setI (kp h m v1) m 17 (Int32.ofNat (k64 v1))) (Int32.ofNat p1) f q) := by
      simp (disch := omega) only [fX16_readsTables, r_kd, r_R, r_ln, r_L, rm_sL, rm_a, rm_x, r_kdL, r_kdI, r_lnI, r_lnL, r_RI, r_RL, ev_LL, ev_LI, ev_II, ev_IL, k16, rr, km, x1, kt, kk, n6_0, n3_0, nn_m31, nn_m63, nn_m15, nn_m7, nn_m127, ll_m63, Nat.reduceMod, Nat.reduceAdd, Nat.reduceMul, Nat.reduceSub, nn_sr6, nn_sl6, nn_le, nn_lt, nn_eq, nn_ad, nn_ml, nn_sb, nn_cm, nn_in, nn_t6, ll_le, ll_lt, ll_eq, ll_ad, ll_ml, ll_sb, ll_t3, ↓reduceIte, ev_kl, ev_kr, ↓r_let, r_bs, pt_k_r, pt_k_l, pt_s_r, pt_s_l, b_let, b_lef, b_ltt, b_ltf, b_eqt, b_eqf, and_true, true_and, and_false, false_and, or_true, true_or, or_false, false_or, not_true_eq_false, not_false_eq_true]
    rw [s1]
    revert i
    cases sp_tbs B e m v1 0 (pm_setI (kp h m v1) m 17 (Int32.ofNat (k64 v1))) p1 with
    | inl w =>
      rintro ⟨h2, a, F2, e2⟩
      exact ⟨h2, a, yF_t F F2, e2⟩
    | inr v =>
      rintro ⟨r, e1, e2, F2, e3, e4⟩
      exact ⟨r, e1, e2, yF_t F F2, by omega, e4⟩
end MSEC
