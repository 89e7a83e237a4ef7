/-! THE REFERENCE READS: section 7; the heads of 1 and 7 -/
theorem sp_name_b {B : Nat → Nat} {e p v p' : Nat} (hp : p ≤ e) (q : sp_name B e p = .inr (v, p')) : p < v ∧ v ≤ p' ∧ p' ≤ e := by
  unfold sp_name at q
  cases ho : sp_num B e p with
  | inl w => rw [ho, sp_bl] at q; cases q
  | inr x =>
    obtain ⟨c, p1⟩ := x
    rw [ho, sp_br] at q
    obtain ⟨h1, h2⟩ := sp_num_b hp ho
    by_cases z : p1 + c ≤ e
    · rw [if_pos z] at q
      cases hb : sp_bad B (p1 + c) c p1 with
      | some y => rw [hb] at q; cases q
      | none =>
        rw [hb] at q
        cases q
        exact ⟨h1, Nat.le_add_right _ _, z⟩
    · rw [if_neg z] at q
      cases q
def upX (h : pm_H) (m k a s t v : Nat) : pm_H := if k < 64 then pm_setL (pm_setI (pm_setI (pm_setI h (m + 19) k (Int32.ofNat a)) (m + 20) k (Int32.ofNat s)) (m + 21) k (Int32.ofNat t)) (m + 22) k (Int64.ofNat v) else h
def sp_xps (B : Nat → Nat) (e m : Nat) : Nat → Nat → pm_H → Nat → sp_O pm_H
  | 0, _, h, p => .inr (h, p)
  | j + 1, k, h, p => sp_b (sp_name B e p) fun a p1 => sp_b (sp_byte (fun c => decide (c ≤ 3)) 7 B e p1) fun t p2 => sp_b (sp_num B e p2) fun v p3 => sp_xps B e m j (k + 1) (upX (pm_setI h 592 16 (Int32.ofNat a)) m k a (p1 - a) t v) p3
section MSEC
variable {n b m eo el e : Nat} {B : Nat → Nat} {d : Bool}
theorem r_16 (h : pm_H) (p f q v : Int32) : pm_I (rm (pm_setI h 592 16 v) p f q) 592 16 = v := (rfl)
theorem ml_xps (f q : Int32) {c : Nat} (hc : c < 4294967296) : ∀ (j k : Nat) (h : pm_H) (p : Nat), mC h n b m eo el e d B → k + j = c → p ≤ e → ms_Q (fun h' => yF m eo el h h') (fun h' p' r => r = rm h' (Int32.ofNat p') f q ∧ yF m eo el h h' ∧ p ≤ p' ∧ p' ≤ e) (pm_lim sX16_readsExports (592, Int64.ofNat c, Int64.ofNat k, rm h (Int32.ofNat p) f q)) (sp_xps B e m j k h p) := by
  intro j
  induction j with
  | zero =>
    intro k h p C hk hp
    refine ⟨rm h (Int32.ofNat p) f q, ?_, rfl, yF_r m eo el h, Nat.le_refl _, hp⟩
    rw [ev_lm]; simp (disch := omega) only [aX16_readsExports_0, tX16_readsExports_19, nn_m31, nn_m63, nn_m15, nn_m7, nn_m127, ll_m63, Nat.reduceMod, Nat.reduceAdd, Nat.reduceMul, Nat.reduceSub, nn_sr6, nn_sl6, nn_le, nn_lt, nn_eq, nn_ad, nn_ml, nn_sb, nn_cm, nn_in, nn_t6, ll_le, ll_lt, ll_eq, ll_ad, ll_ml, ll_sb, ll_t3, ↓reduceIte, ev_kl, ev_kr, ↓r_let, r_bs, pt_k_r, pt_k_l, pt_s_r, pt_s_l, b_let, b_lef, b_ltt, b_ltf, b_eqt, b_eqf, and_true, true_and, and_false, false_and, or_true, true_or, or_false, false_or, not_true_eq_false, not_false_eq_true]
  | succ j ih =>
    intro k h p C hk hp
    obtain ⟨S, X, P, Z, ie, he, hd⟩ := id C
    have hm : 648 < m := X.2.2.2.2.2.2.2.2.2.2.2.2.2.2.2.2.2.1
    have k16 := S.1
    have rr := S.2.1
    have km := S.2.2.1
    have hb := S.2.2.2.2.2.2.2.2.2
    have st := ms_stops S
    have n4 := S.2.2.2.2.2.2.1
    unfold sp_xps
    have xn := ms_name S ie he hp f q
    cases hon : sp_name B e p with
    | inl w =>
      rw [hon] at xn
      rw [sp_bl]
      obtain ⟨h', a, F1, xn⟩ := xn
      refine ⟨h', a, ?_, by rw [ev_lm, aX16_readsExports_0]; unfold tX16_readsExports_19; (try simp only [r_kd, r_R, r_ln, r_L, rm_sL, r_kdL, r_kdI, r_lnI, r_lnL, r_RI, r_RL, k16, rr, km, xn, ↓reduceIte, r_bs, ↓r_let, r_sr, r_sl, r_kl, r_kr]); (try simp (disch := omega) only [r_kd, r_R, r_ln, r_L, rm_sL, rm_a, rm_x, r_kdL, r_kdI, r_lnI, r_lnL, r_RI, r_RL, ev_LL, ev_LI, ev_II, ev_IL, k16, rr, km, xn, n6_0, n6_1, n3_0, nn_m31, nn_m63, nn_m15, nn_m7, nn_m127, ll_m63, Nat.reduceMod, Nat.reduceAdd, Nat.reduceMul, Nat.reduceSub, nn_sr6, nn_sl6, nn_le, nn_lt, nn_eq, nn_ad, nn_ml, nn_sb, nn_cm, nn_in, nn_t6, ll_le, ll_lt, ll_eq, ll_ad, ll_ml, ll_sb, ll_t3, ↓reduceIte, ev_kl, ev_kr, ↓r_let, r_bs, pt_k_r, pt_k_l, pt_s_r, pt_s_l, b_let, b_lef, b_ltt, b_ltf, b_eqt, b_eqf, and_true, true_and, and_false, false_and, or_true, true_or, or_false, false_or, not_true_eq_false, not_false_eq_true])⟩
      rcases F1 with z | ⟨v, z⟩
      · rw [z]; exact yF_r m eo el h
      · rw [z]; exact yF_I h hm (by omega)
    | inr v =>
      obtain ⟨fr, p0⟩ := v
      rw [sp_br]
      rw [hon] at xn
      obtain ⟨r, xn, er⟩ := xn
      have er : r = rm (pm_setI h 592 16 (Int32.ofNat fr)) (Int32.ofNat p0) f q := er
      subst er
      obtain ⟨bn1, bn2, hp0⟩ := sp_name_b hp hon
      have FN : yF m eo el h (pm_setI h 592 16 (Int32.ofNat fr)) := yF_I h hm (by omega)
      have CN := mC_F C FN
      obtain ⟨SN, XN, PN, ZN, ieN, heN, hdN⟩ := id CN
      have k16N : pm_kd (pm_setI h 592 16 (Int32.ofNat fr)) 592 = 16 := k16
      obtain ⟨r29, k29, l29⟩ := mP_29 P
      obtain ⟨r30, k30, l30⟩ := mP_30 P
      obtain ⟨r31, k31, l31⟩ := mP_31 P
      obtain ⟨r32, k32, l32⟩ := mP_32 P
      have x1 := ms_small SN ieN he hp0 f q (t := 3) (by decide)
      cases ho1 : sp_byte (fun c => decide (c ≤ 3)) 7 B e p0 with
      | inl w =>
        rw [ho1] at x1
        try rw [sp_bl]
        obtain ⟨a, x1⟩ := x1
        exact ⟨_, a, FN, by rw [ev_lm, aX16_readsExports_0]; unfold tX16_readsExports_19; (try simp only [r_kd, r_R, r_ln, r_L, rm_sL, r_kdL, r_kdI, r_lnI, r_lnL, r_RI, r_RL, k16, rr, km, r29, k29, l29, r30, k30, l30, r31, k31, l31, r32, k32, l32, n3_3, xn, x1, ↓reduceIte, r_bs, ↓r_let, r_sr, r_sl, r_kl, r_kr]); (try simp (disch := omega) only [r_kd, r_R, r_ln, r_L, rm_sL, rm_a, rm_x, r_kdL, r_kdI, r_lnI, r_lnL, r_RI, r_RL, ev_LL, ev_LI, ev_II, ev_IL, k16, rr, km, r29, k29, l29, r30, k30, l30, r31, k31, l31, r32, k32, l32, n3_3, xn, x1, r_16, r_11, n6_0, n6_1, n3_0, n3_3, nn_m31, nn_m63, nn_m15, nn_m7, nn_m127, ll_m63, Nat.reduceMod, Nat.reduceAdd, Nat.reduceMul, Nat.reduceSub, nn_sr6, nn_sl6, nn_le, nn_lt, nn_eq, nn_ad, nn_ml, nn_sb, nn_cm, nn_in, nn_t6, ll_le, ll_lt, ll_eq, ll_ad, ll_ml, ll_sb, ll_t3, ↓reduceIte, ev_kl, ev_kr, ↓r_let, r_bs, pt_k_r, pt_k_l, pt_s_r, pt_s_l, b_let, b_lef, b_ltt, b_ltf, b_eqt, b_eqf, and_true, true_and, and_false, false_and, or_true, true_or, or_false, false_or, not_true_eq_false, not_false_eq_true])⟩
      | inr v =>
        obtain ⟨v1, p1⟩ := v
        try rw [sp_br]
        rw [ho1] at x1
        have x1 : fX16_small (rm (pm_setI h 592 16 (Int32.ofNat fr)) (Int32.ofNat p0) f q) 592 (Int32.ofNat 3) = some (.inr (Int32.ofNat v1, rm (pm_setI h 592 16 (Int32.ofNat fr)) (Int32.ofNat p1) f q)) := x1
        obtain ⟨bd1, hp1⟩ := sp_byte_b hp0 ho1
        have x2 := ms_num SN ieN he hp1 f q
        cases ho2 : sp_num B e p1 with
        | inl w =>
          rw [ho2] at x2
          try rw [sp_bl]
          obtain ⟨a, x2⟩ := x2
          exact ⟨_, a, FN, by rw [ev_lm, aX16_readsExports_0]; unfold tX16_readsExports_19; (try simp only [r_kd, r_R, r_ln, r_L, rm_sL, r_kdL, r_kdI, r_lnI, r_lnL, r_RI, r_RL, k16, rr, km, r29, k29, l29, r30, k30, l30, r31, k31, l31, r32, k32, l32, n3_3, xn, x1, x2, ↓reduceIte, r_bs, ↓r_let, r_sr, r_sl, r_kl, r_kr]); (try simp (disch := omega) only [r_kd, r_R, r_ln, r_L, rm_sL, rm_a, rm_x, r_kdL, r_kdI, r_lnI, r_lnL, r_RI, r_RL, ev_LL, ev_LI, ev_II, ev_IL, k16, rr, km, r29, k29, l29, r30, k30, l30, r31, k31, l31, r32, k32, l32, n3_3, xn, x1, x2, r_16, r_11, n6_0, n6_1, n3_0, n3_3, nn_m31, nn_m63, nn_m15, nn_m7, nn_m127, ll_m63, Nat.reduceMod, Nat.reduceAdd, Nat.reduceMul, Nat.reduceSub, nn_sr6, nn_sl6, nn_le, nn_lt, nn_eq, nn_ad, nn_ml, nn_sb, nn_cm, nn_in, nn_t6, ll_le, ll_lt, ll_eq, ll_ad, ll_ml, ll_sb, ll_t3, ↓reduceIte, ev_kl, ev_kr, ↓r_let, r_bs, pt_k_r, pt_k_l, pt_s_r, pt_s_l, b_let, b_lef, b_ltt, b_ltf, b_eqt, b_eqf, and_true, true_and, and_false, false_and, or_true, true_or, or_false, false_or, not_true_eq_false, not_false_eq_true])⟩
        | inr v =>
          obtain ⟨v2, p2⟩ := v
          try rw [sp_br]
          rw [ho2] at x2
          have x2 : fX16_number (rm (pm_setI h 592 16 (Int32.ofNat fr)) (Int32.ofNat p1) f q) 592 = some (.inr (Int64.ofNat v2, rm (pm_setI h 592 16 (Int32.ofNat fr)) (Int32.ofNat p2) f q)) := x2
          obtain ⟨bd2, hp2⟩ := sp_num_b hp1 ho2
          have F3 : yF m eo el (pm_setI h 592 16 (Int32.ofNat fr)) (upX (pm_setI h 592 16 (Int32.ofNat fr)) m k fr (p0 - fr) v1 v2) := by
            unfold upX
            split
            · exact yF_t (yF_t (yF_I _ hm (by omega)) (yF_I _ hm (by omega))) (yF_t (yF_I _ hm (by omega)) (yF_L _ hm (by omega)))
            · exact yF_r m eo el _
          have F := yF_t FN F3
          have i := ih (k + 1) _ p2 (mC_F C F) (by omega) hp2
          have s2 : pm_lim sX16_readsExports (592, Int64.ofNat c, Int64.ofNat k, rm h (Int32.ofNat p) f q) = pm_lim sX16_readsExports (592, Int64.ofNat c, Int64.ofNat (k + 1), rm (upX (pm_setI h 592 16 (Int32.ofNat fr)) m k fr (p0 - fr) v1 v2) (Int32.ofNat p2) f q) := by
            unfold upX
            by_cases k6 : k < 64
            · rw [if_pos k6]
              rw [ev_lm, aX16_readsExports_0]; unfold tX16_readsExports_19; (try simp only [r_kd, r_R, r_ln, r_L, rm_sL, r_kdL, r_kdI, r_lnI, r_lnL, r_RI, r_RL, k16, rr, km, r29, k29, l29, r30, k30, l30, r31, k31, l31, r32, k32, l32, n3_3, xn, x1, x2, ↓reduceIte, r_bs, ↓r_let, r_sr, r_sl, r_kl, r_kr]); (try simp (disch := omega) only [r_kd, r_R, r_ln, r_L, rm_sL, rm_a, rm_x, r_kdL, r_kdI, r_lnI, r_lnL, r_RI, r_RL, ev_LL, ev_LI, ev_II, ev_IL, k16, rr, km, r29, k29, l29, r30, k30, l30, r31, k31, l31, r32, k32, l32, n3_3, xn, x1, x2, r_16, r_11, n6_0, n6_1, n6_64, n3_0, n3_3, nn_m31, nn_m63, nn_m15, nn_m7, nn_m127, ll_m63, Nat.reduceMod, Nat.reduceAdd, Nat.reduceMul, Nat.reduceSub, nn_sr6, nn_sl6, nn_le, nn_lt, nn_eq, nn_ad, nn_ml, nn_sb, nn_cm, nn_in, nn_t6, ll_le, ll_lt, ll_eq, ll_ad, ll_ml, ll_sb, ll_t3, ↓reduceIte, ev_kl, ev_kr, ↓r_let, r_bs, pt_k_r, pt_k_l, pt_s_r, pt_s_l, b_let, b_lef, b_ltt, b_ltf, b_eqt, b_eqf, and_true, true_and, and_false, false_and, or_true, true_or, or_false, false_or, not_true_eq_false, not_false_eq_true])
            · rw [if_neg k6]
              rw [ev_lm, aX16_readsExports_0]; unfold tX16_readsExports_19; (try simp only [r_kd, r_R, r_ln, r_L, rm_sL, r_kdL, r_kdI, r_lnI, r_lnL, r_RI, r_RL, k16, rr, km, r29, k29, l29, r30, k30, l30, r31, k31, l31, r32, k32, l32, n3_3, xn, x1, x2, ↓reduceIte, r_bs, ↓r_let, r_sr, r_sl, r_kl, r_kr]); (try simp (disch := omega) only [r_kd, r_R, r_ln, r_L, rm_sL, rm_a, rm_x, r_kdL, r_kdI, r_lnI, r_lnL, r_RI, r_RL, ev_LL, ev_LI, ev_II, ev_IL, k16, rr, km, r29, k29, l29, r30, k30, l30, r31, k31, l31, r32, k32, l32, n3_3, xn, x1, x2, r_16, r_11, n6_0, n6_1, n6_64, n3_0, n3_3, nn_m31, nn_m63, nn_m15, nn_m7, nn_m127, ll_m63, Nat.reduceMod, Nat.reduceAdd, Nat.reduceMul, Nat.reduceSub, nn_sr6, nn_sl6, nn_le, nn_lt, nn_eq, nn_ad, nn_ml, nn_sb, nn_cm, nn_in, nn_t6, ll_le, ll_lt, ll_eq, ll_ad, ll_ml, ll_sb, ll_t3, ↓reduceIte, ev_kl, ev_kr, ↓r_let, r_bs, pt_k_r, pt_k_l, pt_s_r, pt_s_l, b_let, b_lef, b_ltt, b_ltf, b_eqt, b_eqf, and_true, true_and, and_false, false_and, or_true, true_or, or_false, false_or, not_true_eq_false, not_false_eq_true])
          rw [s2]
          revert i
          cases sp_xps B e m j (k + 1) (upX (pm_setI h 592 16 (Int32.ofNat fr)) m k fr (p0 - fr) v1 v2) p2 with
          | inl w =>
            rintro ⟨h3, a, F4, e2⟩
            exact ⟨h3, a, yF_t F F4, e2⟩
          | inr v =>
            rintro ⟨r, e1, e2, F4, e3, e4⟩
            exact ⟨r, e1, e2, yF_t F F4, by omega, e4⟩
def sp_tps0 (B : Nat → Nat) (e m : Nat) (h : pm_H) (p : Nat) : sp_O pm_H := sp_b (sp_num B e p) fun c p1 => sp_tps B e m c 0 (pm_setI (kp h m c) m 4 (Int32.ofNat (k64 c))) p1
theorem ms_tps {h : pm_H} {p : Nat} (C : mC h n b m eo el e d B) (hp : p ≤ e) (f q : Int32) : ms_Q (fun h' => yF m eo el h h') (fun h' p' r => r = rm h' (Int32.ofNat p') f q ∧ yF m eo el h h' ∧ p < p' ∧ p' ≤ e) (fX16_readsTypes (rm h (Int32.ofNat p) f q) 592) (sp_tps0 B e m h p) := by
  obtain ⟨S, X, P, Z, ie, he, hd⟩ := id C
  have hm : 648 < m := X.2.2.2.2.2.2.2.2.2.2.2.2.2.2.2.2.2.1
  have k16 := S.1
  have rr := S.2.1
  have km := S.2.2.1
  have hb := S.2.2.2.2.2.2.2.2.2
  have st := ms_stops S
  unfold sp_tps0
  have x1 := ms_num S ie he hp f q
  cases ho1 : sp_num B e p with
  | inl w =>
    rw [ho1] at x1
    try rw [sp_bl]
    obtain ⟨a, x1⟩ := x1
    exact ⟨_, a, yF_r m eo el h, by simp (disch := omega) only [fX16_readsTypes, r_kd, r_R, r_ln, r_L, rm_sL, rm_a, rm_x, r_kdL, r_kdI, r_lnI, r_lnL, r_RI, r_RL, ev_LL, ev_LI, ev_II, ev_IL, k16, rr, km, x1, n6_0, n3_0, nn_m31, nn_m63, nn_m15, nn_m7, nn_m127, ll_m63, Nat.reduceMod, Nat.reduceAdd, Nat.reduceMul, Nat.reduceSub, nn_sr6, nn_sl6, nn_le, nn_lt, nn_eq, nn_ad, nn_ml, nn_sb, nn_cm, nn_in, nn_t6, ll_le, ll_lt, ll_eq, ll_ad, ll_ml, ll_sb, ll_t3, ↓reduceIte, ev_kl, ev_kr, ↓r_let, r_bs, pt_k_r, pt_k_l, pt_s_r, pt_s_l, b_let, b_lef, b_ltt, b_ltf, b_eqt, b_eqf, and_true, true_and, and_false, false_and, or_true, true_or, or_false, false_or, not_true_eq_false, not_false_eq_true]⟩
  | inr v =>
    obtain ⟨v1, p1⟩ := v
    try rw [sp_br]
    rw [ho1] at x1
    have x1 : fX16_number (rm h (Int32.ofNat p) f q) 592 = some (.inr (Int64.ofNat v1, rm h (Int32.ofNat p1) f q)) := x1
    obtain ⟨bd1, hp1⟩ := sp_num_b hp ho1
    have nv := sp_num_v hb ho1
    have kt := fun a => ms_kept S nv a f q
    have kk : pm_kd (kp h m v1) = pm_kd h := (kp_x h m eo el v1).2.1
    have F : yF m eo el h (pm_setI (kp h m v1) m 4 (Int32.ofNat (k64 v1))) := yF_t (yF_x hm (by omega) (by omega) (kp_x _ m eo el v1)) (yF_I _ hm (by omega))
    have i := ml_tps f q nv v1 0 _ p1 (mC_F C F) (by omega) hp1
    have s1 : fX16_readsTypes (rm h (Int32.ofNat p) f q) 592 = pm_lim sX16_readsTypes (.inl (592, Int64.ofNat v1, Int64.ofNat 0, rm (pm_setI (kp h m v1) m 4 (Int32.ofNat (k64 v1))) (Int32.ofNat p1) f q)) := by
      simp (disch := omega) only [fX16_readsTypes, r_kd, r_R, r_ln, r_L, rm_sL, rm_a, rm_x, r_kdL, r_kdI, r_lnI, r_lnL, r_RI, r_RL, ev_LL, ev_LI, ev_II, ev_IL, k16, rr, km, x1, kt, kk, n6_0, n3_0, nn_m31, nn_m63, nn_m15, nn_m7, nn_m127, ll_m63, Nat.reduceMod, Nat.reduceAdd, Nat.reduceMul, Nat.reduceSub, nn_sr6, nn_sl6, nn_le, nn_lt, nn_eq, nn_ad, nn_ml, nn_sb, nn_cm, nn_in, nn_t6, ll_le, ll_lt, ll_eq, ll_ad, ll_ml, ll_sb, ll_t3, ↓reduceIte, ev_kl, ev_kr, ↓r_let, r_bs, pt_k_r, pt_k_l, pt_s_r, pt_s_l, b_let, b_lef, b_ltt, b_ltf, b_eqt, b_eqf, and_true, true_and, and_false, false_and, or_true, true_or, or_false, false_or, not_true_eq_false, not_false_eq_true]
    rw [s1]
    revert i
    cases sp_tps B e m v1 0 (pm_setI (kp h m v1) m 4 (Int32.ofNat (k64 v1))) p1 with
    | inl w =>
      rintro ⟨h2, a, F2, e2⟩
      exact ⟨h2, a, yF_t F F2, e2⟩
    | inr v =>
      rintro ⟨r, e1, e2, F2, e3, e4⟩
      exact ⟨r, e1, e2, yF_t F F2, by omega, e4⟩
def sp_xps0 (B : Nat → Nat) (e m : Nat) (h : pm_H) (p : Nat) : sp_O pm_H := sp_b (sp_num B e p) fun c p1 => sp_xps B e m c 0 (pm_setI (kp h m c) m 28 (Int32.ofNat (k64 c))) p1
theorem ms_xps {h : pm_H} {p : Nat} (C : mC h n b m eo el e d B) (hp : p ≤ e) (f q : Int32) : ms_Q (fun h' => yF m eo el h h') (fun h' p' r => r = rm h' (Int32.ofNat p') f q ∧ yF m eo el h h' ∧ p < p' ∧ p' ≤ e) (fX16_readsExports (rm h (Int32.ofNat p) f q) 592) (sp_xps0 B e m h p) := by
  obtain ⟨S, X, P, Z, ie, he, hd⟩ := id C
  have hm : 648 < m := X.2.2.2.2.2.2.2.2.2.2.2.2.2.2.2.2.2.1
  have k16 := S.1
  have rr := S.2.1
  have km := S.2.2.1
  have hb := S.2.2.2.2.2.2.2.2.2
  have st := ms_stops S
  unfold sp_xps0
  have x1 := ms_num S ie he hp f q
  cases ho1 : sp_num B e p with
  | inl w =>
    rw [ho1] at x1
    try rw [sp_bl]
    obtain ⟨a, x1⟩ := x1
    exact ⟨_, a, yF_r m eo el h, by simp (disch := omega) only [fX16_readsExports, r_kd, r_R, r_ln, r_L, rm_sL, rm_a, rm_x, r_kdL, r_kdI, r_lnI, r_lnL, r_RI, r_RL, ev_LL, ev_LI, ev_II, ev_IL, k16, rr, km, x1, n6_0, n3_0, nn_m31, nn_m63, nn_m15, nn_m7, nn_m127, ll_m63, Nat.reduceMod, Nat.reduceAdd, Nat.reduceMul, Nat.reduceSub, nn_sr6, nn_sl6, nn_le, nn_lt, nn_eq, nn_ad, nn_ml, nn_sb, nn_cm, nn_in, nn_t6, ll_le, ll_lt, ll_eq, ll_ad, ll_ml, ll_sb, ll_t3, ↓reduceIte, ev_kl, ev_kr, ↓r_let, r_bs, pt_k_r, pt_k_l, pt_s_r, pt_s_l, b_let, b_lef, b_ltt, b_ltf, b_eqt, b_eqf, and_true, true_and, and_false, false_and, or_true, true_or, or_false, false_or, not_true_eq_false, not_false_eq_true]⟩
  | inr v =>
    obtain ⟨v1, p1⟩ := v
    try rw [sp_br]
    rw [ho1] at x1
    have x1 : fX16_number (rm h (Int32.ofNat p) f q) 592 = some (.inr (Int64.ofNat v1, rm h (Int32.ofNat p1) f q)) := x1
    obtain ⟨bd1, hp1⟩ := sp_num_b hp ho1
    have nv := sp_num_v hb ho1
    have kt := fun a => ms_kept S nv a f q
    have kk : pm_kd (kp h m v1) = pm_kd h := (kp_x h m eo el v1).2.1
    have F : yF m eo el h (pm_setI (kp h m v1) m 28 (Int32.ofNat (k64 v1))) := yF_t (yF_x hm (by omega) (by omega) (kp_x _ m eo el v1)) (yF_I _ hm (by omega))
    have i := ml_xps f q nv v1 0 _ p1 (mC_F C F) (by omega) hp1
    have s1 : fX16_readsExports (rm h (Int32.ofNat p) f q) 592 = pm_lim sX16_readsExports (592, Int64.ofNat v1, Int64.ofNat 0, rm (pm_setI (kp h m v1) m 28 (Int32.ofNat (k64 v1))) (Int32.ofNat p1) f q) := by
      simp (disch := omega) only [fX16_readsExports, r_kd, r_R, r_ln, r_L, rm_sL, rm_a, rm_x, r_kdL, r_kdI, r_lnI, r_lnL, r_RI, r_RL, ev_LL, ev_LI, ev_II, ev_IL, k16, rr, km, x1, kt, kk, n6_0, n3_0, nn_m31, nn_m63, nn_m15, nn_m7, nn_m127, ll_m63, Nat.reduceMod, Nat.reduceAdd, Nat.reduceMul, Nat.reduceSub, nn_sr6, nn_sl6, nn_le, nn_lt, nn_eq, nn_ad, nn_ml, nn_sb, nn_cm, nn_in, nn_t6, ll_le, ll_lt, ll_eq, ll_ad, ll_ml, ll_sb, ll_t3, ↓reduceIte, ev_kl, ev_kr, ↓r_let, r_bs, pt_k_r, pt_k_l, pt_s_r, pt_s_l, b_let, b_lef, b_ltt, b_ltf, b_eqt, b_eqf, and_true, true_and, and_false, false_and, or_true, true_or, or_false, false_or, not_true_eq_false, not_false_eq_true]
    rw [s1]
    revert i
    cases sp_xps B e m v1 0 (pm_setI (kp h m v1) m 28 (Int32.ofNat (k64 v1))) p1 with
    | inl w =>
      rintro ⟨h2, a, F2, e2⟩
      exact ⟨h2, a, yF_t F F2, e2⟩
    | inr v =>
      rintro ⟨r, e1, e2, F2, e3, e4⟩
      exact ⟨r, e1, e2, yF_t F F2, by omega, e4⟩
end MSEC
