/-! THE REFERENCE READS: section 1 -/
def to0 (k : Nat) : Option Nat := if k < 64 then some (32 * k) else none
def to1 (k : Nat) : Option Nat := if k < 64 then some (32 * k + 16) else none
def upT (h : pm_H) (m k x y : Nat) : pm_H := if k < 64 then pm_setI (pm_setI h (m + 2) k (Int32.ofNat x)) (m + 3) k (Int32.ofNat y) else h
def sp_tps (B : Nat → Nat) (e m : Nat) : Nat → Nat → pm_H → Nat → sp_O pm_H
  | 0, _, h, p => .inr (h, p)
  | j + 1, k, h, p => if p < e then (if B p = 96 then sp_b (sp_trow B e m (to0 k) h (p + 1)) fun a p1 => sp_b (sp_trow B e m (to1 k) a.1 p1) fun c p2 => sp_tps B e m j (k + 1) (upT c.1 m k a.2 c.2) p2 else .inl (8, p)) else .inl (1, e)
section MSEC
variable {n b m eo el e : Nat} {B : Nat → Nat} {d : Bool}
theorem ml_tps (f q : Int32) {c : Nat} (hc : c < 4294967296) : ∀ (j k : Nat) (h : pm_H) (p : Nat), mC h n b m eo el e d B → k + j = c → p ≤ e → ms_Q (fun h' => yF m eo el h h') (fun h' p' r => r = rm h' (Int32.ofNat p') f q ∧ yF m eo el h h' ∧ p ≤ p' ∧ p' ≤ e) (pm_lim sX16_readsTypes (.inl (592, Int64.ofNat c, Int64.ofNat k, rm h (Int32.ofNat p) f q))) (sp_tps B e m j k h p) := by
  intro j
  induction j with
  | zero =>
    intro k h p C hk hp
    refine ⟨rm h (Int32.ofNat p) f q, ?_, rfl, yF_r m eo el h, Nat.le_refl _, hp⟩
    rw [ev_lm]; simp (disch := omega) only [aX16_readsTypes_0, tX16_readsTypes_19, nn_m31, nn_m63, nn_m15, nn_m7, nn_m127, ll_m63, Nat.reduceMod, Nat.reduceAdd, Nat.reduceMul, Nat.reduceSub, nn_sr6, nn_sl6, nn_le, nn_lt, nn_eq, nn_ad, nn_ml, nn_sb, nn_cm, nn_in, nn_t6, ll_le, ll_lt, ll_eq, ll_ad, ll_ml, ll_sb, ll_t3, ↓reduceIte, ev_kl, ev_kr, ↓r_let, r_bs, pt_k_r, pt_k_l, pt_s_r, pt_s_l, b_let, b_lef, b_ltt, b_ltf, b_eqt, b_eqf, and_true, true_and, and_false, false_and, or_true, true_or, or_false, false_or, not_true_eq_false, not_false_eq_true]
  | succ j ih =>
    intro k h p C hk hp
    obtain ⟨S, X, P, Z, ie, he, hd⟩ := id C
    have hm : 648 < m := X.2.2.2.2.2.2.2.2.2.2.2.2.2.2.2.2.2.1
    have k16 := S.1
    have rr := S.2.1
    have km := S.2.2.1
    have hb := S.2.2.2.2.2.2.2.2.2
    have st := ms_stops S
    have n4 := S.2.2.2.2.2.2.1
    have b0 := hb p
    unfold sp_tps
    rcases ms_byte S ie he hp f q with ⟨_, hl, nx⟩ | ⟨_, hl, a, nx⟩
    · rw [if_pos hl]
      by_cases c96 : B p = 96
      · rw [if_pos c96]
        have t0 : ∀ t, to0 k = some t → t + 16 ≤ 2048 := by
          intro t ht
          unfold to0 at ht
          split at ht
          · cases ht; omega
          · cases ht
        have t1 : ∀ t, to1 k = some t → t + 16 ≤ 2048 := by
          intro t ht
          unfold to1 at ht
          split at ht
          · cases ht; omega
          · cases ht
        have s1 : pm_lim sX16_readsTypes (.inl (592, Int64.ofNat c, Int64.ofNat k, rm h (Int32.ofNat p) f q)) = pm_lim sX16_readsTypes (.inr (.inr (.inr (592, Int64.ofNat c, Int64.ofNat k, (if k < 64 then Int32.ofNat k else -1), toI (to0 k), 592, rm h (Int32.ofNat (p + 1)) f q)))) := by
          have z1 : (Int32.ofNat 0 ≤ (-1 : Int32)) = False := eq_false (by decide)
          unfold to0
          by_cases k6 : k < 64
          · rw [if_pos k6, if_pos k6]
            show _ = pm_lim sX16_readsTypes (.inr (.inr (.inr (592, Int64.ofNat c, Int64.ofNat k, Int32.ofNat k, Int32.ofNat (32 * k), 592, rm h (Int32.ofNat (p + 1)) f q))))
            rw [ev_lm, aX16_readsTypes_0]; unfold tX16_readsTypes_19; (try simp only [r_kd, r_R, r_ln, r_L, rm_sL, r_kdL, r_kdI, r_lnI, r_lnL, r_RI, r_RL, k16, rr, km, nx, ↓reduceIte, r_bs, ↓r_let, r_sr, r_sl, r_kl, r_kr]); (try simp (disch := omega) only [r_kd, r_R, r_ln, r_L, rm_sL, rm_a, rm_x, r_kdL, r_kdI, r_lnI, r_lnL, r_RI, r_RL, ev_LL, ev_LI, ev_II, ev_IL, k16, rr, km, nx, n6_0, n6_1, n3_0, n3_96, nn_m31, nn_m63, nn_m15, nn_m7, nn_m127, ll_m63, Nat.reduceMod, Nat.reduceAdd, Nat.reduceMul, Nat.reduceSub, nn_sr6, nn_sl6, nn_le, nn_lt, nn_eq, nn_ad, nn_ml, nn_sb, nn_cm, nn_in, nn_t6, ll_le, ll_lt, ll_eq, ll_ad, ll_ml, ll_sb, ll_t3, ↓reduceIte, ev_kl, ev_kr, ↓r_let, r_bs, pt_k_r, pt_k_l, pt_s_r, pt_s_l, b_let, b_lef, b_ltt, b_ltf, b_eqt, b_eqf, and_true, true_and, and_false, false_and, or_true, true_or, or_false, false_or, not_true_eq_false, not_false_eq_true])
            rw [ev_lm, aX16_readsTypes_1]; unfold tX16_readsTypes_50; (try simp only [r_kd, r_R, r_ln, r_L, rm_sL, r_kdL, r_kdI, r_lnI, r_lnL, r_RI, r_RL, k16, rr, km, ↓reduceIte, r_bs, ↓r_let, r_sr, r_sl, r_kl, r_kr]); (try simp (disch := omega) only [r_kd, r_R, r_ln, r_L, rm_sL, rm_a, rm_x, r_kdL, r_kdI, r_lnI, r_lnL, r_RI, r_RL, ev_LL, ev_LI, ev_II, ev_IL, k16, rr, km, n6_64, n3_0, nn_m31, nn_m63, nn_m15, nn_m7, nn_m127, ll_m63, Nat.reduceMod, Nat.reduceAdd, Nat.reduceMul, Nat.reduceSub, nn_sr6, nn_sl6, nn_le, nn_lt, nn_eq, nn_ad, nn_ml, nn_sb, nn_cm, nn_in, nn_t6, ll_le, ll_lt, ll_eq, ll_ad, ll_ml, ll_sb, ll_t3, ↓reduceIte, ev_kl, ev_kr, ↓r_let, r_bs, pt_k_r, pt_k_l, pt_s_r, pt_s_l, b_let, b_lef, b_ltt, b_ltf, b_eqt, b_eqf, and_true, true_and, and_false, false_and, or_true, true_or, or_false, false_or, not_true_eq_false, not_false_eq_true])
            rw [ev_lm, aX16_readsTypes_2]; unfold tX16_readsTypes_64; (try simp only [r_kd, r_R, r_ln, r_L, rm_sL, r_kdL, r_kdI, r_lnI, r_lnL, r_RI, r_RL, k16, rr, km, ↓reduceIte, r_bs, ↓r_let, r_sr, r_sl, r_kl, r_kr]); (try simp (disch := omega) only [r_kd, r_R, r_ln, r_L, rm_sL, rm_a, rm_x, r_kdL, r_kdI, r_lnI, r_lnL, r_RI, r_RL, ev_LL, ev_LI, ev_II, ev_IL, k16, rr, km, n6_0, n6_1, n3_0, n3_32, nn_m31, nn_m63, nn_m15, nn_m7, nn_m127, ll_m63, Nat.reduceMod, Nat.reduceAdd, Nat.reduceMul, Nat.reduceSub, nn_sr6, nn_sl6, nn_le, nn_lt, nn_eq, nn_ad, nn_ml, nn_sb, nn_cm, nn_in, nn_t6, ll_le, ll_lt, ll_eq, ll_ad, ll_ml, ll_sb, ll_t3, ↓reduceIte, ev_kl, ev_kr, ↓r_let, r_bs, pt_k_r, pt_k_l, pt_s_r, pt_s_l, b_let, b_lef, b_ltt, b_ltf, b_eqt, b_eqf, and_true, true_and, and_false, false_and, or_true, true_or, or_false, false_or, not_true_eq_false, not_false_eq_true])
          · rw [if_neg k6, if_neg k6]
            show _ = pm_lim sX16_readsTypes (.inr (.inr (.inr (592, Int64.ofNat c, Int64.ofNat k, -1, -1, 592, rm h (Int32.ofNat (p + 1)) f q))))
            rw [ev_lm, aX16_readsTypes_0]; unfold tX16_readsTypes_19; (try simp only [r_kd, r_R, r_ln, r_L, rm_sL, r_kdL, r_kdI, r_lnI, r_lnL, r_RI, r_RL, k16, rr, km, nx, ↓reduceIte, r_bs, ↓r_let, r_sr, r_sl, r_kl, r_kr]); (try simp (disch := omega) only [r_kd, r_R, r_ln, r_L, rm_sL, rm_a, rm_x, r_kdL, r_kdI, r_lnI, r_lnL, r_RI, r_RL, ev_LL, ev_LI, ev_II, ev_IL, k16, rr, km, nx, n6_0, n6_1, n3_0, n3_96, nn_m31, nn_m63, nn_m15, nn_m7, nn_m127, ll_m63, Nat.reduceMod, Nat.reduceAdd, Nat.reduceMul, Nat.reduceSub, nn_sr6, nn_sl6, nn_le, nn_lt, nn_eq, nn_ad, nn_ml, nn_sb, nn_cm, nn_in, nn_t6, ll_le, ll_lt, ll_eq, ll_ad, ll_ml, ll_sb, ll_t3, ↓reduceIte, ev_kl, ev_kr, ↓r_let, r_bs, pt_k_r, pt_k_l, pt_s_r, pt_s_l, b_let, b_lef, b_ltt, b_ltf, b_eqt, b_eqf, and_true, true_and, and_false, false_and, or_true, true_or, or_false, false_or, not_true_eq_false, not_false_eq_true])
            rw [ev_lm, aX16_readsTypes_1]; unfold tX16_readsTypes_50; (try simp only [r_kd, r_R, r_ln, r_L, rm_sL, r_kdL, r_kdI, r_lnI, r_lnL, r_RI, r_RL, k16, rr, km, ↓reduceIte, r_bs, ↓r_let, r_sr, r_sl, r_kl, r_kr]); (try simp (disch := omega) only [r_kd, r_R, r_ln, r_L, rm_sL, rm_a, rm_x, r_kdL, r_kdI, r_lnI, r_lnL, r_RI, r_RL, ev_LL, ev_LI, ev_II, ev_IL, k16, rr, km, n6_64, n3_0, nn_m31, nn_m63, nn_m15, nn_m7, nn_m127, ll_m63, Nat.reduceMod, Nat.reduceAdd, Nat.reduceMul, Nat.reduceSub, nn_sr6, nn_sl6, nn_le, nn_lt, nn_eq, nn_ad, nn_ml, nn_sb, nn_cm, nn_in, nn_t6, ll_le, ll_lt, ll_eq, ll_ad, ll_ml, ll_sb, ll_t3, ↓reduceIte, ev_kl, ev_kr, ↓r_let, r_bs, pt_k_r, pt_k_l, pt_s_r, pt_s_l, b_let, b_lef, b_ltt, b_ltf, b_eqt, b_eqf, and_true, true_and, and_false, false_and, or_true, true_or, or_false, false_or, not_true_eq_false, not_false_eq_true])
            rw [ev_lm, aX16_readsTypes_2]; unfold tX16_readsTypes_64; (try simp only [r_kd, r_R, r_ln, r_L, rm_sL, r_kdL, r_kdI, r_lnI, r_lnL, r_RI, r_RL, k16, rr, km, ↓reduceIte, r_bs, ↓r_let, r_sr, r_sl, r_kl, r_kr]); (try simp (disch := omega) only [r_kd, r_R, r_ln, r_L, rm_sL, rm_a, rm_x, r_kdL, r_kdI, r_lnI, r_lnL, r_RI, r_RL, ev_LL, ev_LI, ev_II, ev_IL, k16, rr, km, z1, n6_0, n6_1, n3_0, n3_32, nn_m31, nn_m63, nn_m15, nn_m7, nn_m127, ll_m63, Nat.reduceMod, Nat.reduceAdd, Nat.reduceMul, Nat.reduceSub, nn_sr6, nn_sl6, nn_le, nn_lt, nn_eq, nn_ad, nn_ml, nn_sb, nn_cm, nn_in, nn_t6, ll_le, ll_lt, ll_eq, ll_ad, ll_ml, ll_sb, ll_t3, ↓reduceIte, ev_kl, ev_kr, ↓r_let, r_bs, pt_k_r, pt_k_l, pt_s_r, pt_s_l, b_let, b_lef, b_ltt, b_ltf, b_eqt, b_eqf, and_true, true_and, and_false, false_and, or_true, true_or, or_false, false_or, not_true_eq_false, not_false_eq_true])
        have y1 := ms_trow C (p := p + 1) hl f q (to0 k) t0
        rw [s1]
        cases ho1 : sp_trow B e m (to0 k) h (p + 1) with
        | inl w =>
          rw [ho1] at y1
          rw [sp_bl]
          obtain ⟨h', a, F1, y1⟩ := y1
          exact ⟨h', a, F1, by rw [ev_lm, aX16_readsTypes_3]; unfold tX16_readsTypes_81; (try simp only [r_kd, r_R, r_ln, r_L, rm_sL, r_kdL, r_kdI, r_lnI, r_lnL, r_RI, r_RL, k16, rr, km, y1, ↓reduceIte, r_bs, ↓r_let, r_sr, r_sl, r_kl, r_kr]); (try simp (disch := omega) only [r_kd, r_R, r_ln, r_L, rm_sL, rm_a, rm_x, r_kdL, r_kdI, r_lnI, r_lnL, r_RI, r_RL, ev_LL, ev_LI, ev_II, ev_IL, k16, rr, km, y1, n6_0, n6_1, n3_0, nn_m31, nn_m63, nn_m15, nn_m7, nn_m127, ll_m63, Nat.reduceMod, Nat.reduceAdd, Nat.reduceMul, Nat.reduceSub, nn_sr6, nn_sl6, nn_le, nn_lt, nn_eq, nn_ad, nn_ml, nn_sb, nn_cm, nn_in, nn_t6, ll_le, ll_lt, ll_eq, ll_ad, ll_ml, ll_sb, ll_t3, ↓reduceIte, ev_kl, ev_kr, ↓r_let, r_bs, pt_k_r, pt_k_l, pt_s_r, pt_s_l, b_let, b_lef, b_ltt, b_ltf, b_eqt, b_eqf, and_true, true_and, and_false, false_and, or_true, true_or, or_false, false_or, not_true_eq_false, not_false_eq_true])⟩
        | inr v =>
          obtain ⟨⟨h1, a1⟩, p1⟩ := v
          rw [sp_br]
          rw [ho1] at y1
          obtain ⟨r, y1, er, F1, bd1, hp1⟩ := y1
          subst er
          have bd1 : p + 1 < p1 := bd1
          have F1 : yF m eo el h h1 := F1
          have y1 : fX16_typeRow (rm h (Int32.ofNat (p + 1)) f q) 592 (toI (to0 k)) = some (.inr (Int32.ofNat a1, rm h1 (Int32.ofNat p1) f q)) := y1
          have C1 := mC_F C F1
          have k16' : pm_kd h1 592 = 16 := C1.1.1
          have y2 := ms_trow C1 hp1 f q (to1 k) t1
          have z1 : (Int32.ofNat 0 ≤ (-1 : Int32)) = False := eq_false (by decide)
          have z2 : ((-1 : Int32) < Int32.ofNat 0) = True := eq_true (by decide)
          cases ho2 : sp_trow B e m (to1 k) h1 p1 with
          | inl w =>
            rw [ho2] at y2
            rw [sp_bl]
            obtain ⟨h', a, F2, y2⟩ := y2
            refine ⟨h', a, yF_t F1 F2, ?_⟩
            unfold to1 at y2
            by_cases k6 : k < 64
            · rw [if_pos k6] at y2 ⊢
              have y2 : fX16_typeRow (rm h1 (Int32.ofNat p1) f q) 592 (Int32.ofNat (32 * k + 16)) = _ := y2
              rw [ev_lm, aX16_readsTypes_3]; unfold tX16_readsTypes_81; (try simp only [r_kd, r_R, r_ln, r_L, rm_sL, r_kdL, r_kdI, r_lnI, r_lnL, r_RI, r_RL, k16, rr, km, y1, k16', ↓reduceIte, r_bs, ↓r_let, r_sr, r_sl, r_kl, r_kr]); (try simp (disch := omega) only [r_kd, r_R, r_ln, r_L, rm_sL, rm_a, rm_x, r_kdL, r_kdI, r_lnI, r_lnL, r_RI, r_RL, ev_LL, ev_LI, ev_II, ev_IL, k16, rr, km, y1, k16', y2, n6_0, n6_1, n3_0, n3_16, n3_32, nn_m31, nn_m63, nn_m15, nn_m7, nn_m127, ll_m63, Nat.reduceMod, Nat.reduceAdd, Nat.reduceMul, Nat.reduceSub, nn_sr6, nn_sl6, nn_le, nn_lt, nn_eq, nn_ad, nn_ml, nn_sb, nn_cm, nn_in, nn_t6, ll_le, ll_lt, ll_eq, ll_ad, ll_ml, ll_sb, ll_t3, ↓reduceIte, ev_kl, ev_kr, ↓r_let, r_bs, pt_k_r, pt_k_l, pt_s_r, pt_s_l, b_let, b_lef, b_ltt, b_ltf, b_eqt, b_eqf, and_true, true_and, and_false, false_and, or_true, true_or, or_false, false_or, not_true_eq_false, not_false_eq_true])
            · rw [if_neg k6] at y2 ⊢
              have y2 : fX16_typeRow (rm h1 (Int32.ofNat p1) f q) 592 (-1) = _ := y2
              rw [ev_lm, aX16_readsTypes_3]; unfold tX16_readsTypes_81; (try simp only [r_kd, r_R, r_ln, r_L, rm_sL, r_kdL, r_kdI, r_lnI, r_lnL, r_RI, r_RL, k16, rr, km, y1, k16', ↓reduceIte, r_bs, ↓r_let, r_sr, r_sl, r_kl, r_kr]); (try simp (disch := omega) only [r_kd, r_R, r_ln, r_L, rm_sL, rm_a, rm_x, r_kdL, r_kdI, r_lnI, r_lnL, r_RI, r_RL, ev_LL, ev_LI, ev_II, ev_IL, k16, rr, km, y1, k16', y2, z1, n6_0, n6_1, n3_0, n3_16, n3_32, nn_m31, nn_m63, nn_m15, nn_m7, nn_m127, ll_m63, Nat.reduceMod, Nat.reduceAdd, Nat.reduceMul, Nat.reduceSub, nn_sr6, nn_sl6, nn_le, nn_lt, nn_eq, nn_ad, nn_ml, nn_sb, nn_cm, nn_in, nn_t6, ll_le, ll_lt, ll_eq, ll_ad, ll_ml, ll_sb, ll_t3, ↓reduceIte, ev_kl, ev_kr, ↓r_let, r_bs, pt_k_r, pt_k_l, pt_s_r, pt_s_l, b_let, b_lef, b_ltt, b_ltf, b_eqt, b_eqf, and_true, true_and, and_false, false_and, or_true, true_or, or_false, false_or, not_true_eq_false, not_false_eq_true])
          | inr v =>
            obtain ⟨⟨h2, a2⟩, p2⟩ := v
            rw [sp_br]
            rw [ho2] at y2
            obtain ⟨r, y2, er, F2, bd2, hp2⟩ := y2
            subst er
            have bd2 : p1 < p2 := bd2
            have F2 : yF m eo el h1 h2 := F2
            have C2 := mC_F C1 F2
            have k16'' : pm_kd h2 592 = 16 := C2.1.1
            have rr2 := C2.1.2.1
            have km2 := C2.1.2.2.1
            obtain ⟨r5, k5, l5⟩ := mP_5 C2.2.2.1
            obtain ⟨r6, k6', l6⟩ := mP_6 C2.2.2.1
            have F3 : yF m eo el h2 (upT h2 m k a1 a2) := by
              unfold upT
              split
              · exact yF_t (yF_I h2 hm (by omega)) (yF_I _ hm (by omega))
              · exact yF_r m eo el h2
            have F := yF_t F1 (yF_t F2 F3)
            have i := ih (k + 1) _ p2 (mC_F C F) (by omega) hp2
            have s2 : pm_lim sX16_readsTypes (.inr (.inr (.inr (592, Int64.ofNat c, Int64.ofNat k, (if k < 64 then Int32.ofNat k else -1), toI (to0 k), 592, rm h (Int32.ofNat (p + 1)) f q)))) = pm_lim sX16_readsTypes (.inl (592, Int64.ofNat c, Int64.ofNat (k + 1), rm (upT h2 m k a1 a2) (Int32.ofNat p2) f q)) := by
              unfold to1 at y2
              unfold upT
              by_cases k6 : k < 64
              · rw [if_pos k6] at y2 ⊢
                rw [if_pos k6]
                have y2 : fX16_typeRow (rm h1 (Int32.ofNat p1) f q) 592 (Int32.ofNat (32 * k + 16)) = some (.inr (Int32.ofNat a2, rm h2 (Int32.ofNat p2) f q)) := y2
                rw [ev_lm, aX16_readsTypes_3]; unfold tX16_readsTypes_81; (try simp only [r_kd, r_R, r_ln, r_L, rm_sL, r_kdL, r_kdI, r_lnI, r_lnL, r_RI, r_RL, k16, rr, km, k16'', rr2, km2, r5, k5, l5, r6, k6', l6, y1, k16', ↓reduceIte, r_bs, ↓r_let, r_sr, r_sl, r_kl, r_kr]); (try simp (disch := omega) only [r_kd, r_R, r_ln, r_L, rm_sL, rm_a, rm_x, r_kdL, r_kdI, r_lnI, r_lnL, r_RI, r_RL, ev_LL, ev_LI, ev_II, ev_IL, k16, rr, km, k16'', rr2, km2, r5, k5, l5, r6, k6', l6, y1, k16', y2, n6_0, n6_1, n3_0, n3_16, n3_32, nn_m31, nn_m63, nn_m15, nn_m7, nn_m127, ll_m63, Nat.reduceMod, Nat.reduceAdd, Nat.reduceMul, Nat.reduceSub, nn_sr6, nn_sl6, nn_le, nn_lt, nn_eq, nn_ad, nn_ml, nn_sb, nn_cm, nn_in, nn_t6, ll_le, ll_lt, ll_eq, ll_ad, ll_ml, ll_sb, ll_t3, ↓reduceIte, ev_kl, ev_kr, ↓r_let, r_bs, pt_k_r, pt_k_l, pt_s_r, pt_s_l, b_let, b_lef, b_ltt, b_ltf, b_eqt, b_eqf, and_true, true_and, and_false, false_and, or_true, true_or, or_false, false_or, not_true_eq_false, not_false_eq_true])
              · rw [if_neg k6] at y2 ⊢
                rw [if_neg k6]
                have y2 : fX16_typeRow (rm h1 (Int32.ofNat p1) f q) 592 (-1) = some (.inr (Int32.ofNat a2, rm h2 (Int32.ofNat p2) f q)) := y2
                rw [ev_lm, aX16_readsTypes_3]; unfold tX16_readsTypes_81; (try simp only [r_kd, r_R, r_ln, r_L, rm_sL, r_kdL, r_kdI, r_lnI, r_lnL, r_RI, r_RL, k16, rr, km, k16'', rr2, km2, r5, k5, l5, r6, k6', l6, y1, k16', ↓reduceIte, r_bs, ↓r_let, r_sr, r_sl, r_kl, r_kr]); (try simp (disch := omega) only [r_kd, r_R, r_ln, r_L, rm_sL, rm_a, rm_x, r_kdL, r_kdI, r_lnI, r_lnL, r_RI, r_RL, ev_LL, ev_LI, ev_II, ev_IL, k16, rr, km, k16'', rr2, km2, r5, k5, l5, r6, k6', l6, y1, k16', y2, z1, z2, n6_0, n6_1, n3_0, n3_16, n3_32, nn_m31, nn_m63, nn_m15, nn_m7, nn_m127, ll_m63, Nat.reduceMod, Nat.reduceAdd, Nat.reduceMul, Nat.reduceSub, nn_sr6, nn_sl6, nn_le, nn_lt, nn_eq, nn_ad, nn_ml, nn_sb, nn_cm, nn_in, nn_t6, ll_le, ll_lt, ll_eq, ll_ad, ll_ml, ll_sb, ll_t3, ↓reduceIte, ev_kl, ev_kr, ↓r_let, r_bs, pt_k_r, pt_k_l, pt_s_r, pt_s_l, b_let, b_lef, b_ltt, b_ltf, b_eqt, b_eqf, and_true, true_and, and_false, false_and, or_true, true_or, or_false, false_or, not_true_eq_false, not_false_eq_true])
            rw [s2]
            revert i
            cases sp_tps B e m j (k + 1) (upT h2 m k a1 a2) p2 with
            | inl w =>
              rintro ⟨h3, a, F4, e2⟩
              exact ⟨h3, a, yF_t F F4, e2⟩
            | inr v =>
              rintro ⟨r, e1, e2, F4, e3, e4⟩
              exact ⟨r, e1, e2, yF_t F F4, by omega, e4⟩
      · rw [if_neg c96]
        refine ⟨h, Int32.ofNat (p + 1), yF_r m eo el h, ?_⟩
        rw [ev_lm, aX16_readsTypes_0]; unfold tX16_readsTypes_19; (try simp only [r_kd, r_R, r_ln, r_L, rm_sL, r_kdL, r_kdI, r_lnI, r_lnL, r_RI, r_RL, k16, rr, km, nx, ↓reduceIte, r_bs, ↓r_let, r_sr, r_sl, r_kl, r_kr]); (try simp (disch := omega) only [r_kd, r_R, r_ln, r_L, rm_sL, rm_a, rm_x, r_kdL, r_kdI, r_lnI, r_lnL, r_RI, r_RL, ev_LL, ev_LI, ev_II, ev_IL, k16, rr, km, nx, st, r_11, Nat.add_sub_cancel, n6_0, n6_1, n3_0, n3_1, n3_8, n3_96, nn_m31, nn_m63, nn_m15, nn_m7, nn_m127, ll_m63, Nat.reduceMod, Nat.reduceAdd, Nat.reduceMul, Nat.reduceSub, nn_sr6, nn_sl6, nn_le, nn_lt, nn_eq, nn_ad, nn_ml, nn_sb, nn_cm, nn_in, nn_t6, ll_le, ll_lt, ll_eq, ll_ad, ll_ml, ll_sb, ll_t3, ↓reduceIte, ev_kl, ev_kr, ↓r_let, r_bs, pt_k_r, pt_k_l, pt_s_r, pt_s_l, b_let, b_lef, b_ltt, b_ltf, b_eqt, b_eqf, and_true, true_and, and_false, false_and, or_true, true_or, or_false, false_or, not_true_eq_false, not_false_eq_true])
    · rw [if_neg hl]
      refine ⟨h, a, yF_r m eo el h, ?_⟩
      rw [ev_lm, aX16_readsTypes_0]; unfold tX16_readsTypes_19; (try simp only [r_kd, r_R, r_ln, r_L, rm_sL, r_kdL, r_kdI, r_lnI, r_lnL, r_RI, r_RL, k16, rr, km, nx, ↓reduceIte, r_bs, ↓r_let, r_sr, r_sl, r_kl, r_kr]); (try simp (disch := omega) only [r_kd, r_R, r_ln, r_L, rm_sL, rm_a, rm_x, r_kdL, r_kdI, r_lnI, r_lnL, r_RI, r_RL, ev_LL, ev_LI, ev_II, ev_IL, k16, rr, km, nx, n6_0, n6_1, n3_0, n3_1, nn_m31, nn_m63, nn_m15, nn_m7, nn_m127, ll_m63, Nat.reduceMod, Nat.reduceAdd, Nat.reduceMul, Nat.reduceSub, nn_sr6, nn_sl6, nn_le, nn_lt, nn_eq, nn_ad, nn_ml, nn_sb, nn_cm, nn_in, nn_t6, ll_le, ll_lt, ll_eq, ll_ad, ll_ml, ll_sb, ll_t3, ↓reduceIte, ev_kl, ev_kr, ↓r_let, r_bs, pt_k_r, pt_k_l, pt_s_r, pt_s_l, b_let, b_lef, b_ltt, b_ltf, b_eqt, b_eqf, and_true, true_and, and_false, false_and, or_true, true_or, or_false, false_or, not_true_eq_false, not_false_eq_true])
end MSEC
