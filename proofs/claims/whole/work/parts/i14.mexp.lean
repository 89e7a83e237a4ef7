/-! THE REFERENCE READS: expressions, the loop -/
def mK (h : pm_H) (n el k : Nat) : Prop := mJ h n el k ∧ pm_I h 596 0 = Int32.ofNat 0
theorem xcb_I (h : pm_H) {m : Nat} (ob t : Bool) {x y : Nat} (hx : x ≠ m) : pm_I (xcb h m ob t) x y = pm_I h x y := by
  unfold xcb
  cases t with
  | false => rfl
  | true =>
    cases ob with
    | false => rfl
    | true =>
      show pm_I (xc h m) x y = _
      unfold xc
      split
      · rfl
      · rw [ev_II, if_neg hx]
section MEXP
variable {n b m e eo el sc : Nat} {B : Nat → Nat} {d : Bool}
theorem ms_xp (he : e ≤ n) (ob : Bool) (f q : Int32) : ∀ (N k : Nat) (h : pm_H) (p : Nat), mS h n b m 595 B → mX h n m eo el sc → mK h n el k → pm_I h 592 12 = Int32.ofNat e → (Int32.ofNat 0 ≤ pm_I h sc 12) = (d = true) → 1 ≤ k → k ≤ p + 1 → p ≤ e → e < p + N → ms_Q (fun h' => xF m eo el h h') (fun h' p' r => r = rm h' (Int32.ofNat p') f q ∧ xF m eo el h h' ∧ p < p' ∧ p' ≤ e ∧ ∀ a, a < n → ∃ c, c < n ∧ pm_I h' el a = Int32.ofNat c) (pm_lim sX16_expression (.inl (592, (if ob = true then 1 else 0), Int32.ofNat k, rm h (Int32.ofNat p) f q))) (sp_xh B e d ob m eo el N k h p) := by
  intro N
  induction N with
  | zero => exact fun k h p _ _ _ _ _ _ _ h1 h2 => absurd h2 (by omega)
  | succ N ih =>
    intro k h p C X JK ie hd k1 kp hp hN
    obtain ⟨J, J0⟩ := JK
    have k16 := C.1
    have km := C.2.2.1
    have n4 := C.2.2.2.2.2.2.1
    have b0 := C.2.2.2.2.2.2.2.2.2 p
    obtain ⟨x1, x2, x3, x4, x5, x6, x7, x8, x9, x10, x11, x12, x13, x14, x15, x16, x17, x18, x19, x20, x21, x22⟩ := id X
    have elm : el ≠ m := fun z => by rw [z, km] at x11; exact absurd x11 (by decide)
    have next : ∀ (k' : Nat) (h' : pm_H) (p' : Nat), xF m eo el h h' → mK h' n el k' → 1 ≤ k' → k' ≤ p' + 1 → p < p' → p' ≤ e → pm_lim sX16_expression (.inl (592, (if ob = true then 1 else 0), Int32.ofNat k, rm h (Int32.ofNat p) f q)) = pm_lim sX16_expression (.inl (592, (if ob = true then 1 else 0), Int32.ofNat k', rm h' (Int32.ofNat p') f q)) → ms_Q (fun h' => xF m eo el h h') (fun h' p' r => r = rm h' (Int32.ofNat p') f q ∧ xF m eo el h h' ∧ p < p' ∧ p' ≤ e ∧ ∀ a, a < n → ∃ c, c < n ∧ pm_I h' el a = Int32.ofNat c) (pm_lim sX16_expression (.inl (592, (if ob = true then 1 else 0), Int32.ofNat k, rm h (Int32.ofNat p) f q))) (sp_xh B e d ob m eo el N k' h' p') := by
      intro k' h' p' F J' k1' kp' hp1 hp2 hs
      obtain ⟨C', X', i1, i2⟩ := xF_mS C X F
      have i := ih k' h' p' C' X' J' (by rw [i1]; exact ie) (by rw [i2]; exact hd) k1' kp' hp2 (by omega)
      rw [hs]
      revert i
      cases sp_xh B e d ob m eo el N k' h' p' with
      | inl w =>
        rintro ⟨h2, a, F2, e2⟩
        exact ⟨h2, a, xF_t F F2, e2⟩
      | inr v =>
        rintro ⟨r, e1, e2, F2, e3, e4, e5⟩
        exact ⟨r, e1, e2, xF_t F F2, by omega, e4, e5⟩
    unfold sp_xh
    rcases ms_byte C ie he hp f q with ⟨_, hl, nx⟩ | ⟨_, hl, a, nx⟩
    · rw [if_pos hl]
      by_cases c11 : B p = 11
      · rw [if_pos c11]
        by_cases ck : k = 1
        · rw [if_pos ck]
          exact ⟨rm h (Int32.ofNat (p + 1)) f q, mx_end C X hl he k1 kp nx c11 ck, rfl, xF_r m eo el h, Nat.lt_succ_self p, hl, J.2⟩
        · rw [if_neg ck]
          obtain ⟨a, ha, ja⟩ := J.1 (k - 1) (by omega) (by omega)
          obtain ⟨c, hc, jc⟩ := J.2 a ha
          have cm : (Int32.ofNat a).toNatClampNeg = a := nn_cm (by omega)
          have cc : (Int32.ofNat c).toNatClampNeg = c := nn_cm (by omega)
          unfold xpop
          rw [ja, cm, jc, cc]
          by_cases c0 : c = 0
          · subst c0
            rw [if_pos (show Int32.ofNat 0 ≤ 0 by decide)]
            refine next (k - 1) _ (p + 1) (xF_I h (by omega)) ⟨⟨fun i h1 h2 => ?_, fun i hi => ?_⟩, ?_⟩ (by omega) (by omega) (by omega) (by omega) (mx_pop0 C X hl he k1 kp nx c11 ck ha ja jc)
            · obtain ⟨w, hw, jw⟩ := J.1 i h1 (by omega)
              exact ⟨w, hw, by rw [ev_II, if_neg (by omega)]; exact jw⟩
            · obtain ⟨w, hw, jw⟩ := J.2 i hi
              exact ⟨w, hw, by rw [ev_II, if_neg (Ne.symm x20)]; exact jw⟩
            · rw [ev_II, if_neg (by omega)]; exact J0
          · have z : ¬ Int32.ofNat c ≤ 0 := by
              have t : (Int32.ofNat c ≤ Int32.ofNat 0) = (c ≤ 0) := nn_le (by omega) (by decide)
              intro z
              have z' : Int32.ofNat c ≤ Int32.ofNat 0 := z
              rw [t] at z'
              omega
            rw [if_neg z]
            refine next (k - 1) _ (p + 1) (xF_t (xF_I h (by omega)) (xF_I _ (by omega))) ⟨⟨fun i h1 h2 => ?_, fun i hi => ?_⟩, ?_⟩ (by omega) (by omega) (by omega) (by omega) (mx_pop1 C X hl he k1 kp nx c11 ck ha hc c0 ja jc)
            · obtain ⟨w, hw, jw⟩ := J.1 i h1 (by omega)
              exact ⟨w, hw, by rw [ev_II, if_neg (by omega), ev_II, if_neg (by omega)]; exact jw⟩
            · obtain ⟨w, hw, jw⟩ := J.2 i hi
              exact ⟨w, hw, by rw [ev_II, if_neg (Ne.symm x20), ev_II, if_neg (Ne.symm x20)]; exact jw⟩
            · rw [ev_II, if_neg (by omega), ev_II, if_neg (by omega)]; exact J0
      · rw [if_neg c11]
        by_cases c24 : 2 ≤ B p ∧ B p ≤ 4
        · rw [if_pos c24]
          have y1 := ms_blk C ie he (p := p + 1) hl f q
          cases ho : sp_blk B e (p + 1) with
          | inl w =>
            rw [ho] at y1
            rw [sp_bl]
            obtain ⟨h', a, e1, y1⟩ := y1
            subst e1
            exact ⟨_, a, xF_r m eo el _, mx_blkf C X hl he k1 kp nx c24.1 c24.2 y1⟩
          | inr v =>
            obtain ⟨t, p2⟩ := v
            rw [ho] at y1
            rw [sp_br]
            obtain ⟨r, y1, e2, e3, e4⟩ := y1
            have e3 : p + 1 < p2 := e3
            subst e2
            refine next (k + 1) _ p2 (xF_t (xF_I h (by omega)) (xF_I _ (by omega))) ⟨⟨fun i h1 h2 => ?_, fun i hi => ?_⟩, ?_⟩ (by omega) (by omega) (by omega) e4 (mx_blk C X hl he k1 kp nx c24.1 c24.2 y1)
            · by_cases ik : i = k
              · exact ⟨p, by omega, by rw [ev_II, if_pos rfl, if_pos ik]⟩
              · obtain ⟨w, hw, jw⟩ := J.1 i h1 (by omega)
                exact ⟨w, hw, by rw [ev_II, if_pos rfl, if_neg ik, ev_II, if_neg (by decide)]; exact jw⟩
            · obtain ⟨w, hw, jw⟩ := J.2 i hi
              exact ⟨w, hw, by rw [ev_II, if_neg (by omega), ev_II, if_neg (by omega)]; exact jw⟩
            · rw [ev_II, if_neg (by decide), ev_II, if_pos rfl, if_neg (by omega)]; exact J0
        · rw [if_neg c24]
          have s1 := mx_go (o := if ob = true then 1 else 0) C X hl he k1 kp nx c11 c24
          by_cases c5 : B p = 5
          · rw [if_pos c5]
            by_cases c4 : pm_I h 596 (k - 1) = 4
            · rw [if_pos c4]
              have k2 : k ≠ 1 := by
                intro z
                subst z
                have : Int32.ofNat 0 = (4 : Int32) := J0.symm.trans c4
                exact absurd this (by decide)
              obtain ⟨a, ha, ja⟩ := J.1 (k - 1) (by omega) (by omega)
              have cm : (Int32.ofNat a).toNatClampNeg = a := nn_cm (by omega)
              rw [ja, cm]
              refine next k _ (p + 1) (xF_t (xF_I h (by omega)) (xF_I _ (by omega))) ⟨⟨fun i h1 h2 => ?_, fun i hi => ?_⟩, ?_⟩ k1 (by omega) (by omega) (by omega) (s1.trans (mx_else C X hl he k1 kp c5 ha k2 c4 ja))
              · obtain ⟨w, hw, jw⟩ := J.1 i h1 h2
                exact ⟨w, hw, by rw [ev_II, if_neg (by omega), ev_II, if_neg (by decide)]; exact jw⟩
              · by_cases ia : i = a
                · exact ⟨p, by omega, by rw [ev_II, if_pos rfl, if_pos ia]⟩
                · obtain ⟨w, hw, jw⟩ := J.2 i hi
                  exact ⟨w, hw, by rw [ev_II, if_pos rfl, if_neg ia, ev_II, if_neg (by omega)]; exact jw⟩
              · rw [ev_II, if_neg (by omega), ev_II, if_pos rfl, if_neg (by omega)]; exact J0
            · rw [if_neg c4]
              exact ⟨h, Int32.ofNat (p + 1), xF_r m eo el h, s1.trans (mx_elsef C X hl he k1 kp c5 (eq_false c4))⟩
          · rw [if_neg c5]
            have y1 := ms_ops C ie he (p := p + 1) (p0 := p) hl x13 x14 x15 hd b0 ob f q
            cases ho : sp_ops B e d (B p) p (p + 1) with
            | inl w =>
              rw [ho] at y1
              rw [sp_bl]
              obtain ⟨h', a, e1, y1⟩ := y1
              refine ⟨h', a, ?_, s1.trans (mx_opsf C X hl he k1 kp c5 y1)⟩
              rcases e1 with e1 | e1
              · rw [e1]; exact xF_r m eo el h
              · rw [e1]; exact xc_F h
            | inr v =>
              obtain ⟨t, p2⟩ := v
              rw [ho] at y1
              rw [sp_br]
              obtain ⟨r, y1, e2, e3, e4⟩ := y1
              have e3 : p + 1 ≤ p2 := e3
              subst e2
              have F := xcb_F (m := m) (eo := eo) (el := el) h ob t.2.2.2
              refine next k _ p2 F ⟨⟨fun i h1 h2 => ?_, fun i hi => ?_⟩, ?_⟩ k1 (by omega) (by omega) e4 (s1.trans (mx_ops C X hl he k1 kp c5 y1))
              · obtain ⟨w, hw, jw⟩ := J.1 i h1 h2
                exact ⟨w, hw, by rw [xcb_I h ob _ (by omega)]; exact jw⟩
              · obtain ⟨w, hw, jw⟩ := J.2 i hi
                exact ⟨w, hw, by rw [xcb_I h ob _ elm]; exact jw⟩
              · rw [xcb_I h ob _ (by omega)]; exact J0
    · rw [if_neg hl]
      refine ⟨h, a, xF_r m eo el h, ?_⟩
      rw [ev_lm, aX16_expression_0]
      unfold tX16_expression_9
      rw [if_neg (fun z => by rw [show (0 : Int32) = Int32.ofNat 0 from rfl, nn_le (by omega) (by decide)] at z; omega), r_kd, if_pos k16, r_let, nx]
      rfl
/-- an expression from its first byte on -/
theorem ms_exp {h : pm_H} {p : Nat} (he : e ≤ n) (ob : Bool) (f q : Int32) (C : mS h n b m 595 B) (X : mX h n m eo el sc) (ie : pm_I h 592 12 = Int32.ofNat e) (hd : (Int32.ofNat 0 ≤ pm_I h sc 12) = (d = true)) (J : ∀ a, a < n → ∃ c, c < n ∧ pm_I h el a = Int32.ofNat c) (hp : p ≤ e) : ms_Q (fun h' => xF m eo el h h') (fun h' p' r => r = rm h' (Int32.ofNat p') f q ∧ xF m eo el h h' ∧ p < p' ∧ p' ≤ e ∧ ∀ a, a < n → ∃ c, c < n ∧ pm_I h' el a = Int32.ofNat c) (fX16_expression (rm h (Int32.ofNat p) f q) 592 (if ob = true then 1 else 0)) (sp_xh B e d ob m eo el (e + 1) 1 (pm_setI h 596 0 0) p) := by
  have k16 := C.1
  obtain ⟨x1, x2, x3, x4, x5, x6, x7, x8, x9, x10, x11, x12, x13, x14, x15, x16, x17, x18, x19, x20, x21, x22⟩ := id X
  have F : xF m eo el h (pm_setI h 596 0 0) := xF_I h (by omega)
  obtain ⟨C', X', i1, i2⟩ := xF_mS C X F
  have i := ms_xp (d := d) he ob f q (e + 1) 1 (pm_setI h 596 0 0) p C' X' ⟨⟨fun i h1 h2 => absurd h1 (by omega), fun a ha => by obtain ⟨c, hc, jc⟩ := J a ha; exact ⟨c, hc, by rw [ev_II, if_neg (by omega)]; exact jc⟩⟩, rfl⟩ (by rw [i1]; exact ie) (by rw [i2]; exact hd) (Nat.le_refl _) (by omega) hp (by omega)
  have s1 : fX16_expression (rm h (Int32.ofNat p) f q) 592 (if ob = true then 1 else 0) = pm_lim sX16_expression (.inl (592, (if ob = true then 1 else 0), Int32.ofNat 1, rm (pm_setI h 596 0 0) (Int32.ofNat p) f q)) := by
    unfold fX16_expression
    simp (disch := omega) only [r_kd, r_R, r_ln, k16, x1, x2, x3, rm_a, n3_0, n3_1, nn_m31, nn_m63, nn_m15, nn_m7, nn_m127, ll_m63, Nat.reduceMod, Nat.reduceAdd, Nat.reduceMul, Nat.reduceSub, nn_sr6, nn_sl6, nn_le, nn_lt, nn_eq, nn_ad, nn_ml, nn_sb, nn_cm, nn_in, nn_t6, ll_le, ll_lt, ll_eq, ll_ad, ll_ml, ll_sb, ll_t3, ↓reduceIte, ev_kl, ev_kr, ↓ev_let, Option.bind_some, pt_k_r, pt_k_l, pt_s_r, pt_s_l, b_let, b_lef, b_ltt, b_ltf, b_eqt, b_eqf, and_true, true_and, and_false, false_and, or_true, true_or, or_false, false_or, not_true_eq_false, not_false_eq_true]
  rw [s1]
  revert i
  cases sp_xh B e d ob m eo el (e + 1) 1 (pm_setI h 596 0 0) p with
  | inl w =>
    rintro ⟨h2, a, F2, e2⟩
    exact ⟨h2, a, xF_t F F2, e2⟩
  | inr v =>
    rintro ⟨r, e1, e2, F2, e3, e4, e5⟩
    exact ⟨r, e1, e2, xF_t F F2, e3, e4, e5⟩
end MEXP
