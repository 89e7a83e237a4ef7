/-! THE REFERENCE CHECKS: what is declared -/
def eY (B : Nat → Nat) (n : Nat) (D : Bool) (k p e : Nat) : Prop := ∃ ob N' st w, sp_ex B n D ob N' st p = .inr (w, e) ∧ st.length = k
theorem eY_step {B : Nat → Nat} {n : Nat} {D : Bool} {k p e : Nat} (q : eY B n D k p e) : ∃ v p2, sp_in B n D p = .inr (v, p2) ∧ p < p2 ∧ p2 ≤ n ∧ ((v.1 = 11 ∧ k = 0 ∧ e = p2) ∨ (¬ (v.1 = 11 ∧ k = 0) ∧ eY B n D (if 2 ≤ v.1 ∧ v.1 ≤ 4 then k + 1 else if v.1 = 11 then k - 1 else k) p2 e)) := by
  obtain ⟨ob, N', st, w, q, hs⟩ := q
  cases N' with
  | zero => cases q
  | succ N =>
    rw [sp_ex_n] at q
    obtain ⟨v, p2, e1, q⟩ := b_inv q
    have u := sp_in_b e1
    refine ⟨v, p2, e1, u.1, u.2, ?_⟩
    by_cases c11 : v.1 = 11
    · rw [if_pos c11] at q
      cases st with
      | nil => cases q; exact .inl ⟨c11, hs.symm, rfl⟩
      | cons s r =>
        obtain ⟨w', p3, e2, q⟩ := b_inv q
        cases q
        have hs : r.length + 1 = k := hs
        refine .inr ⟨fun z => by omega, ?_⟩
        rw [if_neg (by omega), if_pos c11]
        exact ⟨ob, N, r, w', e2, by omega⟩
    rw [if_neg c11] at q
    refine .inr ⟨fun z => c11 z.1, ?_⟩
    by_cases c2 : 2 ≤ v.1 ∧ v.1 ≤ 4
    · rw [if_pos c2] at q
      rw [if_pos c2]
      exact ⟨ob, N, _, w, q, by show st.length + 1 = _; omega⟩
    rw [if_neg c2] at q
    rw [if_neg c2, if_neg c11]
    by_cases c5 : v.1 = 5
    · rw [if_pos c5] at q
      cases st with
      | nil => cases q
      | cons s r =>
        have q : (if s.1 = 4 then _ else _) = _ := q
        split at q
        · obtain ⟨w', p3, e2, q⟩ := b_inv q
          cases q
          exact ⟨ob, N, _, w', e2, hs⟩
        · cases q
    rw [if_neg c5] at q
    obtain ⟨w', p3, e2, q⟩ := b_inv q
    cases q
    exact ⟨ob, N, st, w', e2, hs⟩
theorem in_e {B : Nat → Nat} {n p p2 : Nat} {D : Bool} {v : sp_I} (hB : ∀ i, B i < 256) (q : sp_in B n D p = .inr (v, p2)) {c : Nat} (h1 : c ≠ 252) (h2 : c < 200) : v.1 = c ↔ B p = c := by
  constructor
  · intro h3
    by_cases cz : B p = 252
    · obtain ⟨k, q1, k17, e1, f1, f2, f3, f4⟩ := fur_k hB (in_252 q cz)
      exfalso
      by_cases k8 : k < 8
      · rw [f1 k8] at h3; have h3 : 200 + k = c := h3; omega
      · by_cases k1 : k = 10 ∨ k = 11
        · rw [f2 k1] at h3; have h3 : 300 + k = c := h3; omega
        · by_cases k2 : k = 12 ∨ k = 14
          · obtain ⟨x, y, q3, q4, -, -, -, -, ev⟩ := f3 k2; rw [ev] at h3; have h3 : 300 + k = c := h3; omega
          · obtain ⟨x, q3, -, -, ev⟩ := f4 (by omega); rw [ev] at h3; have h3 : 300 + k = c := h3; omega
    · exact ((in_v1 q).1 cz).symm.trans h3
  · intro h3
    exact ((in_v1 q).1 (by omega)).trans h3
theorem in_e2 {B : Nat → Nat} {n p p2 : Nat} {D : Bool} {v : sp_I} (hB : ∀ i, B i < 256) (q : sp_in B n D p = .inr (v, p2)) : v.1 = 210 ↔ B p = 210 := by
  constructor
  · intro h3
    by_cases cz : B p = 252
    · obtain ⟨k, q1, k17, e1, f1, f2, f3, f4⟩ := fur_k hB (in_252 q cz)
      exfalso
      by_cases k8 : k < 8
      · rw [f1 k8] at h3; have h3 : 200 + k = 210 := h3; omega
      · by_cases k1 : k = 10 ∨ k = 11
        · rw [f2 k1] at h3; have h3 : 300 + k = 210 := h3; omega
        · by_cases k2 : k = 12 ∨ k = 14
          · obtain ⟨x, y, q3, q4, -, -, -, -, ev⟩ := f3 k2; rw [ev] at h3; have h3 : 300 + k = 210 := h3; omega
          · obtain ⟨x, q3, -, -, ev⟩ := f4 (by omega); rw [ev] at h3; have h3 : 300 + k = 210 := h3; omega
    · exact ((in_v1 q).1 cz).symm.trans h3
  · intro h3
    exact ((in_v1 q).1 (by omega)).trans h3
def dcAI (x y : Nat) : Prop := (x = 592 ∧ (y = 19 ∨ y = 21)) ∨ x = 598
abbrev dcF : pm_H → pm_H → Prop := gF dcAI (fun _ _ => False)
theorem dcF_v {m : Nat} {h h' : pm_H} (F : dcF h h') : vF m h h' := gF_m F (fun x y z => by unfold dcAI at z; unfold vAI; omega) (fun x y z => z.elim)
theorem dcF_lk (h : pm_H) (v : Int32) : dcF h (pm_setI h 592 19 v) := gF_I h v (.inl ⟨rfl, .inl rfl⟩)
def vDc (h : pm_H) (S : List Nat) : Prop := ∀ f, f < 128 → pm_I h 598 f = iN (decide (f ∈ S))
theorem vDc_k {h h' : pm_H} {S : List Nat} (k : ∀ f, pm_I h' 598 f = pm_I h 598 f) (q : vDc h S) : vDc h' S := fun f hf => (k f).trans (q f hf)
section VDEC
variable {h : pm_H} {n b m eo el e x : Nat} {B : Nat → Nat} {M : tMd} {D : Bool} {S : List Nat}
theorem v_dec (C : vC h n b m eo el B M) (hx : x < 4294967296) (q : vDc h S) : ∃ r, fX16_declare h 592 (Int64.ofNat x) = some r ∧ dcF h r ∧ (∀ y, pm_I r 592 y = pm_I h 592 y) ∧ vDc r (S ++ [x]) := by
  obtain ⟨r1, r2, r3⟩ := C.2.2.2.1.1
  unfold fX16_declare
  by_cases c : 128 ≤ x
  · refine ⟨h, e9_t (show Int64.ofNat 128 ≤ Int64.ofNat x by rw [ll_le (by decide) (by omega)]; exact c) rfl, gF_r _ _ h, fun _ => rfl, fun f hf => ?_⟩
    rw [q f hf]
    refine congrArg iN (decide_eq_decide.mpr ⟨fun z => List.mem_append_left _ z, fun z => ?_⟩)
    rcases List.mem_append.mp z with z | z
    · exact z
    · have := List.mem_singleton.mp z; omega
  · refine ⟨pm_setI h 598 x 1, e9_f (show ¬ Int64.ofNat 128 ≤ Int64.ofNat x by rw [ll_le (by decide) (by omega)]; exact c) (e9_t C.1.1 (e9_b r1 (e9_t r2 (e9_t (by rw [ll_t3, r3, nn_in (by omega)]; omega) ?_)))), gF_I h _ (.inr rfl), fun y => by rw [ev_II, if_neg (by decide)], fun f hf => ?_⟩
    · rw [ll_t3, nn_cm (by omega)]
      rfl
    · rw [ev_II, if_pos rfl]
      by_cases z : f = x
      · rw [if_pos z, decide_eq_true (List.mem_append_right _ (List.mem_singleton.mpr z))]
        rfl
      · rw [if_neg z, q f hf]
        refine congrArg iN (decide_eq_decide.mpr ⟨fun z => List.mem_append_left _ z, fun y => ?_⟩)
        rcases List.mem_append.mp y with y | y
        · exact y
        · exact absurd (List.mem_singleton.mp y) z
theorem v_dci : ∀ (N k p : Nat) {h : pm_H} {S : List Nat}, vC h n b m eo el B M → pm_I h 592 21 = Int32.ofNat k → vDc h S → eY B n D k p e → n + 1 ≤ p + N → k ≤ p → ∃ r, pm_lim sX16_declaresIn (.inl (592, Int32.ofNat p, h)) = some r ∧ dcF h r ∧ pm_I r 592 19 = Int32.ofNat e ∧ pm_I r 592 21 = Int32.ofNat 0 ∧ vDc r (S ++ (dRun B n D N k p).1) ∧ (dRun B n D N k p).2 = e := by
  intro N
  induction N with
  | zero =>
    intro k p h S C h21 q E hN hk
    obtain ⟨v, p2, e1, u1, u2, -⟩ := eY_step E
    omega
  | succ N ih =>
    intro k p h S C h21 q E hN hk
    have hB := C.1.2.2.2.2.2.2.2.2.2
    have n4 := C.1.2.2.2.2.2.2.1
    obtain ⟨v, p2, e1, u1, u2, E2⟩ := eY_step E
    have pn := in_lt e1
    have b8 := hB p
    have v11 := in_e hB e1 (c := 11) (by decide) (by decide)
    have v210 := in_e2 hB e1
    have v2 : (2 ≤ v.1 ∧ v.1 ≤ 4) ↔ (2 ≤ B p ∧ B p ≤ 4) := by
      have h2 := in_e hB e1 (c := 2) (by decide) (by decide)
      have h3 := in_e hB e1 (c := 3) (by decide) (by decide)
      have h4 := in_e hB e1 (c := 4) (by decide) (by decide)
      omega
    have dr : dRun B n D (N + 1) k p = if v.1 = 11 ∧ k = 0 then ([], p + 1) else ((if v.1 = 210 then v.2.1.toNatClampNeg :: (dRun B n D N (if 2 ≤ v.1 ∧ v.1 ≤ 4 then k + 1 else if v.1 = 11 then k - 1 else k) p2).1 else (dRun B n D N (if 2 ≤ v.1 ∧ v.1 ≤ 4 then k + 1 else if v.1 = 11 then k - 1 else k) p2).1), (dRun B n D N (if 2 ≤ v.1 ∧ v.1 ≤ 4 then k + 1 else if v.1 = 11 then k - 1 else k) p2).2) := by
      rw [dRun, e1]
    rcases E2 with ⟨c1, c2, c3⟩ | ⟨c1, E2⟩
    · have p21 : p2 = p + 1 := by
        obtain ⟨-, z⟩ := in_c e1
        rw [if_pos (.inr (v11.mp c1))] at z
        cases z
        rfl
      refine ⟨pm_setI h 592 19 (Int32.ofNat (p + 1)), ?_, dcF_lk h _, ?_, ?_, ?_, ?_⟩
      · refine k_w (aX16_declaresIn_0 ..) ?_
        unfold tX16_declaresIn_2
        refine k_t C.1.1 (k_b C.1.2.1 (k_t C.1.2.2.1 (k_b (mw_at C.1 pn) (k_t (by rw [v11.mp c1]; rfl) (k_t (by rw [h21, c2]; decide) (k_l ?_))))))
        rw [show Int32.ofNat p + 1 = Int32.ofNat (p + 1) from nn_ad _ 1]
        rfl
      · rw [lk_19, c3, p21]
      · rw [ev_II, if_pos rfl, if_neg (by decide), h21, c2]
      · rw [dr, if_pos ⟨c1, c2⟩, List.append_nil]
        exact vDc_k (fun f => by rw [ev_II, if_neg (by decide)]) q
      · rw [dr, if_pos ⟨c1, c2⟩, c3, p21]
    · obtain ⟨k', ek⟩ : ∃ z, z = (if 2 ≤ v.1 ∧ v.1 ≤ 4 then k + 1 else if v.1 = 11 then k - 1 else k) := ⟨_, rfl⟩
      have kp : k' ≤ p2 := by
        rw [ek]
        split
        · omega
        · split <;> omega
      rw [if_neg c1] at dr
      rw [← ek] at dr E2
      -- to the third state
      have d61 : ∃ z : Int32, Int32.ofNat k + z = Int32.ofNat k' ∧ pm_lim sX16_declaresIn (.inl (592, Int32.ofNat p, h)) = pm_lim sX16_declaresIn (.inr (.inr (.inr (592, Int32.ofNat p, Int32.ofNat (B p), z, Int32.ofNat k, 592, h)))) := by
        have st0 : pm_lim sX16_declaresIn (.inl (592, Int32.ofNat p, h)) = pm_lim sX16_declaresIn (.inr (.inl (592, Int32.ofNat p, h))) := by
          refine k_w (aX16_declaresIn_0 ..) ?_
          unfold tX16_declaresIn_2
          refine k_t C.1.1 (k_b C.1.2.1 (k_t C.1.2.2.1 (k_b (mw_at C.1 pn) ?_)))
          by_cases z : B p = 11
          · refine k_t (by rw [z]; rfl) (k_f ?_ rfl)
            rw [h21, n3_0, nn_le (by omega) (by decide)]
            have : ¬ k = 0 := fun y => c1 ⟨v11.mpr z, y⟩
            omega
          · exact k_f (show ¬ Int32.ofNat (B p) = Int32.ofNat 11 by rw [nn_eq (by omega) (by decide)]; exact z) rfl
        rw [st0]
        by_cases z2 : 2 ≤ B p ∧ B p ≤ 4
        · refine ⟨1, ?_, ?_⟩
          · rw [ek, if_pos (v2.mpr z2)]; exact nn_ad _ 1
          · refine k_w (aX16_declaresIn_1 ..) ?_
            unfold tX16_declaresIn_22
            refine k_t C.1.1 (k_b C.1.2.1 (k_t C.1.2.2.1 (k_b (mw_at C.1 pn) (k_f (show ¬ Int32.ofNat (B p) < Int32.ofNat 2 by rw [nn_lt (by omega) (by decide)]; omega) (k_f (show ¬ Int32.ofNat 4 < Int32.ofNat (B p) by rw [nn_lt (by decide) (by omega)]; omega) ?_)))))
            rw [h21]
            rfl
        · have st1 : pm_lim sX16_declaresIn (.inr (.inl (592, Int32.ofNat p, h))) = pm_lim sX16_declaresIn (.inr (.inr (.inl (592, Int32.ofNat p, Int32.ofNat (B p), Int32.ofNat k, 592, h)))) := by
            refine k_w (aX16_declaresIn_1 ..) ?_
            unfold tX16_declaresIn_22
            refine k_t C.1.1 (k_b C.1.2.1 (k_t C.1.2.2.1 (k_b (mw_at C.1 pn) ?_)))
            rw [h21]
            by_cases z : B p < 2
            · exact k_t (show Int32.ofNat (B p) < Int32.ofNat 2 by rw [nn_lt (by omega) (by decide)]; exact z) rfl
            · exact k_f (show ¬ Int32.ofNat (B p) < Int32.ofNat 2 by rw [nn_lt (by omega) (by decide)]; omega) (k_t (show Int32.ofNat 4 < Int32.ofNat (B p) by rw [nn_lt (by decide) (by omega)]; omega) rfl)
          rw [st1]
          by_cases z : B p = 11
          · refine ⟨-1, ?_, ?_⟩
            · rw [ek, if_neg (fun y => z2 (v2.mp y)), if_pos (v11.mpr z), dn_s]
              have : ¬ k = 0 := fun y => c1 ⟨v11.mpr z, y⟩
              exact nn_s1 (by omega)
            · refine k_w (aX16_declaresIn_2 ..) ?_
              unfold tX16_declaresIn_50
              exact k_t (by rw [z]; rfl) rfl
          · refine ⟨0, ?_, ?_⟩
            · rw [ek, if_neg (fun y => z2 (v2.mp y)), if_neg (fun y => z (v11.mp y))]
              exact nn_ad _ 0
            · refine k_w (aX16_declaresIn_2 ..) ?_
              unfold tX16_declaresIn_50
              exact k_f (show ¬ Int32.ofNat (B p) = Int32.ofNat 11 by rw [nn_eq (by omega) (by decide)]; exact z) rfl
      obtain ⟨z, ez, e61⟩ := d61
      rw [e61, dr]
      obtain ⟨h1, eh1⟩ : ∃ y, y = pm_setI h 592 21 (Int32.ofNat k') := ⟨_, rfl⟩
      have F1 : dcF h h1 := by rw [eh1]; exact gF_I h _ (.inl ⟨rfl, .inr rfl⟩)
      have C1 := vC_F C (dcF_v (m := m) F1)
      have q1 : vDc h1 S := vDc_k (fun f => by rw [eh1, ev_II, if_neg (by decide)]) q
      have i21 : pm_I h1 592 21 = Int32.ofNat k' := by rw [eh1, ev_II, if_pos rfl, if_pos rfl]
      have eadd : Int32.ofNat p + 1 = Int32.ofNat (p + 1) := nn_ad _ 1
      by_cases c210 : B p = 210
      · obtain ⟨x, hx, f1, ev⟩ := in_1 hB e1 (by omega)
        have ex : v.2.1.toNatClampNeg = x := by rw [ev]; exact ll_cm (by omega)
        have C2 := vC_lk C1 p2
        have q2 : vDc (lk h1 p2) S := vDc_k (fun f => lk_I (by decide)) q1
        obtain ⟨r, er, Fr, kr, qr⟩ := v_dec C2 hx q2
        have C3 := vC_F C2 (dcF_v (m := m) Fr)
        have F3 : dcF h (lk r p2) := gF_t (gF_t (gF_t F1 (dcF_lk h1 _)) Fr) (dcF_lk r _)
        have i3 : pm_I (lk r p2) 592 21 = Int32.ofNat k' := by rw [lk_y (by decide), kr, lk_y (by decide)]; exact i21
        obtain ⟨r', er', F', g1, g2, g3, g4⟩ := ih k' p2 (vC_lk C3 p2) i3 (vDc_k (fun f => lk_I (by decide)) qr) E2 (by omega) kp
        refine ⟨r', ?_, gF_t F3 F', g1, g2, ?_, g4⟩
        · refine k_w (aX16_declaresIn_3 ..) ?_
          unfold tX16_declaresIn_61
          rw [ez]
          refine k_l (k_t C.1.1 (k_l ?_))
          rw [← eh1, eadd]
          refine k_t C1.1.1 (k_t (by rw [c210]; rfl) (k_b (mw_word C1.1 (Nat.le_refl n) f1) (k_t C2.1.1 (k_b er (k_t C3.1.1 (k_b (mw_behind C3.1 (Nat.le_refl n) e1) (k_n er')))))))
        · rw [if_pos (v210.mpr c210), ex]
          show vDc r' (S ++ ([x] ++ _))
          rw [← List.append_assoc]
          exact g3
      · have C2 := vC_lk C1 (p + 1)
        have F3 : dcF h (lk h1 p2) := gF_t F1 (dcF_lk h1 _)
        have i3 : pm_I (lk h1 p2) 592 21 = Int32.ofNat k' := (lk_y (by decide)).trans i21
        obtain ⟨r', er', F', g1, g2, g3, g4⟩ := ih k' p2 (vC_lk C1 p2) i3 (vDc_k (fun f => lk_I (by decide)) q1) E2 (by omega) kp
        refine ⟨r', ?_, gF_t F3 F', g1, g2, ?_, g4⟩
        · refine k_w (aX16_declaresIn_3 ..) ?_
          unfold tX16_declaresIn_61
          rw [ez]
          refine k_l (k_t C.1.1 (k_l ?_))
          rw [← eh1, eadd]
          refine k_t C1.1.1 (k_f (show ¬ Int32.ofNat (B p) = Int32.ofNat 210 by rw [nn_eq (by omega) (by decide)]; exact c210) (k_b (mw_behind_lk C1.1 (Nat.le_refl n) (p + 1) e1) (k_n er')))
        · rw [if_neg (fun y => c210 (v210.mp y))]
          exact g3
theorem v_dce (C : vC h n b m eo el B M) (h21 : pm_I h 592 21 = Int32.ofNat 0) (q : vDc h S) {p : Nat} {w : tWr} {ob : Bool} {N : Nat} (E : sp_ex B n D ob N [] p = .inr (w, e)) : ∃ r, fX16_declaresIn h 592 (Int32.ofNat p) = some r ∧ dcF h r ∧ pm_I r 592 19 = Int32.ofNat e ∧ pm_I r 592 21 = Int32.ofNat 0 ∧ vDc r (S ++ (dEx B n D p).1) ∧ (dEx B n D p).2 = e :=
  v_dci (n + 1) 0 p C h21 q ⟨ob, N, [], w, E, rfl⟩ (by omega) (Nat.zero_le _)
end VDEC
