/-! THE REFERENCE CHECKS: isNamed, whole -/
theorem k_ia : ∀ c : Fin 256, fX16_isAccess (Int32.ofNat c.val) = if 40 ≤ c.val ∧ c.val ≤ 62 then 1 else 0 := by decide +kernel
theorem cls11 {x : Nat} (h : sp_cls x = 11) : x = 252 := by
  unfold sp_cls at h
  repeat' (split at h)
  all_goals omega
section VISN
variable {h : pm_H} {n b m eo el p p2 b' t : Nat} {B : Nat → Nat} {M : tMd} {K : tK} {D : Bool} {Dc : Nat → Bool} {a : tBo} {v : sp_I}
theorem in_v1 (q : sp_in B n D p = .inr (v, p2)) : (B p ≠ 252 → v.1 = B p) ∧ (sp_cls (B p) ≠ 12 ∨ (2 ≤ B p ∧ B p ≤ 5) ∨ B p = 11) := by
  obtain ⟨-, e⟩ := in_c q
  by_cases c : B p = 5 ∨ B p = 11
  · rw [if_pos c] at e; cases e; exact ⟨fun _ => rfl, by omega⟩
  rw [if_neg c] at e
  by_cases c2 : 2 ≤ B p ∧ B p ≤ 4
  · rw [if_pos c2] at e
    obtain ⟨t, p3, e1, e2⟩ := b_inv e
    cases e2
    exact ⟨fun _ => rfl, by omega⟩
  rw [if_neg c2] at e
  unfold sp_ops at e
  by_cases k0 : sp_cls (B p) = 0
  · rw [if_pos k0] at e
    cases e; exact ⟨fun _ => rfl, .inl (by omega)⟩
  rw [if_neg k0] at e
  by_cases k1 : sp_cls (B p) = 1
  · rw [if_pos k1] at e
    obtain ⟨x0, y0, z0, f0⟩ := b_inv e
    cases f0; exact ⟨fun _ => rfl, .inl (by omega)⟩
  rw [if_neg k1] at e
  by_cases k2 : sp_cls (B p) = 2
  · rw [if_pos k2] at e
    obtain ⟨x0, y0, z0, f0⟩ := b_inv e
    obtain ⟨x1, y1, z1, f1⟩ := b_inv f0
    cases f1; exact ⟨fun _ => rfl, .inl (by omega)⟩
  rw [if_neg k2] at e
  by_cases k3 : sp_cls (B p) = 3
  · rw [if_pos k3] at e
    obtain ⟨x0, y0, z0, f0⟩ := b_inv e
    obtain ⟨x1, y1, z1, f1⟩ := b_inv f0
    cases f1; exact ⟨fun _ => rfl, .inl (by omega)⟩
  rw [if_neg k3] at e
  by_cases k4 : sp_cls (B p) = 4
  · rw [if_pos k4] at e
    obtain ⟨x0, y0, z0, f0⟩ := b_inv e
    obtain ⟨x1, y1, z1, f1⟩ := b_inv f0
    cases f1; exact ⟨fun _ => rfl, .inl (by omega)⟩
  rw [if_neg k4] at e
  by_cases k5 : sp_cls (B p) = 5
  · rw [if_pos k5] at e
    obtain ⟨x0, y0, z0, f0⟩ := b_inv e
    cases f0; exact ⟨fun _ => rfl, .inl (by omega)⟩
  rw [if_neg k5] at e
  by_cases k6 : sp_cls (B p) = 6
  · rw [if_pos k6] at e
    obtain ⟨x0, y0, z0, f0⟩ := b_inv e
    cases f0; exact ⟨fun _ => rfl, .inl (by omega)⟩
  rw [if_neg k6] at e
  by_cases k7 : sp_cls (B p) = 7
  · rw [if_pos k7] at e
    obtain ⟨x0, y0, z0, f0⟩ := b_inv e
    cases f0; exact ⟨fun _ => rfl, .inl (by omega)⟩
  rw [if_neg k7] at e
  by_cases k8 : sp_cls (B p) = 8
  · rw [if_pos k8] at e
    obtain ⟨x0, y0, z0, f0⟩ := b_inv e
    cases f0; exact ⟨fun _ => rfl, .inl (by omega)⟩
  rw [if_neg k8] at e
  by_cases k9 : sp_cls (B p) = 9
  · rw [if_pos k9] at e
    obtain ⟨x0, y0, z0, f0⟩ := b_inv e
    cases f0; exact ⟨fun _ => rfl, .inl (by omega)⟩
  rw [if_neg k9] at e
  by_cases k10 : sp_cls (B p) = 10
  · rw [if_pos k10] at e
    obtain ⟨x0, y0, z0, f0⟩ := b_inv e
    cases f0; exact ⟨fun _ => rfl, .inl (by omega)⟩
  rw [if_neg k10] at e
  by_cases k11 : sp_cls (B p) = 11
  · exact ⟨fun z => absurd (cls11 k11) z, .inl (by omega)⟩
  rw [if_neg k11] at e
  cases e
theorem cls_no {x : Nat} (h : sp_cls x ≠ 12) : x < 2 ∨ (12 ≤ x ∧ x ≤ 17) ∨ (26 ≤ x ∧ x ≤ 28) ∨ (32 ≤ x ∧ x ≤ 38) ∨ (40 ≤ x ∧ x ≤ 196) ∨ (208 ≤ x ∧ x ≤ 210) ∨ x = 252 := by
  by_cases c : x < 2 ∨ (12 ≤ x ∧ x ≤ 17) ∨ (26 ≤ x ∧ x ≤ 28) ∨ (32 ≤ x ∧ x ≤ 38) ∨ (40 ≤ x ∧ x ≤ 196) ∨ (208 ≤ x ∧ x ≤ 210) ∨ x = 252
  · exact c
  · refine absurd ?_ h
    unfold sp_cls
    rw [if_neg (by omega), if_neg (by omega), if_neg (by omega), if_neg (by omega), if_neg (by omega), if_neg (by omega), if_neg (by omega), if_neg (by omega), if_neg (by omega), if_neg (by omega), if_neg (by omega), if_neg (by omega)]
theorem dLen (C : vC h n b m eo el B M) (T : vTy M) (ht : t < M.1.length) : pm_I h (m + 2) t = Int32.ofNat (btP M (Int64.ofNat t)).length := by
  have T1 := T.1
  have PT := C.2.2.1.1.1 _ _ (List.getElem?_eq_getElem ht) (by omega)
  have g := T.2 _ (List.getElem_mem ht)
  have q := PT.1
  unfold m16 at q
  rw [if_pos g.2.1] at q
  rw [(bt_i (M := M) ht (by omega)).1]
  exact q
theorem v_isM {lt : Nat → Option Nat} (C : vC h n b m eo el B M) (W : wfK M K) (G : vG B n D M) (Q8 : ∀ f, f < 128 → pm_I h 598 f = iN (Dc f)) (q : sp_in B n D p = .inr (v, p2)) (c1 : ¬ (2 ≤ B p ∧ B p ≤ 4)) (c2 : ¬ (12 ≤ B p ∧ B p ≤ 14 ∨ B p = 16 ∨ B p = 17)) (c3 : ¬ (32 ≤ B p ∧ B p ≤ 34)) : ∃ x, pm_lim sX16_isNamed (.inr (.inl (592, Int32.ofNat (B p), lk h (p + 1)))) = some (iN (kNm B n M Dc lt v K), lk h x) := by
  have hB := C.1.2.2.2.2.2.2.2.2.2
  have n4 := C.1.2.2.2.2.2.2.1
  have pn := in_lt q
  have b8 := hB p
  have L := vG_L G
  have SL := sp_len L
  have hK := G.1.2.1
  have hG : ∀ a, a ∈ M.2.2.2.2.2.1 → a.2.1 ≤ 1 := fun a ha => (G.1.2.2.2.2.2.1 a ha).2.1
  obtain ⟨v1, cl⟩ := in_v1 q
  have N : ∀ j, j < 1000 → B p ≠ j → ¬ Int32.ofNat (B p) = Int32.ofNat j := fun j hj z => by rw [nn_eq (by omega) (by omega)]; exact z
  have E : ∀ j, B p = j → Int32.ofNat (B p) = Int32.ofNat j := fun j z => by rw [z]
  have all := fun x => v_all (vC_lk C x) L hK
  have ia := k_ia ⟨B p, b8⟩
  have ia' : ¬ (40 ≤ B p ∧ B p ≤ 62) → fX16_isAccess (Int32.ofNat (B p)) = 0 := fun z => by rw [ia, if_neg z]
  by_cases c35 : B p = 35 ∨ B p = 36
  · obtain ⟨x, hx, e1, ev⟩ := in_1 hB q (by omega)
    have ex : v.2.1.toNatClampNeg = x := by rw [ev]; exact ll_cm (by omega)
    have e9 : v.1 = B p := by rw [ev]
    refine ⟨p2, k_w (aX16_isNamed_1 ..) ?_⟩
    unfold tX16_isNamed_290
    rw [nm_s (by omega), ex, sg_glo (by omega), e9]
    cases ez : (spG M)[x]? with
    | none =>
      have d : (spG M).length ≤ x := List.getElem?_eq_none_iff.mp ez
      have dd : (Int32.ofNat (spG M).length).toInt64 ≤ Int64.ofNat x := by rw [nn_t6 (by omega), ll_le (by omega) (by omega)]; exact d
      rcases c35 with c | c
      · exact k_t (E 35 c) (k_t C.1.1 (k_b (mw_word C.1 (Nat.le_refl n) e1) (k_t C.1.1 (k_b C.1.2.1 (k_t C.1.2.2.1 (k_b (all p2).2.2.2 (k_t dd rfl)))))))
      · exact k_f (N 35 (by decide) (by omega)) (k_t (E 36 c) (k_t C.1.1 (k_b (mw_word C.1 (Nat.le_refl n) e1) (k_t C.1.1 (k_b C.1.2.1 (k_t C.1.2.2.1 (k_b (all p2).2.2.2 (k_t dd rfl))))))))
    | some g =>
      have d := some_lt ez
      have dd : ¬ (Int32.ofNat (spG M).length).toInt64 ≤ Int64.ofNat x := by rw [nn_t6 (by omega), ll_le (by omega) (by omega)]; omega
      obtain ⟨-, g2, g3⟩ := v_tyG (vC_lk C p2) L hK hG ez
      rcases c35 with c | c
      · refine k_t (E 35 c) (k_t C.1.1 (k_b (mw_word C.1 (Nat.le_refl n) e1) (k_t C.1.1 (k_b C.1.2.1 (k_t C.1.2.2.1 (k_b (all p2).2.2.2 (k_f dd (k_t (E 35 c) ?_))))))))
        show _ = some (iN (Option.isSome (if B p = 35 then some (0, 0, 0, g.1.2.1) else _)), lk h p2)
        rw [if_pos c]
        rfl
      · refine k_f (N 35 (by decide) (by omega)) (k_t (E 36 c) (k_t C.1.1 (k_b (mw_word C.1 (Nat.le_refl n) e1) (k_t C.1.1 (k_b C.1.2.1 (k_t C.1.2.2.1 (k_b (all p2).2.2.2 (k_f dd (k_f (N 35 (by decide) (by omega)) ?_)))))))))
        rw [ll_t3]
        refine k_b g2 ?_
        show _ = some (iN (Option.isSome (if B p = 35 then some (0, 0, 0, g.1.2.1) else if g.1.2.2.2.2 = 0 then none else some (g.1.2.1, 0, 0, 0))), lk h p2)
        rw [if_neg (show ¬ B p = 35 by omega)]
        by_cases z : g.1.2.2.2.2 = 0
        · rw [if_pos z]; exact k_t (by rw [z]; rfl) rfl
        · rw [if_neg z]; exact k_f (show ¬ Int32.ofNat g.1.2.2.2.2 = Int32.ofNat 0 by rw [nn_eq (by omega) (by decide)]; exact z) rfl
  by_cases c37 : B p = 37 ∨ B p = 38
  · obtain ⟨x, hx, e1, ev⟩ := in_1 hB q (by omega)
    have ex : v.2.1.toNatClampNeg = x := by rw [ev]; exact ll_cm (by omega)
    have e9 : v.1 = B p := by rw [ev]
    refine ⟨p2, k_w (aX16_isNamed_1 ..) ?_⟩
    unfold tX16_isNamed_290
    have en : kNm B n M Dc lt v K = decide (x < (spT M).length) := by
      rw [nm_s (by omega), ex, sg_tab (by omega), ← some_d]
      cases (spT M)[x]? with
      | none => rfl
      | some t =>
        show Option.isSome (if v.1 = 37 then some (127, 0, 0, t.2.1) else some (t.2.1, 127, 0, 0)) = true
        split <;> rfl
    rw [en]
    have r := k_cmp (s := sX16_isNamed) (lk h p2) (nn_t6 (show (spT M).length < 2147483648 by omega)) (rfl : Int64.ofNat x = _) (by omega) hx
    rcases c37 with c | c
    · exact k_f (N 35 (by decide) (by omega)) (k_f (N 36 (by decide) (by omega)) (k_t (E 37 c) (k_t C.1.1 (k_b (mw_word C.1 (Nat.le_refl n) e1) (k_t C.1.1 (k_b C.1.2.1 (k_t C.1.2.2.1 (k_b (all p2).2.1 r))))))))
    · exact k_f (N 35 (by decide) (by omega)) (k_f (N 36 (by decide) (by omega)) (k_f (N 37 (by decide) (by omega)) (k_t (E 38 c) (k_t C.1.1 (k_b (mw_word C.1 (Nat.le_refl n) e1) (k_t C.1.1 (k_b C.1.2.1 (k_t C.1.2.2.1 (k_b (all p2).2.1 r)))))))))
  by_cases cA : 40 ≤ B p ∧ B p ≤ 62
  · obtain ⟨x, y, p1, hx, hy, e1, e2, ev⟩ := in_2 hB q (by omega)
    have ex : v.2.1.toNatClampNeg = x := by rw [ev]; exact ll_cm (by omega)
    have e9 : v.1 = B p := by rw [ev]
    refine ⟨p1, k_w (aX16_isNamed_1 ..) ?_⟩
    unfold tX16_isNamed_290
    obtain ⟨wd, wl⟩ := v_wid ⟨B p, b8⟩
    have wd : fX16_widthOf (Int32.ofNat (B p)) = Int32.ofNat (kWid (B p)) := wd
    have wl : kWid (B p) ≤ 3 := wl
    have en : kNm B n M Dc lt v K = (!decide (kWid (B p) < x) && decide (0 < (spM M).length)) := by
      rw [nm_s (by omega), ex, sg_acc (by omega), e9]
      by_cases z : kWid (B p) < x
      · rw [if_pos (.inr z), decide_eq_true z]; rfl
      · by_cases w : (spM M).length = 0
        · rw [if_pos (.inl w), decide_eq_false z, decide_eq_false (by omega)]; rfl
        · rw [if_neg (fun y => y.elim w z), decide_eq_false z, decide_eq_true (by omega)]
          split <;> rfl
    rw [en]
    refine k_f (N 35 (by decide) (by omega)) (k_f (N 36 (by decide) (by omega)) (k_f (N 37 (by decide) (by omega)) (k_f (N 38 (by decide) (by omega)) (k_l (k_f (by rw [ia]; show ¬ (if 40 ≤ B p ∧ B p ≤ 62 then (1 : Int32) else 0) = 0; rw [if_pos cA]; decide) (k_t C.1.1 (k_b (mw_word C.1 (Nat.le_refl n) e1) (k_l ?_))))))))
    rw [wd]
    by_cases z : kWid (B p) < x
    · rw [decide_eq_true z]
      exact k_t (by rw [nn_t6 (by omega), ll_lt (by omega) (by omega)]; exact z) rfl
    · rw [decide_eq_false z]
      refine k_f (by rw [nn_t6 (by omega), ll_lt (by omega) (by omega)]; exact z) (k_t C.1.1 (k_b C.1.2.1 (k_t C.1.2.2.1 (k_b (all p1).2.2.1 ?_))))
      exact k_ps (lk h p1) rfl (show (spM M).length < 2147483648 by omega)
  by_cases cm : B p = 63 ∨ B p = 64
  · have e9 : v.1 = B p := v1 (by omega)
    refine ⟨p + 1, k_w (aX16_isNamed_1 ..) ?_⟩
    unfold tX16_isNamed_290
    rw [nm_s (by omega), sg_mem (by omega), e9]
    have en : Option.isSome (if (spM M).length = 0 then none else if B p = 63 then some (0, 0, 0, 127) else some (127, 0, 0, 127)) = decide (0 < (spM M).length) := by
      by_cases w : (spM M).length = 0
      · rw [if_pos w, decide_eq_false (by omega)]; rfl
      · rw [if_neg w, decide_eq_true (by omega)]
        split <;> rfl
    rw [en]
    have r := k_ps (s := sX16_isNamed) (lk h (p + 1)) (rfl : Int32.ofNat (spM M).length = _) (by omega)
    refine k_f (N 35 (by decide) (by omega)) (k_f (N 36 (by decide) (by omega)) (k_f (N 37 (by decide) (by omega)) (k_f (N 38 (by decide) (by omega)) (k_l (k_t (ia' cA) ?_)))))
    rcases cm with c | c
    · exact k_t (E 63 c) (k_t C.1.1 (k_b C.1.2.1 (k_t C.1.2.2.1 (k_b (all (p + 1)).2.2.1 r))))
    · exact k_f (N 63 (by decide) (by omega)) (k_t (E 64 c) (k_t C.1.1 (k_b C.1.2.1 (k_t C.1.2.2.1 (k_b (all (p + 1)).2.2.1 r)))))
  by_cases c210 : B p = 210
  · obtain ⟨x, hx, e1, ev⟩ := in_1 hB q (by omega)
    have ex : v.2.1.toNatClampNeg = x := by rw [ev]; exact ll_cm (by omega)
    have e9 : v.1 = B p := by rw [ev]
    refine ⟨p2, k_w (aX16_isNamed_1 ..) ?_⟩
    unfold tX16_isNamed_290
    have en : kNm B n M Dc lt v K = (decide (x < (spF M).length) && Dc x) := by
      rw [nm_s (by omega), ex, sg_210 (by omega)]
      by_cases z : x < (spF M).length
      · rw [decide_eq_true z]
        cases Dc x with
        | true => rw [if_pos ⟨z, rfl⟩]; rfl
        | false => rw [if_neg (fun y => by cases y.2)]; rfl
      · rw [if_neg (fun y => z y.1), decide_eq_false z]; rfl
    rw [en]
    refine k_f (N 35 (by decide) (by omega)) (k_f (N 36 (by decide) (by omega)) (k_f (N 37 (by decide) (by omega)) (k_f (N 38 (by decide) (by omega)) (k_l (k_t (ia' cA) (k_f (N 63 (by decide) (by omega)) (k_f (N 64 (by decide) (by omega)) (k_t (E 210 c210) (k_t C.1.1 (k_b (mw_word C.1 (Nat.le_refl n) e1) (k_t C.1.1 (k_b C.1.2.1 (k_t C.1.2.2.1 (k_b (all p2).1 ?_))))))))))))))
    by_cases z : x < (spF M).length
    · obtain ⟨r1, r2, r3⟩ := C.2.2.2.1.1
      have i8 : pm_I (lk h p2) 598 (Int64.ofNat x).toInt32.toNatClampNeg = iN (Dc x) := by rw [lk_I (by decide), ll_t3, nn_cm (by omega)]; exact Q8 x (by omega)
      refine k_f (by rw [nn_t6 (by omega), ll_le (by omega) (by omega)]; omega) (k_b r1 (k_t r2 (k_t (show pm_in (Int64.ofNat x).toInt32 (pm_ln h 598) by rw [ll_t3, r3, nn_in (by omega)]; omega) ?_)))
      show ev_k sX16_isNamed (if pm_I (lk h p2) 598 (Int64.ofNat x).toInt32.toNatClampNeg = 0 then _ else _) = _
      rw [i8]
      rw [decide_eq_true z]
      cases ed : Dc x with
      | true => exact k_f (show ¬ iN true = 0 by decide) rfl
      | false => exact k_t rfl rfl
    · rw [decide_eq_false z]
      exact k_t (by rw [nn_t6 (by omega), ll_le (by omega) (by omega)]; omega) rfl
  by_cases c252 : B p = 252
  · obtain ⟨x, hx⟩ := v_fur (Dc := Dc) (lt := lt) C G (in_252 q c252) K
    refine ⟨x, k_w (aX16_isNamed_1 ..) ?_⟩
    unfold tX16_isNamed_290
    refine k_f (N 35 (by decide) (by omega)) (k_f (N 36 (by decide) (by omega)) (k_f (N 37 (by decide) (by omega)) (k_f (N 38 (by decide) (by omega)) (k_l (k_t (ia' cA) (k_f (N 63 (by decide) (by omega)) (k_f (N 64 (by decide) (by omega)) (k_f (N 210 (by decide) (by omega)) (k_t (E 252 c252) (k_t C.1.1 (k_b hx ?_)))))))))))
    cases kNm B n M Dc lt v K with
    | true => exact k_f (show ¬ iN true = 0 by decide) rfl
    | false => exact k_t rfl rfl
  have e9 : v.1 = B p := v1 c252
  have en : kNm B n M Dc lt v K = true := by
    have k := cl
    by_cases z : B p = 28 ∨ (69 ≤ B p ∧ B p ≤ 196)
    · rw [nm_s (by omega)]
      rcases z with z | z
      · rw [sg_28 (by omega)]; rfl
      · rw [sg_opr (by omega)]; rfl
    · have : B p < 2 ∨ (12 ≤ B p ∧ B p ≤ 17) ∨ (26 ≤ B p ∧ B p ≤ 28) ∨ (32 ≤ B p ∧ B p ≤ 38) ∨ (40 ≤ B p ∧ B p ≤ 196) ∨ (208 ≤ B p ∧ B p ≤ 210) ∨ B p = 252 ∨ (2 ≤ B p ∧ B p ≤ 5) ∨ B p = 11 := by
        rcases k with k | k | k
        · have := cls_no k; omega
        · omega
        · omega
      exact nm_1 (by omega)
  refine ⟨p + 1, k_w (aX16_isNamed_1 ..) ?_⟩
  unfold tX16_isNamed_290
  rw [en]
  exact k_f (N 35 (by decide) (by omega)) (k_f (N 36 (by decide) (by omega)) (k_f (N 37 (by decide) (by omega)) (k_f (N 38 (by decide) (by omega)) (k_l (k_t (ia' cA) (k_f (N 63 (by decide) (by omega)) (k_f (N 64 (by decide) (by omega)) (k_f (N 210 (by decide) (by omega)) (k_f (N 252 (by decide) c252) rfl)))))))))
abbrev lbt (M : tMd) (t : Nat) (a : tBo) : Nat → Option Nat := ltB (btP M (Int64.ofNat t)) a.2.2.2.2.1
theorem v_isN (C : vC h n b m eo el B M) (V : vK h p K) (W : wfK M K) (G : vG B n D M) (Q : vB h m eo el M b' t a Dc) (q : sp_in B n D p = .inr (v, p2)) : ∃ x, fX16_isNamed h 592 (Int32.ofNat p) (Int32.ofNat (B p)) = some (iN (kNm B n M Dc (lbt M t a) v K), lk h x) := by
  have hB := C.1.2.2.2.2.2.2.2.2.2
  have n4 := C.1.2.2.2.2.2.2.1
  have pn := in_lt q
  have b8 := hB p
  have L := vG_L G
  have SL := sp_len L
  have hK := G.1.2.1
  have w5 := W.2.2.2.2
  have V2 := V.2.1
  obtain ⟨Q1, Q2, Q3, Q4, Q5, Q6, Q7, Q8⟩ := Q
  have T := vG_T G
  have N : ∀ j, j < 1000 → B p ≠ j → ¬ Int32.ofNat (B p) = Int32.ofNat j := fun j hj z => by rw [nn_eq (by omega) (by omega)]; exact z
  have E : ∀ j, B p = j → Int32.ofNat (B p) = Int32.ofNat j := fun j z => by rw [z]
  have y1 : Int32.ofNat p + 1 = Int32.ofNat (p + 1) := nn_ad _ 1
  have i24 : ∀ x, (pm_I (lk h x) 592 24).toInt64 = Int64.ofNat K.2.1.length := fun x => by rw [lk_y (by decide), V2, nn_t6 (by omega)]
  have i4 : ∀ x, (pm_I (lk h x) m 4).toInt64 = Int64.ofNat M.1.length := fun x => by
    have z := (vC_lk C x).2.2.1.1.2.1
    rw [k64_i T.1] at z
    rw [z, nn_t6 (by have := T.1; omega)]
  have all := fun x => v_all (vC_lk C x) L hK
  unfold fX16_isNamed
  rw [y1]
  by_cases c24 : 2 ≤ B p ∧ B p ≤ 4
  · obtain ⟨e1, e2⟩ := in_b q c24
    refine ⟨p2, e9_l (e9_t C.1.1 (e9_f (show ¬ Int32.ofNat (B p) < Int32.ofNat 2 by rw [nn_lt (by omega) (by decide)]; omega) (e9_f (show ¬ Int32.ofNat 4 < Int32.ofNat (B p) by rw [nn_lt (by decide) (by omega)]; omega) (e9_b (mw_blk C.1 (Nat.le_refl n) e1) (e9_t C.1.1 (e9_b C.1.2.1 (e9_t C.1.2.2.1 ?_)))))))⟩
    rw [nm_b (by omega)]
    have T1 := T.1
    rcases blk_t e1 with z | ⟨c, hc, z⟩
    · have em : mbt v.2.1 = Int64.ofNat v.2.1.toNatClampNeg := by unfold mbt; rw [if_pos z, i64_nn z]
      have zl : v.2.1.toNatClampNeg < 9223372036854775808 := Int64.toNatClampNeg_lt _
      by_cases w : M.1.length ≤ v.2.1.toNatClampNeg
      · rw [decide_eq_true ⟨z, w⟩]
        exact e9_t (by rw [i4, em, ll_le (by omega) zl]; exact w) rfl
      · rw [decide_eq_false (fun y => w y.2)]
        exact e9_f (by rw [i4, em, ll_le (by omega) zl]; exact w) rfl
    · have c8 : c < 256 := by
        rcases hc with z | z
        · omega
        · have := isT_lt z; omega
      obtain ⟨h1, h2, -⟩ := m_neg ⟨c, c8⟩ hc
      rw [decide_eq_false (fun y => by rw [z] at y; exact h2 y.1)]
      refine e9_f (fun y => h1 ?_) rfl
      rw [← z]
      refine Int64.le_trans ?_ y
      rw [i4, show (0 : Int64) = Int64.ofNat 0 from rfl, ll_le (by decide) (by omega)]
      exact Nat.zero_le _
  suffices H : ∃ x, pm_lim sX16_isNamed (.inl (592, Int32.ofNat (B p), lk h (p + 1))) = some (iN (kNm B n M Dc (lbt M t a) v K), lk h x) by
    obtain ⟨x, hx⟩ := H
    refine ⟨x, e9_l (e9_t C.1.1 ?_)⟩
    by_cases c : B p < 2
    · exact e9_t (show Int32.ofNat (B p) < Int32.ofNat 2 by rw [nn_lt (by omega) (by decide)]; exact c) hx
    · exact e9_f (show ¬ Int32.ofNat (B p) < Int32.ofNat 2 by rw [nn_lt (by omega) (by decide)]; exact c) (e9_t (show Int32.ofNat 4 < Int32.ofNat (B p) by rw [nn_lt (by decide) (by omega)]; omega) hx)
  by_cases c12 : B p = 12 ∨ B p = 13
  · obtain ⟨x, hx, e1, ev⟩ := in_1 hB q (by omega)
    have ex : v.2.1.toNatClampNeg = x := by rw [ev]; exact ll_cm (by omega)
    refine ⟨p2, k_w (aX16_isNamed_0 ..) ?_⟩
    unfold tX16_isNamed_39
    rw [nm_12 (by rw [ev]; show 12 ≤ B p ∧ B p ≤ 13; omega), ex]
    have fin := k_cmp (s := sX16_isNamed) (lk h p2) (i24 p2) (rfl : Int64.ofNat x = _) (by omega) hx
    rcases c12 with c | c
    · exact k_t (E 12 c) (k_t C.1.1 (k_b (mw_word C.1 (Nat.le_refl n) e1) (k_t C.1.1 fin)))
    · exact k_f (N 12 (by decide) (by omega)) (k_t (E 13 c) (k_t C.1.1 (k_b (mw_word C.1 (Nat.le_refl n) e1) (k_t C.1.1 fin))))
  by_cases c14 : B p = 14
  · obtain ⟨x, p1, u, hx, e1, e2, ev⟩ := in_14 hB q c14
    obtain ⟨l, el', -, -⟩ := nums_rows _ _ _ _ e2
    have pl := num_lt e1
    have ex : v.2.1.toNatClampNeg = x := by rw [ev]; exact ll_cm (by omega)
    have ey : v.2.2.1.toNatClampNeg = p1 := by rw [ev]; exact ll_cm (by omega)
    refine ⟨p2, k_w (aX16_isNamed_0 ..) ?_⟩
    unfold tX16_isNamed_39
    refine k_f (N 12 (by decide) (by omega)) (k_f (N 13 (by decide) (by omega)) (k_t (E 14 c14) (k_t C.1.1 (k_b (mw_word C.1 (Nat.le_refl n) e1) (k_n ?_)))))
    rw [nm_14 (by rw [ev]), ex, ey]
    have ed : kDl B n x p1 = l := by unfold kDl; rw [el']
    rw [ed]
    exact v_nums C V W hx (x + 1) 0 p1 p2 l true (by omega) el'
  by_cases c16 : B p = 16
  · obtain ⟨x, hx, e1, ev⟩ := in_1 hB q (by omega)
    have ex : v.2.1.toNatClampNeg = x := by rw [ev]; exact ll_cm (by omega)
    refine ⟨p2, k_w (aX16_isNamed_0 ..) ?_⟩
    unfold tX16_isNamed_39
    rw [nm_16 (by rw [ev]; exact c16), ex]
    exact k_f (N 12 (by decide) (by omega)) (k_f (N 13 (by decide) (by omega)) (k_f (N 14 (by decide) (by omega)) (k_t (E 16 c16) (k_t C.1.1 (k_b (mw_word C.1 (Nat.le_refl n) e1) (k_t C.1.1 (k_b C.1.2.1 (k_t C.1.2.2.1 (k_b (all p2).1 (k_cmp (lk h p2) (nn_t6 (by omega)) rfl (by omega) hx))))))))))
  by_cases c17 : B p = 17
  · obtain ⟨x, y, p1, hx, hy, e1, e2, ev⟩ := in_2 hB q (by omega)
    have ex : v.2.1.toNatClampNeg = x := by rw [ev]; exact ll_cm (by omega)
    have ey : v.2.2.1.toNatClampNeg = y := by rw [ev]; exact ll_cm (by omega)
    have T1 := T.1
    refine ⟨p2, k_w (aX16_isNamed_0 ..) ?_⟩
    unfold tX16_isNamed_39
    rw [nm_17 (by rw [ev]; exact c17), ex, ey]
    refine k_f (N 12 (by decide) (by omega)) (k_f (N 13 (by decide) (by omega)) (k_f (N 14 (by decide) (by omega)) (k_f (N 16 (by decide) (by omega)) (k_t (E 17 c17) (k_t C.1.1 (k_b (mw_word C.1 (Nat.le_refl n) e1) (k_t C.1.1 (k_b (mw_word C.1 (Nat.le_refl n) e2) (k_t C.1.1 (k_b C.1.2.1 (k_t C.1.2.2.1 ?_)))))))))))
    by_cases z : x < M.1.length
    · refine k_f (by rw [i4, ll_le (by omega) (by omega)]; omega) (k_b (all p2).2.1 ?_)
      cases ez : (spT M)[y]? with
      | none =>
        have d : (spT M).length ≤ y := List.getElem?_eq_none_iff.mp ez
        refine k_t (by rw [nn_t6 (by omega), ll_le (by omega) (by omega)]; omega) ?_
        rw [decide_eq_true z]
        rfl
      | some f =>
        have d := some_lt ez
        refine k_f (by rw [nn_t6 (by omega), ll_le (by omega) (by omega)]; omega) ?_
        rw [ll_t3]
        refine k_b (v_tyT (vC_lk C p2) L hK ez) ?_
        have fl : f.2.1 < 4294967296 := by
          rcases app_some (show (ofK 1 M.2.1 ++ M.2.2.2.1.map _)[y]? = some f from ez) with ⟨h1, h2⟩ | ⟨h1, h2⟩
          · exact (hK f (List.mem_filter.mp (show f ∈ M.2.1.filter _ from List.mem_of_getElem? h2)).1).2.1
          · obtain ⟨w, e1, e2⟩ := map_some h2
            rw [← e2]
            exact isR_u (G.1.2.2.2.1 w (List.mem_of_getElem? e1)).1
        have eq : (Int32.ofNat f.2.1 = 112) ↔ f.2.1 = 112 := ⟨fun q => by
          have q3 : f.2.1 % 4294967296 = 112 % 4294967296 := congrArg BitVec.toNat (congrArg Int32.toBitVec q)
          omega, fun q => by rw [q]; rfl⟩
        rw [decide_eq_true z]
        show _ = some (iN (true && decide (f.2.1 = 112)), lk h p2)
        by_cases w : f.2.1 = 112
        · rw [decide_eq_true w]; exact k_t (eq.mpr w) rfl
        · rw [decide_eq_false w]; exact k_f (fun y => w (eq.mp y)) rfl
    · rw [decide_eq_false z]
      exact k_t (by rw [i4, ll_le (by omega) (by omega)]; omega) rfl
  by_cases c32 : 32 ≤ B p ∧ B p ≤ 34
  · obtain ⟨x, hx, e1, ev⟩ := in_1 hB q (by omega)
    have ex : v.2.1.toNatClampNeg = x := by rw [ev]; exact ll_cm (by omega)
    have T1 := T.1
    have dl := dLen (vC_lk C p2) T Q7
    have bd := (C.2.2.1.2.2.2.2.2.2.2.2.2.1.1 Q4 _ _ Q3 (by have := some_lt Q3; omega)).2.1
    have bl := some_lt Q3
    have pl : (btP M (Int64.ofNat t)).length ≤ 16 := (bt_w (M := M) (t := Int64.ofNat t) T (.inl ⟨by rw [show (0 : Int64) = Int64.ofNat 0 from rfl, ll_le (by decide) (by omega)]; exact Nat.zero_le _, by rw [ll_cm (by omega)]; exact Q7⟩)).1
    refine ⟨p2, k_w (aX16_isNamed_0 ..) ?_⟩
    unfold tX16_isNamed_39
    refine k_f (N 12 (by decide) (by omega)) (k_f (N 13 (by decide) (by omega)) (k_f (N 14 (by decide) (by omega)) (k_f (N 16 (by decide) (by omega)) (k_f (N 17 (by decide) (by omega)) (k_f (show ¬ Int32.ofNat (B p) < Int32.ofNat 32 by rw [nn_lt (by omega) (by decide)]; omega) (k_f (show ¬ Int32.ofNat 34 < Int32.ofNat (B p) by rw [nn_lt (by decide) (by omega)]; omega) (k_t C.1.1 (k_b (mw_word C.1 (Nat.le_refl n) e1) (k_t C.1.1 (k_b C.1.2.1 (k_t C.1.2.2.1 (k_b (C.2.1.1 5 (by decide)) (k_l (k_t (C.2.1.2 2 (by decide) (by decide)).1 (k_t ?_ (k_b (C.2.1.1 52 (by decide)) (k_l (k_t (C.2.1.2 36 (by decide) (by decide)).1 (k_t ?_ ?_)))))))))))))))))))
    · show pm_in (pm_I (lk h p2) 592 30) (pm_ln (lk h p2) (m + pRf 5))
      rw [lk_y (by decide), Q2, show pm_ln (lk h p2) (m + pRf 5) = pLn 2 from (C.2.1.2 2 (by decide) (by decide)).2, nn_in (by omega)]
      show t < 64
      omega
    · show pm_in (pm_I (lk h p2) 592 29) (pm_ln (lk h p2) (m + pRf 52))
      rw [lk_y (by decide), Q1, show pm_ln (lk h p2) (m + pRf 52) = pLn 36 from (C.2.1.2 36 (by decide) (by decide)).2, nn_in (by omega)]
      show b' < 64
      omega
    · have eX : (pm_I (lk h p2) (m + 2) (pm_I (lk h p2) 592 30).toNatClampNeg).toInt64 + pm_L (lk h p2) (m + 36) (pm_I (lk h p2) 592 29).toNatClampNeg = Int64.ofNat ((btP M (Int64.ofNat t)).length + sumL a.2.2.2.2.1) := by
        rw [lk_y (by decide), lk_y (by decide), Q1, Q2, nn_cm (by omega), nn_cm (by omega), dl, nn_t6 (by omega), show pm_L (lk h p2) (m + 36) b' = Int64.ofNat a.2.1 from bd, Q5]
        exact ll_ad _ _
      have r := k_cmp (s := sX16_isNamed) (lk h p2) eX (rfl : Int64.ofNat x = _) (by omega) hx
      have e1 : v.1 = B p := by rw [ev]
      have en : kNm B n M Dc (lbt M t a) v K = decide (x < (btP M (Int64.ofNat t)).length + sumL a.2.2.2.2.1) := by
        rw [nm_s (by omega), ex, sg_loc (by omega), ← ltB_s]
        show Option.isSome (match ltB (btP M (Int64.ofNat t)) a.2.2.2.2.1 x with
          | none => none
          | some t => _) = _
        cases ltB (btP M (Int64.ofNat t)) a.2.2.2.2.1 x with
        | none => rfl
        | some y =>
          show Option.isSome (if v.1 = 32 then some (0, 0, 0, y) else if v.1 = 33 then some (y, 0, 0, 0) else some (y, 0, 0, y)) = true
          split
          · rfl
          · split <;> rfl
      rw [en]
      exact r
  suffices H : ∃ x, pm_lim sX16_isNamed (.inr (.inl (592, Int32.ofNat (B p), lk h (p + 1)))) = some (iN (kNm B n M Dc (lbt M t a) v K), lk h x) by
    obtain ⟨x, hx⟩ := H
    refine ⟨x, k_w (aX16_isNamed_0 ..) ?_⟩
    unfold tX16_isNamed_39
    refine k_f (N 12 (by decide) (by omega)) (k_f (N 13 (by decide) (by omega)) (k_f (N 14 (by decide) (by omega)) (k_f (N 16 (by decide) (by omega)) (k_f (N 17 (by decide) (by omega)) ?_))))
    by_cases c : B p < 32
    · exact k_t (show Int32.ofNat (B p) < Int32.ofNat 32 by rw [nn_lt (by omega) (by decide)]; exact c) (k_n hx)
    · exact k_f (show ¬ Int32.ofNat (B p) < Int32.ofNat 32 by rw [nn_lt (by omega) (by decide)]; exact c) (k_t (show Int32.ofNat 34 < Int32.ofNat (B p) by rw [nn_lt (by decide) (by omega)]; omega) (k_n hx))
  exact v_isM C W G Q8 q c24 (by omega) c32
end VISN
