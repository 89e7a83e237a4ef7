/-! THE REFERENCE CHECKS: constant expressions -/
theorem in_65 {B : Nat → Nat} {n p p2 : Nat} {D : Bool} {v : sp_I} (q : sp_in B n D p = .inr (v, p2)) : ¬ B p = 252 → v.1 = B p := fun z => (in_v1 q).1 z
section VCON
variable {h : pm_H} {n b m eo el p p2 e x ty : Nat} {B : Nat → Nat} {M : tMd} {D : Bool} {v : sp_I} {β : Type}
theorem lk_x (h : pm_H) : ∃ x, h = lk h x := by
  obtain ⟨q, eq⟩ := i32_nat (pm_I h 592 19)
  exact ⟨q, (lk_e eq).symm⟩
theorem cT_0 (hB : ∀ i, B i < 256) (q : sp_in B n D p = .inr (v, p2)) (h1 : ¬ (65 ≤ B p ∧ B p ≤ 68)) (h2 : B p ≠ 208) (h3 : B p ≠ 210) (h4 : B p ≠ 35) : cT M v = 0 := by
  have i65 := in_e hB q (c := 65) (by decide) (by decide)
  have i66 := in_e hB q (c := 66) (by decide) (by decide)
  have i67 := in_e hB q (c := 67) (by decide) (by decide)
  have i68 := in_e hB q (c := 68) (by decide) (by decide)
  have i35 := in_e hB q (c := 35) (by decide) (by decide)
  have i210 := in_e2 hB q
  have i208 : v.1 = 208 → B p = 208 := fun h3 => by
    by_cases cz : B p = 252
    · obtain ⟨k, q1, k17, e1, f1, f2, f3, f4⟩ := fur_k hB (in_252 q cz)
      exfalso
      by_cases k8 : k < 8
      · rw [f1 k8] at h3; have h3 : 200 + k = 208 := h3; omega
      · by_cases k1 : k = 10 ∨ k = 11
        · rw [f2 k1] at h3; have h3 : 300 + k = 208 := h3; omega
        · by_cases k2 : k = 12 ∨ k = 14
          · obtain ⟨x, y, q3, q4, -, -, -, -, ev⟩ := f3 k2; rw [ev] at h3; have h3 : 300 + k = 208 := h3; omega
          · obtain ⟨x, q3, -, -, ev⟩ := f4 (by omega); rw [ev] at h3; have h3 : 300 + k = 208 := h3; omega
    · exact ((in_v1 q).1 cz).symm.trans h3
  unfold cT
  rw [if_neg (by omega), if_neg (fun z => h2 (i208 z)), if_neg (by omega), if_neg (by omega)]
theorem v_cT (C : vC h n b m eo el B M) (G : vG B n D M) (q : sp_in B n D p = .inr (v, p2)) (z : Nat) : (∃ y, fX16_constantType (lk h z) 592 (Int32.ofNat p) = some (Int32.ofNat (cT M v), lk h y)) ∧ cT M v < 256 := by
  have hB := C.1.2.2.2.2.2.2.2.2.2
  have n4 := C.1.2.2.2.2.2.2.1
  have pn := in_lt q
  have b8 := hB p
  have L := vG_L G
  have hK := G.1.2.1
  have hG : ∀ a, a ∈ M.2.2.2.2.2.1 → a.2.1 ≤ 1 := fun a ha => (G.1.2.2.2.2.2.1 a ha).2.1
  obtain ⟨v1, cl⟩ := in_v1 q
  have N : ∀ j, j < 1000 → B p ≠ j → ¬ Int32.ofNat (B p) = Int32.ofNat j := fun j hj z => by rw [nn_eq (by omega) (by omega)]; exact z
  have E : ∀ j, B p = j → Int32.ofNat (B p) = Int32.ofNat j := fun j z => by rw [z]
  have y1 : Int32.ofNat p + 1 = Int32.ofNat (p + 1) := nn_ad _ 1
  unfold fX16_constantType
  have hd : ∀ {y : Nat}, fX16_constantType_b34 (lk h (p + 1)) 592 (Int32.ofNat p) (Int32.ofNat (B p)) = some (Int32.ofNat (cT M v), lk h y) → ¬ (65 ≤ B p ∧ B p ≤ 68) → (if pm_kd (lk h z) 592 = 16 then (pm_R (lk h z) 592 10).bind fun v2 => if pm_kd (lk h z) v2 = 14 then (fX14_at (lk h z) v2 (Int32.ofNat p)).bind fun v5 => pm_let (Int32.ofNat p + 1) fun y7 => if v5 < 65 then (fX16_constantType_b34 (pm_setI (lk h z) 592 19 y7) 592 (Int32.ofNat p) v5) else (if 68 < v5 then (fX16_constantType_b34 (pm_setI (lk h z) 592 19 y7) 592 (Int32.ofNat p) v5) else (some ((192 - v5, pm_setI (lk h z) 592 19 y7)))) else none else none) = some (Int32.ofNat (cT M v), lk h y) := by
    intro y H c
    refine e9_t C.1.1 (e9_b C.1.2.1 (e9_t C.1.2.2.1 (e9_b (mw_at_lk C.1 _ pn) (e9_l ?_))))
    rw [y1, lk_v]
    by_cases d : B p < 65
    · exact e9_t (show Int32.ofNat (B p) < Int32.ofNat 65 by rw [nn_lt (by omega) (by decide)]; exact d) H
    · exact e9_f (show ¬ Int32.ofNat (B p) < Int32.ofNat 65 by rw [nn_lt (by omega) (by decide)]; exact d) (e9_t (show Int32.ofNat 68 < Int32.ofNat (B p) by rw [nn_lt (by decide) (by omega)]; omega) H)
  by_cases c65 : 65 ≤ B p ∧ B p ≤ 68
  · have ec : cT M v = 192 - B p := by
      unfold cT
      rw [v1 (by omega), if_pos c65]
    refine ⟨⟨p + 1, ?_⟩, by rw [ec]; omega⟩
    refine e9_t C.1.1 (e9_b C.1.2.1 (e9_t C.1.2.2.1 (e9_b (mw_at_lk C.1 _ pn) (e9_l ?_))))
    rw [y1, lk_v]
    refine e9_f (show ¬ Int32.ofNat (B p) < Int32.ofNat 65 by rw [nn_lt (by omega) (by decide)]; omega) (e9_f (show ¬ Int32.ofNat 68 < Int32.ofNat (B p) by rw [nn_lt (by decide) (by omega)]; omega) ?_)
    rw [ec, show (192 : Int32) - Int32.ofNat (B p) = Int32.ofNat (192 - B p) from nn_sb (m := 192) (by omega)]
  by_cases c208 : B p = 208
  · obtain ⟨rf, pl, ev⟩ := in_208 hB q c208
    have b2 := hB (p + 1)
    have ec : cT M v = B (p + 1) := by
      rw [ev]
      exact ll_cm (by omega)
    refine ⟨⟨p + 1, hd ?_ c65⟩, by rw [ec]; exact b2⟩
    unfold fX16_constantType_b34
    refine e9_t (E 208 c208) (e9_t C.1.1 (e9_b C.1.2.1 (e9_t C.1.2.2.1 ?_)))
    rw [y1, ec]
    exact e9_b (mw_at_lk C.1 _ pl) rfl
  by_cases c210 : B p = 210
  · have ec : cT M v = 112 := by
      unfold cT
      rw [v1 (by omega), if_neg (by omega), if_neg (by omega), if_pos c210]
    refine ⟨⟨p + 1, hd ?_ c65⟩, by rw [ec]; decide⟩
    unfold fX16_constantType_b34
    rw [ec]
    exact e9_f (N 208 (by decide) c208) (e9_t (E 210 c210) rfl)
  by_cases c35 : B p = 35
  · obtain ⟨x, hx, e1, ev⟩ := in_1 hB q (by omega)
    have ex : v.2.1.toNatClampNeg = x := by rw [ev]; exact ll_cm (by omega)
    have ec : cT M v = match (ofK 3 M.2.1)[x]? with
        | none => 0
        | some g => if g.2.2.2.2 = 0 then g.2.1 else 0 := by
      unfold cT
      rw [v1 (by omega), if_neg (by omega), if_neg (by omega), if_neg (by omega), if_pos c35, ex]
      rfl
    have im := v_imd (vC_lk C p2) L (k := 3) (by decide) hK
    have ol := ofK_l (k := 3) (l := M.2.1)
    have L1 := L.1
    have b34 : fX16_constantType_b34 (lk h (p + 1)) 592 (Int32.ofNat p) (Int32.ofNat (B p)) = some (Int32.ofNat (cT M v), lk h p2) ∧ cT M v < 256 := by
      unfold fX16_constantType_b34
      rw [ec]
      cases eg : (ofK 3 M.2.1)[x]? with
      | none =>
        have d : (ofK 3 M.2.1).length ≤ x := List.getElem?_eq_none_iff.mp eg
        exact ⟨e9_f (N 208 (by decide) c208) (e9_f (N 210 (by decide) c210) (e9_t (E 35 c35) (e9_t C.1.1 (e9_b (mw_word C.1 (Nat.le_refl n) e1) (e9_t C.1.1 (e9_b C.1.2.1 (e9_t C.1.2.2.1 (e9_b im (e9_t (by rw [nn_t6 (by omega), ll_le (by omega) (by omega)]; exact d) rfl))))))))), by decide⟩
      | some g =>
        have d := some_lt eg
        have esp : (spG M)[x]? = some (g, 0) := by
          unfold spG
          rw [List.getElem?_append_left (by rw [List.length_map]; exact d), List.getElem?_map, eg]
          rfl
        obtain ⟨t1, t2, t3⟩ := v_tyG (vC_lk C p2) L hK hG esp
        have tt := isT_lt (spG_T G esp)
        have tt : g.2.1 < 128 := tt
        have t3 : g.2.2.2.2 ≤ 1 := t3
        refine ⟨e9_f (N 208 (by decide) c208) (e9_f (N 210 (by decide) c210) (e9_t (E 35 c35) (e9_t C.1.1 (e9_b (mw_word C.1 (Nat.le_refl n) e1) (e9_t C.1.1 (e9_b C.1.2.1 (e9_t C.1.2.2.1 (e9_b im (e9_f (by rw [nn_t6 (by omega), ll_le (by omega) (by omega)]; omega) ?_))))))))), ?_⟩
        · rw [ll_t3]
          refine e9_b t2 ?_
          by_cases w : g.2.2.2.2 = 0
          · refine e9_t (show Int32.ofNat g.2.2.2.2 = 0 by rw [w]; rfl) (e9_b t1 ?_)
            show _ = some (Int32.ofNat (if g.2.2.2.2 = 0 then g.2.1 else 0), lk h p2)
            rw [if_pos w]
          · refine e9_f (show ¬ Int32.ofNat g.2.2.2.2 = Int32.ofNat 0 by rw [nn_eq (by omega) (by decide)]; exact w) ?_
            show _ = some (Int32.ofNat (if g.2.2.2.2 = 0 then g.2.1 else 0), lk h p2)
            rw [if_neg w]
            rfl
        · show (if g.2.2.2.2 = 0 then g.2.1 else 0) < 256
          split <;> omega
    exact ⟨⟨p2, hd b34.1 c65⟩, b34.2⟩
  · have ec : cT M v = 0 := cT_0 hB q c65 c208 c210 c35
    refine ⟨⟨p + 1, hd ?_ c65⟩, by rw [ec]; decide⟩
    unfold fX16_constantType_b34
    rw [ec]
    exact e9_f (N 208 (by decide) c208) (e9_f (N 210 (by decide) c210) (e9_f (N 35 (by decide) c35) rfl))
theorem cT_bk (hB : ∀ i, B i < 256) (q : sp_in B n D p = .inr (v, p2)) (h : cT M v ≠ 0) : ¬ (2 ≤ v.1 ∧ v.1 ≤ 4) ∧ v.1 ≠ 11 := by
  refine ⟨fun z => h ?_, fun z => h ?_⟩ <;> (unfold cT; rw [if_neg (by omega), if_neg (by omega), if_neg (by omega), if_neg (by omega)])
theorem v_cn1 (C : vC h n b m eo el B M) (G : vG B n D M) {R : β → Nat → pm_H → Prop} {k' : Nat × Nat × Option Nat → Nat → sp_O β} {p0 : Nat} : ∀ (N pc k g z : Nat), eY B n D 0 pc e → n + 1 ≤ pc + N → k ≤ pc → g < 256 → (∀ r e' y, cRun B n D M N pc k g = .inr (r, e') → e' + 1 = e → r.1 ≤ n → r.2.1 < 256 → ms_Q (vF m h) R (pm_lim sX16_constantly (.inr (592, Int32.ofNat ty, Int32.ofNat p0, Int32.ofNat r.1, Int32.ofNat r.2.1, Int32.ofNat e', lk h y))) (k' r e')) → ms_Q (vF m h) R (pm_lim sX16_constantly (.inl (592, Int32.ofNat p0, Int32.ofNat ty, Int32.ofNat pc, Int32.ofNat k, Int32.ofNat g, lk h z))) (sp_b (cRun B n D M N pc k g) k') := by
  have hB := C.1.2.2.2.2.2.2.2.2.2
  have n4 := C.1.2.2.2.2.2.2.1
  intro N
  induction N generalizing k' with
  | zero =>
    intro pc k g z E hN
    obtain ⟨v, p2, e1, u1, u2, -⟩ := eY_step E
    omega
  | succ N ih =>
    intro pc k g z E hN hk hg hk'
    obtain ⟨v, p2, e1, u1, u2, E2⟩ := eY_step E
    have pn := in_lt e1
    have b8 := hB pc
    have v11 := in_e hB e1 (c := 11) (by decide) (by decide)
    rw [cRun, e1] at hk' ⊢
    have hk' : ∀ r e' y, (if v.1 = 11 then .inr ((k, g, none), pc) else if cT M v = 0 then .inl (26, pc) else sp_b (cRun B n D M N p2 (k + 1) (cT M v)) fun r e => .inr ((r.1, r.2.1, if v.1 = 210 ∧ (spF M).length ≤ v.2.1.toNatClampNeg then some pc else r.2.2), e) : sp_O (Nat × Nat × Option Nat)) = .inr (r, e') → _ := hk'
    show ms_Q _ _ _ (sp_b (if v.1 = 11 then .inr ((k, g, none), pc) else if cT M v = 0 then .inl (26, pc) else sp_b (cRun B n D M N p2 (k + 1) (cT M v)) fun r e => .inr ((r.1, r.2.1, if v.1 = 210 ∧ (spF M).length ≤ v.2.1.toNatClampNeg then some pc else r.2.2), e) : sp_O (Nat × Nat × Option Nat)) k')
    refine s_w (aX16_constantly_0 ..) ?_
    unfold tX16_constantly_8
    refine s_t C.1.1 (s_b C.1.2.1 (s_t C.1.2.2.1 (s_b (mw_at_lk C.1 _ pn) ?_)))
    by_cases c11 : v.1 = 11
    · rw [if_pos c11] at hk' ⊢
      refine s_t (by rw [v11.mp c11]; rfl) (s_n ?_)
      rcases E2 with ⟨-, -, c3⟩ | ⟨c1, -⟩
      · have p21 : p2 = pc + 1 := by
          obtain ⟨-, z⟩ := in_c e1
          rw [if_pos (.inr (v11.mp c11))] at z
          cases z
          rfl
        exact hk' (k, g, none) pc z rfl (by omega) (by show k ≤ n; omega) hg
      · exact absurd ⟨c11, rfl⟩ c1
    · rw [if_neg c11] at hk' ⊢
      refine s_f (show ¬ Int32.ofNat (B pc) = Int32.ofNat 11 by rw [nn_eq (by omega) (by decide)]; exact fun z => c11 (v11.mpr z)) ?_
      obtain ⟨⟨y, ey⟩, cl⟩ := v_cT C G e1 z
      refine s_b ey ?_
      by_cases c0 : cT M v = 0
      · rw [if_pos c0]
        exact s_t (show Int32.ofNat (cT M v) = 0 by rw [c0]; rfl) (s_t C.1.1 (s_stop (vC_lk C y).1 (vF_lk h _) rfl rfl))
      · rw [if_neg c0] at hk' ⊢
        refine s_f (show ¬ Int32.ofNat (cT M v) = Int32.ofNat 0 by rw [nn_eq (by omega) (by decide)]; exact c0) (s_l (s_t C.1.1 (s_b (mw_behind_lk C.1 (Nat.le_refl n) y e1) ?_)))
        rw [show Int32.ofNat k + 1 = Int32.ofNat (k + 1) from nn_ad _ 1, sp_as]
        obtain ⟨nb, -⟩ := cT_bk hB e1 c0
        have E3 : eY B n D 0 p2 e := by
          rcases E2 with ⟨c1, -⟩ | ⟨-, E2⟩
          · exact absurd c1 c11
          · rwa [if_neg nb, if_neg c11] at E2
        refine s_n (ih p2 (k + 1) (cT M v) p2 E3 (by omega) (by omega) cl fun r e' y er h1 h2 h3 => ?_)
        exact hk' _ e' y (by rw [er]; rfl) h1 h2 h3
theorem v_cn2 (C : vC h n b m eo el B M) (G : vG B n D M) {kk gg e' : Nat} (h1 : kk ≤ n) (h2 : gg < 256) (h3 : ty < 256) (he : e' + 1 = e) : ∀ (N pc k g z : Nat) (r : Nat × Nat × Option Nat), eY B n D 0 pc e → cRun B n D M N pc k g = .inr (r, e') → ms_Q (vF m h) (fun _ _ r => r = lk h (e' + 1)) (pm_lim sX16_constantly (.inr (592, Int32.ofNat ty, Int32.ofNat pc, Int32.ofNat kk, Int32.ofNat gg, Int32.ofNat e', lk h z))) (match r.2.2 with
    | some q => .inl (28, q)
    | none => if kk = 1 ∧ gg = ty then (.inr ((), e' + 1) : sp_O Unit) else .inl (27, e')) := by
  have hB := C.1.2.2.2.2.2.2.2.2.2
  have n4 := C.1.2.2.2.2.2.2.1
  have L := vG_L G
  have SL := sp_len L
  have hK := G.1.2.1
  intro N
  induction N with
  | zero => intro pc k g z r E q; cases q
  | succ N ih =>
    intro pc k g z r E q
    obtain ⟨v, p2, e1, u1, u2, E2⟩ := eY_step E
    have pn := in_lt e1
    have b8 := hB pc
    rw [cRun, e1] at q
    have q : (if v.1 = 11 then .inr ((k, g, none), pc) else if cT M v = 0 then .inl (26, pc) else sp_b (cRun B n D M N p2 (k + 1) (cT M v)) fun r e => .inr ((r.1, r.2.1, if v.1 = 210 ∧ (spF M).length ≤ v.2.1.toNatClampNeg then some pc else r.2.2), e) : sp_O (Nat × Nat × Option Nat)) = .inr (r, e') := q
    refine s_w (aX16_constantly_1 ..) ?_
    unfold tX16_constantly_57
    by_cases c11 : v.1 = 11
    · rw [if_pos c11] at q
      cases q
      show ms_Q _ _ _ (if kk = 1 ∧ gg = ty then (.inr ((), e' + 1) : sp_O Unit) else .inl (27, e'))
      refine s_t (by rw [nn_le (by omega) (by omega)]; omega) ?_
      have y1 : Int32.ofNat e' + 1 = Int32.ofNat (e' + 1) := nn_ad _ 1
      by_cases ck : kk = 1
      · refine s_t (by rw [ck]; rfl) ?_
        by_cases cg : gg = ty
        · refine s_t (by rw [cg]) (s_l (s_t C.1.1 (s_r ?_)))
          rw [if_pos ⟨ck, cg⟩, y1, lk_v]
          exact q_r rfl
        · refine s_f (by rw [nn_eq (by omega) (by omega)]; exact cg) ?_
          rw [if_neg (show ¬ (kk = 1 ∧ gg = ty) from fun y => cg y.2)]
          exact s_t C.1.1 (s_stop (vC_lk C z).1 (vF_lk h _) rfl rfl)
      · refine s_f (show ¬ Int32.ofNat kk = Int32.ofNat 1 by rw [nn_eq (by omega) (by decide)]; exact ck) ?_
        rw [if_neg (show ¬ (kk = 1 ∧ gg = ty) from fun y => ck y.1)]
        exact s_t C.1.1 (s_stop (vC_lk C z).1 (vF_lk h _) rfl rfl)
    · rw [if_neg c11] at q
      by_cases c0 : cT M v = 0
      · rw [if_pos c0] at q; cases q
      rw [if_neg c0] at q
      obtain ⟨r1, e2, er, q⟩ := b_inv q
      cases q
      obtain ⟨nb, -⟩ := cT_bk hB e1 c0
      have E3 : eY B n D 0 p2 e := by
        rcases E2 with ⟨c1, -⟩ | ⟨-, E2⟩
        · exact absurd c1 c11
        · rwa [if_neg nb, if_neg c11] at E2
      have go := fun z => ih p2 (k + 1) (cT M v) z r1 E3 er
      have pe : pc < e' ∧ e' < n := by
        obtain ⟨ob, N', st, w, q, -⟩ := E3
        have := up_ex_lt q
        omega
      refine s_f (by rw [nn_le (by omega) (by omega)]; omega) (s_l (s_t C.1.1 ?_))
      rw [show Int32.ofNat pc + 1 = Int32.ofNat (pc + 1) from nn_ad _ 1, lk_v]
      refine s_b C.1.2.1 (s_t C.1.2.2.1 (s_b (mw_at_lk C.1 _ pn) ?_))
      have v210 := in_e2 hB e1
      by_cases c210 : B pc = 210
      · obtain ⟨x, hx, f1, ev⟩ := in_1 hB e1 (by omega)
        have ex : v.2.1.toNatClampNeg = x := by rw [ev]; exact ll_cm (by omega)
        refine s_t (by rw [c210]; rfl) (s_b (mw_word C.1 (Nat.le_refl n) f1) (s_t C.1.1 (s_b C.1.2.1 (s_t C.1.2.2.1 (s_b (v_all (vC_lk C p2) L hK).1 ?_)))))
        rw [ex]
        by_cases d : (spF M).length ≤ x
        · refine s_f (by rw [nn_t6 (by omega), ll_lt (by omega) (by omega)]; omega) ?_
          show ms_Q _ _ _ (match (if v.1 = 210 ∧ (spF M).length ≤ x then some pc else r1.2.2) with
            | some q => (.inl (28, q) : sp_O Unit)
            | none => if kk = 1 ∧ gg = ty then (.inr ((), e' + 1) : sp_O Unit) else .inl (27, e'))
          rw [if_pos (show v.1 = 210 ∧ (spF M).length ≤ x from ⟨v210.mpr c210, d⟩)]
          exact s_stop (vC_lk C p2).1 (vF_lk h _) rfl rfl
        · refine s_t (by rw [nn_t6 (by omega), ll_lt (by omega) (by omega)]; omega) (s_b (mw_behind_lk C.1 (Nat.le_refl n) p2 e1) (s_n ?_))
          show ms_Q _ _ _ (match (if v.1 = 210 ∧ (spF M).length ≤ x then some pc else r1.2.2) with
            | some q => (.inl (28, q) : sp_O Unit)
            | none => if kk = 1 ∧ gg = ty then (.inr ((), e' + 1) : sp_O Unit) else .inl (27, e'))
          rw [if_neg (show ¬ (v.1 = 210 ∧ (spF M).length ≤ x) from fun y => d y.2)]
          exact go p2
      · refine s_f (show ¬ Int32.ofNat (B pc) = Int32.ofNat 210 by rw [nn_eq (by omega) (by decide)]; exact c210) (s_b (mw_behind_lk C.1 (Nat.le_refl n) (pc + 1) e1) (s_n ?_))
        show ms_Q _ _ _ (match (if v.1 = 210 ∧ (spF M).length ≤ v.2.1.toNatClampNeg then some pc else r1.2.2) with
          | some q => (.inl (28, q) : sp_O Unit)
          | none => if kk = 1 ∧ gg = ty then (.inr ((), e' + 1) : sp_O Unit) else .inl (27, e'))
        rw [if_neg (show ¬ (v.1 = 210 ∧ (spF M).length ≤ v.2.1.toNatClampNeg) from fun y => c210 (v210.mp y.1))]
        exact go p2
theorem v_con (C : vC h n b m eo el B M) (G : vG B n D M) (h3 : ty < 256) (hp : p ≤ n) {ob : Bool} {N : Nat} {w : tWr} (E : sp_ex B n D ob N [] p = .inr (w, e)) : ms_Q (vF m h) (fun _ p' r => r = lk h p' ∧ p' = e) (fX16_constantly h 592 (Int32.ofNat p) (Int32.ofNat ty)) (sp_con B n D M p ty) := by
  obtain ⟨x, hx⟩ := lk_x h
  have EY : eY B n D 0 p e := ⟨ob, N, [], w, E, rfl⟩
  unfold fX16_constantly sp_con
  have z := v_cn1 (p0 := p) (ty := ty) (R := fun _ p' r => r = lk h p' ∧ p' = e) (k' := fun r e => match r.2.2 with
    | some q => .inl (28, q)
    | none => if r.1 = 1 ∧ r.2.1 = ty then (.inr ((), e + 1) : sp_O Unit) else .inl (27, e)) C G (n + 1) p 0 0 x EY (by omega) (Nat.zero_le _) (by decide) (fun r e' y er he h1 h2 => by
      refine q_w (v_cn2 C G h1 h2 h3 he (n + 1) p 0 0 y r EY er) (fun h' F => F) (fun _ p' r' eo q => ?_)
      cases hr : r.2.2 with
      | some q0 => rw [hr] at eo; cases eo
      | none =>
        rw [hr] at eo
        have eo : (if r.1 = 1 ∧ r.2.1 = ty then (.inr ((), e' + 1) : sp_O Unit) else .inl (27, e')) = _ := eo
        split at eo
        · cases eo; exact ⟨q, he⟩
        · cases eo)
  rw [← hx] at z
  exact z
end VCON
