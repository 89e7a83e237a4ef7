/-! THE CLASS READS: bodies -/
/-- as gW, and where the part ends, and whether it is a body -/
def gB (me x lo hi : Nat) (h h' : pm_H) : Prop := gF (fun X Y => ((X = me ∨ (X = 19 ∧ (Y = 5 ∨ Y = 6 ∨ Y = 7))) ∨ (X = x ∧ lo ≤ Y ∧ Y < hi)) ∨ (X = 19 ∧ (Y = 2 ∨ Y = 16))) (fun X Y => (X = 19 ∧ (Y = 8 ∨ Y = 9)) ∨ (X = x ∧ lo ≤ Y ∧ Y < hi)) h h'
theorem gB_W {me x lo hi : Nat} {h h' : pm_H} (g : gW me x lo hi h h') : gB me x lo hi h h' := gF_m g (fun _ _ z => .inl z) (fun _ _ z => z)
theorem gB_I {me x lo hi : Nat} {h h1 : pm_H} (g : gB me x lo hi h h1) {k : Nat} (hk : k = 2 ∨ k = 16) {v : Int32} : gB me x lo hi h (pm_setI h1 19 k v) := gF_t g (gF_I h1 v (.inr ⟨rfl, hk⟩))
theorem gW_B {me x lo hi : Nat} {h h' : pm_H} (g : gB me x lo hi h h') (e2 : pm_I h' 19 2 = pm_I h 19 2) (e16 : pm_I h' 19 16 = pm_I h 19 16) : gW me x lo hi h h' := by
  refine ⟨g.1, g.2.1, g.2.2.1, g.2.2.2.1, fun X Y n => ?_, g.2.2.2.2.2⟩
  by_cases c : X = 19 ∧ (Y = 2 ∨ Y = 16)
  · obtain ⟨rfl, c | c⟩ := c
    · rw [c]; exact e2
    · rw [c]; exact e16
  · exact g.2.2.2.2.1 X Y (fun z => z.elim n c)
theorem lC_2 {h : pm_H} {n b mm me e e2 : Nat} {d ob : Bool} {B : Nat → Nat} (L : lC h n b mm me e d ob B) (h2 : e2 ≤ n) : lC (pm_setI h 19 2 (Int32.ofNat e2)) n b mm me e2 d ob B := by
  have m := lC_m L
  obtain ⟨⟨K, rm0, km, rb, kb, lb, hn, b9, hB, hB2⟩, E, ie, he, ib, dt⟩ := L
  refine ⟨⟨K, rm0, km, rb, kb, lb, hn, b9, fun i hi => by rw [ev_II, if_neg m.2.1]; exact hB i hi, hB2⟩, E, by rw [ev_II, if_pos rfl, if_pos rfl], h2, by rw [ev_II, if_pos rfl, if_neg (by decide)]; exact ib, dt⟩
theorem lC_16 {h : pm_H} {n b mm me e : Nat} {d ob : Bool} {B : Nat → Nat} (L : lC h n b mm me e d ob B) (o2 : Bool) {v : Int32} (hv : (v = 0) = (o2 = false)) : lC (pm_setI h 19 16 v) n b mm me e d o2 B := by
  have m := lC_m L
  obtain ⟨⟨K, rm0, km, rb, kb, lb, hn, b9, hB, hB2⟩, E, ie, he, ib, dt⟩ := L
  refine ⟨⟨K, rm0, km, rb, kb, lb, hn, b9, fun i hi => by rw [ev_II, if_neg m.2.1]; exact hB i hi, hB2⟩, E, by rw [ev_II, if_pos rfl, if_neg (by decide)]; exact ie, he, by rw [ev_II, if_pos rfl, if_pos rfl]; exact hv, dt⟩
def pBoC (h : pm_H) (x a : Nat) (v : tBo) : Prop := pm_I h x a = Int32.ofNat v.1 ∧ pm_I h x (a + 1) = Int32.ofNat (v.2.2.2.1 + 1)
section BOD
variable {h h1 : pm_H} {n b mm me e p x a : Nat} {d : Bool} {B : Nat → Nat}
theorem rc_19 (h : pm_H) (p f q : Int32) {k : Nat} (v : Int32) (h1 : k ≠ 1) (h2 : k ≠ 3) (h3 : k ≠ 4) : pm_setI (rc h p f q) 19 k v = rc (pm_setI h 19 k v) p f q := rc_o _ _ _ _ _ h1 h2 h3
theorem cs_lcl {β : Type} {R : β → Nat → pm_H → Prop} (L : lC h n b mm me e d false B) (q : Int32) {x4 x5 : Int32} {h0 : pm_H} (g : nF h0 h) {c : Nat} (hc : c < 4294967296) : ∀ (j k p s : Nat) (kk : List (Nat × Nat) → Nat → sp_O β), k + j = c → p ≤ e → k ≤ p → s ≤ k * 4294967296 → (∀ l p', sp_rows (sp_lc B e) j p = .inr (l, p') → p' ≤ e → s + sumL l ≤ 175921860444160 → cs_Q wH (nF h0) R (pm_lim sX9_body (.inr (.inr (.inl (19, x4, x5, Int64.ofNat (s + sumL l), rc h (Int32.ofNat p') 0 q))))) (kk l p')) → cs_Q wH (nF h0) R (pm_lim sX9_body (.inr (.inl (19, x4, x5, Int64.ofNat c, Int64.ofNat s, Int64.ofNat k, rc h (Int32.ofNat p) 0 q)))) (sp_b (sp_rows (sp_lc B e) j p) kk) := by
  have CD := lC_C L
  obtain ⟨⟨K9, rm0, km, rb, kb⟩, r17, kme, lme⟩ := lC_C L
  have he := L.2.2.2.1
  have n4 := L.1.2.2.2.2.2.2.1
  have CD0 : dC h0 b mm me := ⟨⟨by rw [← g.2.1]; exact K9, by rw [← g.2.2.2]; exact rm0, by rw [← g.2.1]; exact km, by rw [← g.2.2.2]; exact rb, by rw [← g.2.1]; exact kb⟩, by rw [← g.2.2.2]; exact r17, by rw [← g.2.1]; exact kme, by rw [← g.2.2.1]; exact lme⟩
  intro j
  induction j with
  | zero =>
    intro k p s kk hk hp hkp hs Z
    refine v_w (aX9_body_1 ..) ?_
    unfold tX9_body_118
    rw [sp_rows, sp_br]
    exact v_t (show Int64.ofNat c ≤ Int64.ofNat k by rw [ll_le (by omega) (by omega)]; omega) (v_n (Z [] p rfl hp (by show s + 0 ≤ _; omega)))
  | succ j ih =>
    intro k p s kk hk hp hkp hs Z
    have E1 : sp_b (sp_rows (sp_lc B e) (j + 1) p) kk = sp_b (sp_num B e p) fun v p1 => sp_b (sp_byte sp_isT 8 B e p1) fun t p2 => sp_b (sp_rows (sp_lc B e) j p2) fun l p3 => kk ((v, t) :: l) p3 := by
      rw [sp_rows, sp_bb]
      unfold sp_lc
      rw [sp_bb]
      refine congrArg (sp_b (sp_num B e p)) (funext fun v => funext fun p1 => ?_)
      rw [sp_bb]
      refine congrArg (sp_b (sp_byte sp_isT 8 B e p1)) (funext fun t => funext fun p2 => ?_)
      rw [sp_br, sp_bb]
      rfl
    rw [E1]
    refine v_w (aX9_body_1 ..) ?_
    unfold tX9_body_118
    refine v_f (show ¬ Int64.ofNat c ≤ Int64.ofNat k by rw [ll_le (by omega) (by omega)]; omega) (v_t K9 (v_t rfl (v_p (cs_num L.1 L.2.2.1 he hp q) (fun r1 a' f q hf => z_l (z_t K9 (z_p (cd_vt K9 hf _ _) (fun r2 a2 => z_l (z_n (cd_bo118 g CD0 hf _ _ _ _ _ _)))))) ?_)))
    intro v p1 r e1 er
    subst er
    have pb := sp_num_b hp e1
    have vl : v < 4294967296 := sp_nu_v L.1.2.2.2.2.2.2.2.2.2 (by decide) (by decide) (by decide) e1
    refine v_l (v_t K9 (v_p (cs_vt L.1 L.2.2.1 he (by omega) q) (fun r1 a' f q hf => z_l (z_n (cd_bo118 g CD0 hf _ _ _ _ _ _))) ?_))
    intro t p2 r e2 er
    subst er
    have pb2 := sp_byte_b (show p1 ≤ e by omega) e2
    refine v_l (v_n ?_)
    dsimp only
    rw [ll_ad, show Int64.ofNat k + 1 = Int64.ofNat (k + 1) from ll_ad k 1]
    refine ih (k + 1) p2 (s + v) _ (by omega) (by omega) (by omega) (by omega) (fun l p3 e3 h3 hs3 => ?_)
    have q1 := Z ((v, t) :: l) p3 (by
      rw [sp_rows]
      unfold sp_lc
      rw [e1, sp_br, e2, sp_br, sp_br]
      have e3' : sp_rows (sp_lc B e) j p2 = .inr (l, p3) := e3
      unfold sp_lc at e3'
      rw [e3']
      rfl) h3 (by show s + (v + sumL l) ≤ _; omega)
    rw [show s + v + sumL l = s + sumL ((v, t) :: l) from Nat.add_assoc _ _ _]
    exact q1
abbrev rBo (me x : Nat) (i : Nat) (h : pm_H) (q : Int32) : tBo → Nat → pm_H → Prop := fun v p' r => ∃ h', r = rc h' (Int32.ofNat p') 0 q ∧ gW me x (2 * i) (2 * i + 2) h h' ∧ pm_I h' 19 5 = xv (pm_I h 19 5) (pm_I h 19 11) (bigB v) ∧ (2 * i + 2 ≤ pm_ln h x → pBoC h' x (2 * i) v)
theorem cs_bo (L : lC h n b mm me e d false B) (r11 : pm_R h mm 11 = some x) (k34 : pm_kd h x = 34) (hl : pm_ln h x < 2147483648) {i : Nat} (i15 : pm_I h 19 15 = Int32.ofNat i) (hi : 2 * i + 2 < 2147483648) (hp : p ≤ e) (q : Int32) : cs_Q wH (nF h) (rBo me x i h q) (fX9_body (rc h (Int32.ofNat p) 0 q) 19) (sp_bo B e d p) := by
  have CD := lC_C L
  obtain ⟨⟨K9, rm0, km, rb, kb⟩, r17, kme, lme⟩ := lC_C L
  have m := lC_m L
  have he := L.2.2.2.1
  have n4 := L.1.2.2.2.2.2.2.1
  have x9 : x ≠ 19 := fun z => by rw [z, K9] at k34; exact absurd k34 (by decide)
  have xme : x ≠ me := fun z => by rw [z, kme] at k34; exact absurd k34 (by decide)
  have hl' : pm_ln h x < 2147483648 ∧ x ≠ 19 := ⟨hl, x9⟩
  have gn0 := nF_r h
  have i16 : pm_I h 19 16 = 0 := by have := L.2.2.2.2.1; rw [this]
  unfold fX9_body sp_bo
  refine u_t K9 (u_l (u_p (cs_num L.1 L.2.2.1 he hp q) (fun r1 a' f q hf => ?_) ?_))
  · repeat' (first | with_reducible exact y_r rfl (by assumption) | with_reducible exact cd_bo33 (by assumption) CD hf _ _ | with_reducible refine y_k (by assumption) (by assumption) ?_ | with_reducible refine y_R (by assumption) (by assumption) ?_ | with_reducible refine y_l ?_ | with_reducible refine y_f (rc_f0 hf) ?_ | with_reducible refine y_num (by assumption) K9 hf (by decide) ?_ | with_reducible refine y_fail (by assumption) K9 hf ?_ | with_reducible refine y_skip (by assumption) K9 hf ?_ | with_reducible refine y_next (by assumption) K9 hf ?_ | with_reducible refine y_vt (by assumption) K9 hf (fun _ _ => ?_) | with_reducible refine y_rt (by assumption) K9 hf (fun _ _ => ?_) | with_reducible refine y_nut (by assumption) K9 hf (fun _ _ => ?_) | with_reducible refine y_name (by assumption) K9 hf (fun _ _ => ?_) | with_reducible refine y_lim (by assumption) K9 (fun _ _ => ?_) | with_reducible refine y_expr (by assumption) CD hf (fun _ _ _ => ?_) | with_reducible refine y_st6 (by assumption) (by assumption) (by assumption) (fun _ _ => ?_) | with_reducible refine y_st3 (by assumption) (by assumption) (by assumption) (fun _ _ => ?_) | with_reducible refine y_i (fun _ => ?_) (fun _ => ?_))
  intro sz p1 r e1 er
  subst er
  have pb1 := sp_num_b hp e1
  have vl : sz < 4294967296 := sp_nu_v L.1.2.2.2.2.2.2.2.2.2 (by decide) (by decide) (by decide) e1
  have cmp : (Int64.ofNat sz ≤ ((pm_I (rc h (Int32.ofNat p1) 0 q) 19 2) - (pm_I (rc h (Int32.ofNat p1) 0 q) 19 1)).toInt64) = (p1 + sz ≤ e) := by
    rw [show pm_I (rc h (Int32.ofNat p1) 0 q) 19 2 = Int32.ofNat e from L.2.2.1, show pm_I (rc h (Int32.ofNat p1) 0 q) 19 1 = Int32.ofNat p1 from rfl, nn_sb pb1.2, nn_t6 (by omega), ll_le (by omega) (by omega)]
    exact propext ⟨fun z => by omega, fun z => by omega⟩
  refine u_t K9 ?_
  by_cases cs : e < p1 + sz
  · rw [if_pos cs]
    exact u_f (by rw [cmp]; omega) (u_b (cs_fail K9 _ _ _ _) ⟨by decide, cd_bo33 gn0 CD (by decide) _ _⟩)
  rw [if_neg cs]
  refine u_t (by rw [cmp]; omega) (v_w (aX9_body_0 ..) ?_)
  unfold tX9_body_33
  refine v_t K9 (v_t rfl (v_l (v_l (v_l ?_))))
  dsimp only
  rw [ll_t3, rc_1, nn_ad, rc_19 _ _ _ _ _ (by decide) (by decide) (by decide), show pm_I (rc h (Int32.ofNat p1) 0 q) 19 2 = Int32.ofNat e from L.2.2.1]
  -- the body's part
  obtain ⟨e2, ee2⟩ : ∃ z, z = p1 + sz := ⟨_, rfl⟩
  rw [← ee2]
  obtain ⟨h1, eh1⟩ : ∃ z, z = pm_setI h 19 2 (Int32.ofNat e2) := ⟨_, rfl⟩
  have g1 : gB me x (2 * i) (2 * i + 2) h h1 := by rw [eh1]; exact gB_I (gF_r _ _ h) (.inl rfl)
  have L1 : lC h1 n b mm me e2 d false B := by rw [eh1]; exact lC_2 L (by omega)
  have gn1 : nF h h1 := nF_g g1
  have m1 : pm_I h1 19 5 = pm_I h 19 5 := by rw [eh1, ev_II, if_pos rfl, if_neg (by decide)]
  have c1 : pm_I h1 19 11 = pm_I h 19 11 := by rw [eh1, ev_II, if_pos rfl, if_neg (by decide)]
  have ic1 : pm_I h1 19 15 = Int32.ofNat i := by rw [eh1, ev_II, if_pos rfl, if_neg (by decide)]; exact i15
  have X1 : pm_I h1 x = pm_I h x := by funext y; rw [eh1, ev_II, if_neg x9]
  rw [← eh1]
  refine v_b (gR gn1 rm0) (v_t (gk gn1 km) (v_b (gR gn1 r11) ?_))
  rw [show pm_I (rc h1 (Int32.ofNat p1) 0 q) 19 15 = Int32.ofNat i from ic1, show (2 : Int32) * Int32.ofNat i = Int32.ofNat (2 * i) from nn_ml 2 i]
  refine v_b (st3_e (gk gn1 k34) x9 (by rw [nF_ln gn1]; exact hl) (by omega) _) ?_
  obtain ⟨h2, eh2⟩ : ∃ z, z = sI h1 x (2 * i) (Int32.ofNat p1) := ⟨_, rfl⟩
  have w2 : gW me x (2 * i) (2 * i + 2) h1 h2 := by rw [eh2]; exact gW_I (gF_r _ _ h1) (by omega) (by omega)
  rw [← eh2]
  have gn2 : nF h h2 := nF_t gn1 (nF_g w2)
  refine v_t (gk gn2 K9) (v_b (gR gn2 rm0) (v_t (gk gn2 km) (v_b (gR gn2 r11) ?_)))
  have N2 : ∀ y, pm_I h2 19 y = pm_I h1 19 y := fun y => by rw [eh2]; exact sI_n (fun z => x9 z.symm) y
  rw [show pm_I (rc h2 (Int32.ofNat p1) 0 q) 19 15 = Int32.ofNat i from (N2 15).trans ic1, show (2 : Int32) * Int32.ofNat i = Int32.ofNat (2 * i) from nn_ml 2 i, show pm_I (rc h2 (Int32.ofNat p1) 0 q) 19 2 = Int32.ofNat e2 from (N2 2).trans L1.2.2.1]
  refine v_b (st3_a (gk gn2 k34) x9 (by rw [nF_ln gn2]; exact hl) 1 (by omega) _) ?_
  obtain ⟨h3, eh3⟩ : ∃ z, z = sI h2 x (2 * i + 1) (Int32.ofNat e2) := ⟨_, rfl⟩
  have w3 : gW me x (2 * i) (2 * i + 2) h1 h3 := by rw [eh3]; exact gW_I w2 (by omega) (by omega)
  rw [← eh3]
  have gn3 : nF h h3 := nF_t gn1 (nF_g w3)
  have N3 : ∀ y, pm_I h3 19 y = pm_I h1 19 y := fun y => by rw [eh3]; exact (sI_n (fun z => x9 z.symm) y).trans (N2 y)
  have L3 := lC_W L1 (.inl (gk gn1 k34)) w3
  have g3 : gB me x (2 * i) (2 * i + 2) h h3 := gF_t g1 (gB_W w3)
  have S3 : 2 * i + 2 ≤ pm_ln h x → pm_I h3 x (2 * i) = Int32.ofNat p1 ∧ pm_I h3 x (2 * i + 1) = Int32.ofNat e2 := by
    intro z
    have s2 := sI_g (h := h1) (x := x) (k := 2 * i) (v := Int32.ofNat p1) (by rw [nF_ln gn1]; omega)
    have s3 := sI_g (h := h2) (x := x) (k := 2 * i + 1) (v := Int32.ofNat e2) (by rw [nF_ln gn2]; omega)
    rw [← eh2] at s2
    rw [← eh3] at s3
    exact ⟨(s3 _).trans ((if_neg (by omega)).trans ((s2 _).trans (if_pos rfl))), (s3 _).trans (if_pos rfl)⟩
  unfold sp_bd
  rw [sp_bb]
  refine v_t (gk gn3 K9) (v_p (cs_num L3.1 L3.2.2.1 (by omega) (show p1 ≤ e2 by omega) q) (fun r1 a' f q hf => z_n (cd_bo118 gn3 CD hf _ _ _ _ _ _)) ?_)
  intro c p2 r ec er
  subst er
  have pbc := sp_num_b (show p1 ≤ e2 by omega) ec
  have cl : c < 4294967296 := sp_nu_v L.1.2.2.2.2.2.2.2.2.2 (by decide) (by decide) (by decide) ec
  rw [sp_bb]
  refine v_n (cs_lcl L3 q gn3 cl c 0 p2 0 _ (by omega) (by omega) (by omega) (by omega) (fun ls p3 els hp3 hs => ?_))
  rw [Nat.zero_add] at hs ⊢
  refine v_w (aX9_body_2 ..) ?_
  unfold tX9_body_158
  by_cases c12 : 4294967295 < sumL ls
  · rw [if_pos c12, sp_bl]
    exact v_f (show ¬ Int64.ofNat (sumL ls) ≤ Int64.ofNat 4294967295 by rw [ll_le (by omega) (by decide)]; omega) (v_t (gk gn3 K9) (v_b (cs_fail (gk gn3 K9) _ _ _ _) (v_n ⟨by decide, cd_bo175 gn3 CD (by decide) _ _ _⟩)))
  rw [if_neg c12, sp_bb]
  refine v_t (show Int64.ofNat (sumL ls) ≤ Int64.ofNat 4294967295 by rw [ll_le (by omega) (by decide)]; omega) (v_n (v_w (aX9_body_3 ..) ?_))
  unfold tX9_body_175
  -- the expression
  have EX : ∀ (h4 : pm_H), lC h4 n b mm me e2 d false B → gB me x (2 * i) (2 * i + 2) h h4 → (∀ y, pm_I h4 x y = pm_I h3 x y) → pm_I h4 19 11 = pm_I h 19 11 → pm_I h4 19 5 = xv (pm_I h 19 5) (pm_I h 19 11) (decide (1000 < sumL ls)) → cs_Q wH (nF h) (rBo me x i h q) (ev_k sX9_body ((fX9_expression (pm_setI (rc h4 (Int32.ofNat p3) 0 q) 19 16 1) 19).bind fun v54 => if pm_kd v54 19 = 9 then if (pm_I (pm_setI v54 19 16 0) 19 2) ≤ (pm_I (pm_setI v54 19 16 0) 19 1) then (some (.inr (pm_setI (pm_setI v54 19 16 0) 19 2 (Int32.ofNat e)))) else ((fX9_fail (pm_setI v54 19 16 0) 19 3 (pm_I (pm_setI v54 19 16 0) 19 1)).bind fun v58 => if pm_kd v58 19 = 9 then some (.inr (pm_setI v58 19 2 (Int32.ofNat e))) else none) else none)) (sp_b (sp_ex B e2 d true (e2 + 1) [] p3) fun w p4 => sp_b (.inr ((p1, sumL ls, p3, p4 - 1, ls, w), p4)) fun a p2 => if p2 < e2 then .inl (3, p2) else .inr (a, p2)) := by
    intro h4 L4 g4 X4 c4 m4
    have gn4 : nF h h4 := nF_g g4
    rw [rc_19 _ _ _ _ _ (by decide) (by decide) (by decide)]
    have L5 := lC_16 L4 true (v := 1) (propext ⟨fun z => absurd z (by decide), fun z => absurd z (by decide)⟩)
    refine v_c (cs_expr L5 hp3 q) ?_ ?_
    · intro r h6 a f q hf er hF
      have er : r = rc h6 a f q := er
      subst er
      have gn6 : nF h h6 := nF_t gn4 hF
      rw [rc_19 _ _ _ _ _ (by decide) (by decide) (by decide)]
      refine z_k gn6 K9 (z_i (fun _ => z_r ?_) (fun _ => z_fail (nF_sI gn6) K9 hf (z_k (nF_sI gn6) K9 (z_r ?_))))
      · rw [rc_19 _ _ _ _ _ (by decide) (by decide) (by decide)]
        exact y_r (a := a) rfl (nF_sI (nF_sI gn6))
      · rw [rc_19 _ _ _ _ _ (by decide) (by decide) (by decide)]
        exact y_r (a := a) rfl (nF_sI (nF_sI gn6))
    rintro w p4 r e4 ⟨h6, er, g6, l6⟩
    subst er
    have pb4 := up_ex_lt e4
    have gn6 : nF h h6 := nF_t (nF_sI gn4) (nF_g g6)
    rw [sp_br]
    have j2 : pm_I h6 19 2 = Int32.ofNat e2 := (g6.2.2.2.2.1 19 2 (fun z => z.elim (fun z => m.2.2.1 z.symm) (by omega))).trans (by rw [ev_II, if_pos rfl, if_neg (by decide)]; exact L4.2.2.1)
    have j5 : pm_I h6 19 5 = xv (pm_I h 19 5) (pm_I h 19 11) (decide (1000 < sumL ls) || w.2) := by
      rw [l6, ev_II, if_pos rfl, if_neg (by decide), ev_II, if_pos rfl, if_neg (by decide), m4, c4]
      exact xv_or _ _ _ _
    have X6 : ∀ y, pm_I h6 x y = pm_I h3 x y := fun y => (g6.2.2.2.2.1 x y (fun z => z.elim xme (fun z => x9 z.1))).trans (by rw [ev_II, if_neg x9]; exact X4 y)
    rw [rc_19 _ _ _ _ _ (by decide) (by decide) (by decide)]
    have gB6 : gB me x (2 * i) (2 * i + 2) h (pm_setI h6 19 16 0) := gB_I (gF_t (gB_I g4 (.inr rfl)) (gB_W (gW_x g6))) (.inr rfl)
    refine v_t (gk gn6 K9) ?_
    have j22 : pm_I (rc (pm_setI h6 19 16 0) (Int32.ofNat p4) 0 q) 19 2 = Int32.ofNat e2 := by
      show pm_I (pm_setI h6 19 16 0) 19 2 = _
      rw [ev_II, if_pos rfl, if_neg (by decide)]; exact j2
    by_cases c3 : p4 < e2
    · rw [if_pos c3]
      refine v_f (show ¬ pm_I (rc (pm_setI h6 19 16 0) (Int32.ofNat p4) 0 q) 19 2 ≤ pm_I (rc (pm_setI h6 19 16 0) (Int32.ofNat p4) 0 q) 19 1 by rw [j22, rc_1, nn_le (by omega) (by omega)]; omega) (v_b (cs_fail (h := pm_setI h6 19 16 0) (gk gn6 K9) _ _ _ _) (v_t (gk gn6 K9) (v_r ?_)))
      rw [rc_19 _ _ _ _ _ (by decide) (by decide) (by decide)]
      exact u_x (h' := pm_setI (pm_setI h6 19 16 0) 19 2 (Int32.ofNat e)) (a := Int32.ofNat p4) (by decide) rfl (nF_sI (nF_sI gn6))
    · rw [if_neg c3]
      refine v_t (by rw [j22, rc_1, nn_le (by omega) (by omega)]; omega) (v_r ?_)
      rw [rc_19 _ _ _ _ _ (by decide) (by decide) (by decide)]
      refine u_r ⟨_, rfl, gW_B (gB_I gB6 (.inl rfl)) ?_ ?_, ?_, fun z => ?_⟩
      · rw [ev_II, if_pos rfl, if_pos rfl]; exact L.2.2.1.symm
      · rw [ev_II, if_pos rfl, if_neg (by decide), ev_II, if_pos rfl, if_pos rfl]; exact i16.symm
      · rw [ev_II, if_pos rfl, if_neg (by decide), ev_II, if_pos rfl, if_neg (by decide)]; exact j5
      · have s3 := S3 z
        refine ⟨?_, ?_⟩
        · rw [ev_II, if_neg x9, ev_II, if_neg x9, X6]; exact s3.1
        · rw [ev_II, if_neg x9, ev_II, if_neg x9, X6]
          refine s3.2.trans (congrArg Int32.ofNat ?_)
          show e2 = p4 - 1 + 1
          omega
  by_cases c1000 : 1000 < sumL ls
  · have LI := cx_lim (h := h3) (o := pm_I h3 19 6) (oa := pm_I h3 19 7) (l := pm_I h3 19 5) (x := pm_L h3 19 8) (y := pm_L h3 19 9) (gk gn3 K9) (Int32.ofNat p3) 0 q
    rw [ri_eta] at LI
    obtain ⟨h4, eh4⟩ : ∃ z, z = ri h3 (pm_I h3 19 6) (pm_I h3 19 7) (xv (pm_I h3 19 5) (pm_I h3 19 11) true) (pm_L h3 19 8) (pm_L h3 19 9) := ⟨_, rfl⟩
    rw [← eh4] at LI
    have x4 : exF me h3 h4 := exF_i ⟨_, _, _, _, _, eh4⟩
    have gn4 : nF h h4 := nF_t gn3 (nF_g x4)
    refine v_f (show ¬ Int64.ofNat (sumL ls) ≤ Int64.ofNat 1000 by rw [ll_le (by omega) (by decide)]; omega) (v_t (gk gn3 K9) (v_b LI (v_t (gk gn4 K9) ?_)))
    refine EX h4 (lC_W (x := x) (lo := 0) (hi := 0) L3 (.inl (gk gn3 k34)) (gW_x x4)) (gF_t g3 (gB_W (gW_x x4))) (fun y => x4.2.2.2.2.1 x y (fun z => z.elim xme (fun z => x9 z.1))) ?_ ?_
    · rw [eh4, show pm_I (ri h3 (pm_I h3 19 6) (pm_I h3 19 7) (xv (pm_I h3 19 5) (pm_I h3 19 11) true) (pm_L h3 19 8) (pm_L h3 19 9)) 19 11 = pm_I h3 19 11 from rfl, N3, c1]
    · rw [eh4, show pm_I (ri h3 (pm_I h3 19 6) (pm_I h3 19 7) (xv (pm_I h3 19 5) (pm_I h3 19 11) true) (pm_L h3 19 8) (pm_L h3 19 9)) 19 5 = xv (pm_I h3 19 5) (pm_I h3 19 11) true from rfl, N3, N3, m1, c1, decide_eq_true c1000]
  · refine v_t (show Int64.ofNat (sumL ls) ≤ Int64.ofNat 1000 by rw [ll_le (by omega) (by decide)]; omega) (v_t (gk gn3 K9) ?_)
    refine EX h3 L3 g3 (fun _ => rfl) (by rw [N3, c1]) ?_
    rw [N3, m1, decide_eq_false c1000]
    rfl
end BOD
