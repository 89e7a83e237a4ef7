/-! THE CLASS READS: elements -/
def pElC (h : pm_H) (x a : Nat) (v : tEl) : Prop := pm_I h x a = Int32.ofNat v.2.1.1 ∧ pm_I h x (a + 1) = ix3 v.2.1.2.1 ∧ pm_I h x (a + 2) = Int32.ofNat v.2.1.2.2 ∧ pm_I h x (a + 3) = Int32.ofNat v.2.2.1.2.2 ∧ pm_I h x (a + 4) = ix3 v.2.2.1.2.1 ∧ pm_I h x (a + 5) = Int32.ofNat v.2.2.1.1 ∧ pm_I h x (a + 6) = (if v.1 / 4 % 2 = 0 then 0 else 1)
theorem el_c1 {v : Nat} (h : v < 8) : (Int64.ofNat v &&& 1 = 0) = (v % 2 = 0) := by
  rcases (show v = 0 ∨ v = 1 ∨ v = 2 ∨ v = 3 ∨ v = 4 ∨ v = 5 ∨ v = 6 ∨ v = 7 by omega) with z | z | z | z | z | z | z | z <;> subst z <;> exact propext (by decide)
theorem el_c2 {v : Nat} (h : v < 8) : (Int64.ofNat v &&& 2 = 0) = (v / 2 % 2 = 0) := by
  rcases (show v = 0 ∨ v = 1 ∨ v = 2 ∨ v = 3 ∨ v = 4 ∨ v = 5 ∨ v = 6 ∨ v = 7 by omega) with z | z | z | z | z | z | z | z <;> subst z <;> exact propext (by decide)
theorem el_c4 {v : Nat} (h : v < 8) : (Int64.ofNat v &&& 4 = 0) = (v / 4 % 2 = 0) := by
  rcases (show v = 0 ∨ v = 1 ∨ v = 2 ∨ v = 3 ∨ v = 4 ∨ v = 5 ∨ v = 6 ∨ v = 7 by omega) with z | z | z | z | z | z | z | z <;> subst z <;> exact propext (by decide)
section ELE
variable {h h1 : pm_H} {n b mm me e p x a : Nat} {d : Bool} {B : Nat → Nat}
abbrev rEl (me x : Nat) (i : Nat) (h : pm_H) (q : Int32) : tEl → Nat → pm_H → Prop := fun v p' r => ∃ h', r = rc h' (Int32.ofNat p') 0 q ∧ gW me x (i * 7) (i * 7 + 7) h h' ∧ pm_I h' 19 5 = pm_I h 19 5 ∧ (i * 7 + 7 ≤ pm_ln h x → pElC h' x (i * 7) v)
theorem cs_els (L : lC h n b mm me e d false B) (r9 : pm_R h mm 9 = some x) (k34 : pm_kd h x = 34) (hl : pm_ln h x < 2147483648) (q : Int32) {v : Nat} {x6 : Int32} (h6 : (x6 = 0) = (v / 4 % 2 = 0)) {c : Nat} (hc : c < 4294967296) : ∀ (j k p : Nat) (h1 : pm_H), k + j = c → exF me h h1 → p ≤ e → cs_Q wH (nF h) (fun (l : List Nat) p' r => ∃ h', r = rc h' (Int32.ofNat p') 0 q ∧ exF me h h' ∧ pm_I h' 19 5 = pm_I h1 19 5) (pm_lim sX9_element (.inr (.inr (.inr (.inr (.inr (.inr (.inr (19, x6, Int64.ofNat c, Int64.ofNat k, rc h1 (Int32.ofNat p) 0 q))))))))) (sp_rows (sp_it B e d v) j p) := by
  have CD := lC_C L
  obtain ⟨⟨K9, rm0, km, rb, kb⟩, r17, kme, lme⟩ := lC_C L
  have he := L.2.2.2.1
  have x9 : x ≠ 19 := fun z => by rw [z, K9] at k34; exact absurd k34 (by decide)
  have hl' : pm_ln h x < 2147483648 ∧ x ≠ 19 := ⟨hl, x9⟩
  intro j
  induction j with
  | zero =>
    intro k p h1 hk g hp
    refine v_w (aX9_element_7 ..) ?_
    unfold tX9_element_290 sp_rows
    exact v_t (show Int64.ofNat c ≤ Int64.ofNat k by rw [ll_le (by omega) (by omega)]; omega) (v_r (u_r ⟨h1, rfl, g, rfl⟩))
  | succ j ih =>
    intro k p h1 hk g hp
    have gn1 : nF h h1 := nF_g g
    have L1 := lC_W (x := x) (lo := 0) (hi := 0) L (.inl k34) (gW_x g)
    refine v_w (aX9_element_7 ..) ?_
    unfold tX9_element_290 sp_rows sp_it
    refine v_f (show ¬ Int64.ofNat c ≤ Int64.ofNat k by rw [ll_le (by omega) (by omega)]; omega) (v_t (gk gn1 K9) (v_t rfl ?_))
    have k1 : Int64.ofNat k + 1 = Int64.ofNat (k + 1) := ll_ad k 1
    rw [k1]
    by_cases c6 : v / 4 % 2 = 0
    · rw [if_pos c6]
      refine v_t (by rw [h6]; exact c6) (v_p (cs_num L1.1 L1.2.2.1 he hp q) (fun r1 a' f q hf => z_l (z_n (cd_el290 gn1 CD r9 k34 hl' hf _ _ _ _))) ?_)
      intro v1 p1 r e1 er
      subst er
      have pb := sp_num_b hp e1
      refine v_l (v_n (u_wb (ih (k + 1) p1 h1 (by omega) g (by omega)) (fun _ z => z) ?_))
      rintro l p2 r ⟨h2, er, g2, l2⟩
      exact u_r ⟨h2, er, g2, l2⟩
    · rw [if_neg c6, sp_bb]
      refine v_f (by rw [h6]; exact c6) (v_c (cs_expr L1 hp q) ?_ ?_)
      · intro r h2 a f q hf er hF
        have er : r = rc h2 a f q := er
        subst er
        exact z_l (z_n (cd_el290 (nF_t gn1 hF) CD r9 k34 hl' hf _ _ _ _))
      rintro w p1 r e1 ⟨h2, er, g2, l2⟩
      subst er
      have wf : w.2 = false := sp_ex_f _ _ e1
      have pb := up_ex_lt e1
      rw [sp_br]
      refine v_l (v_n (u_wb (ih (k + 1) p1 h2 (by omega) (exF_t g g2) (by omega)) (fun _ z => z) ?_))
      rintro l p2 r ⟨h3, er, g3, l3⟩
      exact u_r ⟨h3, er, g3, by rw [l3, l2, wf]; rfl⟩
theorem cs_el (L : lC h n b mm me e d false B) (r9 : pm_R h mm 9 = some x) (k34 : pm_kd h x = 34) (hl : pm_ln h x < 2147483648) {i : Nat} (i15 : pm_I h 19 15 = Int32.ofNat i) (hi : i * 7 + 7 < 2147483648) (hp : p ≤ e) (q : Int32) (Z : i * 7 + 7 ≤ pm_ln h x → pm_I h x (i * 7 + 1) = 0) : cs_Q wH (nF h) (rEl me x i h q) (fX9_element (rc h (Int32.ofNat p) 0 q) 19) (sp_el B e d p) := by
  have CD := lC_C L
  obtain ⟨⟨K9, rm0, km, rb, kb⟩, r17, kme, lme⟩ := lC_C L
  have m := lC_m L
  have he := L.2.2.2.1
  have n4 := L.1.2.2.2.2.2.2.1
  have x9 : x ≠ 19 := fun z => by rw [z, K9] at k34; exact absurd k34 (by decide)
  have xme : x ≠ me := fun z => by rw [z, kme] at k34; exact absurd k34 (by decide)
  have hl' : pm_ln h x < 2147483648 ∧ x ≠ 19 := ⟨hl, x9⟩
  have gn0 := nF_r h
  unfold fX9_element sp_el
  refine u_t K9 (u_l (u_l (u_p (cs_num L.1 L.2.2.1 he hp q) (fun r1 a' f q hf => ?_) ?_)))
  · repeat' (first | with_reducible exact y_r rfl (by assumption) | with_reducible exact cd_el35 (by assumption) CD r9 k34 hl' hf _ _ _ | with_reducible refine y_k (by assumption) (by assumption) ?_ | with_reducible refine y_R (by assumption) (by assumption) ?_ | with_reducible refine y_l ?_ | with_reducible refine y_f (rc_f0 hf) ?_ | with_reducible refine y_num (by assumption) K9 hf (by decide) ?_ | with_reducible refine y_fail (by assumption) K9 hf ?_ | with_reducible refine y_skip (by assumption) K9 hf ?_ | with_reducible refine y_next (by assumption) K9 hf ?_ | with_reducible refine y_vt (by assumption) K9 hf (fun _ _ => ?_) | with_reducible refine y_rt (by assumption) K9 hf (fun _ _ => ?_) | with_reducible refine y_nut (by assumption) K9 hf (fun _ _ => ?_) | with_reducible refine y_name (by assumption) K9 hf (fun _ _ => ?_) | with_reducible refine y_lim (by assumption) K9 (fun _ _ => ?_) | with_reducible refine y_expr (by assumption) CD hf (fun _ _ _ => ?_) | with_reducible refine y_st6 (by assumption) (by assumption) (by assumption) (fun _ _ => ?_) | with_reducible refine y_st3 (by assumption) (by assumption) (by assumption) (fun _ _ => ?_) | with_reducible refine y_i (fun _ => ?_) (fun _ => ?_))
  intro v p1 r e1 er
  subst er
  have pb1 := sp_num_b hp e1
  have vl : v < 4294967296 := sp_nu_v L.1.2.2.2.2.2.2.2.2.2 (by decide) (by decide) (by decide) e1
  by_cases c7 : 7 < v
  · rw [if_pos c7]
    refine u_f (show ¬ Int64.ofNat v ≤ Int64.ofNat 7 by rw [ll_le (by omega) (by decide)]; omega) (u_t K9 (u_b (cs_fail K9 _ _ _ _) ⟨by decide, cd_el35 gn0 CD r9 k34 hl' (by decide) _ _ _⟩))
  rw [if_neg c7]
  refine u_t (show Int64.ofNat v ≤ Int64.ofNat 7 by rw [ll_le (by omega) (by decide)]; omega) ?_
  dsimp only
  rw [show pm_I (rc h (Int32.ofNat p) 0 q) 19 15 = Int32.ofNat i from i15, show Int32.ofNat i * 7 = Int32.ofNat (i * 7) from nn_ml i 7]
  have v8 : v < 8 := by omega
  have N : ∀ k, k < 100 → v ≠ k → ¬ Int64.ofNat v = Int64.ofNat k := fun k hk z => by rw [ll_eq (by omega) (by omega)]; exact z
  have T : ∀ k, v = k → Int64.ofNat v = Int64.ofNat k := fun k z => by rw [z]
  -- from the number of the items on
  have G205 : ∀ (h1 : pm_H) (p2 t : Nat) (x6 : Int32) (AA : Nat × Nat × Nat), (x6 = 0) = (v / 4 % 2 = 0) → p2 ≤ e → gW me x (i * 7) (i * 7 + 7) h h1 → pm_I h1 19 5 = pm_I h 19 5 → (i * 7 + 7 ≤ pm_ln h x → pm_I h1 x (i * 7) = Int32.ofNat AA.1 ∧ pm_I h1 x (i * 7 + 1) = ix3 AA.2.1 ∧ pm_I h1 x (i * 7 + 2) = Int32.ofNat AA.2.2) → cs_Q wH (nF h) (rEl me x i h q) (pm_lim sX9_element (.inr (.inr (.inr (.inr (.inr (.inr (.inl (19, Int32.ofNat (i * 7), x6, Int32.ofNat t, rc h1 (Int32.ofNat p2) 0 q))))))))) (sp_b (sp_num B e p2) fun c p3 => sp_b (sp_rows (sp_it B e d v) c p3) fun l p4 => .inr ((v, AA, (t, c, p3), l), p4)) := by
    intro h1 p2 t x6 AA h6 hp2 g1 m1 W
    have gn1 : nF h h1 := nF_g g1
    have L1 := lC_W L (.inl k34) g1
    refine v_w (aX9_element_6 ..) ?_
    unfold tX9_element_205
    refine v_t (gk gn1 K9) (v_p (cs_num L1.1 L1.2.2.1 he hp2 q) (fun r1 a' f q hf => ?_) ?_)
    · repeat' (first | with_reducible refine z_r ?_ | with_reducible refine z_n ?_ | with_reducible exact y_r rfl (by assumption) | with_reducible exact cd_el290 (by assumption) CD r9 k34 hl' hf _ _ _ _ | with_reducible refine z_k (by assumption) (by assumption) ?_ | with_reducible refine z_R (by assumption) (by assumption) ?_ | with_reducible refine z_l ?_ | with_reducible refine z_f (rc_f0 hf) ?_ | with_reducible refine z_num (by assumption) K9 hf (by decide) ?_ | with_reducible refine z_fail (by assumption) K9 hf ?_ | with_reducible refine z_skip (by assumption) K9 hf ?_ | with_reducible refine z_next (by assumption) K9 hf ?_ | with_reducible refine z_vt (by assumption) K9 hf (fun _ _ => ?_) | with_reducible refine z_rt (by assumption) K9 hf (fun _ _ => ?_) | with_reducible refine z_nut (by assumption) K9 hf (fun _ _ => ?_) | with_reducible refine z_name (by assumption) K9 hf (fun _ _ => ?_) | with_reducible refine z_lim (by assumption) K9 (fun _ _ => ?_) | with_reducible refine z_expr (by assumption) CD hf (fun _ _ _ => ?_) | with_reducible refine z_st6 (by assumption) (by assumption) (by assumption) (fun _ _ => ?_) | with_reducible refine z_st3 (by assumption) (by assumption) (by assumption) (fun _ _ => ?_) | with_reducible refine z_i (fun _ => ?_) (fun _ => ?_))
    intro c p3 r e3 er
    subst er
    have pb3 := sp_num_b hp2 e3
    have cl : c < 4294967296 := sp_nu_v L.1.2.2.2.2.2.2.2.2.2 (by decide) (by decide) (by decide) e3
    refine v_t (gk gn1 K9) (v_b (gR gn1 rm0) (v_t (gk gn1 km) (v_b (gR gn1 r9) (v_b (st3_a (gk gn1 k34) x9 (by rw [nF_ln gn1]; exact hl) 3 (by omega) _) ?_))))
    try dsimp only
    rw [rc_1]
    obtain ⟨h2, eh2⟩ : ∃ z, z = sI h1 x (i * 7 + 3) (Int32.ofNat p3) := ⟨_, rfl⟩
    have g2 : gW me x (i * 7) (i * 7 + 7) h h2 := by rw [eh2]; exact gW_I g1 (by omega) (by omega)
    rw [← eh2]
    have gn2 : nF h h2 := nF_g g2
    have L2 := lC_W L (.inl k34) g2
    have m2 : pm_I h2 19 5 = pm_I h1 19 5 := by rw [eh2]; exact sI_n (fun z => x9 z.symm) 5
    have S2 : i * 7 + 7 ≤ pm_ln h x → ∀ y, pm_I h2 x y = if y = i * 7 + 3 then Int32.ofNat p3 else pm_I h1 x y := fun z y => by rw [eh2]; exact sI_g (by rw [nF_ln gn1]; omega) y
    refine v_t (gk gn2 K9) (v_b (gR gn2 rm0) (v_t (gk gn2 km) (v_b (gR gn2 r9) (v_l (v_b (st3_a (gk gn2 k34) x9 (by rw [nF_ln gn2]; exact hl) 4 (by omega) _) ?_)))))
    try dsimp only
    rw [ix3_e cl]
    obtain ⟨h3, eh3⟩ : ∃ z, z = sI h2 x (i * 7 + 4) (ix3 c) := ⟨_, rfl⟩
    have g3 : gW me x (i * 7) (i * 7 + 7) h h3 := by rw [eh3]; exact gW_I g2 (by omega) (by omega)
    rw [← eh3]
    have gn3 : nF h h3 := nF_g g3
    have L3 := lC_W L (.inl k34) g3
    have m3 : pm_I h3 19 5 = pm_I h2 19 5 := by rw [eh3]; exact sI_n (fun z => x9 z.symm) 5
    have S3 : i * 7 + 7 ≤ pm_ln h x → ∀ y, pm_I h3 x y = if y = i * 7 + 4 then ix3 c else pm_I h2 x y := fun z y => by rw [eh3]; exact sI_g (by rw [nF_ln gn2]; omega) y
    refine v_t (gk gn3 K9) (v_b (gR gn3 rm0) (v_t (gk gn3 km) (v_b (gR gn3 r9) (v_b (st3_a (gk gn3 k34) x9 (by rw [nF_ln gn3]; exact hl) 5 (by omega) _) ?_))))
    obtain ⟨h4, eh4⟩ : ∃ z, z = sI h3 x (i * 7 + 5) (Int32.ofNat t) := ⟨_, rfl⟩
    have g4 : gW me x (i * 7) (i * 7 + 7) h h4 := by rw [eh4]; exact gW_I g3 (by omega) (by omega)
    rw [← eh4]
    have gn4 : nF h h4 := nF_g g4
    have L4 := lC_W L (.inl k34) g4
    have m4 : pm_I h4 19 5 = pm_I h3 19 5 := by rw [eh4]; exact sI_n (fun z => x9 z.symm) 5
    have S4 : i * 7 + 7 ≤ pm_ln h x → ∀ y, pm_I h4 x y = if y = i * 7 + 5 then Int32.ofNat t else pm_I h3 x y := fun z y => by rw [eh4]; exact sI_g (by rw [nF_ln gn3]; omega) y
    refine v_t (gk gn4 K9) (v_b (gR gn4 rm0) (v_t (gk gn4 km) (v_b (gR gn4 r9) (?_))))
    have FIN : ∀ (w : Int32), w = (if v / 4 % 2 = 0 then 0 else 1) → cs_Q wH (nF h) (rEl me x i h q) (pm_lim sX9_element (.inr (.inr (.inr (.inr (.inr (.inr (.inr (19, x6, Int64.ofNat c, 0, rc (sI h4 x (i * 7 + 6) w) (Int32.ofNat p3) 0 q))))))))) (sp_b (sp_rows (sp_it B e d v) c p3) fun l p4 => .inr ((v, AA, (t, c, p3), l), p4)) := by
      intro w hw
      obtain ⟨h5, eh5⟩ : ∃ z, z = sI h4 x (i * 7 + 6) (w) := ⟨_, rfl⟩
      have g5 : gW me x (i * 7) (i * 7 + 7) h h5 := by rw [eh5]; exact gW_I g4 (by omega) (by omega)
      rw [← eh5]
      have gn5 : nF h h5 := nF_g g5
      have L5 := lC_W L (.inl k34) g5
      have m5 : pm_I h5 19 5 = pm_I h4 19 5 := by rw [eh5]; exact sI_n (fun z => x9 z.symm) 5
      have S5 : i * 7 + 7 ≤ pm_ln h x → ∀ y, pm_I h5 x y = if y = i * 7 + 6 then w else pm_I h4 x y := fun z y => by rw [eh5]; exact sI_g (by rw [nF_ln gn4]; omega) y
      refine u_wb (cs_els L5 (gR gn5 r9) (gk gn5 k34) (by rw [nF_ln gn5]; exact hl) q h6 cl c 0 p3 h5 (by omega) (exF_r me h5) (by omega)) (fun _ z => nF_t gn5 z) ?_
      rintro l p4 r ⟨h6', er, g6, l6⟩
      refine u_r ⟨h6', er, gF_t g5 (gW_x g6), by rw [l6, m5, m4, m3, m2, m1], fun z => ?_⟩
      have S6 : ∀ y, pm_I h6' x y = pm_I h5 x y := fun y => g6.2.2.2.2.1 x y (fun z => z.elim xme (fun z => x9 z.1))
      have w' := W z
      have s2 := S2 z
      have s3 := S3 z
      have s4 := S4 z
      have s5 := S5 z
      exact ⟨(S6 _).trans ((s5 _).trans ((if_neg (by omega)).trans ((s4 _).trans ((if_neg (by omega)).trans ((s3 _).trans ((if_neg (by omega)).trans ((s2 _).trans ((if_neg (by omega)).trans w'.1)))))))), (S6 _).trans ((s5 _).trans ((if_neg (by omega)).trans ((s4 _).trans ((if_neg (by omega)).trans ((s3 _).trans ((if_neg (by omega)).trans ((s2 _).trans ((if_neg (by omega)).trans w'.2.1)))))))), (S6 _).trans ((s5 _).trans ((if_neg (by omega)).trans ((s4 _).trans ((if_neg (by omega)).trans ((s3 _).trans ((if_neg (by omega)).trans ((s2 _).trans ((if_neg (by omega)).trans w'.2.2)))))))), (S6 _).trans ((s5 _).trans ((if_neg (by omega)).trans ((s4 _).trans ((if_neg (by omega)).trans ((s3 _).trans ((if_neg (by omega)).trans ((s2 _).trans (if_pos rfl)))))))), (S6 _).trans ((s5 _).trans ((if_neg (by omega)).trans ((s4 _).trans ((if_neg (by omega)).trans ((s3 _).trans (if_pos rfl)))))), (S6 _).trans ((s5 _).trans ((if_neg (by omega)).trans ((s4 _).trans (if_pos rfl)))), (S6 _).trans ((s5 _).trans ((if_pos rfl).trans hw))⟩
    by_cases c6 : v / 4 % 2 = 0
    · exact v_t (by rw [h6]; exact c6) (v_b (st3_a (gk gn4 k34) x9 (by rw [nF_ln gn4]; exact hl) 6 (by omega) _) (v_n (FIN 0 (by rw [if_pos c6]))))
    · exact v_f (by rw [h6]; exact c6) (v_b (st3_a (gk gn4 k34) x9 (by rw [nF_ln gn4]; exact hl) 6 (by omega) _) (v_n (FIN 1 (by rw [if_neg c6]))))
  -- from the kind of the items on
  have G167 : ∀ (h1 : pm_H) (p2 : Nat) (x6 : Int32) (AA : Nat × Nat × Nat), (x6 = 0) = (v / 4 % 2 = 0) → p2 ≤ e → gW me x (i * 7) (i * 7 + 7) h h1 → pm_I h1 19 5 = pm_I h 19 5 → (i * 7 + 7 ≤ pm_ln h x → pm_I h1 x (i * 7) = Int32.ofNat AA.1 ∧ pm_I h1 x (i * 7 + 1) = ix3 AA.2.1 ∧ pm_I h1 x (i * 7 + 2) = Int32.ofNat AA.2.2) → cs_Q wH (nF h) (rEl me x i h q) (pm_lim sX9_element (.inr (.inr (.inr (.inr (.inr (.inl (19, Int32.ofNat (i * 7), Int64.ofNat v, x6, rc h1 (Int32.ofNat p2) 0 q)))))))) (sp_b (sp_elB B e v p2) fun V p3 => sp_b (sp_rows (sp_it B e d v) V.2.1 p3) fun l p4 => .inr ((v, AA, V, l), p4)) := by
    intro h1 p2 x6 AA h6 hp2 g1 m1 W
    have gn1 : nF h h1 := nF_g g1
    have L1 := lC_W L (.inl k34) g1
    refine v_w (aX9_element_5 ..) ?_
    unfold tX9_element_167 sp_elB
    by_cases c0 : v = 0
    · rw [if_pos (Or.inl c0), sp_bb]
      exact v_t (T 0 c0) (v_n (G205 h1 p2 112 x6 AA h6 hp2 g1 m1 W))
    by_cases c4 : v = 4
    · rw [if_pos (Or.inr c4), sp_bb]
      exact v_f (N 0 (by decide) c0) (v_t (T 4 c4) (v_n (G205 h1 p2 112 x6 AA h6 hp2 g1 m1 W)))
    rw [if_neg (show ¬ (v = 0 ∨ v = 4) by omega)]
    refine v_f (N 0 (by decide) c0) (v_f (N 4 (by decide) c4) ?_)
    by_cases c6 : v / 4 % 2 = 0
    · rw [if_pos c6, sp_bb]
      refine v_t (by rw [h6]; exact c6) (v_t (gk gn1 K9) (v_p (cs_nut L1.1 L1.2.2.1 he hp2 q (k := 0) (by decide)) (fun r1 a' f q hf => z_n (cd_el205 gn1 CD r9 k34 hl' hf _ _ _ _)) ?_))
      intro v1 p3 r e3 er
      subst er
      have pb3 := sp_byte_b hp2 e3
      rw [sp_bb]
      exact v_n (G205 h1 p3 112 x6 AA h6 pb3.2 g1 m1 W)
    · rw [if_neg c6, sp_bb]
      refine v_f (by rw [h6]; exact c6) (v_t (gk gn1 K9) (v_p (cs_rt L1.1 L1.2.2.1 he hp2 q) (fun r1 a' f q hf => z_n (cd_el205 gn1 CD r9 k34 hl' hf _ _ _ _)) ?_))
      intro v1 p3 r e3 er
      subst er
      have pb3 := sp_byte_b hp2 e3
      rw [sp_bb]
      exact v_n (G205 h1 p3 v1 x6 AA h6 pb3.2 g1 m1 W)
  -- from the place on
  have G141 : ∀ (h1 : pm_H) (p2 tb md : Nat) (x5 x6 : Int32), (x5 = 0) = ¬ (v % 2 = 0) → (x6 = 0) = (v / 4 % 2 = 0) → p2 ≤ e → gW me x (i * 7) (i * 7 + 7) h h1 → pm_I h1 19 5 = pm_I h 19 5 → (i * 7 + 7 ≤ pm_ln h x → pm_I h1 x (i * 7) = Int32.ofNat md ∧ pm_I h1 x (i * 7 + 1) = ix3 tb) → cs_Q wH (nF h) (rEl me x i h q) (pm_lim sX9_element (.inr (.inr (.inr (.inr (.inl (19, Int32.ofNat (i * 7), Int64.ofNat v, x5, x6, rc h1 (Int32.ofNat p2) 0 q))))))) (if v % 2 = 0 then (sp_b (sp_ex B e d false (e + 1) [] p2) fun _ p3 => sp_b (sp_elB B e v p3) fun V p4 => sp_b (sp_rows (sp_it B e d v) V.2.1 p4) fun l p5 => .inr ((v, (md, tb, p2), V, l), p5)) else sp_b (sp_elB B e v p2) fun V p4 => sp_b (sp_rows (sp_it B e d v) V.2.1 p4) fun l p5 => .inr ((v, (md, tb, p2), V, l), p5)) := by
    intro h1 p2 tb md x5 x6 h5 h6 hp2 g1 m1 W
    have gn1 : nF h h1 := nF_g g1
    refine v_w (aX9_element_4 ..) ?_
    unfold tX9_element_141
    refine v_t (gk gn1 K9) (v_b (gR gn1 rm0) (v_t (gk gn1 km) (v_b (gR gn1 r9) (v_b (st3_a (gk gn1 k34) x9 (by rw [nF_ln gn1]; exact hl) 2 (by omega) _) ?_))))
    try dsimp only
    rw [rc_1]
    obtain ⟨h2, eh2⟩ : ∃ z, z = sI h1 x (i * 7 + 2) (Int32.ofNat p2) := ⟨_, rfl⟩
    have g2 : gW me x (i * 7) (i * 7 + 7) h h2 := by rw [eh2]; exact gW_I g1 (by omega) (by omega)
    rw [← eh2]
    have gn2 : nF h h2 := nF_g g2
    have L2 := lC_W L (.inl k34) g2
    have m2 : pm_I h2 19 5 = pm_I h1 19 5 := by rw [eh2]; exact sI_n (fun z => x9 z.symm) 5
    have S2 : i * 7 + 7 ≤ pm_ln h x → ∀ y, pm_I h2 x y = if y = i * 7 + 2 then Int32.ofNat p2 else pm_I h1 x y := fun z y => by rw [eh2]; exact sI_g (by rw [nF_ln gn1]; omega) y
    by_cases c1 : v % 2 = 0
    · rw [if_pos c1]
      refine v_f (by rw [h5]; exact fun z => z c1) (v_t (gk gn2 K9) (v_c (cs_expr L2 hp2 q) ?_ ?_))
      · intro r h3 a f q hf er hF
        have er : r = rc h3 a f q := er
        subst er
        exact z_n (cd_el167 (nF_t gn2 hF) CD r9 k34 hl' hf _ _ _ _)
      rintro w p3 r e3 ⟨h3, er, g3', l3⟩
      subst er
      have pb3 := up_ex_lt e3
      have wf : w.2 = false := sp_ex_f _ _ e3
      have S3 : ∀ y, pm_I h3 x y = pm_I h2 x y := fun y => g3'.2.2.2.2.1 x y (fun z => z.elim xme (fun z => x9 z.1))
      refine v_n (G167 h3 p3 x6 (md, tb, p2) h6 (by omega) (gF_t g2 (gW_x g3')) (by rw [l3, wf, m2]; exact m1) (fun z => ?_))
      have w' := W z
      have s2 := S2 z
      exact ⟨(S3 _).trans ((s2 _).trans ((if_neg (by omega)).trans w'.1)), (S3 _).trans ((s2 _).trans ((if_neg (by omega)).trans w'.2)), (S3 _).trans ((s2 _).trans (if_pos rfl))⟩
    · rw [if_neg c1]
      refine v_t (by rw [h5]; exact c1) (v_n (G167 h2 p2 x6 (md, tb, p2) h6 hp2 g2 (by rw [m2]; exact m1) (fun z => ?_)))
      have w' := W z
      have s2 := S2 z
      exact ⟨(s2 _).trans ((if_neg (by omega)).trans w'.1), (s2 _).trans ((if_neg (by omega)).trans w'.2), (s2 _).trans (if_pos rfl)⟩
  -- from the table on
  have G101 : ∀ (md : Nat) (s0 x5 x6 : Int32), s0 = Int32.ofNat md → (x5 = 0) = ¬ (v % 2 = 0) → (x6 = 0) = (v / 4 % 2 = 0) → md = (if v % 2 = 0 then 0 else if v / 2 % 2 = 0 then 1 else 2) → cs_Q wH (nF h) (rEl me x i h q) (pm_lim sX9_element (.inr (.inr (.inr (.inl (19, Int32.ofNat (i * 7), Int64.ofNat v, x5, x6, s0, Int32.ofNat (i * 7) + 0, x, rc h (Int32.ofNat p1) 0 q)))))) (sp_elm B e d v p1) := by
    intro md s0 x5 x6 hs0 h5 h6 hmd
    refine v_w (aX9_element_3 ..) ?_
    unfold tX9_element_101 sp_elm sp_elA
    refine v_b (st3_a k34 x9 hl 0 (by omega) _) ?_
    have g0 : gW me x (i * 7) (i * 7 + 7) h h := gF_r _ _ h
    obtain ⟨h1, eh1⟩ : ∃ z, z = sI h x (i * 7 + 0) (s0) := ⟨_, rfl⟩
    have g1 : gW me x (i * 7) (i * 7 + 7) h h1 := by rw [eh1]; exact gW_I g0 (by omega) (by omega)
    rw [← eh1]
    have gn1 : nF h h1 := nF_g g1
    have L1 := lC_W L (.inl k34) g1
    have m1 : pm_I h1 19 5 = pm_I h 19 5 := by rw [eh1]; exact sI_n (fun z => x9 z.symm) 5
    have S1 : i * 7 + 7 ≤ pm_ln h x → ∀ y, pm_I h1 x y = if y = i * 7 + 0 then s0 else pm_I h x y := fun z y => by rw [eh1]; exact sI_g (by rw [nF_ln gn0]; omega) y
    by_cases c1 : v % 2 = 0
    · rw [if_pos c1]
      rw [if_pos c1] at hmd
      refine v_f (by rw [h5]; exact fun z => z c1) ?_
      by_cases c2 : v / 2 % 2 = 0
      · rw [if_pos c2, sp_bb]
        have Q := G141 h1 p1 0 0 x5 x6 h5 h6 (by omega) g1 m1 (fun z => ⟨by rw [S1 z, if_pos (Nat.add_zero _).symm, hs0, hmd], by rw [S1 z, if_neg (by omega), Z z]; rfl⟩)
        rw [if_pos c1] at Q
        exact v_t (by rw [el_c2 v8]; exact c2) (v_n Q)
      · rw [if_neg c2, sp_bb]
        refine v_f (by rw [el_c2 v8]; exact c2) (v_t (gk gn1 K9) (v_b (gR gn1 rm0) (v_t (gk gn1 km) (v_b (gR gn1 r9) (v_p (cs_num L1.1 L1.2.2.1 he (show p1 ≤ e by omega) q) (fun r1 a' f q hf => ?_) ?_)))))
        · repeat' (first | with_reducible refine z_r ?_ | with_reducible refine z_n ?_ | with_reducible exact y_r rfl (by assumption) | with_reducible exact cd_el141 (by assumption) CD r9 k34 hl' hf _ _ _ _ _ | with_reducible refine z_k (by assumption) (by assumption) ?_ | with_reducible refine z_R (by assumption) (by assumption) ?_ | with_reducible refine z_l ?_ | with_reducible refine z_f (rc_f0 hf) ?_ | with_reducible refine z_num (by assumption) K9 hf (by decide) ?_ | with_reducible refine z_fail (by assumption) K9 hf ?_ | with_reducible refine z_skip (by assumption) K9 hf ?_ | with_reducible refine z_next (by assumption) K9 hf ?_ | with_reducible refine z_vt (by assumption) K9 hf (fun _ _ => ?_) | with_reducible refine z_rt (by assumption) K9 hf (fun _ _ => ?_) | with_reducible refine z_nut (by assumption) K9 hf (fun _ _ => ?_) | with_reducible refine z_name (by assumption) K9 hf (fun _ _ => ?_) | with_reducible refine z_lim (by assumption) K9 (fun _ _ => ?_) | with_reducible refine z_expr (by assumption) CD hf (fun _ _ _ => ?_) | with_reducible refine z_st6 (by assumption) (by assumption) (by assumption) (fun _ _ => ?_) | with_reducible refine z_st3 (by assumption) (by assumption) (by assumption) (fun _ _ => ?_) | with_reducible refine z_i (fun _ => ?_) (fun _ => ?_))
        intro tb p2 r e2 er
        subst er
        have pb2 := sp_num_b (show p1 ≤ e by omega) e2
        have tbl : tb < 4294967296 := sp_nu_v L.1.2.2.2.2.2.2.2.2.2 (by decide) (by decide) (by decide) e2
        refine v_l (v_b (st3_a (gk gn1 k34) x9 (by rw [nF_ln gn1]; exact hl) 1 (by omega) _) ?_)
        try dsimp only
        rw [ix3_e tbl]
        obtain ⟨h5, eh5⟩ : ∃ z, z = sI h1 x (i * 7 + 1) (ix3 tb) := ⟨_, rfl⟩
        have g5 : gW me x (i * 7) (i * 7 + 7) h h5 := by rw [eh5]; exact gW_I g1 (by omega) (by omega)
        rw [← eh5]
        have gn5 : nF h h5 := nF_g g5
        have L5 := lC_W L (.inl k34) g5
        have m5 : pm_I h5 19 5 = pm_I h1 19 5 := by rw [eh5]; exact sI_n (fun z => x9 z.symm) 5
        have S5 : i * 7 + 7 ≤ pm_ln h x → ∀ y, pm_I h5 x y = if y = i * 7 + 1 then ix3 tb else pm_I h1 x y := fun z y => by rw [eh5]; exact sI_g (by rw [nF_ln gn1]; omega) y
        have Q := G141 h5 p2 tb 0 x5 x6 ‹_› h6 (by omega) g5 (by rw [m5, m1]) (fun z => ⟨by rw [S5 z, if_neg (by omega), S1 z, if_pos (Nat.add_zero _).symm, hs0, hmd], by rw [S5 z, if_pos rfl]⟩)
        rw [if_pos c1] at Q
        rw [sp_bb]
        exact v_n Q
    · rw [if_neg c1, sp_br]
      rw [if_neg c1] at hmd
      have Q := G141 h1 p1 0 md x5 x6 h5 h6 (by omega) g1 m1 (fun z => ⟨by rw [S1 z, if_pos (Nat.add_zero _).symm, hs0], by rw [S1 z, if_neg (by omega), Z z]; rfl⟩)
      rw [if_neg c1, hmd] at Q
      exact v_t (by rw [h5]; exact c1) (v_n Q)
  have G65 : ∀ (x5 x6 : Int32), (x5 = 0) = ¬ (v % 2 = 0) → (x6 = 0) = (v / 4 % 2 = 0) → cs_Q wH (nF h) (rEl me x i h q) (pm_lim sX9_element (.inr (.inr (.inl (19, Int32.ofNat (i * 7), Int64.ofNat v, x5, x6, rc h (Int32.ofNat p1) 0 q))))) (sp_elm B e d v p1) := by
    intro x5 x6 h5 h6
    refine v_w (aX9_element_2 ..) ?_
    unfold tX9_element_65
    refine v_t K9 (v_b rm0 (v_t km (v_b r9 ?_)))
    by_cases c1 : v % 2 = 0
    · exact v_f (by rw [h5]; exact fun z => z c1) (v_n (G101 0 0 x5 x6 rfl h5 h6 (by rw [if_pos c1])))
    · refine v_t (by rw [h5]; exact c1) ?_
      by_cases c2 : v / 2 % 2 = 0
      · exact v_t (by rw [el_c2 v8]; exact c2) (v_n (G101 1 1 x5 x6 rfl h5 h6 (by rw [if_neg c1, if_pos c2])))
      · exact v_f (by rw [el_c2 v8]; exact c2) (v_n (G101 2 2 x5 x6 rfl h5 h6 (by rw [if_neg c1, if_neg c2])))
  have G48 : ∀ (x5 : Int32), (x5 = 0) = ¬ (v % 2 = 0) → cs_Q wH (nF h) (rEl me x i h q) (pm_lim sX9_element (.inr (.inl (19, Int32.ofNat (i * 7), Int64.ofNat v, x5, rc h (Int32.ofNat p1) 0 q)))) (sp_elm B e d v p1) := by
    intro x5 h5
    refine v_w (aX9_element_1 ..) ?_
    unfold tX9_element_48
    by_cases c6 : v / 4 % 2 = 0
    · exact v_t (by rw [el_c4 v8]; exact c6) (v_n (G65 x5 0 h5 (by rw [c6]; exact propext (by decide))))
    · exact v_f (by rw [el_c4 v8]; exact c6) (v_n (G65 x5 1 h5 (propext ⟨fun z => absurd z (by decide), fun z => absurd z c6⟩)))
  refine v_w (aX9_element_0 ..) ?_
  unfold tX9_element_35
  by_cases c1 : v % 2 = 0
  · exact v_t (by rw [el_c1 v8]; exact c1) (v_n (G48 1 (propext ⟨fun z => absurd z (by decide), fun z => absurd c1 z⟩)))
  · exact v_f (by rw [el_c1 v8]; exact c1) (v_n (G48 0 (propext ⟨fun _ => c1, fun _ => rfl⟩)))
end ELE
