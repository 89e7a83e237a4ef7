/-! THE CLASS READS: data -/
theorem nF_ln {h h1 : pm_H} (g : nF h h1) {x : Nat} : pm_ln h1 x = pm_ln h x := congrFun g.2.2.1 x
def pDaC (h : pm_H) (x a : Nat) (v : tDa) : Prop := pm_I h x a = (if v.1 = 1 then 1 else 0) ∧ pm_I h x (a + 1) = ix3 v.2.1 ∧ pm_I h x (a + 2) = Int32.ofNat v.2.2.1 ∧ pm_I h x (a + 3) = Int32.ofNat v.2.2.2.2 ∧ pm_I h x (a + 4) = ix3 v.2.2.2.1
section DAT
variable {h h1 : pm_H} {n b mm me e p x a : Nat} {d : Bool} {B : Nat → Nat}
abbrev rDa (me x : Nat) (i : Nat) (h : pm_H) (q : Int32) : tDa → Nat → pm_H → Prop := fun v p' r => ∃ h', r = rc h' (Int32.ofNat p') 0 q ∧ gW me x (i * 7) (i * 7 + 7) h h' ∧ pm_I h' 19 5 = pm_I h 19 5 ∧ (i * 7 + 7 ≤ pm_ln h x → pDaC h' x (i * 7) v)

theorem u_w2 {α β ρ : Type} {w : ρ → pm_H} {F F1 : pm_H → Prop} {R : β → Nat → ρ → Prop} {R1 : α → Nat → ρ → Prop} {x : Option ρ} {v : α} {p : Nat} {v2 : β} {p2 : Nat} (Q : cs_Q w F1 R1 x (.inr (v, p))) (hF : ∀ h, F1 h → F h) (K : ∀ r, R1 v p r → R v2 p2 r) : cs_Q w F R x (.inr (v2, p2)) := by
  obtain ⟨r, e, h1⟩ := Q
  exact ⟨r, e, K r h1⟩
theorem u_wl {α β ρ : Type} {w : ρ → pm_H} {F F1 : pm_H → Prop} {R : β → Nat → ρ → Prop} {R1 : α → Nat → ρ → Prop} {x : Option ρ} {z : Nat × Nat} (Q : cs_Q w F1 R1 x (.inl z)) (hF : ∀ h, F1 h → F h) : cs_Q w F R x (.inl z) := by
  obtain ⟨hn, r, h', a, e, ew, h1⟩ := Q
  exact ⟨hn, r, h', a, e, ew, hF h' h1⟩
theorem cs_da (L : lC h n b mm me e d false B) (r10 : pm_R h mm 10 = some x) (k34 : pm_kd h x = 34) (hl : pm_ln h x < 2147483648) {i : Nat} (i15 : pm_I h 19 15 = Int32.ofNat i) (hi : i * 7 + 7 < 2147483648) (hp : p ≤ e) (q : Int32) (Z : i * 7 + 7 ≤ pm_ln h x → pm_I h x (i * 7 + 1) = 0) : cs_Q wH (nF h) (rDa me x i h q) (fX9_dataOne (rc h (Int32.ofNat p) 0 q) 19) (sp_da B e d p) := by
  have CD := lC_C L
  obtain ⟨⟨K9, rm0, km, rb, kb⟩, r17, kme, lme⟩ := lC_C L
  have m := lC_m L
  have he := L.2.2.2.1
  have n4 := L.1.2.2.2.2.2.2.1
  have x9 : x ≠ 19 := fun z => by rw [z, K9] at k34; exact absurd k34 (by decide)
  have xme : x ≠ me := fun z => by rw [z, kme] at k34; exact absurd k34 (by decide)
  have hl' : pm_ln h x < 2147483648 ∧ x ≠ 19 := ⟨hl, x9⟩
  have gn0 := nF_r h
  unfold fX9_dataOne sp_da
  refine u_t K9 (u_l (u_l (u_p (cs_num L.1 L.2.2.1 he hp q) (fun r1 a' f q hf => ?_) ?_)))
  · repeat' (first | with_reducible exact y_r rfl (by assumption) | with_reducible exact cd_da35 (by assumption) CD r10 k34 hl' hf _ _ _ | with_reducible refine y_k (by assumption) (by assumption) ?_ | with_reducible refine y_R (by assumption) (by assumption) ?_ | with_reducible refine y_l ?_ | with_reducible refine y_f (rc_f0 hf) ?_ | with_reducible refine y_num (by assumption) K9 hf (by decide) ?_ | with_reducible refine y_fail (by assumption) K9 hf ?_ | with_reducible refine y_skip (by assumption) K9 hf ?_ | with_reducible refine y_next (by assumption) K9 hf ?_ | with_reducible refine y_vt (by assumption) K9 hf (fun _ _ => ?_) | with_reducible refine y_rt (by assumption) K9 hf (fun _ _ => ?_) | with_reducible refine y_nut (by assumption) K9 hf (fun _ _ => ?_) | with_reducible refine y_name (by assumption) K9 hf (fun _ _ => ?_) | with_reducible refine y_lim (by assumption) K9 (fun _ _ => ?_) | with_reducible refine y_expr (by assumption) CD hf (fun _ _ _ => ?_) | with_reducible refine y_st6 (by assumption) (by assumption) (by assumption) (fun _ _ => ?_) | with_reducible refine y_st3 (by assumption) (by assumption) (by assumption) (fun _ _ => ?_) | with_reducible refine y_i (fun _ => ?_) (fun _ => ?_))
  intro v p1 r e1 er
  subst er
  have pb1 := sp_num_b hp e1
  have vl : v < 4294967296 := sp_nu_v L.1.2.2.2.2.2.2.2.2.2 (by decide) (by decide) (by decide) e1
  by_cases c2 : 2 < v
  · rw [if_pos c2]
    refine u_f (show ¬ Int64.ofNat v ≤ Int64.ofNat 2 by rw [ll_le (by omega) (by decide)]; omega) (u_t K9 (u_b (cs_fail K9 _ _ _ _) ⟨by decide, cd_da35 gn0 CD r10 k34 hl' (by decide) _ _ _⟩))
  rw [if_neg c2]
  refine u_t (show Int64.ofNat v ≤ Int64.ofNat 2 by rw [ll_le (by omega) (by decide)]; omega) ?_
  dsimp only
  rw [show pm_I (rc h (Int32.ofNat p) 0 q) 19 15 = Int32.ofNat i from i15, show Int32.ofNat i * 7 = Int32.ofNat (i * 7) from nn_ml i 7]
  have N : ∀ k, k < 100 → v ≠ k → ¬ Int64.ofNat v = Int64.ofNat k := fun k hk z => by rw [ll_eq (by omega) (by omega)]; exact z
  have T : ∀ k, v = k → Int64.ofNat v = Int64.ofNat k := fun k z => by rw [z]
  -- behind the mode and the memory
  have G89 : ∀ (h1 : pm_H) (tb p2 : Nat), p2 ≤ e → gW me x (i * 7) (i * 7 + 7) h h1 → pm_I h1 19 5 = pm_I h 19 5 → (i * 7 + 7 ≤ pm_ln h x → pm_I h1 x (i * 7) = (if v = 1 then 1 else 0) ∧ pm_I h1 x (i * 7 + 1) = ix3 tb) → cs_Q wH (nF h) (rDa me x i h q) (fX9_dataOne_b89 (rc h1 (Int32.ofNat p2) 0 q) 19 (Int32.ofNat (i * 7)) (Int64.ofNat v)) (sp_b (sp_daB B e d v p2) fun _ p3 => sp_b (sp_num B e p3) fun sz p4 => if p4 + sz ≤ e then .inr ((v, tb, p2, sz, p4), p4 + sz) else .inl (1, e)) := by
    intro h1 tb p2 hp2 g1 m1 W
    have gn1 : nF h h1 := nF_g g1
    unfold fX9_dataOne_b89 sp_daB
    refine u_t (gk gn1 K9) (u_b (gR gn1 rm0) (u_t (gk gn1 km) (u_b (gR gn1 r10) (u_b (st3_a (gk gn1 k34) x9 (by rw [nF_ln gn1]; exact hl) 2 (by omega) _) ?_))))
    rw [rc_1]
    obtain ⟨h2, eh2⟩ : ∃ z, z = sI h1 x (i * 7 + 2) (Int32.ofNat p2) := ⟨_, rfl⟩
    have g2 : gW me x (i * 7) (i * 7 + 7) h h2 := by rw [eh2]; exact gW_I g1 (by omega) (by omega)
    rw [← eh2]
    have gn2 : nF h h2 := nF_g g2
    have L2 := lC_W L (.inl k34) g2
    have m2 : pm_I h2 19 5 = pm_I h1 19 5 := by rw [eh2]; exact sI_n (fun z => x9 z.symm) 5
    have S2 : i * 7 + 7 ≤ pm_ln h x → ∀ y, pm_I h2 x y = if y = i * 7 + 2 then Int32.ofNat p2 else pm_I h1 x y := fun z y => by rw [eh2]; exact sI_g (by rw [nF_ln gn1]; omega) y
    by_cases c1 : v = 1
    · rw [if_pos c1, sp_br]
      refine u_t (T 1 c1) ?_
      refine u_t (gk gn2 K9) (u_p (cs_num L2.1 L2.2.2.1 he (show p2 ≤ e by omega) q) (fun r1 a' f q hf => ?_) ?_)
      · repeat' (first | with_reducible exact y_r rfl (by assumption) | with_reducible refine y_k (by assumption) (by assumption) ?_ | with_reducible refine y_R (by assumption) (by assumption) ?_ | with_reducible refine y_l ?_ | with_reducible refine y_f (rc_f0 hf) ?_ | with_reducible refine y_num (by assumption) K9 hf (by decide) ?_ | with_reducible refine y_fail (by assumption) K9 hf ?_ | with_reducible refine y_skip (by assumption) K9 hf ?_ | with_reducible refine y_next (by assumption) K9 hf ?_ | with_reducible refine y_vt (by assumption) K9 hf (fun _ _ => ?_) | with_reducible refine y_rt (by assumption) K9 hf (fun _ _ => ?_) | with_reducible refine y_nut (by assumption) K9 hf (fun _ _ => ?_) | with_reducible refine y_name (by assumption) K9 hf (fun _ _ => ?_) | with_reducible refine y_lim (by assumption) K9 (fun _ _ => ?_) | with_reducible refine y_expr (by assumption) CD hf (fun _ _ _ => ?_) | with_reducible refine y_st6 (by assumption) (by assumption) (by assumption) (fun _ _ => ?_) | with_reducible refine y_st3 (by assumption) (by assumption) (by assumption) (fun _ _ => ?_) | with_reducible refine y_i (fun _ => ?_) (fun _ => ?_))
      intro sz p4 r e4 er
      subst er
      have pb4 := sp_num_b (show p2 ≤ e by omega) e4
      have szl : sz < 4294967296 := sp_nu_v L.1.2.2.2.2.2.2.2.2.2 (by decide) (by decide) (by decide) e4
      refine u_t (gk gn2 K9) (u_b (gR gn2 rm0) (u_t (gk gn2 km) (u_b (gR gn2 r10) (u_b (st3_a (gk gn2 k34) x9 (by rw [nF_ln gn2]; exact hl) 3 (by omega) _) ?_))))
      try dsimp only
      rw [rc_1]
      obtain ⟨h8, eh8⟩ : ∃ z, z = sI h2 x (i * 7 + 3) (Int32.ofNat p4) := ⟨_, rfl⟩
      have g8 : gW me x (i * 7) (i * 7 + 7) h h8 := by rw [eh8]; exact gW_I g2 (by omega) (by omega)
      rw [← eh8]
      have gn8 : nF h h8 := nF_g g8
      have L8 := lC_W L (.inl k34) g8
      have m8 : pm_I h8 19 5 = pm_I h2 19 5 := by rw [eh8]; exact sI_n (fun z => x9 z.symm) 5
      have S8 : i * 7 + 7 ≤ pm_ln h x → ∀ y, pm_I h8 x y = if y = i * 7 + 3 then Int32.ofNat p4 else pm_I h2 x y := fun z y => by rw [eh8]; exact sI_g (by rw [nF_ln gn2]; omega) y
      refine u_t (gk gn8 K9) (u_b (gR gn8 rm0) (u_t (gk gn8 km) (u_b (gR gn8 r10) (u_l (u_b (st3_a (gk gn8 k34) x9 (by rw [nF_ln gn8]; exact hl) 4 (by omega) _) ?_)))))
      try dsimp only
      rw [ix3_e szl]
      obtain ⟨h9, eh9⟩ : ∃ z, z = sI h8 x (i * 7 + 4) (ix3 sz) := ⟨_, rfl⟩
      have g9 : gW me x (i * 7) (i * 7 + 7) h h9 := by rw [eh9]; exact gW_I g8 (by omega) (by omega)
      rw [← eh9]
      have gn9 : nF h h9 := nF_g g9
      have L9 := lC_W L (.inl k34) g9
      have m9 : pm_I h9 19 5 = pm_I h8 19 5 := by rw [eh9]; exact sI_n (fun z => x9 z.symm) 5
      have S9 : i * 7 + 7 ≤ pm_ln h x → ∀ y, pm_I h9 x y = if y = i * 7 + 4 then ix3 sz else pm_I h8 x y := fun z y => by rw [eh9]; exact sI_g (by rw [nF_ln gn8]; omega) y
      refine u_t (gk gn9 K9) (u_id ?_)
      have SK := cs_skip L9.1 L9.2.2.1 he (show p4 ≤ e by omega) q szl
      unfold sp_jmp at SK
      by_cases cj : p4 + sz ≤ e
      · rw [if_pos cj] at SK ⊢
        refine u_w2 SK (fun _ z => by rw [z]; exact gn9) ?_
        intro r er
        refine ⟨h9, er, g9, ?_, fun z => ?_⟩
        · rw [m9, m8, m2, m1]
        · have w := W z
          have s2 := S2 z
          have s8 := S8 z
          have s9 := S9 z
          exact ⟨(s9 _).trans ((if_neg (by omega)).trans ((s8 _).trans ((if_neg (by omega)).trans ((s2 _).trans ((if_neg (by omega)).trans w.1))))), (s9 _).trans ((if_neg (by omega)).trans ((s8 _).trans ((if_neg (by omega)).trans ((s2 _).trans ((if_neg (by omega)).trans w.2))))), (s9 _).trans ((if_neg (by omega)).trans ((s8 _).trans ((if_neg (by omega)).trans ((s2 _).trans (if_pos rfl))))), (s9 _).trans ((if_neg (by omega)).trans ((s8 _).trans (if_pos rfl))), (s9 _).trans (if_pos rfl)⟩
      · rw [if_neg cj] at SK ⊢
        exact u_wl SK (fun _ z => by rw [z]; exact gn9)
    · rw [if_neg c1, sp_bb]
      refine u_f (N 1 (by decide) c1) (u_t (gk gn2 K9) (u_c (cs_expr L2 hp2 q) ?_ ?_))
      · intro r h3 a f q hf er hF
        have er : r = rc h3 a f q := er
        subst er
        have gn3 : nF h h3 := nF_t gn2 hF
        repeat' (first | with_reducible exact y_r rfl (by assumption) | with_reducible refine y_k (by assumption) (by assumption) ?_ | with_reducible refine y_R (by assumption) (by assumption) ?_ | with_reducible refine y_l ?_ | with_reducible refine y_f (rc_f0 hf) ?_ | with_reducible refine y_num (by assumption) K9 hf (by decide) ?_ | with_reducible refine y_fail (by assumption) K9 hf ?_ | with_reducible refine y_skip (by assumption) K9 hf ?_ | with_reducible refine y_next (by assumption) K9 hf ?_ | with_reducible refine y_vt (by assumption) K9 hf (fun _ _ => ?_) | with_reducible refine y_rt (by assumption) K9 hf (fun _ _ => ?_) | with_reducible refine y_nut (by assumption) K9 hf (fun _ _ => ?_) | with_reducible refine y_name (by assumption) K9 hf (fun _ _ => ?_) | with_reducible refine y_lim (by assumption) K9 (fun _ _ => ?_) | with_reducible refine y_expr (by assumption) CD hf (fun _ _ _ => ?_) | with_reducible refine y_st6 (by assumption) (by assumption) (by assumption) (fun _ _ => ?_) | with_reducible refine y_st3 (by assumption) (by assumption) (by assumption) (fun _ _ => ?_) | with_reducible refine y_i (fun _ => ?_) (fun _ => ?_))
      rintro w p3 r e3 ⟨h3, er, g3', l3⟩
      subst er
      have pb3 := up_ex_lt e3
      have wf : w.2 = false := sp_ex_f _ _ e3
      have g3 : gW me x (i * 7) (i * 7 + 7) h h3 := gF_t g2 (gW_x g3')
      have gn3 : nF h h3 := nF_g g3
      have L3 := lC_W L (.inl k34) g3
      have m3 : pm_I h3 19 5 = pm_I h2 19 5 := by rw [l3, wf]; rfl
      have S3 : ∀ y, pm_I h3 x y = pm_I h2 x y := fun y => g3'.2.2.2.2.1 x y (fun z => z.elim xme (fun z => x9 z.1))
      rw [sp_br]
      refine u_t (gk gn3 K9) (u_p (cs_num L3.1 L3.2.2.1 he (show p3 ≤ e by omega) q) (fun r1 a' f q hf => ?_) ?_)
      · repeat' (first | with_reducible exact y_r rfl (by assumption) | with_reducible refine y_k (by assumption) (by assumption) ?_ | with_reducible refine y_R (by assumption) (by assumption) ?_ | with_reducible refine y_l ?_ | with_reducible refine y_f (rc_f0 hf) ?_ | with_reducible refine y_num (by assumption) K9 hf (by decide) ?_ | with_reducible refine y_fail (by assumption) K9 hf ?_ | with_reducible refine y_skip (by assumption) K9 hf ?_ | with_reducible refine y_next (by assumption) K9 hf ?_ | with_reducible refine y_vt (by assumption) K9 hf (fun _ _ => ?_) | with_reducible refine y_rt (by assumption) K9 hf (fun _ _ => ?_) | with_reducible refine y_nut (by assumption) K9 hf (fun _ _ => ?_) | with_reducible refine y_name (by assumption) K9 hf (fun _ _ => ?_) | with_reducible refine y_lim (by assumption) K9 (fun _ _ => ?_) | with_reducible refine y_expr (by assumption) CD hf (fun _ _ _ => ?_) | with_reducible refine y_st6 (by assumption) (by assumption) (by assumption) (fun _ _ => ?_) | with_reducible refine y_st3 (by assumption) (by assumption) (by assumption) (fun _ _ => ?_) | with_reducible refine y_i (fun _ => ?_) (fun _ => ?_))
      intro sz p4 r e4 er
      subst er
      have pb4 := sp_num_b (show p3 ≤ e by omega) e4
      have szl : sz < 4294967296 := sp_nu_v L.1.2.2.2.2.2.2.2.2.2 (by decide) (by decide) (by decide) e4
      refine u_t (gk gn3 K9) (u_b (gR gn3 rm0) (u_t (gk gn3 km) (u_b (gR gn3 r10) (u_b (st3_a (gk gn3 k34) x9 (by rw [nF_ln gn3]; exact hl) 3 (by omega) _) ?_))))
      try dsimp only
      rw [rc_1]
      obtain ⟨h8, eh8⟩ : ∃ z, z = sI h3 x (i * 7 + 3) (Int32.ofNat p4) := ⟨_, rfl⟩
      have g8 : gW me x (i * 7) (i * 7 + 7) h h8 := by rw [eh8]; exact gW_I g3 (by omega) (by omega)
      rw [← eh8]
      have gn8 : nF h h8 := nF_g g8
      have L8 := lC_W L (.inl k34) g8
      have m8 : pm_I h8 19 5 = pm_I h3 19 5 := by rw [eh8]; exact sI_n (fun z => x9 z.symm) 5
      have S8 : i * 7 + 7 ≤ pm_ln h x → ∀ y, pm_I h8 x y = if y = i * 7 + 3 then Int32.ofNat p4 else pm_I h3 x y := fun z y => by rw [eh8]; exact sI_g (by rw [nF_ln gn3]; omega) y
      refine u_t (gk gn8 K9) (u_b (gR gn8 rm0) (u_t (gk gn8 km) (u_b (gR gn8 r10) (u_l (u_b (st3_a (gk gn8 k34) x9 (by rw [nF_ln gn8]; exact hl) 4 (by omega) _) ?_)))))
      try dsimp only
      rw [ix3_e szl]
      obtain ⟨h9, eh9⟩ : ∃ z, z = sI h8 x (i * 7 + 4) (ix3 sz) := ⟨_, rfl⟩
      have g9 : gW me x (i * 7) (i * 7 + 7) h h9 := by rw [eh9]; exact gW_I g8 (by omega) (by omega)
      rw [← eh9]
      have gn9 : nF h h9 := nF_g g9
      have L9 := lC_W L (.inl k34) g9
      have m9 : pm_I h9 19 5 = pm_I h8 19 5 := by rw [eh9]; exact sI_n (fun z => x9 z.symm) 5
      have S9 : i * 7 + 7 ≤ pm_ln h x → ∀ y, pm_I h9 x y = if y = i * 7 + 4 then ix3 sz else pm_I h8 x y := fun z y => by rw [eh9]; exact sI_g (by rw [nF_ln gn8]; omega) y
      refine u_t (gk gn9 K9) (u_id ?_)
      have SK := cs_skip L9.1 L9.2.2.1 he (show p4 ≤ e by omega) q szl
      unfold sp_jmp at SK
      by_cases cj : p4 + sz ≤ e
      · rw [if_pos cj] at SK ⊢
        refine u_w2 SK (fun _ z => by rw [z]; exact gn9) ?_
        intro r er
        refine ⟨h9, er, g9, ?_, fun z => ?_⟩
        · rw [m9, m8, m3, m2, m1]
        · have w := W z
          have s2 := S2 z
          have s8 := S8 z
          have s9 := S9 z
          exact ⟨(s9 _).trans ((if_neg (by omega)).trans ((s8 _).trans ((if_neg (by omega)).trans ((S3 _).trans ((s2 _).trans ((if_neg (by omega)).trans w.1)))))), (s9 _).trans ((if_neg (by omega)).trans ((s8 _).trans ((if_neg (by omega)).trans ((S3 _).trans ((s2 _).trans ((if_neg (by omega)).trans w.2)))))), (s9 _).trans ((if_neg (by omega)).trans ((s8 _).trans ((if_neg (by omega)).trans ((S3 _).trans ((s2 _).trans (if_pos rfl)))))), (s9 _).trans ((if_neg (by omega)).trans ((s8 _).trans (if_pos rfl))), (s9 _).trans (if_pos rfl)⟩
      · rw [if_neg cj] at SK ⊢
        exact u_wl SK (fun _ z => by rw [z]; exact gn9)
  have G56 : ∀ (s0 : Int32), s0 = (if v = 1 then 1 else 0) → cs_Q wH (nF h) (rDa me x i h q) (fX9_dataOne_b56 (rc h (Int32.ofNat p1) 0 q) 19 (Int32.ofNat (i * 7)) (Int64.ofNat v) s0 (Int32.ofNat (i * 7) + 0) x) (sp_b (sp_daA B e v p1) fun tb p2 => sp_b (sp_daB B e d v p2) fun _ p3 => sp_b (sp_num B e p3) fun sz p4 => if p4 + sz ≤ e then .inr ((v, tb, p2, sz, p4), p4 + sz) else .inl (1, e)) := by
    intro s0 hs
    unfold fX9_dataOne_b56 sp_daA
    refine u_b (st3_a k34 x9 hl 0 (by omega) _) ?_
    have g0 : gW me x (i * 7) (i * 7 + 7) h h := gF_r _ _ h
    obtain ⟨h1, eh1⟩ : ∃ z, z = sI h x (i * 7 + 0) (s0) := ⟨_, rfl⟩
    have g1 : gW me x (i * 7) (i * 7 + 7) h h1 := by rw [eh1]; exact gW_I g0 (by omega) (by omega)
    rw [← eh1]
    have gn1 : nF h h1 := nF_g g1
    have L1 := lC_W L (.inl k34) g1
    have m1 : pm_I h1 19 5 = pm_I h 19 5 := by rw [eh1]; exact sI_n (fun z => x9 z.symm) 5
    have S1 : i * 7 + 7 ≤ pm_ln h x → ∀ y, pm_I h1 x y = if y = i * 7 + 0 then s0 else pm_I h x y := fun z y => by rw [eh1]; exact sI_g (by rw [nF_ln gn0]; omega) y
    by_cases c2 : v = 2
    · rw [if_pos c2]
      refine u_t (T 2 c2) (u_t (gk gn1 K9) (u_b (gR gn1 rm0) (u_t (gk gn1 km) (u_b (gR gn1 r10) (u_p (cs_num L1.1 L1.2.2.1 he (show p1 ≤ e by omega) q) (fun r1 a' f q hf => ?_) ?_)))))
      · repeat' (first | with_reducible exact y_r rfl (by assumption) | with_reducible exact cd_da89 (by assumption) CD r10 k34 hl' hf _ _ _ | with_reducible refine y_k (by assumption) (by assumption) ?_ | with_reducible refine y_R (by assumption) (by assumption) ?_ | with_reducible refine y_l ?_ | with_reducible refine y_f (rc_f0 hf) ?_ | with_reducible refine y_num (by assumption) K9 hf (by decide) ?_ | with_reducible refine y_fail (by assumption) K9 hf ?_ | with_reducible refine y_skip (by assumption) K9 hf ?_ | with_reducible refine y_next (by assumption) K9 hf ?_ | with_reducible refine y_vt (by assumption) K9 hf (fun _ _ => ?_) | with_reducible refine y_rt (by assumption) K9 hf (fun _ _ => ?_) | with_reducible refine y_nut (by assumption) K9 hf (fun _ _ => ?_) | with_reducible refine y_name (by assumption) K9 hf (fun _ _ => ?_) | with_reducible refine y_lim (by assumption) K9 (fun _ _ => ?_) | with_reducible refine y_expr (by assumption) CD hf (fun _ _ _ => ?_) | with_reducible refine y_st6 (by assumption) (by assumption) (by assumption) (fun _ _ => ?_) | with_reducible refine y_st3 (by assumption) (by assumption) (by assumption) (fun _ _ => ?_) | with_reducible refine y_i (fun _ => ?_) (fun _ => ?_))
      intro tb p2 r e2 er
      subst er
      have pb2 := sp_num_b (show p1 ≤ e by omega) e2
      have tbl : tb < 4294967296 := sp_nu_v L.1.2.2.2.2.2.2.2.2.2 (by decide) (by decide) (by decide) e2
      refine u_l (u_b (st3_a (gk gn1 k34) x9 (by rw [nF_ln gn1]; exact hl) 1 (by omega) _) ?_)
      dsimp only
      rw [ix3_e tbl]
      obtain ⟨h5, eh5⟩ : ∃ z, z = sI h1 x (i * 7 + 1) (ix3 tb) := ⟨_, rfl⟩
      have g5 : gW me x (i * 7) (i * 7 + 7) h h5 := by rw [eh5]; exact gW_I g1 (by omega) (by omega)
      rw [← eh5]
      have gn5 : nF h h5 := nF_g g5
      have L5 := lC_W L (.inl k34) g5
      have m5 : pm_I h5 19 5 = pm_I h1 19 5 := by rw [eh5]; exact sI_n (fun z => x9 z.symm) 5
      have S5 : i * 7 + 7 ≤ pm_ln h x → ∀ y, pm_I h5 x y = if y = i * 7 + 1 then ix3 tb else pm_I h1 x y := fun z y => by rw [eh5]; exact sI_g (by rw [nF_ln gn1]; omega) y
      refine G89 h5 tb p2 (by omega) g5 (by rw [m5, m1]) (fun z => ⟨?_, ?_⟩)
      · rw [S5 z, if_neg (by omega), S1 z, if_pos (Nat.add_zero _).symm, hs]
      · rw [S5 z, if_pos rfl]
    · rw [if_neg c2, sp_br]
      refine u_f (N 2 (by decide) c2) (G89 h1 0 p1 (by omega) g1 m1 (fun z => ⟨?_, ?_⟩))
      · rw [S1 z, if_pos (Nat.add_zero _).symm, hs]
      · rw [S1 z, if_neg (by omega), Z z]; rfl
  unfold fX9_dataOne_b35
  refine u_t K9 (u_b rm0 (u_t km (u_b r10 ?_)))
  by_cases c1 : v = 1
  · exact u_t (T 1 c1) (G56 1 (by rw [if_pos c1]))
  · exact u_f (N 1 (by decide) c1) (G56 0 (by rw [if_neg c1]))
end DAT
