/-! THE CLASS READS: imports, functions, tables, memories, globals, exports -/
theorem sp_ex_f {B : Nat → Nat} {e : Nat} {d : Bool} : ∀ {N : Nat} {st : tSt} {p : Nat}, sA (fun v : tWr => v.2 = false) (sp_ex B e d false N st p)
  | 0, _, _ => sA_l
  | N + 1, st, p => by
    rw [sp_ex_n]
    refine sA_b fun v p2 => sA_i (fun _ => ?_) (fun _ => sA_i (fun _ => sp_ex_f) (fun _ => sA_i (fun _ => ?_) (fun _ => ?_)))
    · cases st with
      | nil => exact sA_r rfl
      | cons s r =>
        intro w p3 q
        obtain ⟨a, p4, e1, e2⟩ := b_inv q
        cases e2
        exact (sp_ex_f (N := N) (st := r) (p := p2) a _ e1 : a.2 = false)
    · cases st with
      | nil => exact sA_l
      | cons s r =>
        refine sA_i (fun _ => ?_) (fun _ => sA_l)
        intro w p3 q
        obtain ⟨a, p4, e1, e2⟩ := b_inv q
        cases e2
        exact (sp_ex_f (N := N) (st := (5, s.2.1, p) :: r) (p := p2) a _ e1 : a.2 = false)
    · intro w p3 q
      obtain ⟨a, p4, e1, e2⟩ := b_inv q
      cases e2
      show ((v.2.2.2 && false) || a.2) = false
      rw [Bool.and_false, Bool.false_or]
      exact sp_ex_f (N := N) (st := st) (p := p2) _ _ e1
def sp_map {α β : Type} (f : α → β) (o : sp_O α) : sp_O β := match o with
  | .inl w => .inl w
  | .inr v => .inr (f v.1, v.2)
theorem u_map {α β ρ : Type} {w : ρ → pm_H} {F : pm_H → Prop} {R : β → Nat → ρ → Prop} {x : Option ρ} {f : α → β} {o : sp_O α} (Q : cs_Q w F R x (sp_map f o)) : cs_Q w F (fun v p r => R (f v) p r) x o := by
  cases o with
  | inl z => exact Q
  | inr z => exact Q
theorem map_b {α β γ : Type} (f : β → γ) (o : sp_O α) (k : α → Nat → sp_O β) : sp_map f (sp_b o k) = sp_b o fun v p => sp_map f (k v p) := by cases o <;> rfl
theorem map_i {α β : Type} (f : α → β) {c : Prop} {i : Decidable c} (a b : sp_O α) : sp_map f (@ite _ c i a b) = @ite _ c i (sp_map f a) (sp_map f b) := by
  by_cases h : c
  · rw [if_pos h, if_pos h]
  · rw [if_neg h, if_neg h]
theorem desc_0 (B : Nat → Nat) (e p : Nat) : sp_desc B e 0 p = sp_map (fun v => (0, v, 0, -1, 0)) (sp_fn B e p) := by
  unfold sp_desc sp_fn
  rw [map_b]
  rfl
theorem desc_1 (B : Nat → Nat) (e p : Nat) : sp_desc B e 1 p = sp_map (fun v => (1, v.1, v.2.1, v.2.2, 0)) (sp_tb B e p) := by
  unfold sp_desc sp_tb
  rw [map_b, if_neg (by decide), if_neg (by decide), if_pos (by decide)]
  refine congrArg (sp_b (sp_byte sp_isR 8 B e p)) (funext fun t => funext fun p1 => ?_)
  rw [map_b]
  rfl
theorem desc_2 (B : Nat → Nat) (e p : Nat) : sp_desc B e 2 p = sp_map (fun v => (2, 0, v.1, v.2, 0)) (sp_mm B e p) := by
  unfold sp_desc sp_mm
  rw [map_b]
  rfl
theorem desc_3 (B : Nat → Nat) (e : Nat) (d : Bool) (p : Nat) : (sp_b (sp_desc B e 3 p) fun v p1 => sp_b (sp_ex B e d false (e + 1) [] p1) fun _ p2 => .inr ((v, p1), p2)) = sp_map (fun v => ((3, v.1, 0, -1, v.2.1), v.2.2)) (sp_gl B e d p) := by
  unfold sp_desc sp_gl
  rw [map_b, if_neg (by decide), if_pos (by decide), sp_bb]
  refine congrArg (sp_b (sp_byte sp_isT 8 B e p)) (funext fun t => funext fun p1 => ?_)
  rw [map_b, sp_bb]
  refine congrArg (sp_b (sp_byte (fun c => decide (c ≤ 1)) 7 B e p1)) (funext fun t => funext fun p1 => ?_)
  rw [map_b]
  rfl
/-- what reading a row may write: the array x from lo to hi, and what expressions write -/
def gW (me x lo hi : Nat) (h h' : pm_H) : Prop := gF (fun X Y => (X = me ∨ (X = 19 ∧ (Y = 5 ∨ Y = 6 ∨ Y = 7))) ∨ (X = x ∧ lo ≤ Y ∧ Y < hi)) (fun X Y => (X = 19 ∧ (Y = 8 ∨ Y = 9)) ∨ (X = x ∧ lo ≤ Y ∧ Y < hi)) h h'
theorem gW_D {me x a hi : Nat} {h h' : pm_H} (g : gD x a h h') (hh : a + 6 ≤ hi) : gW me x a hi h h' := gF_m g (fun _ _ z => z.elim) (fun X Y z => .inr ⟨z.1, z.2.1, by have := z.2.2; omega⟩)
theorem gW_x {me x lo hi : Nat} {h h' : pm_H} (g : exF me h h') : gW me x lo hi h h' := gF_m g (fun _ _ z => .inl z) (fun _ _ z => .inl z)
theorem gW_L {me x lo hi k : Nat} {h h1 : pm_H} {v : Int64} (g : gW me x lo hi h h1) (h1' : lo ≤ k) (h2 : k < hi) : gW me x lo hi h (sL h1 x k v) := by
  unfold sL
  split
  · exact gF_t g (gF_L h1 v (.inr ⟨rfl, h1', h2⟩))
  · exact g
theorem gW_I {me x lo hi k : Nat} {h h1 : pm_H} {v : Int32} (g : gW me x lo hi h h1) (h1' : lo ≤ k) (h2 : k < hi) : gW me x lo hi h (sI h1 x k v) := by
  unfold sI
  split
  · exact gF_t g (gF_I h1 v (.inr ⟨rfl, h1', h2⟩))
  · exact g
theorem sI_ln (h : pm_H) (x k : Nat) (v : Int32) : pm_ln (sI h x k v) = pm_ln h := by unfold sI; split <;> rfl
theorem sI_g {h : pm_H} {x k : Nat} {v : Int32} (hk : k < pm_ln h x) (j : Nat) : pm_I (sI h x k v) x j = if j = k then v else pm_I h x j := by
  unfold sI
  rw [if_pos hk, ev_II, if_pos rfl]
theorem sI_n {h : pm_H} {x k y : Nat} {v : Int32} (hy : y ≠ x) (j : Nat) : pm_I (sI h x k v) y j = pm_I h y j := by
  unfold sI
  split
  · rw [ev_II, if_neg hy]
  · rfl
theorem sI_L (h : pm_H) (x k : Nat) (v : Int32) : pm_L (sI h x k v) = pm_L h := by unfold sI; split <;> rfl
theorem sL_I (h : pm_H) (x k : Nat) (v : Int64) : pm_I (sL h x k v) = pm_I h := by unfold sL; split <;> rfl
theorem u_wc {α β ρ : Type} {w : ρ → pm_H} {F F1 : pm_H → Prop} {R : β → Nat → ρ → Prop} {R1 : α → Nat → ρ → Prop} {x : Option ρ} {o1 : sp_O α} {k : α → Nat → sp_O β} (Q : cs_Q w F1 R1 x o1) (hF : ∀ h, F1 h → F h) (K : ∀ v p r, o1 = .inr (v, p) → R1 v p r → cs_Q w F R (some r) (k v p)) : cs_Q w F R x (sp_b o1 k) := by
  cases o1 with
  | inl z =>
    obtain ⟨hn, r, h', a, e, ew, hF1⟩ := Q
    exact ⟨hn, r, h', a, e, ew, hF h' hF1⟩
  | inr z =>
    obtain ⟨r, e, h1⟩ := Q
    rw [e]
    exact K z.1 z.2 r rfl h1
section OWN
variable {h h1 : pm_H} {n b mm me e p x a : Nat} {d ob : Bool} {B : Nat → Nat}
theorem lC_W {lo hi : Nat} (L : lC h n b mm me e d ob B) (k : pm_kd h x = 34 ∨ pm_kd h x = 35) (g : gW me x lo hi h h1) : lC h1 n b mm me e d ob B := by
  have m := lC_m L
  have hx : x ≠ 19 ∧ x ≠ b ∧ x ≠ mm := ⟨fun z => by rw [z, L.1.1] at k; revert k; decide, fun z => by rw [z, L.1.2.2.2.2.1] at k; revert k; decide, fun z => by rw [z, L.1.2.2.1] at k; revert k; decide⟩
  exact lC_g L g (fun Y z => z.elim (fun z => z.elim (fun z => m.2.2.2.2.2 z.symm) (fun z => m.2.1 z.1)) (fun z => hx.2.1 z.1.symm)) (fun z => z.elim (fun z => z.elim (fun z => m.2.2.1 z.symm) (fun z => by omega)) (fun z => hx.1 z.1.symm)) (fun z => z.elim (fun z => z.elim (fun z => m.2.2.1 z.symm) (fun z => by omega)) (fun z => hx.1 z.1.symm)) (fun z => z.elim (fun z => m.1 z.1) (fun z => hx.2.2 z.1.symm))
/-- an expression that was read -/
abbrev rE (me : Nat) (h : pm_H) (q : Int32) : tWr → Nat → pm_H → Prop := fun v p' r => ∃ h', r = rc h' (Int32.ofNat p') 0 q ∧ exF me h h' ∧ pm_I h' 19 5 = xv (pm_I h 19 5) (pm_I h 19 11) v.2
theorem cs_expr (L : lC h n b mm me e d ob B) (hp : p ≤ e) (q : Int32) : cs_Q wH (nF h) (rE me h q) (fX9_expression (rc h (Int32.ofNat p) 0 q) 19) (sp_ex B e d ob (e + 1) [] p) := by
  have m := lC_m L
  obtain ⟨C, E, ie, he, ib, dt⟩ := L
  have g0 : exF me h (pm_setI h me (0 : Int32).toNatClampNeg (vp_nar .boolean 0)) := exF_m h _ _
  unfold fX9_expression
  refine u_t C.1 (u_b E.1 (u_t E.2.1 (u_t (show pm_in 0 (pm_ln h me) by rw [E.2.2.1]; decide) ?_)))
  rw [rc_a _ _ _ _ _ E.2.2.2.1]
  have Q := cs_exl (h := h) C E ie he ib dt q (e + 1) [] p 0 _ g0 (show pm_I (pm_setI h me (0 : Int32).toNatClampNeg (vp_nar .boolean 0)) me 0 = 0 by rw [ev_II, if_pos rfl]; rfl) (Nat.zero_le _) (Nat.zero_le _) hp (by omega)
  refine u_w Q (fun _ z => nF_g z) ?_
  rintro v p' r - ⟨h', er, g, l5⟩
  exact ⟨h', er, g, by rw [l5, ev_II, if_neg (fun z => m.2.2.1 z.symm)]⟩
theorem cs_imp (L : lC h n b mm me e d ob B) (r3 : pm_R h mm 3 = some x) (k35 : pm_kd h x = 35) (hl : pm_ln h x < 2147483648) {i : Nat} (i15 : pm_I h 19 15 = Int32.ofNat i) (hi : i * 6 + 6 < 2147483648) (hp : p ≤ e) (q : Int32) (Z : i * 6 + 6 ≤ pm_ln h x → ∀ j, j < 6 → pm_L h x (i * 6 + j) = 0) : cs_Q wH (nF h) (rD h x (i * 6) q) (fX9_importOne (rc h (Int32.ofNat p) 0 q) 19) (sp_imp B e p) := by
  have CD := lC_C L
  have K9 : pm_kd h 19 = 9 := CD.1.1
  have he := L.2.2.2.1
  have rm0 := CD.1.2.1
  have km := CD.1.2.2.1
  unfold fX9_importOne
  show cs_Q _ _ _ _ (sp_b (sp_name B e p) fun _ p1 => sp_b (sp_name B e p1) fun _ p2 => sp_b (sp_byte (fun c => decide (c ≤ 3)) 7 B e p2) fun c p3 => sp_desc B e c p3)
  have g0 := nF_r h
  refine u_t K9 (u_p (cs_name L.1 L.2.2.1 he hp q) (fun r1 a' f q hf => ?_) ?_)
  · repeat' (first | with_reducible exact y_r rfl (by assumption) | with_reducible refine y_h (cd_desc (by assumption) K9 k35 hl hf _ _ _) (fun _ _ _ => ?_) | with_reducible refine y_k (by assumption) (by assumption) ?_ | with_reducible refine y_R (by assumption) (by assumption) ?_ | with_reducible refine y_l ?_ | with_reducible refine y_f (rc_f0 hf) ?_ | with_reducible refine y_num (by assumption) K9 hf (by decide) ?_ | with_reducible refine y_fail (by assumption) K9 hf ?_ | with_reducible refine y_skip (by assumption) K9 hf ?_ | with_reducible refine y_next (by assumption) K9 hf ?_ | with_reducible refine y_vt (by assumption) K9 hf (fun _ _ => ?_) | with_reducible refine y_rt (by assumption) K9 hf (fun _ _ => ?_) | with_reducible refine y_nut (by assumption) K9 hf (fun _ _ => ?_) | with_reducible refine y_name (by assumption) K9 hf (fun _ _ => ?_) | with_reducible refine y_lim (by assumption) K9 (fun _ _ => ?_) | with_reducible refine y_expr (by assumption) CD hf (fun _ _ _ => ?_) | with_reducible refine y_st6 (by assumption) (by assumption) (by assumption) (fun _ _ => ?_) | with_reducible refine y_st3 (by assumption) (by assumption) (by assumption) (fun _ _ => ?_) | with_reducible refine y_i (fun _ => ?_) (fun _ => ?_))
  intro v1 p1 r e1 er
  subst er
  have pb1 := sp_name_b hp e1
  refine u_t K9 (u_p (cs_name L.1 L.2.2.1 he (by omega) q) (fun r1 a' f q hf => ?_) ?_)
  · repeat' (first | with_reducible exact y_r rfl (by assumption) | with_reducible refine y_h (cd_desc (by assumption) K9 k35 hl hf _ _ _) (fun _ _ _ => ?_) | with_reducible refine y_k (by assumption) (by assumption) ?_ | with_reducible refine y_R (by assumption) (by assumption) ?_ | with_reducible refine y_l ?_ | with_reducible refine y_f (rc_f0 hf) ?_ | with_reducible refine y_num (by assumption) K9 hf (by decide) ?_ | with_reducible refine y_fail (by assumption) K9 hf ?_ | with_reducible refine y_skip (by assumption) K9 hf ?_ | with_reducible refine y_next (by assumption) K9 hf ?_ | with_reducible refine y_vt (by assumption) K9 hf (fun _ _ => ?_) | with_reducible refine y_rt (by assumption) K9 hf (fun _ _ => ?_) | with_reducible refine y_nut (by assumption) K9 hf (fun _ _ => ?_) | with_reducible refine y_name (by assumption) K9 hf (fun _ _ => ?_) | with_reducible refine y_lim (by assumption) K9 (fun _ _ => ?_) | with_reducible refine y_expr (by assumption) CD hf (fun _ _ _ => ?_) | with_reducible refine y_st6 (by assumption) (by assumption) (by assumption) (fun _ _ => ?_) | with_reducible refine y_st3 (by assumption) (by assumption) (by assumption) (fun _ _ => ?_) | with_reducible refine y_i (fun _ => ?_) (fun _ => ?_))
  intro v2 p2 r e2 er
  subst er
  have pb2 := sp_name_b (show p1 ≤ e by omega) e2
  refine u_t K9 (u_p (cs_nut L.1 L.2.2.1 he (show p2 ≤ e by omega) q (k := 3) (by decide)) (fun r1 a' f q hf => ?_) ?_)
  · repeat' (first | with_reducible exact y_r rfl (by assumption) | with_reducible refine y_h (cd_desc (by assumption) K9 k35 hl hf _ _ _) (fun _ _ _ => ?_) | with_reducible refine y_k (by assumption) (by assumption) ?_ | with_reducible refine y_R (by assumption) (by assumption) ?_ | with_reducible refine y_l ?_ | with_reducible refine y_f (rc_f0 hf) ?_ | with_reducible refine y_num (by assumption) K9 hf (by decide) ?_ | with_reducible refine y_fail (by assumption) K9 hf ?_ | with_reducible refine y_skip (by assumption) K9 hf ?_ | with_reducible refine y_next (by assumption) K9 hf ?_ | with_reducible refine y_vt (by assumption) K9 hf (fun _ _ => ?_) | with_reducible refine y_rt (by assumption) K9 hf (fun _ _ => ?_) | with_reducible refine y_nut (by assumption) K9 hf (fun _ _ => ?_) | with_reducible refine y_name (by assumption) K9 hf (fun _ _ => ?_) | with_reducible refine y_lim (by assumption) K9 (fun _ _ => ?_) | with_reducible refine y_expr (by assumption) CD hf (fun _ _ _ => ?_) | with_reducible refine y_st6 (by assumption) (by assumption) (by assumption) (fun _ _ => ?_) | with_reducible refine y_st3 (by assumption) (by assumption) (by assumption) (fun _ _ => ?_) | with_reducible refine y_i (fun _ => ?_) (fun _ => ?_))
  intro c p3 r e3 er
  subst er
  have pb3 := sp_byte_b (show p2 ≤ e by omega) e3
  have c3 : c ≤ 3 := of_decide_eq_true pb3.1.2.2.2
  refine u_t K9 (u_b rm0 (u_t km (u_b r3 (u_id ?_))))
  dsimp only
  rw [show pm_I (rc h (Int32.ofNat p3) 0 q) 19 15 = Int32.ofNat i from i15, show Int32.ofNat i * 6 = Int32.ofNat (i * 6) from nn_ml i 6]
  exact cs_desc L k35 hl hi pb3.2 q c3 Z
theorem fX7_space_k (km : pm_kd h mm = 7) {k : Nat} (hk : k ≤ 3) (r : pm_R h mm (4 + k) = some x) : fX7_space h mm (Int32.ofNat k) = some x := by
  unfold fX7_space
  rcases (show k = 0 ∨ k = 1 ∨ k = 2 ∨ k = 3 by omega) with rfl | rfl | rfl | rfl
  · exact e9_t (by decide) (e9_t km (e9_b r rfl))
  · exact e9_f (by decide) (e9_t (by decide) (e9_t km (e9_b r rfl)))
  · exact e9_f (by decide) (e9_f (by decide) (e9_t (by decide) (e9_t km (e9_b r rfl))))
  · exact e9_f (by decide) (e9_f (by decide) (e9_f (by decide) (e9_t km (e9_b r rfl))))
theorem cs_own (L : lC h n b mm me e d ob B) {k : Nat} (hk : k ≤ 2) (rk : pm_R h mm (4 + k) = some x) (k35 : pm_kd h x = 35) (hl : pm_ln h x < 2147483648) {i o3 : Nat} (i15 : pm_I h 19 15 = Int32.ofNat i) (i13 : pm_I h 19 13 = Int32.ofNat o3) (hi : (o3 + i) * 6 + 6 < 2147483648) (hp : p ≤ e) (q : Int32) (Z : (o3 + i) * 6 + 6 ≤ pm_ln h x → ∀ j, j < 6 → pm_L h x ((o3 + i) * 6 + j) = 0) : cs_Q wH (nF h) (rD h x ((o3 + i) * 6) q) (fX9_own (rc h (Int32.ofNat p) 0 q) 19 (Int32.ofNat k)) (sp_desc B e k p) := by
  have CD := lC_C L
  have K9 : pm_kd h 19 = 9 := CD.1.1
  unfold fX9_own
  refine u_t K9 (u_l (u_b CD.1.2.1 (u_t CD.1.2.2.1 (u_b (fX7_space_k (h := rc h (Int32.ofNat p) 0 q) CD.1.2.2.1 (by omega) rk) ?_))))
  rw [show pm_I (rc h (Int32.ofNat p) 0 q) 19 15 = Int32.ofNat i from i15, show pm_I (rc h (Int32.ofNat p) 0 q) 19 13 = Int32.ofNat o3 from i13, nn_ad, show Int32.ofNat (o3 + i) * 6 = Int32.ofNat ((o3 + i) * 6) from nn_ml _ 6]
  have Q := cs_desc L k35 hl hi hp q (show k ≤ 3 by omega) Z
  have n3 : ¬ Int32.ofNat k = Int32.ofNat 3 := by rw [nn_eq (by omega) (by decide)]; omega
  cases ho : sp_desc B e k p with
  | inl w =>
    rw [ho] at Q
    obtain ⟨hn, D⟩ := Q
    exact ⟨hn, y_h D (fun h2 a g2 => y_f n3 (y_r (a := a) rfl g2))⟩
  | inr w =>
    rw [ho] at Q
    obtain ⟨r, e1, hR⟩ := Q
    exact u_b e1 (u_f n3 ⟨r, rfl, hR⟩)
theorem cs_own3 (L : lC h n b mm me e d false B) (rk : pm_R h mm 7 = some x) (k35 : pm_kd h x = 35) (hl : pm_ln h x < 2147483648) {i o3 : Nat} (i15 : pm_I h 19 15 = Int32.ofNat i) (i13 : pm_I h 19 13 = Int32.ofNat o3) (hi : (o3 + i) * 6 + 6 < 2147483648) (hp : p ≤ e) (q : Int32) (Z : (o3 + i) * 6 + 6 ≤ pm_ln h x → ∀ j, j < 6 → pm_L h x ((o3 + i) * 6 + j) = 0) : cs_Q wH (nF h) (fun (v : tImp × Nat) p' r => ∃ h', r = rc h' (Int32.ofNat p') 0 q ∧ gW me x ((o3 + i) * 6) ((o3 + i) * 6 + 6) h h' ∧ pm_I h' 19 5 = pm_I h 19 5 ∧ ((o3 + i) * 6 + 6 ≤ pm_ln h x → pm_L h' x ((o3 + i) * 6) = 3 ∧ pm_L h' x ((o3 + i) * 6 + 1) = Int64.ofNat v.1.2.1 ∧ pm_L h' x ((o3 + i) * 6 + 2) = Int64.ofNat v.1.2.2.2.2 ∧ pm_L h' x ((o3 + i) * 6 + 5) = Int64.ofNat v.2)) (fX9_own (rc h (Int32.ofNat p) 0 q) 19 (Int32.ofNat 3)) (sp_b (sp_desc B e 3 p) fun v p1 => sp_b (sp_ex B e d false (e + 1) [] p1) fun _ p2 => .inr ((v, p1), p2)) := by
  have CD := lC_C L
  obtain ⟨⟨K9, rm0, km, rb, kb⟩, r17, kme, lme⟩ := lC_C L
  have m := lC_m L
  have he := L.2.2.2.1
  have n4 := L.1.2.2.2.2.2.2.1
  have x9 : x ≠ 19 := fun z => by rw [z, K9] at k35; exact absurd k35 (by decide)
  have xme : x ≠ me := fun z => by rw [z, kme] at k35; exact absurd k35 (by decide)
  unfold fX9_own
  refine u_t K9 (u_l (u_b rm0 (u_t km (u_b (fX7_space_k (h := rc h (Int32.ofNat p) 0 q) km (k := 3) (by decide) rk) ?_))))
  rw [show pm_I (rc h (Int32.ofNat p) 0 q) 19 15 = Int32.ofNat i from i15, show pm_I (rc h (Int32.ofNat p) 0 q) 19 13 = Int32.ofNat o3 from i13, nn_ad, show Int32.ofNat (o3 + i) * 6 = Int32.ofNat ((o3 + i) * 6) from nn_ml _ 6]
  refine u_c (cs_desc L k35 hl hi hp q (c := 3) (by decide) Z) ?_ ?_
  · intro r h2 a f q hf er g2
    have er : r = rc h2 a f q := er
    subst er
    repeat' (first | with_reducible exact y_r rfl (by assumption) | with_reducible refine y_k (by assumption) (by assumption) ?_ | with_reducible refine y_R (by assumption) (by assumption) ?_ | with_reducible refine y_l ?_ | with_reducible refine y_f (rc_f0 hf) ?_ | with_reducible refine y_num (by assumption) K9 hf (by decide) ?_ | with_reducible refine y_fail (by assumption) K9 hf ?_ | with_reducible refine y_skip (by assumption) K9 hf ?_ | with_reducible refine y_next (by assumption) K9 hf ?_ | with_reducible refine y_vt (by assumption) K9 hf (fun _ _ => ?_) | with_reducible refine y_rt (by assumption) K9 hf (fun _ _ => ?_) | with_reducible refine y_nut (by assumption) K9 hf (fun _ _ => ?_) | with_reducible refine y_name (by assumption) K9 hf (fun _ _ => ?_) | with_reducible refine y_lim (by assumption) K9 (fun _ _ => ?_) | with_reducible refine y_expr (by assumption) CD hf (fun _ _ _ => ?_) | with_reducible refine y_st6 (by assumption) (by assumption) (by assumption) (fun _ _ => ?_) | with_reducible refine y_st3 (by assumption) (by assumption) (by assumption) (fun _ _ => ?_) | with_reducible refine y_i (fun _ => ?_) (fun _ => ?_))
  intro v p1 r e1 hR
  obtain ⟨h2, er, g2, W⟩ := hR
  subst er
  have gn2 : nF h h2 := nF_g g2
  have L2 := lC_D L k35 g2
  have pb : p1 ≤ e := by
    unfold sp_desc at e1
    rw [if_neg (by decide), if_pos (by decide)] at e1
    have u : sp_up (sp_b (sp_byte sp_isT 8 B e p) fun t p4 => sp_b (sp_byte (fun c => decide (c ≤ 1)) 7 B e p4) fun g p5 => (.inr ((3, t, 0, -1, g), p5) : sp_O tImp)) p e := up_b (up_byte hp) fun _ p4 _ h4 => up_b (up_byte h4) fun _ p5 _ h5 => up_r h5
    exact (u _ _ e1).2
  refine u_t (by decide) (u_t (gk gn2 K9) (u_b (gR gn2 rm0) (u_t (gk gn2 km) (u_b (gR gn2 rk) ?_))))
  rw [show pm_I (rc h2 (Int32.ofNat p1) 0 q) 19 1 = Int32.ofNat p1 from rfl, nn_t6 (show p1 < 2147483648 by omega)]
  refine u_b (st6_a (gk gn2 k35) (by rw [gn2.2.2.1]; exact hl) 5 (by omega) _) ?_
  have g3 : gD x ((o3 + i) * 6) h (sL h2 x ((o3 + i) * 6 + 5) (Int64.ofNat p1)) := gD_s g2 (by decide)
  obtain ⟨h3, eh3⟩ : ∃ z, z = sL h2 x ((o3 + i) * 6 + 5) (Int64.ofNat p1) := ⟨_, rfl⟩
  rw [← eh3] at g3 ⊢
  have gn3 : nF h h3 := nF_g g3
  have L3 := lC_D L k35 g3
  refine u_t (gk gn3 K9) (u_id ?_)
  refine u_wc (cs_expr L3 pb q) (fun _ z => nF_t gn3 z) ?_
  rintro w p2 r e4 ⟨h4, er, g4, l4⟩
  have wf : w.2 = false := sp_ex_f _ _ e4
  refine u_r ⟨h4, er, gF_t (gW_D g3 (Nat.le_refl _)) (gW_x g4), ?_, fun z => ?_⟩
  · rw [l4, wf, g3.2.2.2.2.1 19 5 (fun z => z)]
    rfl
  · have w1 := W z
    have k4 : ∀ j, pm_L h4 x j = pm_L h3 x j := fun j => g4.2.2.2.2.2 x j (fun z => x9 z.1)
    have S := sL_g (h := h2) (x := x) (k := (o3 + i) * 6 + 5) (v := Int64.ofNat p1) (by rw [gn2.2.2.1]; omega)
    rw [← eh3] at S
    have v0 : v.1 = 3 := by
      unfold sp_desc at e1
      rw [if_neg (by decide), if_pos (by decide)] at e1
      have u : sA (fun v : tImp => v.1 = 3) (sp_b (sp_byte sp_isT 8 B e p) fun t p4 => sp_b (sp_byte (fun c => decide (c ≤ 1)) 7 B e p4) fun g p5 => (.inr ((3, t, 0, -1, g), p5) : sp_O tImp)) := sA_b fun _ _ => sA_b fun _ _ => sA_r rfl
      exact u _ _ e1
    refine ⟨?_, ?_, ?_, ?_⟩
    · rw [k4, S, if_neg (by omega), w1.1, v0]; rfl
    · rw [k4, S, if_neg (by omega), w1.2.1]
    · rw [k4, S, if_neg (by omega), w1.2.2.1]
    · rw [k4, S, if_pos rfl]
/-- an export's number, as the class keeps it -/
def ix3 (v : Nat) : Int32 := if v ≤ 2147483647 then Int32.ofNat v else 2147483647
theorem ix3_e {v : Nat} (hv : v < 4294967296) : fX12_index (Int64.ofNat v) = ix3 v := by
  unfold fX12_index ix3
  refine e9_f (show ¬ Int64.ofNat v < Int64.ofNat 0 by rw [ll_lt (by omega) (by decide)]; omega) ?_
  by_cases c : v ≤ 2147483647
  · rw [if_pos c]
    exact e9_t (show Int64.ofNat v ≤ Int64.ofNat 2147483647 by rw [ll_le (by omega) (by decide)]; exact c) (ll_t3 v)
  · rw [if_neg c]
    exact e9_f (show ¬ Int64.ofNat v ≤ Int64.ofNat 2147483647 by rw [ll_le (by omega) (by decide)]; exact c) rfl
theorem st3_a {f q : Int32} {at' : Int32} (k34 : pm_kd h1 x = 34) (x9 : x ≠ 19) (hl : pm_ln h1 x < 2147483648) {k : Nat} (c : Nat) (hk : k + c < 2147483648) (v : Int32) : fX12_setItem (rc h1 at' f q) x (Int32.ofNat k + Int32.ofNat c) v = some (rc (sI h1 x (k + c) v) at' f q) := by
  rw [nn_ad]
  exact st3_e k34 x9 hl hk v
def pXpC (h : pm_H) (x a : Nat) (v : tXp) : Prop := pm_I h x a = Int32.ofNat v.1 ∧ pm_I h x (a + 1) = Int32.ofNat v.2.1 ∧ pm_I h x (a + 2) = Int32.ofNat v.2.2.1 ∧ pm_I h x (a + 3) = ix3 v.2.2.2
theorem cs_xp (L : lC h n b mm me e d ob B) (r8 : pm_R h mm 8 = some x) (k34 : pm_kd h x = 34) (hl : pm_ln h x < 2147483648) {i : Nat} (i15 : pm_I h 19 15 = Int32.ofNat i) (hi : i * 4 + 4 < 2147483648) (hp : p ≤ e) (q : Int32) : cs_Q wH (nF h) (fun (v : tXp) p' r => ∃ h', r = rc h' (Int32.ofNat p') 0 q ∧ gW me x (i * 4) (i * 4 + 4) h h' ∧ pm_I h' 19 5 = pm_I h 19 5 ∧ (i * 4 + 4 ≤ pm_ln h x → pXpC h' x (i * 4) v)) (fX9_exportOne (rc h (Int32.ofNat p) 0 q) 19) (sp_xp B e p) := by
  have CD := lC_C L
  obtain ⟨⟨K9, rm0, km, rb, kb⟩, r17, kme, lme⟩ := lC_C L
  have he := L.2.2.2.1
  have n4 := L.1.2.2.2.2.2.2.1
  have x9 : x ≠ 19 := fun z => by rw [z, K9] at k34; exact absurd k34 (by decide)
  have hl' : pm_ln h x < 2147483648 ∧ x ≠ 19 := ⟨hl, x9⟩
  have g0 := nF_r h
  unfold fX9_exportOne sp_xp
  refine u_t K9 (u_l (u_p (cs_name L.1 L.2.2.1 he hp q) (fun r1 a' f q hf => ?_) ?_))
  · repeat' (first | with_reducible exact y_r rfl (by assumption) | with_reducible refine y_k (by assumption) (by assumption) ?_ | with_reducible refine y_R (by assumption) (by assumption) ?_ | with_reducible refine y_l ?_ | with_reducible refine y_f (rc_f0 hf) ?_ | with_reducible refine y_num (by assumption) K9 hf (by decide) ?_ | with_reducible refine y_fail (by assumption) K9 hf ?_ | with_reducible refine y_skip (by assumption) K9 hf ?_ | with_reducible refine y_next (by assumption) K9 hf ?_ | with_reducible refine y_vt (by assumption) K9 hf (fun _ _ => ?_) | with_reducible refine y_rt (by assumption) K9 hf (fun _ _ => ?_) | with_reducible refine y_nut (by assumption) K9 hf (fun _ _ => ?_) | with_reducible refine y_name (by assumption) K9 hf (fun _ _ => ?_) | with_reducible refine y_lim (by assumption) K9 (fun _ _ => ?_) | with_reducible refine y_expr (by assumption) CD hf (fun _ _ _ => ?_) | with_reducible refine y_st6 (by assumption) (by assumption) (by assumption) (fun _ _ => ?_) | with_reducible refine y_st3 (by assumption) (by assumption) (by assumption) (fun _ _ => ?_) | with_reducible refine y_i (fun _ => ?_) (fun _ => ?_))
  intro s p1 r e1 er
  subst er
  have pb1 := sp_name_b hp e1
  refine u_t K9 (u_b rm0 (u_t km (u_b r8 ?_)))
  dsimp only
  rw [show pm_I (rc h (Int32.ofNat p) 0 q) 19 15 = Int32.ofNat i from i15, show Int32.ofNat i * 4 = Int32.ofNat (i * 4) from nn_ml i 4, show pm_I (rc h (Int32.ofNat p1) 0 q) 19 1 = Int32.ofNat p1 from rfl, nn_sb (show p1 - s ≤ p1 by omega), show p1 - (p1 - s) = s by omega]
  refine u_b (st3_a k34 x9 hl 0 (by omega) _) ?_
  obtain ⟨h1, eh1⟩ : ∃ z, z = sI h x (i * 4 + 0) (Int32.ofNat s) := ⟨_, rfl⟩
  have g1 : gW me x (i * 4) (i * 4 + 4) h h1 := by rw [eh1]; exact gW_I (gF_r _ _ h) (by omega) (by omega)
  rw [← eh1]
  have gn1 : nF h h1 := nF_g g1
  refine u_t (gk gn1 K9) (u_b (gR gn1 rm0) (u_t (gk gn1 km) (u_b (gR gn1 r8) (u_b (st3_a (gk gn1 k34) x9 (by rw [gn1.2.2.1]; exact hl) 1 (by omega) _) ?_))))
  obtain ⟨h2, eh2⟩ : ∃ z, z = sI h1 x (i * 4 + 1) (Int32.ofNat (p1 - s)) := ⟨_, rfl⟩
  have g2 : gW me x (i * 4) (i * 4 + 4) h h2 := by rw [eh2]; exact gW_I g1 (by omega) (by omega)
  rw [← eh2]
  have gn2 : nF h h2 := nF_g g2
  have L2 := lC_W L (.inl k34) g2
  refine u_t (gk gn2 K9) (u_b (gR gn2 rm0) (u_t (gk gn2 km) (u_b (gR gn2 r8) (u_p (cs_nut L2.1 L2.2.2.1 he (by omega) q (k := 3) (by decide)) (fun r1 a' f q hf => ?_) ?_))))
  · repeat' (first | with_reducible exact y_r rfl (by assumption) | with_reducible refine y_k (by assumption) (by assumption) ?_ | with_reducible refine y_R (by assumption) (by assumption) ?_ | with_reducible refine y_l ?_ | with_reducible refine y_f (rc_f0 hf) ?_ | with_reducible refine y_num (by assumption) K9 hf (by decide) ?_ | with_reducible refine y_fail (by assumption) K9 hf ?_ | with_reducible refine y_skip (by assumption) K9 hf ?_ | with_reducible refine y_next (by assumption) K9 hf ?_ | with_reducible refine y_vt (by assumption) K9 hf (fun _ _ => ?_) | with_reducible refine y_rt (by assumption) K9 hf (fun _ _ => ?_) | with_reducible refine y_nut (by assumption) K9 hf (fun _ _ => ?_) | with_reducible refine y_name (by assumption) K9 hf (fun _ _ => ?_) | with_reducible refine y_lim (by assumption) K9 (fun _ _ => ?_) | with_reducible refine y_expr (by assumption) CD hf (fun _ _ _ => ?_) | with_reducible refine y_st6 (by assumption) (by assumption) (by assumption) (fun _ _ => ?_) | with_reducible refine y_st3 (by assumption) (by assumption) (by assumption) (fun _ _ => ?_) | with_reducible refine y_i (fun _ => ?_) (fun _ => ?_))
  intro c p2 r e2 er
  subst er
  have pb2 := sp_byte_b (show p1 ≤ e by omega) e2
  refine u_b (st3_a (gk gn2 k34) x9 (by rw [gn2.2.2.1]; exact hl) 2 (by omega) _) ?_
  dsimp only
  obtain ⟨h3, eh3⟩ : ∃ z, z = sI h2 x (i * 4 + 2) (Int32.ofNat c) := ⟨_, rfl⟩
  have g3 : gW me x (i * 4) (i * 4 + 4) h h3 := by rw [eh3]; exact gW_I g2 (by omega) (by omega)
  rw [← eh3]
  have gn3 : nF h h3 := nF_g g3
  have L3 := lC_W L (.inl k34) g3
  refine u_t (gk gn3 K9) (u_b (gR gn3 rm0) (u_t (gk gn3 km) (u_b (gR gn3 r8) (u_p (cs_num L3.1 L3.2.2.1 he (by omega) q) (fun r1 a' f q hf => ?_) ?_))))
  · repeat' (first | with_reducible exact y_r rfl (by assumption) | with_reducible refine y_k (by assumption) (by assumption) ?_ | with_reducible refine y_R (by assumption) (by assumption) ?_ | with_reducible refine y_l ?_ | with_reducible refine y_f (rc_f0 hf) ?_ | with_reducible refine y_num (by assumption) K9 hf (by decide) ?_ | with_reducible refine y_fail (by assumption) K9 hf ?_ | with_reducible refine y_skip (by assumption) K9 hf ?_ | with_reducible refine y_next (by assumption) K9 hf ?_ | with_reducible refine y_vt (by assumption) K9 hf (fun _ _ => ?_) | with_reducible refine y_rt (by assumption) K9 hf (fun _ _ => ?_) | with_reducible refine y_nut (by assumption) K9 hf (fun _ _ => ?_) | with_reducible refine y_name (by assumption) K9 hf (fun _ _ => ?_) | with_reducible refine y_lim (by assumption) K9 (fun _ _ => ?_) | with_reducible refine y_expr (by assumption) CD hf (fun _ _ _ => ?_) | with_reducible refine y_st6 (by assumption) (by assumption) (by assumption) (fun _ _ => ?_) | with_reducible refine y_st3 (by assumption) (by assumption) (by assumption) (fun _ _ => ?_) | with_reducible refine y_i (fun _ => ?_) (fun _ => ?_))
  intro v p3 r e3 er
  subst er
  have vl : v < 4294967296 := sp_nu_v L.1.2.2.2.2.2.2.2.2.2 (by decide) (by decide) (by decide) e3
  refine u_l (u_b (st3_a (gk gn3 k34) x9 (by rw [gn3.2.2.1]; exact hl) 3 (by omega) _) (u_r ⟨_, rfl, gW_I g3 (by omega) (by omega), ?_, fun z => ?_⟩))
  · rw [sI_n (fun z => x9 z.symm), eh3, sI_n (fun z => x9 z.symm), eh2, sI_n (fun z => x9 z.symm), eh1, sI_n (fun z => x9 z.symm)]
  · have S1 := sI_g (h := h) (x := x) (k := i * 4 + 0) (v := Int32.ofNat s) (by omega)
    have S2 := sI_g (h := h1) (x := x) (k := i * 4 + 1) (v := Int32.ofNat (p1 - s)) (by rw [gn1.2.2.1]; omega)
    have S3 := sI_g (h := h2) (x := x) (k := i * 4 + 2) (v := Int32.ofNat c) (by rw [gn2.2.2.1]; omega)
    have S4 := sI_g (h := h3) (x := x) (k := i * 4 + 3) (v := fX12_index (Int64.ofNat v)) (by rw [gn3.2.2.1]; omega)
    rw [← eh1] at S1
    rw [← eh2] at S2
    rw [← eh3] at S3
    exact ⟨(S4 _).trans ((if_neg (by omega)).trans ((S3 _).trans ((if_neg (by omega)).trans ((S2 _).trans ((if_neg (by omega)).trans ((S1 _).trans (if_pos rfl))))))), (S4 _).trans ((if_neg (by omega)).trans ((S3 _).trans ((if_neg (by omega)).trans ((S2 _).trans (if_pos rfl))))), (S4 _).trans ((if_neg (by omega)).trans ((S3 _).trans (if_pos rfl))), (S4 _).trans ((if_pos rfl).trans (ix3_e vl))⟩
end OWN
