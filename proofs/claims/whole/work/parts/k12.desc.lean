/-! THE CLASS READS: what a function, table, memory or global is -/
/-- the Reader on its way -/
def lC (h : pm_H) (n b mm me e : Nat) (d ob : Bool) (B : Nat → Nat) : Prop := cS h n b mm B ∧ cE h me b mm ∧ pm_I h 19 2 = Int32.ofNat e ∧ e ≤ n ∧ (pm_I h 19 16 = 0) = (ob = false) ∧ (0 ≤ pm_L h mm 14) = (d = true)
theorem lC_C {h : pm_H} {n b mm me e : Nat} {d ob : Bool} {B : Nat → Nat} (L : lC h n b mm me e d ob B) : dC h b mm me := ⟨⟨L.1.1, L.1.2.1, L.1.2.2.1, L.1.2.2.2.1, L.1.2.2.2.2.1⟩, L.2.1.1, L.2.1.2.1, L.2.1.2.2.1⟩
theorem lC_m {h : pm_H} {n b mm me e : Nat} {d ob : Bool} {B : Nat → Nat} (L : lC h n b mm me e d ob B) : mm ≠ 19 ∧ b ≠ 19 ∧ me ≠ 19 ∧ b ≠ mm ∧ me ≠ mm ∧ me ≠ b := by
  obtain ⟨⟨K, rm0, km, rb, kb, lb, hn, b9, hB, hB2⟩, ⟨r17, kme, lme, m9, mb, m7⟩, -⟩ := L
  exact ⟨fun z => by rw [z, K] at km; exact absurd km (by decide), b9, m9, fun z => by rw [z, km] at kb; exact absurd kb (by decide), m7, mb⟩
/-- kept by what writes elsewhere -/
theorem lC_g {h h' : pm_H} {n b mm me e : Nat} {d ob : Bool} {B : Nat → Nat} {AI AL : Nat → Nat → Prop} (L : lC h n b mm me e d ob B) (g : gF AI AL h h') (n1 : ∀ Y, ¬ AI b Y) (n2 : ¬ AI 19 2) (n3 : ¬ AI 19 16) (n4 : ¬ AL mm 14) : lC h' n b mm me e d ob B := by
  have m := lC_m L
  obtain ⟨⟨K, rm0, km, rb, kb, lb, hn, b9, hB, hB2⟩, ⟨r17, kme, lme, m9, mb, m7⟩, ie, he, ib, dt⟩ := L
  refine ⟨⟨by rw [g.2.1]; exact K, by rw [g.2.2.2.1]; exact rm0, by rw [g.2.1]; exact km, by rw [g.2.2.2.1]; exact rb, by rw [g.2.1]; exact kb, by rw [g.2.2.1]; exact lb, hn, b9, fun i hi => ?_, hB2⟩, ⟨by rw [g.2.2.2.1]; exact r17, by rw [g.2.1]; exact kme, by rw [g.2.2.1]; exact lme, m9, mb, m7⟩, ?_, he, ?_, ?_⟩
  · rw [g.2.2.2.2.1 b i (n1 i)]; exact hB i hi
  · rw [g.2.2.2.2.1 19 2 n2]; exact ie
  · rw [g.2.2.2.2.1 19 16 n3]; exact ib
  · rw [g.2.2.2.2.2 mm 14 n4]; exact dt
def gD (x a : Nat) (h h' : pm_H) : Prop := gF (fun _ _ => False) (fun X Y => X = x ∧ a ≤ Y ∧ Y < a + 6) h h'
theorem sL_ln (h : pm_H) (x k : Nat) (v : Int64) : pm_ln (sL h x k v) = pm_ln h := by unfold sL; split <;> rfl
theorem gD_s {x a j : Nat} {h h1 : pm_H} {v : Int64} (g : gD x a h h1) (hj : j < 6) : gD x a h (sL h1 x (a + j) v) := by
  unfold sL
  split
  · exact gF_t g (gF_L h1 v ⟨rfl, Nat.le_add_right _ _, by omega⟩)
  · exact g
theorem sL_g {h : pm_H} {x k : Nat} {v : Int64} (hk : k < pm_ln h x) (j : Nat) : pm_L (sL h x k v) x j = if j = k then v else pm_L h x j := by
  unfold sL
  rw [if_pos hk, ev_LL, if_pos rfl]
section DESC
variable {h h1 : pm_H} {n b mm me e p x a : Nat} {d ob : Bool} {B : Nat → Nat}
theorem lC_D (L : lC h n b mm me e d ob B) (k35 : pm_kd h x = 35) (g : gD x a h h1) : lC h1 n b mm me e d ob B := lC_g L g (fun _ z => z) (fun z => z) (fun z => z) (fun z => by have := L.1.2.2.1; rw [z.1, k35] at this; exact absurd this (by decide))
/-- six numbers -/
def pEnt (h : pm_H) (x a : Nat) (v : tImp) : Prop := pm_L h x a = Int64.ofNat v.1 ∧ pm_L h x (a + 1) = Int64.ofNat v.2.1 ∧ pm_L h x (a + 2) = Int64.ofNat v.2.2.2.2 ∧ pm_L h x (a + 3) = Int64.ofNat v.2.2.1 ∧ pm_L h x (a + 4) = v.2.2.2.1 ∧ pm_L h x (a + 5) = 0
def sp_desc (B : Nat → Nat) (e c p : Nat) : sp_O tImp := if c = 0 then sp_b (sp_num B e p) fun t p4 => .inr ((c, t, 0, -1, 0), p4)
  else if c = 3 then sp_b (sp_byte sp_isT 8 B e p) fun t p4 => sp_b (sp_byte (fun c => decide (c ≤ 1)) 7 B e p4) fun g p5 => .inr ((c, t, 0, -1, g), p5)
  else if c = 1 then sp_b (sp_byte sp_isR 8 B e p) fun t p4 => sp_b (sp_lim B e p4) fun l p5 => .inr ((c, t, l.1, l.2, 0), p5)
  else sp_b (sp_lim B e p) fun l p5 => .inr ((c, 0, l.1, l.2, 0), p5)
theorem st6_a {f q : Int32} {at' : Int32} (k35 : pm_kd h1 x = 35) (hl : pm_ln h1 x < 2147483648) {k : Nat} (c : Nat) (hk : k + c < 2147483648) (v : Int64) : fX12_setItem_ (rc h1 at' f q) x (Int32.ofNat k + Int32.ofNat c) v = some (rc (sL h1 x (k + c) v) at' f q) := by
  rw [nn_ad]
  exact st6_e k35 hl hk v
/-- how the six numbers are told -/
abbrev rD (h : pm_H) (x a : Nat) (q : Int32) : tImp → Nat → pm_H → Prop := fun v p' r => ∃ h', r = rc h' (Int32.ofNat p') 0 q ∧ gD x a h h' ∧ (a + 6 ≤ pm_ln h x → pEnt h' x a v)
theorem cs_d102 (L : lC h n b mm me e d ob B) (k35 : pm_kd h x = 35) (hl : pm_ln h x < 2147483648) (ha : a + 6 < 2147483648) (g : gD x a h h1) (hp : p ≤ e) (q : Int32) {c : Nat} (hc : c ≤ 3) (c3 : c ≠ 3) {v : tImp} (W : a + 6 ≤ pm_ln h x → pEnt h1 x a v) : cs_Q wH (nF h) (rD h x a q) (fX9_describe_b102 (rc h1 (Int32.ofNat p) 0 q) 19 x (Int32.ofNat a) (Int32.ofNat c)) (.inr (v, p)) := by
  unfold fX9_describe_b102
  exact u_f (show ¬ Int32.ofNat c = Int32.ofNat 3 by rw [nn_eq (by omega) (by decide)]; exact c3) (u_r ⟨h1, rfl, g, W⟩)
theorem cs_d63 (L : lC h n b mm me e d ob B) (k35 : pm_kd h x = 35) (hl : pm_ln h x < 2147483648) (ha : a + 6 < 2147483648) (g : gD x a h h1) (hp : p ≤ e) (q : Int32) {c t : Nat} (hc : c ≤ 3) (c3 : c ≠ 3) (W : a + 6 ≤ pm_ln h x → pEnt h1 x a (c, t, 0, -1, 0)) : cs_Q wH (nF h) (rD h x a q) (fX9_describe_b63 (rc h1 (Int32.ofNat p) 0 q) 19 x (Int32.ofNat a) (Int32.ofNat c)) (sp_b (sp_lim B e p) fun l p5 => .inr ((c, t, l.1, l.2, 0), p5)) := by
  have K9 : pm_kd h 19 = 9 := L.1.1
  have L1 := lC_D L k35 g
  have g1 : nF h h1 := nF_g g
  have k351 := gk g1 k35
  have l1 : pm_ln h1 x = pm_ln h x := congrFun g1.2.2.1 x
  have n4 := L.1.2.2.2.2.2.2.1
  have he := L.2.2.2.1
  unfold fX9_describe_b63 sp_lim
  rw [sp_bb]
  refine u_t L1.1.1 (u_p (cs_nut L1.1 L1.2.2.1 he hp q (k := 1) (by decide)) (fun r1 a' f q hf => ?_) ?_)
  · repeat' (first | with_reducible exact y_r rfl (by assumption) | with_reducible exact cd_d102 (by assumption) K9 k35 hl hf _ _ _ | with_reducible refine y_k (by assumption) (by assumption) ?_ | with_reducible refine y_R (by assumption) (by assumption) ?_ | with_reducible refine y_l ?_ | with_reducible refine y_f (rc_f0 hf) ?_ | with_reducible refine y_num (by assumption) K9 hf (by decide) ?_ | with_reducible refine y_fail (by assumption) K9 hf ?_ | with_reducible refine y_skip (by assumption) K9 hf ?_ | with_reducible refine y_next (by assumption) K9 hf ?_ | with_reducible refine y_vt (by assumption) K9 hf (fun _ _ => ?_) | with_reducible refine y_rt (by assumption) K9 hf (fun _ _ => ?_) | with_reducible refine y_nut (by assumption) K9 hf (fun _ _ => ?_) | with_reducible refine y_name (by assumption) K9 hf (fun _ _ => ?_) | with_reducible refine y_lim (by assumption) K9 (fun _ _ => ?_) | with_reducible refine y_expr (by assumption) CD hf (fun _ _ _ => ?_) | with_reducible refine y_st6 (by assumption) (by assumption) (by assumption) (fun _ _ => ?_) | with_reducible refine y_st3 (by assumption) (by assumption) (by assumption) (fun _ _ => ?_) | with_reducible refine y_i (fun _ => ?_) (fun _ => ?_))
  intro v p1 r e1 er
  subst er
  have pb := sp_byte_b hp e1
  have v1 : v ≤ 1 := of_decide_eq_true pb.1.2.2.2
  rw [sp_bb]
  refine u_t L1.1.1 (u_p (cs_num L1.1 L1.2.2.1 he (by omega) q) (fun r1 a' f q hf => ?_) ?_)
  · repeat' (first | with_reducible exact y_r rfl (by assumption) | with_reducible exact cd_d102 (by assumption) K9 k35 hl hf _ _ _ | with_reducible refine y_k (by assumption) (by assumption) ?_ | with_reducible refine y_R (by assumption) (by assumption) ?_ | with_reducible refine y_l ?_ | with_reducible refine y_f (rc_f0 hf) ?_ | with_reducible refine y_num (by assumption) K9 hf (by decide) ?_ | with_reducible refine y_fail (by assumption) K9 hf ?_ | with_reducible refine y_skip (by assumption) K9 hf ?_ | with_reducible refine y_next (by assumption) K9 hf ?_ | with_reducible refine y_vt (by assumption) K9 hf (fun _ _ => ?_) | with_reducible refine y_rt (by assumption) K9 hf (fun _ _ => ?_) | with_reducible refine y_nut (by assumption) K9 hf (fun _ _ => ?_) | with_reducible refine y_name (by assumption) K9 hf (fun _ _ => ?_) | with_reducible refine y_lim (by assumption) K9 (fun _ _ => ?_) | with_reducible refine y_expr (by assumption) CD hf (fun _ _ _ => ?_) | with_reducible refine y_st6 (by assumption) (by assumption) (by assumption) (fun _ _ => ?_) | with_reducible refine y_st3 (by assumption) (by assumption) (by assumption) (fun _ _ => ?_) | with_reducible refine y_i (fun _ => ?_) (fun _ => ?_))
  intro v2 p2 r e2 er
  subst er
  have pb2 := sp_num_b (show p1 ≤ e by omega) e2
  refine u_b (st6_a k351 (by rw [l1]; exact hl) 3 (by omega) _) ?_
  have g2 := gD_s (v := Int64.ofNat v2) g (show 3 < 6 by decide)
  have W2 : a + 6 ≤ pm_ln h x → pEnt (sL h1 x (a + 3) (Int64.ofNat v2)) x a (c, t, v2, -1, 0) := by
    intro z
    have w := W z
    have S := sL_g (h := h1) (x := x) (k := a + 3) (v := Int64.ofNat v2) (by rw [l1]; omega)
    unfold pEnt at w ⊢
    exact ⟨(S _).trans ((if_neg (by omega)).trans w.1), (S _).trans ((if_neg (by omega)).trans w.2.1), (S _).trans ((if_neg (by omega)).trans w.2.2.1), (S _).trans (if_pos rfl), (S _).trans ((if_neg (by omega)).trans w.2.2.2.2.1), (S _).trans ((if_neg (by omega)).trans w.2.2.2.2.2)⟩
  by_cases c1 : v = 1
  · rw [if_pos c1, sp_bb]
    have L2 := lC_D L k35 g2
    have gn2 : nF h (sL h1 x (a + 3) (Int64.ofNat v2)) := nF_g g2
    refine u_t (show Int32.ofNat v = Int32.ofNat 1 by rw [c1]) (u_t L2.1.1 (u_p (cs_num L2.1 L2.2.2.1 he (by omega) q) (fun r1 a' f q hf => ?_) ?_))
    · repeat' (first | with_reducible exact y_r rfl (by assumption) | with_reducible exact cd_d102 (by assumption) K9 k35 hl hf _ _ _ | with_reducible refine y_k (by assumption) (by assumption) ?_ | with_reducible refine y_R (by assumption) (by assumption) ?_ | with_reducible refine y_l ?_ | with_reducible refine y_f (rc_f0 hf) ?_ | with_reducible refine y_num (by assumption) K9 hf (by decide) ?_ | with_reducible refine y_fail (by assumption) K9 hf ?_ | with_reducible refine y_skip (by assumption) K9 hf ?_ | with_reducible refine y_next (by assumption) K9 hf ?_ | with_reducible refine y_vt (by assumption) K9 hf (fun _ _ => ?_) | with_reducible refine y_rt (by assumption) K9 hf (fun _ _ => ?_) | with_reducible refine y_nut (by assumption) K9 hf (fun _ _ => ?_) | with_reducible refine y_name (by assumption) K9 hf (fun _ _ => ?_) | with_reducible refine y_lim (by assumption) K9 (fun _ _ => ?_) | with_reducible refine y_expr (by assumption) CD hf (fun _ _ _ => ?_) | with_reducible refine y_st6 (by assumption) (by assumption) (by assumption) (fun _ _ => ?_) | with_reducible refine y_st3 (by assumption) (by assumption) (by assumption) (fun _ _ => ?_) | with_reducible refine y_i (fun _ => ?_) (fun _ => ?_))
    intro v3 p3 r e3 er
    subst er
    have pb3 := sp_num_b (show p2 ≤ e by omega) e3
    refine u_b (st6_a (gk gn2 k35) (by rw [gn2.2.2.1]; exact hl) 4 (by omega) _) ?_
    refine cs_d102 L k35 hl ha (gD_s g2 (show 4 < 6 by decide)) (by omega) q hc c3 (fun z => ?_)
    have w := W2 z
    have l2 : pm_ln (sL h1 x (a + 3) (Int64.ofNat v2)) x = pm_ln h x := congrFun gn2.2.2.1 x
    have S := sL_g (h := sL h1 x (a + 3) (Int64.ofNat v2)) (x := x) (k := a + 4) (v := Int64.ofNat v3) (by rw [l2]; omega)
    unfold pEnt at w ⊢
    exact ⟨(S _).trans ((if_neg (by omega)).trans w.1), (S _).trans ((if_neg (by omega)).trans w.2.1), (S _).trans ((if_neg (by omega)).trans w.2.2.1), (S _).trans ((if_neg (by omega)).trans w.2.2.2.1), (S _).trans (if_pos rfl), (S _).trans ((if_neg (by omega)).trans w.2.2.2.2.2)⟩
  · rw [if_neg c1]
    refine u_f (show ¬ Int32.ofNat v = Int32.ofNat 1 by rw [nn_eq (by omega) (by decide)]; exact c1) ?_
    exact cs_d102 L k35 hl ha g2 (by omega) q hc c3 W2
theorem cs_desc (L : lC h n b mm me e d ob B) (k35 : pm_kd h x = 35) (hl : pm_ln h x < 2147483648) (ha : a + 6 < 2147483648) (hp : p ≤ e) (q : Int32) {c : Nat} (hc : c ≤ 3) (Z : a + 6 ≤ pm_ln h x → ∀ j, j < 6 → pm_L h x (a + j) = 0) : cs_Q wH (nF h) (rD h x a q) (fX9_describe (rc h (Int32.ofNat p) 0 q) 19 x (Int32.ofNat a) (Int32.ofNat c)) (sp_desc B e c p) := by
  have K9 : pm_kd h 19 = 9 := L.1.1
  have n4 := L.1.2.2.2.2.2.2.1
  have he := L.2.2.2.1
  unfold fX9_describe
  refine u_b (st6_a k35 hl 0 (by omega) _) (u_b (st6_a (h1 := sL h x (a + 0) _) (by rw [(nF_dL ..).2.1]; exact k35) (by rw [sL_ln]; exact hl) 4 (by omega) _) ?_)
  have c6 : (Int32.ofNat c).toInt64 = Int64.ofNat c := nn_t6 (by omega)
  rw [c6]
  have g2 : gD x a h (sL (sL h x (a + 0) (Int64.ofNat c)) x (a + 4) (-1)) := gD_s (gD_s (gF_r _ _ h) (by decide)) (by decide)
  obtain ⟨h2, eh2⟩ : ∃ z, z = sL (sL h x (a + 0) (Int64.ofNat c)) x (a + 4) (-1) := ⟨_, rfl⟩
  have W : a + 6 ≤ pm_ln h x → pEnt h2 x a (c, 0, 0, -1, 0) := by
    intro z
    have l2 : pm_ln (sL h x (a + 0) (Int64.ofNat c)) x = pm_ln h x := congrFun (sL_ln ..) x
    rw [eh2]
    unfold pEnt
    have z0 := Z z 0 (by decide)
    have z1 := Z z 1 (by decide)
    have z2 := Z z 2 (by decide)
    have z3 := Z z 3 (by decide)
    have z5 := Z z 5 (by decide)
    have S1 := sL_g (h := h) (x := x) (k := a + 0) (v := Int64.ofNat c) (by omega)
    have S2 := sL_g (h := sL h x (a + 0) (Int64.ofNat c)) (x := x) (k := a + 4) (v := -1) (by rw [l2]; omega)
    exact ⟨(S2 _).trans ((if_neg (by omega)).trans ((S1 _).trans (if_pos rfl))), (S2 _).trans ((if_neg (by omega)).trans ((S1 _).trans ((if_neg (by omega)).trans z1))), (S2 _).trans ((if_neg (by omega)).trans ((S1 _).trans ((if_neg (by omega)).trans z2))), (S2 _).trans ((if_neg (by omega)).trans ((S1 _).trans ((if_neg (by omega)).trans z3))), (S2 _).trans (if_pos rfl), (S2 _).trans ((if_neg (by omega)).trans ((S1 _).trans ((if_neg (by omega)).trans z5)))⟩
  rw [← eh2] at g2 ⊢
  have L2 := lC_D L k35 g2
  have gn2 : nF h h2 := nF_g g2
  have l2 : pm_ln h2 x = pm_ln h x := congrFun gn2.2.2.1 x
  have N : ∀ k, k < 1000 → c ≠ k → ¬ Int32.ofNat c = Int32.ofNat k := fun k hk z => by rw [nn_eq (by omega) (by omega)]; exact z
  -- the type told
  have TY : ∀ (t j : Nat), j = 1 → (a + 6 ≤ pm_ln h x → pEnt (sL h2 x (a + j) (Int64.ofNat t)) x a (c, t, 0, -1, 0)) := by
    intro t j hj z
    subst hj
    have w := W z
    have S := sL_g (h := h2) (x := x) (k := a + 1) (v := Int64.ofNat t) (by rw [l2]; omega)
    unfold pEnt at w ⊢
    exact ⟨(S _).trans ((if_neg (by omega)).trans w.1), (S _).trans (if_pos rfl), (S _).trans ((if_neg (by omega)).trans w.2.2.1), (S _).trans ((if_neg (by omega)).trans w.2.2.2.1), (S _).trans ((if_neg (by omega)).trans w.2.2.2.2.1), (S _).trans ((if_neg (by omega)).trans w.2.2.2.2.2)⟩
  unfold sp_desc
  by_cases c0 : c = 0
  · rw [if_pos c0]
    refine u_t (show Int32.ofNat c = Int32.ofNat 0 by rw [c0]) (u_t L2.1.1 (u_p (cs_num L2.1 L2.2.2.1 he hp q) (fun r1 a' f q hf => ?_) ?_))
    · repeat' (first | with_reducible exact y_r rfl (by assumption) | with_reducible exact cd_d36 (by assumption) K9 k35 hl hf _ _ _ | with_reducible refine y_k (by assumption) (by assumption) ?_ | with_reducible refine y_R (by assumption) (by assumption) ?_ | with_reducible refine y_l ?_ | with_reducible refine y_f (rc_f0 hf) ?_ | with_reducible refine y_num (by assumption) K9 hf (by decide) ?_ | with_reducible refine y_fail (by assumption) K9 hf ?_ | with_reducible refine y_skip (by assumption) K9 hf ?_ | with_reducible refine y_next (by assumption) K9 hf ?_ | with_reducible refine y_vt (by assumption) K9 hf (fun _ _ => ?_) | with_reducible refine y_rt (by assumption) K9 hf (fun _ _ => ?_) | with_reducible refine y_nut (by assumption) K9 hf (fun _ _ => ?_) | with_reducible refine y_name (by assumption) K9 hf (fun _ _ => ?_) | with_reducible refine y_lim (by assumption) K9 (fun _ _ => ?_) | with_reducible refine y_expr (by assumption) CD hf (fun _ _ _ => ?_) | with_reducible refine y_st6 (by assumption) (by assumption) (by assumption) (fun _ _ => ?_) | with_reducible refine y_st3 (by assumption) (by assumption) (by assumption) (fun _ _ => ?_) | with_reducible refine y_i (fun _ => ?_) (fun _ => ?_))
    intro t p1 r e1 er
    subst er
    have pb := sp_num_b hp e1
    refine u_b (st6_a (gk gn2 k35) (by rw [l2]; exact hl) 1 (by omega) _) ?_
    unfold fX9_describe_b36 fX9_describe_b53
    exact u_f (N 1 (by decide) (by omega)) (u_f (N 1 (by decide) (by omega)) (u_f (N 2 (by decide) (by omega)) (cs_d102 L k35 hl ha (gD_s g2 (show 1 < 6 by decide)) (by omega) q hc (by omega) (TY t 1 rfl))))
  rw [if_neg c0]
  refine u_f (N 0 (by decide) c0) ?_
  by_cases c3 : c = 3
  · rw [if_pos c3]
    unfold fX9_describe_b36 fX9_describe_b53 fX9_describe_b102
    refine u_f (N 1 (by decide) (by omega)) (u_f (N 1 (by decide) (by omega)) (u_f (N 2 (by decide) (by omega)) (u_t (show Int32.ofNat c = Int32.ofNat 3 by rw [c3]) (u_t L2.1.1 (u_p (cs_vt L2.1 L2.2.2.1 he hp q) (fun r1 a' f q hf => ?_) ?_)))))
    · repeat' (first | with_reducible exact y_r rfl (by assumption) | with_reducible refine y_k (by assumption) (by assumption) ?_ | with_reducible refine y_R (by assumption) (by assumption) ?_ | with_reducible refine y_l ?_ | with_reducible refine y_f (rc_f0 hf) ?_ | with_reducible refine y_num (by assumption) K9 hf (by decide) ?_ | with_reducible refine y_fail (by assumption) K9 hf ?_ | with_reducible refine y_skip (by assumption) K9 hf ?_ | with_reducible refine y_next (by assumption) K9 hf ?_ | with_reducible refine y_vt (by assumption) K9 hf (fun _ _ => ?_) | with_reducible refine y_rt (by assumption) K9 hf (fun _ _ => ?_) | with_reducible refine y_nut (by assumption) K9 hf (fun _ _ => ?_) | with_reducible refine y_name (by assumption) K9 hf (fun _ _ => ?_) | with_reducible refine y_lim (by assumption) K9 (fun _ _ => ?_) | with_reducible refine y_expr (by assumption) CD hf (fun _ _ _ => ?_) | with_reducible refine y_st6 (by assumption) (by assumption) (by assumption) (fun _ _ => ?_) | with_reducible refine y_st3 (by assumption) (by assumption) (by assumption) (fun _ _ => ?_) | with_reducible refine y_i (fun _ => ?_) (fun _ => ?_))
    intro t p1 r e1 er
    subst er
    have pb := sp_byte_b hp e1
    have t2 : t < 256 := by rw [pb.1.2.2.1]; exact L.1.2.2.2.2.2.2.2.2.2 p
    have t6 : (Int32.ofNat t).toInt64 = Int64.ofNat t := nn_t6 (by omega)
    refine u_b (st6_a (gk gn2 k35) (by rw [l2]; exact hl) 1 (by omega) _) ?_
    dsimp only
    rw [t6]
    have g3 : gD x a h (sL h2 x (a + 1) (Int64.ofNat t)) := gD_s g2 (show 1 < 6 by decide)
    have L3 := lC_D L k35 g3
    have gn3 : nF h (sL h2 x (a + 1) (Int64.ofNat t)) := nF_g g3
    refine u_t L3.1.1 (u_p (cs_nut L3.1 L3.2.2.1 he (by omega) q (k := 1) (by decide)) (fun r1 a' f q hf => ?_) ?_)
    · repeat' (first | with_reducible exact y_r rfl (by assumption) | with_reducible refine y_k (by assumption) (by assumption) ?_ | with_reducible refine y_R (by assumption) (by assumption) ?_ | with_reducible refine y_l ?_ | with_reducible refine y_f (rc_f0 hf) ?_ | with_reducible refine y_num (by assumption) K9 hf (by decide) ?_ | with_reducible refine y_fail (by assumption) K9 hf ?_ | with_reducible refine y_skip (by assumption) K9 hf ?_ | with_reducible refine y_next (by assumption) K9 hf ?_ | with_reducible refine y_vt (by assumption) K9 hf (fun _ _ => ?_) | with_reducible refine y_rt (by assumption) K9 hf (fun _ _ => ?_) | with_reducible refine y_nut (by assumption) K9 hf (fun _ _ => ?_) | with_reducible refine y_name (by assumption) K9 hf (fun _ _ => ?_) | with_reducible refine y_lim (by assumption) K9 (fun _ _ => ?_) | with_reducible refine y_expr (by assumption) CD hf (fun _ _ _ => ?_) | with_reducible refine y_st6 (by assumption) (by assumption) (by assumption) (fun _ _ => ?_) | with_reducible refine y_st3 (by assumption) (by assumption) (by assumption) (fun _ _ => ?_) | with_reducible refine y_i (fun _ => ?_) (fun _ => ?_))
    intro gg p2 r e2 er
    subst er
    have pb2 := sp_byte_b (show p1 ≤ e by omega) e2
    have gg2 : gg ≤ 1 := of_decide_eq_true pb2.1.2.2.2
    have gg6 : (Int32.ofNat gg).toInt64 = Int64.ofNat gg := nn_t6 (by omega)
    refine u_b (st6_a (gk gn3 k35) (by rw [gn3.2.2.1]; exact hl) 2 (by omega) _) (u_r ⟨_, rfl, ?_, ?_⟩)
    · exact gD_s g3 (show 2 < 6 by decide)
    · intro z
      have w := TY t 1 rfl z
      have l3 : pm_ln (sL h2 x (a + 1) (Int64.ofNat t)) x = pm_ln h x := congrFun gn3.2.2.1 x
      dsimp only
      rw [gg6]
      have S := sL_g (h := sL h2 x (a + 1) (Int64.ofNat t)) (x := x) (k := a + 2) (v := Int64.ofNat gg) (by rw [l3]; omega)
      unfold pEnt at w ⊢
      exact ⟨(S _).trans ((if_neg (by omega)).trans w.1), (S _).trans ((if_neg (by omega)).trans w.2.1), (S _).trans (if_pos rfl), (S _).trans ((if_neg (by omega)).trans w.2.2.2.1), (S _).trans ((if_neg (by omega)).trans w.2.2.2.2.1), (S _).trans ((if_neg (by omega)).trans w.2.2.2.2.2)⟩
  rw [if_neg c3]
  by_cases c1 : c = 1
  · rw [if_pos c1]
    unfold fX9_describe_b36
    refine u_t (show Int32.ofNat c = Int32.ofNat 1 by rw [c1]) (u_t L2.1.1 (u_p (cs_rt L2.1 L2.2.2.1 he hp q) (fun r1 a' f q hf => ?_) ?_))
    · repeat' (first | with_reducible exact y_r rfl (by assumption) | with_reducible exact cd_d53 (by assumption) K9 k35 hl hf _ _ _ | with_reducible refine y_k (by assumption) (by assumption) ?_ | with_reducible refine y_R (by assumption) (by assumption) ?_ | with_reducible refine y_l ?_ | with_reducible refine y_f (rc_f0 hf) ?_ | with_reducible refine y_num (by assumption) K9 hf (by decide) ?_ | with_reducible refine y_fail (by assumption) K9 hf ?_ | with_reducible refine y_skip (by assumption) K9 hf ?_ | with_reducible refine y_next (by assumption) K9 hf ?_ | with_reducible refine y_vt (by assumption) K9 hf (fun _ _ => ?_) | with_reducible refine y_rt (by assumption) K9 hf (fun _ _ => ?_) | with_reducible refine y_nut (by assumption) K9 hf (fun _ _ => ?_) | with_reducible refine y_name (by assumption) K9 hf (fun _ _ => ?_) | with_reducible refine y_lim (by assumption) K9 (fun _ _ => ?_) | with_reducible refine y_expr (by assumption) CD hf (fun _ _ _ => ?_) | with_reducible refine y_st6 (by assumption) (by assumption) (by assumption) (fun _ _ => ?_) | with_reducible refine y_st3 (by assumption) (by assumption) (by assumption) (fun _ _ => ?_) | with_reducible refine y_i (fun _ => ?_) (fun _ => ?_))
    intro t p1 r e1 er
    subst er
    have pb := sp_byte_b hp e1
    have t2 : t < 256 := by rw [pb.1.2.2.1]; exact L.1.2.2.2.2.2.2.2.2.2 p
    have t6 : (Int32.ofNat t).toInt64 = Int64.ofNat t := nn_t6 (by omega)
    refine u_b (st6_a (gk gn2 k35) (by rw [l2]; exact hl) 1 (by omega) _) ?_
    dsimp only
    rw [t6]
    unfold fX9_describe_b53
    exact u_t (show Int32.ofNat c = Int32.ofNat 1 by rw [c1]) (cs_d63 L k35 hl ha (gD_s g2 (show 1 < 6 by decide)) (by omega) q hc c3 (TY t 1 rfl))
  rw [if_neg c1]
  have c2 : c = 2 := by omega
  unfold fX9_describe_b36 fX9_describe_b53
  exact u_f (N 1 (by decide) c1) (u_f (N 1 (by decide) c1) (u_t (show Int32.ofNat c = Int32.ofNat 2 by rw [c2]) (cs_d63 L k35 hl ha g2 hp q hc c3 W)))
end DESC
