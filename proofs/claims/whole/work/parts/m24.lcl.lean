/-! THE CLASS CHECKS: the locals of a body -/
theorem vG_E {B : Nat → Nat} {n : Nat} {D : Bool} {M : tMd} (G : vG B n D M) : ∀ e, e ∈ M.2.2.2.2.2.2.2.1 → isT e.2.2.1.1 := fun e he => isT_R (G.1.2.2.2.2.2.2.2.1 e he).2.2.2.2.1
theorem vG_M {B : Nat → Nat} {n : Nat} {D : Bool} {M : tMd} (G : vG B n D M) : ∀ g, g ∈ spG M → g.1.2.2.2.2 < 256 := fun g hg => by
  rcases List.mem_append.mp hg with h | h
  · obtain ⟨w, e1, e2⟩ := List.mem_map.mp h
    have mm := List.mem_filter.mp (show w ∈ M.2.1.filter _ from e1)
    have := (G.1.2.1 w mm.1).2.2.2.2.1
    rw [← e2]
    show w.2.2.2.2 < 256
    omega
  · obtain ⟨w, e1, e2⟩ := List.mem_map.mp h
    have := (G.1.2.2.2.2.2.1 w e1).2.1
    rw [← e2]
    show w.2.1 < 256
    omega
def qAI (x y : Nat) : Prop := x = 26 ∨ x = 27 ∨ (x = 22 ∧ (y = 12 ∨ y = 14)) ∨ (x = 19 ∧ y = 1)
abbrev qFr : pm_H → pm_H → Prop := gF qAI (fun _ _ => False)
/-- where there are references, in order -/
def rfL : Nat → List (Nat × Nat) → List (Nat × Nat)
  | _, [] => []
  | lc, a :: l => (if 0 < a.1 ∧ sp_isR a.2 = true then [(lc, lc + a.1)] else []) ++ rfL (lc + a.1) l
def rR (r : pm_H) (L : List (Nat × Nat)) : Prop := pm_I r 22 14 = Int32.ofNat (2 * L.length) ∧ ∀ i q, L[i]? = some q → pm_I r 27 (2 * i) = Int32.ofNat q.1 ∧ pm_I r 27 (2 * i + 1) = Int32.ofNat q.2
section XLCL
variable {h h' r : pm_H} {n b mm lo hi bo co dd cap e s : Nat} {B : Nat → Nat} {M : tMd} {p p2 y : Nat} {D ob : Bool} {ps rs : List Nat}
theorem qC_F (C : xC h n b mm lo hi bo co dd cap B M) (F : qFr h h') : xC h' n b mm lo hi bo co dd cap B M := by
  have K : kC lo hi h h' := fun x h1 h2 => by
    obtain ⟨-, -, -, ⟨a1, a2, a3, a4, a5, a6, a7⟩, -⟩ := C
    exact ⟨by rw [F.2.1], by rw [F.2.2.1], funext fun y => F.2.2.2.2.1 x y (by unfold qAI; omega), funext fun y => F.2.2.2.2.2 x y (fun z => z), by rw [F.2.2.2.1]⟩
  obtain ⟨S, X, Q, ⟨a1, a2, a3, a4, a5, a6, a7⟩, e⟩ := C
  have kd := F.2.1
  have ln := F.2.2.1
  have rr := F.2.2.2.1
  have kI : ∀ x y, ¬ qAI x y → pm_I h' x y = pm_I h x y := F.2.2.2.2.1
  refine ⟨?_, cMx_k K (Nat.le_refl _) (.inl rfl) (fun j s _ _ _ => by rw [rr]) (by decide) (F.2.2.2.2.2 mm 13 (fun z => z)) (F.2.2.2.2.2 mm 14 (fun z => z)) X, ?_, ⟨a1, a2, a3, a4, a5, a6, a7⟩, (kI 19 2 (by unfold qAI; omega)).trans e⟩
  · obtain ⟨s1, s2, s3, s4, s5, s6, s7, s8, s9, s10⟩ := S
    unfold cS
    rw [kd, ln, rr]
    exact ⟨s1, s2, s3, s4, s5, s6, s7, s8, fun i hi => by rw [kI b i (by unfold qAI; omega)]; exact s9 i hi, s10⟩
  · unfold xQ at Q ⊢
    rw [kd, ln, rr]
    obtain ⟨q1, q2, q3, q4, q5, q6, q7, q8, ⟨w1, w2, w3, w4, w5⟩, q10⟩ := Q
    exact ⟨q1, q2, q3, q4, q5, q6, q7, q8, ⟨w1, w2, (kI 164 0 (by unfold qAI; omega)).trans w3, (kI 164 1 (by unfold qAI; omega)).trans w4, fun j hj => by
      obtain ⟨z1, z2, z3, z4, z5⟩ := w5 j hj
      exact ⟨z1, z2, (kI _ 0 (by unfold qAI; omega)).trans z3, (kI _ 1 (by unfold qAI; omega)).trans z4, (kI _ 2 (by unfold qAI; omega)).trans z5⟩⟩, q10⟩
theorem q_nxt (C : xC r n b mm lo hi bo co dd cap B M) (f3 : pm_I r 19 3 = 0) (i1 : pm_I r 19 1 = Int32.ofNat p) (hp : p < n) : fX9_next r 19 = some (Int32.ofNat (B p), pm_setI r 19 1 (Int32.ofNat (p + 1))) := by
  have e0 : rc r (Int32.ofNat p) 0 (pm_I r 19 4) = r := by rw [← i1, ← f3]; exact rc_eta r
  have Q := cs_next C.1 C.2.2.2.2 (Nat.le_refl n) (Nat.le_of_lt hp) (pm_I r 19 4)
  unfold sp_next at Q
  rw [if_pos hp, e0] at Q
  obtain ⟨r', e, er⟩ := Q
  rw [e, er]
  refine congrArg (fun a => some (Int32.ofNat (B p), a)) ?_
  have := rc_s1 (h := r) (p := Int32.ofNat p) (f := 0) (q := pm_I r 19 4) (v := Int32.ofNat (p + 1))
  rw [e0] at this
  exact this.symm
/-- the parameters first -/
theorem x_rl1 (T16 : ps.length ≤ 16) : ∀ (j k : Nat) {r : pm_H}, xC r n b mm lo hi bo co dd cap B M → shP r lo hi s ps rs → pm_R r bo 0 = some s → pm_I r 22 12 = Int32.ofNat ps.length → k + j = ps.length → (∀ i, i < k → pm_I r 26 i = Int32.ofNat (gt ps i)) → ∃ r', pm_lim sX1_readLocals (.inl (22, Int32.ofNat k, r)) = pm_lim sX1_readLocals (.inl (22, Int32.ofNat ps.length, r')) ∧ qFr r r' ∧ (∀ x y, x ≠ 26 → pm_I r' x y = pm_I r x y) ∧ ∀ i, i < ps.length → pm_I r' 26 i = Int32.ofNat (gt ps i) := by
  intro j
  induction j with
  | zero =>
    intro k r C P Rb i12 hk q
    exact ⟨r, by rw [show k = ps.length by omega], gF_r _ _ r, fun _ _ _ => rfl, fun i hi => q i (by omega)⟩
  | succ j ih =>
    intro k r C P Rb i12 hk q
    obtain ⟨l1, l2, l3⟩ := C.2.2.1.2.2.2.2.1
    have u := C.2.2.1.2.2.2.2.2.2.2.2.2
    have aa := C.2.2.2.1
    obtain ⟨r1, er⟩ : ∃ z, z = pm_setI r 26 k (Int32.ofNat (gt ps k)) := ⟨_, rfl⟩
    have F1 : qFr r r1 := by rw [er]; exact gF_I r _ (.inl rfl)
    have k26 : ∀ x y, x ≠ 26 → pm_I r1 x y = pm_I r x y := fun x y hx => by rw [er, ev_II, if_neg hx]
    have sn : s ≠ 26 := by have := P.1.2.2.2.1; unfold sLo at this; omega
    have P1 : shP r1 lo hi s ps rs := by
      have kd : pm_kd r1 = pm_kd r := F1.2.1
      have ln : pm_ln r1 = pm_ln r := F1.2.2.1
      obtain ⟨⟨a1, a2, a3, a4, a5⟩, ⟨b1, b2, b3, b4, b5⟩, p3, p4⟩ := P
      exact ⟨⟨by rw [kd]; exact a1, by rw [ln]; exact a2, by rw [ln]; exact a3, a4, fun j hj => (k26 s _ sn).trans (a5 j hj)⟩, ⟨by rw [kd]; exact b1, by rw [ln]; exact b2, by rw [ln]; exact b3, b4, fun j hj => (k26 s _ sn).trans (b5 j hj)⟩, (k26 s 0 sn).trans p3, (k26 s 1 sn).trans p4⟩
    obtain ⟨r2, e2, F2, k2, v2⟩ := ih (k + 1) (qC_F C F1) P1 (by rw [er]; exact Rb) ((k26 22 12 (by decide)).trans i12) (by omega) (fun i hi => by
      rw [er, ev_II, if_pos rfl]
      by_cases c : i = k
      · rw [if_pos c, c]
      · rw [if_neg c]; exact q i (by omega))
    refine ⟨r2, ?_, gF_t F1 F2, fun x y hx => (k2 x y hx).trans (k26 x y hx), v2⟩
    refine k_w (aX1_readLocals_0 ..) ?_
    unfold tX1_readLocals_17
    have ei : fX12_item r s (2 + Int32.ofNat k) = some (Int32.ofNat (gt ps k)) := by
      rw [show (2 : Int32) + Int32.ofNat k = Int32.ofNat (2 + k) from nn_ad 2 k, ← P.1.2.2.2.2 k (by omega)]
      exact it_v P.1.1 P.1.2.1 (by have := P.1.2.2.1; omega)
    refine k_t C.2.2.1.1.1 (k_f (by rw [i12, nn_le (by omega) (by omega)]; omega) (k_b l1 (k_b u.1 (k_t u.2.1 (k_b Rb (k_b ei (k_b (st_v l2 (by omega) (by omega)) (k_l ?_))))))))
    rw [← er, show Int32.ofNat k + 1 = Int32.ofNat (k + 1) from nn_ad k 1]
    exact k_n e2
/-- one run of locals -/
theorem x_rl3 {c lc ty : Nat} {R X : Int64} (hc : lc + c ≤ 1016) : ∀ (j k : Nat) {r : pm_H}, xC r n b mm lo hi bo co dd cap B M → pm_I r 22 12 = Int32.ofNat lc → k + j = c → ∃ r', pm_lim sX1_readLocals (.inr (.inr (22, R, X, Int32.ofNat c, Int32.ofNat ty, Int32.ofNat k, r))) = pm_lim sX1_readLocals (.inr (.inl (22, R, X + 1, r'))) ∧ qFr r r' ∧ pm_I r' 22 12 = Int32.ofNat (lc + c) ∧ (∀ y, pm_I r' 26 y = if lc + k ≤ y ∧ y < lc + c then Int32.ofNat ty else pm_I r 26 y) ∧ ∀ x y, x ≠ 26 → ¬ (x = 22 ∧ y = 12) → pm_I r' x y = pm_I r x y := by
  intro j
  induction j with
  | zero =>
    intro k r C i12 hk
    refine ⟨pm_setI r 22 12 (Int32.ofNat (lc + c)), ?_, gF_I r _ (.inr (.inr (.inl ⟨rfl, .inl rfl⟩))), by rw [ev_II, if_pos rfl, if_pos rfl], fun y => ?_, fun x y h1 h2 => ?_⟩
    · refine k_w (aX1_readLocals_2 ..) ?_
      unfold tX1_readLocals_195
      refine k_t (by rw [nn_le (by omega) (by omega)]; omega) (k_t C.2.2.1.1.1 (k_l (k_l ?_)))
      rw [i12, nn_ad]
      exact k_n rfl
    · rw [if_neg (by omega), ev_II, if_neg (by decide)]
    · rw [ev_II]
      by_cases q : x = 22
      · rw [if_pos q, if_neg (fun z => h2 ⟨q, z⟩)]
      · rw [if_neg q]
  | succ j ih =>
    intro k r C i12 hk
    obtain ⟨l1, l2, l3⟩ := C.2.2.1.2.2.2.2.1
    obtain ⟨r1, er⟩ : ∃ z, z = pm_setI r 26 (lc + k) (Int32.ofNat ty) := ⟨_, rfl⟩
    have F1 : qFr r r1 := by rw [er]; exact gF_I r _ (.inl rfl)
    have k26 : ∀ x y, x ≠ 26 → pm_I r1 x y = pm_I r x y := fun x y hx => by rw [er, ev_II, if_neg hx]
    obtain ⟨r2, e2, F2, g1, g2, g3⟩ := ih (k + 1) (qC_F C F1) ((k26 22 12 (by decide)).trans i12) (by omega)
    refine ⟨r2, ?_, gF_t F1 F2, g1, fun y => ?_, fun x y h1 h2 => (g3 x y h1 h2).trans (k26 x y h1)⟩
    · refine k_w (aX1_readLocals_2 ..) ?_
      unfold tX1_readLocals_195
      refine k_f (by rw [nn_le (by omega) (by omega)]; omega) (k_t C.2.2.1.1.1 (k_b l1 ?_))
      rw [i12, nn_ad]
      refine k_b (st_v l2 (by omega) (by omega)) (k_l ?_)
      rw [← er, show Int32.ofNat k + 1 = Int32.ofNat (k + 1) from nn_ad k 1]
      exact k_n e2
    · rw [g2 y, er, ev_II, if_pos rfl]
      by_cases c1 : y = lc + k
      · rw [if_neg (by omega), if_pos c1, if_pos (by omega)]
      · rw [if_neg c1]
        by_cases c2 : lc + (k + 1) ≤ y ∧ y < lc + c
        · rw [if_pos c2, if_pos (by omega)]
        · rw [if_neg c2, if_neg (by omega)]
end XLCL
