/-! THE CLASS CHECKS: readLocals whole; the start of a body's state -/
section XRDS
variable {h h' r : pm_H} {n b mm lo hi bo co dd cap e s : Nat} {B : Nat → Nat} {M : tMd} {p p0 p2 y : Nat} {D ob : Bool} {ps rs : List Nat}
theorem x_rdl {c p1 : Nat} {l : List (Nat × Nat)} (C : xC r n b mm lo hi bo co dd cap B M) (P : shP r lo hi s ps rs) (T16 : ps.length ≤ 16) (ty : ∀ x, x ∈ ps → isT x) (Rb : pm_R r bo 0 = some s) (f3 : pm_I r 19 3 = 0) (i1 : pm_I r 19 1 = Int32.ofNat p0) (q1 : sp_num B n p0 = .inr (c, p1)) (q2 : sp_rows (sp_lc B n) c p1 = .inr (l, p)) (hs : sumL l ≤ 1000) : ∃ r', fX1_readLocals r 22 = some r' ∧ qFr r r' ∧ pm_I r' 19 1 = Int32.ofNat p ∧ pm_I r' 19 3 = 0 ∧ pm_I r' 22 12 = Int32.ofNat (ps.length + sumL l) ∧ xLo r' (ltB ps l) ∧ rR r' (rfL ps.length l) := by
  have u := C.2.2.1.2.2.2.2.2.2.2.2.2
  have aa := C.2.2.2.1
  have hB : ∀ i, B i < 256 := C.1.2.2.2.2.2.2.2.2.2
  have c32 := sp_num_v hB q1
  obtain ⟨r0, e0⟩ : ∃ z, z = pm_setI r 22 12 (Int32.ofNat ps.length) := ⟨_, rfl⟩
  have F0 : qFr r r0 := by rw [e0]; exact gF_I r _ (.inr (.inr (.inl ⟨rfl, .inl rfl⟩)))
  have k0 : ∀ x y, ¬ (x = 22 ∧ y = 12) → pm_I r0 x y = pm_I r x y := fun x y hn => by
    rw [e0, ev_II]
    by_cases q : x = 22
    · rw [if_pos q, if_neg (fun z => hn ⟨q, z⟩)]
    · rw [if_neg q]
  have C0 := qC_F C F0
  have sn : s ≠ 22 := by have := P.1.2.2.2.1; unfold sLo at this; omega
  have P0 : shP r0 lo hi s ps rs := by
    have kd : pm_kd r0 = pm_kd r := F0.2.1
    have ln : pm_ln r0 = pm_ln r := F0.2.2.1
    obtain ⟨⟨a1, a2, a3, a4, a5⟩, ⟨b1, b2, b3, b4, b5⟩, p3, p4⟩ := P
    have kk : ∀ y, pm_I r0 s y = pm_I r s y := fun y => k0 s y (fun z => sn z.1)
    exact ⟨⟨by rw [kd]; exact a1, by rw [ln]; exact a2, by rw [ln]; exact a3, a4, fun j hj => (kk _).trans (a5 j hj)⟩, ⟨by rw [kd]; exact b1, by rw [ln]; exact b2, by rw [ln]; exact b3, b4, fun j hj => (kk _).trans (b5 j hj)⟩, (kk 0).trans p3, (kk 1).trans p4⟩
  obtain ⟨r1, e1, F1, k1, v1⟩ := x_rl1 T16 ps.length 0 C0 P0 (by rw [e0]; exact Rb) (by rw [e0, ev_II, if_pos rfl, if_pos rfl]) (Nat.zero_add _) (fun i hi => absurd hi (Nat.not_lt_zero _))
  have C1 := qC_F C0 F1
  have a12 : pm_I r1 22 12 = Int32.ofNat ps.length := (k1 22 12 (by decide)).trans (by rw [e0, ev_II, if_pos rfl, if_pos rfl])
  obtain ⟨r2, e2⟩ : ∃ z, z = pm_setI r1 22 14 0 := ⟨_, rfl⟩
  have F2 : qFr r1 r2 := by rw [e2]; exact gF_I r1 _ (.inr (.inr (.inl ⟨rfl, .inr rfl⟩)))
  have k2 : ∀ x y, ¬ (x = 22 ∧ y = 14) → pm_I r2 x y = pm_I r1 x y := fun x y hn => by
    rw [e2, ev_II]
    by_cases q : x = 22
    · rw [if_pos q, if_neg (fun z => hn ⟨q, z⟩)]
    · rw [if_neg q]
  have C2 := qC_F C1 F2
  have f2 : pm_I r2 19 3 = 0 := (k2 19 3 (by omega)).trans ((k1 19 3 (by decide)).trans ((k0 19 3 (by omega)).trans f3))
  have g2 : pm_I r2 19 1 = Int32.ofNat p0 := (k2 19 1 (by omega)).trans ((k1 19 1 (by decide)).trans ((k0 19 1 (by omega)).trans i1))
  have en := x_num C2 f2 g2 q1
  obtain ⟨r3, e3⟩ : ∃ z, z = pm_setI r2 19 1 (Int32.ofNat p1) := ⟨_, rfl⟩
  rw [← e3] at en
  have F3 : qFr r2 r3 := by rw [e3]; exact gF_I r2 _ (.inr (.inr (.inr ⟨rfl, rfl⟩)))
  have k3 : ∀ x y, ¬ (x = 19 ∧ y = 1) → pm_I r3 x y = pm_I r2 x y := fun x y hn => by rw [e3]; exact aA_I r2 _ x y hn
  have C3 := qC_F C2 F3
  obtain ⟨r4, e4, F4, h1, h2, h3, h4, h5⟩ := x_rl2 (L := []) c32 c 0 (Nat.zero_add _) q2 C3 ((k3 19 3 (by omega)).trans f2) (by rw [e3, ev_II, if_pos rfl, if_pos rfl]) ((k3 22 12 (by omega)).trans ((k2 22 12 (by omega)).trans a12)) (by omega) ⟨(k3 22 14 (by omega)).trans (by rw [e2, ev_II, if_pos rfl, if_pos rfl]; rfl), fun i q hq => by cases hq⟩ (by show 0 + 2 * sumL l ≤ 2000; omega)
  have F : qFr r r4 := gF_t F0 (gF_t F1 (gF_t F2 (gF_t F3 F4)))
  have n3 : pm_I r4 19 3 = 0 := by
    -- a fault of the reader is no cell that is written
    exact (F.2.2.2.2.1 19 3 (by unfold qAI; omega)).trans f3
  refine ⟨r4, ?_, F, h1, n3, h2, ⟨ps.length + sumL l, h2, by omega, fun i hi => ?_, fun i hi => ?_⟩, by rw [List.nil_append] at h5; exact h5⟩
  · unfold fX1_readLocals
    refine e9_t C.2.2.1.1.1 (e9_b u.1 (e9_t u.2.1 (e9_b Rb (e9_b (sh_i0 P) ?_))))
    rw [← e0]
    refine e1.trans (k_w (aX1_readLocals_0 ..) ?_)
    unfold tX1_readLocals_17
    refine k_t C1.2.2.1.1.1 (k_t (by rw [a12, nn_le (by omega) (by omega)]; exact Nat.le_refl _) ?_)
    rw [← e2]
    exact k_b C2.2.2.1.1.2.2 (k_t C2.1.1 (k_b en (k_n e4)))
  · have := ltB_s ps l i
    rw [decide_eq_false (by omega)] at this
    exact Option.isNone_iff_eq_none.mp (by cases z : ltB ps l i with | none => rfl | some w => rw [z] at this; cases this)
  · by_cases c0 : i < ps.length
    · refine ⟨gt ps i, ?_, ?_, ty _ (gt_m c0)⟩
      · unfold ltB
        rw [if_pos c0]
        exact gt_e c0
      · rw [h3 i c0, k3 26 i (by omega), k2 26 i (by omega)]
        exact v1 i c0
    · have := ltB_s ps l i
      rw [decide_eq_true hi] at this
      cases z : ltB ps l i with
      | none => rw [z] at this; cases this
      | some w =>
        have z2 : ltL l (i - ps.length) = some w := by
          unfold ltB at z
          rw [if_neg c0] at z
          exact z
        obtain ⟨g1, g3⟩ := h4 _ _ z2
        rw [show ps.length + (i - ps.length) = i by omega] at g1
        exact ⟨w, rfl, g1, g3⟩
/-- the state with the body's own label alone -/
theorem x_beg {t : Nat} (C : xC r n b mm lo hi bo co dd cap B M) (T : vTy M) (ht : t < M.1.length) (i0 : pm_I r 22 0 = 0) (i6 : pm_I r 22 6 = 0) (i10 : pm_I r 22 10 = 0) (ib : pm_I r bo 2 = 0) : ∃ r', fX1_openLabel r 22 0 (Int32.ofNat t) 1 (-1) = some r' ∧ xFr bo co r r' ∧ xK r' bo co (kBeg t) ∧ wfK M (kBeg t) ∧ wfC (kBeg t) ∧ bK (kBeg t) ∧ kB t (kBeg t) := by
  have T1 := T.1
  have S : xS r M bo co [] (.inr (([], [], []), 0)) r := ⟨gF_r _ _ r, ⟨i0, i6, i10, ib, trivial, trivial, fun i rr hi => by cases hi⟩, ⟨trivial, fun l hl => absurd hl List.not_mem_nil, fun t ht => absurd ht List.not_mem_nil, Nat.zero_le _, Nat.zero_le _⟩, rfl⟩
  obtain ⟨r', e, S'⟩ := x_opn (op := 0) (g := true) (y := -1) C S (by decide) (by decide) (wfT_t T ht)
  obtain ⟨F, V, W, -⟩ := S'
  refine ⟨r', ?_, F, V, W, ⟨List.nodup_nil, fun a ha => absurd ha List.not_mem_nil, fun l hl => ?_⟩, fun _ => by show (0 : Nat) ≠ 3; decide, fun _ => rfl⟩
  · rw [ll_t3] at e
    exact e
  · rw [List.mem_singleton.mp hl]
    trivial
end XRDS
