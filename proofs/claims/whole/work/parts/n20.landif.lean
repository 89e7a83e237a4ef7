/-! FLATTENED CODE: where an if goes on when its condition fails -/
section LANDIF
variable {B : Nat → Nat} {n t : Nat} {D : Bool} {M : tMd} {Dc : Nat → Bool} {lt : Nat → Option Nat} {EL : List (Bool × Nat × Nat)} {F : List tRw} {e : Nat} {W l : List tWk} {s s1 s2 : tWk} {v : sp_I} {p p2 x : Nat}
theorem end_4 {K K' : tK} {z : Nat} (q : kEnd M p K = .inr (K', z)) (h : (kTop K).1 = 4) : btP M (kTop K).2.1 = btR M (kTop K).2.1 := by
  unfold kEnd at q
  obtain ⟨K1, z1, e1, q⟩ := b_inv q
  split at q
  · split at q
    · cases q
    · next g => exact Decidable.byContradiction fun c => g ⟨h, c⟩
  · cases q
theorem land_d (hB : ∀ i, B i < 256) (G : vG B n D M) (hF : ∀ f, f ∈ spF M → f.2.1 < M.1.length) (g : wkG B n D M Dc lt EL t F e W s (s1 :: l)) (hW : (s :: s1 :: l) <:+ W) (k : kAl s.2.1 = true) (i1 : sp_in B n D s.1 = .inr (v, s1.1)) (h4 : v.1 = 4) : ∃ s3 s4 l', (s3 :: s4 :: l') <:+ (s1 :: l) ∧ wkG B n D M Dc lt EL t F e W s4 l' ∧ kAl s4.2.1 = true ∧ s4.1 = s3.1 + 1 ∧ s4.2.1.2.2.length = (s1.2.2.2.getD 0 (0, 0)).2 ∧ s4.2.1.1 = s1.2.1.1 ∧
    (((true, s.1, s3.1) ∈ EL ∧ s4.2.2.1 = (5, s.1, s3.1) :: s.2.2.1 ∧ s4.2.1.2.1.length = s1.2.1.2.1.length ∧ lbV (s1.2.1.2.1.getD 0 lb0) (s4.2.1.2.1.getD 0 lb0) ∧ ∀ y, lbU False (s1.2.1.2.1.getD (y + 1) lb0) (s4.2.1.2.1.getD (y + 1) lb0))
    ∨ ((∀ x, (true, s.1, x) ∉ EL) ∧ (false, s.1, s3.1) ∈ EL ∧ s4.2.2.1 = s.2.2.1 ∧ s4.2.1.2.1.length + 1 = s1.2.1.2.1.length ∧ ∀ y, lbU False (s1.2.1.2.1.getD (y + 1) lb0) (s4.2.1.2.1.getD y lb0))) := by
  have T := vG_T G
  have hW1 : (s1 :: l) <:+ W := (List.suffix_cons _ _).trans hW
  have g1 := wk_g hB G hF (s1 :: l) g hW (List.suffix_cons _ _)
  obtain ⟨w1, c1, w2⟩ := g.1
  obtain ⟨kl, v', i1', hf, ⟨z, i2⟩, i3⟩ := w1
  have vv : v' = v := by rw [i1] at i1'; cases i1'; rfl
  rw [vv] at i2 i3
  rw [if_neg (by omega), if_pos (by omega)] at i3
  rw [ki_2 (by omega)] at i2
  obtain ⟨st1, a, as1⟩ := i3
  rw [h4] at st1
  obtain ⟨hh, e1, -⟩ := ls_blk i2
  obtain ⟨J, A, Z, b3⟩ := g.2.2 (by omega)
  have n1 : s1.2.1.2.1.length = s.2.1.2.1.length + 1 := by rw [e1]; rfl
  obtain ⟨J1, A1, Z1, b31⟩ := g1.2.2 (by omega)
  have W1 : wfK M s1.2.1 := by
    cases l with
    | nil => have := w2.1; omega
    | cons s3 l' => exact w2.2.1.2.1
  obtain ⟨r, -, r2, r3, a', -⟩ := io_blk T (zS_a k c1.2.1 Z) W1 i2
  rw [kTop_0] at r3
  have em1 : (s1.2.1.2.1.getD 0 lb0).2.2.2.2.1 = true := by rw [e1]; exact k
  have ty1 : (s1.2.1.2.1.getD 0 lb0).2.1 = v.2.1 := by rw [e1]; rfl
  have kd1 : (s1.2.1.2.1.getD 0 lb0).1 = 4 := by rw [e1]; exact h4
  obtain ⟨s3, s4, l', v3, h1, h2, h3, h5, h6, h7, h8, h9, h10, h11, h12, h13, h14⟩ := wk_iff l w2 (x := 0) (by rw [st1]; exact Nat.succ_pos _) (by rw [st1]; rfl)
  have g3 := wk_g hB G hF l g1 hW1 h1
  have g4 := wk_g hB G hF l g1 hW1 ((List.suffix_cons s3 (s4 :: l')).trans h1)
  have st3 : s3.2.2.1 = (4, s.1, 0) :: s.2.2.1 := h8.trans st1
  have bo3 : bo s3.2.1 = r := by
    have : bo s3.2.1 = btm s3.2.1 (s1.2.1.2.1.getD 0 lb0).2.2.1 := by
      unfold bo btm
      rw [kTop_0, h6.2.2.1]
    rw [this, h12]
    unfold btm
    rw [r2, r3, List.length_append, Nat.add_sub_cancel, List.drop_left]
  obtain ⟨kl3, v', i1', hf3, ⟨z3, j2⟩, j3⟩ := h14
  have vv3 : v' = v3 := by rw [h2] at i1'; cases i1'; rfl
  rw [vv3] at j2 j3
  have l3 : 0 < s3.2.1.2.1.length := by omega
  rcases h3 with c5 | c11
  · rw [if_neg (by omega), if_neg (by omega), if_pos c5] at j3
    rw [ki_3 c5] at j2
    obtain ⟨u, r', a2, As', f1, f2, f3, f4, f5, f6⟩ := j3
    rw [st3] at f1
    have fu : u = (4, s.1, 0) ∧ r' = s.2.2.1 := by cases f1; exact ⟨rfl, rfl⟩
    rw [fu.1, fu.2] at f3
    rw [fu.1] at f4
    obtain ⟨b1, b2, -⟩ := io_els (wf_h h13) j2
    obtain ⟨l4, ks, q1, q2, q3, q4, ⟨q5, q6, q7, q8⟩, q9, q10⟩ := ls_els l3 j2
    rw [kTop_0] at q5 q6 q7 q8 b1
    have em4 : (s4.2.1.2.1.getD 0 lb0).2.2.2.2.1 = true := by rw [q1]; exact (q7.trans h6.2.2.2.1).trans em1
    refine ⟨s3, s4, l', h1, g4, kAl_m em4 (by rw [q1]; exact q4), in_11q h2 (.inl c5), by rw [h11, if_pos c5], ?_, .inl ⟨f4, f3, by rw [q1]; show ks.length + 1 = _; omega, by rw [q1]; exact ⟨.inr q3, q5.trans h6.2.1, q6.trans h6.2.2.1, q7.trans h6.2.2.2.1, q8.trans h6.2.2.2.2⟩, fun y => ?_⟩⟩
    · rw [b1, r2, bo3, h6.2.1, ty1]
    · have := h7 y
      rw [show 0 + 1 + y = y + 1 by omega] at this
      rw [q1]
      exact lbU_t this (q9 y)
  · rw [if_pos c11] at j3
    rw [ki_4 c11] at j2
    obtain ⟨m1, m2⟩ := j3
    rcases m2 with ⟨m2, -⟩ | ⟨u, m2, m3, -⟩
    · rw [st3] at m2; cases m2
    rw [st3] at m2
    have fu : u = (4, s.1, 0) ∧ s4.2.2.1 = s.2.2.1 := ⟨(List.cons.inj m2).1.symm, (List.cons.inj m2).2.symm⟩
    rw [fu.1] at m3
    obtain ⟨o1', o2⟩ := ls_end l3 j2
    obtain ⟨b1, b2, -⟩ := io_end (wf_h h13) l3 j2
    have n4 : s4.2.1.2.1.length + 1 = s3.2.1.2.1.length := by rw [o1', List.length_tail]; omega
    have gt : ∀ y, s4.2.1.2.1.getD y lb0 = s3.2.1.2.1.getD (y + 1) lb0 := fun y => by rw [o1']; cases s3.2.1.2.1 <;> rfl
    have al := al_all A1 em1 1 (by omega)
    have U0 := h7 0
    obtain ⟨J3, -, -, -⟩ := g3.2.2 (by omega)
    have kd3 : (kTop s3.2.1).1 = 4 := by
      rw [kTop_0]
      rcases h6.1 with q | q
      · exact q.trans kd1
      · obtain ⟨x1, x2, xl, xv, y1, y2, y3, y4, y5, y6, y7, y8⟩ := g3.2.1 0 (by rw [st3]; exact Nat.succ_pos _)
        have := (y7 q).2
        rw [st3] at this
        exact absurd (show (4 : Nat) = 5 from this) (by decide)
    have pr := end_4 j2 kd3
    refine ⟨s3, s4, l', h1, g4, kAl_m (by rw [gt]; exact U0.2.2.2.1.trans al.1) (by rw [gt]; exact (U0.2.2.2.2.2 id).trans (al.2 (by decide))), in_11p h2 c11, by rw [h11, if_neg (by omega), o2, if_neg (by omega)]; rfl, ?_, .inr ⟨wk_no h2 c11 st3 rfl J3, m3, fu.2, by omega, fun y => ?_⟩⟩
    · rw [b2 (by omega), ← pr, kTop_0, bo3, h6.2.1, ty1, r2]
    · have := h7 y
      rw [show 0 + 1 + y = y + 1 by omega] at this
      rw [gt]
      exact this
end LANDIF
