/-! FLATTENED CODE: where a branch lands -/
section LAND
variable {B : Nat → Nat} {n t : Nat} {D : Bool} {M : tMd} {Dc : Nat → Bool} {lt : Nat → Option Nat} {EL : List (Bool × Nat × Nat)} {F : List tRw} {e : Nat} {W l : List tWk} {s s1 s2 : tWk} {v : sp_I} {p p2 x : Nat}
theorem in_11q (q : sp_in B n D p = .inr (v, p2)) (h : v.1 = 5 ∨ v.1 = 11) : p2 = p + 1 := by
  unfold sp_in at q
  obtain ⟨c, p1, e1, q⟩ := b_inv q
  have := sp_next_b e1
  have p1e : p1 = p + 1 := by omega
  split at q
  · cases q; exact p1e
  · next hc =>
    split at q
    · next hb =>
      obtain ⟨ty, p3, e2, q⟩ := b_inv q
      cases q
      have h : c = 5 ∨ c = 11 := h
      exact absurd h hc
    · have := sp_ops_1 B n D c p p1 v p2 q
      have h1 : v.1 = c ∨ 200 ≤ v.1 := this
      omega
theorem in_11p (q : sp_in B n D p = .inr (v, p2)) (h : v.1 = 11) : p2 = p + 1 := in_11q q (.inr h)
/-- around what may be come to, all may -/
theorem al_all {ls : List tLb} (A : aDh ls) (h0 : (ls.getD 0 lb0).2.2.2.2.1 = true) : ∀ x, x < ls.length → (ls.getD x lb0).2.2.2.2.1 = true ∧ (0 < x → (ls.getD x lb0).2.2.2.1 = false)
  | 0, _ => ⟨h0, fun h => absurd h (Nat.lt_irrefl 0)⟩
  | x + 1, h => by
    obtain ⟨k, -⟩ := al_all A h0 x (by omega)
    have := A x h
    rw [k] at this
    have := this.symm
    rw [Bool.and_eq_true, Bool.not_eq_true'] at this
    exact ⟨this.1, fun _ => this.2⟩
theorem kAl_m {K : tK} (h1 : (K.2.1.getD 0 lb0).2.2.2.2.1 = true) (h2 : (K.2.1.getD 0 lb0).2.2.2.1 = false) : kAl K = true := by
  unfold kAl
  rw [kTop_0, h1, h2]
  rfl
/-- a label that is no loop and not the outermost: behind its END -/
theorem land_a (hB : ∀ i, B i < 256) (G : vG B n D M) (hF : ∀ f, f ∈ spF M → f.2.1 < M.1.length) (g : wkG B n D M Dc lt EL t F e W s l) (hW : (s :: l) <:+ W) (k : kAl s.2.1 = true) (hx : x < s.2.2.1.length) : ∃ s1 s2 l', (s1 :: s2 :: l') <:+ (s :: l) ∧ wkG B n D M Dc lt EL t F e W s2 l' ∧ s2.1 = s1.1 + 1 ∧ ((false, (s.2.2.1.getD x (0, 0, 0)).2.1, s1.1) ∈ EL ∧ ((s.2.2.1.getD x (0, 0, 0)).1 ≠ 4 → (s.2.2.1.getD x (0, 0, 0)).2.2 ≠ 0 → (false, (s.2.2.1.getD x (0, 0, 0)).2.2, s1.1) ∈ EL)) ∧ kAl s2.2.1 = true ∧ s2.2.1.2.2.length = (s.2.2.2.getD x (0, 0)).1 ∧ s2.2.1.1 = (btR M (s.2.1.2.1.getD x lb0).2.1).reverse ++ btm s.2.1 (s.2.1.2.1.getD x lb0).2.2.1 ∧ s2.2.2.1 = s.2.2.1.drop (x + 1) ∧ s2.2.2.2 = s.2.2.2.drop (x + 1) ∧ s2.2.1.2.1.length + (x + 1) = s.2.1.2.1.length ∧ ∀ y, lbU False (s.2.1.2.1.getD (x + 1 + y) lb0) (s2.2.1.2.1.getD y lb0) := by
  have w := g.1
  have kl : s.2.2.1.length + 1 = s.2.1.2.1.length := by
    cases l with
    | nil => have := w.2.2.2.1; rw [this] at hx; exact absurd hx (Nat.not_lt_zero _)
    | cons s1 l => exact w.1.1
  obtain ⟨J, A, Z, b3⟩ := g.2.2 (by omega)
  obtain ⟨s1, s2, l', v, h1, h2, h3, h4, h5, h6, h7, h8, h9, h10, h11, h12, h13, h14, h15⟩ := wk_end l w (show x < s.2.1.2.1.length by omega)
  have g2 := wk_g hB G hF l g hW ((List.suffix_cons s1 (s2 :: l')).trans h1)
  obtain ⟨kl1, v', i1, hf, ⟨z, i2⟩, -⟩ := h14
  have vv : v' = v := by rw [h2] at i1; cases i1; rfl
  rw [vv, ki_4 h3] at i2
  have hl1 : 0 < s1.2.1.2.1.length := by omega
  obtain ⟨r1, r2⟩ := ls_end hl1 i2
  obtain ⟨b1, b2, -⟩ := io_end (wf_h h13) hl1 i2
  have n2 : s2.2.1.2.1.length + 1 = s1.2.1.2.1.length := by rw [r1, List.length_tail]; omega
  have al := al_all A (by rw [← kTop_0]; exact (kAl_i k).1) (x + 1) (by omega)
  have U := h7 0
  refine ⟨s1, s2, l', h1, g2, in_11p h2 h3, h11 hx, kAl_m (U.2.2.2.1.trans al.1) ((U.2.2.2.2.2 id).trans (al.2 (Nat.succ_pos _))), ?_, ?_, h10, h9, by omega, h7⟩
  · rw [r2, if_neg (by omega), h8]
    rfl
  · rw [b2 (by omega), kTop_0, h5.2.1, ← h12]
    congr 1
    show bo s1.2.1 = _
    unfold bo btm
    rw [kTop_0, h5.2.2.1]
theorem wk_suf : ∀ (l : List tWk) {s s' : tWk} {l' : List tWk}, wkC B n D M Dc lt EL t F e s l → (s' :: l') <:+ (s :: l) → wkC B n D M Dc lt EL t F e s' l'
  | [], s, s', l', w, h => by
    have : s' :: l' = [s] := by
      rcases List.suffix_cons_iff.mp h with q | q
      · exact q
      · exact absurd (List.IsSuffix.length_le q) (by show ¬ l'.length + 1 ≤ 0; omega)
    cases this
    exact w
  | s1 :: l, s, s', l', w, h => by
    rcases List.suffix_cons_iff.mp h with q | q
    · cases q
      exact w
    · exact wk_suf l w.2.2 q
/-- the outermost: the row of the function's END -/
theorem land_b (g : wkG B n D M Dc lt EL t F e W s l) (h0 : s.2.1.2.1.length ≠ 0) : ∃ s1 s2 l', (s1 :: s2 :: l') <:+ (s :: l) ∧ s1.1 + 1 = e ∧ F.getD (s.2.2.2.getD s.2.2.1.length (0, 0)).1 rw0 = (11, 0, 0, 0, Int32.ofNat (btR M (s.2.1.2.1.getD s.2.2.1.length lb0).2.1).length) := by
  have w := g.1
  have kl : s.2.2.1.length + 1 = s.2.1.2.1.length := by
    cases l with
    | nil => exact absurd w.1 h0
    | cons s1 l => exact w.1.1
  obtain ⟨s1, s2, l', v, h1, h2, h3, h4, h5, h6, h7, h8, h9, h10, h11, h12, h13, h14, h15⟩ := wk_end l w (show s.2.2.1.length < s.2.1.2.1.length by omega)
  have w1 := wk_suf l w h1
  have w2 := w1.2.2
  have c1 := w1.2.1.1
  obtain ⟨kl1, v', i1, hf, ⟨z, i2⟩, -⟩ := h14
  have vv : v' = v := by rw [h2] at i1; cases i1; rfl
  rw [vv, ki_4 h3] at i2
  have hl1 : 0 < s1.2.1.2.1.length := by omega
  have n2 : s2.2.1.2.1.length = 0 := by rw [(ls_end hl1 i2).1, List.length_tail]; omega
  have e2 : s2.1 = e := by
    cases l' with
    | nil => exact w2.2.2.1
    | cons s3 l' => have := w2.1.1; omega
  have R := (ag_end c1 hl1 i2 h15).2 n2
  refine ⟨s1, s2, l', h1, by rw [← in_11p h2 h3]; exact e2, ?_⟩
  rw [h8, R, kTop_0, h5.2.1]
/-- a loop: behind its beginning -/
theorem land_c (hB : ∀ i, B i < 256) (G : vG B n D M) (hall : ∀ s' l', (s' :: l') <:+ W → wkG B n D M Dc lt EL t F e W s' l') (hW : (s :: l) <:+ W) (k : kAl s.2.1 = true) (hx : x < s.2.2.1.length) (h3 : (s.2.1.2.1.getD x lb0).1 = 3) : ∃ s1 s2 l' v, (s1 :: s2 :: l') <:+ W ∧ wkG B n D M Dc lt EL t F e W s2 l' ∧ sp_in B n D s1.1 = .inr (v, s2.1) ∧ v.1 = 3 ∧ s1.1 = (s.2.2.1.getD x (0, 0, 0)).2.1 ∧ kAl s2.2.1 = true ∧ Int32.ofNat s2.2.1.2.2.length = (s.2.1.2.1.getD x lb0).2.2.2.2.2.2 ∧ s2.2.1.1 = (btP M (s.2.1.2.1.getD x lb0).2.1).reverse ++ btm s.2.1 (s.2.1.2.1.getD x lb0).2.2.1 ∧ s2.2.2.1.tail = s.2.2.1.drop (x + 1) ∧ (s2.2.2.1.getD 0 (0, 0, 0)).2.1 = (s.2.2.1.getD x (0, 0, 0)).2.1 ∧ s2.2.1.2.1.length + x = s.2.1.2.1.length ∧ lbV (s2.2.1.2.1.getD 0 lb0) (s.2.1.2.1.getD x lb0) ∧ ∀ y, lbU False (s2.2.1.2.1.getD (y + 1) lb0) (s.2.1.2.1.getD (x + 1 + y) lb0) := by
  have g := hall s l hW
  have w := g.1
  have T := vG_T G
  have kl : s.2.2.1.length + 1 = s.2.1.2.1.length := by
    cases l with
    | nil => have := w.2.2.2.1; rw [this] at hx; exact absurd hx (Nat.not_lt_zero _)
    | cons s1 l => exact w.1.1
  obtain ⟨J, A, Z, b3⟩ := g.2.2 (by omega)
  obtain ⟨s1, s2, l', v, h1, h2, hv, h4, h5, h6, h7, h8, h9, h10, h11, h12, h13⟩ := g.2.1 x hx
  have v3 : v.1 = 3 := by
    rcases h6.1 with q | q
    · omega
    · omega
  have g1 := hall s1 (s2 :: l') h1
  have g2 := hall s2 l' ((List.suffix_cons s1 (s2 :: l')).trans h1)
  obtain ⟨w1, c1, w2⟩ := g1.1
  obtain ⟨kl1, v', i1, hf, ⟨z, i2⟩, i3⟩ := w1
  have vv : v' = v := by rw [h2] at i1; cases i1; rfl
  rw [vv] at i2 i3
  rw [if_neg (by omega), if_pos hv] at i3
  rw [ki_2 hv] at i2
  obtain ⟨hh, e1, e2⟩ := ls_blk i2
  rw [if_neg (by omega)] at e1
  rw [if_neg (by omega), List.append_nil] at e2
  have al := al_all A (by rw [← kTop_0]; exact (kAl_i k).1) x (by omega)
  have em : (s2.2.1.2.1.getD 0 lb0).2.2.2.2.1 = true := by rw [← h6.2.2.2.1]; exact al.1
  have k1 : kAl s1.2.1 = true := by rw [e1] at em; exact em
  obtain ⟨-, -, Z1, -⟩ := g1.2.2 (by omega)
  have W2 : wfK M s2.2.1 := by
    cases l' with
    | nil => have := w2.1; rw [e1] at this; exact absurd this (Nat.succ_ne_zero _)
    | cons s3 l' => exact w2.2.1.2.1
  obtain ⟨r, -, r2, r3, a', -⟩ := io_blk T (zS_a k1 c1.2.1 Z1) W2 i2
  rw [kTop_0] at r3
  refine ⟨s1, s2, l', v, h1, g2, h2, v3, h4, kAl_m em (by rw [e1]; rfl), ?_, ?_, h11, by rw [i3.1]; exact h4, h9, h6, h10⟩
  · rw [h6.2.2.2.2, e1, e2]
    rfl
  · rw [r2, ← h13]
    have ty : v.2.1 = (s.2.1.2.1.getD x lb0).2.1 := by rw [h6.2.1, e1]; rfl
    rw [ty]
    congr 1
    unfold btm
    rw [r2, h6.2.2.1, r3, List.length_append, Nat.add_sub_cancel, List.drop_left]
end LAND
