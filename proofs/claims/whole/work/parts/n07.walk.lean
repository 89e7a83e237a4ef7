/-! FLATTENED CODE: the walk over a body, state by state, with where its labels end -/
/-- place, state, nests that stand open, aims -/
abbrev tWk : Type := Nat × tK × tSt × List (Nat × Nat)
def wkS (B : Nat → Nat) (n : Nat) (D : Bool) (M : tMd) (Dc : Nat → Bool) (lt : Nat → Option Nat) (EL : List (Bool × Nat × Nat)) (s s1 : tWk) : Prop := s.2.2.1.length + 1 = s.2.1.2.1.length ∧ ∃ v, sp_in B n D s.1 = .inr (v, s1.1) ∧ v.2.2.2 = false ∧ (∃ z, kIns B n M Dc lt s.1 v s.2.1 = .inr (s1.2.1, z)) ∧
  if v.1 = 11 then s.2.2.2 = (s.2.1.2.2.length, s.2.1.2.2.length) :: s1.2.2.2 ∧ ((s.2.2.1 = [] ∧ s1.2.2.1 = [] ∧ s1.2.1.2.1.length = 0) ∨ ∃ u, s.2.2.1 = u :: s1.2.2.1 ∧ (false, u.2.1, s.1) ∈ EL ∧ (u.2.2 ≠ 0 → (false, u.2.2, s.1) ∈ EL))
  else if 2 ≤ v.1 ∧ v.1 ≤ 4 then s1.2.2.1 = (v.1, s.1, 0) :: s.2.2.1 ∧ ∃ a, s1.2.2.2 = a :: s.2.2.2
  else if v.1 = 5 then ∃ u r a As', s.2.2.1 = u :: r ∧ u.1 = 4 ∧ s1.2.2.1 = (5, u.2.1, s.1) :: r ∧ (true, u.2.1, s.1) ∈ EL ∧ s1.2.2.2 = a :: As' ∧ s.2.2.2 = (a.1, (kBr M 5 (Int32.ofNat s.2.1.1.length) 0 s.2.1).2.2.length) :: As'
  else s1.2.2.1 = s.2.2.1 ∧ s1.2.2.2 = s.2.2.2
/-- from a state to the end -/
def wkC (B : Nat → Nat) (n : Nat) (D : Bool) (M : tMd) (Dc : Nat → Bool) (lt : Nat → Option Nat) (EL : List (Bool × Nat × Nat)) (t : Nat) (F : List tRw) (e : Nat) : tWk → List tWk → Prop
  | s, [] => s.2.1.2.1.length = 0 ∧ s.2.1.2.2 = F ∧ s.1 = e ∧ s.2.2.1 = [] ∧ s.2.2.2 = []
  | s, s1 :: l => wkS B n D M Dc lt EL s s1 ∧ (wfC s.2.1 ∧ wfK M s.2.1 ∧ kB t s.2.1 ∧ rAg s.2.1 F s.2.2.2) ∧ wkC B n D M Dc lt EL t F e s1 l
section WALK
variable {B : Nat → Nat} {n t : Nat} {D : Bool} {M : tMd} {Dc : Nat → Bool} {lt : Nat → Option Nat} {EL : List (Bool × Nat × Nat)} {F : List tRw} {e p z : Nat} {K K' : tK} {As : List (Nat × Nat)} {st : tSt} {v : sp_I}
theorem kBlk_r {o : Nat} {ty : Int64} (q : kBlk M p o ty K = .inr (K', z)) : K.2.2.length ≤ K'.2.2.length := by
  unfold kBlk at q
  split at q
  · cases q
  obtain ⟨K1, z1, e1, q⟩ := b_inv q
  obtain ⟨K2, z2, e2, q⟩ := b_inv q
  have j := (kTakeN_2 e2).trans (kTk_2 e1)
  split at q
  · cases q
  have q := kPutN_2 q
  rw [q, ← j]
  show _ ≤ (if o = 4 then _ else K2.2.2).length
  split
  · unfold kEm
    split
    · show _ ≤ (K2.2.2 ++ [_]).length
      rw [List.length_append]
      exact Nat.le_add_right _ _
    · exact Nat.le_refl _
  · exact Nat.le_refl _
theorem ag_nil (h : K.2.1.length = 0) : rAg K K.2.2 [] := by
  obtain ⟨s, ls, rs⟩ := K
  cases ls with
  | cons l ls => exact absurd h (Nat.succ_ne_zero _)
  | nil => exact ⟨Nat.le_refl _, rfl, fun i _ _ => rfl, fun x r hx => absurd hx (Nat.not_lt_zero _), fun x hx => absurd hx (Nat.not_lt_zero _)⟩
theorem wk_ag {s : tWk} {l : List tWk} (h : wkC B n D M Dc lt EL t F e s l) : rAg s.2.1 F s.2.2.2 := by
  cases l with
  | nil =>
    obtain ⟨h1, h2, h3, h4, h5⟩ := h
    rw [← h2, h5]
    exact ag_nil h1
  | cons s1 l => exact h.2.1.2.2.2
theorem wk_all (hB : ∀ i, B i < 256) (G : vG B n D M) (hF : ∀ f, f ∈ spF M → f.2.1 < M.1.length) (hlt : ∀ x ty, lt x = some ty → isT ty) (hn : n < 2147483648) {m : Nat} {Kf : tK} (qf : Kf.2.2 = F) : ∀ (N N' p most : Nat) {K : tK} {st : tSt} {w : tWr} {e' : Nat}, K.2.1.length = st.length + 1 → wfC K → wfK M K → kB t K → K.2.2.length ≤ p → p ≤ n → kRun B n D M Dc lt N p most K = .inr ((m, Kf), e) → sp_ex B n D true N' st p = .inr (w, e') → w.2 = false → (∀ x, x ∈ w.1 → x ∈ EL) → ∃ As l, wkC B n D M Dc lt EL t F e (p, K, st, As) l ∧ e = e' := by
  intro N
  induction N with
  | zero => intro N' p most K st w e' kl w1 w2 w3 kp pn q; cases q
  | succ N ih =>
    intro N' p most K st w e' kl w1 w2 w3 kp pn q x xw xe
    cases N' with
    | zero => cases x
    | succ N' =>
    unfold kRun at q
    rw [if_neg (by omega)] at q
    obtain ⟨v, p2, i1, q⟩ := b_inv q
    obtain ⟨K1, z1, i2, q⟩ := b_inv q
    rw [sp_ex_n, i1] at x
    have x : (if v.1 = 11 then _ else _) = _ := x
    have hl : 0 < K.2.1.length := by omega
    obtain ⟨u1, u2⟩ := sp_in_b i1
    have tl := tab_len hB i1 u1
    have c1 := kIns_c w1 hl (by omega) i2
    have kp1 : K1.2.2.length ≤ p2 := by have := c1.2; omega
    by_cases c11 : v.1 = 11
    · rw [if_pos c11] at x
      have hf : v.2.2.2 = false := sp_in_f hB i1 (.inr (.inr c11))
      obtain ⟨k1, k2, k3⟩ := kIns_w hB G hF i1 hf hlt w2 hl w3 i2
      rw [if_neg (by omega), if_pos c11] at k3
      have i2' := i2
      rw [ki_4 c11] at i2'
      cases st with
      | nil =>
        cases x
        have k0 : K1.2.1.length = 0 := by rw [k3, kl]; rfl
        cases N with
        | zero => cases q
        | succ N =>
          unfold kRun at q
          rw [if_pos k0] at q
          obtain ⟨rfl, rfl⟩ : K1 = Kf ∧ p2 = e := by cases q; exact ⟨rfl, rfl⟩
          have A1 : rAg K1 F [] := by rw [← qf]; exact ag_nil k0
          have A := (ag_end w1 hl i2' A1).1
          exact ⟨_, [(p2, K1, [], [])], ⟨⟨kl.symm, v, i1, hf, ⟨z1, i2⟩, by rw [if_pos c11]; exact ⟨rfl, .inl ⟨rfl, rfl, k0⟩⟩⟩, ⟨w1, w2, w3, A⟩, k0, qf, rfl, rfl, rfl⟩, rfl⟩
      | cons s r =>
        obtain ⟨w', p3, e2, x⟩ := b_inv x
        cases x
        have kr : K1.2.1.length = r.length + 1 := by rw [k3, kl]; rfl
        have xe' : ∀ y, y ∈ w'.1 → y ∈ EL := fun y hy => xe y (List.mem_cons_of_mem _ (by
          show y ∈ (if s.2.2 = 0 then w'.1 else _ :: w'.1)
          split
          · exact hy
          · exact List.mem_cons_of_mem _ hy))
        obtain ⟨As, l, W, ee⟩ := ih N' p2 _ kr c1.1 k1 k2 kp1 u2 q e2 xw xe'
        have A := (ag_end w1 hl i2' (wk_ag W)).1
        refine ⟨_, (p2, K1, r, As) :: l, ⟨⟨kl.symm, v, i1, hf, ⟨z1, i2⟩, ?_⟩, ⟨w1, w2, w3, A⟩, W⟩, ee⟩
        rw [if_pos c11]
        refine ⟨rfl, .inr ⟨s, rfl, xe _ List.mem_cons_self, fun h => xe _ (List.mem_cons_of_mem _ ?_)⟩⟩
        show (false, s.2.2, p) ∈ (if s.2.2 = 0 then w'.1 else _ :: w'.1)
        rw [if_neg h]
        exact List.mem_cons_self
    rw [if_neg c11] at x
    by_cases c2 : 2 ≤ v.1 ∧ v.1 ≤ 4
    · rw [if_pos c2] at x
      have hf : v.2.2.2 = false := sp_in_f hB i1 (.inl c2)
      obtain ⟨k1, k2, k3⟩ := kIns_w hB G hF i1 hf hlt w2 hl w3 i2
      rw [if_pos c2] at k3
      have i2' := i2
      rw [ki_2 c2] at i2'
      obtain ⟨As, l, W, ee⟩ := ih N' p2 _ (st := (v.1, p, 0) :: st) (by rw [k3, kl]; rfl) c1.1 k1 k2 kp1 u2 q x xw xe
      obtain ⟨a, As', ea, A⟩ := ag_blk w1 (by omega) i2' (wk_ag W)
      refine ⟨As', (p2, K1, (v.1, p, 0) :: st, As) :: l, ⟨⟨kl.symm, v, i1, hf, ⟨z1, i2⟩, ?_⟩, ⟨w1, w2, w3, A⟩, W⟩, ee⟩
      rw [if_neg c11, if_pos c2]
      exact ⟨rfl, a, ea⟩
    rw [if_neg c2] at x
    by_cases c5 : v.1 = 5
    · rw [if_pos c5] at x
      have hf : v.2.2.2 = false := sp_in_f hB i1 (.inr (.inl c5))
      obtain ⟨k1, k2, k3⟩ := kIns_w hB G hF i1 hf hlt w2 hl w3 i2
      rw [if_neg c2, if_neg c11] at k3
      have i2' := i2
      rw [ki_3 c5] at i2'
      cases st with
      | nil => cases x
      | cons s r =>
        have x : (if s.1 = 4 then _ else _) = _ := x
        by_cases s4 : s.1 = 4
        · rw [if_pos s4] at x
          obtain ⟨w', p3, e2, x⟩ := b_inv x
          cases x
          obtain ⟨As, l, W, ee⟩ := ih N' p2 _ (st := (5, s.2.1, p) :: r) (by rw [k3, kl]; rfl) c1.1 k1 k2 kp1 u2 q e2 xw (fun y hy => xe y (List.mem_cons_of_mem _ hy))
          obtain ⟨a, As', ea, A⟩ := ag_els w1 hl i2' (wk_ag W)
          refine ⟨_, (p2, K1, (5, s.2.1, p) :: r, As) :: l, ⟨⟨kl.symm, v, i1, hf, ⟨z1, i2⟩, ?_⟩, ⟨w1, w2, w3, A⟩, W⟩, ee⟩
          rw [if_neg c11, if_neg c2, if_pos c5]
          exact ⟨s, r, a, As', rfl, s4, rfl, xe _ List.mem_cons_self, ea, rfl⟩
        · rw [if_neg s4] at x
          cases x
    rw [if_neg c5] at x
    obtain ⟨w', p3, e2, x⟩ := b_inv x
    cases x
    have xw : ((v.2.2.2 && true) || w'.2) = false := xw
    have o := or_f xw
    have hf : v.2.2.2 = false := by have := o.1; rw [Bool.and_true] at this; exact this
    obtain ⟨k1, k2, k3⟩ := kIns_w hB G hF i1 hf hlt w2 hl w3 i2
    rw [if_neg c2, if_neg c11] at k3
    obtain ⟨As, l, W, ee⟩ := ih N' p2 _ (st := st) (by rw [k3, kl]) c1.1 k1 k2 kp1 u2 q e2 o.2 xe
    have A := ag_pln (by omega) c11 w1 hl i2 (wk_ag W)
    refine ⟨As, (p2, K1, st, As) :: l, ⟨⟨kl.symm, v, i1, hf, ⟨z1, i2⟩, ?_⟩, ⟨w1, w2, w3, A⟩, W⟩, ee⟩
    rw [if_neg c11, if_neg c2, if_neg c5]
    exact ⟨rfl, rfl⟩
end WALK
