/-! FLATTENED CODE: where a label ends, and where it began -/
/-- a label later on: an if may have come to its else -/
def lbV (l l' : tLb) : Prop := (l'.1 = l.1 ∨ l'.1 = 5) ∧ l'.2.1 = l.2.1 ∧ l'.2.2.1 = l.2.2.1 ∧ l'.2.2.2.2.1 = l.2.2.2.2.1 ∧ l'.2.2.2.2.2.2 = l.2.2.2.2.2.2
theorem lbV_r (l : tLb) : lbV l l := ⟨.inl rfl, rfl, rfl, rfl, rfl⟩
theorem lbV_U {d : Prop} {a b : tLb} (p : lbU d a b) : lbV a b := ⟨.inl p.1, p.2.1, p.2.2.1, p.2.2.2.1, p.2.2.2.2.1⟩
theorem lbV_t {a b c : tLb} (p : lbV a b) (q : lbV b c) : lbV a c := ⟨by
  rcases q.1 with e | e
  · rw [e]; exact p.1
  · exact .inr e, q.2.1.trans p.2.1, q.2.2.1.trans p.2.2.1, q.2.2.2.1.trans p.2.2.2.1, q.2.2.2.2.trans p.2.2.2.2⟩
section ENDS
variable {B : Nat → Nat} {n t : Nat} {D : Bool} {M : tMd} {Dc : Nat → Bool} {lt : Nat → Option Nat} {EL : List (Bool × Nat × Nat)} {F : List tRw} {e : Nat}
/-- one step of the walk, told by its labels -/
theorem wk_s {s s1 : tWk} (h : wkS B n D M Dc lt EL s s1) : ∃ v, sp_in B n D s.1 = .inr (v, s1.1) ∧ ((v.1 = 11 ∧ s1.2.1.2.1 = s.2.1.2.1.tail ∧ s.2.2.2 = (s.2.1.2.2.length, s.2.1.2.2.length) :: s1.2.2.2 ∧ ((s.2.2.1 = [] ∧ s1.2.2.1 = [] ∧ s1.2.1.2.1.length = 0) ∨ ∃ u, s.2.2.1 = u :: s1.2.2.1 ∧ (false, u.2.1, s.1) ∈ EL ∧ (u.2.2 ≠ 0 → (false, u.2.2, s.1) ∈ EL)))
    ∨ ((2 ≤ v.1 ∧ v.1 ≤ 4) ∧ (∃ l, s1.2.1.2.1 = l :: s.2.1.2.1 ∧ l.1 = v.1) ∧ s1.2.2.1 = (v.1, s.1, 0) :: s.2.2.1 ∧ ∃ a, s1.2.2.2 = a :: s.2.2.2)
    ∨ (v.1 = 5 ∧ (∃ l ks, s1.2.1.2.1 = l :: ks ∧ l.1 = 5 ∧ lbV (s.2.1.2.1.getD 0 lb0) l ∧ ks.length + 1 = s.2.1.2.1.length ∧ ∀ x, lbU False (s.2.1.2.1.getD (x + 1) lb0) (ks.getD x lb0)) ∧ ∃ u r a As', s.2.2.1 = u :: r ∧ u.1 = 4 ∧ s1.2.2.1 = (5, u.2.1, s.1) :: r ∧ (true, u.2.1, s.1) ∈ EL ∧ s1.2.2.2 = a :: As' ∧ s.2.2.2 = (a.1, s1.2.1.2.2.length) :: As')
    ∨ ((v.1 = 0 ∨ v.1 = 1 ∨ 5 < v.1) ∧ v.1 ≠ 11 ∧ (s1.2.1.2.1.length = s.2.1.2.1.length ∧ ∀ x, lbU (x = 0) (s.2.1.2.1.getD x lb0) (s1.2.1.2.1.getD x lb0)) ∧ s1.2.2.1 = s.2.2.1 ∧ s1.2.2.2 = s.2.2.2)) := by
  obtain ⟨kl, v, i1, hf, ⟨z, i2⟩, i3⟩ := h
  have hl : 0 < s.2.1.2.1.length := by omega
  refine ⟨v, i1, ?_⟩
  by_cases c11 : v.1 = 11
  · rw [if_pos c11] at i3
    rw [ki_4 c11] at i2
    exact .inl ⟨c11, (ls_end hl i2).1, i3⟩
  rw [if_neg c11] at i3
  by_cases c2 : 2 ≤ v.1 ∧ v.1 ≤ 4
  · rw [if_pos c2] at i3
    rw [ki_2 c2] at i2
    obtain ⟨h, e1, -⟩ := ls_blk i2
    exact .inr (.inl ⟨c2, ⟨_, e1, rfl⟩, i3⟩)
  rw [if_neg c2] at i3
  by_cases c5 : v.1 = 5
  · rw [if_pos c5] at i3
    rw [ki_3 c5] at i2
    obtain ⟨l', ks, e1, e2, e3, e4, ⟨e5, e6, e7, e8⟩, e9, e10⟩ := ls_els hl i2
    have tk : kTop s.2.1 = s.2.1.2.1.getD 0 lb0 := by
      unfold kTop
      cases s.2.1.2.1 <;> rfl
    rw [tk] at e5 e6 e7 e8
    obtain ⟨u, r, a, As', f1, f2, f3, f4, f5, f6⟩ := i3
    rw [← e10] at f6
    exact .inr (.inr (.inl ⟨c5, ⟨l', ks, e1, e3, ⟨.inr e3, e5, e6, e7, e8⟩, e2, e9⟩, u, r, a, As', f1, f2, f3, f4, f5, f6⟩))
  rw [if_neg c5] at i3
  exact .inr (.inr (.inr ⟨by omega, c11, ls_pln (by omega) c11 hl i2, i3⟩))
end ENDS
