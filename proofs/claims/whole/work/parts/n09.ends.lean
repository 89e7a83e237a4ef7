/-! FLATTENED CODE: where a label ends, and where it began -/
/-- a label later on: an if may have come to its else -/
def lbV (l l' : tLb) : Prop := (l'.1 = l.1 ∨ l'.1 = 5) ∧ l'.2.1 = l.2.1 ∧ l'.2.2.1 = l.2.2.1 ∧ l'.2.2.2.2.1 = l.2.2.2.2.1 ∧ l'.2.2.2.2.2.2 = l.2.2.2.2.2.2
theorem lbV_r (l : tLb) : lbV l l := ⟨.inl rfl, rfl, rfl, rfl, rfl⟩
theorem lbV_U {d : Prop} {a b : tLb} (p : lbU d a b) : lbV a b := ⟨.inl p.1, p.2.1, p.2.2.1, p.2.2.2.1, p.2.2.2.2.1⟩
theorem lbV_t {a b c : tLb} (p : lbV a b) (q : lbV b c) : lbV a c := ⟨by
  rcases q.1 with e | e
  · rw [e]; exact p.1
  · exact .inr e, q.2.1.trans p.2.1, q.2.2.1.trans p.2.2.1, q.2.2.2.1.trans p.2.2.2.1, q.2.2.2.2.trans p.2.2.2.2⟩
section ENDS
variable {B : Nat → Nat} {n t : Nat} {D : Bool} {M : tMd} {Dc : Nat → Bool} {lt : Nat → Option Nat} {EL : List (Bool × Nat × Nat)} {F : List tRw} {e : Nat}
/-- one step of the walk, told by its labels -/
theorem wk_s {s s1 : tWk} (h : wkS B n D M Dc lt EL s s1) : ∃ v, sp_in B n D s.1 = .inr (v, s1.1) ∧ ((v.1 = 11 ∧ s1.2.1.2.1 = s.2.1.2.1.tail ∧ s.2.2.2 = (s.2.1.2.2.length, s.2.1.2.2.length) :: s1.2.2.2 ∧ ((s.2.2.1 = [] ∧ s1.2.2.1 = [] ∧ s1.2.1.2.1.length = 0) ∨ ∃ u, s.2.2.1 = u :: s1.2.2.1 ∧ (false, u.2.1, s.1) ∈ EL ∧ (u.2.2 ≠ 0 → (false, u.2.2, s.1) ∈ EL)))
    ∨ ((2 ≤ v.1 ∧ v.1 ≤ 4) ∧ (∃ l, s1.2.1.2.1 = l :: s.2.1.2.1 ∧ l.1 = v.1) ∧ s1.2.2.1 = (v.1, s.1, 0) :: s.2.2.1 ∧ ∃ a, s1.2.2.2 = a :: s.2.2.2)
    ∨ (v.1 = 5 ∧ (∃ l ks, s1.2.1.2.1 = l :: ks ∧ l.1 = 5 ∧ lbV (s.2.1.2.1.getD 0 lb0) l ∧ ks.length + 1 = s.2.1.2.1.length ∧ ∀ x, lbU False (s.2.1.2.1.getD (x + 1) lb0) (ks.getD x lb0)) ∧ ∃ u r a As', s.2.2.1 = u :: r ∧ u.1 = 4 ∧ s1.2.2.1 = (5, u.2.1, s.1) :: r ∧ (true, u.2.1, s.1) ∈ EL ∧ s1.2.2.2 = a :: As' ∧ s.2.2.2 = (a.1, s1.2.1.2.2.length) :: As')
    ∨ ((v.1 = 0 ∨ v.1 = 1 ∨ 5 < v.1) ∧ v.1 ≠ 11 ∧ (s1.2.1.2.1.length = s.2.1.2.1.length ∧ ∀ x, lbU (x = 0) (s.2.1.2.1.getD x lb0) (s1.2.1.2.1.getD x lb0)) ∧ s1.2.2.1 = s.2.2.1 ∧ s1.2.2.2 = s.2.2.2)) := by
  obtain ⟨kl, v, i1, hf, ⟨z, i2⟩, i3⟩ := h
  have hl : 0 < s.2.1.2.1.length := by omega
  refine ⟨v, i1, ?_⟩
  by_cases c11 : v.1 = 11
  · rw [if_pos c11] at i3
    rw [ki_4 c11] at i2
    exact .inl ⟨c11, (ls_end hl i2).1, i3⟩
  rw [if_neg c11] at i3
  by_cases c2 : 2 ≤ v.1 ∧ v.1 ≤ 4
  · rw [if_pos c2] at i3
    rw [ki_2 c2] at i2
    obtain ⟨h, e1, -⟩ := ls_blk i2
    exact .inr (.inl ⟨c2, ⟨_, e1, rfl⟩, i3⟩)
  rw [if_neg c2] at i3
  by_cases c5 : v.1 = 5
  · rw [if_pos c5] at i3
    rw [ki_3 c5] at i2
    obtain ⟨l', ks, e1, e2, e3, e4, ⟨e5, e6, e7, e8⟩, e9, e10⟩ := ls_els hl i2
    have tk : kTop s.2.1 = s.2.1.2.1.getD 0 lb0 := by
      unfold kTop
      cases s.2.1.2.1 <;> rfl
    rw [tk] at e5 e6 e7 e8
    obtain ⟨u, r, a, As', f1, f2, f3, f4, f5, f6⟩ := i3
    rw [← e10] at f6
    exact .inr (.inr (.inl ⟨c5, ⟨l', ks, e1, e3, ⟨.inr e3, e5, e6, e7, e8⟩, e2, e9⟩, u, r, a, As', f1, f2, f3, f4, f5, f6⟩))
  rw [if_neg c5] at i3
  exact .inr (.inr (.inr ⟨by omega, c11, ls_pln (by omega) c11 hl i2, i3⟩))
/-- the END of a label -/
theorem wk_end : ∀ (l : List tWk) {s : tWk} {x : Nat}, wkC B n D M Dc lt EL t F e s l → x < s.2.1.2.1.length → ∃ s1 s2 l' v, (s1 :: s2 :: l') <:+ (s :: l) ∧ sp_in B n D s1.1 = .inr (v, s2.1) ∧ v.1 = 11 ∧ s1.2.1.2.1.length + x = s.2.1.2.1.length ∧ lbV (s.2.1.2.1.getD x lb0) (s1.2.1.2.1.getD 0 lb0) ∧ s2.2.1.2.1 = s1.2.1.2.1.tail ∧ (∀ y, lbU False (s.2.1.2.1.getD (x + 1 + y) lb0) (s2.2.1.2.1.getD y lb0)) ∧ (s.2.2.2.getD x (0, 0)).1 = s1.2.1.2.2.length ∧ s2.2.2.2 = s.2.2.2.drop (x + 1) ∧ s2.2.2.1 = s.2.2.1.drop (x + 1) ∧ (x < s.2.2.1.length → (false, (s.2.2.1.getD x (0, 0, 0)).2.1, s1.1) ∈ EL ∧ ((s.2.2.1.getD x (0, 0, 0)).1 ≠ 4 → (s.2.2.1.getD x (0, 0, 0)).2.2 ≠ 0 → (false, (s.2.2.1.getD x (0, 0, 0)).2.2, s1.1) ∈ EL))
  | [], s, x, w, hx => by
    have := w.1
    omega
  | s1 :: l, s, x, w, hx => by
    obtain ⟨w1, w2, w3⟩ := w
    obtain ⟨v, i1, o⟩ := wk_s w1
    rcases o with ⟨c, e1, e2, e3⟩ | ⟨c, ⟨k, e1, ek⟩, e2, a, e3⟩ | ⟨c, ⟨k, ks, e1, ek, eV, e2, e3⟩, u, r, a, As', f1, f2, f3, f4, f5, f6⟩ | ⟨c, c', ⟨e1, e2⟩, e3, e4⟩
    · -- END
      have lt : s1.2.1.2.1.length + 1 = s.2.1.2.1.length := by rw [e1, List.length_tail]; omega
      have gt : ∀ y, s.2.1.2.1.getD (y + 1) lb0 = s1.2.1.2.1.getD y lb0 := fun y => by rw [e1]; cases s.2.1.2.1 <;> rfl
      cases x with
      | zero =>
        refine ⟨s, s1, l, v, List.suffix_refl _, i1, c, by omega, lbV_r _, e1, fun y => ?_, by rw [e2]; rfl, by rw [e2]; rfl, ?_, fun h => ?_⟩
        · rw [show 0 + 1 + y = y + 1 by omega, gt]; exact lbU_r ..
        · rcases e3 with ⟨g1, g2, g3⟩ | ⟨u, g1, g2, g3⟩
          · rw [g1, g2]; rfl
          · rw [g1]; rfl
        · rcases e3 with ⟨g1, g2, g3⟩ | ⟨u, g1, g2, g3⟩
          · rw [g1] at h; exact absurd h (Nat.not_lt_zero _)
          · rw [g1]; exact ⟨g2, fun _ => g3⟩
      | succ x =>
        obtain ⟨s3, s4, l', v', h1, h2, h3, h4, h5, h6, h7, h8, h9, h10, h11⟩ := wk_end l w3 (show x < s1.2.1.2.1.length by omega)
        refine ⟨s3, s4, l', v', h1.trans (List.suffix_cons _ _), h2, h3, by omega, by rw [gt]; exact h5, h6, fun y => ?_, ?_, ?_, ?_, fun h => ?_⟩
        · rw [show x + 1 + 1 + y = (x + 1 + y) + 1 by omega, gt]; exact h7 y
        · rw [e2]; exact h8
        · rw [e2]; exact h9
        · rcases e3 with ⟨g1, g2, g3⟩ | ⟨u, g1, g2, g3⟩
          · rw [g1, h10, g2]; rfl
          · rw [g1]; exact h10
        · rcases e3 with ⟨g1, g2, g3⟩ | ⟨u, g1, g2, g3⟩
          · rw [g1] at h; exact absurd h (Nat.not_lt_zero _)
          · rw [g1] at h ⊢; exact h11 (Nat.lt_of_succ_lt_succ h)
    · -- a block
      obtain ⟨s3, s4, l', v', h1, h2, h3, h4, h5, h6, h7, h8, h9, h10, h11⟩ := wk_end l (x := x + 1) w3 (by rw [e1]; exact Nat.succ_lt_succ hx)
      rw [e1] at h4 h5 h7
      have h4 : s3.2.1.2.1.length + (x + 1) = s.2.1.2.1.length + 1 := h4
      refine ⟨s3, s4, l', v', h1.trans (List.suffix_cons _ _), h2, h3, by omega, h5, h6, fun y => ?_, ?_, ?_, ?_, fun h => ?_⟩
      · have := h7 y
        rw [show x + 1 + 1 + y = (x + 1 + y) + 1 by omega] at this
        exact this
      · rw [e3] at h8; exact h8
      · rw [e3] at h9; exact h9
      · rw [e2] at h10; exact h10
      · rw [e2] at h11; exact h11 (Nat.succ_lt_succ h)
    · -- else
      obtain ⟨s3, s4, l', v', h1, h2, h3, h4, h5, h6, h7, h8, h9, h10, h11⟩ := wk_end l (x := x) w3 (by rw [e1]; show x < ks.length + 1; omega)
      rw [e1] at h4 h5 h7
      have h4 : s3.2.1.2.1.length + x = ks.length + 1 := h4
      refine ⟨s3, s4, l', v', h1.trans (List.suffix_cons _ _), h2, h3, by omega, ?_, h6, fun y => ?_, ?_, ?_, ?_, fun h => ?_⟩
      · cases x with
        | zero => exact lbV_t eV h5
        | succ x => exact lbV_t (lbV_U (e3 x)) h5
      · have g := h7 y
        rw [show x + 1 + y = (x + y) + 1 by omega] at g ⊢
        exact lbU_t (e3 _) g
      · rw [f5] at h8
        rw [f6]
        cases x with
        | zero => exact h8
        | succ x => exact h8
      · rw [f5] at h9; rw [f6]; exact h9
      · rw [f3] at h10; rw [f1]; exact h10
      · rw [f3] at h11
        rw [f1] at h ⊢
        have := h11 h
        cases x with
        | zero => exact ⟨this.1, fun g => absurd f2 g⟩
        | succ x => exact this
    · -- plain
      obtain ⟨s3, s4, l', v', h1, h2, h3, h4, h5, h6, h7, h8, h9, h10, h11⟩ := wk_end l (x := x) w3 (by omega)
      refine ⟨s3, s4, l', v', h1.trans (List.suffix_cons _ _), h2, h3, by omega, lbV_t (lbV_U (e2 x)) h5, h6, fun y => lbU_t (lbU_w (e2 _) (fun z => by omega)) (h7 y), by rw [← e4]; exact h8, by rw [← e4]; exact h9, by rw [← e3]; exact h10, by rw [← e3]; exact h11⟩
/-- what the walk knows of labels that stand open: where they began -/
def wkH (B : Nat → Nat) (n : Nat) (D : Bool) (W : List tWk) (s : tWk) : Prop := ∀ x, x < s.2.2.1.length → ∃ s1 s2 l' v, (s1 :: s2 :: l') <:+ W ∧ sp_in B n D s1.1 = .inr (v, s2.1) ∧ (2 ≤ v.1 ∧ v.1 ≤ 4) ∧ s1.1 = (s.2.2.1.getD x (0, 0, 0)).2.1 ∧ (s2.2.1.2.1.getD 0 lb0).1 = v.1 ∧ lbV (s2.2.1.2.1.getD 0 lb0) (s.2.1.2.1.getD x lb0) ∧ ((s.2.1.2.1.getD x lb0).1 = 5 → v.1 = 4 ∧ (s.2.2.1.getD x (0, 0, 0)).1 = 5) ∧ ((s.2.1.2.1.getD x lb0).1 = v.1 → (s.2.2.1.getD x (0, 0, 0)).1 = v.1) ∧ s2.2.1.2.1.length + x = s.2.1.2.1.length ∧ (∀ y, lbU False (s2.2.1.2.1.getD (y + 1) lb0) (s.2.1.2.1.getD (x + 1 + y) lb0)) ∧ s2.2.2.1.tail = s.2.2.1.drop (x + 1) ∧ (∃ a, s2.2.2.2 = a :: s.2.2.2.drop (x + 1) ∧ a.1 = (s.2.2.2.getD x (0, 0)).1)
end ENDS
