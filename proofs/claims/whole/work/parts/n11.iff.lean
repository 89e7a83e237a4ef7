/-! FLATTENED CODE: an if, its else or its END -/
section IFF
variable {B : Nat → Nat} {n t : Nat} {D : Bool} {M : tMd} {Dc : Nat → Bool} {lt : Nat → Option Nat} {EL : List (Bool × Nat × Nat)} {F : List tRw} {e : Nat} {W : List tWk}
/-- where an if that stands open goes on when its condition fails -/
theorem wk_iff : ∀ (l : List tWk) {s : tWk} {x : Nat}, wkC B n D M Dc lt EL t F e s l → x < s.2.2.1.length → (s.2.2.1.getD x (0, 0, 0)).1 = 4 → ∃ s1 s2 l' v, (s1 :: s2 :: l') <:+ (s :: l) ∧ sp_in B n D s1.1 = .inr (v, s2.1) ∧ (v.1 = 5 ∨ v.1 = 11) ∧ s1.2.1.2.1.length + x = s.2.1.2.1.length ∧ lbV (s.2.1.2.1.getD x lb0) (s1.2.1.2.1.getD 0 lb0) ∧ (∀ y, lbU False (s.2.1.2.1.getD (x + 1 + y) lb0) (s1.2.1.2.1.getD (y + 1) lb0)) ∧ s1.2.2.1 = s.2.2.1.drop x ∧ s1.2.2.2.tail = s.2.2.2.drop (x + 1) ∧ (s1.2.2.2.getD 0 (0, 0)) = (s.2.2.2.getD x (0, 0)) ∧ (s.2.2.2.getD x (0, 0)).2 = (if v.1 = 5 then s2.2.1.2.2.length else s1.2.1.2.2.length)
  | [], s, x, w, hx, h4 => by
    have := w.2.2.2.1
    rw [this] at hx
    exact absurd hx (Nat.not_lt_zero _)
  | s1 :: l, s, x, w, hx, h4 => by
    obtain ⟨w1, w2, w3⟩ := w
    have kl := w1.1
    obtain ⟨v, i1, o⟩ := wk_s w1
    have d0 : ∀ {α : Type} {d : α} {L : List α} {j : Nat}, j < L.length → L.drop j = L.getD j d :: L.drop (j + 1) := fun {α d L j} h => by
      rw [List.drop_eq_getElem_cons h, List.getD_eq_getElem?_getD, List.getElem?_eq_getElem h]
      rfl
    rcases o with ⟨c, e1, e2, e3⟩ | ⟨c, ⟨k, e1, ek⟩, e2, a, e3⟩ | ⟨c, ⟨k, ks, e1, ek, eV, e2, e3⟩, u, r, a, As', f1, f2, f3, f4, f5, f6⟩ | ⟨c, c', ⟨e1, e2⟩, e3, e4⟩
    · -- END
      have lt : s1.2.1.2.1.length + 1 = s.2.1.2.1.length := by rw [e1, List.length_tail]; omega
      have gt : ∀ y, s.2.1.2.1.getD (y + 1) lb0 = s1.2.1.2.1.getD y lb0 := fun y => by rw [e1]; cases s.2.1.2.1 <;> rfl
      cases x with
      | zero =>
        refine ⟨s, s1, l, v, List.suffix_refl _, i1, .inr c, rfl, lbV_r _, fun y => ?_, rfl, by rw [e2]; rfl, rfl, ?_⟩
        · rw [show 0 + 1 + y = y + 1 by omega]; exact lbU_r ..
        · rw [if_neg (by omega), e2]; rfl
      | succ x =>
        rcases e3 with ⟨g1, g2, g3⟩ | ⟨u, g1, g2, g3⟩
        · rw [g1] at hx; exact absurd hx (Nat.not_lt_zero _)
        rw [g1] at hx h4
        obtain ⟨s3, s4, l', v', h1, h2, h3, h5, h6, h7, h8, h9, h10, h11⟩ := wk_iff l w3 (x := x) (Nat.lt_of_succ_lt_succ hx) h4
        rw [e2, g1]
        refine ⟨s3, s4, l', v', h1.trans (List.suffix_cons _ _), h2, h3, by omega, by rw [gt]; exact h6, fun y => ?_, h8, h9, h10, h11⟩
        rw [show x + 1 + 1 + y = (x + 1 + y) + 1 by omega, gt]; exact h7 y
    · -- a block
      obtain ⟨s3, s4, l', v', h1, h2, h3, h5, h6, h7, h8, h9, h10, h11⟩ := wk_iff l w3 (x := x + 1) (by rw [e2]; exact Nat.succ_lt_succ hx) (by rw [e2]; exact h4)
      rw [e1] at h5 h6 h7
      rw [e2] at h8
      rw [e3] at h9 h10 h11
      have h5 : s3.2.1.2.1.length + (x + 1) = s.2.1.2.1.length + 1 := h5
      refine ⟨s3, s4, l', v', h1.trans (List.suffix_cons _ _), h2, h3, by omega, h6, fun y => ?_, h8, h9, h10, h11⟩
      have := h7 y
      rw [show x + 1 + 1 + y = (x + 1 + y) + 1 by omega] at this
      exact this
    · -- else
      cases x with
      | zero =>
        refine ⟨s, s1, l, v, List.suffix_refl _, i1, .inl c, rfl, lbV_r _, fun y => ?_, rfl, by rw [f6]; rfl, rfl, ?_⟩
        · rw [show 0 + 1 + y = y + 1 by omega]; exact lbU_r ..
        · rw [if_pos c, f6]; rfl
      | succ x =>
        obtain ⟨s3, s4, l', v', h1, h2, h3, h5, h6, h7, h8, h9, h10, h11⟩ := wk_iff l w3 (x := x + 1) (by rw [f3]; rw [f1] at hx; exact hx) (by rw [f3]; rw [f1] at h4; exact h4)
        rw [e1] at h5 h6 h7
        rw [f3] at h8
        rw [f5] at h9 h10 h11
        have h5 : s3.2.1.2.1.length + (x + 1) = ks.length + 1 := h5
        rw [f1, f6]
        refine ⟨s3, s4, l', v', h1.trans (List.suffix_cons _ _), h2, h3, by omega, lbV_t (lbV_U (e3 x)) h6, fun y => ?_, h8, h9, h10, h11⟩
        have g := h7 y
        rw [show x + 1 + 1 + y = (x + 1 + y) + 1 by omega] at g ⊢
        exact lbU_t (e3 _) g
    · -- plain
      rw [← e3] at hx h4
      obtain ⟨s3, s4, l', v', h1, h2, h3, h5, h6, h7, h8, h9, h10, h11⟩ := wk_iff l w3 (x := x) hx h4
      rw [← e3, ← e4]
      exact ⟨s3, s4, l', v', h1.trans (List.suffix_cons _ _), h2, h3, by omega, lbV_t (lbV_U (e2 x)) h6, fun y => lbU_t (lbU_w (e2 _) (fun z => by omega)) (h7 y), h8, h9, h10, h11⟩
/-- what will yet be told of elses, and what was told -/
def wkJ (B : Nat → Nat) (n : Nat) (D : Bool) (EL : List (Bool × Nat × Nat)) (s : tWk) : Prop := ∃ N w e', sp_ex B n D true N s.2.2.1 s.1 = .inr (w, e') ∧ (∀ u, u ∈ s.2.2.1 → u.2.1 < s.1) ∧ (s.2.2.1.map (fun u => u.2.1)).Nodup ∧ ∀ y x, (true, y, x) ∈ EL → (true, y, x) ∈ w.1 ∨ (y < s.1 ∧ ∀ u, u ∈ s.2.2.1 → u.2.1 = y → u.1 ≠ 4)
theorem wk_j {s s1 : tWk} (w : wkS B n D M Dc lt EL s s1) (h0 : s1.2.1.2.1.length ≠ 0) (J : wkJ B n D EL s) : wkJ B n D EL s1 := by
  obtain ⟨v, i1, o⟩ := wk_s w
  obtain ⟨u1, u2⟩ := sp_in_b i1
  obtain ⟨N, ww, e', x, j1, j2, j3⟩ := J
  cases N with
  | zero => cases x
  | succ N =>
  rw [sp_ex_n, i1] at x
  have x : (if v.1 = 11 then _ else _) = _ := x
  rcases o with ⟨c, e1, e2, e3⟩ | ⟨c, ⟨k, e1, ek⟩, e2, a, e3⟩ | ⟨c, ⟨k, ks, e1, ek, eV, e2, e3⟩, u, r, a, As', f1, f2, f3, f4, f5, f6⟩ | ⟨c, c', ⟨e1, e2⟩, e3, e4⟩
  · rcases e3 with ⟨g1, g2, g3⟩ | ⟨u, g1, g2, g3⟩
    · exact absurd g3 h0
    rw [if_pos c, g1] at x
    obtain ⟨w', p3, x1, x2⟩ := b_inv x
    cases x2
    rw [g1] at j1 j2 j3
    have j2 : (u.2.1 :: s1.2.2.1.map (fun u => u.2.1)).Nodup := j2
    refine ⟨N, w', e', x1, fun a ha => by have := j1 a (List.mem_cons_of_mem _ ha); omega, (List.nodup_cons.mp j2).2, fun y x hy => ?_⟩
    rcases j3 y x hy with q | ⟨q1, q2⟩
    · have q : (true, y, x) ∈ (false, u.2.1, s.1) :: (if u.2.2 = 0 then w'.1 else (false, u.2.2, s.1) :: w'.1) := q
      rcases List.mem_cons.mp q with q | q
      · cases q
      · split at q
        · exact .inl q
        · rcases List.mem_cons.mp q with q | q
          · cases q
          · exact .inl q
    · exact .inr ⟨by omega, fun a ha => q2 a (List.mem_cons_of_mem _ ha)⟩
  · have n11 : ¬ v.1 = 11 := by omega
    rw [if_neg n11, if_pos c] at x
    refine ⟨N, ww, e', by rw [e2]; exact x, fun a ha => ?_, ?_, fun y x hy => ?_⟩
    · rw [e2] at ha
      rcases List.mem_cons.mp ha with q | q
      · rw [q]; exact u1
      · have := j1 a q; omega
    · rw [e2]
      refine List.nodup_cons.mpr ⟨fun m => ?_, j2⟩
      obtain ⟨a, ha, hb⟩ := List.mem_map.mp m
      have h1 := j1 a ha
      have hb : a.2.1 = s.1 := hb
      omega
    · rcases j3 y x hy with q | ⟨q1, q2⟩
      · exact .inl q
      · refine .inr ⟨by omega, fun a ha hb => ?_⟩
        rw [e2] at ha
        rcases List.mem_cons.mp ha with q | q
        · rw [q] at hb
          have hb : s.1 = y := hb
          omega
        · exact q2 a q hb
  · have n11 : ¬ v.1 = 11 := by omega
    have n2 : ¬ (2 ≤ v.1 ∧ v.1 ≤ 4) := by omega
    rw [if_neg n11, if_neg n2, if_pos c, f1] at x
    have x : (if u.1 = 4 then _ else _) = _ := x
    rw [if_pos f2] at x
    obtain ⟨w', p3, x1, x2⟩ := b_inv x
    cases x2
    rw [f1] at j1 j2 j3
    have j2 : (u.2.1 :: r.map (fun u => u.2.1)).Nodup := j2
    have ju := j1 u List.mem_cons_self
    refine ⟨N, w', e', by rw [f3]; exact x1, fun a ha => ?_, by rw [f3]; exact j2, fun y x hy => ?_⟩
    · rw [f3] at ha
      rcases List.mem_cons.mp ha with q | q
      · rw [q]; show u.2.1 < _; omega
      · have := j1 a (List.mem_cons_of_mem _ q); omega
    · rw [f3]
      have five : ∀ {a : Nat × Nat × Nat}, a = (5, u.2.1, s.1) → a.1 ≠ 4 := fun {a} q => by rw [q]; show (5 : Nat) ≠ 4; decide
      rcases j3 y x hy with q | ⟨q1, q2⟩
      · have q : (true, y, x) ∈ (true, u.2.1, s.1) :: w'.1 := q
        rcases List.mem_cons.mp q with q | q
        · have qy : y = u.2.1 := by cases q; rfl
          refine .inr ⟨by omega, fun a ha hb => ?_⟩
          rcases List.mem_cons.mp ha with q | q
          · exact five q
          · exact absurd (List.mem_map.mpr ⟨a, q, hb.trans qy⟩) (List.nodup_cons.mp j2).1
        · exact .inl q
      · refine .inr ⟨by omega, fun a ha hb => ?_⟩
        rcases List.mem_cons.mp ha with q | q
        · exact five q
        · exact q2 a (List.mem_cons_of_mem _ q) hb
  · have n2 : ¬ (2 ≤ v.1 ∧ v.1 ≤ 4) := by omega
    have n5 : ¬ v.1 = 5 := by omega
    rw [if_neg c', if_neg n2, if_neg n5] at x
    obtain ⟨w', p3, x1, x2⟩ := b_inv x
    cases x2
    refine ⟨N, w', e', by rw [e3]; exact x1, fun a ha => ?_, by rw [e3]; exact j2, fun y x hy => ?_⟩
    · rw [e3] at ha; have := j1 a ha; omega
    · rw [e3]
      rcases j3 y x hy with q | ⟨q1, q2⟩
      · exact .inl q
      · exact .inr ⟨by omega, q2⟩
/-- an else comes only for an if that stands open or comes later -/
theorem ex_els : ∀ {N p : Nat} {st : tSt} {w : tWr} {e' : Nat}, sp_ex B n D true N st p = .inr (w, e') → ∀ y x, (true, y, x) ∈ w.1 → p ≤ y ∨ ∃ u, u ∈ st ∧ u.2.1 = y ∧ u.1 = 4
  | 0, p, st, w, e', q => by cases q
  | N + 1, p, st, w, e', q => by
    intro y z hy
    rw [sp_ex_n] at q
    obtain ⟨v, p2, i1, q⟩ := b_inv q
    obtain ⟨u1, u2⟩ := sp_in_b i1
    by_cases c11 : v.1 = 11
    · rw [if_pos c11] at q
      cases st with
      | nil => cases q; exact absurd hy List.not_mem_nil
      | cons s r =>
        obtain ⟨w', p3, e2, q⟩ := b_inv q
        cases q
        have hy : (true, y, z) ∈ (false, s.2.1, p) :: (if s.2.2 = 0 then w'.1 else (false, s.2.2, p) :: w'.1) := hy
        have hy' : (true, y, z) ∈ w'.1 := by
          rcases List.mem_cons.mp hy with q | q
          · cases q
          · split at q
            · exact q
            · rcases List.mem_cons.mp q with q | q
              · cases q
              · exact q
        rcases ex_els e2 y z hy' with q | ⟨u, q1, q2⟩
        · exact .inl (by omega)
        · exact .inr ⟨u, List.mem_cons_of_mem _ q1, q2⟩
    rw [if_neg c11] at q
    by_cases c2 : 2 ≤ v.1 ∧ v.1 ≤ 4
    · rw [if_pos c2] at q
      rcases ex_els q y z hy with q | ⟨u, q1, q2, q3⟩
      · exact .inl (by omega)
      · rcases List.mem_cons.mp q1 with q | q
        · rw [q] at q2
          have q2 : p = y := q2
          exact .inl (by omega)
        · exact .inr ⟨u, q, q2, q3⟩
    rw [if_neg c2] at q
    by_cases c5 : v.1 = 5
    · rw [if_pos c5] at q
      cases st with
      | nil => cases q
      | cons s r =>
        have q : (if s.1 = 4 then _ else _) = _ := q
        by_cases s4 : s.1 = 4
        · rw [if_pos s4] at q
          obtain ⟨w', p3, e2, q⟩ := b_inv q
          cases q
          have hy : (true, y, z) ∈ (true, s.2.1, p) :: w'.1 := hy
          rcases List.mem_cons.mp hy with q | q
          · have qy : y = s.2.1 := by cases q; rfl
            exact .inr ⟨s, List.mem_cons_self, qy.symm, s4⟩
          · rcases ex_els e2 y z q with q | ⟨u, q1, q2, q3⟩
            · exact .inl (by omega)
            · rcases List.mem_cons.mp q1 with q | q
              · rw [q] at q3; exact absurd (show (5 : Nat) = 4 from q3) (by decide)
              · exact .inr ⟨u, List.mem_cons_of_mem _ q, q2, q3⟩
        · rw [if_neg s4] at q
          cases q
    rw [if_neg c5] at q
    obtain ⟨w', p3, e2, q⟩ := b_inv q
    cases q
    rcases ex_els e2 y z hy with q | q
    · exact .inl (by omega)
    · exact .inr q
/-- an if that comes to its END had no else -/
theorem wk_no {s s1 : tWk} {v : sp_I} {u : Nat × Nat × Nat} {r : tSt} (i1 : sp_in B n D s.1 = .inr (v, s1.1)) (c : v.1 = 11) (g1 : s.2.2.1 = u :: r) (h4 : u.1 = 4) (J : wkJ B n D EL s) : ∀ x, (true, u.2.1, x) ∉ EL := by
  intro x hx
  obtain ⟨u1, u2⟩ := sp_in_b i1
  obtain ⟨N, ww, e', q, j1, j2, j3⟩ := J
  rw [g1] at j1 j2 j3 q
  have ju := j1 u List.mem_cons_self
  have j2 : (u.2.1 :: r.map (fun u => u.2.1)).Nodup := j2
  rcases j3 _ _ hx with m | ⟨-, m⟩
  · cases N with
    | zero => cases q
    | succ N =>
      rw [sp_ex_n, i1] at q
      have q : (if v.1 = 11 then _ else _) = _ := q
      rw [if_pos c] at q
      obtain ⟨w', p3, e2, q⟩ := b_inv q
      cases q
      have m : (true, u.2.1, x) ∈ (false, u.2.1, s.1) :: (if u.2.2 = 0 then w'.1 else (false, u.2.2, s.1) :: w'.1) := m
      have m' : (true, u.2.1, x) ∈ w'.1 := by
        rcases List.mem_cons.mp m with q | q
        · cases q
        · split at q
          · exact q
          · rcases List.mem_cons.mp q with q | q
            · cases q
            · exact q
      rcases ex_els e2 _ _ m' with q | ⟨a, q1, q2, q3⟩
      · omega
      · exact (List.nodup_cons.mp j2).1 (List.mem_map.mpr ⟨a, q1, q2⟩)
  · exact m u List.mem_cons_self rfl h4
end IFF
