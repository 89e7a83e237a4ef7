/-! FLATTENED CODE: an if, its else or its END -/
section IFF
variable {B : Nat → Nat} {n t : Nat} {D : Bool} {M : tMd} {Dc : Nat → Bool} {lt : Nat → Option Nat} {EL : List (Bool × Nat × Nat)} {F : List tRw} {e : Nat} {W : List tWk}
/-- what will yet be told of elses, and what was told -/
def wkJ (B : Nat → Nat) (n : Nat) (D : Bool) (EL : List (Bool × Nat × Nat)) (s : tWk) : Prop := ∃ N w e', sp_ex B n D true N s.2.2.1 s.1 = .inr (w, e') ∧ (∀ u, u ∈ s.2.2.1 → u.2.1 < s.1) ∧ (s.2.2.1.map (fun u => u.2.1)).Nodup ∧ ∀ y x, (true, y, x) ∈ EL → (true, y, x) ∈ w.1 ∨ (y < s.1 ∧ ∀ u, u ∈ s.2.2.1 → u.2.1 = y → u.1 ≠ 4)
theorem wk_j {s s1 : tWk} (w : wkS B n D M Dc lt EL s s1) (h0 : s1.2.1.2.1.length ≠ 0) (J : wkJ B n D EL s) : wkJ B n D EL s1 := by
  obtain ⟨v, i1, o⟩ := wk_s w
  obtain ⟨u1, u2⟩ := sp_in_b i1
  obtain ⟨N, ww, e', x, j1, j2, j3⟩ := J
  cases N with
  | zero => cases x
  | succ N =>
  rw [sp_ex_n, i1] at x
  have x : (if v.1 = 11 then _ else _) = _ := x
  rcases o with ⟨c, e1, e2, e3⟩ | ⟨c, ⟨k, e1, ek⟩, e2, a, e3⟩ | ⟨c, ⟨k, ks, e1, ek, eV, e2, e3⟩, u, r, a, As', f1, f2, f3, f4, f5, f6⟩ | ⟨c, c', ⟨e1, e2⟩, e3, e4⟩
  · rcases e3 with ⟨g1, g2, g3⟩ | ⟨u, g1, g2, g3⟩
    · exact absurd g3 h0
    rw [if_pos c, g1] at x
    obtain ⟨w', p3, x1, x2⟩ := b_inv x
    cases x2
    rw [g1] at j1 j2 j3
    have j2 : (u.2.1 :: s1.2.2.1.map (fun u => u.2.1)).Nodup := j2
    refine ⟨N, w', e', x1, fun a ha => by have := j1 a (List.mem_cons_of_mem _ ha); omega, (List.nodup_cons.mp j2).2, fun y x hy => ?_⟩
    rcases j3 y x hy with q | ⟨q1, q2⟩
    · have q : (true, y, x) ∈ (false, u.2.1, s.1) :: (if u.2.2 = 0 then w'.1 else (false, u.2.2, s.1) :: w'.1) := q
      rcases List.mem_cons.mp q with q | q
      · cases q
      · split at q
        · exact .inl q
        · rcases List.mem_cons.mp q with q | q
          · cases q
          · exact .inl q
    · exact .inr ⟨by omega, fun a ha => q2 a (List.mem_cons_of_mem _ ha)⟩
  · have n11 : ¬ v.1 = 11 := by omega
    rw [if_neg n11, if_pos c] at x
    refine ⟨N, ww, e', by rw [e2]; exact x, fun a ha => ?_, ?_, fun y x hy => ?_⟩
    · rw [e2] at ha
      rcases List.mem_cons.mp ha with q | q
      · rw [q]; exact u1
      · have := j1 a q; omega
    · rw [e2]
      refine List.nodup_cons.mpr ⟨fun m => ?_, j2⟩
      obtain ⟨a, ha, hb⟩ := List.mem_map.mp m
      have h1 := j1 a ha
      have hb : a.2.1 = s.1 := hb
      omega
    · rcases j3 y x hy with q | ⟨q1, q2⟩
      · exact .inl q
      · refine .inr ⟨by omega, fun a ha hb => ?_⟩
        rw [e2] at ha
        rcases List.mem_cons.mp ha with q | q
        · rw [q] at hb
          have hb : s.1 = y := hb
          omega
        · exact q2 a q hb
  · have n11 : ¬ v.1 = 11 := by omega
    have n2 : ¬ (2 ≤ v.1 ∧ v.1 ≤ 4) := by omega
    rw [if_neg n11, if_neg n2, if_pos c, f1] at x
    have x : (if u.1 = 4 then _ else _) = _ := x
    rw [if_pos f2] at x
    obtain ⟨w', p3, x1, x2⟩ := b_inv x
    cases x2
    rw [f1] at j1 j2 j3
    have j2 : (u.2.1 :: r.map (fun u => u.2.1)).Nodup := j2
    have ju := j1 u List.mem_cons_self
    refine ⟨N, w', e', by rw [f3]; exact x1, fun a ha => ?_, by rw [f3]; exact j2, fun y x hy => ?_⟩
    · rw [f3] at ha
      rcases List.mem_cons.mp ha with q | q
      · rw [q]; show u.2.1 < _; omega
      · have := j1 a (List.mem_cons_of_mem _ q); omega
    · rw [f3]
      have five : ∀ {a : Nat × Nat × Nat}, a = (5, u.2.1, s.1) → a.1 ≠ 4 := fun {a} q => by rw [q]; show (5 : Nat) ≠ 4; decide
      rcases j3 y x hy with q | ⟨q1, q2⟩
      · have q : (true, y, x) ∈ (true, u.2.1, s.1) :: w'.1 := q
        rcases List.mem_cons.mp q with q | q
        · have qy : y = u.2.1 := by cases q; rfl
          refine .inr ⟨by omega, fun a ha hb => ?_⟩
          rcases List.mem_cons.mp ha with q | q
          · exact five q
          · exact absurd (List.mem_map.mpr ⟨a, q, hb.trans qy⟩) (List.nodup_cons.mp j2).1
        · exact .inl q
      · refine .inr ⟨by omega, fun a ha hb => ?_⟩
        rcases List.mem_cons.mp ha with q | q
        · exact five q
        · exact q2 a (List.mem_cons_of_mem _ q) hb
  · have n2 : ¬ (2 ≤ v.1 ∧ v.1 ≤ 4) := by omega
    have n5 : ¬ v.1 = 5 := by omega
    rw [if_neg c', if_neg n2, if_neg n5] at x
    obtain ⟨w', p3, x1, x2⟩ := b_inv x
    cases x2
    refine ⟨N, w', e', by rw [e3]; exact x1, fun a ha => ?_, by rw [e3]; exact j2, fun y x hy => ?_⟩
    · rw [e3] at ha; have := j1 a ha; omega
    · rw [e3]
      rcases j3 y x hy with q | ⟨q1, q2⟩
      · exact .inl q
      · exact .inr ⟨by omega, q2⟩
/-- an else comes only for an if that stands open or comes later -/
theorem ex_els : ∀ {N p : Nat} {st : tSt} {w : tWr} {e' : Nat}, sp_ex B n D true N st p = .inr (w, e') → ∀ y x, (true, y, x) ∈ w.1 → p ≤ y ∨ ∃ u, u ∈ st ∧ u.2.1 = y ∧ u.1 = 4
  | 0, p, st, w, e', q => by cases q
  | N + 1, p, st, w, e', q => by
    intro y z hy
    rw [sp_ex_n] at q
    obtain ⟨v, p2, i1, q⟩ := b_inv q
    obtain ⟨u1, u2⟩ := sp_in_b i1
    by_cases c11 : v.1 = 11
    · rw [if_pos c11] at q
      cases st with
      | nil => cases q; exact absurd hy List.not_mem_nil
      | cons s r =>
        obtain ⟨w', p3, e2, q⟩ := b_inv q
        cases q
        have hy : (true, y, z) ∈ (false, s.2.1, p) :: (if s.2.2 = 0 then w'.1 else (false, s.2.2, p) :: w'.1) := hy
        have hy' : (true, y, z) ∈ w'.1 := by
          rcases List.mem_cons.mp hy with q | q
          · cases q
          · split at q
            · exact q
            · rcases List.mem_cons.mp q with q | q
              · cases q
              · exact q
        rcases ex_els e2 y z hy' with q | ⟨u, q1, q2⟩
        · exact .inl (by omega)
        · exact .inr ⟨u, List.mem_cons_of_mem _ q1, q2⟩
    rw [if_neg c11] at q
    by_cases c2 : 2 ≤ v.1 ∧ v.1 ≤ 4
    · rw [if_pos c2] at q
      rcases ex_els q y z hy with q | ⟨u, q1, q2, q3⟩
      · exact .inl (by omega)
      · rcases List.mem_cons.mp q1 with q | q
        · rw [q] at q2
          have q2 : p = y := q2
          exact .inl (by omega)
        · exact .inr ⟨u, q, q2, q3⟩
    rw [if_neg c2] at q
    by_cases c5 : v.1 = 5
    · rw [if_pos c5] at q
      cases st with
      | nil => cases q
      | cons s r =>
        have q : (if s.1 = 4 then _ else _) = _ := q
        by_cases s4 : s.1 = 4
        · rw [if_pos s4] at q
          obtain ⟨w', p3, e2, q⟩ := b_inv q
          cases q
          have hy : (true, y, z) ∈ (true, s.2.1, p) :: w'.1 := hy
          rcases List.mem_cons.mp hy with q | q
          · have qy : y = s.2.1 := by cases q; rfl
            exact .inr ⟨s, List.mem_cons_self, qy.symm, s4⟩
          · rcases ex_els e2 y z q with q | ⟨u, q1, q2, q3⟩
            · exact .inl (by omega)
            · rcases List.mem_cons.mp q1 with q | q
              · rw [q] at q3; exact absurd (show (5 : Nat) = 4 from q3) (by decide)
              · exact .inr ⟨u, List.mem_cons_of_mem _ q, q2, q3⟩
        · rw [if_neg s4] at q
          cases q
    rw [if_neg c5] at q
    obtain ⟨w', p3, e2, q⟩ := b_inv q
    cases q
    rcases ex_els e2 y z hy with q | q
    · exact .inl (by omega)
    · exact .inr q
/-- an if that comes to its END had no else -/
theorem wk_no {s s1 : tWk} {v : sp_I} {u : Nat × Nat × Nat} {r : tSt} (i1 : sp_in B n D s.1 = .inr (v, s1.1)) (c : v.1 = 11) (g1 : s.2.2.1 = u :: r) (h4 : u.1 = 4) (J : wkJ B n D EL s) : ∀ x, (true, u.2.1, x) ∉ EL := by
  intro x hx
  obtain ⟨u1, u2⟩ := sp_in_b i1
  obtain ⟨N, ww, e', q, j1, j2, j3⟩ := J
  rw [g1] at j1 j2 j3 q
  have ju := j1 u List.mem_cons_self
  have j2 : (u.2.1 :: r.map (fun u => u.2.1)).Nodup := j2
  rcases j3 _ _ hx with m | ⟨-, m⟩
  · cases N with
    | zero => cases q
    | succ N =>
      rw [sp_ex_n, i1] at q
      have q : (if v.1 = 11 then _ else _) = _ := q
      rw [if_pos c] at q
      obtain ⟨w', p3, e2, q⟩ := b_inv q
      cases q
      have m : (true, u.2.1, x) ∈ (false, u.2.1, s.1) :: (if u.2.2 = 0 then w'.1 else (false, u.2.2, s.1) :: w'.1) := m
      have m' : (true, u.2.1, x) ∈ w'.1 := by
        rcases List.mem_cons.mp m with q | q
        · cases q
        · split at q
          · exact q
          · rcases List.mem_cons.mp q with q | q
            · cases q
            · exact q
      rcases ex_els e2 _ _ m' with q | ⟨a, q1, q2, q3⟩
      · omega
      · exact (List.nodup_cons.mp j2).1 (List.mem_map.mpr ⟨a, q1, q2⟩)
  · exact m u List.mem_cons_self rfl h4
end IFF
