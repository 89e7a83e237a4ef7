/-! WHAT A MODULE THAT WAS READ KEEPS: places, imports without limits, as many bodies as functions -/
def gI2 (a : tImp) : Prop := a.1 ≠ 1 → a.1 ≠ 2 → a.2.2.1 = 0 ∧ a.2.2.2.1 = -1
def gIv (n : Nat) (M : tMd) : Prop := (∀ a, a ∈ M.2.1 → gI2 a) ∧ (∀ i x, M.2.2.2.2.2.2.2.2.2.2.2.2.1 i = some x → x < n) ∧ (∀ x, M.2.2.2.2.2.2.2.2.2.2.2.2.2 = some x → x < n)
section GINV
variable {B : Nat → Nat} {n e : Nat} {d D : Bool} {M M2 : tMd}
theorem imp_2 (p : Nat) : sA gI2 (sp_imp B e p) := by
  unfold sp_imp
  refine sA_c fun _ p1 _ => sA_c fun _ p2 _ => sA_c fun c p3 e3 => ?_
  have hc : c ≤ 3 := of_decide_eq_true (byte_v e3)
  refine sA_i (fun z => sA_c fun t p4 e4 => sA_r ?_) (fun z0 => sA_i (fun z => sA_c fun t p4 e4 => sA_c fun g p5 e5 => sA_r ?_) (fun z3 => sA_i (fun z => sA_c fun t p4 e4 => sA_c fun l p5 e5 => sA_r ?_) (fun z1 => sA_c fun l p5 e5 => sA_r ?_)))
  · exact fun _ _ => ⟨rfl, rfl⟩
  · exact fun _ _ => ⟨rfl, rfl⟩
  · exact fun y _ => absurd z y
  · exact fun _ y => absurd (show c = 2 by omega) y
theorem liM_ln {o : Option Nat} {pl : Nat} {b : Bool} (ho : ∀ x, o = some x → x < n) (hp : pl < n) : ∀ x, liM o pl b = some x → x < n := fun x h => by
  unfold liM at h
  split at h
  · cases o with
    | none => cases h; exact hp
    | some y => exact ho x h
  · exact ho x h
theorem gIv_sec {id pl p p3 : Nat} (hp : pl < n) (h : gIv n M) (q : sp_sec B e d id pl M p = .inr (M2, p3)) : gIv n M2 := by
  obtain ⟨h1, h2, h3⟩ := h
  unfold sp_sec at q
  by_cases c0 : id = 0
  · rw [if_pos c0] at q
    obtain ⟨l, p1, e1, e2⟩ := b_inv q
    cases e2
    exact ⟨h1, h2, h3⟩
  rw [if_neg c0] at q
  by_cases c1 : id = 1
  · rw [if_pos c1] at q
    obtain ⟨l, p1, e1, e2⟩ := b_inv q
    cases e2
    exact ⟨h1, h2, liM_ln h3 hp⟩
  rw [if_neg c1] at q
  by_cases c2 : id = 2
  · rw [if_pos c2] at q
    obtain ⟨l, p1, e1, e2⟩ := b_inv q
    cases e2
    unfold sp_impS at e1
    obtain ⟨c, p2, e3, e4⟩ := b_inv e1
    exact ⟨sA_rows (fun p => imp_2 p) c p2 l p3 e4, h2, liM_ln h3 hp⟩
  rw [if_neg c2] at q
  by_cases c3 : id = 3
  · rw [if_pos c3] at q
    obtain ⟨l, p1, e1, e2⟩ := b_inv q
    cases e2
    exact ⟨h1, h2, liM_ln h3 hp⟩
  rw [if_neg c3] at q
  by_cases c4 : id = 4
  · rw [if_pos c4] at q
    obtain ⟨l, p1, e1, e2⟩ := b_inv q
    cases e2
    exact ⟨h1, h2, liM_ln h3 hp⟩
  rw [if_neg c4] at q
  by_cases c5 : id = 5
  · rw [if_pos c5] at q
    obtain ⟨l, p1, e1, e2⟩ := b_inv q
    cases e2
    exact ⟨h1, h2, liM_ln h3 hp⟩
  rw [if_neg c5] at q
  by_cases c6 : id = 6
  · rw [if_pos c6] at q
    obtain ⟨l, p1, e1, e2⟩ := b_inv q
    cases e2
    exact ⟨h1, h2, liM_ln h3 hp⟩
  rw [if_neg c6] at q
  by_cases c7 : id = 7
  · rw [if_pos c7] at q
    obtain ⟨l, p1, e1, e2⟩ := b_inv q
    cases e2
    exact ⟨h1, h2, liM_ln h3 hp⟩
  rw [if_neg c7] at q
  by_cases c8 : id = 8
  · rw [if_pos c8] at q
    obtain ⟨l, p1, e1, e2⟩ := b_inv q
    cases e2
    exact ⟨h1, h2, h3⟩
  rw [if_neg c8] at q
  by_cases c9 : id = 9
  · rw [if_pos c9] at q
    obtain ⟨l, p1, e1, e2⟩ := b_inv q
    cases e2
    exact ⟨h1, h2, liM_ln h3 hp⟩
  rw [if_neg c9] at q
  by_cases c10 : id = 10
  · rw [if_pos c10] at q
    obtain ⟨l, p1, e1, e2⟩ := b_inv q
    cases e2
    exact ⟨h1, h2, liM_ln h3 hp⟩
  rw [if_neg c10] at q
  by_cases c11 : id = 11
  · rw [if_pos c11] at q
    obtain ⟨l, p1, e1, e2⟩ := b_inv q
    cases e2
    exact ⟨h1, h2, liM_ln h3 hp⟩
  rw [if_neg c11] at q
  obtain ⟨l, p1, e1, e2⟩ := b_inv q
  cases e2
  exact ⟨h1, h2, h3⟩
theorem gIv_secs : ∀ (N last : Nat) (M : tMd) (p : Nat) (M2 : tMd) (p2 : Nat), gIv n M → sp_secs B n N last M p = .inr (M2, p2) → gIv n M2 ∧ M2.2.2.1.length = M2.2.2.2.2.2.2.2.2.2.1.length := by
  intro N
  induction N with
  | zero => intro last M p M2 p2 h q; cases q
  | succ N ih =>
    intro last M p M2 p2 h q
    unfold sp_secs at q
    by_cases c : n ≤ p
    · rw [if_pos c] at q
      split at q
      · next c2 =>
        split at q
        · cases q; exact ⟨h, c2⟩
        · cases q
      · cases q
    · rw [if_neg c] at q
      obtain ⟨id, p1, e1, e2⟩ := b_inv q
      by_cases c6 : 12 < id ∨ (0 < id ∧ rk id ≤ last)
      · rw [if_pos c6] at e2; cases e2
      rw [if_neg c6] at e2
      obtain ⟨sz, p3, e3, e4⟩ := b_inv e2
      by_cases cs : n < p3 + sz
      · rw [if_pos cs] at e4; cases e4
      rw [if_neg cs] at e4
      obtain ⟨M3, p4, e5, e6⟩ := b_inv e4
      by_cases c3 : p4 < p3 + sz
      · rw [if_pos c3] at e6; cases e6
      rw [if_neg c3] at e6
      obtain ⟨h1, h2, h3⟩ := h
      refine ih _ M3 p4 M2 p2 (gIv_sec (by omega) (M := (M.1, M.2.1, M.2.2.1, M.2.2.2.1, M.2.2.2.2.1, M.2.2.2.2.2.1, M.2.2.2.2.2.2.1, M.2.2.2.2.2.2.2.1, M.2.2.2.2.2.2.2.2.1, M.2.2.2.2.2.2.2.2.2.1, M.2.2.2.2.2.2.2.2.2.2.1, M.2.2.2.2.2.2.2.2.2.2.2.1, (fun i => if id ≠ 0 ∧ i = id then some p else M.2.2.2.2.2.2.2.2.2.2.2.2.1 i), M.2.2.2.2.2.2.2.2.2.2.2.2.2)) ⟨h1, ?_, h3⟩ e5) e6
      intro i x hx
      have hx : (if id ≠ 0 ∧ i = id then some p else M.2.2.2.2.2.2.2.2.2.2.2.2.1 i) = some x := hx
      split at hx
      · cases hx; omega
      · exact h2 i x hx
theorem gIv_all {p2 : Nat} (q : sp_all B n = .inr (M2, p2)) : gIv n M2 ∧ M2.2.2.1.length = M2.2.2.2.2.2.2.2.2.2.1.length := by
  unfold sp_all at q
  rw [mg_k] at q
  obtain ⟨u, p, e1, e2⟩ := b_inv q
  exact gIv_secs (n + 1) 0 M0 p M2 p2 ⟨fun a h => absurd h List.not_mem_nil, fun i x (h : (none : Option Nat) = some x) => (nomatch h), fun x (h : (none : Option Nat) = some x) => (nomatch h)⟩ e2
theorem gI2_l {a : tImp} (g : gI2 a) (h1 : a.1 ≠ 1) (h2 : a.1 ≠ 2) : lmB a.2.2.1 a.2.2.2.1 false = false := by
  obtain ⟨e1, e2⟩ := g h1 h2
  rw [e1, e2]
  decide
theorem gdS_8 (g : gdS M) : (M.2.2.2.2.2.2.2.2.2.2.2.2.1 8).isSome = M.2.2.2.2.2.2.2.2.2.2.1.isSome := by
  obtain ⟨g, -⟩ := g
  cases a : M.2.2.2.2.2.2.2.2.2.2.2.2.1 8 <;> cases b : M.2.2.2.2.2.2.2.2.2.2.1 <;> rw [a, b] at g <;> first | rfl | cases g
end GINV
