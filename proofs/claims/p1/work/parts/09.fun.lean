/-! WHAT THE TRANSLATED FUNCTIONS ARE MADE OF: checks, names, loops -/
theorem pm_if {α : Type} {c : Prop} [Decidable c] {x : Option α} {r : α} (h : (if c then x else none) = some r) : c ∧ x = some r := by
  by_cases q : c
  · rw [if_pos q] at h; exact ⟨q, h⟩
  · rw [if_neg q] at h; cases h
theorem pm_bd {α β : Type} {o : Option α} {k : α → Option β} {r : β} (h : o.bind k = some r) : ∃ v, o = some v ∧ k v = some r := by
  cases o with
  | none => cases h
  | some v => exact ⟨v, rfl, h⟩
def pm_let {α β : Type} (e : α) (k : α → β) : β := k e
theorem pm_lt {α β : Type} {e : α} {k : α → β} {r : β} (h : pm_let e k = r) : ∃ x, e = x ∧ k x = r := ⟨e, rfl, h⟩
/-- a loop: its step gives the next state, or the answer -/
def pm_iter {σ ρ : Type} (s : σ → Option (σ ⊕ ρ)) : Nat → σ → Option ρ
  | 0, _ => none
  | n + 1, x => (s x).bind fun y => match y with
    | .inl z => pm_iter s n z
    | .inr r => some r
theorem pm_iter_mono {σ ρ : Type} {s : σ → Option (σ ⊕ ρ)} : ∀ {n : Nat} {x : σ} {r : ρ}, pm_iter s n x = some r → ∀ k, pm_iter s (n + k) x = some r
  | 0, x, r, h, _ => by cases h
  | n + 1, x, r, h, k => by
    rw [Nat.add_right_comm]
    obtain ⟨y, hy, h⟩ := pm_bd h
    show (s x).bind _ = some r
    rw [hy]
    cases y with
    | inl z => exact pm_iter_mono (n := n) h k
    | inr q => exact h
theorem pm_iter_det {σ ρ : Type} {s : σ → Option (σ ⊕ ρ)} {n m : Nat} {x : σ} {r q : ρ} (h1 : pm_iter s n x = some r) (h2 : pm_iter s m x = some q) : r = q := by
  have a := pm_iter_mono h1 m
  have b := pm_iter_mono h2 n
  rw [Nat.add_comm] at b
  exact Option.some.inj (a.symm.trans b)
/-- what the loop comes to; none if it doesn't end -/
noncomputable def pm_lim {σ ρ : Type} (s : σ → Option (σ ⊕ ρ)) (x : σ) : Option ρ := by
  classical
  exact if h : ∃ n r, pm_iter s n x = some r then some h.choose_spec.choose else none
theorem pm_lim_of {σ ρ : Type} {s : σ → Option (σ ⊕ ρ)} {n : Nat} {x : σ} {r : ρ} (h : pm_iter s n x = some r) : pm_lim s x = some r := by
  have hx : ∃ n r, pm_iter s n x = some r := ⟨n, r, h⟩
  unfold pm_lim
  rw [dif_pos hx]
  exact congrArg some (pm_iter_det hx.choose_spec.choose_spec h)
theorem pm_lim_iter {σ ρ : Type} {s : σ → Option (σ ⊕ ρ)} {x : σ} {r : ρ} (h : pm_lim s x = some r) : ∃ n, pm_iter s n x = some r := by
  unfold pm_lim at h
  split at h
  · next hx =>
    cases h
    exact ⟨_, hx.choose_spec.choose_spec⟩
  · cases h
theorem pm_lim_r {σ ρ : Type} {s : σ → Option (σ ⊕ ρ)} {x : σ} {r : ρ} (h : s x = some (.inr r)) : pm_lim s x = some r := by
  refine pm_lim_of (n := 1) ?_
  show (s x).bind _ = some r
  rw [h]
  rfl
theorem pm_lim_l {σ ρ : Type} {s : σ → Option (σ ⊕ ρ)} {x y : σ} (h : s x = some (.inl y)) : pm_lim s x = pm_lim s y := by
  have hn : ∀ n, pm_iter s (n + 1) x = pm_iter s n y := fun n => by
    show (s x).bind _ = _
    rw [h]
    rfl
  cases hy : pm_lim s y with
  | some r =>
    obtain ⟨n, hi⟩ := pm_lim_iter hy
    exact pm_lim_of (n := n + 1) ((hn n).trans hi)
  | none =>
    cases hx : pm_lim s x with
    | none => rfl
    | some r =>
      obtain ⟨n, hi⟩ := pm_lim_iter hx
      cases n with
      | zero => cases hi
      | succ n =>
        have := pm_lim_of ((hn n).symm.trans hi)
        rw [hy] at this
        exact this.symm
theorem pm_lg_lt (x y : Int64) : lg_cmp x y < 0 ↔ x < y := by
  unfold lg_cmp
  by_cases h1 : y < x
  · rw [if_pos h1]
    constructor
    · intro h; exact absurd h (by decide)
    · intro h; exact absurd (Int64.lt_trans h h1) (Int64.lt_irrefl)
  · rw [if_neg h1]
    by_cases h2 : x = y
    · rw [if_pos h2]
      constructor
      · intro h; exact absurd h (by decide)
      · intro h; subst h2; exact absurd h (Int64.lt_irrefl)
    · rw [if_neg h2]
      constructor
      · intro _; exact Int64.lt_of_le_of_ne (Int64.not_lt.mp h1) h2
      · intro _; decide
theorem pm_lg_eq (x y : Int64) : lg_cmp x y = 0 ↔ x = y := by
  unfold lg_cmp
  by_cases h1 : y < x
  · rw [if_pos h1]
    constructor
    · intro h; exact absurd h (by decide)
    · intro h; subst h; exact absurd h1 (Int64.lt_irrefl)
  · rw [if_neg h1]
    by_cases h2 : x = y
    · rw [if_pos h2]; exact ⟨fun _ => h2, fun _ => rfl⟩
    · rw [if_neg h2]
      constructor
      · intro h; exact absurd h (by decide)
      · intro h; exact absurd h h2
theorem pm_lg_gt (x y : Int64) : 0 < lg_cmp x y ↔ y < x := by
  unfold lg_cmp
  by_cases h1 : y < x
  · rw [if_pos h1]; exact ⟨fun _ => h1, fun _ => by decide⟩
  · rw [if_neg h1]
    by_cases h2 : x = y
    · rw [if_pos h2]
      constructor
      · intro h; exact absurd h (by decide)
      · intro h; exact absurd h h1
    · rw [if_neg h2]
      constructor
      · intro h; exact absurd h (by decide)
      · intro h; exact absurd h h1
theorem pm_lg_le (x y : Int64) : lg_cmp x y ≤ 0 ↔ x ≤ y := by
  rw [← Int32.not_lt, ← Int64.not_lt]
  exact not_congr (pm_lg_gt x y)
theorem pm_lg_ge (x y : Int64) : 0 ≤ lg_cmp x y ↔ y ≤ x := by
  rw [← Int32.not_lt, ← Int64.not_lt]
  exact not_congr (pm_lg_lt x y)
theorem pm_lg_ne (x y : Int64) : ¬ lg_cmp x y = 0 ↔ ¬ x = y := not_congr (pm_lg_eq x y)
section PMF
variable {g : pm_Gm} {cc : ByteArray} {own : String} {pc : Nat} {lv : List (Nat × Value)} {st : List Value} {h : pm_H} {kc ks : Nat} {l : Launch} {G : pm_Gl} {M : pm_M} {mc ms : Nat} {Qr : Option Value → pm_H → Prop}
theorem pm_nl (X : pm_X g l G M mc ms Qr) {i : Nat} (q : i < M.2.2.1) : i < g.2.2.2.2.2.2.2.2.2.2.2.2 := by
  obtain ⟨p, l', e, R, s, m, args, below, meth, c', Q, G', nL⟩ := g
  obtain ⟨-, -, -, -, -, hnL⟩ := X
  rw [hnL]
  exact q
theorem pm_topI {x y : Int32} (q : x = y) (k : pm_G g pc lv (.int y :: st) h kc ks) : pm_G g pc lv (.int x :: st) h kc ks := by subst q; exact k
theorem pm_topL {x y : Int64} (q : x = y) (k : pm_G g pc lv (.long y :: st) h kc ks) : pm_G g pc lv (.long x :: st) h kc ks := by subst q; exact k
theorem pm_sub {lv' : List (Nat × Value)} (ks' : List Nat) (hk : lv_pick lv ks' = lv') (k : pm_G g pc lv' st h kc ks) : pm_G g pc lv st h kc ks := by
  obtain ⟨p, l', e, R, s, m, args, below, meth, c', Q, G', nL⟩ := g
  intro H locs ls hR hS hl
  refine k H locs ls hR hS (lv_sub hl ks' ?_)
  rw [← hk]
  unfold lv_pick pm_lv
  rw [List.map_filterMap]
  congr 1
  funext j
  rw [List.getElem?_map]
theorem pm_b01 {v : Int32} (q : v = 0 ∨ v = 1) : narrow .boolean (.int v) = .int v ∧ fits .boolean (.int v) = true := by
  rcases q with rfl | rfl <;> exact ⟨by decide, by decide⟩
end PMF
theorem pm_it {α : Type} {c : Prop} [Decidable c] {x y r : α} (h : (if c then x else y) = r) (q : c) : x = r := by rw [if_pos q] at h; exact h
theorem pm_ie {α : Type} {c : Prop} [Decidable c] {x y r : α} (h : (if c then x else y) = r) (q : ¬ c) : y = r := by rw [if_neg q] at h; exact h
def pm_nx {σ ρ : Type} (s : σ → Option (σ ⊕ ρ)) (n : Nat) (y : σ ⊕ ρ) : Option ρ := match y with
  | .inl z => pm_iter s n z
  | .inr r => some r
theorem pm_iter_s {σ ρ : Type} {s : σ → Option (σ ⊕ ρ)} {n : Nat} {x : σ} {r : ρ} (h : pm_iter s (n + 1) x = some r) : ∃ y, s x = some y ∧ pm_nx s n y = some r := by
  obtain ⟨y, h1, h2⟩ := pm_bd h
  exact ⟨y, h1, by cases y <;> exact h2⟩
theorem pm_aret {g : pm_Gm} {cc : ByteArray} {own : String} {pc : Nat} {lv : List (Nat × Value)} {h : pm_H} {kc ks : Nat} {l : Launch} {G : pm_Gl} {M : pm_M} {mc ms : Nat} {Qr : Option Value → pm_H → Prop} (C : pm_C g cc own) (X : pm_X g l G M mc ms Qr) {v : Nat} {rt : FieldType} (hd : decode cc pc = .ok (.areturn, 1)) (hM : M.2.2.2.1 = some rt) (hn : (∃ n, rt = .object n) ∨ ∃ t, rt = .array t) (h1 : kc ≤ mc) (h2 : ks ≤ ms) (q : Qr (some (.ref v)) h) : pm_G g pc lv [.ref v] h kc ks := by
  obtain ⟨p, l', e, R, s, m, args, below, meth, c, Q, G', nL⟩ := g
  obtain ⟨hx, hb, hts, hown, hml, hlocks, hK, hbs, hN⟩ := C
  obtain ⟨rfl, rfl, rfl, hr, hRm, hnL⟩ := X
  intro H locs ls hR hS hl
  refine W.widen h1 h2 ?_
  exact W.aret hx hb (hr.trans hM) hn (Or.inr ⟨_, rfl⟩) (fun t ht _ => ⟨⟨some (.ref v), h, rfl, q, by rw [ht]; exact hR⟩, hS.F ht⟩) hS.2.2 hd
abbrev pm_in (i : Int32) (n : Nat) : Prop := ¬ (i < 0 ∨ n ≤ i.toNatClampNeg)
