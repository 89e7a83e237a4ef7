/-! PART I: expressions without heaps: what they write, and whether a limit is exceeded -/
def sp_up {α : Type} (o : sp_O α) (p e : Nat) : Prop := ∀ v p', o = .inr (v, p') → p ≤ p' ∧ p' ≤ e
theorem up_b {α β : Type} {o : sp_O α} {k : α → Nat → sp_O β} {p e : Nat} (u : sp_up o p e) (uk : ∀ v p1, p ≤ p1 → p1 ≤ e → sp_up (k v p1) p1 e) : sp_up (sp_b o k) p e := by
  intro v p' q
  cases o with
  | inl w => cases q
  | inr x =>
    obtain ⟨a, b⟩ := u x.1 x.2 rfl
    obtain ⟨c, d⟩ := uk x.1 x.2 a b v p' q
    exact ⟨by omega, d⟩
theorem up_r {α : Type} {v : α} {p e : Nat} (h : p ≤ e) : sp_up (.inr (v, p) : sp_O α) p e := fun v' p' q => by cases q; exact ⟨Nat.le_refl _, h⟩
theorem up_l {α : Type} {w : Nat × Nat} {p e : Nat} : sp_up (.inl w : sp_O α) p e := fun v' p' q => by cases q
theorem up_i {α : Type} {c : Prop} {i : Decidable c} {a b : sp_O α} {p e : Nat} (u : sp_up a p e) (v : sp_up b p e) : sp_up (@ite _ c i a b) p e := by
  by_cases h : c
  · rw [if_pos h]; exact u
  · rw [if_neg h]; exact v
theorem up_num {B : Nat → Nat} {p e : Nat} (h : p ≤ e) : sp_up (sp_num B e p) p e := fun v p' q => by have := sp_num_b h q; omega
theorem up_byte {ok : Nat → Bool} {w : Nat} {B : Nat → Nat} {p e : Nat} (h : p ≤ e) : sp_up (sp_byte ok w B e p) p e := fun v p' q => by have := sp_byte_b h q; omega
theorem up_sig {B : Nat → Nat} {p e bits : Nat} (h : p ≤ e) : sp_up (sp_sig B e bits p) p e := fun v p' q => by have := sp_sig_b h q; omega
theorem up_next {B : Nat → Nat} {p e : Nat} : sp_up (sp_next B e p) p e := fun v p' q => by have := sp_next_b q; omega
theorem up_nums {B : Nat → Nat} {e : Nat} : ∀ (j p : Nat), p ≤ e → sp_up (sp_nums B e j p) p e
  | 0, p, h => up_r h
  | j + 1, p, h => up_b (up_num h) fun _ p1 _ h1 => up_nums j p1 h1
theorem up_tys {B : Nat → Nat} {e : Nat} : ∀ (j t p : Nat), p ≤ e → sp_up (sp_tys B e j t p) p e
  | 0, t, p, h => up_r h
  | j + 1, t, p, h => up_b (up_byte h) fun c p1 _ h1 => up_tys j c p1 h1
theorem up_les {B : Nat → Nat} {e : Nat} : ∀ (j i v p : Nat), p ≤ e → sp_up (sp_les B e j i v p) p e
  | 0, i, v, p, h => up_r h
  | j + 1, i, v, p, h => up_b up_next fun c p1 _ h1 => up_les j (i + 1) _ p1 h1
theorem up_fur {B : Nat → Nat} {e : Nat} {d : Bool} {p0 p : Nat} (h : p ≤ e) : sp_up (sp_fur B e d p0 p) p e := by
  unfold sp_fur
  exact up_b (up_num h) fun k p1 _ h1 => up_i up_l (up_i up_l (up_i (up_r h1) (up_i (up_b (up_num h1) fun x p2 _ h2 => up_b (up_byte h2) fun _ p3 _ h3 => up_r h3) (up_i (up_b (up_byte h1) fun x p2 _ h2 => up_b (up_byte h2) fun _ p3 _ h3 => up_r h3) (up_i (up_b (up_byte h1) fun x p2 _ h2 => up_r h2) (up_i (up_b (up_num h1) fun x p2 _ h2 => up_b (up_num h2) fun _ p3 _ h3 => up_r h3) (up_b (up_num h1) fun x p2 _ h2 => up_r h2)))))))
theorem up_ops {B : Nat → Nat} {e : Nat} {d : Bool} {op p0 p : Nat} (h : p ≤ e) : sp_up (sp_ops B e d op p0 p) p e := by
  unfold sp_ops
  exact up_i (up_r h) (up_i (up_b (up_num h) fun x p1 _ h1 => up_r h1) (up_i (up_b (up_num h) fun x p1 _ h1 => up_b (up_num h1) fun y p2 _ h2 => up_r h2) (up_i (up_b (up_num h) fun x p1 _ h1 => up_b (up_nums _ _ h1) fun y p2 _ h2 => up_r h2) (up_i (up_b (up_num h) fun x p1 _ h1 => up_b (up_tys _ _ _ h1) fun y p2 _ h2 => up_r h2) (up_i (up_b (up_byte h) fun x p1 _ h1 => up_r h1) (up_i (up_b (up_sig h) fun x p1 _ h1 => up_r h1) (up_i (up_b (up_sig h) fun x p1 _ h1 => up_r h1) (up_i (up_b (up_les _ _ _ _ h) fun x p1 _ h1 => up_r h1) (up_i (up_b (up_les _ _ _ _ h) fun x p1 _ h1 => up_r h1) (up_i (up_b (up_byte h) fun x p1 _ h1 => up_r h1) (up_i (up_fur h) up_l)))))))))))
theorem up_blk {B : Nat → Nat} {e p : Nat} (h : p ≤ e) : sp_up (sp_blk B e p) p e := by
  unfold sp_blk
  split
  · next z => exact fun v p' q => by cases q; omega
  · refine up_b (up_sig h) fun t p1 _ h1 => ?_
    split
    · exact up_r h1
    · exact up_l
/-- blocks that stand open: what began each, where, and where its else is (0: there is none) -/
abbrev tSt : Type := List (Nat × Nat × Nat)
/-- what an expression writes: false an end, true an else; at, the place -/
abbrev tWr : Type := List (Bool × Nat × Nat) × Bool
def sp_ex (B : Nat → Nat) (e : Nat) (d ob : Bool) : Nat → tSt → Nat → sp_O tWr
  | 0, _, _ => .inl (0, 0)
  | N + 1, st, p => if p < e then (if B p = 11 then (match st with
      | [] => .inr (([], false), p + 1)
      | s :: r => sp_b (sp_ex B e d ob N r (p + 1)) fun v p2 => .inr (((false, s.2.1, p) :: (if s.2.2 = 0 then v.1 else (false, s.2.2, p) :: v.1), v.2), p2))
    else if 2 ≤ B p ∧ B p ≤ 4 then sp_b (sp_blk B e (p + 1)) fun _ p2 => sp_ex B e d ob N ((B p, p, 0) :: st) p2
    else if B p = 5 then (match st with
      | [] => .inl (10, p)
      | s :: r => if s.1 = 4 then sp_b (sp_ex B e d ob N ((5, s.2.1, p) :: r) (p + 1)) fun v p2 => .inr (((true, s.2.1, p) :: v.1, v.2), p2) else .inl (10, p))
    else sp_b (sp_ops B e d (B p) p (p + 1)) fun v p2 => sp_b (sp_ex B e d ob N st p2) fun w p3 => .inr ((w.1, (v.2.2.2 && ob) || w.2), p3)) else .inl (1, e)
/-- each was begun behind the one around it -/
def sSt : tSt → Nat → Prop
  | [], _ => True
  | s :: r, p => s.2.1 < p ∧ s.2.2 < p ∧ (s.2.2 = 0 ∨ s.2.1 < s.2.2) ∧ s.1 < 256 ∧ sSt r s.2.1
theorem sSt_m : ∀ {st : tSt} {p p' : Nat}, sSt st p → p ≤ p' → sSt st p'
  | [], _, _, _, _ => trivial
  | s :: r, p, p', h, hp => ⟨by have := h.1; omega, by have := h.2.1; omega, h.2.2.1, h.2.2.2⟩
/-- the heap has them -/
def hSt (h : pm_H) (el : Nat) : tSt → Prop
  | [] => True
  | s :: r => pm_I h 596 (r.length + 1) = Int32.ofNat s.1 ∧ pm_I h 597 (r.length + 1) = Int32.ofNat s.2.1 ∧ pm_I h el s.2.1 = Int32.ofNat s.2.2 ∧ hSt h el r
theorem hSt_k {h h' : pm_H} {el : Nat} : ∀ {st : tSt} {p : Nat}, hSt h el st → sSt st p → (∀ y, y ≤ st.length → pm_I h' 596 y = pm_I h 596 y) → (∀ y, y ≤ st.length → pm_I h' 597 y = pm_I h 597 y) → (∀ y, y < p → pm_I h' el y = pm_I h el y) → hSt h' el st
  | [], _, _, _, _, _, _ => trivial
  | s :: r, p, q, z, a, b, c => by
    refine ⟨(a _ (Nat.le_refl _)).trans q.1, (b _ (Nat.le_refl _)).trans q.2.1, (c _ z.1).trans q.2.2.1, ?_⟩
    exact hSt_k q.2.2.2 z.2.2.2.2 (fun y hy => a y (by have : (s :: r).length = r.length + 1 := rfl; omega)) (fun y hy => b y (by have : (s :: r).length = r.length + 1 := rfl; omega)) (fun y hy => c y (by have := z.1; omega))
/-- the places that belong to open blocks -/
def inSt (st : tSt) (y : Nat) : Prop := ∃ s, s ∈ st ∧ (y = s.2.1 ∨ (y = s.2.2 ∧ s.2.2 ≠ 0))
theorem inSt_lt : ∀ {st : tSt} {p y : Nat}, sSt st p → inSt st y → y < p
  | [], _, _, _, h => by obtain ⟨s, m, _⟩ := h; cases m
  | s :: r, p, y, z, h => by
    obtain ⟨t, m, q⟩ := h
    rcases List.mem_cons.mp m with e | m
    · rw [e] at q
      have := z.1; have := z.2.1
      rcases q with q | q <;> omega
    · have := inSt_lt z.2.2.2.2 ⟨t, m, q⟩
      have := z.1
      omega
/-- what is told of the heap behind an expression -/
def pEx (h h' : pm_H) (m eo el p p' : Nat) (st : tSt) (v : tWr) : Prop := (∀ w, w ∈ v.1 → w.2.1 < p' ∧ (p ≤ w.2.1 ∨ inSt st w.2.1)) ∧ (∀ y x, (true, y, x) ∈ v.1 → p ≤ y ∨ ∃ s, s ∈ st ∧ s.1 = 4 ∧ y = s.2.1) ∧ (∀ y, (∀ x, (false, y, x) ∉ v.1) → pm_I h' eo y = pm_I h eo y) ∧ (∀ y, (∀ x, (true, y, x) ∉ v.1) → pm_I h' el y = pm_I h el y) ∧ (∀ y x, (false, y, x) ∈ v.1 → pm_I h' eo y = Int32.ofNat x) ∧ (∀ y x, (true, y, x) ∈ v.1 → pm_I h' el y = Int32.ofNat x) ∧ pm_I h' m 3 = xv (pm_I h m 3) (pm_I h 592 13) v.2 ∧ pm_I h' 592 13 = pm_I h 592 13
