/-! PART I, as the document says it: functions of the bytes B (each below 256) up to the place e. A fault with its place, or what was read and the place behind it -/
abbrev sp_O (α : Type) : Type := (Nat × Nat) ⊕ (α × Nat)
def sp_b {α β : Type} (x : sp_O α) (k : α → Nat → sp_O β) : sp_O β := match x with
  | .inl f => .inl f
  | .inr v => k v.1 v.2
theorem sp_bl {α β : Type} (f : Nat × Nat) (k : α → Nat → sp_O β) : sp_b (.inl f) k = .inl f := rfl
theorem sp_br {α β : Type} (v : α) (p : Nat) (k : α → Nat → sp_O β) : sp_b (.inr (v, p)) k = k v p := rfl
def sp_next (B : Nat → Nat) (e p : Nat) : sp_O Nat := if p < e then .inr (B p, p + 1) else .inl (1, e)
/-- a number without sign, its k-th byte next, N of them at most -/
def sp_nu (B : Nat → Nat) (e : Nat) : Nat → Nat → Nat → Nat → sp_O Nat
  | 0, _, v, p => .inr (v, p)
  | N + 1, k, v, p => if p < e then (if N = 0 ∧ 15 < B p then .inl (4, p) else if B p < 128 then .inr (v + B p * 2 ^ (7 * k), p + 1) else sp_nu B e N (k + 1) (v + B p % 128 * 2 ^ (7 * k)) (p + 1)) else .inl (1, e)
def sp_num (B : Nat → Nat) (e p : Nat) : sp_O Nat := sp_nu B e 5 0 0 p
/-- a byte that must be such as ok says, else the fault w at it -/
def sp_byte (ok : Nat → Bool) (w : Nat) (B : Nat → Nat) (e p : Nat) : sp_O Nat := if p < e then (if ok (B p) = true then .inr (B p, p + 1) else .inl (w, p)) else .inl (1, e)
def sp_isR (c : Nat) : Bool := c == 112 || c == 111
def sp_isT (c : Nat) : Bool := sp_isR c || (124 ≤ c && c ≤ 127)
/-- how many bytes the character at p has, those ahead of t being there; 0: it is none -/
def sp_chr (B : Nat → Nat) (t p : Nat) : Nat :=
  if B p < 128 then 1 else if B p < 192 then 0
  else if B p < 224 then (if p + 1 < t ∧ B (p + 1) / 64 = 2 ∧ 128 ≤ B p % 32 * 64 + B (p + 1) % 64 then 2 else 0)
  else if B p < 240 then (if p + 2 < t ∧ B (p + 1) / 64 = 2 ∧ B (p + 2) / 64 = 2 ∧ 2048 ≤ (B p % 16 * 64 + B (p + 1) % 64) * 64 + B (p + 2) % 64 ∧ ((B p % 16 * 64 + B (p + 1) % 64) * 64 + B (p + 2) % 64 < 55296 ∨ 57343 < (B p % 16 * 64 + B (p + 1) % 64) * 64 + B (p + 2) % 64) then 3 else 0)
  else if B p < 248 then (if p + 3 < t ∧ B (p + 1) / 64 = 2 ∧ B (p + 2) / 64 = 2 ∧ B (p + 3) / 64 = 2 ∧ 65536 ≤ ((B p % 8 * 64 + B (p + 1) % 64) * 64 + B (p + 2) % 64) * 64 + B (p + 3) % 64 ∧ ((B p % 8 * 64 + B (p + 1) % 64) * 64 + B (p + 2) % 64) * 64 + B (p + 3) % 64 ≤ 1114111 then 4 else 0)
  else 0
/-- the first place from p on, ahead of t, where no character begins -/
def sp_bad (B : Nat → Nat) (t : Nat) : Nat → Nat → Option Nat
  | 0, _ => none
  | N + 1, p => if p < t then (if sp_chr B t p = 0 then some p else sp_bad B t N (p + sp_chr B t p)) else none
/-- a name: where its bytes begin -/
def sp_name (B : Nat → Nat) (e p : Nat) : sp_O Nat := sp_b (sp_num B e p) fun n p1 => if p1 + n ≤ e then (match sp_bad B (p1 + n) n p1 with
  | some x => .inl (9, x)
  | none => .inr (p1, p1 + n)) else .inl (1, e)
theorem sp_nu_b {B : Nat → Nat} {e : Nat} : ∀ {N k v p : Nat} {r : Nat × Nat}, p ≤ e → sp_nu B e N k v p = .inr r → p ≤ r.2 ∧ r.2 ≤ e ∧ (0 < N → p < r.2)
  | 0, _, _, p, r, hp, q => by
    cases q
    exact ⟨Nat.le_refl _, hp, fun z => absurd z (Nat.lt_irrefl 0)⟩
  | N + 1, k, v, p, r, hp, q => by
    unfold sp_nu at q
    split at q
    · split at q
      · cases q
      · split at q
        · cases q
          exact ⟨Nat.le_succ _, by show p + 1 ≤ e; omega, fun _ => Nat.lt_succ_self p⟩
        · have := sp_nu_b (by omega) q
          exact ⟨by omega, this.2.1, fun _ => by omega⟩
    · cases q
theorem sp_nu_v {B : Nat → Nat} (hB : ∀ i, B i < 256) {e : Nat} : ∀ {N k v p : Nat} {r : Nat × Nat}, k + N = 5 → 0 < N → v < 2 ^ (7 * k) → sp_nu B e N k v p = .inr r → r.1 < 4294967296
  | 0, _, _, _, _, _, h0, _, _ => absurd h0 (Nat.lt_irrefl 0)
  | N + 1, k, v, p, r, hk, _, hv, q => by
    unfold sp_nu at q
    have hb := hB p
    have p2 : 2 ^ (7 * (k + 1)) = 128 * 2 ^ (7 * k) := by rw [Nat.mul_succ, Nat.pow_add, Nat.mul_comm]
    split at q
    · split at q
      · cases q
      · next hc =>
        split at q
        · next hs =>
          cases q
          show v + B p * 2 ^ (7 * k) < 4294967296
          by_cases k4 : k = 4
          · subst k4
            have : N = 0 := by omega
            have h15 : B p ≤ 15 := by omega
            have h1 : v < 2 ^ 28 := hv
            show v + B p * 2 ^ 28 < _
            omega
          · have p1 : 2 ^ (7 * k) ≤ 2 ^ 21 := Nat.pow_le_pow_right (by decide) (by omega)
            have p3 : B p * 2 ^ (7 * k) ≤ 127 * 2 ^ 21 := Nat.mul_le_mul (by omega) p1
            have p4 : (127 : Nat) * 2 ^ 21 + 2 ^ 21 < 4294967296 := by decide
            omega
        · next hs =>
          by_cases k4 : N = 0
          · exact absurd ⟨k4, by omega⟩ hc
          · have p1 : B p % 128 * 2 ^ (7 * k) ≤ 127 * 2 ^ (7 * k) := Nat.mul_le_mul_right _ (by omega)
            exact sp_nu_v hB (by omega) (by omega) (by omega) q
    · cases q
