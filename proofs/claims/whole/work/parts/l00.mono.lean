/-! PART I read again: what was read up to e is read alike up to a later e', with or without more sections known -/
def sp_le {α : Type} (o o' : sp_O α) : Prop := ∀ v p, o = .inr (v, p) → o' = .inr (v, p)
theorem le_f {α : Type} {o : sp_O α} : sp_le o o := fun _ _ q => q
theorem le_l {α : Type} {w : Nat × Nat} {o : sp_O α} : sp_le (.inl w) o := fun v p q => by cases q
theorem le_b {α β : Type} {o o' : sp_O α} {k k' : α → Nat → sp_O β} (u : sp_le o o') (uk : ∀ v p, sp_le (k v p) (k' v p)) : sp_le (sp_b o k) (sp_b o' k') := by
  intro v p q
  cases o with
  | inl w => cases q
  | inr x =>
    rw [u x.1 x.2 rfl]
    exact uk x.1 x.2 v p q
theorem le_i {α : Type} {c : Prop} {i : Decidable c} {a b a' b' : sp_O α} (u : sp_le a a') (v : sp_le b b') : sp_le (@ite _ c i a b) (@ite _ c i a' b') := by
  by_cases h : c
  · rw [if_pos h, if_pos h]; exact u
  · rw [if_neg h, if_neg h]; exact v
theorem le_g {α : Type} {c c' : Prop} {i : Decidable c} {i' : Decidable c'} {a b : sp_O α} {w w' : Nat × Nat} (h : c → c') (u : sp_le a b) : sp_le (@ite _ c i a (.inl w)) (@ite _ c' i' b (.inl w')) := by
  by_cases z : c
  · rw [if_pos z, if_pos (h z)]; exact u
  · rw [if_neg z]; exact le_l
theorem le_h {α : Type} {c c' : Prop} {i : Decidable c} {i' : Decidable c'} {a b : sp_O α} {w w' : Nat × Nat} (h : c' → c) (u : sp_le a b) : sp_le (@ite _ c i (.inl w) a) (@ite _ c' i' (.inl w') b) := by
  by_cases z : c
  · rw [if_pos z]; exact le_l
  · rw [if_neg z, if_neg (fun y => z (h y))]; exact u
section MONO
variable {B : Nat → Nat} {e e' : Nat} {d d' : Bool}
theorem le_next (h : e ≤ e') (p : Nat) : sp_le (sp_next B e p) (sp_next B e' p) := le_g (fun z => by omega) le_f
theorem le_nu (h : e ≤ e') : ∀ N k v p, sp_le (sp_nu B e N k v p) (sp_nu B e' N k v p)
  | 0, _, _, _ => le_f
  | N + 1, k, v, p => le_g (fun z => by omega) (le_i le_l (le_i le_f (le_nu h N (k + 1) _ (p + 1))))
theorem le_num (h : e ≤ e') (p : Nat) : sp_le (sp_num B e p) (sp_num B e' p) := le_nu h 5 0 0 p
theorem le_byte (h : e ≤ e') (ok : Nat → Bool) (w p : Nat) : sp_le (sp_byte ok w B e p) (sp_byte ok w B e' p) := le_g (fun z => by omega) le_f
theorem le_sg (h : e ≤ e') (bits : Nat) : ∀ N k v p, sp_le (sp_sg B e bits N k v p) (sp_sg B e' bits N k v p)
  | 0, _, _, _ => le_f
  | N + 1, k, v, p => le_g (fun z => by omega) (le_i le_l (le_i le_f (le_sg h bits N (k + 1) _ (p + 1))))
theorem le_sig (h : e ≤ e') (bits p : Nat) : sp_le (sp_sig B e bits p) (sp_sig B e' bits p) := le_sg h bits _ 0 0 p
theorem le_nums (h : e ≤ e') : ∀ j p, sp_le (sp_nums B e j p) (sp_nums B e' j p)
  | 0, _ => le_f
  | j + 1, p => le_b (le_num h p) fun _ p1 => le_nums h j p1
theorem le_tys (h : e ≤ e') : ∀ j t p, sp_le (sp_tys B e j t p) (sp_tys B e' j t p)
  | 0, _, _ => le_f
  | j + 1, _, p => le_b (le_byte h _ _ p) fun c p1 => le_tys h j c p1
theorem le_les (h : e ≤ e') : ∀ j i v p, sp_le (sp_les B e j i v p) (sp_les B e' j i v p)
  | 0, _, _, _ => le_f
  | j + 1, i, _, p => le_b (le_next h p) fun _ p1 => le_les h j (i + 1) _ p1
theorem le_fur (h : e ≤ e') (hd : d = true → d' = true) (p0 p : Nat) : sp_le (sp_fur B e d p0 p) (sp_fur B e' d' p0 p) := by
  unfold sp_fur
  exact le_b (le_num h p) fun k p1 => le_i le_l (le_h (fun z => ⟨z.1, by cases d with
    | false => rfl
    | true => rw [hd rfl] at z; exact absurd z.2 (by decide)⟩) (le_i le_f (le_i (le_b (le_num h p1) fun x p2 => le_b (le_byte h _ _ p2) fun _ p3 => le_f) (le_i (le_b (le_byte h _ _ p1) fun _ p2 => le_b (le_byte h _ _ p2) fun _ p3 => le_f) (le_i (le_b (le_byte h _ _ p1) fun _ p2 => le_f) (le_i (le_b (le_num h p1) fun x p2 => le_b (le_num h p2) fun y p3 => le_f) (le_b (le_num h p1) fun x p2 => le_f)))))))
theorem le_ops (h : e ≤ e') (hd : d = true → d' = true) (op p0 p : Nat) : sp_le (sp_ops B e d op p0 p) (sp_ops B e' d' op p0 p) := by
  unfold sp_ops
  exact le_i le_f (le_i (le_b (le_num h p) fun x p1 => le_f) (le_i (le_b (le_num h p) fun x p1 => le_b (le_num h p1) fun y p2 => le_f) (le_i (le_b (le_num h p) fun x p1 => le_b (le_nums h _ p1) fun _ p2 => le_f) (le_i (le_b (le_num h p) fun x p1 => le_b (le_tys h _ _ p1) fun t p2 => le_f) (le_i (le_b (le_byte h _ _ p) fun _ p1 => le_f) (le_i (le_b (le_sig h _ p) fun x p1 => le_f) (le_i (le_b (le_sig h _ p) fun x p1 => le_f) (le_i (le_b (le_les h _ _ _ p) fun x p1 => le_f) (le_i (le_b (le_les h _ _ _ p) fun x p1 => le_f) (le_i (le_b (le_byte h _ _ p) fun x p1 => le_f) (le_i (le_fur h hd p0 p) le_l)))))))))))
theorem le_blk (h : e ≤ e') (p : Nat) : sp_le (sp_blk B e p) (sp_blk B e' p) := by
  unfold sp_blk
  by_cases z : p < e ∧ (B p = 64 ∨ sp_isT (B p) = true)
  · rw [if_pos z, if_pos ⟨by omega, z.2⟩]; exact le_f
  · rw [if_neg z]
    by_cases z2 : p < e' ∧ (B p = 64 ∨ sp_isT (B p) = true)
    · have c : ¬ p < e := fun y => z ⟨y, z2.2⟩
      intro v p' q
      exfalso
      obtain ⟨t, p1, e1, e2⟩ := b_inv q
      have e1 : sp_sg B e 33 5 0 0 p = .inr (t, p1) := e1
      unfold sp_sg at e1
      rw [if_neg c] at e1
      cases e1
    · rw [if_neg z2]
      exact le_b (le_sig h 33 p) fun t p1 => le_f
theorem le_in (h : e ≤ e') (hd : d = true → d' = true) (p : Nat) : sp_le (sp_in B e d p) (sp_in B e' d' p) := by
  unfold sp_in
  exact le_b (le_next h p) fun c p1 => le_i le_f (le_i (le_b (le_blk h p1) fun t p2 => le_f) (le_ops h hd c p p1))
theorem le_rows {α : Type} {row row' : Nat → sp_O α} (h : ∀ p, sp_le (row p) (row' p)) : ∀ j p, sp_le (sp_rows row j p) (sp_rows row' j p)
  | 0, _ => le_f
  | j + 1, p => le_b (h p) fun a p1 => le_b (le_rows h j p1) fun l p2 => le_f
theorem le_lc (h : e ≤ e') (p : Nat) : sp_le (sp_lc B e p) (sp_lc B e' p) := by
  unfold sp_lc
  exact le_b (le_num h p) fun v p1 => le_b (le_byte h _ _ p1) fun t p2 => le_f
theorem le_ex (h : e ≤ e') (hd : d = true → d' = true) (ob : Bool) : ∀ N N', N ≤ N' → ∀ st p, sp_le (sp_ex B e d ob N st p) (sp_ex B e' d' ob N' st p)
  | 0, _, _, _, _ => le_l
  | N + 1, 0, z, _, _ => absurd z (by omega)
  | N + 1, N' + 1, z, st, p => by
    rw [sp_ex_n, sp_ex_n]
    refine le_b (le_in h hd p) fun v p2 => le_i ?_ (le_i (le_ex h hd ob N N' (by omega) _ p2) (le_i ?_ (le_b (le_ex h hd ob N N' (by omega) _ p2) fun _ _ => le_f)))
    · cases st with
      | nil => exact le_f
      | cons s r => exact le_b (le_ex h hd ob N N' (by omega) _ p2) fun _ _ => le_f
    · cases st with
      | nil => exact le_f
      | cons s r => exact le_i (le_b (le_ex h hd ob N N' (by omega) _ p2) fun _ _ => le_f) le_l
end MONO
