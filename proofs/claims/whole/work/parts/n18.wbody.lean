/-! FLATTENED CODE: the walk over a body that was checked, with all that is known of its states -/
section WBODY
variable {B : Nat → Nat} {n t b' : Nat} {D : Bool} {M : tMd} {Dc : Nat → Bool} {lt : Nat → Option Nat} {EL : List (Bool × Nat × Nat)} {F : List tRw} {e : Nat} {W : List tWk} {a : tBo}
/-- what is known of a state of the walk W -/
def wkG (B : Nat → Nat) (n : Nat) (D : Bool) (M : tMd) (Dc : Nat → Bool) (lt : Nat → Option Nat) (EL : List (Bool × Nat × Nat)) (t : Nat) (F : List tRw) (e : Nat) (W : List tWk) (s : tWk) (l : List tWk) : Prop := wkC B n D M Dc lt EL t F e s l ∧ wkH B n D W s ∧ (s.2.1.2.1.length ≠ 0 → wkJ B n D EL s ∧ aDh s.2.1.2.1 ∧ zS s.2.1 ∧ bK s.2.1)
theorem wk_g (hB : ∀ i, B i < 256) (G : vG B n D M) (hF : ∀ f, f ∈ spF M → f.2.1 < M.1.length) : ∀ (l : List tWk) {s s' : tWk} {l' : List tWk}, wkG B n D M Dc lt EL t F e W s l → (s :: l) <:+ W → (s' :: l') <:+ (s :: l) → wkG B n D M Dc lt EL t F e W s' l'
  | [], s, s', l', g, hW, h => by
    have : s' :: l' = [s] := by
      rcases List.suffix_cons_iff.mp h with q | q
      · exact q
      · exact absurd (List.IsSuffix.length_le q) (by show ¬ l'.length + 1 ≤ 0; omega)
    cases this
    exact g
  | s1 :: l, s, s', l', g, hW, h => by
    rcases List.suffix_cons_iff.mp h with q | q
    · cases q
      exact g
    · obtain ⟨⟨w1, w2, w3⟩, H, R⟩ := g
      refine wk_g hB G hF l ⟨w3, wk_h hW w1 w2.2.1 H, fun h0 => ?_⟩ ((List.suffix_cons _ _).trans hW) q
      obtain ⟨J, A, Z, b3⟩ := R (by have := w1.1; omega)
      have W1 : wfK M s1.2.1 := by
        cases l with
        | nil => exact absurd w3.1 h0
        | cons s2 l => exact w3.2.1.2.1
      obtain ⟨kl, v, i1, hf, ⟨z, i2⟩, -⟩ := id w1
      have hl : 0 < s.2.1.2.1.length := by omega
      exact ⟨wk_j w1 h0 J, aDh_s hl i2 A, zS_s hB G hF i1 hl w2.2.1 W1 A i2 Z, kIns_3 b3 hl i2⟩
/-- the body b' of a module that was checked -/
theorem wk_body (hB : ∀ i, B i < 256) (G : vG B n D M) (hF : ∀ f, f ∈ spF M → f.2.1 < M.1.length) (hn : n < 2147483648) (hA : M.2.2.2.2.2.2.2.2.2.1[b']? = some a) (hT : M.2.2.1[b']? = some t) {m e : Nat} {Kf : tK} (q : kBody B n D M Dc t a = .inr ((m, Kf), e)) : e = a.2.2.2.1 + 1 ∧ ∃ As l, ∀ s' l', (s' :: l') <:+ ((a.2.2.1, kBeg t, [], As) :: l) → wkG B n D M Dc (lbt M t a) a.2.2.2.2.2.1 t Kf.2.2 e ((a.2.2.1, kBeg t, [], As) :: l) s' l' := by
  have T := vG_T G
  have ef : (spF M)[(ofK 0 M.2.1).length + b']? = some (0, t, 0, -1, 0) := by
    unfold spF
    rw [List.getElem?_append_right (Nat.le_add_right _ _), Nat.add_sub_cancel_left, List.getElem?_map, hT]
    rfl
  have tl := hF _ (List.mem_of_getElem? ef)
  have tl : t < M.1.length := tl
  have g := G.1.2.2.2.2.2.2.2.2.2.1 a (List.mem_of_getElem? hA)
  have lm := G.1.2.2.2.2.2.2.2.2.2.2.2.2.2.2.2.2.2.2.2.2 G.2 a (List.mem_of_getElem? hA)
  have lm' := or_f lm
  obtain ⟨g1, g2, g3, g4, g5, g6⟩ := g
  have W3 : wfK M (kBeg t) := ⟨⟨Nat.le_refl 0, trivial⟩, fun l hl => by rw [List.mem_singleton.mp hl]; exact ⟨wfT_t T tl, Nat.zero_le 5⟩, fun l hl => absurd hl List.not_mem_nil, Nat.zero_le _, show 1 ≤ 200 by decide⟩
  have w1 : wfC (kBeg t) := ⟨List.nodup_nil, fun a ha => absurd ha List.not_mem_nil, fun l hl => by rw [List.mem_singleton.mp hl]; trivial⟩
  have p8 : a.2.2.1 ≤ n := by
    have := (up_ex_lt g6).1
    omega
  obtain ⟨As, l, w, ee⟩ := wk_all (EL := a.2.2.2.2.2.1) (Dc := Dc) (t := t) hB G hF (fun x ty h => lbt_T G (List.mem_of_getElem? hA) tl h) hn rfl (n + 1) (n + 1) a.2.2.1 0 (K := kBeg t) (st := []) rfl w1 W3 (fun _ => rfl) (Nat.zero_le _) p8 q g6 lm'.2 (fun x hx => hx)
  refine ⟨ee, As, l, fun s' l' h => wk_g hB G hF l ⟨w, fun x hx => absurd hx (Nat.not_lt_zero _), fun _ => ⟨⟨n + 1, _, _, g6, fun u hu => absurd hu List.not_mem_nil, List.nodup_nil, fun y x hy => .inl hy⟩, fun x hx => absurd hx (by show ¬ x + 1 < 1; omega), ⟨fun x hx _ t ht => absurd ht ?_, fun _ t ht => absurd ht List.not_mem_nil⟩, fun _ => by show (0 : Nat) ≠ 3; decide⟩⟩ (List.suffix_refl _) h⟩
  show t ∉ ([] : List Nat).drop _
  rw [List.drop_nil]
  exact List.not_mem_nil
end WBODY
