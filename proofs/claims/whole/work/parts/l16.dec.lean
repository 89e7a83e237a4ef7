/-! AN INSTRUCTION as it was read, class by class; what it names -/
section DEC
variable {B : Nat → Nat} {n p p2 : Nat} {D : Bool} {v : sp_I}
theorem in_c (q : sp_in B n D p = .inr (v, p2)) : p < n ∧ (if B p = 5 ∨ B p = 11 then (.inr ((B p, 0, 0, false), p + 1) : sp_O sp_I) else if 2 ≤ B p ∧ B p ≤ 4 then sp_b (sp_blk B n (p + 1)) fun t p2 => .inr ((B p, t, 0, false), p2) else sp_ops B n D (B p) p (p + 1)) = .inr (v, p2) := by
  unfold sp_in at q
  obtain ⟨c, p1, e1, e2⟩ := b_inv q
  obtain ⟨h1, h2, h3⟩ := sp_next_b e1
  rw [h2, h3] at e2
  exact ⟨h1, e2⟩
theorem in_b (q : sp_in B n D p = .inr (v, p2)) (h : 2 ≤ B p ∧ B p ≤ 4) : sp_blk B n (p + 1) = .inr (v.2.1, p2) ∧ v.1 = B p := by
  obtain ⟨h1, e⟩ := in_c q
  rw [if_neg (by omega), if_pos h] at e
  obtain ⟨t, p3, e1, e2⟩ := b_inv e
  cases e2
  exact ⟨e1, rfl⟩
theorem in_o (q : sp_in B n D p = .inr (v, p2)) (h : ¬ (2 ≤ B p ∧ B p ≤ 5)) (h2 : B p ≠ 11) : sp_ops B n D (B p) p (p + 1) = .inr (v, p2) := by
  obtain ⟨h1, e⟩ := in_c q
  rw [if_neg (by omega), if_neg (by omega)] at e
  exact e
theorem in_1 (hB : ∀ i, B i < 256) (q : sp_in B n D p = .inr (v, p2)) (h : B p = 12 ∨ B p = 13 ∨ B p = 16 ∨ (32 ≤ B p ∧ B p ≤ 38) ∨ B p = 210) : ∃ x, x < 4294967296 ∧ sp_num B n (p + 1) = .inr (x, p2) ∧ v = (B p, Int64.ofNat x, 0, false) := by
  have e := in_o q (by omega) (by omega)
  unfold sp_ops at e
  rw [(k_cls ⟨B p, hB p⟩).2.1 h, if_neg (by decide), if_pos rfl] at e
  obtain ⟨x, p3, e1, e2⟩ := b_inv e
  cases e2
  exact ⟨x, sp_num_v hB e1, e1, rfl⟩
theorem in_2 (hB : ∀ i, B i < 256) (q : sp_in B n D p = .inr (v, p2)) (h : (40 ≤ B p ∧ B p ≤ 62) ∨ B p = 17) : ∃ x y p1, x < 4294967296 ∧ y < 4294967296 ∧ sp_num B n (p + 1) = .inr (x, p1) ∧ sp_num B n p1 = .inr (y, p2) ∧ v = (B p, Int64.ofNat x, Int64.ofNat y, false) := by
  have e := in_o q (by omega) (by omega)
  unfold sp_ops at e
  rw [(k_cls ⟨B p, hB p⟩).2.2 h, if_neg (by decide), if_neg (by decide), if_pos rfl] at e
  obtain ⟨x, p3, e1, e2⟩ := b_inv e
  obtain ⟨y, p4, e3, e4⟩ := b_inv e2
  cases e4
  exact ⟨x, y, p3, sp_num_v hB e1, sp_num_v hB e3, e1, e3, rfl⟩
theorem in_14 (hB : ∀ i, B i < 256) (q : sp_in B n D p = .inr (v, p2)) (h : B p = 14) : ∃ x p1 u, x < 4294967296 ∧ sp_num B n (p + 1) = .inr (x, p1) ∧ sp_nums B n (x + 1) p1 = .inr (u, p2) ∧ v = (14, Int64.ofNat x, Int64.ofNat p1, decide (200 < x)) := by
  have e := in_o q (by omega) (by omega)
  rw [h] at e
  unfold sp_ops at e
  rw [show sp_cls 14 = 3 by decide, if_neg (by decide), if_neg (by decide), if_neg (by decide), if_pos rfl] at e
  obtain ⟨x, p3, e1, e2⟩ := b_inv e
  obtain ⟨y, p4, e3, e4⟩ := b_inv e2
  cases e4
  exact ⟨x, p3, y, sp_num_v hB e1, e1, e3, rfl⟩
theorem in_28 (hB : ∀ i, B i < 256) (q : sp_in B n D p = .inr (v, p2)) (h : B p = 28) : ∃ x p1 t, x < 4294967296 ∧ sp_num B n (p + 1) = .inr (x, p1) ∧ sp_tys B n x 0 p1 = .inr (t, p2) ∧ v = (28, Int64.ofNat x, Int64.ofNat t, decide (x ≠ 1)) := by
  have e := in_o q (by omega) (by omega)
  rw [h] at e
  unfold sp_ops at e
  rw [show sp_cls 28 = 4 by decide, if_neg (by decide), if_neg (by decide), if_neg (by decide), if_neg (by decide), if_pos rfl] at e
  obtain ⟨x, p3, e1, e2⟩ := b_inv e
  obtain ⟨y, p4, e3, e4⟩ := b_inv e2
  cases e4
  exact ⟨x, p3, y, sp_num_v hB e1, e1, e3, rfl⟩
theorem in_208 (hB : ∀ i, B i < 256) (q : sp_in B n D p = .inr (v, p2)) (h : B p = 208) : isRf (B (p + 1)) ∧ p + 1 < n ∧ v = (208, Int64.ofNat (B (p + 1)), 0, false) := by
  have e := in_o q (by omega) (by omega)
  rw [h] at e
  unfold sp_ops at e
  rw [show sp_cls 208 = 10 by decide, if_neg (by decide), if_neg (by decide), if_neg (by decide), if_neg (by decide), if_neg (by decide), if_neg (by decide), if_neg (by decide), if_neg (by decide), if_neg (by decide), if_neg (by decide), if_pos rfl] at e
  obtain ⟨x, p3, e1, e2⟩ := b_inv e
  cases e2
  have l := (sp_byte_b' e1).1
  have z := sp_byte_b (by omega) e1
  have zx : x = B (p + 1) := z.1.2.2.1
  exact ⟨by rw [← zx]; exact z.1.2.2.2, l, by rw [← zx]⟩
theorem in_252 (q : sp_in B n D p = .inr (v, p2)) (h : B p = 252) : sp_fur B n D p (p + 1) = .inr (v, p2) := by
  have e := in_o q (by omega) (by omega)
  rw [h] at e
  unfold sp_ops at e
  rw [show sp_cls 252 = 11 by decide, if_neg (by decide), if_neg (by decide), if_neg (by decide), if_neg (by decide), if_neg (by decide), if_neg (by decide), if_neg (by decide), if_neg (by decide), if_neg (by decide), if_neg (by decide), if_neg (by decide), if_pos rfl] at e
  exact e
/-- what is behind 252 -/
theorem fur_k (hB : ∀ i, B i < 256) {p2' : Nat} (q : sp_fur B n D p p2 = .inr (v, p2')) : ∃ k p1, k ≤ 17 ∧ sp_num B n p2 = .inr (k, p1) ∧ (k < 8 → v = (200 + k, 0, 0, false)) ∧ ((k = 10 ∨ k = 11) → v = (300 + k, 0, 0, false)) ∧ ((k = 12 ∨ k = 14) → ∃ x y p3 p4, x < 4294967296 ∧ y < 4294967296 ∧ sp_num B n p1 = .inr (x, p3) ∧ sp_num B n p3 = .inr (y, p4) ∧ v = (300 + k, Int64.ofNat x, Int64.ofNat y, false)) ∧ ((k = 8 ∨ k = 9 ∨ k = 13 ∨ 15 ≤ k) → ∃ x p3, x < 4294967296 ∧ sp_num B n p1 = .inr (x, p3) ∧ v = (300 + k, Int64.ofNat x, 0, false)) := by
  unfold sp_fur at q
  obtain ⟨k, p1, e1, e2⟩ := b_inv q
  by_cases c17 : 17 < k
  · rw [if_pos c17] at e2; cases e2
  rw [if_neg c17] at e2
  refine ⟨k, p1, by omega, e1, fun z => ?_, fun z => ?_, fun z => ?_, fun z => ?_⟩
  · rw [if_neg (by omega), if_pos z] at e2; cases e2; rfl
  · rw [if_neg (by omega), if_neg (by omega), if_neg (by omega)] at e2
    by_cases c10 : k = 10
    · rw [if_pos c10] at e2
      obtain ⟨x, p3, e3, e4⟩ := b_inv e2
      obtain ⟨y, p4, e5, e6⟩ := b_inv e4
      cases e6; rfl
    · rw [if_neg c10, if_pos (by omega)] at e2
      obtain ⟨x, p3, e3, e4⟩ := b_inv e2
      cases e4; rfl
  · rw [if_neg (by omega), if_neg (by omega), if_neg (by omega), if_neg (by omega), if_neg (by omega), if_pos z] at e2
    obtain ⟨x, p3, e3, e4⟩ := b_inv e2
    obtain ⟨y, p4, e5, e6⟩ := b_inv e4
    cases e6
    exact ⟨x, y, p3, _, sp_num_v hB e3, sp_num_v hB e5, e3, e5, rfl⟩
  · by_cases c89 : (k = 8 ∨ k = 9) ∧ D = false
    · rw [if_pos c89] at e2; cases e2
    rw [if_neg c89, if_neg (by omega)] at e2
    by_cases c8 : k = 8
    · rw [if_pos c8] at e2
      obtain ⟨x, p3, e3, e4⟩ := b_inv e2
      obtain ⟨y, p4, e5, e6⟩ := b_inv e4
      cases e6
      exact ⟨x, p3, sp_num_v hB e3, e3, rfl⟩
    · rw [if_neg c8, if_neg (by omega), if_neg (by omega), if_neg (by omega)] at e2
      obtain ⟨x, p3, e3, e4⟩ := b_inv e2
      cases e4
      exact ⟨x, _, sp_num_v hB e3, e3, rfl⟩
theorem nums_rows : ∀ (j p p' : Nat) (u : Unit), sp_nums B n j p = .inr (u, p') → ∃ l, sp_rows (sp_num B n) j p = .inr (l, p') ∧ l.length = j ∧ p + j ≤ p'
  | 0, p, p', u, q => by cases q; exact ⟨[], rfl, rfl, Nat.le_refl _⟩
  | j + 1, p, p', u, q => by
    obtain ⟨x, p1, e1, e2⟩ := b_inv q
    obtain ⟨l, h1, h2, h3⟩ := nums_rows j p1 p' u e2
    have := num_lt e1
    refine ⟨x :: l, ?_, by rw [List.length_cons, h2], by omega⟩
    unfold sp_rows
    rw [e1, sp_br, h1, sp_br]
theorem ltL_s : ∀ (l : List (Nat × Nat)) (i : Nat), (ltL l i).isSome = decide (i < sumL l)
  | [], i => by show false = decide (i < 0); rw [decide_eq_false (Nat.not_lt_zero _)]
  | a :: l, i => by
    unfold ltL
    show _ = decide (i < a.1 + sumL l)
    by_cases c : i < a.1
    · rw [if_pos c, decide_eq_true (by omega)]; rfl
    · rw [if_neg c, ltL_s l (i - a.1)]
      by_cases d : i - a.1 < sumL l
      · rw [decide_eq_true d, decide_eq_true (by omega)]
      · rw [decide_eq_false d, decide_eq_false (by omega)]
theorem ltB_s (ps : List Nat) (ls : List (Nat × Nat)) (i : Nat) : (ltB ps ls i).isSome = decide (i < ps.length + sumL ls) := by
  unfold ltB
  by_cases c : i < ps.length
  · rw [if_pos c, List.getElem?_eq_getElem c, decide_eq_true (by omega)]; rfl
  · rw [if_neg c, ltL_s]
    by_cases d : i - ps.length < sumL ls
    · rw [decide_eq_true d, decide_eq_true (by omega)]
    · rw [decide_eq_false d, decide_eq_false (by omega)]
end DEC
/-- is what it names there -/
def kNm (B : Nat → Nat) (n : Nat) (M : tMd) (Dc : Nat → Bool) (lt : Nat → Option Nat) (v : sp_I) (K : tK) : Bool :=
  if v.1 = 0 ∨ v.1 = 1 ∨ v.1 = 5 ∨ v.1 = 11 ∨ v.1 = 15 ∨ v.1 = 26 ∨ v.1 = 27 ∨ (65 ≤ v.1 ∧ v.1 ≤ 68) ∨ v.1 = 208 ∨ v.1 = 209 then true
  else if v.1 ≤ 4 then !decide (0 ≤ v.2.1 ∧ M.1.length ≤ v.2.1.toNatClampNeg)
  else if v.1 ≤ 13 then decide (v.2.1.toNatClampNeg < K.2.1.length)
  else if v.1 = 14 then !(kDl B n v.2.1.toNatClampNeg v.2.2.1.toNatClampNeg).any (fun x => decide (K.2.1.length ≤ x))
  else if v.1 = 16 then decide (v.2.1.toNatClampNeg < (spF M).length)
  else if v.1 = 17 then decide (v.2.1.toNatClampNeg < M.1.length) && (match (spT M)[v.2.2.1.toNatClampNeg]? with
    | none => false
    | some t => decide (t.2.1 = 112))
  else (kSg M Dc lt v.1 v.2.1.toNatClampNeg v.2.2.1.toNatClampNeg).isSome
theorem kIns_n {B : Nat → Nat} {n p : Nat} {M : tMd} {Dc : Nat → Bool} {lt : Nat → Option Nat} {v : sp_I} {K : tK} (h : kNm B n M Dc lt v K = false) : kIns B n M Dc lt p v K = .inl (30, p) := by
  unfold kNm at h
  unfold kIns
  by_cases c0 : v.1 = 0 ∨ v.1 = 1 ∨ v.1 = 5 ∨ v.1 = 11 ∨ v.1 = 15 ∨ v.1 = 26 ∨ v.1 = 27 ∨ (65 ≤ v.1 ∧ v.1 ≤ 68) ∨ v.1 = 208 ∨ v.1 = 209
  · rw [if_pos c0] at h; cases h
  rw [if_neg c0] at h
  rw [if_neg (show ¬ v.1 = 0 by omega), if_neg (show ¬ v.1 = 1 by omega)]
  by_cases c4 : v.1 ≤ 4
  · rw [if_pos c4] at h ⊢
    unfold kBlk
    rw [if_pos (of_decide_eq_true (by simpa using h))]
  rw [if_neg c4] at h ⊢
  rw [if_neg (show ¬ v.1 = 5 by omega), if_neg (show ¬ v.1 = 11 by omega)]
  by_cases c13 : v.1 ≤ 13
  · rw [if_pos c13] at h ⊢
    unfold kBrn
    rw [if_pos (Nat.not_lt.mp (of_decide_eq_false h))]
  rw [if_neg c13] at h ⊢
  by_cases c14 : v.1 = 14
  · rw [if_pos c14] at h ⊢
    unfold kTab
    rw [if_pos (by simpa using h)]
  rw [if_neg c14] at h ⊢
  rw [if_neg (show ¬ v.1 = 15 by omega)]
  by_cases c16 : v.1 = 16
  · rw [if_pos c16] at h ⊢
    unfold kCal
    rw [List.getElem?_eq_none (Nat.not_lt.mp (of_decide_eq_false h))]
  rw [if_neg c16] at h ⊢
  by_cases c17 : v.1 = 17
  · rw [if_pos c17] at h ⊢
    unfold kCalT
    cases e : (spT M)[v.2.2.1.toNatClampNeg]? with
    | none => rfl
    | some t =>
      rw [e] at h
      have h : (decide (v.2.1.toNatClampNeg < M.1.length) && decide (t.2.1 = 112)) = false := h
      show (if _ then _ else _) = _
      rw [if_neg]
      rintro ⟨h1, h2⟩
      rw [decide_eq_true h1, decide_eq_true h2] at h
      cases h
  rw [if_neg c17] at h ⊢
  rw [if_neg (show ¬ v.1 = 26 by omega), if_neg (show ¬ v.1 = 27 by omega), if_neg (show ¬ (65 ≤ v.1 ∧ v.1 ≤ 68) by omega), if_neg (show ¬ v.1 = 208 by omega), if_neg (show ¬ v.1 = 209 by omega)]
  cases e : kSg M Dc lt v.1 v.2.1.toNatClampNeg v.2.2.1.toNatClampNeg with
  | none => rfl
  | some s => rw [e] at h; cases h
