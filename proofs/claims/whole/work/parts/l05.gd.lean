/-! A MODULE AS IT WAS READ: all its parts are good; within the limits, if none is told -/
def gdL (M : tMd) : Prop := (M.2.2.2.2.2.2.2.2.2.2.2.2.2 = none → M.1.length ≤ 64 ∧ ∀ a, a ∈ M.1 → bigT a = false) ∧ (M.2.2.2.2.2.2.2.2.2.2.2.2.2 = none → M.2.1.length ≤ 64) ∧ (M.2.2.2.2.2.2.2.2.2.2.2.2.2 = none → M.2.2.1.length ≤ 64) ∧ (M.2.2.2.2.2.2.2.2.2.2.2.2.2 = none → M.2.2.2.1.length ≤ 64) ∧ (M.2.2.2.2.2.2.2.2.2.2.2.2.2 = none → M.2.2.2.2.1.length ≤ 64) ∧ (M.2.2.2.2.2.2.2.2.2.2.2.2.2 = none → M.2.2.2.2.2.1.length ≤ 64) ∧ (M.2.2.2.2.2.2.2.2.2.2.2.2.2 = none → M.2.2.2.2.2.2.1.length ≤ 64) ∧ (M.2.2.2.2.2.2.2.2.2.2.2.2.2 = none → M.2.2.2.2.2.2.2.1.length ≤ 64) ∧ (M.2.2.2.2.2.2.2.2.2.2.2.2.2 = none → M.2.2.2.2.2.2.2.2.1.length ≤ 64) ∧ (M.2.2.2.2.2.2.2.2.2.2.2.2.2 = none → ∀ a, a ∈ M.2.2.2.2.2.2.2.2.2.1 → bigB a = false)
def gd (B : Nat → Nat) (n : Nat) (D : Bool) (M : tMd) : Prop := (∀ a, a ∈ M.1 → gTy a) ∧ (∀ a, a ∈ M.2.1 → gImp a) ∧ (∀ a, a ∈ M.2.2.1 → gFn a) ∧ (∀ a, a ∈ M.2.2.2.1 → gTb a) ∧ (∀ a, a ∈ M.2.2.2.2.1 → gMm a) ∧ (∀ a, a ∈ M.2.2.2.2.2.1 → gGl B n D a) ∧ (∀ a, a ∈ M.2.2.2.2.2.2.1 → gXp n a) ∧ (∀ a, a ∈ M.2.2.2.2.2.2.2.1 → gEl B n D a) ∧ (∀ a, a ∈ M.2.2.2.2.2.2.2.2.1 → gDa B n D a) ∧ (∀ a, a ∈ M.2.2.2.2.2.2.2.2.2.1 → gBo B n D a) ∧ (∀ x, M.2.2.2.2.2.2.2.2.2.2.1 = some x → u32 x) ∧ gdL M
def gdS (M : tMd) : Prop := isS (M.2.2.2.2.2.2.2.2.2.2.2.2.1 8) = isS M.2.2.2.2.2.2.2.2.2.2.1 ∧ isS (M.2.2.2.2.2.2.2.2.2.2.2.2.1 12) = isS M.2.2.2.2.2.2.2.2.2.2.2.1
theorem liM_n {o : Option Nat} {pl : Nat} {b : Bool} (h : liM o pl b = none) : o = none ∧ b = false := by
  unfold liM at h
  cases b with
  | false => exact ⟨h, rfl⟩
  | true =>
    cases o with
    | none => cases h
    | some x => cases h
theorem or_f {a b : Bool} (h : (a || b) = false) : a = false ∧ b = false := by
  cases a <;> cases b <;> first | exact ⟨rfl, rfl⟩ | cases h
theorem anyE_f {α : Type} {f : α → Bool} {l : List α} (h : l.any f = false) : ∀ a, a ∈ l → f a = false := by
  intro a ha
  cases hf : f a with
  | false => rfl
  | true => rw [List.any_eq_true.mpr ⟨a, ha, hf⟩] at h; cases h
theorem le64 {α : Type} {l : List α} (h : decide (64 < l.length) = false) : l.length ≤ 64 := Nat.not_lt.mp (of_decide_eq_false h)
section GD
variable {B : Nat → Nat} {n e : Nat} {D D' d : Bool} {M M2 : tMd}
theorem gd_m (hd : D = true → D' = true) (h : gd B n D M) : gd B n D' M := by
  obtain ⟨h1, h2, h3, h4, h5, h6, h7, h8, h9, h10, h11, h12⟩ := h
  exact ⟨h1, h2, h3, h4, h5, fun a z => gGl_m hd (h6 a z), h7, fun a z => gEl_m hd (h8 a z), fun a z => gDa_m hd (h9 a z), fun a z => gBo_m hd (h10 a z), h11, h12⟩
theorem gd_sec (hB : ∀ i, B i < 256) (he : e ≤ n) (hd : d = true → D = true) (h : gd B n D M) {id pl p p3 : Nat} (q : sp_sec B e d id pl M p = .inr (M2, p3)) : gd B n D M2 ∧ M2.2.2.2.2.2.2.2.2.2.2.2.2.1 = M.2.2.2.2.2.2.2.2.2.2.2.2.1 ∧ (id ≠ 8 → M2.2.2.2.2.2.2.2.2.2.2.1 = M.2.2.2.2.2.2.2.2.2.2.1) ∧ (id = 8 → isS M2.2.2.2.2.2.2.2.2.2.2.1 = true) ∧ (id < 12 → M2.2.2.2.2.2.2.2.2.2.2.2.1 = M.2.2.2.2.2.2.2.2.2.2.2.1) ∧ (12 ≤ id → isS M2.2.2.2.2.2.2.2.2.2.2.2.1 = true) := by
  obtain ⟨h1, h2, h3, h4, h5, h6, h7, h8, h9, h10, h11, l1, l2, l3, l4, l5, l6, l7, l8, l9, l10⟩ := h
  unfold sp_sec at q
  by_cases c0 : id = 0
  · rw [if_pos c0] at q
    obtain ⟨l, p1, e1, e2⟩ := b_inv q
    cases e2
    exact ⟨⟨h1, h2, h3, h4, h5, h6, h7, h8, h9, h10, h11, l1, l2, l3, l4, l5, l6, l7, l8, l9, l10⟩, rfl, fun z => rfl, fun z => absurd z (by omega), fun _ => rfl, fun z => absurd z (by omega)⟩
  rw [if_neg c0] at q
  by_cases c1 : id = 1
  · rw [if_pos c1] at q
    obtain ⟨l, p1, e1, e2⟩ := b_inv q
    cases e2
    unfold sp_tyS at e1
    obtain ⟨c, p2, e3, e4⟩ := b_inv e1
    have R := sA_rows (fun p => ty_g  p) c p2 l p3 e4
    exact ⟨⟨R, h2, h3, h4, h5, h6, h7, h8, h9, h10, h11, fun z => ⟨le64 (or_f (liM_n z).2).1, anyE_f (or_f (liM_n z).2).2⟩, fun z => l2 (liM_n z).1, fun z => l3 (liM_n z).1, fun z => l4 (liM_n z).1, fun z => l5 (liM_n z).1, fun z => l6 (liM_n z).1, fun z => l7 (liM_n z).1, fun z => l8 (liM_n z).1, fun z => l9 (liM_n z).1, fun z => l10 (liM_n z).1⟩, rfl, fun z => rfl, fun z => absurd z (by omega), fun _ => rfl, fun z => absurd z (by omega)⟩
  rw [if_neg c1] at q
  by_cases c2 : id = 2
  · rw [if_pos c2] at q
    obtain ⟨l, p1, e1, e2⟩ := b_inv q
    cases e2
    unfold sp_impS at e1
    obtain ⟨c, p2, e3, e4⟩ := b_inv e1
    have R := sA_rows (fun p => imp_g hB p) c p2 l p3 e4
    exact ⟨⟨h1, R, h3, h4, h5, h6, h7, h8, h9, h10, h11, fun z => l1 (liM_n z).1, fun z => le64 (liM_n z).2, fun z => l3 (liM_n z).1, fun z => l4 (liM_n z).1, fun z => l5 (liM_n z).1, fun z => l6 (liM_n z).1, fun z => l7 (liM_n z).1, fun z => l8 (liM_n z).1, fun z => l9 (liM_n z).1, fun z => l10 (liM_n z).1⟩, rfl, fun z => rfl, fun z => absurd z (by omega), fun _ => rfl, fun z => absurd z (by omega)⟩
  rw [if_neg c2] at q
  by_cases c3 : id = 3
  · rw [if_pos c3] at q
    obtain ⟨l, p1, e1, e2⟩ := b_inv q
    cases e2
    unfold sp_fnS at e1
    obtain ⟨c, p2, e3, e4⟩ := b_inv e1
    have R := sA_rows (fun p => fn_g hB p) c p2 l p3 e4
    exact ⟨⟨h1, h2, R, h4, h5, h6, h7, h8, h9, h10, h11, fun z => l1 (liM_n z).1, fun z => l2 (liM_n z).1, fun z => le64 (liM_n z).2, fun z => l4 (liM_n z).1, fun z => l5 (liM_n z).1, fun z => l6 (liM_n z).1, fun z => l7 (liM_n z).1, fun z => l8 (liM_n z).1, fun z => l9 (liM_n z).1, fun z => l10 (liM_n z).1⟩, rfl, fun z => rfl, fun z => absurd z (by omega), fun _ => rfl, fun z => absurd z (by omega)⟩
  rw [if_neg c3] at q
  by_cases c4 : id = 4
  · rw [if_pos c4] at q
    obtain ⟨l, p1, e1, e2⟩ := b_inv q
    cases e2
    unfold sp_tbS at e1
    obtain ⟨c, p2, e3, e4⟩ := b_inv e1
    have R := sA_rows (fun p => tb_g hB p) c p2 l p3 e4
    exact ⟨⟨h1, h2, h3, R, h5, h6, h7, h8, h9, h10, h11, fun z => l1 (liM_n z).1, fun z => l2 (liM_n z).1, fun z => l3 (liM_n z).1, fun z => le64 (liM_n z).2, fun z => l5 (liM_n z).1, fun z => l6 (liM_n z).1, fun z => l7 (liM_n z).1, fun z => l8 (liM_n z).1, fun z => l9 (liM_n z).1, fun z => l10 (liM_n z).1⟩, rfl, fun z => rfl, fun z => absurd z (by omega), fun _ => rfl, fun z => absurd z (by omega)⟩
  rw [if_neg c4] at q
  by_cases c5 : id = 5
  · rw [if_pos c5] at q
    obtain ⟨l, p1, e1, e2⟩ := b_inv q
    cases e2
    unfold sp_mmS at e1
    obtain ⟨c, p2, e3, e4⟩ := b_inv e1
    have R := sA_rows (fun p => mm_g hB p) c p2 l p3 e4
    exact ⟨⟨h1, h2, h3, h4, R, h6, h7, h8, h9, h10, h11, fun z => l1 (liM_n z).1, fun z => l2 (liM_n z).1, fun z => l3 (liM_n z).1, fun z => l4 (liM_n z).1, fun z => le64 (liM_n z).2, fun z => l6 (liM_n z).1, fun z => l7 (liM_n z).1, fun z => l8 (liM_n z).1, fun z => l9 (liM_n z).1, fun z => l10 (liM_n z).1⟩, rfl, fun z => rfl, fun z => absurd z (by omega), fun _ => rfl, fun z => absurd z (by omega)⟩
  rw [if_neg c5] at q
  by_cases c6 : id = 6
  · rw [if_pos c6] at q
    obtain ⟨l, p1, e1, e2⟩ := b_inv q
    cases e2
    unfold sp_glS at e1
    obtain ⟨c, p2, e3, e4⟩ := b_inv e1
    have R := sA_rows (fun p => gl_g he hd p) c p2 l p3 e4
    exact ⟨⟨h1, h2, h3, h4, h5, R, h7, h8, h9, h10, h11, fun z => l1 (liM_n z).1, fun z => l2 (liM_n z).1, fun z => l3 (liM_n z).1, fun z => l4 (liM_n z).1, fun z => l5 (liM_n z).1, fun z => le64 (liM_n z).2, fun z => l7 (liM_n z).1, fun z => l8 (liM_n z).1, fun z => l9 (liM_n z).1, fun z => l10 (liM_n z).1⟩, rfl, fun z => rfl, fun z => absurd z (by omega), fun _ => rfl, fun z => absurd z (by omega)⟩
  rw [if_neg c6] at q
  by_cases c7 : id = 7
  · rw [if_pos c7] at q
    obtain ⟨l, p1, e1, e2⟩ := b_inv q
    cases e2
    unfold sp_xpS at e1
    obtain ⟨c, p2, e3, e4⟩ := b_inv e1
    have R := sA_rows (fun p => xp_g hB he p) c p2 l p3 e4
    exact ⟨⟨h1, h2, h3, h4, h5, h6, R, h8, h9, h10, h11, fun z => l1 (liM_n z).1, fun z => l2 (liM_n z).1, fun z => l3 (liM_n z).1, fun z => l4 (liM_n z).1, fun z => l5 (liM_n z).1, fun z => l6 (liM_n z).1, fun z => le64 (liM_n z).2, fun z => l8 (liM_n z).1, fun z => l9 (liM_n z).1, fun z => l10 (liM_n z).1⟩, rfl, fun z => rfl, fun z => absurd z (by omega), fun _ => rfl, fun z => absurd z (by omega)⟩
  rw [if_neg c7] at q
  by_cases c8 : id = 8
  · rw [if_pos c8] at q
    obtain ⟨l, p1, e1, e2⟩ := b_inv q
    cases e2
    exact ⟨⟨h1, h2, h3, h4, h5, h6, h7, h8, h9, h10, fun x hx => by cases hx; exact sp_num_v hB e1, l1, l2, l3, l4, l5, l6, l7, l8, l9, l10⟩, rfl, fun z => absurd c8 z, fun z => rfl, fun _ => rfl, fun z => absurd z (by omega)⟩
  rw [if_neg c8] at q
  by_cases c9 : id = 9
  · rw [if_pos c9] at q
    obtain ⟨l, p1, e1, e2⟩ := b_inv q
    cases e2
    unfold sp_elS at e1
    obtain ⟨c, p2, e3, e4⟩ := b_inv e1
    have R := sA_rows (fun p => el_g hB he hd p) c p2 l p3 e4
    exact ⟨⟨h1, h2, h3, h4, h5, h6, h7, R, h9, h10, h11, fun z => l1 (liM_n z).1, fun z => l2 (liM_n z).1, fun z => l3 (liM_n z).1, fun z => l4 (liM_n z).1, fun z => l5 (liM_n z).1, fun z => l6 (liM_n z).1, fun z => l7 (liM_n z).1, fun z => le64 (liM_n z).2, fun z => l9 (liM_n z).1, fun z => l10 (liM_n z).1⟩, rfl, fun z => rfl, fun z => absurd z (by omega), fun _ => rfl, fun z => absurd z (by omega)⟩
  rw [if_neg c9] at q
  by_cases c10 : id = 10
  · rw [if_pos c10] at q
    obtain ⟨l, p1, e1, e2⟩ := b_inv q
    cases e2
    unfold sp_boS at e1
    obtain ⟨c, p2, e3, e4⟩ := b_inv e1
    have R := sA_rows (fun p => bo_g hB he hd p) c p2 l p3 e4
    exact ⟨⟨h1, h2, h3, h4, h5, h6, h7, h8, h9, R, h11, fun z => l1 (liM_n z).1, fun z => l2 (liM_n z).1, fun z => l3 (liM_n z).1, fun z => l4 (liM_n z).1, fun z => l5 (liM_n z).1, fun z => l6 (liM_n z).1, fun z => l7 (liM_n z).1, fun z => l8 (liM_n z).1, fun z => l9 (liM_n z).1, fun z => anyE_f (liM_n z).2⟩, rfl, fun z => rfl, fun z => absurd z (by omega), fun _ => rfl, fun z => absurd z (by omega)⟩
  rw [if_neg c10] at q
  by_cases c11 : id = 11
  · rw [if_pos c11] at q
    obtain ⟨l, p1, e1, e2⟩ := b_inv q
    cases e2
    unfold sp_daS at e1
    obtain ⟨c, p2, e3, e4⟩ := b_inv e1
    have R := sA_rows (fun p => da_g hB he hd p) c p2 l p3 e4
    exact ⟨⟨h1, h2, h3, h4, h5, h6, h7, h8, R, h10, h11, fun z => l1 (liM_n z).1, fun z => l2 (liM_n z).1, fun z => l3 (liM_n z).1, fun z => l4 (liM_n z).1, fun z => l5 (liM_n z).1, fun z => l6 (liM_n z).1, fun z => l7 (liM_n z).1, fun z => l8 (liM_n z).1, fun z => le64 (liM_n z).2, fun z => l10 (liM_n z).1⟩, rfl, fun z => rfl, fun z => absurd z (by omega), fun _ => rfl, fun z => absurd z (by omega)⟩
  rw [if_neg c11] at q
  obtain ⟨l, p1, e1, e2⟩ := b_inv q
  cases e2
  exact ⟨⟨h1, h2, h3, h4, h5, h6, h7, h8, h9, h10, h11, l1, l2, l3, l4, l5, l6, l7, l8, l9, l10⟩, rfl, fun _ => rfl, fun z => absurd z c8, fun z => absurd z (by omega), fun _ => rfl⟩
theorem gd_secs (hB : ∀ i, B i < 256) : ∀ (N last : Nat) (M : tMd) (p : Nat) (M2 : tMd) (p2 : Nat), gd B n (isS (M.2.2.2.2.2.2.2.2.2.2.2.2.1 12)) M → gdS M → sp_secs B n N last M p = .inr (M2, p2) → gd B n (isS (M2.2.2.2.2.2.2.2.2.2.2.2.2.1 12)) M2 ∧ gdS M2 := by
  intro N
  induction N with
  | zero => intro last M p M2 p2 h g q; cases q
  | succ N ih =>
    intro last M p M2 p2 h g q
    unfold sp_secs at q
    by_cases c : n ≤ p
    · rw [if_pos c] at q
      split at q
      · split at q
        · cases q; exact ⟨h, g⟩
        · cases q
      · cases q
    · rw [if_neg c] at q
      obtain ⟨id, p1, e1, e2⟩ := b_inv q
      by_cases c6 : 12 < id ∨ (0 < id ∧ rk id ≤ last)
      · rw [if_pos c6] at e2; cases e2
      rw [if_neg c6] at e2
      obtain ⟨sz, p3, e3, e4⟩ := b_inv e2
      by_cases cs : n < p3 + sz
      · rw [if_pos cs] at e4; cases e4
      rw [if_neg cs] at e4
      obtain ⟨M3, p4, e5, e6⟩ := b_inv e4
      by_cases c3 : p4 < p3 + sz
      · rw [if_pos c3] at e6; cases e6
      rw [if_neg c3] at e6
      have hD : isS (M.2.2.2.2.2.2.2.2.2.2.2.2.1 12) = true → isS (if id = 0 then M.2.2.2.2.2.2.2.2.2.2.2.2.1 12 else if id = 12 then some p else M.2.2.2.2.2.2.2.2.2.2.2.2.1 12) = true := fun z => by
        split
        · exact z
        · split
          · rfl
          · exact z
      have h' := gd_m hD h
      have S := gd_sec (M := (M.1, M.2.1, M.2.2.1, M.2.2.2.1, M.2.2.2.2.1, M.2.2.2.2.2.1, M.2.2.2.2.2.2.1, M.2.2.2.2.2.2.2.1, M.2.2.2.2.2.2.2.2.1, M.2.2.2.2.2.2.2.2.2.1, M.2.2.2.2.2.2.2.2.2.2.1, M.2.2.2.2.2.2.2.2.2.2.2.1, (fun i => if id ≠ 0 ∧ i = id then some p else M.2.2.2.2.2.2.2.2.2.2.2.2.1 i), M.2.2.2.2.2.2.2.2.2.2.2.2.2)) hB (by omega) (fun z => z) h' e5
      obtain ⟨s1, s2, s3, s4, s5, s6⟩ := S
      have s2 : M3.2.2.2.2.2.2.2.2.2.2.2.2.1 = fun i => if id ≠ 0 ∧ i = id then some p else M.2.2.2.2.2.2.2.2.2.2.2.2.1 i := s2
      have s3 : id ≠ 8 → M3.2.2.2.2.2.2.2.2.2.2.1 = M.2.2.2.2.2.2.2.2.2.2.1 := s3
      have s5 : id < 12 → M3.2.2.2.2.2.2.2.2.2.2.2.1 = M.2.2.2.2.2.2.2.2.2.2.2.1 := s5
      have D3 : isS (if id = 0 then M.2.2.2.2.2.2.2.2.2.2.2.2.1 12 else if id = 12 then some p else M.2.2.2.2.2.2.2.2.2.2.2.2.1 12) = isS (M3.2.2.2.2.2.2.2.2.2.2.2.2.1 12) := by
        rw [s2]
        show _ = isS (if id ≠ 0 ∧ 12 = id then some p else M.2.2.2.2.2.2.2.2.2.2.2.2.1 12)
        by_cases z0 : id = 0
        · rw [if_pos z0, if_neg (by omega)]
        · by_cases z12 : id = 12
          · rw [if_neg z0, if_pos z12, if_pos (by omega)]
          · rw [if_neg z0, if_neg z12, if_neg (by omega)]
      rw [D3] at s1
      refine ih _ M3 p4 M2 p2 s1 ⟨?_, ?_⟩ e6
      · rw [s2]
        show isS (if id ≠ 0 ∧ 8 = id then some p else M.2.2.2.2.2.2.2.2.2.2.2.2.1 8) = _
        by_cases z8 : id = 8
        · rw [if_pos (by omega), s4 z8]; rfl
        · rw [if_neg (by omega), s3 z8]; exact g.1
      · rw [s2]
        show isS (if id ≠ 0 ∧ 12 = id then some p else M.2.2.2.2.2.2.2.2.2.2.2.2.1 12) = _
        by_cases z12 : id = 12
        · rw [if_pos (by omega), s6 (by omega)]; rfl
        · rw [if_neg (by omega), s5 (by omega)]; exact g.2
theorem gd_0 : gd B n D M0 := by
  refine ⟨?_, ?_, ?_, ?_, ?_, ?_, ?_, ?_, ?_, ?_, fun x hx => (by cases hx), fun _ => ⟨Nat.zero_le _, fun a z => absurd z List.not_mem_nil⟩, fun _ => Nat.zero_le _, fun _ => Nat.zero_le _, fun _ => Nat.zero_le _, fun _ => Nat.zero_le _, fun _ => Nat.zero_le _, fun _ => Nat.zero_le _, fun _ => Nat.zero_le _, fun _ => Nat.zero_le _, fun _ a z => absurd z List.not_mem_nil⟩
  all_goals exact fun a z => absurd z List.not_mem_nil
/-- a module that was read whole -/
theorem gd_all (hB : ∀ i, B i < 256) {p2 : Nat} (q : sp_all B n = .inr (M2, p2)) : gd B n (isS (M2.2.2.2.2.2.2.2.2.2.2.2.2.1 12)) M2 ∧ gdS M2 := by
  unfold sp_all at q
  rw [mg_k] at q
  obtain ⟨u, p, e1, e2⟩ := b_inv q
  exact gd_secs hB (n + 1) 0 M0 p M2 p2 gd_0 ⟨rfl, rfl⟩ e2
end GD
