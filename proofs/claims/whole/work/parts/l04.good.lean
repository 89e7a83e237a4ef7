/-! A MODULE AS IT WAS READ: what its parts are; each expression is read alike up to the end of the bytes -/
theorem sA_c {α β : Type} {P : β → Prop} {o : sp_O α} {k : α → Nat → sp_O β} (h : ∀ v p, o = .inr (v, p) → sA P (k v p)) : sA P (sp_b o k) := by
  intro v p' q
  obtain ⟨a, p1, e1, e2⟩ := b_inv q
  exact h a p1 e1 v p' e2
theorem sA_rows {α : Type} {P : α → Prop} {row : Nat → sp_O α} (h : ∀ p, sA P (row p)) : ∀ j p, sA (fun l => ∀ a, a ∈ l → P a) (sp_rows row j p)
  | 0, _ => sA_r fun a z => absurd z List.not_mem_nil
  | j + 1, p => sA_c fun a p1 e1 => sA_c fun l p2 e2 => sA_r fun x z => by
    rcases List.mem_cons.mp z with y | y
    · rw [y]; exact h p a p1 e1
    · exact sA_rows h j p1 l p2 e2 x y
theorem sA_w {α : Type} {P Q : α → Prop} {o : sp_O α} (h : sA P o) (k : ∀ v, P v → Q v) : sA Q o := fun v p q => k v (h v p q)
abbrev isT (x : Nat) : Prop := sp_isT x = true
abbrev isRf (x : Nat) : Prop := sp_isR x = true
abbrev u32 (x : Nat) : Prop := x < 4294967296
def gHi (w : Int64) : Prop := w = -1 ∨ ∃ x, u32 x ∧ w = Int64.ofNat x
def gTy (a : tTy) : Prop := (∀ x, x ∈ a.1 → isT x) ∧ ∀ x, x ∈ a.2 → isT x
def gImp (a : tImp) : Prop := a.1 ≤ 3 ∧ u32 a.2.1 ∧ u32 a.2.2.1 ∧ gHi a.2.2.2.1 ∧ a.2.2.2.2 ≤ 1 ∧ (a.1 = 3 → isT a.2.1) ∧ (a.1 = 1 → isRf a.2.1) ∧ (a.1 = 2 → a.2.1 = 0)
def gFn (a : tFn) : Prop := u32 a
def gTb (a : tTb) : Prop := isRf a.1 ∧ u32 a.2.1 ∧ gHi a.2.2
def gMm (a : tMm) : Prop := u32 a.1 ∧ gHi a.2
abbrev exR (B : Nat → Nat) (n : Nat) (D ob : Bool) (p : Nat) : Prop := ∃ w p', sp_ex B n D ob (n + 1) [] p = .inr (w, p')
def gGl (B : Nat → Nat) (n : Nat) (D : Bool) (a : tGl) : Prop := isT a.1 ∧ a.2.1 ≤ 1 ∧ exR B n D false a.2.2
def gXp (n : Nat) (a : tXp) : Prop := a.1 + a.2.1 ≤ n ∧ a.2.2.1 ≤ 3 ∧ u32 a.2.2.2
def gEl (B : Nat → Nat) (n : Nat) (D : Bool) (a : tEl) : Prop := a.1 ≤ 7 ∧ (a.2.1.1 = if a.1 % 2 = 0 then 0 else if a.1 / 2 % 2 = 0 then 1 else 2) ∧ u32 a.2.1.2.1 ∧ (a.2.1.1 = 0 → exR B n D false a.2.1.2.2) ∧ isRf a.2.2.1.1 ∧ (a.1 / 4 % 2 = 0 → a.2.2.1.1 = 112) ∧ u32 a.2.2.1.2.1 ∧ a.2.2.1.2.2 ≤ n ∧ ∃ p, sp_rows (sp_it B n D a.1) a.2.2.1.2.1 a.2.2.1.2.2 = .inr (a.2.2.2, p)
def gDa (B : Nat → Nat) (n : Nat) (D : Bool) (a : tDa) : Prop := a.1 ≤ 2 ∧ u32 a.2.1 ∧ (a.1 ≠ 1 → exR B n D false a.2.2.1) ∧ a.2.2.2.2 + a.2.2.2.1 ≤ n
def gBo (B : Nat → Nat) (n : Nat) (D : Bool) (a : tBo) : Prop := a.2.1 = sumL a.2.2.2.2.1 ∧ a.2.1 ≤ 4294967295 ∧ a.2.2.2.1 < n ∧ a.1 < a.2.2.1 ∧ (∃ c p1, sp_num B n a.1 = .inr (c, p1) ∧ sp_rows (sp_lc B n) c p1 = .inr (a.2.2.2.2.1, a.2.2.1)) ∧ sp_ex B n D true (n + 1) [] a.2.2.1 = .inr (a.2.2.2.2.2, a.2.2.2.1 + 1)
theorem u32_0 : u32 0 := by decide
theorem le01 : (0 : Nat) ≤ 1 := by decide
theorem isRf_112 : isRf 112 := by decide
section GOOD
variable {B : Nat → Nat} {n e : Nat} {D D' d : Bool}
theorem le_it (h : e ≤ n) (hd : d = true → D = true) (mm p : Nat) : sp_le (sp_it B e d mm p) (sp_it B n D mm p) := by
  unfold sp_it
  exact le_i (le_num h p) (le_b (le_ex h hd false (e + 1) (n + 1) (by omega) [] p) fun _ _ => le_f)
theorem exR_m (hd : D = true → D' = true) {ob : Bool} {p : Nat} (q : exR B n D ob p) : exR B n D' ob p := by
  obtain ⟨w, p', q⟩ := q
  exact ⟨w, p', le_ex (Nat.le_refl n) hd ob (n + 1) (n + 1) (Nat.le_refl _) [] p w p' q⟩
theorem gGl_m (hd : D = true → D' = true) {a : tGl} (q : gGl B n D a) : gGl B n D' a := ⟨q.1, q.2.1, exR_m hd q.2.2⟩
theorem gEl_m (hd : D = true → D' = true) {a : tEl} (q : gEl B n D a) : gEl B n D' a := by
  obtain ⟨q1, q2, q3, q4, q5, q6, q7, q8, p, q9⟩ := q
  exact ⟨q1, q2, q3, fun z => exR_m hd (q4 z), q5, q6, q7, q8, p, le_rows (fun p => le_it (Nat.le_refl n) hd a.1 p) _ _ _ _ q9⟩
theorem gDa_m (hd : D = true → D' = true) {a : tDa} (q : gDa B n D a) : gDa B n D' a := ⟨q.1, q.2.1, fun z => exR_m hd (q.2.2.1 z), q.2.2.2⟩
theorem gBo_m (hd : D = true → D' = true) {a : tBo} (q : gBo B n D a) : gBo B n D' a := ⟨q.1, q.2.1, q.2.2.1, q.2.2.2.1, q.2.2.2.2.1, le_ex (Nat.le_refl n) hd true (n + 1) (n + 1) (Nat.le_refl _) _ _ _ _ q.2.2.2.2.2⟩
theorem num_lt {p v p' : Nat} (q : sp_num B e p = .inr (v, p')) : p < e ∧ p < p' ∧ p' ≤ e := by
  have z : p < e := nu_lt (N := 4) q
  have := sp_num_b (by omega) q
  omega
theorem byte_v {ok : Nat → Bool} {w p v p' : Nat} (q : sp_byte ok w B e p = .inr (v, p')) : ok v = true := by
  unfold sp_byte at q
  split at q
  · split at q
    · cases q; assumption
    · cases q
  · cases q
theorem isT_u {x : Nat} (h : isT x) : u32 x := by
  have h : sp_isT x = true := h
  unfold sp_isT sp_isR at h
  simp only [Bool.or_eq_true, Bool.and_eq_true, beq_iff_eq, decide_eq_true_eq] at h
  show x < 4294967296
  omega
theorem isR_u {x : Nat} (h : isRf x) : u32 x := by
  have h : sp_isR x = true := h
  unfold sp_isR at h
  simp only [Bool.or_eq_true, beq_iff_eq] at h
  show x < 4294967296
  omega
theorem name_le {p a p1 : Nat} (q : sp_name B e p = .inr (a, p1)) : a ≤ p1 ∧ p1 ≤ e := by
  unfold sp_name at q
  obtain ⟨c, p2, e1, e2⟩ := b_inv q
  by_cases z : p2 + c ≤ e
  · rw [if_pos z] at e2
    cases hb : sp_bad B (p2 + c) c p2 with
    | some x => rw [hb] at e2; cases e2
    | none => rw [hb] at e2; cases e2; exact ⟨by omega, z⟩
  · rw [if_neg z] at e2; cases e2
theorem rows_up {α : Type} {row : Nat → sp_O α} (h : ∀ p v p', p ≤ e → row p = .inr (v, p') → p ≤ p' ∧ p' ≤ e) : ∀ (j p : Nat) (l : List α) (p' : Nat), p ≤ e → sp_rows row j p = .inr (l, p') → p ≤ p' ∧ p' ≤ e
  | 0, p, l, p', hp, q => by cases q; exact ⟨Nat.le_refl _, hp⟩
  | j + 1, p, l, p', hp, q => by
    obtain ⟨a, p1, e1, e2⟩ := b_inv q
    obtain ⟨l2, p2, e3, e4⟩ := b_inv e2
    cases e4
    have h1 := h p a p1 hp e1
    have h2 := rows_up h j p1 l2 p' h1.2 e3
    omega
theorem trL_g (p : Nat) : sA (fun l : List Nat => ∀ x, x ∈ l → isT x) (sp_trL B e p) := by
  unfold sp_trL
  exact sA_c fun c p1 _ => sA_rows (P := isT) (fun p v p' q => byte_v q) c p1
theorem lim_g (hB : ∀ i, B i < 256) (p : Nat) : sA (fun l : Nat × Int64 => u32 l.1 ∧ gHi l.2) (sp_lim B e p) := by
  unfold sp_lim
  refine sA_c fun c p1 _ => sA_c fun v p2 e2 => sA_i (fun _ => sA_c fun w p3 e3 => sA_r ⟨sp_num_v hB e2, .inr ⟨w, sp_num_v hB e3, rfl⟩⟩) (fun _ => sA_r ⟨sp_num_v hB e2, .inl rfl⟩)
theorem imp_g (hB : ∀ i, B i < 256) (p : Nat) : sA gImp (sp_imp B e p) := by
  unfold sp_imp
  refine sA_c fun _ p1 _ => sA_c fun _ p2 _ => sA_c fun c p3 e3 => ?_
  have hc : c ≤ 3 := of_decide_eq_true (byte_v e3)
  refine sA_i (fun z => sA_c fun t p4 e4 => sA_r ?_) (fun z0 => sA_i (fun z => sA_c fun t p4 e4 => sA_c fun g p5 e5 => sA_r ?_) (fun z3 => sA_i (fun z => sA_c fun t p4 e4 => sA_c fun l p5 e5 => sA_r ?_) (fun z1 => sA_c fun l p5 e5 => sA_r ?_)))
  · exact ⟨hc, sp_num_v hB e4, u32_0, .inl rfl, le01, fun y => by have y : c = 3 := y; omega, fun y => by have y : c = 1 := y; omega, fun y => by have y : c = 2 := y; omega⟩
  · have ht := byte_v e4
    exact ⟨hc, isT_u ht, u32_0, .inl rfl, of_decide_eq_true (byte_v e5), fun _ => ht, fun y => by have y : c = 1 := y; omega, fun y => by have y : c = 2 := y; omega⟩
  · have ht := byte_v e4
    have hl := lim_g hB p4 l p5 e5
    exact ⟨hc, isR_u ht, hl.1, hl.2, le01, fun y => by have y : c = 3 := y; omega, fun _ => ht, fun y => by have y : c = 2 := y; omega⟩
  · have hl := lim_g hB p3 l p5 e5
    exact ⟨hc, u32_0, hl.1, hl.2, le01, fun y => by have y : c = 3 := y; omega, fun y => by have y : c = 1 := y; omega, fun _ => rfl⟩
theorem fn_g (hB : ∀ i, B i < 256) (p : Nat) : sA gFn (sp_fn B e p) := by
  unfold sp_fn
  exact sA_c fun v p1 e1 => sA_r (sp_num_v hB e1)
theorem tb_g (hB : ∀ i, B i < 256) (p : Nat) : sA gTb (sp_tb B e p) := by
  unfold sp_tb
  exact sA_c fun t p1 e1 => sA_c fun l p2 e2 => sA_r ⟨byte_v e1, (lim_g hB p1 l p2 e2).1, (lim_g hB p1 l p2 e2).2⟩
theorem mm_g (hB : ∀ i, B i < 256) (p : Nat) : sA gMm (sp_mm B e p) := by
  unfold sp_mm
  exact sA_c fun l p2 e2 => sA_r (lim_g hB p l p2 e2)
theorem gl_g (he : e ≤ n) (hd : d = true → D = true) (p : Nat) : sA (gGl B n D) (sp_gl B e d p) := by
  unfold sp_gl
  exact sA_c fun t p1 e1 => sA_c fun g p2 e2 => sA_c fun w p3 e3 => sA_r ⟨byte_v e1, of_decide_eq_true (byte_v e2), w, p3, le_ex he hd false (e + 1) (n + 1) (by omega) [] p2 w p3 e3⟩
theorem xp_g (hB : ∀ i, B i < 256) (he : e ≤ n) (p : Nat) : sA (gXp n) (sp_xp B e p) := by
  unfold sp_xp
  refine sA_c fun a p1 e1 => sA_c fun t p2 e2 => sA_c fun v p3 e3 => sA_r ⟨?_, of_decide_eq_true (byte_v e2), sp_num_v hB e3⟩
  have z := name_le e1
  show a + (p1 - a) ≤ n
  omega
theorem el_g (hB : ∀ i, B i < 256) (he : e ≤ n) (hd : d = true → D = true) (p : Nat) : sA (gEl B n D) (sp_el B e d p) := by
  unfold sp_el
  refine sA_c fun mm p1 e1 => sA_i (fun _ => sA_l) (fun c7 => ?_)
  unfold sp_elm
  refine sA_c fun a p2 e2 => sA_c fun v p3 e3 => sA_c fun l p4 e4 => sA_r ?_
  have hA : (a.1 = if mm % 2 = 0 then 0 else if mm / 2 % 2 = 0 then 1 else 2) ∧ u32 a.2.1 ∧ (a.1 = 0 → exR B n D false a.2.2) := by
    unfold sp_elA at e2
    by_cases c0 : mm % 2 = 0
    · rw [if_pos c0] at e2 ⊢
      by_cases c1 : mm / 2 % 2 = 0
      · rw [if_pos c1] at e2
        obtain ⟨w, p5, e5, e6⟩ := b_inv e2
        cases e6
        exact ⟨rfl, u32_0, fun _ => ⟨w, p2, le_ex he hd false (e + 1) (n + 1) (by omega) [] p1 w p2 e5⟩⟩
      · rw [if_neg c1] at e2
        obtain ⟨t, p5, e5, e6⟩ := b_inv e2
        obtain ⟨w, p6, e7, e8⟩ := b_inv e6
        cases e8
        exact ⟨rfl, sp_num_v hB e5, fun _ => ⟨w, p2, le_ex he hd false (e + 1) (n + 1) (by omega) [] p5 w p2 e7⟩⟩
    · rw [if_neg c0] at e2 ⊢
      cases e2
      refine ⟨rfl, u32_0, fun z => ?_⟩
      have z : (if mm / 2 % 2 = 0 then 1 else 2) = 0 := z
      split at z <;> omega
  have hV : isRf v.1 ∧ (mm / 4 % 2 = 0 → v.1 = 112) ∧ u32 v.2.1 ∧ v.2.2 = p3 ∧ p3 ≤ e := by
    unfold sp_elB at e3
    by_cases c0 : mm = 0 ∨ mm = 4
    · rw [if_pos c0] at e3
      obtain ⟨c, p5, e5, e6⟩ := b_inv e3
      cases e6
      exact ⟨isRf_112, fun _ => rfl, sp_num_v hB e5, rfl, (num_lt e5).2.2⟩
    rw [if_neg c0] at e3
    by_cases c1 : mm / 4 % 2 = 0
    · rw [if_pos c1] at e3
      obtain ⟨z, p5, e5, e6⟩ := b_inv e3
      obtain ⟨c, p6, e7, e8⟩ := b_inv e6
      cases e8
      exact ⟨isRf_112, fun _ => rfl, sp_num_v hB e7, rfl, (num_lt e7).2.2⟩
    · rw [if_neg c1] at e3
      obtain ⟨t, p5, e5, e6⟩ := b_inv e3
      obtain ⟨c, p6, e7, e8⟩ := b_inv e6
      cases e8
      exact ⟨byte_v e5, fun z => absurd z c1, sp_num_v hB e7, rfl, (num_lt e7).2.2⟩
  obtain ⟨v1, v2, v3⟩ := v
  obtain ⟨h1, h2, h3, h4, h5⟩ := hV
  have h4 : v3 = p3 := h4
  subst h4
  exact ⟨by show mm ≤ 7; omega, hA.1, hA.2.1, hA.2.2, h1, h2, h3, by show v3 ≤ n; omega, p4, le_rows (fun p => le_it he hd mm p) _ _ _ _ e4⟩
theorem da_g (hB : ∀ i, B i < 256) (he : e ≤ n) (hd : d = true → D = true) (p : Nat) : sA (gDa B n D) (sp_da B e d p) := by
  unfold sp_da
  refine sA_c fun mm p1 e1 => sA_i (fun _ => sA_l) (fun c2 => sA_c fun tb p2 e2 => sA_c fun u p3 e3 => sA_c fun sz p4 e4 => sA_i (fun c => sA_r ⟨by show mm ≤ 2; omega, ?_, fun z => ?_, by show p4 + sz ≤ n; omega⟩) (fun _ => sA_l))
  · show tb < 4294967296
    unfold sp_daA at e2
    by_cases c : mm = 2
    · rw [if_pos c] at e2; exact sp_num_v hB e2
    · rw [if_neg c] at e2; cases e2; exact u32_0
  · have z : mm ≠ 1 := z
    unfold sp_daB at e3
    rw [if_neg z] at e3
    obtain ⟨w, p5, e5, e6⟩ := b_inv e3
    exact ⟨w, p5, le_ex he hd false (e + 1) (n + 1) (by omega) [] p2 w p5 e5⟩
theorem bo_g (hB : ∀ i, B i < 256) (he : e ≤ n) (hd : d = true → D = true) (p : Nat) : sA (gBo B n D) (sp_bo B e d p) := by
  unfold sp_bo
  refine sA_c fun sz p1 e1 => sA_i (fun _ => sA_l) (fun cs => sA_c fun a p2 e2 => sA_i (fun _ => sA_l) (fun c2 => sA_r ?_))
  unfold sp_bd at e2
  obtain ⟨c, p3, e3, e4⟩ := b_inv e2
  obtain ⟨ls, p4, e5, e6⟩ := b_inv e4
  by_cases c12 : 4294967295 < sumL ls
  · rw [if_pos c12] at e6; cases e6
  rw [if_neg c12] at e6
  obtain ⟨w, p5, e7, e8⟩ := b_inv e6
  cases e8
  have n3 := num_lt e3
  have r4 := rows_up (fun p v p' hp z => by
    unfold sp_lc at z
    obtain ⟨x, q1, y1, y2⟩ := b_inv z
    obtain ⟨t, q2, y3, y4⟩ := b_inv y2
    cases y4
    have := num_lt y1
    have := sp_byte_b' y3
    omega : ∀ p v p', p ≤ p1 + sz → sp_lc B (p1 + sz) p = .inr (v, p') → p ≤ p' ∧ p' ≤ p1 + sz) _ _ _ _ n3.2.2 e5
  have x5 := up_ex_lt e7
  have u5 := ex_up r4.2 w p2 e7
  refine ⟨rfl, by show sumL ls ≤ _; omega, by show p2 - 1 < n; omega, by show p1 < p4; omega, ⟨c, p3, le_num (by omega) _ _ _ e3, le_rows (fun p => le_lc (by omega) p) _ _ _ _ e5⟩, ?_⟩
  show sp_ex B n D true (n + 1) [] p4 = .inr (w, p2 - 1 + 1)
  rw [show p2 - 1 + 1 = p2 by omega]
  exact le_ex (by omega) hd true (p1 + sz + 1) (n + 1) (by omega) [] p4 w p2 e7
theorem ty_g (p : Nat) : sA gTy (sp_ty B e p) := by
  unfold sp_ty
  refine sA_c fun c p1 _ => sA_i (fun _ => sA_c fun ps p2 e2 => sA_c fun rs p3 e3 => sA_r ⟨trL_g p1 ps p2 e2, trL_g p2 rs p3 e3⟩) (fun _ => sA_l)
end GOOD
