/-! THE CLASS READS: a row of an open section -/
/-- what reading a row of the array x writes -/
def rF (x me sh : Nat) (h h' : pm_H) : Prop := nW (fun X Y => X = x ∨ X = me ∨ X = sh ∨ (X = 19 ∧ (Y = 5 ∨ Y = 6 ∨ Y = 7))) (fun X Y => X = x ∨ (X = 19 ∧ (Y = 8 ∨ Y = 9))) (fun X _ => X = x) h h'
theorem rF_W {x me sh lo hi : Nat} {h h' : pm_H} (g : gW me x lo hi h h') : rF x me sh h h' := nW_m (nW_g g) (fun X Y _ z => by rcases z with (z | z) | z; exact .inr (.inl z); exact .inr (.inr (.inr z)); exact .inl z.1) (fun X Y _ z => by rcases z with z | z; exact .inr z; exact .inl z.1) (fun _ _ _ z => z)
/-- a place's numbers stay -/
def stP {α : Type} (P : pm_H → Nat → Nat → α → Prop) (w : Nat) : Prop := ∀ h h' x a v, (∀ y, a ≤ y → y < a + w → pm_I h' x y = pm_I h x y ∧ pm_L h' x y = pm_L h x y) → P h x a v → P h' x a v
/-- own globals: type, whether it changes, the expression -/
def pGe (h : pm_H) (x a : Nat) (v : tImp × Nat) : Prop := pm_L h x a = Int64.ofNat v.1.1 ∧ pm_L h x (a + 1) = Int64.ofNat v.1.2.1 ∧ pm_L h x (a + 2) = Int64.ofNat v.1.2.2.2.2 ∧ pm_L h x (a + 5) = Int64.ofNat v.2
theorem st_ent : stP pEnt 6 := fun h h' x a v e ⟨p0, p1, p2, p3, p4, p5⟩ => ⟨(e a (by omega) (by omega)).2.trans p0, (e (a + 1) (by omega) (by omega)).2.trans p1, (e (a + 2) (by omega) (by omega)).2.trans p2, (e (a + 3) (by omega) (by omega)).2.trans p3, (e (a + 4) (by omega) (by omega)).2.trans p4, (e (a + 5) (by omega) (by omega)).2.trans p5⟩
theorem st_ge : stP pGe 6 := fun h h' x a v e ⟨p0, p1, p2, p5⟩ => ⟨(e a (by omega) (by omega)).2.trans p0, (e (a + 1) (by omega) (by omega)).2.trans p1, (e (a + 2) (by omega) (by omega)).2.trans p2, (e (a + 5) (by omega) (by omega)).2.trans p5⟩
theorem st_xp : stP pXpC 4 := fun h h' x a v e ⟨p0, p1, p2, p3⟩ => ⟨(e a (by omega) (by omega)).1.trans p0, (e (a + 1) (by omega) (by omega)).1.trans p1, (e (a + 2) (by omega) (by omega)).1.trans p2, (e (a + 3) (by omega) (by omega)).1.trans p3⟩
theorem st_da : stP pDaC 7 := fun h h' x a v e ⟨p0, p1, p2, p3, p4⟩ => ⟨(e a (by omega) (by omega)).1.trans p0, (e (a + 1) (by omega) (by omega)).1.trans p1, (e (a + 2) (by omega) (by omega)).1.trans p2, (e (a + 3) (by omega) (by omega)).1.trans p3, (e (a + 4) (by omega) (by omega)).1.trans p4⟩
theorem st_el : stP pElC 7 := fun h h' x a v e ⟨p0, p1, p2, p3, p4, p5, p6⟩ => ⟨(e a (by omega) (by omega)).1.trans p0, (e (a + 1) (by omega) (by omega)).1.trans p1, (e (a + 2) (by omega) (by omega)).1.trans p2, (e (a + 3) (by omega) (by omega)).1.trans p3, (e (a + 4) (by omega) (by omega)).1.trans p4, (e (a + 5) (by omega) (by omega)).1.trans p5, (e (a + 6) (by omega) (by omega)).1.trans p6⟩
theorem st_bo : stP pBoC 2 := fun h h' x a v e ⟨p0, p1⟩ => ⟨(e a (by omega) (by omega)).1.trans p0, (e (a + 1) (by omega) (by omega)).1.trans p1⟩
/-- N rows that were there, then l; nothing behind them -/
def cQ {α : Type} (P : pm_H → Nat → Nat → α → Prop) (h : pm_H) (x w N : Nat) (l : List α) : Prop := (∀ i v, l[i]? = some v → P h x ((N + i) * w) v) ∧ ∀ y, (N + l.length) * w ≤ y → y < pm_ln h x → pm_I h x y = 0 ∧ pm_L h x y = 0
theorem cQ_app {α : Type} {P : pm_H → Nat → Nat → α → Prop} {h h' : pm_H} {x w N : Nat} {l : List α} {a : α} (st : stP P w) (hl : pm_ln h' x = pm_ln h x) (g : ∀ y, ¬ ((N + l.length) * w ≤ y ∧ y < (N + l.length) * w + w) → pm_I h' x y = pm_I h x y ∧ pm_L h' x y = pm_L h x y) (C : cQ P h x w N l) (new : P h' x ((N + l.length) * w) a) : cQ P h' x w N (l ++ [a]) := by
  constructor
  · intro i v e
    by_cases hi : i < l.length
    · rw [List.getElem?_append_left hi] at e
      refine st h h' x _ v (fun y h1 h2 => g y ?_) (C.1 i v e)
      have : (N + i) * w + w ≤ (N + l.length) * w := by
        have := Nat.mul_le_mul_right w (show N + i + 1 ≤ N + l.length by omega)
        rw [Nat.succ_mul] at this
        exact this
      omega
    · rw [List.getElem?_append_right (by omega)] at e
      have z0 : i - l.length = 0 := by
        by_cases z0 : i - l.length = 0
        · exact z0
        · exfalso
          rw [List.getElem?_eq_none (by show 1 ≤ _; omega)] at e
          cases e
      rw [z0] at e
      cases e
      rw [show i = l.length by omega]
      exact new
  · intro y h1 h2
    rw [List.length_append] at h1
    have h3 : (N + l.length) * w + w ≤ y := by
      have : (N + (l.length + 1)) * w = (N + l.length) * w + w := by rw [← Nat.add_assoc, Nat.succ_mul]
      have h1 : (N + (l.length + 1)) * w ≤ y := h1
      omega
    obtain ⟨e1, e2⟩ := g y (by omega)
    obtain ⟨c1, c2⟩ := C.2 y (by omega) (by rw [← hl]; exact h2)
    exact ⟨e1.trans c1, e2.trans c2⟩
theorem cs_and {α ρ : Type} {w : ρ → pm_H} {F F' : pm_H → Prop} {R R' : α → Nat → ρ → Prop} {x : Option ρ} {o : sp_O α} (Q : cs_Q w F R x o) (hF : ∀ h, F h → F' h) (K : ∀ v p r, o = .inr (v, p) → R v p r → R' v p r) : cs_Q w F' R' x o := u_w Q hF K
theorem sp_ms_b {α β : Type} {f : α → β} {o : sp_O α} {p e p' : Nat} {v : β} (h : ∀ v p', o = .inr (v, p') → p < p' ∧ p' ≤ e) (q : sp_map f o = .inr (v, p')) : p < p' ∧ p' ≤ e := by
  cases o with
  | inl w => cases q
  | inr x => cases q; exact h x.1 x.2 rfl
theorem sp_ms_v {α β : Type} {f : α → β} {P : β → Prop} {o : sp_O α} {p' : Nat} {v : β} (h : ∀ a, P (f a)) (q : sp_map f o = .inr (v, p')) : P v := by
  cases o with
  | inl w => cases q
  | inr x => cases q; exact h x.1
theorem lim_up {B : Nat → Nat} {e p : Nat} (h : p ≤ e) : sp_up (sp_lim B e p) p e := by
  unfold sp_lim
  exact up_b (up_byte h) fun c p5 _ h5 => up_b (up_num h5) fun _ p6 _ h6 => up_i (up_b (up_num h6) fun _ p7 _ h7 => up_r h7) (up_r h6)
theorem sp_fn_b {B : Nat → Nat} {e p p' : Nat} {v : tFn} (hp : p ≤ e) (q : sp_fn B e p = .inr (v, p')) : p < p' ∧ p' ≤ e := by
  unfold sp_fn at q
  obtain ⟨a, p1, e1, e2⟩ := b_inv q
  cases e2
  exact sp_num_b hp e1
theorem sp_imp_b {B : Nat → Nat} {e p p' : Nat} {v : tImp} (hp : p ≤ e) (q : sp_imp B e p = .inr (v, p')) : p < p' ∧ p' ≤ e := by
  unfold sp_imp at q
  obtain ⟨a, p1, e1, e2⟩ := b_inv q
  have h1 := sp_name_b hp e1
  obtain ⟨a2, p2, e3, e4⟩ := b_inv e2
  have h2 := sp_name_b (show p1 ≤ e by omega) e3
  obtain ⟨c, p3, e5, e6⟩ := b_inv e4
  have h3 := sp_byte_b (show p2 ≤ e by omega) e5
  have u : sp_up (sp_desc B e c p3) p3 e := by
    unfold sp_desc
    exact up_i (up_b (up_num h3.2) fun _ _ _ h => up_r h) (up_i (up_b (up_byte h3.2) fun _ p4 _ h4 => up_b (up_byte h4) fun _ _ _ h => up_r h) (up_i (up_b (up_byte h3.2) fun _ p4 _ h4 => up_b (lim_up h4) fun _ _ _ h => up_r h) (up_b (lim_up h3.2) fun _ _ _ h => up_r h)))
  have := u v p' e6
  omega
theorem sp_tb_b {B : Nat → Nat} {e p p' : Nat} {v : tTb} (hp : p ≤ e) (q : sp_tb B e p = .inr (v, p')) : p < p' ∧ p' ≤ e := by
  unfold sp_tb at q
  obtain ⟨a, p1, e1, e2⟩ := b_inv q
  have h1 := sp_byte_b hp e1
  have u : sp_up (sp_b (sp_lim B e p1) fun l p2 => (.inr ((a, l.1, l.2), p2) : sp_O tTb)) p1 e := up_b (lim_up h1.2) fun _ _ _ h => up_r h
  have := u v p' e2
  omega
theorem sp_mm_b {B : Nat → Nat} {e p p' : Nat} {v : tMm} (hp : p ≤ e) (q : sp_mm B e p = .inr (v, p')) : p < p' ∧ p' ≤ e := by
  unfold sp_mm sp_lim at q
  rw [sp_bb] at q
  obtain ⟨a, p1, e1, e2⟩ := b_inv q
  have h1 := sp_byte_b hp e1
  have u : sp_up (sp_b (sp_b (sp_num B e p1) fun v p2 => if a = 1 then sp_b (sp_num B e p2) fun w p3 => .inr ((v, Int64.ofNat w), p3) else .inr ((v, -1), p2)) fun (l : Nat × Int64) p2 => (.inr ((l.1, l.2), p2) : sp_O tMm)) p1 e := up_b (up_b (up_num h1.2) fun _ p6 _ h6 => up_i (up_b (up_num h6) fun _ p7 _ h7 => up_r h7) (up_r h6)) fun _ _ _ h => up_r h
  have := u v p' e2
  omega
theorem ex_up {B : Nat → Nat} {e p N : Nat} {d ob : Bool} {st : tSt} (h : p ≤ e) : sp_up (sp_ex B e d ob N st p) p e := fun v p' q => by have := up_ex_lt q; omega
theorem sp_gl_b {B : Nat → Nat} {e p p' : Nat} {d : Bool} {v : tGl} (hp : p ≤ e) (q : sp_gl B e d p = .inr (v, p')) : p < p' ∧ p' ≤ e := by
  unfold sp_gl at q
  obtain ⟨a, p1, e1, e2⟩ := b_inv q
  have h1 := sp_byte_b hp e1
  have u := (up_b (up_byte h1.2) fun g p2 _ h2 => up_b (ex_up h2) fun _ p3 _ h3 => up_r h3 : sp_up (sp_b (sp_byte (fun c => decide (c ≤ 1)) 7 B e p1) fun g p2 => sp_b (sp_ex B e d false (e + 1) [] p2) fun _ p3 => (.inr ((a, g, p2), p3) : sp_O tGl)) p1 e)
  have := u v p' e2
  omega
theorem sp_xp_b {B : Nat → Nat} {e p p' : Nat} {v : tXp} (hp : p ≤ e) (q : sp_xp B e p = .inr (v, p')) : p < p' ∧ p' ≤ e := by
  unfold sp_xp at q
  obtain ⟨a, p1, e1, e2⟩ := b_inv q
  have h1 := sp_name_b hp e1
  have u := (up_b (up_byte h1.2.2) fun t p2 _ h2 => up_b (up_num h2) fun v p3 _ h3 => up_r h3 : sp_up (sp_b (sp_byte (fun c => decide (c ≤ 3)) 7 B e p1) fun t p2 => sp_b (sp_num B e p2) fun v p3 => (.inr ((a, p1 - a, t, v), p3) : sp_O tXp)) p1 e)
  have := u v p' e2
  omega
theorem sp_da_b {B : Nat → Nat} {e p p' : Nat} {d : Bool} {v : tDa} (hp : p ≤ e) (q : sp_da B e d p = .inr (v, p')) : p < p' ∧ p' ≤ e := by
  unfold sp_da at q
  obtain ⟨a, p1, e1, e2⟩ := b_inv q
  have h1 := sp_num_b hp e1
  by_cases c2 : 2 < a
  · rw [if_pos c2] at e2; cases e2
  rw [if_neg c2] at e2
  obtain ⟨tb, p2, e3, e4⟩ := b_inv e2
  have h2 : p1 ≤ p2 ∧ p2 ≤ e := by
    unfold sp_daA at e3
    have u := (up_i (up_num h1.2) (up_r h1.2) : sp_up (if a = 2 then sp_num B e p1 else .inr (0, p1)) p1 e)
    exact u tb p2 e3
  obtain ⟨z, p3, e5, e6⟩ := b_inv e4
  have h3 : p2 ≤ p3 ∧ p3 ≤ e := by
    unfold sp_daB at e5
    have u := (up_i (up_r h2.2) (up_b (ex_up h2.2) fun _ _ _ h => up_r h) : sp_up (if a = 1 then .inr ((), p2) else sp_b (sp_ex B e d false (e + 1) [] p2) fun _ p1 => .inr ((), p1)) p2 e)
    exact u z p3 e5
  obtain ⟨sz, p4, e7, e8⟩ := b_inv e6
  have h4 := sp_num_b h3.2 e7
  split at e8
  · cases e8; omega
  · cases e8
theorem sp_el_b {B : Nat → Nat} {e p p' : Nat} {d : Bool} {v : tEl} (hp : p ≤ e) (q : sp_el B e d p = .inr (v, p')) : p < p' ∧ p' ≤ e := by
  unfold sp_el at q
  obtain ⟨a, p1, e1, e2⟩ := b_inv q
  have h1 := sp_num_b hp e1
  by_cases c7 : 7 < a
  · rw [if_pos c7] at e2; cases e2
  rw [if_neg c7] at e2
  unfold sp_elm at e2
  obtain ⟨x, p2, e3, e4⟩ := b_inv e2
  have h2 : p1 ≤ p2 ∧ p2 ≤ e := by
    unfold sp_elA at e3
    have u := (up_i (up_i (up_b (ex_up h1.2) fun _ _ _ h => up_r h) (up_b (up_num h1.2) fun _ p3 _ h3 => up_b (ex_up h3) fun _ _ _ h => up_r h)) (up_r h1.2) : sp_up (if a % 2 = 0 then (if a / 2 % 2 = 0 then sp_b (sp_ex B e d false (e + 1) [] p1) fun _ p3 => .inr ((0, 0, p1), p3) else sp_b (sp_num B e p1) fun t p3 => sp_b (sp_ex B e d false (e + 1) [] p3) fun _ p4 => .inr ((0, t, p3), p4)) else .inr ((if a / 2 % 2 = 0 then 1 else 2, 0, p1), p1) : sp_O (Nat × Nat × Nat)) p1 e)
    exact u x p2 e3
  obtain ⟨y, p3, e5, e6⟩ := b_inv e4
  have h3 : p2 ≤ p3 ∧ p3 ≤ e := by
    unfold sp_elB at e5
    have u := (up_i (up_b (up_num h2.2) fun _ _ _ h => up_r h) (up_i (up_b (up_byte h2.2) fun _ p4 _ h4 => up_b (up_num h4) fun _ _ _ h => up_r h) (up_b (up_byte h2.2) fun _ p4 _ h4 => up_b (up_num h4) fun _ _ _ h => up_r h)) : sp_up (if a = 0 ∨ a = 4 then sp_b (sp_num B e p2) fun c p1 => .inr ((112, c, p1), p1) else if a / 4 % 2 = 0 then sp_b (sp_byte (fun c => decide (c ≤ 0)) 7 B e p2) fun _ p1 => sp_b (sp_num B e p1) fun c p2 => .inr ((112, c, p2), p2) else sp_b (sp_byte sp_isR 8 B e p2) fun t p1 => sp_b (sp_num B e p1) fun c p2 => .inr ((t, c, p2), p2) : sp_O (Nat × Nat × Nat)) p2 e)
    exact u y p3 e5
  obtain ⟨l, p4, e7, e8⟩ := b_inv e6
  cases e8
  have h4 := rows_n (e := e) (fun p v p' z hz => by
    unfold sp_it at z
    by_cases c : a / 4 % 2 = 0
    · rw [if_pos c] at z; exact sp_num_b hz z
    · rw [if_neg c] at z
      obtain ⟨w, p5, e9, e10⟩ := b_inv z
      cases e10
      have := up_ex_lt e9
      omega) _ p3 l _ e7 h3.2
  omega
theorem sp_bo_b {B : Nat → Nat} {e p p' : Nat} {d : Bool} {v : tBo} (hp : p ≤ e) (q : sp_bo B e d p = .inr (v, p')) : p < p' ∧ p' ≤ e := by
  unfold sp_bo at q
  obtain ⟨a, p1, e1, e2⟩ := b_inv q
  have h1 := sp_num_b hp e1
  by_cases c : e < p1 + a
  · rw [if_pos c] at e2; cases e2
  rw [if_neg c] at e2
  obtain ⟨x, p2, e3, e4⟩ := b_inv e2
  by_cases c2 : p2 < p1 + a
  · rw [if_pos c2] at e4; cases e4
  rw [if_neg c2] at e4
  cases e4
  have h2 : p1 ≤ p' ∧ p' ≤ p1 + a := by
    unfold sp_bd at e3
    have u := (up_b (up_num (show p1 ≤ p1 + a by omega)) fun c p3 _ h3 => (fun v p' z => by
      obtain ⟨ls, p4, e5, e6⟩ := b_inv z
      have h4 := rows_n (e := p1 + a) (fun p v p' z hz => by
        unfold sp_lc at z
        obtain ⟨w, p5, e9, e10⟩ := b_inv z
        have h5 := sp_num_b hz e9
        obtain ⟨w2, p6, e11, e12⟩ := b_inv e10
        have h6 := sp_byte_b h5.2 e11
        cases e12
        omega) _ p3 ls p4 e5 h3
      split at e6
      · cases e6
      · obtain ⟨w, p7, e13, e14⟩ := b_inv e6
        cases e14
        have := up_ex_lt e13
        omega) : sp_up (sp_b (sp_num B (p1 + a) p1) fun c p3 => sp_b (sp_rows (sp_lc B (p1 + a)) c p3) fun ls p4 => if 4294967295 < sumL ls then .inl (12, p1) else sp_b (sp_ex B (p1 + a) d true (p1 + a + 1) [] p4) fun w p5 => (.inr ((p1, sumL ls, p4, p5 - 1, ls, w), p5) : sp_O tBo)) p1 (p1 + a))
    exact u v p' e3
  omega
section STEP
variable {h : pm_H} {n b mm me sh e p x N kept : Nat} {d : Bool} {B : Nat → Nat}
/-- an open section's state; x its array of kind k, w numbers a row, N rows ahead -/
def oS (h : pm_H) (n b mm me sh e x k j w N kept i : Nat) (d : Bool) (B : Nat → Nat) : Prop := lC h n b mm me e d false B ∧ dT h b mm me sh ∧ pm_R h mm j = some x ∧ pm_kd h x = k ∧ pm_ln h x = (N + kept) * w ∧ pm_I h 19 15 = Int32.ofNat i ∧ (4 ≤ j → j ≤ 7 → pm_I h 19 13 = Int32.ofNat N) ∧ N ≤ 40960 ∧ kept ≤ 40960 ∧ i ≤ 40960
/-- how a row is told -/
abbrev rS {α : Type} (P : pm_H → Nat → Nat → α → Prop) (x me sh w N e p : Nat) (l : List α) (bg : α → Bool) (h : pm_H) (q : Int32) : α → Nat → pm_H → Prop := fun a p' r => ∃ h', r = rc h' (Int32.ofNat p') 0 q ∧ rF x me sh h h' ∧ cQ P h' x w N (l ++ [a]) ∧ (∀ y, y < N * w → pm_I h' x y = pm_I h x y ∧ pm_L h' x y = pm_L h x y) ∧ p < p' ∧ p' ≤ e ∧ pm_I h' 19 5 = xv (pm_I h 19 5) (pm_I h 19 11) (bg a)
theorem gW_q {lo hi : Nat} {h' : pm_H} (xme : x ≠ me) (x9 : x ≠ 19) (g : gW me x lo hi h h') (y : Nat) (hy : ¬ (lo ≤ y ∧ y < hi)) : pm_I h' x y = pm_I h x y ∧ pm_L h' x y = pm_L h x y := ⟨g.2.2.2.2.1 x y (fun z => z.elim (fun z => z.elim xme (fun z => x9 z.1)) (fun z => hy z.2)), g.2.2.2.2.2 x y (fun z => z.elim (fun z => x9 z.1) (fun z => hy z.2))⟩

variable {i : Nat}
theorem rs_imp (L : oS h n b mm me sh e x 35 3 6 N kept i d B) {l : List tImp} (hi : i = l.length) (C : cQ pEnt h x 6 N l) (hk : p < e → l.length < kept) (hp : p ≤ e) (q : Int32) (hN0 : N = 0) : cs_Q wH (dF b mm me sh) (rS pEnt x me sh 6 N e p l (fun _ => false) h q) (fX9_importOne (rc h (Int32.ofNat p) 0 q) 19) (sp_imp B e p) := by
  obtain ⟨LC, T, r, kd, ln, i15, i13, n1, n2, n3⟩ := L
  have K9 : pm_kd h 19 = 9 := LC.1.1
  have x9 : x ≠ 19 := fun z => by rw [z, K9] at kd; exact absurd kd (by decide)
  have xme : x ≠ me := fun z => by rw [z, LC.2.1.2.1] at kd; exact absurd kd (by decide)
  have lnw : ∀ m, m < kept → (N + m) * 6 + 6 ≤ pm_ln h x := fun m hm => by rw [ln]; omega
  have EQ : i * 6 = (N + l.length) * 6 := by rw [hi, hN0, Nat.zero_add]
  have Q := cs_imp LC r kd (by rw [ln]; omega) i15 (by omega) hp q (fun z j hj => (C.2 (i * 6 + j) (by omega) (by omega)).2)
  rw [EQ] at Q
  refine u_w Q (fun h' z => dT_n T z) ?_
  rintro v p' r e1 ⟨h', er, g, W⟩
  have pp : p < p' ∧ p' ≤ e := sp_imp_b hp e1
  have hk' := hk (by omega)
  have gw : gW me x ((N + l.length) * 6) ((N + l.length) * 6 + 6) h h' := gW_D g (Nat.le_refl _)
  refine ⟨h', er, rF_W gw, cQ_app st_ent (nF_ln (nF_g gw)) (fun y hy => gW_q xme x9 gw y hy) C ?_, fun y hy => gW_q xme x9 gw y (fun z => by have := Nat.mul_le_mul_right 6 (show N ≤ N + l.length by omega); omega), pp.1, pp.2, ?_⟩
  · exact W (lnw _ hk')
  · rw [g.2.2.2.2.1 19 5 (fun z => z)]; rfl

theorem rs_fn (L : oS h n b mm me sh e x 35 4 6 N kept i d B) {l : List tImp} (hi : i = l.length) (C : cQ pEnt h x 6 N l) (hk : p < e → l.length < kept) (hp : p ≤ e) (q : Int32) : cs_Q wH (dF b mm me sh) (rS pEnt x me sh 6 N e p l (fun _ => false) h q) (fX9_own (rc h (Int32.ofNat p) 0 q) 19 (Int32.ofNat 0)) (sp_map (fun v : tFn => ((0, v, 0, -1, 0) : tImp)) (sp_fn B e p)) := by
  obtain ⟨LC, T, r, kd, ln, i15, i13, n1, n2, n3⟩ := L
  have K9 : pm_kd h 19 = 9 := LC.1.1
  have x9 : x ≠ 19 := fun z => by rw [z, K9] at kd; exact absurd kd (by decide)
  have xme : x ≠ me := fun z => by rw [z, LC.2.1.2.1] at kd; exact absurd kd (by decide)
  have lnw : ∀ m, m < kept → (N + m) * 6 + 6 ≤ pm_ln h x := fun m hm => by rw [ln]; omega
  have Q := cs_own LC (k := 0) (by decide) r kd (by rw [ln]; omega) i15 (i13 (by decide) (by decide)) (by omega) hp q (fun z j hj => (C.2 ((N + i) * 6 + j) (by rw [hi]; omega) (by omega)).2)
  rw [hi, desc_0] at Q
  refine u_w Q (fun h' z => dT_n T z) ?_
  rintro v p' r e1 ⟨h', er, g, W⟩
  have pp : p < p' ∧ p' ≤ e := sp_ms_b (fun v p' z => sp_fn_b hp z) e1
  have hk' := hk (by omega)
  have gw : gW me x ((N + l.length) * 6) ((N + l.length) * 6 + 6) h h' := gW_D g (Nat.le_refl _)
  refine ⟨h', er, rF_W gw, cQ_app st_ent (nF_ln (nF_g gw)) (fun y hy => gW_q xme x9 gw y hy) C ?_, fun y hy => gW_q xme x9 gw y (fun z => by have := Nat.mul_le_mul_right 6 (show N ≤ N + l.length by omega); omega), pp.1, pp.2, ?_⟩
  · exact W (lnw _ hk')
  · rw [g.2.2.2.2.1 19 5 (fun z => z)]; rfl

theorem rs_tb (L : oS h n b mm me sh e x 35 5 6 N kept i d B) {l : List tImp} (hi : i = l.length) (C : cQ pEnt h x 6 N l) (hk : p < e → l.length < kept) (hp : p ≤ e) (q : Int32) : cs_Q wH (dF b mm me sh) (rS pEnt x me sh 6 N e p l (fun _ => false) h q) (fX9_own (rc h (Int32.ofNat p) 0 q) 19 (Int32.ofNat 1)) (sp_map (fun v : tTb => ((1, v.1, v.2.1, v.2.2, 0) : tImp)) (sp_tb B e p)) := by
  obtain ⟨LC, T, r, kd, ln, i15, i13, n1, n2, n3⟩ := L
  have K9 : pm_kd h 19 = 9 := LC.1.1
  have x9 : x ≠ 19 := fun z => by rw [z, K9] at kd; exact absurd kd (by decide)
  have xme : x ≠ me := fun z => by rw [z, LC.2.1.2.1] at kd; exact absurd kd (by decide)
  have lnw : ∀ m, m < kept → (N + m) * 6 + 6 ≤ pm_ln h x := fun m hm => by rw [ln]; omega
  have Q := cs_own LC (k := 1) (by decide) r kd (by rw [ln]; omega) i15 (i13 (by decide) (by decide)) (by omega) hp q (fun z j hj => (C.2 ((N + i) * 6 + j) (by rw [hi]; omega) (by omega)).2)
  rw [hi, desc_1] at Q
  refine u_w Q (fun h' z => dT_n T z) ?_
  rintro v p' r e1 ⟨h', er, g, W⟩
  have pp : p < p' ∧ p' ≤ e := sp_ms_b (fun v p' z => sp_tb_b hp z) e1
  have hk' := hk (by omega)
  have gw : gW me x ((N + l.length) * 6) ((N + l.length) * 6 + 6) h h' := gW_D g (Nat.le_refl _)
  refine ⟨h', er, rF_W gw, cQ_app st_ent (nF_ln (nF_g gw)) (fun y hy => gW_q xme x9 gw y hy) C ?_, fun y hy => gW_q xme x9 gw y (fun z => by have := Nat.mul_le_mul_right 6 (show N ≤ N + l.length by omega); omega), pp.1, pp.2, ?_⟩
  · exact W (lnw _ hk')
  · rw [g.2.2.2.2.1 19 5 (fun z => z)]; rfl

theorem rs_mm (L : oS h n b mm me sh e x 35 6 6 N kept i d B) {l : List tImp} (hi : i = l.length) (C : cQ pEnt h x 6 N l) (hk : p < e → l.length < kept) (hp : p ≤ e) (q : Int32) : cs_Q wH (dF b mm me sh) (rS pEnt x me sh 6 N e p l (fun _ => false) h q) (fX9_own (rc h (Int32.ofNat p) 0 q) 19 (Int32.ofNat 2)) (sp_map (fun v : tMm => ((2, 0, v.1, v.2, 0) : tImp)) (sp_mm B e p)) := by
  obtain ⟨LC, T, r, kd, ln, i15, i13, n1, n2, n3⟩ := L
  have K9 : pm_kd h 19 = 9 := LC.1.1
  have x9 : x ≠ 19 := fun z => by rw [z, K9] at kd; exact absurd kd (by decide)
  have xme : x ≠ me := fun z => by rw [z, LC.2.1.2.1] at kd; exact absurd kd (by decide)
  have lnw : ∀ m, m < kept → (N + m) * 6 + 6 ≤ pm_ln h x := fun m hm => by rw [ln]; omega
  have Q := cs_own LC (k := 2) (by decide) r kd (by rw [ln]; omega) i15 (i13 (by decide) (by decide)) (by omega) hp q (fun z j hj => (C.2 ((N + i) * 6 + j) (by rw [hi]; omega) (by omega)).2)
  rw [hi, desc_2] at Q
  refine u_w Q (fun h' z => dT_n T z) ?_
  rintro v p' r e1 ⟨h', er, g, W⟩
  have pp : p < p' ∧ p' ≤ e := sp_ms_b (fun v p' z => sp_mm_b hp z) e1
  have hk' := hk (by omega)
  have gw : gW me x ((N + l.length) * 6) ((N + l.length) * 6 + 6) h h' := gW_D g (Nat.le_refl _)
  refine ⟨h', er, rF_W gw, cQ_app st_ent (nF_ln (nF_g gw)) (fun y hy => gW_q xme x9 gw y hy) C ?_, fun y hy => gW_q xme x9 gw y (fun z => by have := Nat.mul_le_mul_right 6 (show N ≤ N + l.length by omega); omega), pp.1, pp.2, ?_⟩
  · exact W (lnw _ hk')
  · rw [g.2.2.2.2.1 19 5 (fun z => z)]; rfl

theorem rs_gl (L : oS h n b mm me sh e x 35 7 6 N kept i d B) {l : List (tImp × Nat)} (hi : i = l.length) (C : cQ pGe h x 6 N l) (hk : p < e → l.length < kept) (hp : p ≤ e) (q : Int32) : cs_Q wH (dF b mm me sh) (rS pGe x me sh 6 N e p l (fun _ => false) h q) (fX9_own (rc h (Int32.ofNat p) 0 q) 19 (Int32.ofNat 3)) (sp_map (fun v : tGl => (((3, v.1, 0, -1, v.2.1), v.2.2) : tImp × Nat)) (sp_gl B e d p)) := by
  obtain ⟨LC, T, r, kd, ln, i15, i13, n1, n2, n3⟩ := L
  have K9 : pm_kd h 19 = 9 := LC.1.1
  have x9 : x ≠ 19 := fun z => by rw [z, K9] at kd; exact absurd kd (by decide)
  have xme : x ≠ me := fun z => by rw [z, LC.2.1.2.1] at kd; exact absurd kd (by decide)
  have lnw : ∀ m, m < kept → (N + m) * 6 + 6 ≤ pm_ln h x := fun m hm => by rw [ln]; omega
  have Q := cs_own3 LC r kd (by rw [ln]; omega) i15 (i13 (by decide) (by decide)) (by omega) hp q (fun z j hj => (C.2 ((N + i) * 6 + j) (by rw [hi]; omega) (by omega)).2)
  rw [hi, desc_3] at Q
  refine u_w Q (fun h' z => dT_n T z) ?_
  rintro v p' r e1 ⟨h', er, g, L5, W⟩
  have pp : p < p' ∧ p' ≤ e := sp_ms_b (fun v p' z => sp_gl_b hp z) e1
  have hk' := hk (by omega)
  have gw : gW me x ((N + l.length) * 6) ((N + l.length) * 6 + 6) h h' := g
  refine ⟨h', er, rF_W gw, cQ_app st_ge (nF_ln (nF_g gw)) (fun y hy => gW_q xme x9 gw y hy) C ?_, fun y hy => gW_q xme x9 gw y (fun z => by have := Nat.mul_le_mul_right 6 (show N ≤ N + l.length by omega); omega), pp.1, pp.2, ?_⟩
  · obtain ⟨w1, w2, w3, w4⟩ := W (lnw _ hk')
    have v3 : v.1.1 = 3 := sp_ms_v (P := fun v => v.1.1 = 3) (fun _ => rfl) e1
    exact ⟨by rw [w1, v3]; rfl, w2, w3, w4⟩
  · exact L5

theorem rs_xp (L : oS h n b mm me sh e x 34 8 4 N kept i d B) {l : List tXp} (hi : i = l.length) (C : cQ pXpC h x 4 N l) (hk : p < e → l.length < kept) (hp : p ≤ e) (q : Int32) (hN0 : N = 0) : cs_Q wH (dF b mm me sh) (rS pXpC x me sh 4 N e p l (fun _ => false) h q) (fX9_exportOne (rc h (Int32.ofNat p) 0 q) 19) (sp_xp B e p) := by
  obtain ⟨LC, T, r, kd, ln, i15, i13, n1, n2, n3⟩ := L
  have K9 : pm_kd h 19 = 9 := LC.1.1
  have x9 : x ≠ 19 := fun z => by rw [z, K9] at kd; exact absurd kd (by decide)
  have xme : x ≠ me := fun z => by rw [z, LC.2.1.2.1] at kd; exact absurd kd (by decide)
  have lnw : ∀ m, m < kept → (N + m) * 4 + 4 ≤ pm_ln h x := fun m hm => by rw [ln]; omega
  have EQ : i * 4 = (N + l.length) * 4 := by rw [hi, hN0, Nat.zero_add]
  have Q := cs_xp LC r kd (by rw [ln]; omega) i15 (by omega) hp q
  rw [EQ] at Q
  refine u_w Q (fun h' z => dT_n T z) ?_
  rintro v p' r e1 ⟨h', er, g, L5, W⟩
  have pp : p < p' ∧ p' ≤ e := sp_xp_b hp e1
  have hk' := hk (by omega)
  have gw : gW me x ((N + l.length) * 4) ((N + l.length) * 4 + 4) h h' := g
  refine ⟨h', er, rF_W gw, cQ_app st_xp (nF_ln (nF_g gw)) (fun y hy => gW_q xme x9 gw y hy) C ?_, fun y hy => gW_q xme x9 gw y (fun z => by have := Nat.mul_le_mul_right 4 (show N ≤ N + l.length by omega); omega), pp.1, pp.2, ?_⟩
  · exact W (lnw _ hk')
  · exact L5

theorem rs_el (L : oS h n b mm me sh e x 34 9 7 N kept i d B) {l : List tEl} (hi : i = l.length) (C : cQ pElC h x 7 N l) (hk : p < e → l.length < kept) (hp : p ≤ e) (q : Int32) (hN0 : N = 0) : cs_Q wH (dF b mm me sh) (rS pElC x me sh 7 N e p l (fun _ => false) h q) (fX9_element (rc h (Int32.ofNat p) 0 q) 19) (sp_el B e d p) := by
  obtain ⟨LC, T, r, kd, ln, i15, i13, n1, n2, n3⟩ := L
  have K9 : pm_kd h 19 = 9 := LC.1.1
  have x9 : x ≠ 19 := fun z => by rw [z, K9] at kd; exact absurd kd (by decide)
  have xme : x ≠ me := fun z => by rw [z, LC.2.1.2.1] at kd; exact absurd kd (by decide)
  have lnw : ∀ m, m < kept → (N + m) * 7 + 7 ≤ pm_ln h x := fun m hm => by rw [ln]; omega
  have EQ : i * 7 = (N + l.length) * 7 := by rw [hi, hN0, Nat.zero_add]
  have Q := cs_el LC r kd (by rw [ln]; omega) i15 (by omega) hp q (fun z => (C.2 (i * 7 + 1) (by omega) (by omega)).1)
  refine u_w Q (fun h' z => dT_n T z) ?_
  rintro v p' r e1 ⟨h', er, g, L5, W⟩
  rw [EQ] at g W
  have pp : p < p' ∧ p' ≤ e := sp_el_b hp e1
  have hk' := hk (by omega)
  have gw : gW me x ((N + l.length) * 7) ((N + l.length) * 7 + 7) h h' := g
  refine ⟨h', er, rF_W gw, cQ_app st_el (nF_ln (nF_g gw)) (fun y hy => gW_q xme x9 gw y hy) C ?_, fun y hy => gW_q xme x9 gw y (fun z => by have := Nat.mul_le_mul_right 7 (show N ≤ N + l.length by omega); omega), pp.1, pp.2, ?_⟩
  · exact W (lnw _ hk')
  · exact L5

theorem rs_da (L : oS h n b mm me sh e x 34 10 7 N kept i d B) {l : List tDa} (hi : i = l.length) (C : cQ pDaC h x 7 N l) (hk : p < e → l.length < kept) (hp : p ≤ e) (q : Int32) (hN0 : N = 0) : cs_Q wH (dF b mm me sh) (rS pDaC x me sh 7 N e p l (fun _ => false) h q) (fX9_dataOne (rc h (Int32.ofNat p) 0 q) 19) (sp_da B e d p) := by
  obtain ⟨LC, T, r, kd, ln, i15, i13, n1, n2, n3⟩ := L
  have K9 : pm_kd h 19 = 9 := LC.1.1
  have x9 : x ≠ 19 := fun z => by rw [z, K9] at kd; exact absurd kd (by decide)
  have xme : x ≠ me := fun z => by rw [z, LC.2.1.2.1] at kd; exact absurd kd (by decide)
  have lnw : ∀ m, m < kept → (N + m) * 7 + 7 ≤ pm_ln h x := fun m hm => by rw [ln]; omega
  have EQ : i * 7 = (N + l.length) * 7 := by rw [hi, hN0, Nat.zero_add]
  have Q := cs_da LC r kd (by rw [ln]; omega) i15 (by omega) hp q (fun z => (C.2 (i * 7 + 1) (by omega) (by omega)).1)
  refine u_w Q (fun h' z => dT_n T z) ?_
  rintro v p' r e1 ⟨h', er, g, L5, W⟩
  rw [EQ] at g W
  have pp : p < p' ∧ p' ≤ e := sp_da_b hp e1
  have hk' := hk (by omega)
  have gw : gW me x ((N + l.length) * 7) ((N + l.length) * 7 + 7) h h' := g
  refine ⟨h', er, rF_W gw, cQ_app st_da (nF_ln (nF_g gw)) (fun y hy => gW_q xme x9 gw y hy) C ?_, fun y hy => gW_q xme x9 gw y (fun z => by have := Nat.mul_le_mul_right 7 (show N ≤ N + l.length by omega); omega), pp.1, pp.2, ?_⟩
  · exact W (lnw _ hk')
  · exact L5

theorem rs_bo (L : oS h n b mm me sh e x 34 11 2 N kept i d B) {l : List tBo} (hi : i = l.length) (C : cQ pBoC h x 2 N l) (hk : p < e → l.length < kept) (hp : p ≤ e) (q : Int32) (hN0 : N = 0) : cs_Q wH (dF b mm me sh) (rS pBoC x me sh 2 N e p l bigB h q) (fX9_body (rc h (Int32.ofNat p) 0 q) 19) (sp_bo B e d p) := by
  obtain ⟨LC, T, r, kd, ln, i15, i13, n1, n2, n3⟩ := L
  have K9 : pm_kd h 19 = 9 := LC.1.1
  have x9 : x ≠ 19 := fun z => by rw [z, K9] at kd; exact absurd kd (by decide)
  have xme : x ≠ me := fun z => by rw [z, LC.2.1.2.1] at kd; exact absurd kd (by decide)
  have lnw : ∀ m, m < kept → (N + m) * 2 + 2 ≤ pm_ln h x := fun m hm => by rw [ln]; omega
  have EQ : 2 * i = (N + l.length) * 2 := by rw [hi, hN0, Nat.zero_add, Nat.mul_comm]
  have Q := cs_bo LC r kd (by rw [ln]; omega) i15 (by omega) hp q
  refine u_w Q (fun h' z => dT_n T z) ?_
  rintro v p' r e1 ⟨h', er, g, L5, W⟩
  rw [EQ] at g W
  have pp : p < p' ∧ p' ≤ e := sp_bo_b hp e1
  have hk' := hk (by omega)
  have gw : gW me x ((N + l.length) * 2) ((N + l.length) * 2 + 2) h h' := g
  refine ⟨h', er, rF_W gw, cQ_app st_bo (nF_ln (nF_g gw)) (fun y hy => gW_q xme x9 gw y hy) C ?_, fun y hy => gW_q xme x9 gw y (fun z => by have := Nat.mul_le_mul_right 2 (show N ≤ N + l.length by omega); omega), pp.1, pp.2, ?_⟩
  · exact W (lnw _ hk')
  · exact L5

end STEP
