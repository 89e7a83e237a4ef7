/-! THE REFERENCE CHECKS: is what an instruction names there -/
def iN (b : Bool) : Int32 := if b = true then 1 else 0
/-- the body b' of type t is checked: a; what is declared -/
def vB (h : pm_H) (m eo el : Nat) (M : tMd) (b' t : Nat) (a : tBo) (Dc : Nat → Bool) : Prop := pm_I h 592 29 = Int32.ofNat b' ∧ pm_I h 592 30 = Int32.ofNat t ∧ M.2.2.2.2.2.2.2.2.2.1[b']? = some a ∧ M.2.2.2.2.2.2.2.2.2.1.length ≤ 64 ∧ a.2.1 = sumL a.2.2.2.2.1 ∧ a.2.1 ≤ 1000 ∧ t < M.1.length ∧ ∀ f, f < 128 → pm_I h 598 f = iN (Dc f)
/-- all that is known of a module without limits exceeded -/
def vG (B : Nat → Nat) (n : Nat) (D : Bool) (M : tMd) : Prop := gd B n D M ∧ M.2.2.2.2.2.2.2.2.2.2.2.2.2 = none
theorem vG_T {B : Nat → Nat} {n : Nat} {D : Bool} {M : tMd} (G : vG B n D M) : vTy M := by
  obtain ⟨g, e⟩ := G
  have l := g.2.2.2.2.2.2.2.2.2.2.2.1 e
  refine ⟨l.1, fun a ha => ⟨g.1 a ha, ?_⟩⟩
  have := or_f (l.2 a ha)
  exact ⟨Nat.not_lt.mp (of_decide_eq_false this.1), Nat.not_lt.mp (of_decide_eq_false this.2)⟩
theorem vG_L {B : Nat → Nat} {n : Nat} {D : Bool} {M : tMd} (G : vG B n D M) : vL M := by
  obtain ⟨g, e⟩ := G
  obtain ⟨-, l2, l3, l4, l5, l6, l7, l8, l9, -⟩ := g.2.2.2.2.2.2.2.2.2.2.2
  exact ⟨l2 e, l3 e, l4 e, l5 e, l6 e, l7 e, l8 e, l9 e⟩
theorem k_cmp {σ : Type} {s : σ → Option (σ ⊕ (Int32 × pm_H))} {X Y : Int64} {a x : Nat} (H : pm_H) (eX : X = Int64.ofNat a) (eY : Y = Int64.ofNat x) (ha : a < 4294967296) (hx : x < 4294967296) : ev_k s (if X ≤ Y then some (.inr (0, H)) else some (.inr (1, H))) = some (iN (decide (x < a)), H) := by
  rw [eX, eY]
  by_cases c : x < a
  · rw [decide_eq_true c]; exact k_f (by rw [ll_le (by omega) (by omega)]; omega) rfl
  · rw [decide_eq_false c]; exact k_t (by rw [ll_le (by omega) (by omega)]; omega) rfl
theorem k_ps {σ : Type} {s : σ → Option (σ ⊕ (Int32 × pm_H))} {X : Int32} {a : Nat} (H : pm_H) (eX : X = Int32.ofNat a) (ha : a < 2147483648) : ev_k s (if X ≤ 0 then some (.inr (0, H)) else some (.inr (1, H))) = some (iN (decide (0 < a)), H) := by
  rw [eX]
  by_cases c : 0 < a
  · rw [decide_eq_true c]; exact k_f (by rw [n3_0, nn_le (by omega) (by omega)]; omega) rfl
  · rw [decide_eq_false c]; exact k_t (by rw [n3_0, nn_le (by omega) (by omega)]; omega) rfl
theorem e9_cmp {X Y : Int64} {a x : Nat} (H : pm_H) (eX : X = Int64.ofNat a) (eY : Y = Int64.ofNat x) (ha : a < 4294967296) (hx : x < 4294967296) : (if X ≤ Y then some ((0 : Int32), H) else some ((1 : Int32), H)) = some (iN (decide (x < a)), H) := by
  rw [eX, eY]
  by_cases c : x < a
  · rw [decide_eq_true c]; exact e9_f (by rw [ll_le (by omega) (by omega)]; omega) rfl
  · rw [decide_eq_false c]; exact e9_t (by rw [ll_le (by omega) (by omega)]; omega) rfl
theorem e9_ps {X : Int32} {a : Nat} (H : pm_H) (eX : X = Int32.ofNat a) (ha : a < 2147483648) : (if X ≤ 0 then some ((0 : Int32), H) else some ((1 : Int32), H)) = some (iN (decide (0 < a)), H) := by
  rw [eX]
  by_cases c : 0 < a
  · rw [decide_eq_true c]; exact e9_f (by rw [n3_0, nn_le (by omega) (by omega)]; omega) rfl
  · rw [decide_eq_false c]; exact e9_t (by rw [n3_0, nn_le (by omega) (by omega)]; omega) rfl
theorem some_d {α : Type} (l : List α) (x : Nat) : l[x]?.isSome = decide (x < l.length) := by
  by_cases c : x < l.length
  · rw [List.getElem?_eq_getElem c, decide_eq_true c]; rfl
  · rw [List.getElem?_eq_none (by omega), decide_eq_false c]; rfl
section VNAMED
variable {h : pm_H} {n b m eo el p p2 b' t : Nat} {B : Nat → Nat} {M : tMd} {K : tK} {D : Bool} {Dc : Nat → Bool} {a : tBo} {v : sp_I}
theorem v_nums (C : vC h n b m eo el B M) (V : vK h p K) (W : wfK M K) {x : Nat} (hx : x < 4294967296) : ∀ (j k p1 p2 : Nat) (l : List Nat) (g : Bool), k + j = x + 1 → sp_rows (sp_num B n) j p1 = .inr (l, p2) → pm_lim sX16_isNamed (.inr (.inr (592, Int64.ofNat x, iN g, Int64.ofNat k, lk h p1))) = some (iN (g && !l.any fun y => decide (K.2.1.length ≤ y)), lk h p2) := by
  have w5 := W.2.2.2.2
  intro j
  induction j with
  | zero =>
    intro k p1 p2 l g hk q
    cases q
    refine k_w (aX16_isNamed_2 ..) ?_
    unfold tX16_isNamed_87
    refine k_t (by rw [ll_lt (by omega) (by omega)]; omega) (k_t (by cases g; exact .inl rfl; exact .inr rfl) ?_)
    rw [show ([] : List Nat).any (fun y => decide (K.2.1.length ≤ y)) = false from rfl]
    cases g <;> rfl
  | succ j ih =>
    intro k p1 p2 l g hk q
    obtain ⟨y, p3, e1, e2⟩ := b_inv q
    obtain ⟨l', p4, e3, e4⟩ := b_inv e2
    cases e4
    have y4 := sp_num_v C.1.2.2.2.2.2.2.2.2.2 e1
    have e24 : pm_I (lk h p3) 592 24 = Int32.ofNat K.2.1.length := by rw [ev_II, if_pos rfl, if_neg (by decide)]; exact V.2.1
    refine k_w (aX16_isNamed_2 ..) ?_
    unfold tX16_isNamed_87
    refine k_f (by rw [ll_lt (by omega) (by omega)]; omega) (k_t C.1.1 (k_b (mw_word C.1 (Nat.le_refl n) e1) (k_t C.1.1 ?_)))
    have I := ih (k + 1) p3 p2 l'
    have ek : Int64.ofNat k + 1 = Int64.ofNat (k + 1) := ll_ad _ 1
    by_cases c : K.2.1.length ≤ y
    · have r := I false (by omega) e3
      have any : (y :: l').any (fun y => decide (K.2.1.length ≤ y)) = true := by rw [List.any_cons, decide_eq_true c, Bool.true_or]
      rw [any]
      have fin : some (iN (false && !l'.any fun y => decide (K.2.1.length ≤ y)), lk h p2) = some (iN (g && !true), lk h p2) := by rw [Bool.false_and, Bool.not_true, Bool.and_false]
      rw [fin] at r
      refine k_t (by rw [e24, nn_t6 (by omega), ll_le (by omega) (by omega)]; exact c) ?_
      cases g with
      | false => exact k_t rfl (k_l (by rw [ek]; exact k_n r))
      | true => exact k_f (by decide) (k_t rfl (k_l (by rw [ek]; exact k_n r)))
    · have r := I g (by omega) e3
      have any : (y :: l').any (fun y => decide (K.2.1.length ≤ y)) = l'.any (fun y => decide (K.2.1.length ≤ y)) := by rw [List.any_cons, decide_eq_false c, Bool.false_or]
      rw [any]
      refine k_f (by rw [e24, nn_t6 (by omega), ll_le (by omega) (by omega)]; exact c) ?_
      cases g with
      | false => exact k_t rfl (k_l (by rw [ek]; exact k_n r))
      | true => exact k_f (by decide) (k_f (by decide) (k_l (by rw [ek]; exact k_n r)))
end VNAMED
