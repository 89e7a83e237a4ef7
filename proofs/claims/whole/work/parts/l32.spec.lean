/-! PART II: a module as it is checked -/
def cT (M : tMd) (v : sp_I) : Nat := if 65 ≤ v.1 ∧ v.1 ≤ 68 then 192 - v.1 else if v.1 = 208 then v.2.1.toNatClampNeg else if v.1 = 210 then 112 else if v.1 = 35 then (match (ofK 3 M.2.1)[v.2.1.toNatClampNeg]? with
    | none => 0
    | some g => if g.2.2.2.2 = 0 then g.2.1 else 0) else 0
/-- the instructions of a constant expression: how many values, the last one's type, the first 210 of no function -/
def cRun (B : Nat → Nat) (n : Nat) (D : Bool) (M : tMd) : Nat → Nat → Nat → Nat → sp_O (Nat × Nat × Option Nat)
  | 0, _, _, _ => .inl (0, 0)
  | N + 1, p, k, g => sp_b (sp_in B n D p) fun v p2 => if v.1 = 11 then .inr ((k, g, none), p) else if cT M v = 0 then .inl (26, p) else sp_b (cRun B n D M N p2 (k + 1) (cT M v)) fun r e => .inr ((r.1, r.2.1, if v.1 = 210 ∧ (spF M).length ≤ v.2.1.toNatClampNeg then some p else r.2.2), e)
def sp_con (B : Nat → Nat) (n : Nat) (D : Bool) (M : tMd) (p ty : Nat) : sp_O Unit := sp_b (cRun B n D M (n + 1) p 0 0) fun r e => match r.2.2 with
  | some q => .inl (28, q)
  | none => if r.1 = 1 ∧ r.2.1 = ty then .inr ((), e + 1) else .inl (27, e)
def sp_cons (B : Nat → Nat) (n : Nat) (D : Bool) (M : tMd) (ty : Nat) : Nat → Nat → sp_O Unit
  | 0, p => .inr ((), p)
  | j + 1, p => sp_b (sp_con B n D M p ty) fun _ p2 => sp_cons B n D M ty j p2
/-- the functions that an expression names, and the place behind it -/
def dRun (B : Nat → Nat) (n : Nat) (D : Bool) : Nat → Nat → Nat → List Nat × Nat
  | 0, _, p => ([], p)
  | N + 1, k, p => match sp_in B n D p with
    | .inl _ => ([], p)
    | .inr (v, p2) => if v.1 = 11 ∧ k = 0 then ([], p + 1) else ((if v.1 = 210 then v.2.1.toNatClampNeg :: (dRun B n D N (if 2 ≤ v.1 ∧ v.1 ≤ 4 then k + 1 else if v.1 = 11 then k - 1 else k) p2).1 else (dRun B n D N (if 2 ≤ v.1 ∧ v.1 ≤ 4 then k + 1 else if v.1 = 11 then k - 1 else k) p2).1), (dRun B n D N (if 2 ≤ v.1 ∧ v.1 ≤ 4 then k + 1 else if v.1 = 11 then k - 1 else k) p2).2)
def dEx (B : Nat → Nat) (n : Nat) (D : Bool) (p : Nat) : List Nat × Nat := dRun B n D (n + 1) 0 p
def dExs (B : Nat → Nat) (n : Nat) (D : Bool) : Nat → Nat → List Nat
  | 0, _ => []
  | j + 1, p => (dEx B n D p).1 ++ dExs B n D j (dEx B n D p).2
def dcE (B : Nat → Nat) (n : Nat) (D : Bool) (a : tEl) : List Nat := (if a.2.1.1 = 0 then (dEx B n D a.2.1.2.2).1 else []) ++ (if a.1 / 4 % 2 = 0 then a.2.2.2 else dExs B n D a.2.2.1.2.1 a.2.2.1.2.2)
/-- all functions that are declared -/
def dAll (B : Nat → Nat) (n : Nat) (D : Bool) (M : tMd) : List Nat := (M.2.2.2.2.2.1.flatMap fun a => (dEx B n D a.2.2).1) ++ (M.2.2.2.2.2.2.2.1.flatMap fun a => dcE B n D a) ++ (M.2.2.2.2.2.2.1.filter fun a => decide (a.2.2.1 = 0)).map fun a => a.2.2.2
def dCl (B : Nat → Nat) (n : Nat) (D : Bool) (M : tMd) (f : Nat) : Bool := decide (f ∈ dAll B n D M)
/-- where a section stands; -1 where there is none -/
def sS (M : tMd) (i : Nat) : Nat := match M.2.2.2.2.2.2.2.2.2.2.2.2.1 i with
  | some x => x
  | none => 4294967295
def lmB (lo : Nat) (hi : Int64) (pg : Bool) : Bool := (decide (0 ≤ hi) && decide (hi < Int64.ofNat lo)) || (pg && (decide (65536 < lo) || decide (65536 < hi)))
def spL (M : tMd) (k : Nat) : Nat := if k = 0 then (spF M).length else if k = 1 then (spT M).length else if k = 2 then (spM M).length else (spG M).length
def xSm (B : Nat → Nat) (x y : tXp) : Bool := decide (x.2.1 = y.2.1) && decide (∀ k, k < x.2.1 → B (x.1 + k) = B (y.1 + k))
/-- exports: 24 and 23, in their order; ps are those ahead -/
def sp_xpC (B : Nat → Nat) (M : tMd) (ps : List tXp) : List tXp → Option Nat
  | [] => none
  | x :: l => if spL M x.2.2.1 ≤ x.2.2.2 then some 24 else if ps.any (fun y => xSm B x y) = true then some 23 else sp_xpC B M (ps ++ [x]) l
def stB (M : tMd) : Bool := match M.2.2.2.2.2.2.2.2.2.2.1 with
  | none => false
  | some x => match (spF M)[x]? with
    | none => true
    | some f => decide (0 < (M.1.getD f.2.1 ([], [])).1.length + (M.1.getD f.2.1 ([], [])).2.length)
def sp_gls (B : Nat → Nat) (n : Nat) (D : Bool) (M : tMd) : List tGl → sp_O Unit
  | [] => .inr ((), 0)
  | a :: l => sp_b (sp_con B n D M a.2.2 a.1) fun _ _ => sp_gls B n D M l
def sp_elt (M : tMd) (a : tEl) : Bool := match (spT M)[a.2.1.2.1]? with
  | none => true
  | some t => decide (t.2.1 ≠ a.2.2.1.1)
def sp_elC (B : Nat → Nat) (n : Nat) (D : Bool) (M : tMd) (a : tEl) : sp_O Unit := if a.1 / 4 % 2 = 0 ∧ a.2.2.2.any (fun f => decide ((spF M).length ≤ f)) = true then .inl (28, sS M 9) else if a.2.1.1 = 0 ∧ sp_elt M a = true then .inl (28, sS M 9) else sp_b (if a.2.1.1 = 0 then sp_con B n D M a.2.1.2.2 127 else .inr ((), 0)) fun _ _ => if a.1 / 4 % 2 = 0 then .inr ((), 0) else sp_cons B n D M a.2.2.1.1 a.2.2.1.2.1 a.2.2.1.2.2
def sp_els (B : Nat → Nat) (n : Nat) (D : Bool) (M : tMd) : List tEl → sp_O Unit
  | [] => .inr ((), 0)
  | a :: l => sp_b (sp_elC B n D M a) fun _ _ => sp_els B n D M l
def sp_daC (B : Nat → Nat) (n : Nat) (D : Bool) (M : tMd) (a : tDa) : sp_O Unit := if a.1 = 1 then .inr ((), 0) else if (spM M).length ≤ a.2.1 then .inl (28, sS M 11) else sp_con B n D M a.2.2.1 127
def sp_das (B : Nat → Nat) (n : Nat) (D : Bool) (M : tMd) : List tDa → sp_O Unit
  | [] => .inr ((), 0)
  | a :: l => sp_b (sp_daC B n D M a) fun _ _ => sp_das B n D M l
def sp_bds (B : Nat → Nat) (n : Nat) (D : Bool) (M : tMd) (Dc : Nat → Bool) : List tFn → List tBo → sp_O (List (Nat × tK))
  | t :: l, a :: k => sp_b (kBody B n D M Dc t a) fun v _ => sp_b (sp_bds B n D M Dc l k) fun r _ => .inr (v :: r, 0)
  | _, _ => .inr ([], 0)
/-- of what is told without expressions: the number, the section -/
def sp_hdC (B : Nat → Nat) (M : tMd) : Option (Nat × Nat) :=
  if M.2.1.any (fun a => decide (a.1 = 0) && decide (M.1.length ≤ a.2.1)) = true then some (20, 2)
  else if M.2.2.1.any (fun a => decide (M.1.length ≤ a)) = true then some (20, 3)
  else if M.2.1.any (fun a => (decide (a.1 = 1) || decide (a.1 = 2)) && lmB a.2.2.1 a.2.2.2.1 (decide (a.1 = 2))) = true then some (21, 2)
  else if M.2.2.2.1.any (fun a => lmB a.2.1 a.2.2 false) = true then some (21, 4)
  else if M.2.2.2.2.1.any (fun a => lmB a.1 a.2 true) = true then some (21, 5)
  else if 1 < (spM M).length then some (22, if isS (M.2.2.2.2.2.2.2.2.2.2.2.2.1 5) = true then 5 else 2)
  else match sp_xpC B M [] M.2.2.2.2.2.2.1 with
    | some w => some (w, 7)
    | none => if stB M = true then some (25, 8) else none
def sp_chk (B : Nat → Nat) (n : Nat) (D : Bool) (M : tMd) : sp_O (List (Nat × tK)) := match M.2.2.2.2.2.2.2.2.2.2.2.2.2 with
  | some pl => .inl (40, pl)
  | none => match sp_hdC B M with
    | some w => .inl (w.1, sS M w.2)
    | none => sp_b (sp_gls B n D M M.2.2.2.2.2.1) fun _ _ => sp_b (sp_els B n D M M.2.2.2.2.2.2.2.1) fun _ _ => sp_b (sp_das B n D M M.2.2.2.2.2.2.2.2.1) fun _ _ => sp_bds B n D M (dCl B n D M) M.2.2.1 M.2.2.2.2.2.2.2.2.2.1
theorem any_dr {α : Type} {f : α → Bool} {l : List α} {i : Nat} {a : α} (h : l[i]? = some a) : (l.drop i).any f = (f a || (l.drop (i + 1)).any f) := by
  obtain ⟨hl, e⟩ := List.getElem?_eq_some_iff.mp h
  rw [List.drop_eq_getElem_cons hl, List.any_cons, e]
/-- a loop over rows that stops at the first bad one -/
theorem lp_any {σ α β ρ : Type} {s : σ → Option (σ ⊕ ((Nat × pm_H) ⊕ ρ))} {F : pm_H → Prop} {R : β → Nat → ρ → Prop} {o : sp_O β} {w : Nat × Nat} {st : Nat → σ} {l : List α} {f : α → Bool} (hs : ∀ i a, l[i]? = some a → (f a = true → ms_Q F R (pm_lim s (st i)) (.inl w)) ∧ (f a = false → pm_lim s (st i) = pm_lim s (st (i + 1)))) (he : ms_Q F R (pm_lim s (st l.length)) o) : ms_Q F R (pm_lim s (st 0)) (if l.any f = true then .inl w else o) := by
  have key : ∀ j i, i + j = l.length → ms_Q F R (pm_lim s (st i)) (if (l.drop i).any f = true then .inl w else o) := by
    intro j
    induction j with
    | zero =>
      intro i hi
      rw [show i = l.length by omega, List.drop_length]
      exact he
    | succ j ih =>
      intro i hi
      have hl : i < l.length := by omega
      have ea := List.getElem?_eq_getElem hl
      obtain ⟨h1, h2⟩ := hs i _ ea
      rw [any_dr ea]
      cases e : f l[i] with
      | true => exact h1 e
      | false =>
        rw [h2 e]
        exact ih (i + 1) (by omega)
  have k := key l.length 0 (Nat.zero_add _)
  rwa [List.drop_zero] at k
theorem sS_3 (M : tMd) (i : Nat) : Int32.ofNat (sS M i) = on3 (M.2.2.2.2.2.2.2.2.2.2.2.2.1 i) := by
  unfold sS
  cases M.2.2.2.2.2.2.2.2.2.2.2.2.1 i with
  | none => rfl
  | some x => rfl
