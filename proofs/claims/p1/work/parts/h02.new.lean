/-! CONSTRUCTORS, second: what a new object is, told by facts -/
/-- a cell with nothing in it -/
def pe_Z (h : pm_H) (x q n : Nat) : Prop := pm_kd h x = q ∧ pm_ln h x = n ∧ (∀ y, pm_I h x y = 0) ∧ (∀ y, pm_L h x y = 0) ∧ (∀ y, pm_R h x y = none)
/-- a cell that stayed as it was -/
def pe_E (h h' : pm_H) (x : Nat) : Prop := pm_kd h' x = pm_kd h x ∧ pm_ln h' x = pm_ln h x ∧ (∀ y, pm_I h' x y = pm_I h x y) ∧ (∀ y, pm_L h' x y = pm_L h x y) ∧ (∀ y, pm_R h' x y = pm_R h x y)
/-- what was there stayed, a's fields aside -/
def pe_K (h h' : pm_H) (a : Nat) : Prop := pm_sz h ≤ pm_sz h' ∧ pm_kd h' a = pm_kd h a ∧ pm_ln h' a = pm_ln h a ∧ ∀ x, x < pm_sz h → x ≠ a → pe_E h h' x
theorem pe_E_r (h : pm_H) (x : Nat) : pe_E h h x := ⟨rfl, rfl, fun _ => rfl, fun _ => rfl, fun _ => rfl⟩
theorem pe_E_t {h1 h2 h3 : pm_H} {x : Nat} (p : pe_E h1 h2 x) (q : pe_E h2 h3 x) : pe_E h1 h3 x := ⟨q.1.trans p.1, q.2.1.trans p.2.1, fun y => (q.2.2.1 y).trans (p.2.2.1 y), fun y => (q.2.2.2.1 y).trans (p.2.2.2.1 y), fun y => (q.2.2.2.2 y).trans (p.2.2.2.2 y)⟩
theorem pe_E_Z {h h' : pm_H} {x q n : Nat} (p : pe_E h h' x) (z : pe_Z h x q n) : pe_Z h' x q n := ⟨p.1.trans z.1, p.2.1.trans z.2.1, fun y => (p.2.2.1 y).trans (z.2.2.1 y), fun y => (p.2.2.2.1 y).trans (z.2.2.2.1 y), fun y => (p.2.2.2.2 y).trans (z.2.2.2.2 y)⟩
theorem pe_K_Z {h h' : pm_H} {a x q n : Nat} (p : pe_K h h' a) (z : pe_Z h x q n) (hx : x < pm_sz h) (ha : x ≠ a) : pe_Z h' x q n := pe_E_Z (p.2.2.2 x hx ha) z
theorem pe_K_r (h : pm_H) (a : Nat) : pe_K h h a := ⟨Nat.le_refl _, rfl, rfl, fun x _ _ => pe_E_r h x⟩
theorem pe_K_t {h1 h2 h3 : pm_H} {a b : Nat} (ha : a < pm_sz h1) (p : pe_K h1 h2 a) (q : pe_K h2 h3 b) (hb : b = a ∨ pm_sz h1 ≤ b) : pe_K h1 h3 a := by
  refine ⟨Nat.le_trans p.1 q.1, ?_, ?_, fun x hx hxa => pe_E_t (p.2.2.2 x hx hxa) (q.2.2.2 x (Nat.lt_of_lt_of_le hx p.1) ?_)⟩
  · rcases hb with e | e
    · subst e; exact q.2.1.trans p.2.1
    · exact (q.2.2.2 a (Nat.lt_of_lt_of_le ha p.1) (by omega)).1.trans p.2.1
  · rcases hb with e | e
    · subst e; exact q.2.2.1.trans p.2.2.1
    · exact (q.2.2.2 a (Nat.lt_of_lt_of_le ha p.1) (by omega)).2.1.trans p.2.2.1
  · rcases hb with e | e
    · subst e; exact hxa
    · omega
/-- one new cell -/
theorem pe_new (h : pm_H) (q n a : Nat) (ha : a < pm_sz h) : pe_K h (pm_new h q n) a ∧ pe_Z (pm_new h q n) (pm_sz h) q n ∧ (∀ x, x < pm_sz h → pe_E h (pm_new h q n) x) := by
  have f : ∀ x, x < pm_sz h → pe_E h (pm_new h q n) x := fun x hx => by
    have e : x ≠ pm_sz h := Nat.ne_of_lt hx
    exact ⟨by rw [ev_kdN, if_neg e], by rw [ev_lnN, if_neg e], fun y => by rw [ev_IN, if_neg e], fun y => by rw [ev_LN, if_neg e], fun y => by rw [ev_RN, if_neg e]⟩
  exact ⟨⟨by rw [ev_szN]; omega, (f a ha).1, (f a ha).2.1, fun x hx _ => f x hx⟩, ⟨by rw [ev_kdN, if_pos rfl], by rw [ev_lnN, if_pos rfl], fun y => by rw [ev_IN, if_pos rfl], fun y => by rw [ev_LN, if_pos rfl], fun y => by rw [ev_RN, if_pos rfl]⟩, f⟩
/-- a row of empty rows -/
theorem pe_ma (h : pm_H) (t u N : Nat) : (∀ x, x < pm_sz h → pe_E h (pm_ma h t u N N) x) ∧ pm_sz (pm_ma h t u N N) = pm_sz h + 1 + N ∧ pm_kd (pm_ma h t u N N) (pm_sz h) = t + 32 ∧ pm_ln (pm_ma h t u N N) (pm_sz h) = N ∧ (∀ y, y < N → pm_R (pm_ma h t u N N) (pm_sz h) y = some (pm_sz h + 1 + y)) ∧ (∀ i, i < N → pe_Z (pm_ma h t u N N) (pm_sz h + 1 + i) (u + 32) 0) := by
  obtain ⟨i1, i2, i3, i4, i5, i6⟩ := ev_ma h t u N N
  refine ⟨fun x hx => ⟨?_, ?_, fun y => ?_, fun y => ?_, fun y => ?_⟩, i1, ?_, ?_, fun y hy => ?_, fun i hi => ⟨?_, ?_, fun y => ?_, fun y => ?_, fun y => ?_⟩⟩
  · rw [i2, if_neg (by omega), if_neg (by omega)]
  · rw [i3, if_neg (by omega), if_neg (by omega)]
  · rw [i4, if_neg (by omega)]
  · rw [i5, if_neg (by omega)]
  · rw [i6, if_neg (by omega), if_neg (by omega)]
  · rw [i2, if_pos rfl]
  · rw [i3, if_pos rfl]
  · rw [i6, if_pos rfl, if_pos hy]
  · rw [i2, if_neg (by omega), if_pos (by omega)]
  · rw [i3, if_neg (by omega), if_pos (by omega)]
  · rw [i4, if_pos (by omega)]
  · rw [i5, if_pos (by omega)]
  · rw [i6, if_neg (by omega), if_pos (by omega)]
theorem pe_na {a s : Nat} (ha : a < s) (k : Nat) : (a = s + k) = False := eq_false (by omega)
theorem pe_na0 {a s : Nat} (ha : a < s) : (a = s) = False := eq_false (by omega)
theorem pe_nb {a s : Nat} (ha : a < s) (k : Nat) : (s + k = a) = False := eq_false (by omega)
theorem pe_nb0 {a s : Nat} (ha : a < s) : (s = a) = False := eq_false (by omega)
theorem pe_ex {α : Type} {o : Option α} {P : α → Prop} {x : α} (e : o = some x) (p : P x) : ∃ x, o = some x ∧ P x := ⟨x, e, p⟩
/-- a Body: its shape is p, its code n fives -/
theorem cX0 {h : pm_H} {a p : Nat} {n : Int32} (hz : pe_Z h a 0 0) (ha : a < pm_sz h) (hn : ¬ (5 * (if (0 : Int32) < n then n else (0 : Int32))) < 0 ∧ (5 * (if (0 : Int32) < n then n else (0 : Int32))).toNatClampNeg * 4 ≤ 536870912) : ∃ h', fX0_init h a p n = some h' ∧ pm_sz h' = pm_sz h + 4 ∧ pe_K h h' a ∧ (∀ y, pm_I h' a y = 0) ∧ (∀ y, pm_L h' a y = 0) ∧ (pm_R h' a 0 = some p ∧ pm_R h' a 1 = some (pm_sz h + 3) ∧ pm_R h' a 5 = some (pm_sz h) ∧ pm_R h' a 7 = some (pm_sz h + 1) ∧ pm_R h' a 8 = some (pm_sz h + 2)) ∧ pe_Z h' (pm_sz h) 34 0 ∧ pe_Z h' (pm_sz h + 1) 34 0 ∧ pe_Z h' (pm_sz h + 2) 35 0 ∧ pe_Z h' (pm_sz h + 3) 34 ((5 * (if (0 : Int32) < n then n else (0 : Int32))).toNatClampNeg) := by
  have hk := hz.1
  refine pe_ex (by
    simp only [fX0_init, fX0_init_b0, fX0_init_b8, fX0_init_b15, fX0_init_b22, fX0_init_b40, ev_szI, ev_szL, ev_szR, ev_szN, ev_kdI, ev_kdL, ev_kdR, ev_kdN, ev_lnI, ev_lnL, ev_lnR, ev_lnN, ev_II, ev_IL, ev_IR, ev_IN, ev_LI, ev_LL, ev_LR, ev_LN, ev_RI, ev_RL, ev_RR, ev_RN, Nat.add_assoc, Nat.reduceAdd, Nat.add_left_cancel_iff, Nat.left_eq_add, Nat.add_eq_left, Nat.reduceEqDiff, reduceIte, if_true, if_false, Option.bind_some, ev_let, pe_na ha, pe_na0 ha, hk]
    rw [if_pos hn]) ?_
  refine ⟨?_, ⟨?_, ?_, ?_, fun x hx hxa => ⟨?_, ?_, fun y => ?_, fun y => ?_, fun y => ?_⟩⟩, fun y => ?_, fun y => ?_, ⟨?_, ?_, ?_, ?_, ?_⟩, ⟨?_, ?_, fun y => ?_, fun y => ?_, fun y => ?_⟩, ⟨?_, ?_, fun y => ?_, fun y => ?_, fun y => ?_⟩, ⟨?_, ?_, fun y => ?_, fun y => ?_, fun y => ?_⟩, ⟨?_, ?_, fun y => ?_, fun y => ?_, fun y => ?_⟩⟩
  all_goals first
    | (simp only [ev_szI, ev_szL, ev_szR, ev_szN, ev_kdI, ev_kdL, ev_kdR, ev_kdN, ev_lnI, ev_lnL, ev_lnR, ev_lnN, ev_II, ev_IL, ev_IR, ev_IN, ev_LI, ev_LL, ev_LR, ev_LN, ev_RI, ev_RL, ev_RR, ev_RN, Nat.add_assoc, Nat.reduceAdd, Nat.add_left_cancel_iff, Nat.left_eq_add, Nat.add_eq_left, Nat.reduceEqDiff, reduceIte, if_true, if_false, Option.bind_some, ev_let, pe_na ha, pe_na0 ha, pe_nb ha, pe_nb0 ha, hk, hz.2.2.1, hz.2.2.2.1]; done)
    | (simp only [ev_szI, ev_szL, ev_szR, ev_szN, ev_kdI, ev_kdL, ev_kdR, ev_kdN, ev_lnI, ev_lnL, ev_lnR, ev_lnN, ev_II, ev_IL, ev_IR, ev_IN, ev_LI, ev_LL, ev_LR, ev_LN, ev_RI, ev_RL, ev_RR, ev_RN, Nat.add_assoc, Nat.reduceAdd, Nat.add_left_cancel_iff, Nat.left_eq_add, Nat.add_eq_left, Nat.reduceEqDiff, reduceIte, if_true, if_false, Option.bind_some, ev_let, pe_na ha, pe_na0 ha, pe_nb ha, pe_nb0 ha, pe_na hx, pe_na0 hx, eq_false hxa]; done)
    | (simp only [ev_szI, ev_szL, ev_szR, ev_szN, ev_kdI, ev_kdL, ev_kdR, ev_kdN, ev_lnI, ev_lnL, ev_lnR, ev_lnN, ev_II, ev_IL, ev_IR, ev_IN, ev_LI, ev_LL, ev_LR, ev_LN, ev_RI, ev_RL, ev_RR, ev_RN, Nat.add_assoc, Nat.reduceAdd, Nat.add_left_cancel_iff, Nat.left_eq_add, Nat.add_eq_left, Nat.reduceEqDiff, reduceIte, if_true, if_false, Option.bind_some, ev_let]; omega)
