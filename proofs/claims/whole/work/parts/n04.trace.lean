/-! FLATTENED CODE: the rows that stand while a body is walked, and the rows in the end; As: where the open chains of each label are aimed, and the row of an if -/
def rAg (K : tK) (F : List tRw) (As : List (Nat × Nat)) : Prop := K.2.2.length ≤ F.length ∧ As.length = K.2.1.length ∧ (∀ i, i < K.2.2.length → i ∉ cA K.2.1 → F.getD i rw0 = K.2.2.getD i rw0) ∧ (∀ x r, x < K.2.1.length → r ∈ (K.2.1.getD x lb0).2.2.2.2.2.1 → F.getD r rw0 = ((K.2.2.getD r rw0).1, Int32.ofNat (As.getD x (0, 0)).1, (K.2.2.getD r rw0).2.2)) ∧ ∀ x, x < K.2.1.length → (K.2.1.getD x lb0).1 = 4 → 0 ≤ (K.2.1.getD x lb0).2.2.2.2.2.2 → F.getD (K.2.1.getD x lb0).2.2.2.2.2.2.toNatClampNeg rw0 = ((K.2.2.getD (K.2.1.getD x lb0).2.2.2.2.2.2.toNatClampNeg rw0).1, Int32.ofNat (As.getD x (0, 0)).2, (K.2.2.getD (K.2.1.getD x lb0).2.2.2.2.2.2.toNatClampNeg rw0).2.2)
section TRC
variable {M : tMd} {K K' : tK} {F : List tRw} {As : List (Nat × Nat)} {op a b c hb : Int32} {x : Nat}
theorem getD_app {α : Type} {l q : List α} {i : Nat} {d : α} (h : i < l.length) : (l ++ q).getD i d = l.getD i d := by
  rw [List.getD_eq_getElem?_getD, List.getElem?_append_left h, ← List.getD_eq_getElem?_getD]
theorem cA_g {ls : List tLb} {x r : Nat} (hx : x < ls.length) (h : r ∈ cL (ls.getD x lb0)) : r ∈ cA ls := by
  induction ls generalizing x with
  | nil => exact absurd hx (Nat.not_lt_zero _)
  | cons k ls ih =>
    cases x with
    | zero => exact List.mem_append.mpr (.inl h)
    | succ x => exact List.mem_append.mpr (.inr (ih (Nat.lt_of_succ_lt_succ hx) h))
theorem cL_s {l : tLb} (h4 : l.1 = 4) (h0 : 0 ≤ l.2.2.2.2.2.2) : l.2.2.2.2.2.2.toNatClampNeg ∈ cL l := by
  unfold cL
  rw [if_pos ⟨h4, h0⟩]
  exact List.mem_append.mpr (.inl List.mem_cons_self)
theorem cL_c {l : tLb} {r : Nat} (h : r ∈ l.2.2.2.2.2.1) : r ∈ cL l := List.mem_append.mpr (.inr h)
theorem ag_2 (e : K'.2 = K.2) (A : rAg K' F As) : rAg K F As := by
  unfold rAg at A ⊢
  rw [e] at A
  exact A
/-- rows behind are more -/
theorem ag_app {st : List Nat} {ls : List tLb} {rs q : List tRw} {st' : List Nat} (w : ∀ a, a ∈ cA ls → a < rs.length) (A : rAg (st', ls, rs ++ q) F As) : rAg (st, ls, rs) F As := by
  obtain ⟨a1, a2, a3, a4, a5⟩ := A
  have a1 : (rs ++ q).length ≤ F.length := a1
  have ln : (rs ++ q).length = rs.length + q.length := List.length_append
  refine ⟨by show rs.length ≤ _; omega, a2, fun i hi hn => ?_, fun x r hx hr => ?_, fun x hx h4 h0 => ?_⟩
  · have hi : i < rs.length := hi
    have := a3 i (by show i < (rs ++ q).length; omega) hn
    rw [this]
    exact getD_app hi
  · have := a4 x r hx hr
    rw [this]
    have hr' := w r (cA_g hx (cL_c hr))
    show _ = ((rs.getD r rw0).1, _, (rs.getD r rw0).2.2)
    rw [show (st', ls, rs ++ q).2.2 = rs ++ q from rfl, getD_app hr']
  · have := a5 x hx h4 h0
    rw [this]
    have hr' := w _ (cA_g hx (cL_s h4 h0))
    show _ = ((rs.getD _ rw0).1, _, (rs.getD _ rw0).2.2)
    rw [show (st', ls, rs ++ q).2.2 = rs ++ q from rfl, getD_app hr']
theorem ag_e (w : wfC K) (A : rAg (kEm K op a b c hb) F As) : rAg K F As := by
  obtain ⟨st, ls, rs⟩ := K
  unfold kEm at A
  split at A
  · exact ag_app w.2.1 A
  · exact A
/-- what a row that was emitted is in the end -/
theorem ag_er (w : wfC K) (k : kAl K = true) (A : rAg (kEm K op a b c hb) F As) : F.getD K.2.2.length rw0 = (op, a, b, c, hb) := by
  obtain ⟨st, ls, rs⟩ := K
  unfold kEm at A
  rw [if_pos k] at A
  obtain ⟨a1, a2, a3, a4, a5⟩ := A
  have := a3 rs.length (by show rs.length < (rs ++ [_]).length; rw [List.length_append]; exact Nat.lt_succ_self _) (fun m => Nat.lt_irrefl _ (w.2.1 _ m))
  show F.getD rs.length rw0 = _
  rw [this]
  show (rs ++ [_]).getD rs.length rw0 = _
  rw [List.getD_eq_getElem?_getD, List.getElem?_append_right (Nat.le_refl _), Nat.sub_self]
  rfl
theorem getD_set' {α : Type} {l : List α} {i j : Nat} {v d : α} : (l.set i v).getD j d = if i = j ∧ i < l.length then v else l.getD j d := by
  rw [List.getD_eq_getElem?_getD, List.getElem?_set]
  by_cases e : i = j
  · rw [if_pos e]
    by_cases h : i < l.length
    · rw [if_pos h, if_pos ⟨e, h⟩]; rfl
    · rw [if_neg h, if_neg (fun z => h z.2), List.getD_eq_getElem?_getD, List.getElem?_eq_none (by omega)]
  · rw [if_neg e, if_neg (fun z => e z.1), ← List.getD_eq_getElem?_getD]
/-- the labels alike: kind, chain, row -/
theorem ag_l {st st' : List Nat} {ls ls' : List tLb} {rs : List tRw} (hl : ls'.length = ls.length) (h : ∀ x, (ls'.getD x lb0).1 = (ls.getD x lb0).1 ∧ (ls'.getD x lb0).2.2.2.2.2.1 = (ls.getD x lb0).2.2.2.2.2.1 ∧ (ls'.getD x lb0).2.2.2.2.2.2 = (ls.getD x lb0).2.2.2.2.2.2) (hc : ∀ i, i ∉ cA ls → i ∉ cA ls') (A : rAg (st', ls', rs) F As) : rAg (st, ls, rs) F As := by
  obtain ⟨a1, a2, a3, a4, a5⟩ := A
  refine ⟨a1, a2.trans hl, fun i hi hn => a3 i hi (hc i hn), fun x r hx hr => ?_, fun x hx h4 h0 => ?_⟩
  · have hx : x < ls.length := hx
    exact a4 x r (by show x < ls'.length; omega) (by show r ∈ (ls'.getD x lb0).2.2.2.2.2.1; rw [(h x).2.1]; exact hr)
  · have hx : x < ls.length := hx
    have := a5 x (by show x < ls'.length; omega) (by show (ls'.getD x lb0).1 = 4; rw [(h x).1]; exact h4) (by show 0 ≤ (ls'.getD x lb0).2.2.2.2.2.2; rw [(h x).2.2]; exact h0)
    have this : F.getD (ls'.getD x lb0).2.2.2.2.2.2.toNatClampNeg rw0 = ((rs.getD (ls'.getD x lb0).2.2.2.2.2.2.toNatClampNeg rw0).1, Int32.ofNat (As.getD x (0, 0)).2, (rs.getD (ls'.getD x lb0).2.2.2.2.2.2.toNatClampNeg rw0).2.2) := this
    rw [(h x).2.2] at this
    exact this
theorem ag_d (hl : 0 < K.2.1.length) (A : rAg (kDie K) F As) : rAg K F As := by
  obtain ⟨st, ls, rs⟩ := K
  cases ls with
  | nil => exact absurd hl (Nat.lt_irrefl 0)
  | cons l ls =>
    refine ag_l (ls' := (l.1, l.2.1, l.2.2.1, true, l.2.2.2.2) :: ls) rfl (fun x => ?_) (fun i hi => hi) A
    cases x with
    | zero => exact ⟨rfl, rfl, rfl⟩
    | succ x => exact ⟨rfl, rfl, rfl⟩
/-- a branch -/
theorem ag_b (w : wfC K) (hx : x < K.2.1.length) (A : rAg (kBr M op hb x K) F As) : rAg K F As := by
  obtain ⟨st, ls, rs⟩ := K
  have hx : x < ls.length := hx
  unfold kBr at A
  by_cases k : kAl (st, ls, rs) = true
  · rw [if_pos k] at A
    by_cases d : (ls.getD x lb0).1 = 3
    · have A : rAg (st, (if (ls.getD x lb0).1 = 3 then ls else _), rs ++ [_]) F As := A
      rw [if_pos d] at A
      exact ag_app w.2.1 A
    · have A : rAg (st, (if (ls.getD x lb0).1 = 3 then ls else _), rs ++ [(op, (if (ls.getD x lb0).1 = 3 then _ else _), _)]) F As := A
      rw [if_neg d, if_neg d] at A
      have pm := cA_set (ls := ls) (x := x) (a := rs.length) (l' := ((ls.getD x lb0).1, (ls.getD x lb0).2.1, (ls.getD x lb0).2.2.1, (ls.getD x lb0).2.2.2.1, (ls.getD x lb0).2.2.2.2.1, rs.length :: (ls.getD x lb0).2.2.2.2.2.1, (ls.getD x lb0).2.2.2.2.2.2)) rfl rfl rfl hx
      obtain ⟨a1, a2, a3, a4, a5⟩ := A
      have a1 : (rs ++ [_]).length ≤ F.length := a1
      have ln : ∀ q : tRw, (rs ++ [q]).length = rs.length + 1 := fun q => List.length_append
      rw [ln] at a1
      have gl : ∀ y, y < ls.length → (ls.getD y lb0).2.2.2.2.2.1 ⊆ ((ls.set x ((ls.getD x lb0).1, (ls.getD x lb0).2.1, (ls.getD x lb0).2.2.1, (ls.getD x lb0).2.2.2.1, (ls.getD x lb0).2.2.2.2.1, rs.length :: (ls.getD x lb0).2.2.2.2.2.1, (ls.getD x lb0).2.2.2.2.2.2)).getD y lb0).2.2.2.2.2.1 ∧ ((ls.set x ((ls.getD x lb0).1, (ls.getD x lb0).2.1, (ls.getD x lb0).2.2.1, (ls.getD x lb0).2.2.2.1, (ls.getD x lb0).2.2.2.2.1, rs.length :: (ls.getD x lb0).2.2.2.2.2.1, (ls.getD x lb0).2.2.2.2.2.2)).getD y lb0).1 = (ls.getD y lb0).1 ∧ ((ls.set x ((ls.getD x lb0).1, (ls.getD x lb0).2.1, (ls.getD x lb0).2.2.1, (ls.getD x lb0).2.2.2.1, (ls.getD x lb0).2.2.2.2.1, rs.length :: (ls.getD x lb0).2.2.2.2.2.1, (ls.getD x lb0).2.2.2.2.2.2)).getD y lb0).2.2.2.2.2.2 = (ls.getD y lb0).2.2.2.2.2.2 := fun y hy => by
        rw [getD_set']
        by_cases e : x = y
        · subst e
          rw [if_pos ⟨rfl, hx⟩]
          exact ⟨fun r hr => List.mem_cons_of_mem _ hr, rfl, rfl⟩
        · rw [if_neg (fun z => e z.1)]
          exact ⟨fun r hr => hr, rfl, rfl⟩
      refine ⟨by show rs.length ≤ _; omega, by rw [a2]; exact List.length_set, fun i hi hn => ?_, fun y r hy hr => ?_, fun y hy h4 h0 => ?_⟩
      · have hi : i < rs.length := hi
        rw [a3 i (by show i < (rs ++ [_]).length; rw [ln]; omega) (fun m => by
          rcases List.mem_cons.mp (pm.mem_iff.mp m) with e | e
          · omega
          · exact hn e)]
        exact getD_app hi
      · have hy : y < ls.length := hy
        obtain ⟨g1, g2, g3⟩ := gl y hy
        rw [a4 y r (by show y < (ls.set x _).length; rw [List.length_set]; exact hy) (g1 hr)]
        have hr' := w.2.1 r (cA_g hy (cL_c hr))
        show (((rs ++ [_]).getD r rw0).1, _, ((rs ++ [_]).getD r rw0).2.2) = ((rs.getD r rw0).1, _, (rs.getD r rw0).2.2)
        rw [getD_app hr']
      · have hy : y < ls.length := hy
        obtain ⟨g1, g2, g3⟩ := gl y hy
        have := a5 y (by show y < (ls.set x _).length; rw [List.length_set]; exact hy) (g2.trans h4) (by rw [show (st, ls.set x ((ls.getD x lb0).1, (ls.getD x lb0).2.1, (ls.getD x lb0).2.2.1, (ls.getD x lb0).2.2.2.1, (ls.getD x lb0).2.2.2.2.1, rs.length :: (ls.getD x lb0).2.2.2.2.2.1, (ls.getD x lb0).2.2.2.2.2.2), rs ++ [(op, kPtr (ls.getD x lb0).2.2.2.2.2.1, Int32.ofNat (lbW M (ls.getD x lb0)).length, Int32.ofNat (ls.getD x lb0).2.2.1, hb)]).2.1 = ls.set x _ from rfl, g3]; exact h0)
        rw [show (st, ls.set x ((ls.getD x lb0).1, (ls.getD x lb0).2.1, (ls.getD x lb0).2.2.1, (ls.getD x lb0).2.2.2.1, (ls.getD x lb0).2.2.2.2.1, rs.length :: (ls.getD x lb0).2.2.2.2.2.1, (ls.getD x lb0).2.2.2.2.2.2), rs ++ [(op, kPtr (ls.getD x lb0).2.2.2.2.2.1, Int32.ofNat (lbW M (ls.getD x lb0)).length, Int32.ofNat (ls.getD x lb0).2.2.1, hb)]).2.1 = ls.set x ((ls.getD x lb0).1, (ls.getD x lb0).2.1, (ls.getD x lb0).2.2.1, (ls.getD x lb0).2.2.2.1, (ls.getD x lb0).2.2.2.2.1, rs.length :: (ls.getD x lb0).2.2.2.2.2.1, (ls.getD x lb0).2.2.2.2.2.2) from rfl, g3] at this
        have hr' := w.2.1 _ (cA_g hy (cL_s h4 h0))
        rw [this]
        show (((rs ++ [_]).getD _ rw0).1, _, ((rs ++ [_]).getD _ rw0).2.2) = ((rs.getD _ rw0).1, _, (rs.getD _ rw0).2.2)
        rw [getD_app hr']
  · rw [if_neg k] at A
    exact A
end TRC
