/-! FLATTENED CODE: blocks, else, END, tables: what the rows on the way have to do with those in the end -/
section TRC2
variable {M : tMd} {K K' : tK} {F : List tRw} {As : List (Nat × Nat)} {op a b c hb : Int32} {x p z : Nat} {t : Int32}
theorem aim_o {rs : List tRw} {i j : Nat} (h : i ≠ j) : (rwAim rs i t).getD j rw0 = rs.getD j rw0 := by
  unfold rwAim
  rw [getD_set', if_neg (fun z => h z.1)]
theorem aim_s {rs : List tRw} {i : Nat} (h : i < rs.length) : (rwAim rs i t).getD i rw0 = ((rs.getD i rw0).1, t, (rs.getD i rw0).2.2) := by
  unfold rwAim
  rw [getD_set', if_pos ⟨rfl, h⟩]
theorem fold_o {j : Nat} : ∀ {q : List Nat} {rs : List tRw}, j ∉ q → (q.foldl (fun co r => rwAim co r t) rs).getD j rw0 = rs.getD j rw0
  | [], _, _ => rfl
  | i :: q, rs, h => by
    rw [List.foldl_cons, fold_o (fun m => h (List.mem_cons_of_mem _ m)), aim_o (fun e => h (by rw [e]; exact List.mem_cons_self))]
theorem fold_s {j : Nat} : ∀ {q : List Nat} {rs : List tRw}, j ∈ q → j < rs.length → (q.foldl (fun co r => rwAim co r t) rs).getD j rw0 = ((rs.getD j rw0).1, t, (rs.getD j rw0).2.2)
  | [], _, h, _ => absurd h List.not_mem_nil
  | i :: q, rs, h, hj => by
    rw [List.foldl_cons]
    by_cases m : j ∈ q
    · rw [fold_s m (by rw [rwAim_l]; exact hj)]
      by_cases e : i = j
      · rw [e, aim_s hj]
      · rw [aim_o e]
    · rw [fold_o m]
      rcases List.mem_cons.mp h with e | e
      · rw [← e]; exact aim_s hj
      · exact absurd e m
theorem ag_pop {st st' : List Nat} {l : tLb} {ls : List tLb} {rs q : List tRw} (w : ∀ a, a ∈ cA ls → a < rs.length) (hl : ∀ r, r ∈ cL l → rs.length ≤ r) (A : rAg (st', l :: ls, rs ++ q) F As) : ∃ a As', As = a :: As' ∧ rAg (st, ls, rs) F As' := by
  obtain ⟨a1, a2, a3, a4, a5⟩ := A
  cases As with
  | nil => cases a2
  | cons a As =>
    have a1 : (rs ++ q).length ≤ F.length := a1
    have ln : (rs ++ q).length = rs.length + q.length := List.length_append
    refine ⟨a, As, rfl, by show rs.length ≤ _; omega, Nat.succ.inj a2, fun i hi hn => ?_, fun x r hx hr => ?_, fun x hx h4 h0 => ?_⟩
    · have hi : i < rs.length := hi
      rw [a3 i (by show i < (rs ++ q).length; omega) (fun m => by
        rcases List.mem_append.mp m with e | e
        · have := hl i e; omega
        · exact hn e)]
      exact getD_app hi
    · have := a4 (x + 1) r (Nat.succ_lt_succ hx) hr
      have hr' := w r (cA_g hx (cL_c hr))
      have this : F.getD r rw0 = (((rs ++ q).getD r rw0).1, Int32.ofNat (As.getD x (0, 0)).1, ((rs ++ q).getD r rw0).2.2) := this
      rw [getD_app hr'] at this
      exact this
    · have := a5 (x + 1) (Nat.succ_lt_succ hx) h4 h0
      have hr' := w _ (cA_g hx (cL_s h4 h0))
      have this : F.getD (ls.getD x lb0).2.2.2.2.2.2.toNatClampNeg rw0 = (((rs ++ q).getD (ls.getD x lb0).2.2.2.2.2.2.toNatClampNeg rw0).1, Int32.ofNat (As.getD x (0, 0)).2, ((rs ++ q).getD (ls.getD x lb0).2.2.2.2.2.2.toNatClampNeg rw0).2.2) := this
      rw [getD_app hr'] at this
      exact this
/-- 2, 3, 4 -/
theorem ag_blk {o : Nat} {ty : Int64} (w : wfC K) (hr : K.2.2.length < 2147483648) (q : kBlk M p o ty K = .inr (K', z)) (A : rAg K' F As) : ∃ a As', As = a :: As' ∧ rAg K F As' := by
  unfold kBlk at q
  split at q
  · cases q
  obtain ⟨K1, z1, e1, q⟩ := b_inv q
  obtain ⟨K2, z2, e2, q⟩ := b_inv q
  have j := (kTakeN_2 e2).trans (kTk_2 e1)
  split at q
  · cases q
  have q := kPutN_2 q
  have w2 : ∀ a, a ∈ cA K2.2.1 → a < K2.2.2.length := by rw [j]; exact w.2.1
  obtain ⟨s', K'2⟩ := K'
  have q : K'2 = _ := q
  subst q
  have fin : ∀ {a : Nat × Nat} {As' : List (Nat × Nat)}, rAg K2 F As' → rAg K F As' := fun h => ag_2 j h
  by_cases c4 : o = 4
  · rw [if_pos c4, if_pos c4] at A
    have hem : (kEm K2 4 (-1) 0 0 (Int32.ofNat K.1.length)).2.2 = K2.2.2 ++ (if kAl K2 = true then [(4, -1, 0, 0, Int32.ofNat K.1.length)] else []) := by
      unfold kEm
      by_cases ka : kAl K2 = true
      · rw [if_pos ka, if_pos ka]
      · rw [if_neg ka, if_neg ka, List.append_nil]
    rw [hem] at A
    obtain ⟨a, As', e, A'⟩ := ag_pop (st := K2.1) w2 (fun r hr' => by
      unfold cL at hr'
      rw [List.append_nil] at hr'
      by_cases ka : kAl K2 = true
      · have hr' : r ∈ (if o = 4 ∧ 0 ≤ (if kAl K2 = true then Int32.ofNat K2.2.2.length else -1) then [(if kAl K2 = true then Int32.ofNat K2.2.2.length else (-1 : Int32)).toNatClampNeg] else []) := hr'
        rw [if_pos ka] at hr'
        split at hr'
        · rw [List.mem_singleton.mp hr', nn_cm (by rw [j]; exact hr)]
          exact Nat.le_refl _
        · exact absurd hr' List.not_mem_nil
      · have hr' : r ∈ (if o = 4 ∧ 0 ≤ (if kAl K2 = true then Int32.ofNat K2.2.2.length else -1) then [(if kAl K2 = true then Int32.ofNat K2.2.2.length else (-1 : Int32)).toNatClampNeg] else []) := hr'
        rw [if_neg ka, if_neg (fun h => absurd h.2 (by decide))] at hr'
        exact absurd hr' List.not_mem_nil) A
    exact ⟨a, As', e, fin (a := a) A'⟩
  · rw [if_neg c4, if_neg c4] at A
    rw [← List.append_nil K2.2.2] at A
    obtain ⟨a, As', e, A'⟩ := ag_pop (st := K2.1) w2 (fun r hr' => by
      unfold cL at hr'
      rw [List.append_nil] at hr'
      have hr' : r ∈ (if o = 4 ∧ 0 ≤ Int32.ofNat (K2.2.2 ++ []).length then [(Int32.ofNat (K2.2.2 ++ []).length).toNatClampNeg] else []) := hr'
      rw [if_neg (fun h => c4 h.1)] at hr'
      exact absurd hr' List.not_mem_nil) A
    exact ⟨a, As', e, fin (a := a) A'⟩
/-- else, behind its own row -/
theorem ag_els0 {st st' : List Nat} {l l' : tLb} {ls : List tLb} {rs : List tRw} {a' : Nat × Nat} {As' : List (Nat × Nat)} (w : wfC (st, l :: ls, rs)) (h5 : l'.1 ≠ 4) (hch : l'.2.2.2.2.2.1 = l.2.2.2.2.2.1) (A : rAg (st', l' :: ls, (kAimC (st, l :: ls, rs)).2.2) F (a' :: As')) : rAg (st, l :: ls, rs) F ((a'.1, rs.length) :: As') := by
  obtain ⟨w1, w2, w3⟩ := w
  have w1 : (cL l ++ cA ls).Nodup := w1
  obtain ⟨a1, a2, a3, a4, a5⟩ := A
  have cl' : cL l' = l.2.2.2.2.2.1 := by unfold cL; rw [if_neg (fun h => h5 h.1), List.nil_append, hch]
  have rl : (kAimC (st, l :: ls, rs)).2.2.length = rs.length := (kAimC_1 (st, l :: ls, rs)).2.2
  -- rows but for the if's own
  have ro : ∀ i, (l.1 = 4 → 0 ≤ l.2.2.2.2.2.2 → i ≠ l.2.2.2.2.2.2.toNatClampNeg) → (kAimC (st, l :: ls, rs)).2.2.getD i rw0 = rs.getD i rw0 := fun i hi => by
    unfold kAimC
    by_cases c : (kTop (st, l :: ls, rs)).1 = 4 ∧ 0 ≤ (kTop (st, l :: ls, rs)).2.2.2.2.2.2
    · rw [if_pos c]
      exact aim_o (fun e => hi c.1 c.2 e.symm)
    · rw [if_neg c]
  have nd := List.nodup_append.mp w1
  have n1 : l.1 = 4 → 0 ≤ l.2.2.2.2.2.2 → ∀ i, (i ∈ l.2.2.2.2.2.1 ∨ i ∈ cA ls) → i ≠ l.2.2.2.2.2.2.toNatClampNeg := fun h4 h0 i hi e => by
    have cc : cL l = l.2.2.2.2.2.2.toNatClampNeg :: l.2.2.2.2.2.1 := by unfold cL; rw [if_pos ⟨h4, h0⟩]; rfl
    rw [cc] at w1
    have := (List.nodup_cons.mp (show (l.2.2.2.2.2.2.toNatClampNeg :: (l.2.2.2.2.2.1 ++ cA ls)).Nodup from w1)).1
    exact this (by rw [← e]; exact List.mem_append.mpr hi)
  refine ⟨by rw [rl] at a1; exact a1, a2, fun i hi hn => ?_, fun x r hx hr => ?_, fun x hx h4 h0 => ?_⟩
  · have hn : i ∉ cL l ++ cA ls := hn
    rw [a3 i (by show i < (kAimC (st, l :: ls, rs)).2.2.length; rw [rl]; exact hi) (fun m => hn (by
      rcases List.mem_append.mp m with e | e
      · rw [cl'] at e; exact List.mem_append.mpr (.inl (cL_c e))
      · exact List.mem_append.mpr (.inr e)))]
    exact ro i (fun h4 h0 e => hn (List.mem_append.mpr (.inl (by rw [e]; exact cL_s h4 h0))))
  · cases x with
    | zero =>
      have hr : r ∈ l.2.2.2.2.2.1 := hr
      have := a4 0 r (Nat.succ_pos _) (by show r ∈ l'.2.2.2.2.2.1; rw [hch]; exact hr)
      rw [this]
      show (((kAimC (st, l :: ls, rs)).2.2.getD r rw0).1, _, ((kAimC (st, l :: ls, rs)).2.2.getD r rw0).2.2) = _
      rw [ro r (fun h4 h0 => n1 h4 h0 r (.inl hr))]
      rfl
    | succ x =>
      have hx : x < ls.length := Nat.lt_of_succ_lt_succ hx
      have := a4 (x + 1) r (Nat.succ_lt_succ hx) hr
      rw [this]
      show (((kAimC (st, l :: ls, rs)).2.2.getD r rw0).1, _, ((kAimC (st, l :: ls, rs)).2.2.getD r rw0).2.2) = _
      rw [ro r (fun h4 h0 => n1 h4 h0 r (.inr (cA_g hx (cL_c hr))))]
      rfl
  · cases x with
    | zero =>
      have h4 : l.1 = 4 := h4
      have h0 : 0 ≤ l.2.2.2.2.2.2 := h0
      have hlt : l.2.2.2.2.2.2.toNatClampNeg < rs.length := w2 _ (List.mem_append.mpr (.inl (cL_s h4 h0)))
      have := a3 l.2.2.2.2.2.2.toNatClampNeg (by show _ < (kAimC (st, l :: ls, rs)).2.2.length; rw [rl]; exact hlt) (fun m => by
        rcases List.mem_append.mp m with e | e
        · rw [cl'] at e; exact n1 h4 h0 _ (.inl e) rfl
        · exact n1 h4 h0 _ (.inr e) rfl)
      show F.getD l.2.2.2.2.2.2.toNatClampNeg rw0 = ((rs.getD l.2.2.2.2.2.2.toNatClampNeg rw0).1, Int32.ofNat rs.length, (rs.getD l.2.2.2.2.2.2.toNatClampNeg rw0).2.2)
      rw [this]
      show (kAimC (st, l :: ls, rs)).2.2.getD _ rw0 = _
      unfold kAimC
      rw [if_pos (show (kTop (st, l :: ls, rs)).1 = 4 ∧ 0 ≤ (kTop (st, l :: ls, rs)).2.2.2.2.2.2 from ⟨h4, h0⟩)]
      exact aim_s hlt
    | succ x =>
      have hx : x < ls.length := Nat.lt_of_succ_lt_succ hx
      have := a5 (x + 1) (Nat.succ_lt_succ hx) h4 h0
      have h4' : (ls.getD x lb0).1 = 4 := h4
      have h0' : 0 ≤ (ls.getD x lb0).2.2.2.2.2.2 := h0
      have e : (kAimC (st, l :: ls, rs)).2.2.getD (ls.getD x lb0).2.2.2.2.2.2.toNatClampNeg rw0 = rs.getD (ls.getD x lb0).2.2.2.2.2.2.toNatClampNeg rw0 := ro _ (fun h4 h0 => n1 h4 h0 _ (.inr (cA_g hx (cL_s h4' h0'))))
      have this : F.getD (ls.getD x lb0).2.2.2.2.2.2.toNatClampNeg rw0 = (((kAimC (st, l :: ls, rs)).2.2.getD (ls.getD x lb0).2.2.2.2.2.2.toNatClampNeg rw0).1, Int32.ofNat (As'.getD x (0, 0)).2, ((kAimC (st, l :: ls, rs)).2.2.getD (ls.getD x lb0).2.2.2.2.2.2.toNatClampNeg rw0).2.2) := this
      rw [e] at this
      exact this
end TRC2
