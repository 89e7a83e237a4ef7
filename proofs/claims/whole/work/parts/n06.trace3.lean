/-! FLATTENED CODE: else, END, and all that is plain -/
/-- whatever every plain rule keeps, a plain instruction keeps -/
theorem kIns_qp {Q : tK → Prop} {M : tMd} {p : Nat} {B : Nat → Nat} {n : Nat} {Dc : Nat → Bool} {lt : Nat → Option Nat} {v : sp_I} {K K' : tK} {z : Nat}
    (h2 : ∀ K K' : tK, K'.2 = K.2 → Q K → Q K')
    (hE : ∀ (K : tK) op a b c hb, Q K → Q (kEm K op a b c hb))
    (hB : ∀ (K : tK) op hb x, Q K → Q (kBr M op hb x K))
    (hD : ∀ K : tK, 0 < K.2.1.length → Q K → Q (kDie K))
    (n2 : v.1 = 0 ∨ v.1 = 1 ∨ 5 < v.1) (n11 : v.1 ≠ 11)
    (w : Q K) (hl : 0 < K.2.1.length) (q : kIns B n M Dc lt p v K = .inr (K', z)) : Q K' := by
  have tabL : ∀ {many : Nat} {hb : Int32} {dl : List Nat} {K K' : tK} {z : Nat}, Q K → kTabL M p hb many dl K = .inr (K', z) → Q K' ∧ K'.2.1.length = K.2.1.length := by
    intro many hb dl
    induction dl with
    | nil => intro K K' z w q; cases q; exact ⟨w, rfl⟩
    | cons x l ih =>
      intro K K' z w q
      unfold kTabL at q
      split at q
      · obtain ⟨K1, z1, e1, q⟩ := b_inv q
        have j : K1.2 = K.2 := by
          split at e1
          · exact kTakeN_2 e1
          · obtain ⟨v, z2, e2, e3⟩ := b_inv e1
            exact (kPutN_2 e3).trans (kTakeS_2 e2)
        obtain ⟨j3, l3⟩ := ih (hB _ _ _ _ (h2 _ _ j w)) q
        exact ⟨j3, by rw [l3, lSm_l (kBr_m M 12 hb x K1).2, j]⟩
      · cases q
  unfold kIns at q
  by_cases cc0 : v.1 = 0
  · rw [if_pos cc0] at q
    cases q
    exact hD _ (by rw [(kEm_1 _ _ _ _ _ _).2]; exact hl) (hE _ _ _ _ _ _ w)
  rw [if_neg cc0] at q
  by_cases cc1 : v.1 = 1
  · rw [if_pos cc1] at q; cases q; exact hE _ _ _ _ _ _ w
  rw [if_neg cc1] at q
  by_cases cc2 : v.1 ≤ 4
  · exact absurd n2 (by omega)
  rw [if_neg cc2] at q
  by_cases cc3 : v.1 = 5
  · exact absurd n2 (by omega)
  rw [if_neg cc3] at q
  by_cases cc4 : v.1 = 11
  · exact absurd cc4 n11
  rw [if_neg cc4] at q
  by_cases cc5 : v.1 ≤ 13
  · rw [if_pos cc5] at q
    unfold kBrn at q
    split at q
    · cases q
    obtain ⟨K1, z1, e1, q⟩ := b_inv q
    obtain ⟨K2, z2, e2, q⟩ := b_inv q
    have e := (kTakeN_2 e2).trans (kTk_2 e1)
    have j := h2 _ _ e w
    split at q
    · cases q
      exact hD _ (by rw [lSm_l (kBr_m _ _ _ _ _).2, e]; exact hl) (hB _ _ _ _ j)
    · obtain ⟨K3, z3, e3, q⟩ := b_inv q
      cases q
      exact hB _ _ _ _ (h2 _ _ (kPutN_2 e3) j)
  rw [if_neg cc5] at q
  by_cases cc6 : v.1 = 14
  · rw [if_pos cc6] at q
    unfold kTab at q
    split at q
    · cases q
    obtain ⟨K1, z1, e1, q⟩ := b_inv q
    obtain ⟨K2, z2, e2, q⟩ := b_inv q
    cases q
    obtain ⟨j, l⟩ := tabL (hE _ _ _ _ _ _ (h2 _ _ (kTk_2 e1) w)) e2
    exact hD _ (by rw [l, (kEm_1 _ _ _ _ _ _).2, kTk_2 e1]; exact hl) j
  rw [if_neg cc6] at q
  by_cases cc7 : v.1 = 15
  · rw [if_pos cc7] at q
    obtain ⟨K1, z1, e1, q⟩ := b_inv q
    cases q
    exact hD _ (by rw [lSm_l (kBr_m _ _ _ _ _).2, kTakeN_2 e1]; exact hl) (hB _ _ _ _ (h2 _ _ (kTakeN_2 e1) w))
  rw [if_neg cc7] at q
  by_cases cc8 : v.1 = 16
  · rw [if_pos cc8] at q
    unfold kCal at q
    split at q
    · cases q
    · obtain ⟨K1, z1, e1, q⟩ := b_inv q
      obtain ⟨K2, z2, e2, q⟩ := b_inv q
      cases q
      exact hE _ _ _ _ _ _ (h2 _ _ ((kPutN_2 e2).trans (kTakeN_2 e1)) w)
  rw [if_neg cc8] at q
  by_cases cc9 : v.1 = 17
  · rw [if_pos cc9] at q
    unfold kCalT at q
    split at q
    · cases q
    · split at q
      · obtain ⟨K1, z1, e1, q⟩ := b_inv q
        obtain ⟨K2, z2, e2, q⟩ := b_inv q
        obtain ⟨K3, z3, e3, q⟩ := b_inv q
        cases q
        exact hE _ _ _ _ _ _ (h2 _ _ ((kPutN_2 e3).trans ((kTakeN_2 e2).trans (kTk_2 e1))) w)
      · cases q
  rw [if_neg cc9] at q
  by_cases cc10 : v.1 = 26
  · rw [if_pos cc10] at q
    obtain ⟨y, z1, e1, q⟩ := b_inv q
    cases q
    exact hE _ _ _ _ _ _ (h2 _ _ (kTake_2 e1) w)
  rw [if_neg cc10] at q
  by_cases cc11 : v.1 = 27
  · rw [if_pos cc11] at q
    obtain ⟨K1, z1, e1, q⟩ := b_inv q
    obtain ⟨y, z2, e2, q⟩ := b_inv q
    obtain ⟨y2, z3, e3, q⟩ := b_inv q
    split at q
    · cases q
    · obtain ⟨K4, z4, e4, q⟩ := b_inv q
      cases q
      exact hE _ _ _ _ _ _ (h2 _ _ ((kPut_2 e4).trans ((kTake_2 e3).trans ((kTake_2 e2).trans (kTk_2 e1)))) w)
  rw [if_neg cc11] at q
  by_cases cc12 : 65 ≤ v.1 ∧ v.1 ≤ 68
  · rw [if_pos cc12] at q
    obtain ⟨K1, z1, e1, q⟩ := b_inv q
    cases q
    exact hE _ _ _ _ _ _ (h2 _ _ (kPut_2 e1) w)
  rw [if_neg cc12] at q
  by_cases cc13 : v.1 = 208
  · rw [if_pos cc13] at q
    obtain ⟨K1, z1, e1, q⟩ := b_inv q
    cases q
    exact hE _ _ _ _ _ _ (h2 _ _ (kPut_2 e1) w)
  rw [if_neg cc13] at q
  by_cases cc14 : v.1 = 209
  · rw [if_pos cc14] at q
    obtain ⟨y, z1, e1, q⟩ := b_inv q
    split at q
    · cases q
    · obtain ⟨K2, z2, e2, q⟩ := b_inv q
      cases q
      exact hE _ _ _ _ _ _ (h2 _ _ ((kPut_2 e2).trans (kTake_2 e1)) w)
  rw [if_neg cc14] at q
  split at q
  · cases q
  · obtain ⟨K1, z1, e1, q⟩ := b_inv q
    obtain ⟨K2, z2, e2, q⟩ := b_inv q
    obtain ⟨K3, z3, e3, q⟩ := b_inv q
    obtain ⟨K4, z4, e4, q⟩ := b_inv q
    cases q
    exact hE _ _ _ _ _ _ (h2 _ _ ((kPt_2 e4).trans ((kTk_2 e3).trans ((kTk_2 e2).trans (kTk_2 e1)))) w)
section TRC3
variable {M : tMd} {K K' : tK} {F : List tRw} {As : List (Nat × Nat)} {op a b c hb : Int32} {x p z : Nat} {t : Int32}
theorem wC_b' (w : wfC K) : wfC (kBr M op hb x K) := by
  by_cases hx : x < K.2.1.length
  · exact (wC_b w hx).1
  obtain ⟨st, ls, rs⟩ := K
  unfold kBr
  by_cases k : kAl (st, ls, rs) = true
  · rw [if_pos k]
    have e : ls.set x ((ls.getD x lb0).1, (ls.getD x lb0).2.1, (ls.getD x lb0).2.2.1, (ls.getD x lb0).2.2.2.1, (ls.getD x lb0).2.2.2.2.1, rs.length :: (ls.getD x lb0).2.2.2.2.2.1, (ls.getD x lb0).2.2.2.2.2.2) = ls := List.set_eq_of_length_le (by have hx : ¬ x < ls.length := hx; omega)
    have e2 : (if (ls.getD x lb0).1 = 3 then ls else ls.set x ((ls.getD x lb0).1, (ls.getD x lb0).2.1, (ls.getD x lb0).2.2.1, (ls.getD x lb0).2.2.2.1, (ls.getD x lb0).2.2.2.2.1, rs.length :: (ls.getD x lb0).2.2.2.2.2.1, (ls.getD x lb0).2.2.2.2.2.2)) = ls := by
      rw [e]; split <;> rfl
    show wfC (st, (if (ls.getD x lb0).1 = 3 then ls else _), rs ++ [_])
    rw [e2]
    exact ⟨w.1, fun a ha => by show a < (rs ++ [_]).length; rw [List.length_append]; exact Nat.lt_of_lt_of_le (w.2.1 a ha) (Nat.le_add_right _ _), fun l hl => cOk_app (w.2.2 l hl)⟩
  · rw [if_neg k]; exact w
theorem ag_b' (w : wfC K) (A : rAg (kBr M op hb x K) F As) : rAg K F As := by
  by_cases hx : x < K.2.1.length
  · exact ag_b w hx A
  obtain ⟨st, ls, rs⟩ := K
  unfold kBr at A
  by_cases k : kAl (st, ls, rs) = true
  · rw [if_pos k] at A
    have e : ls.set x ((ls.getD x lb0).1, (ls.getD x lb0).2.1, (ls.getD x lb0).2.2.1, (ls.getD x lb0).2.2.2.1, (ls.getD x lb0).2.2.2.2.1, rs.length :: (ls.getD x lb0).2.2.2.2.2.1, (ls.getD x lb0).2.2.2.2.2.2) = ls := List.set_eq_of_length_le (by have hx : ¬ x < ls.length := hx; omega)
    have e2 : (if (ls.getD x lb0).1 = 3 then ls else ls.set x ((ls.getD x lb0).1, (ls.getD x lb0).2.1, (ls.getD x lb0).2.2.1, (ls.getD x lb0).2.2.2.1, (ls.getD x lb0).2.2.2.2.1, rs.length :: (ls.getD x lb0).2.2.2.2.2.1, (ls.getD x lb0).2.2.2.2.2.2)) = ls := by
      rw [e]; split <;> rfl
    have A : rAg (st, (if (ls.getD x lb0).1 = 3 then ls else ls.set x ((ls.getD x lb0).1, (ls.getD x lb0).2.1, (ls.getD x lb0).2.2.1, (ls.getD x lb0).2.2.2.1, (ls.getD x lb0).2.2.2.2.1, rs.length :: (ls.getD x lb0).2.2.2.2.2.1, (ls.getD x lb0).2.2.2.2.2.2)), rs ++ [_]) F As := A
    rw [e2] at A
    exact ag_app w.2.1 A
  · rw [if_neg k] at A; exact A
/-- a plain instruction: aims stay -/
theorem ag_pln {B : Nat → Nat} {n : Nat} {Dc : Nat → Bool} {lt : Nat → Option Nat} {v : sp_I} (n2 : v.1 = 0 ∨ v.1 = 1 ∨ 5 < v.1) (n11 : v.1 ≠ 11) (w : wfC K) (hl : 0 < K.2.1.length) (q : kIns B n M Dc lt p v K = .inr (K', z)) (A : rAg K' F As) : rAg K F As := by
  refine (kIns_qp (K := K) (Q := fun K1 => wfC K1 ∧ (rAg K1 F As → rAg K F As)) (fun K1 K2 e h => ⟨(wC_2 e h.1).1, fun A => h.2 (ag_2 e A)⟩) (fun K1 op a b c hb h => ⟨(wC_e h.1).1, fun A => h.2 (ag_e h.1 A)⟩) (fun K1 op hb x h => ⟨wC_b' h.1, fun A => h.2 (ag_b' h.1 A)⟩) (fun K1 l h => ⟨(wC_d h.1 l).1, fun A => h.2 (ag_d l A)⟩) n2 n11 ⟨w, fun A => A⟩ hl q).2 A
/-- 5: the row of what is called the if is aimed behind the row of its own -/
theorem ag_els (w : wfC K) (hl : 0 < K.2.1.length) (q : kEls M p K = .inr (K', z)) (A : rAg K' F As) : ∃ a' As', As = a' :: As' ∧ rAg K F ((a'.1, (kBr M 5 (Int32.ofNat K.1.length) 0 K).2.2.length) :: As') := by
  unfold kEls at q
  obtain ⟨K1, z1, e1, q⟩ := b_inv q
  have j := kTakeN_2 e1
  have w1 : wfC K1 := (wC_2 j w).1
  split at q
  · have q := kPutN_2 q
    have jb := wC_b' (M := M) (op := 5) (hb := Int32.ofNat K.1.length) (x := 0) w1
    have tt := kBr_t0 M 5 (Int32.ofNat K.1.length) K1
    have l1 := lSm_l (kBr_m M 5 (Int32.ofNat K.1.length) 0 K1).2
    have rl : (kBr M 5 (Int32.ofNat K.1.length) 0 K).2.2.length = (kBr M 5 (Int32.ofNat K.1.length) 0 K1).2.2.length := by
      unfold kBr
      have ka : kAl K = kAl K1 := by unfold kAl kTop; rw [j]
      rw [ka, j]
      split
      · show (K.2.2 ++ [_]).length = (K.2.2 ++ [_]).length
        rw [List.length_append]
      · rw [j]
    rw [rl]
    have fin : ∀ {As}, rAg (kBr M 5 (Int32.ofNat K.1.length) 0 K1) F As → rAg K F As := fun h => ag_2 j (ag_b' w1 h)
    generalize kBr M 5 (Int32.ofNat K.1.length) 0 K1 = KB at *
    rw [← tt] at q
    obtain ⟨st, ls, rs⟩ := KB
    cases ls with
    | nil => have l1 : 0 = K1.2.1.length := l1; rw [j] at l1; omega
    | cons l ls =>
      obtain ⟨s', K'2⟩ := K'
      have q : K'2 = _ := q
      subst q
      obtain ⟨a1, a2, ar⟩ := A
      cases As with
      | nil => cases a2
      | cons a' As' =>
        exact ⟨a', As', rfl, fin (ag_els0 (st' := s') (l' := (5, l.2.1, l.2.2.1, false, l.2.2.2.2)) jb (by show (5 : Nat) ≠ 4; decide) rfl ⟨a1, a2, ar⟩)⟩
  · cases q
/-- END, before its own row -/
theorem ag_end0 {st st' : List Nat} {l : tLb} {ls : List tLb} {rs q : List tRw} (w : wfC (st, l :: ls, rs)) (A : rAg (st', ls, l.2.2.2.2.2.1.foldl (fun co r => rwAim co r (Int32.ofNat rs.length)) (kAimC (st, l :: ls, rs)).2.2 ++ q) F As) : rAg (st, l :: ls, rs) F ((rs.length, rs.length) :: As) := by
  obtain ⟨w1, w2, w3⟩ := w
  have w1 : (cL l ++ cA ls).Nodup := w1
  have w2 : ∀ a, a ∈ cL l ++ cA ls → a < rs.length := w2
  have rl : (kAimC (st, l :: ls, rs)).2.2.length = rs.length := (kAimC_1 (st, l :: ls, rs)).2.2
  have fl : (l.2.2.2.2.2.1.foldl (fun co r => rwAim co r (Int32.ofNat rs.length)) (kAimC (st, l :: ls, rs)).2.2).length = rs.length := by rw [fold_l, rl]
  have A := ag_app (st := st) (fun a ha => by rw [fl]; exact w2 a (List.mem_append.mpr (.inr ha))) A
  obtain ⟨a1, a2, a3, a4, a5⟩ := A
  have a1 : (l.2.2.2.2.2.1.foldl (fun co r => rwAim co r (Int32.ofNat rs.length)) (kAimC (st, l :: ls, rs)).2.2).length ≤ F.length := a1
  rw [fl] at a1
  have ro : ∀ i, (l.1 = 4 → 0 ≤ l.2.2.2.2.2.2 → i ≠ l.2.2.2.2.2.2.toNatClampNeg) → (kAimC (st, l :: ls, rs)).2.2.getD i rw0 = rs.getD i rw0 := fun i hi => by
    unfold kAimC
    by_cases c : (kTop (st, l :: ls, rs)).1 = 4 ∧ 0 ≤ (kTop (st, l :: ls, rs)).2.2.2.2.2.2
    · rw [if_pos c]
      exact aim_o (fun e => hi c.1 c.2 e.symm)
    · rw [if_neg c]
  have nd := List.nodup_append.mp w1
  have dj : ∀ i, i ∈ cL l → i ∈ cA ls → False := fun i h1 h2 => nd.2.2 i h1 i h2 rfl
  have n1 : l.1 = 4 → 0 ≤ l.2.2.2.2.2.2 → ∀ i, (i ∈ l.2.2.2.2.2.1 ∨ i ∈ cA ls) → i ≠ l.2.2.2.2.2.2.toNatClampNeg := fun h4 h0 i hi e => by
    have cc : cL l = l.2.2.2.2.2.2.toNatClampNeg :: l.2.2.2.2.2.1 := by unfold cL; rw [if_pos ⟨h4, h0⟩]; rfl
    rw [cc] at w1
    have := (List.nodup_cons.mp (show (l.2.2.2.2.2.2.toNatClampNeg :: (l.2.2.2.2.2.1 ++ cA ls)).Nodup from w1)).1
    exact this (by rw [← e]; exact List.mem_append.mpr hi)
  have f3 : ∀ i, i ∉ cL l → (l.2.2.2.2.2.1.foldl (fun co r => rwAim co r (Int32.ofNat rs.length)) (kAimC (st, l :: ls, rs)).2.2).getD i rw0 = rs.getD i rw0 := fun i hn => by
    rw [fold_o (fun m => hn (cL_c m)), ro i (fun h4 h0 e => hn (by rw [e]; exact cL_s h4 h0))]
  have f2 : ∀ i, i ∈ l.2.2.2.2.2.1 → (l.2.2.2.2.2.1.foldl (fun co r => rwAim co r (Int32.ofNat rs.length)) (kAimC (st, l :: ls, rs)).2.2).getD i rw0 = ((rs.getD i rw0).1, Int32.ofNat rs.length, (rs.getD i rw0).2.2) := fun i hi => by
    rw [fold_s hi (by rw [rl]; exact w2 i (List.mem_append.mpr (.inl (cL_c hi)))), ro i (fun h4 h0 => n1 h4 h0 i (.inl hi))]
  have f4 : l.1 = 4 → 0 ≤ l.2.2.2.2.2.2 → (l.2.2.2.2.2.1.foldl (fun co r => rwAim co r (Int32.ofNat rs.length)) (kAimC (st, l :: ls, rs)).2.2).getD l.2.2.2.2.2.2.toNatClampNeg rw0 = ((rs.getD l.2.2.2.2.2.2.toNatClampNeg rw0).1, Int32.ofNat rs.length, (rs.getD l.2.2.2.2.2.2.toNatClampNeg rw0).2.2) := fun h4 h0 => by
    rw [fold_o (fun m => n1 h4 h0 _ (.inl m) rfl)]
    unfold kAimC
    rw [if_pos (show (kTop (st, l :: ls, rs)).1 = 4 ∧ 0 ≤ (kTop (st, l :: ls, rs)).2.2.2.2.2.2 from ⟨h4, h0⟩)]
    exact aim_s (w2 _ (List.mem_append.mpr (.inl (cL_s h4 h0))))
  generalize l.2.2.2.2.2.1.foldl (fun co r => rwAim co r (Int32.ofNat rs.length)) (kAimC (st, l :: ls, rs)).2.2 = R at *
  have oa : ∀ i, i ∈ cA ls → R.getD i rw0 = rs.getD i rw0 := fun i hi => f3 i (fun m => dj i m hi)
  have a1 : R.length ≤ F.length := a1
  refine ⟨by rw [fl] at a1; exact a1, by show As.length + 1 = ls.length + 1; rw [show As.length = ls.length from a2], fun i hi hn => ?_, fun x r hx hr => ?_, fun x hx h4 h0 => ?_⟩
  · have hn : i ∉ cL l ++ cA ls := hn
    have hi : i < rs.length := hi
    rw [a3 i (by show i < R.length; rw [fl]; exact hi) (fun m => hn (List.mem_append.mpr (.inr m)))]
    exact f3 i (fun m => hn (List.mem_append.mpr (.inl m)))
  · cases x with
    | zero =>
      have hr : r ∈ l.2.2.2.2.2.1 := hr
      have hlt := w2 r (List.mem_append.mpr (.inl (cL_c hr)))
      rw [a3 r (by show r < R.length; rw [fl]; exact hlt) (fun m => dj r (cL_c hr) m)]
      exact f2 r hr
    | succ x =>
      have hx : x < ls.length := Nat.lt_of_succ_lt_succ hx
      have hr : r ∈ (ls.getD x lb0).2.2.2.2.2.1 := hr
      have := a4 x r hx hr
      have this : F.getD r rw0 = ((R.getD r rw0).1, Int32.ofNat (As.getD x (0, 0)).1, (R.getD r rw0).2.2) := this
      rw [oa r (cA_g hx (cL_c hr))] at this
      exact this
  · cases x with
    | zero =>
      have h4 : l.1 = 4 := h4
      have h0 : 0 ≤ l.2.2.2.2.2.2 := h0
      have hlt : l.2.2.2.2.2.2.toNatClampNeg < rs.length := w2 _ (List.mem_append.mpr (.inl (cL_s h4 h0)))
      have := a3 l.2.2.2.2.2.2.toNatClampNeg (by show _ < R.length; rw [fl]; exact hlt) (fun m => dj _ (cL_s h4 h0) m)
      exact this.trans (f4 h4 h0)
    | succ x =>
      have hx : x < ls.length := Nat.lt_of_succ_lt_succ hx
      have h4 : (ls.getD x lb0).1 = 4 := h4
      have h0 : 0 ≤ (ls.getD x lb0).2.2.2.2.2.2 := h0
      have := a5 x hx h4 h0
      have this : F.getD (ls.getD x lb0).2.2.2.2.2.2.toNatClampNeg rw0 = ((R.getD (ls.getD x lb0).2.2.2.2.2.2.toNatClampNeg rw0).1, Int32.ofNat (As.getD x (0, 0)).2, (R.getD (ls.getD x lb0).2.2.2.2.2.2.toNatClampNeg rw0).2.2) := this
      rw [oa _ (cA_g hx (cL_s h4 h0))] at this
      exact this
/-- 11: what hangs on the label goes on here -/
theorem ag_end (w : wfC K) (hl : 0 < K.2.1.length) (q : kEnd M p K = .inr (K', z)) (A : rAg K' F As) : rAg K F ((K.2.2.length, K.2.2.length) :: As) ∧ (K'.2.1.length = 0 → F.getD K.2.2.length rw0 = (11, 0, 0, 0, Int32.ofNat (btR M (kTop K).2.1).length)) := by
  unfold kEnd at q
  obtain ⟨K1, z1, e1, q⟩ := b_inv q
  have j := kTakeN_2 e1
  obtain ⟨st, ls, rs⟩ := K
  cases ls with
  | nil => exact absurd hl (Nat.lt_irrefl 0)
  | cons l ls =>
    obtain ⟨s1, q1⟩ := K1
    have j : q1 = (l :: ls, rs) := j
    subst j
    have w' : wfC (s1, l :: ls, rs) := w
    split at q
    · split at q
      · cases q
      · split at q
        · next h =>
          cases q
          have h : ls.length = 0 := h
          cases ls with
          | cons k ks => exact absurd h (Nat.succ_ne_zero _)
          | nil =>
            refine ⟨ag_2 (K' := (s1, [l], rs)) rfl (ag_end0 w' A), fun _ => ?_⟩
            obtain ⟨a1, a2, a3, a4, a5⟩ := A
            have fl : (l.2.2.2.2.2.1.foldl (fun co r => rwAim co r (Int32.ofNat rs.length)) (kAimC (s1, [l], rs)).2.2).length = rs.length := by rw [fold_l]; exact (kAimC_1 (s1, [l], rs)).2.2
            rw [show F.getD (st, [l], rs).2.2.length rw0 = F.getD rs.length rw0 from rfl, a3 rs.length (by show rs.length < (l.2.2.2.2.2.1.foldl (fun co r => rwAim co r (Int32.ofNat rs.length)) (kAimC (s1, [l], rs)).2.2 ++ [_]).length; rw [List.length_append, fl]; exact Nat.lt_succ_self _) (fun m => absurd m List.not_mem_nil)]
            show (l.2.2.2.2.2.1.foldl (fun co r => rwAim co r (Int32.ofNat rs.length)) (kAimC (s1, [l], rs)).2.2 ++ [_]).getD rs.length rw0 = _
            rw [List.getD_eq_getElem?_getD, List.getElem?_append_right (by rw [fl]; exact Nat.le_refl _), fl, Nat.sub_self]
            rfl
        · next h =>
          have q := kPutN_2 q
          obtain ⟨s', K'2⟩ := K'
          have q : K'2 = _ := q
          subst q
          refine ⟨ag_2 (K' := (s1, l :: ls, rs)) rfl (ag_end0 w' (st' := s') (q := []) (by rw [List.append_nil]; exact A)), fun h' => absurd h' h⟩
    · cases q
end TRC3
