/-! FLATTENED CODE: the row in the end that an instruction which may be come to has made -/
section FROW
variable {B : Nat → Nat} {n : Nat} {M : tMd} {Dc : Nat → Bool} {lt : Nat → Option Nat} {p z x : Nat} {K K' K1 : tK} {v : sp_I} {op hb a b c : Int32} {F : List tRw} {As : List (Nat × Nat)}
/-- labels that may be come to lie in such -/
def aCh (ls : List tLb) : Prop := ∀ x, x + 1 < ls.length → (ls.getD x lb0).2.2.2.2.1 = true → (ls.getD (x + 1) lb0).2.2.2.2.1 = true ∧ (ls.getD (x + 1) lb0).2.2.2.1 = false
theorem kAl_2 (e : K'.2 = K.2) : kAl K' = kAl K := by unfold kAl kTop; rw [e]
theorem kTop_0 (K : tK) : kTop K = K.2.1.getD 0 lb0 := by
  unfold kTop
  cases K.2.1 <;> rfl
theorem kAl_b : kAl (kBr M op hb x K) = kAl K := by
  have := kBr_m M op hb x K
  have U := lSm_g 0 this.2
  have V := kBr_U M op hb x K 0
  unfold kAl
  rw [kTop_0, kTop_0, U.2.2.2, V.2.2.2.1]
theorem aCh_s (hl : 0 < K.2.1.length) (q : kIns B n M Dc lt p v K = .inr (K', z)) (A : aCh K.2.1) : aCh K'.2.1 := by
  by_cases c11 : v.1 = 11
  · rw [ki_4 c11] at q
    rw [(ls_end hl q).1]
    intro x hx h
    have gt : ∀ y, K.2.1.tail.getD y lb0 = K.2.1.getD (y + 1) lb0 := fun y => by cases K.2.1 <;> rfl
    rw [List.length_tail] at hx
    rw [gt] at h ⊢
    exact A (x + 1) (by omega) h
  by_cases c2 : 2 ≤ v.1 ∧ v.1 ≤ 4
  · rw [ki_2 c2] at q
    obtain ⟨hh, e1, -⟩ := ls_blk q
    rw [e1]
    intro x hx h
    cases x with
    | zero =>
      have h : kAl K = true := h
      unfold kAl at h
      rw [kTop_0] at h
      cases ls : K.2.1 with
      | nil => rw [ls] at hl; exact absurd hl (Nat.lt_irrefl 0)
      | cons l r =>
        rw [ls] at h
        have h : (l.2.2.2.2.1 && !l.2.2.2.1) = true := h
        rw [Bool.and_eq_true, Bool.not_eq_true'] at h
        exact h
    | succ x => exact A x (Nat.lt_of_succ_lt_succ hx) h
  by_cases c5 : v.1 = 5
  · rw [ki_3 c5] at q
    obtain ⟨l', ks, e1, e2, e3, e4, ⟨e5, e6, e7, e8⟩, e9, e10⟩ := ls_els hl q
    rw [e1]
    intro x hx h
    have hx : x + 1 < ks.length + 1 := hx
    cases x with
    | zero =>
      have h : l'.2.2.2.2.1 = true := h
      rw [e7, kTop_0] at h
      obtain ⟨g1, g2⟩ := A 0 (by omega) h
      have U := e9 0
      show (ks.getD 0 lb0).2.2.2.2.1 = true ∧ (ks.getD 0 lb0).2.2.2.1 = false
      exact ⟨U.2.2.2.1.trans g1, (U.2.2.2.2.2 id).trans g2⟩
    | succ x =>
      have U0 := e9 x
      have U := e9 (x + 1)
      have h : (ks.getD x lb0).2.2.2.2.1 = true := h
      obtain ⟨g1, g2⟩ := A (x + 1) (by omega) (U0.2.2.2.1.symm.trans h)
      show (ks.getD (x + 1) lb0).2.2.2.2.1 = true ∧ (ks.getD (x + 1) lb0).2.2.2.1 = false
      exact ⟨U.2.2.2.1.trans g1, (U.2.2.2.2.2 id).trans g2⟩
  · obtain ⟨e1, e2⟩ := ls_pln (by omega) c11 hl q
    intro x hx h
    have U0 := e2 x
    have U := e2 (x + 1)
    obtain ⟨g1, g2⟩ := A x (by omega) (U0.2.2.2.1.symm.trans h)
    exact ⟨U.2.2.2.1.trans g1, (U.2.2.2.2.2 (by omega)).trans g2⟩
/-- the row of a branch -/
def bRw (M : tMd) (op hb : Int32) (l : tLb) (as : Nat × Nat) : tRw := (op, (if l.1 = 3 then l.2.2.2.2.2.2 else Int32.ofNat as.1), Int32.ofNat (lbW M l).length, Int32.ofNat l.2.2.1, hb)
theorem ag_br (w : wfC K) (k : kAl K = true) (hx : x < K.2.1.length) (A : rAg (kBr M op hb x K) F As) : F.getD K.2.2.length rw0 = bRw M op hb (K.2.1.getD x lb0) (As.getD x (0, 0)) := by
  obtain ⟨st, ls, rs⟩ := K
  have hx : x < ls.length := hx
  unfold kBr at A
  rw [if_pos k] at A
  have gl : ∀ q : tRw, (rs ++ [q]).getD rs.length rw0 = q := fun q => by
    rw [List.getD_eq_getElem?_getD, List.getElem?_append_right (Nat.le_refl _), Nat.sub_self]
    rfl
  have ln : ∀ q : tRw, (rs ++ [q]).length = rs.length + 1 := fun q => List.length_append
  unfold bRw
  by_cases d : (ls.getD x lb0).1 = 3
  · have A : rAg (st, (if (ls.getD x lb0).1 = 3 then ls else _), rs ++ [(op, (if (ls.getD x lb0).1 = 3 then (ls.getD x lb0).2.2.2.2.2.2 else _), Int32.ofNat (lbW M (ls.getD x lb0)).length, Int32.ofNat (ls.getD x lb0).2.2.1, hb)]) F As := A
    rw [if_pos d, if_pos d] at A
    obtain ⟨a1, a2, a3, a4, a5⟩ := A
    have := a3 rs.length (by show rs.length < (rs ++ [_]).length; rw [ln]; exact Nat.lt_succ_self _) (fun m => Nat.lt_irrefl _ (w.2.1 _ m))
    show F.getD rs.length rw0 = (op, (if (ls.getD x lb0).1 = 3 then _ else _), _)
    rw [if_pos d, this]
    exact gl _
  · have A : rAg (st, (if (ls.getD x lb0).1 = 3 then ls else _), rs ++ [(op, (if (ls.getD x lb0).1 = 3 then _ else kPtr (ls.getD x lb0).2.2.2.2.2.1), Int32.ofNat (lbW M (ls.getD x lb0)).length, Int32.ofNat (ls.getD x lb0).2.2.1, hb)]) F As := A
    rw [if_neg d, if_neg d] at A
    obtain ⟨a1, a2, a3, a4, a5⟩ := A
    have e : (ls.set x ((ls.getD x lb0).1, (ls.getD x lb0).2.1, (ls.getD x lb0).2.2.1, (ls.getD x lb0).2.2.2.1, (ls.getD x lb0).2.2.2.2.1, rs.length :: (ls.getD x lb0).2.2.2.2.2.1, (ls.getD x lb0).2.2.2.2.2.2)).getD x lb0 = ((ls.getD x lb0).1, (ls.getD x lb0).2.1, (ls.getD x lb0).2.2.1, (ls.getD x lb0).2.2.2.1, (ls.getD x lb0).2.2.2.2.1, rs.length :: (ls.getD x lb0).2.2.2.2.2.1, (ls.getD x lb0).2.2.2.2.2.2) := by
      rw [getD_set', if_pos ⟨rfl, hx⟩]
    have := a4 x rs.length (by show x < (ls.set x _).length; rw [List.length_set]; exact hx) (by
      show rs.length ∈ ((ls.set x _).getD x lb0).2.2.2.2.2.1
      rw [e]
      exact List.mem_cons_self)
    show F.getD rs.length rw0 = (op, (if (ls.getD x lb0).1 = 3 then _ else _), _)
    rw [if_neg d, this]
    show (((rs ++ [_]).getD rs.length rw0).1, _, ((rs ++ [_]).getD rs.length rw0).2.2) = _
    rw [gl]
end FROW
