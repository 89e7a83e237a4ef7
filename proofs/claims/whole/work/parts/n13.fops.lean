/-! FLATTENED CODE: the rows in the end, instruction by instruction -/
section FOPS
variable {B : Nat → Nat} {n : Nat} {M : tMd} {Dc : Nat → Bool} {lt : Nat → Option Nat} {p z x : Nat} {K K' K1 : tK} {v : sp_I} {op hb a b c : Int32} {F : List tRw} {As : List (Nat × Nat)}
/-- behind what takes and puts -/
theorem fr_em (j : K1.2 = K.2) (w : wfC K) (k : kAl K = true) (A : rAg (kEm K1 op a b c hb) F As) : F.getD K.2.2.length rw0 = (op, a, b, c, hb) := by
  have := ag_er (wC_2 j w).1 (by rw [kAl_2 j]; exact k) A
  rw [j] at this
  exact this
theorem fr_br (j : K1.2 = K.2) (w : wfC K) (k : kAl K = true) (hx : x < K.2.1.length) (A : rAg (kBr M op hb x K1) F As) : F.getD K.2.2.length rw0 = bRw M op hb (K.2.1.getD x lb0) (As.getD x (0, 0)) := by
  have := ag_br (wC_2 j w).1 (by rw [kAl_2 j]; exact k) (by rw [j]; exact hx) A
  rw [j] at this
  exact this
/-- 4 -/
theorem fr_4 (h4 : v.1 = 4) (hl : 0 < K.2.1.length) (hr : K.2.2.length < 2147483648) (k : kAl K = true) (q : kIns B n M Dc lt p v K = .inr (K', z)) (A : rAg K' F As) : F.getD K.2.2.length rw0 = (4, Int32.ofNat (As.getD 0 (0, 0)).2, 0, 0, Int32.ofNat K.1.length) := by
  rw [ki_2 (by omega)] at q
  obtain ⟨hh, e1, e2⟩ := ls_blk q
  obtain ⟨a1, a2, a3, a4, a5⟩ := A
  rw [if_pos h4, if_pos k] at e1
  rw [if_pos ⟨h4, k⟩] at e2
  have g : (Int32.ofNat K.2.2.length).toNatClampNeg = K.2.2.length := nn_cm hr
  have := a5 0 (by rw [e1]; exact Nat.succ_pos _) (by rw [e1]; exact h4) (by
    rw [e1]
    show 0 ≤ Int32.ofNat K.2.2.length
    rw [n3_0, nn_le (by decide) hr]
    omega)
  rw [e1, e2] at this
  have this : F.getD (Int32.ofNat K.2.2.length).toNatClampNeg rw0 = (((K.2.2 ++ [(4, -1, 0, 0, Int32.ofNat K.1.length)]).getD (Int32.ofNat K.2.2.length).toNatClampNeg rw0).1, Int32.ofNat (As.getD 0 (0, 0)).2, ((K.2.2 ++ [(4, -1, 0, 0, Int32.ofNat K.1.length)]).getD (Int32.ofNat K.2.2.length).toNatClampNeg rw0).2.2) := this
  rw [g] at this
  rw [this, List.getD_eq_getElem?_getD, List.getElem?_append_right (Nat.le_refl _), Nat.sub_self]
  rfl
/-- 5 -/
theorem fr_5 (h5 : v.1 = 5) (w : wfC K) (hl : 0 < K.2.1.length) (k : kAl K = true) (q : kIns B n M Dc lt p v K = .inr (K', z)) (A : rAg K' F As) : F.getD K.2.2.length rw0 = bRw M 5 (Int32.ofNat K.1.length) (K.2.1.getD 0 lb0) (As.getD 0 (0, 0)) := by
  rw [ki_3 h5] at q
  unfold kEls at q
  obtain ⟨K1, z1, e1, q⟩ := b_inv q
  have j := kTakeN_2 e1
  have w1 : wfC K1 := (wC_2 j w).1
  split at q
  · have q := kPutN_2 q
    have jb := wC_b' (M := M) (op := 5) (hb := Int32.ofNat K.1.length) (x := 0) w1
    have tt := kBr_t0 M 5 (Int32.ofNat K.1.length) K1
    have l1 := lSm_l (kBr_m M 5 (Int32.ofNat K.1.length) 0 K1).2
    have fin : ∀ {a' : Nat × Nat} {y : Nat} {As' : List (Nat × Nat)}, rAg (kBr M 5 (Int32.ofNat K.1.length) 0 K1) F ((a'.1, y) :: As') → F.getD K.2.2.length rw0 = bRw M 5 (Int32.ofNat K.1.length) (K.2.1.getD 0 lb0) a' := fun h => by
      have := fr_br j w k hl h
      rw [this]
      rfl
    generalize kBr M 5 (Int32.ofNat K.1.length) 0 K1 = KB at *
    rw [← tt] at q
    obtain ⟨st, ls, rs⟩ := KB
    cases ls with
    | nil => have l1 : 0 = K1.2.1.length := l1; rw [j] at l1; omega
    | cons l ls =>
      obtain ⟨s', K'2⟩ := K'
      have q : K'2 = _ := q
      subst q
      obtain ⟨a1, a2, ar⟩ := A
      cases As with
      | nil => cases a2
      | cons a' As' => exact fin (ag_els0 (st' := s') (l' := (5, l.2.1, l.2.2.1, false, l.2.2.2.2)) jb (by show (5 : Nat) ≠ 4; decide) rfl ⟨a1, a2, ar⟩)
  · cases q
/-- 12, 13 -/
theorem fr_12 (h : 12 ≤ v.1 ∧ v.1 ≤ 13) (w : wfC K) (k : kAl K = true) (q : kIns B n M Dc lt p v K = .inr (K', z)) (A : rAg K' F As) : v.2.1.toNatClampNeg < K.2.1.length ∧ F.getD K.2.2.length rw0 = bRw M (Int32.ofNat v.1) (Int32.ofNat K.1.length) (K.2.1.getD v.2.1.toNatClampNeg lb0) (As.getD v.2.1.toNatClampNeg (0, 0)) := by
  rw [ki_5 h] at q
  unfold kBrn at q
  split at q
  · cases q
  next hx =>
  obtain ⟨K1, z1, e1, q⟩ := b_inv q
  obtain ⟨K2, z2, e2, q⟩ := b_inv q
  have j := (kTakeN_2 e2).trans (kTk_2 e1)
  refine ⟨by omega, ?_⟩
  split at q
  · next c =>
    cases q
    rw [c]
    exact fr_br j w k (by omega) (ag_d (by rw [lSm_l (kBr_m _ _ _ _ _).2, j]; omega) A)
  · next c =>
    obtain ⟨K3, z3, e3, q⟩ := b_inv q
    cases q
    rw [show v.1 = 13 by omega]
    exact fr_br ((kPutN_2 e3).trans j) w k (by omega) A
/-- 15 -/
theorem fr_15 (h : v.1 = 15) (w : wfC K) (hl : 0 < K.2.1.length) (k : kAl K = true) (q : kIns B n M Dc lt p v K = .inr (K', z)) (A : rAg K' F As) : F.getD K.2.2.length rw0 = bRw M 12 (Int32.ofNat K.1.length) (K.2.1.getD (K.2.1.length - 1) lb0) (As.getD (K.2.1.length - 1) (0, 0)) := by
  rw [ki_7 h] at q
  unfold kRet at q
  obtain ⟨K1, z1, e1, q⟩ := b_inv q
  cases q
  have j := kTakeN_2 e1
  exact fr_br j w k (by omega) (ag_d (by rw [lSm_l (kBr_m _ _ _ _ _).2, j]; exact hl) A)
/-- 14, label by label -/
theorem fr_tl {many : Nat} : ∀ {dl : List Nat} {K K' : tK} {z : Nat}, wfC K → kAl K = true → (∀ x, x ∈ dl → x < K.2.1.length) → kTabL M p hb many dl K = .inr (K', z) → rAg K' F As → rAg K F As ∧ ∀ i y, dl[i]? = some y → F.getD (K.2.2.length + i) rw0 = bRw M 12 hb (K.2.1.getD y lb0) (As.getD y (0, 0)) ∧ (lbW M (K.2.1.getD y lb0)).length = many
  | [], K, K', z, w, k, hd, q, A => by
    cases q
    exact ⟨A, fun i y h => by cases h⟩
  | x :: l, K, K', z, w, k, hd, q, A => by
    unfold kTabL at q
    split at q
    · next hm =>
      obtain ⟨K1, z1, e1, q⟩ := b_inv q
      have j : K1.2 = K.2 := by
        split at e1
        · exact kTakeN_2 e1
        · obtain ⟨v, z2, e2, e3⟩ := b_inv e1
          exact (kPutN_2 e3).trans (kTakeS_2 e2)
      have w1 : wfC K1 := (wC_2 j w).1
      have w2 : wfC (kBr M 12 hb x K1) := wC_b' w1
      have l2 : (kBr M 12 hb x K1).2.1.length = K.2.1.length := by rw [lSm_l (kBr_m M 12 hb x K1).2, j]
      have k2 : kAl (kBr M 12 hb x K1) = true := by rw [kAl_b, kAl_2 j]; exact k
      obtain ⟨A2, R⟩ := fr_tl w2 k2 (fun y hy => by rw [l2]; exact hd y (List.mem_cons_of_mem _ hy)) q A
      have r2 : (kBr M 12 hb x K1).2.2.length = K.2.2.length + 1 := by
        unfold kBr
        rw [if_pos (by rw [kAl_2 j]; exact k)]
        show (K1.2.2 ++ [_]).length = _
        rw [List.length_append, j]
        rfl
      refine ⟨ag_2 j (ag_b' w1 A2), fun i y h => ?_⟩
      cases i with
      | zero =>
        have h : x = y := by cases h; rfl
        rw [← h]
        exact ⟨fr_br j w k (hd x List.mem_cons_self) A2, hm⟩
      | succ i =>
        obtain ⟨g1, g2⟩ := R i y h
        have U := kBr_U M 12 hb x K1 y
        rw [j] at U
        have lw : lbW M ((kBr M 12 hb x K1).2.1.getD y lb0) = lbW M (K.2.1.getD y lb0) := by unfold lbW; rw [U.1, U.2.1]
        rw [r2, show K.2.2.length + 1 + i = K.2.2.length + (i + 1) by omega] at g1
        refine ⟨?_, by rw [← lw]; exact g2⟩
        rw [g1]
        unfold bRw
        rw [lw, U.1, U.2.2.1, U.2.2.2.2.1]
    · cases q
/-- 14 -/
theorem fr_14 (h : v.1 = 14) (w : wfC K) (hl : 0 < K.2.1.length) (k : kAl K = true) (q : kIns B n M Dc lt p v K = .inr (K', z)) (A : rAg K' F As) : F.getD K.2.2.length rw0 = (14, Int32.ofNat ((kDl B n v.2.1.toNatClampNeg v.2.2.1.toNatClampNeg).length - 1), 0, 0, Int32.ofNat K.1.length) ∧ ∀ i y, (kDl B n v.2.1.toNatClampNeg v.2.2.1.toNatClampNeg)[i]? = some y → y < K.2.1.length ∧ F.getD (K.2.2.length + 1 + i) rw0 = bRw M 12 (Int32.ofNat K.1.length) (K.2.1.getD y lb0) (As.getD y (0, 0)) := by
  rw [ki_6 h] at q
  unfold kTab at q
  generalize kDl B n v.2.1.toNatClampNeg v.2.2.1.toNatClampNeg = dl at *
  by_cases c : dl.any (fun x => decide (K.2.1.length ≤ x)) = true
  · rw [if_pos c] at q; cases q
  rw [if_neg c] at q
  obtain ⟨K1, z1, e1, q⟩ := b_inv q
  obtain ⟨K2, z2, e2, q⟩ := b_inv q
  cases q
  have j := kTk_2 e1
  have hd : ∀ x, x ∈ dl → x < K.2.1.length := fun y hy => Nat.lt_of_not_le fun h => c (List.any_eq_true.mpr ⟨y, hy, decide_eq_true h⟩)
  have w1 : wfC K1 := (wC_2 j w).1
  have w2 : wfC (kEm K1 14 (Int32.ofNat (dl.length - 1)) 0 0 (Int32.ofNat K.1.length)) := (wC_e w1).1
  have em := (kEm_1 K1 14 (Int32.ofNat (dl.length - 1)) 0 0 (Int32.ofNat K.1.length)).2
  have k2 : kAl (kEm K1 14 (Int32.ofNat (dl.length - 1)) 0 0 (Int32.ofNat K.1.length)) = true := by
    unfold kAl kTop
    rw [em, j]
    exact k
  have hd2 : ∀ y, y ∈ dl → y < (kEm K1 14 (Int32.ofNat (dl.length - 1)) 0 0 (Int32.ofNat K.1.length)).2.1.length := fun y hy => by rw [em, j]; exact hd y hy
  obtain ⟨-, l2⟩ := kTabL_c w2 hd2 e2
  obtain ⟨A2, R⟩ := fr_tl w2 k2 hd2 e2 (ag_d (by rw [l2, em, j]; exact hl) A)
  refine ⟨fr_em j w k A2, fun i y hi => ?_⟩
  obtain ⟨g1, -⟩ := R i y hi
  have r2 : (kEm K1 14 (Int32.ofNat (dl.length - 1)) 0 0 (Int32.ofNat K.1.length)).2.2.length = K.2.2.length + 1 := by
    unfold kEm
    rw [if_pos (by rw [kAl_2 j]; exact k)]
    show (K1.2.2 ++ [_]).length = _
    rw [List.length_append, j]
    rfl
  rw [r2, em, j] at g1
  exact ⟨hd y (List.mem_of_getElem? hi), g1⟩
/-- the row of an instruction that is neither of these -/
def kRw (M : tMd) (Dc : Nat → Bool) (lt : Nat → Option Nat) (v : sp_I) (hb : Int32) : tRw :=
  if v.1 ≤ 1 then (Int32.ofNat v.1, v.2.1.toInt32, v.2.2.1.toInt32, 0, hb)
  else if v.1 = 16 then (match (spF M)[v.2.1.toNatClampNeg]? with
    | none => rw0
    | some f => (16, Int32.ofNat v.2.1.toNatClampNeg, 0, Int32.ofNat (btP M (Int64.ofNat f.2.1)).length, hb))
  else if v.1 = 17 then (17, Int32.ofNat v.2.1.toNatClampNeg, Int32.ofNat v.2.2.1.toNatClampNeg, Int32.ofNat (btP M (Int64.ofNat v.2.1.toNatClampNeg)).length, hb)
  else if v.1 = 26 then (26, v.2.1.toInt32, v.2.2.1.toInt32, 2, hb)
  else if v.1 = 27 then (27, v.2.1.toInt32, v.2.2.1.toInt32, 7, hb)
  else if 65 ≤ v.1 ∧ v.1 ≤ 68 then (65, v.2.1.toInt32, (v.2.1 >>> 32).toInt32, 1, hb)
  else if v.1 = 208 then (65, -1, -1, 1, hb)
  else if v.1 = 209 then (209, v.2.1.toInt32, v.2.2.1.toInt32, 3, hb)
  else match kSg M Dc lt v.1 v.2.1.toNatClampNeg v.2.2.1.toNatClampNeg with
    | none => rw0
    | some s => (Int32.ofNat v.1, v.2.1.toInt32, v.2.2.1.toInt32, kCc s.1 s.2.1 s.2.2.1 s.2.2.2, hb)
theorem fr_pl (n2 : v.1 ≤ 1 ∨ 15 < v.1) (w : wfC K) (hl : 0 < K.2.1.length) (k : kAl K = true) (q : kIns B n M Dc lt p v K = .inr (K', z)) (A : rAg K' F As) : F.getD K.2.2.length rw0 = kRw M Dc lt v (Int32.ofNat K.1.length) := by
  unfold kIns at q
  unfold kRw
  by_cases cc0 : v.1 = 0
  · rw [if_pos cc0] at q
    cases q
    rw [if_pos (by omega), cc0]
    exact fr_em (K1 := K) rfl w k (ag_d (by rw [(kEm_1 _ _ _ _ _ _).2]; exact hl) A)
  rw [if_neg cc0] at q
  by_cases cc1 : v.1 = 1
  · rw [if_pos cc1] at q
    cases q
    rw [if_pos (by omega), cc1]
    exact fr_em (K1 := K) rfl w k A
  rw [if_neg cc1, if_neg (by omega), if_neg (by omega), if_neg (by omega), if_neg (by omega), if_neg (by omega), if_neg (by omega)] at q
  rw [if_neg (show ¬ v.1 ≤ 1 by omega)]
  by_cases cc8 : v.1 = 16
  · rw [if_pos cc8] at q ⊢
    unfold kCal at q
    split at q
    · cases q
    · next f hf =>
      obtain ⟨K1, z1, e1, q⟩ := b_inv q
      obtain ⟨K2, z2, e2, q⟩ := b_inv q
      cases q
      rw [hf]
      exact fr_em ((kPutN_2 e2).trans (kTakeN_2 e1)) w k A
  rw [if_neg cc8] at q ⊢
  by_cases cc9 : v.1 = 17
  · rw [if_pos cc9] at q ⊢
    unfold kCalT at q
    split at q
    · cases q
    · split at q
      · obtain ⟨K1, z1, e1, q⟩ := b_inv q
        obtain ⟨K2, z2, e2, q⟩ := b_inv q
        obtain ⟨K3, z3, e3, q⟩ := b_inv q
        cases q
        exact fr_em ((kPutN_2 e3).trans ((kTakeN_2 e2).trans (kTk_2 e1))) w k A
      · cases q
  rw [if_neg cc9] at q ⊢
  by_cases cc10 : v.1 = 26
  · rw [if_pos cc10] at q ⊢
    obtain ⟨y, z1, e1, q⟩ := b_inv q
    cases q
    exact fr_em (kTake_2 e1) w k A
  rw [if_neg cc10] at q ⊢
  by_cases cc11 : v.1 = 27
  · rw [if_pos cc11] at q ⊢
    obtain ⟨K1, z1, e1, q⟩ := b_inv q
    obtain ⟨y, z2, e2, q⟩ := b_inv q
    obtain ⟨y2, z3, e3, q⟩ := b_inv q
    split at q
    · cases q
    · obtain ⟨K4, z4, e4, q⟩ := b_inv q
      cases q
      exact fr_em ((kPut_2 e4).trans ((kTake_2 e3).trans ((kTake_2 e2).trans (kTk_2 e1)))) w k A
  rw [if_neg cc11] at q ⊢
  by_cases cc12 : 65 ≤ v.1 ∧ v.1 ≤ 68
  · rw [if_pos cc12] at q ⊢
    obtain ⟨K1, z1, e1, q⟩ := b_inv q
    cases q
    exact fr_em (kPut_2 e1) w k A
  rw [if_neg cc12] at q ⊢
  by_cases cc13 : v.1 = 208
  · rw [if_pos cc13] at q ⊢
    obtain ⟨K1, z1, e1, q⟩ := b_inv q
    cases q
    exact fr_em (kPut_2 e1) w k A
  rw [if_neg cc13] at q ⊢
  by_cases cc14 : v.1 = 209
  · rw [if_pos cc14] at q ⊢
    obtain ⟨y, z1, e1, q⟩ := b_inv q
    split at q
    · cases q
    · obtain ⟨K2, z2, e2, q⟩ := b_inv q
      cases q
      exact fr_em ((kPut_2 e2).trans (kTake_2 e1)) w k A
  rw [if_neg cc14] at q ⊢
  split at q
  · cases q
  · next s hs =>
    obtain ⟨K1, z1, e1, q⟩ := b_inv q
    obtain ⟨K2, z2, e2, q⟩ := b_inv q
    obtain ⟨K3, z3, e3, q⟩ := b_inv q
    obtain ⟨K4, z4, e4, q⟩ := b_inv q
    cases q
    rw [hs]
    exact fr_em ((kPt_2 e4).trans ((kTk_2 e3).trans ((kTk_2 e2).trans (kTk_2 e1)))) w k A
end FOPS
