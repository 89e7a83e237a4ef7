/-! THE REFERENCE READS: the module whole -/
def aI (m eo el x y : Nat) : Prop := (x = 592 ∧ (y = 12 ∨ y = 13 ∨ y = 16)) ∨ x = 596 ∨ x = 597 ∨ x = eo ∨ x = el ∨ (m ≤ x ∧ x ≤ m + 39)
def aL (m eo el x y : Nat) : Prop := (x = 592 ∧ (y = 17 ∨ y = 18)) ∨ x = 596 ∨ x = 597 ∨ x = eo ∨ x = el ∨ (m ≤ x ∧ x ≤ m + 39)
/-- since h only what reading a module writes was written -/
def aF (m eo el : Nat) (h h' : pm_H) : Prop := gF (aI m eo el) (aL m eo el) h h'
theorem yF_a {m eo el : Nat} {h h' : pm_H} (y : yF m eo el h h') : aF m eo el h h' := by
  refine ⟨y.1, y.2.1, y.2.2.1, y.2.2.2.1, fun x z hn => ?_, fun x z hn => ?_⟩
  · unfold aI at hn
    by_cases c : x = 592
    · subst c; exact y.2.2.2.2.2.1 z (by omega)
    · exact (y.2.2.2.2.1 x z c (by omega) (by omega) (by omega) (by omega) (by omega) (by omega)).1
  · unfold aL at hn
    by_cases c : x = 592
    · subst c; exact y.2.2.2.2.2.2 z (by omega) (by omega)
    · exact (y.2.2.2.2.1 x z c (by omega) (by omega) (by omega) (by omega) (by omega) (by omega)).2
theorem yB_a {m eo el : Nat} {h h' : pm_H} (y : yB m eo el h h') : aF m eo el h h' := y.elim fun v y => gF_t (gF_I h v (by unfold aI; omega)) (yF_a y)
theorem aF_I {m eo el : Nat} (h : pm_H) {a k : Nat} (v : Int32) (z : aI m eo el a k) : aF m eo el h (pm_setI h a k v) := gF_I h v z
section MAL
variable {n b m eo el e : Nat} {B : Nat → Nat} {d : Bool}
theorem mC_13 {h : pm_H} (C : mC h n b m eo el e d B) (v : Int32) : mC (pm_setI h 592 13 v) n b m eo el e d B := by
  have hm := mC_m C
  obtain ⟨S, X, P, Z, ie, hn, hd⟩ := C
  refine ⟨mS_I S (fun z => mS_nb S z.symm), X, P, Z, by rw [ev_II, if_pos rfl, if_neg (by decide)]; exact ie, hn, ?_⟩
  rw [ev_II, if_neg (by omega)]
  exact hd
/-- the place of a section -/
theorem mC_sc {h : pm_H} (C : mC h n b m eo el e d B) {id p : Nat} (hp : p < 2147483648) : mC (pm_setI h (m + 1) id (Int32.ofNat p)) n b m eo el e (if id = 12 then true else d) B := by
  have hm := mC_m C
  obtain ⟨S, X, P, Z, ie, hn, hd⟩ := C
  refine ⟨mS_I S (by omega), X, P, Z, by rw [ev_II, if_neg (by omega)]; exact ie, hn, ?_⟩
  rw [ev_II, if_pos rfl]
  by_cases c : 12 = id
  · rw [if_pos c, if_pos c.symm, nn_le (by decide) hp]
    exact propext ⟨fun _ => rfl, fun _ => Nat.zero_le _⟩
  · rw [if_neg c, if_neg (fun z => c z.symm)]
    exact hd
theorem mD_s {h h' : pm_H} {M : tMd} {p : Nat} (D : mD m n eo el h M p) (gI : ∀ x y, (x = m ∨ (m + 2 ≤ x ∧ x ≤ m + 39) ∨ x = eo ∨ x = el) → pm_I h' x y = pm_I h x y) (gL : ∀ x y, (x = m ∨ (m + 2 ≤ x ∧ x ≤ m + 39)) → pm_L h' x y = pm_L h x y) {se : Nat → Option Nat} (hs : ∀ i, i < 13 → pm_I h' (m + 1) i = on3 (se i)) : mD m n eo el h' (M.1, M.2.1, M.2.2.1, M.2.2.2.1, M.2.2.2.2.1, M.2.2.2.2.2.1, M.2.2.2.2.2.2.1, M.2.2.2.2.2.2.2.1, M.2.2.2.2.2.2.2.2.1, M.2.2.2.2.2.2.2.2.2.1, M.2.2.2.2.2.2.2.2.2.2.1, M.2.2.2.2.2.2.2.2.2.2.2.1, se, M.2.2.2.2.2.2.2.2.2.2.2.2.2) p := ⟨dTy_k (h := h) (h' := h') (fun x y h1 h2 => gI x y (by omega)) (gI m 4 (by omega)) (D.1), dImp_k (h := h) (h' := h') (fun x y h1 h2 => gI x y (by omega)) (fun x y h1 h2 => gL x y (by omega)) (gI m 8 (by omega)) (D.2.1), dFn_k (h := h) (h' := h') (fun x y h1 h2 => gL x y (by omega)) (gI m 15 (by omega)) (gL m 14 (by omega)) (D.2.2.1), dTb_k (h := h) (h' := h') (fun x y h1 h2 => gI x y (by omega)) (fun x y h1 h2 => gL x y (by omega)) (gI m 17 (by omega)) (D.2.2.2.1), dMm_k (h := h) (h' := h') (fun x y h1 h2 => gL x y (by omega)) (gI m 21 (by omega)) (D.2.2.2.2.1), dGl_k (h := h) (h' := h') (fun x y h1 h2 => gI x y (by omega)) (gI m 24 (by omega)) (D.2.2.2.2.2.1), dXp_k (h := h) (h' := h') (fun x y h1 h2 => gI x y (by omega)) (fun x y h1 h2 => gL x y (by omega)) (gI m 28 (by omega)) (D.2.2.2.2.2.2.1), dEl_k (h := h) (h' := h') (fun x y h1 h2 => gI x y (by omega)) (fun x y h1 h2 => gL x y (by omega)) (gI m 34 (by omega)) (D.2.2.2.2.2.2.2.1), dDa_k (h := h) (h' := h') (fun x y h1 h2 => gI x y (by omega)) (fun x y h1 h2 => gL x y (by omega)) (gI m 44 (by omega)) (gL m 43 (by omega)) (D.2.2.2.2.2.2.2.2.1), dBo_k (h := h) (h' := h') (fun x y h1 h2 => gI x y (by omega)) (fun x y h1 h2 => gL x y (by omega)) (gL m 50 (by omega)) (fun y h1 => gI eo y (by omega)) (fun y h1 => gI el y (by omega)) (Nat.le_refl _) (D.2.2.2.2.2.2.2.2.2.1), (gL m 33 (by omega)).trans (D.2.2.2.2.2.2.2.2.2.2.1), (gL m 42 (by omega)).trans (D.2.2.2.2.2.2.2.2.2.2.2.1), hs, (gI m 3 (by omega)).trans (D.2.2.2.2.2.2.2.2.2.2.2.2.2.1), mE_k (D.2.2.2.2.2.2.2.2.2.2.2.2.2.2.1) (fun y => gI el y (by omega)), D.2.2.2.2.2.2.2.2.2.2.2.2.2.2.2.1, D.2.2.2.2.2.2.2.2.2.2.2.2.2.2.2.2⟩
theorem mD_p {h : pm_H} {M : tMd} {p p' : Nat} (D : mD m n eo el h M p) (hp : p ≤ p') : mD m n eo el h M p' := ⟨D.1, D.2.1, D.2.2.1, D.2.2.2.1, D.2.2.2.2.1, D.2.2.2.2.2.1, D.2.2.2.2.2.2.1, D.2.2.2.2.2.2.2.1, D.2.2.2.2.2.2.2.2.1, dBo_k (h := h) (h' := h) (fun _ _ _ _ => rfl) (fun _ _ _ _ => rfl) rfl (fun _ _ => rfl) (fun _ _ => rfl) hp (D.2.2.2.2.2.2.2.2.2.1), D.2.2.2.2.2.2.2.2.2.2.1, D.2.2.2.2.2.2.2.2.2.2.2.1, D.2.2.2.2.2.2.2.2.2.2.2.2.1, D.2.2.2.2.2.2.2.2.2.2.2.2.2.1, mE_m (D.2.2.2.2.2.2.2.2.2.2.2.2.2.2.1) hp, D.2.2.2.2.2.2.2.2.2.2.2.2.2.2.2.1, D.2.2.2.2.2.2.2.2.2.2.2.2.2.2.2.2⟩
theorem liM_lt {o : Option Nat} {id K : Nat} {fl : Bool} (h : ∀ x, o = some x → x < K) (hi : id < K) : ∀ x, liM o id fl = some x → x < K := by
  intro x hx
  unfold liM at hx
  cases fl with
  | false => exact h x hx
  | true =>
    cases o with
    | none => cases hx; exact hi
    | some y => cases hx; exact h _ rfl
theorem sec_li {id pl p p' K : Nat} {M M' : tMd} (q : sp_sec B e d id pl M p = .inr (M', p')) (h : ∀ x, M.2.2.2.2.2.2.2.2.2.2.2.2.2 = some x → x < K) (hi : pl < K) : (∀ x, M'.2.2.2.2.2.2.2.2.2.2.2.2.2 = some x → x < K) ∧ M'.2.2.2.2.2.2.2.2.2.2.2.2.1 = M.2.2.2.2.2.2.2.2.2.2.2.2.1 := by
  unfold sp_sec at q
  by_cases c0 : id = 0
  · rw [if_pos c0] at q
    obtain ⟨l, p1, e1, e2⟩ := b_inv q
    cases e2
    exact ⟨h, rfl⟩
  rw [if_neg c0] at q
  by_cases c1 : id = 1
  · rw [if_pos c1] at q
    obtain ⟨l, p1, e1, e2⟩ := b_inv q
    cases e2
    exact ⟨liM_lt h hi, rfl⟩
  rw [if_neg c1] at q
  by_cases c2 : id = 2
  · rw [if_pos c2] at q
    obtain ⟨l, p1, e1, e2⟩ := b_inv q
    cases e2
    exact ⟨liM_lt h hi, rfl⟩
  rw [if_neg c2] at q
  by_cases c3 : id = 3
  · rw [if_pos c3] at q
    obtain ⟨l, p1, e1, e2⟩ := b_inv q
    cases e2
    exact ⟨liM_lt h hi, rfl⟩
  rw [if_neg c3] at q
  by_cases c4 : id = 4
  · rw [if_pos c4] at q
    obtain ⟨l, p1, e1, e2⟩ := b_inv q
    cases e2
    exact ⟨liM_lt h hi, rfl⟩
  rw [if_neg c4] at q
  by_cases c5 : id = 5
  · rw [if_pos c5] at q
    obtain ⟨l, p1, e1, e2⟩ := b_inv q
    cases e2
    exact ⟨liM_lt h hi, rfl⟩
  rw [if_neg c5] at q
  by_cases c6 : id = 6
  · rw [if_pos c6] at q
    obtain ⟨l, p1, e1, e2⟩ := b_inv q
    cases e2
    exact ⟨liM_lt h hi, rfl⟩
  rw [if_neg c6] at q
  by_cases c7 : id = 7
  · rw [if_pos c7] at q
    obtain ⟨l, p1, e1, e2⟩ := b_inv q
    cases e2
    exact ⟨liM_lt h hi, rfl⟩
  rw [if_neg c7] at q
  by_cases c8 : id = 8
  · rw [if_pos c8] at q
    obtain ⟨l, p1, e1, e2⟩ := b_inv q
    cases e2
    exact ⟨h, rfl⟩
  rw [if_neg c8] at q
  by_cases c9 : id = 9
  · rw [if_pos c9] at q
    obtain ⟨l, p1, e1, e2⟩ := b_inv q
    cases e2
    exact ⟨liM_lt h hi, rfl⟩
  rw [if_neg c9] at q
  by_cases c10 : id = 10
  · rw [if_pos c10] at q
    obtain ⟨l, p1, e1, e2⟩ := b_inv q
    cases e2
    exact ⟨liM_lt h hi, rfl⟩
  rw [if_neg c10] at q
  by_cases c11 : id = 11
  · rw [if_pos c11] at q
    obtain ⟨l, p1, e1, e2⟩ := b_inv q
    cases e2
    exact ⟨liM_lt h hi, rfl⟩
  rw [if_neg c11] at q
  obtain ⟨l, p1, e1, e2⟩ := b_inv q
  cases e2
  exact ⟨h, rfl⟩
def rk (id : Nat) : Nat := if id = 12 then 10 else if id = 10 then 11 else if id = 11 then 12 else id
def isS : Option Nat → Bool
  | none => false
  | some _ => true
def sp_secs (B : Nat → Nat) (n : Nat) : Nat → Nat → tMd → Nat → sp_O tMd
  | 0, _, _, _ => .inl (0, 0)
  | N + 1, last, M, p => if n ≤ p then (if M.2.2.1.length = M.2.2.2.2.2.2.2.2.2.1.length then (if M.2.2.2.2.2.2.2.2.2.2.2.1 = none ∨ M.2.2.2.2.2.2.2.2.2.2.2.1 = some M.2.2.2.2.2.2.2.2.1.length then .inr (M, p) else .inl (14, n)) else .inl (13, n)) else
    sp_b (sp_next B n p) fun id p1 => if 12 < id ∨ (0 < id ∧ rk id ≤ last) then .inl (6, p) else sp_b (sp_num B n p1) fun sz p2 => if n < p2 + sz then .inl (2, p1) else
      sp_b (sp_sec B (p2 + sz) (isS (if id = 0 then M.2.2.2.2.2.2.2.2.2.2.2.2.1 12 else if id = 12 then some p else M.2.2.2.2.2.2.2.2.2.2.2.2.1 12)) id p (M.1, M.2.1, M.2.2.1, M.2.2.2.1, M.2.2.2.2.1, M.2.2.2.2.2.1, M.2.2.2.2.2.2.1, M.2.2.2.2.2.2.2.1, M.2.2.2.2.2.2.2.2.1, M.2.2.2.2.2.2.2.2.2.1, M.2.2.2.2.2.2.2.2.2.2.1, M.2.2.2.2.2.2.2.2.2.2.2.1, (fun i => if id ≠ 0 ∧ i = id then some p else M.2.2.2.2.2.2.2.2.2.2.2.2.1 i), M.2.2.2.2.2.2.2.2.2.2.2.2.2) p2) fun M2 p3 => if p3 < p2 + sz then .inl (3, p3) else sp_secs B n N (if id = 0 then last else rk id) M2 p3
theorem rk_m : ∀ id : Fin 13, fX16_rank (Int32.ofNat id.val) = Int32.ofNat (rk id.val) := by decide
theorem rk_le {id : Nat} (h : id < 13) : rk id ≤ 12 := by unfold rk; split <;> (try split) <;> (try split) <;> omega
theorem ms_secs (f q : Int32) : ∀ (N last p : Nat) (M : tMd) (h : pm_H), n < p + N → mC h n b m eo el n (isS (M.2.2.2.2.2.2.2.2.2.2.2.2.1 12)) B → mD m n eo el h M p → pm_I h m 1 = Int32.ofNat n → p ≤ n → last ≤ 12 → (∀ x, M.2.2.2.2.2.2.2.2.2.2.2.2.2 = some x → x < 2147483648) → ms_Q (fun h' => aF m eo el h h') (fun M' p' r => ∃ h', r = rm h' (Int32.ofNat p') f q ∧ aF m eo el h h' ∧ mC h' n b m eo el n (isS (M'.2.2.2.2.2.2.2.2.2.2.2.2.1 12)) B ∧ mD m n eo el h' M' p' ∧ n ≤ p' ∧ p' ≤ n) (pm_lim sX16_readsAll (.inr (.inl (592, Int32.ofNat last, rm h (Int32.ofNat p) f q)))) (sp_secs B n N last M p) := by
  intro N
  induction N with
  | zero => intro last p M h h1 C D i1 h2 h3 h4; omega
  | succ N ih =>
    intro last p M h h1 C D i1 h2 h3 h4
    have hm : 648 < m := mC_m C
    have K : pm_kd h 592 = 16 := C.1.1
    have rr := C.1.2.1
    have km := C.1.2.2.1
    have n4 := C.1.2.2.2.2.2.2.1
    have hb := C.1.2.2.2.2.2.2.2.2.2
    obtain ⟨d1, d2, d3⟩ := mC_d C
    obtain ⟨s1, s2⟩ := mC_s1 C
    refine s_w (aX16_readsAll_1 ..) ?_
    unfold tX16_readsAll_61 sp_secs
    refine s_t K (s_b rr (s_t km ?_))
    have cm : (pm_I (rm h (Int32.ofNat p) f q) m 1 ≤ pm_I (rm h (Int32.ofNat p) f q) 592 11) = (n ≤ p) := by
      rw [rm_11, rm_x _ _ _ _ (show m ≠ 592 by omega), i1, nn_le (by omega) (by omega)]
    by_cases c0 : n ≤ p
    · rw [if_pos c0]
      refine s_t (show pm_I (rm h (Int32.ofNat p) f q) m 1 ≤ pm_I (rm h (Int32.ofNat p) f q) 592 11 by rw [cm]; exact c0) ?_
      have eF : pm_L h m 14 = Int64.ofNat M.2.2.1.length := (D.2.2.1).2.2.1
      have lF : M.2.2.1.length < 4294967296 := (D.2.2.1).2.2.2
      have eB : pm_L h m 50 = Int64.ofNat M.2.2.2.2.2.2.2.2.2.1.length := (D.2.2.2.2.2.2.2.2.2.1).2.1
      have lB : M.2.2.2.2.2.2.2.2.2.1.length < 4294967296 := (D.2.2.2.2.2.2.2.2.2.1).2.2.2
      have eD : pm_L h m 43 = Int64.ofNat M.2.2.2.2.2.2.2.2.1.length := (D.2.2.2.2.2.2.2.2.1).2.2.1
      have lD : M.2.2.2.2.2.2.2.2.1.length < 4294967296 := (D.2.2.2.2.2.2.2.2.1).2.2.2
      have eT : pm_L h m 42 = on6 M.2.2.2.2.2.2.2.2.2.2.2.1 := D.2.2.2.2.2.2.2.2.2.2.2.1
      have lT := D.2.2.2.2.2.2.2.2.2.2.2.2.2.2.2.2
      have i1' : pm_I (rm h (Int32.ofNat p) f q) m 1 = Int32.ofNat n := by rw [rm_x _ _ _ _ (show m ≠ 592 by omega)]; exact i1
      by_cases cF : M.2.2.1.length = M.2.2.2.2.2.2.2.2.2.1.length
      · rw [if_pos cF]
        refine s_t (show pm_L h m 14 = pm_L h m 50 by rw [eF, eB, cF]) ?_
        cases hT : M.2.2.2.2.2.2.2.2.2.2.2.1 with
        | none =>
          rw [hT] at eT
          refine s_t (show pm_L h m 42 < 0 by rw [eT]; decide) (s_r ?_)
          rw [if_pos (.inl rfl)]
          exact q_r ⟨h, rfl, gF_r _ _ h, C, D, c0, h2⟩
        | some x =>
          rw [hT] at eT lT
          have lx := lT x rfl
          refine s_f (show ¬ pm_L h m 42 < 0 by rw [eT, n6_0]; show ¬ Int64.ofNat x < Int64.ofNat 0; rw [ll_lt (by omega) (by decide)]; omega) ?_
          by_cases cx : x = M.2.2.2.2.2.2.2.2.1.length
          · refine s_t (show pm_L h m 42 = pm_L h m 43 by rw [eT, eD, cx]; rfl) (s_r ?_)
            rw [if_pos (.inr (by rw [cx]))]
            exact q_r ⟨h, rfl, gF_r _ _ h, C, D, c0, h2⟩
          · refine s_f (show ¬ pm_L h m 42 = pm_L h m 43 by rw [eT, eD]; show ¬ Int64.ofNat x = Int64.ofNat _; rw [ll_eq (by omega) (by omega)]; exact cx) ?_
            rw [if_neg (fun z => z.elim (fun z => by cases z) (fun z => cx (by cases z; rfl)))]
            exact q_stop (γ := Nat) C (gF_r _ _ h) i1' rfl
      · rw [if_neg cF]
        refine s_f (show ¬ pm_L h m 14 = pm_L h m 50 by rw [eF, eB, ll_eq (by omega) (by omega)]; exact cF) ?_
        exact q_stop (γ := Nat) C (gF_r _ _ h) i1' rfl
    · rw [if_neg c0]
      refine s_f (show ¬ pm_I (rm h (Int32.ofNat p) f q) m 1 ≤ pm_I (rm h (Int32.ofNat p) f q) 592 11 by rw [cm]; exact c0) (s_l ?_)
      refine s_c (MR_Q (ms_next C.1 C.2.2.2.2.1 C.2.2.2.2.2.1 h2 f q)) (fun h' z => by rw [z]; exact gF_r _ _ h) ?_
      intro id p1 r e1 er
      subst er
      obtain ⟨b1, b2, b3⟩ := sp_next_b e1
      have il : id < 256 := by rw [b2]; exact hb p
      -- behind the id
      have main : id < 13 → (id = 0 ∨ last < rk id) → ms_Q (fun h' => aF m eo el h h') (fun M' p' r => ∃ h', r = rm h' (Int32.ofNat p') f q ∧ aF m eo el h h' ∧ mC h' n b m eo el n (isS (M'.2.2.2.2.2.2.2.2.2.2.2.2.1 12)) B ∧ mD m n eo el h' M' p' ∧ n ≤ p' ∧ p' ≤ n) (pm_lim sX16_readsAll (.inr (.inr (.inl (592, Int32.ofNat last, Int32.ofNat p, Int32.ofNat id, rm h (Int32.ofNat p1) f q))))) (sp_b (sp_num B n p1) fun sz p2 => if n < p2 + sz then .inl (2, p1) else sp_b (sp_sec B (p2 + sz) (isS (if id = 0 then M.2.2.2.2.2.2.2.2.2.2.2.2.1 12 else if id = 12 then some p else M.2.2.2.2.2.2.2.2.2.2.2.2.1 12)) id p (M.1, M.2.1, M.2.2.1, M.2.2.2.1, M.2.2.2.2.1, M.2.2.2.2.2.1, M.2.2.2.2.2.2.1, M.2.2.2.2.2.2.2.1, M.2.2.2.2.2.2.2.2.1, M.2.2.2.2.2.2.2.2.2.1, M.2.2.2.2.2.2.2.2.2.2.1, M.2.2.2.2.2.2.2.2.2.2.2.1, (fun i => if id ≠ 0 ∧ i = id then some p else M.2.2.2.2.2.2.2.2.2.2.2.2.1 i), M.2.2.2.2.2.2.2.2.2.2.2.2.2) p2) fun M2 p3 => if p3 < p2 + sz then .inl (3, p3) else sp_secs B n N (if id = 0 then last else rk id) M2 p3) := by
        intro i13 rkc
        have p1n : p1 ≤ n := by omega
        -- from the size on: H the heap, la the rank
        have S129 : ∀ (H : pm_H) (la : Nat), la ≤ 12 → la = (if id = 0 then last else rk id) → aF m eo el h H → mC H n b m eo el n (isS (if id = 0 then M.2.2.2.2.2.2.2.2.2.2.2.2.1 12 else if id = 12 then some p else M.2.2.2.2.2.2.2.2.2.2.2.2.1 12)) B → mD m n eo el H (M.1, M.2.1, M.2.2.1, M.2.2.2.1, M.2.2.2.2.1, M.2.2.2.2.2.1, M.2.2.2.2.2.2.1, M.2.2.2.2.2.2.2.1, M.2.2.2.2.2.2.2.2.1, M.2.2.2.2.2.2.2.2.2.1, M.2.2.2.2.2.2.2.2.2.2.1, M.2.2.2.2.2.2.2.2.2.2.2.1, (fun i => if id ≠ 0 ∧ i = id then some p else M.2.2.2.2.2.2.2.2.2.2.2.2.1 i), M.2.2.2.2.2.2.2.2.2.2.2.2.2) p1 → pm_I H m 1 = Int32.ofNat n → ms_Q (fun h' => aF m eo el h h') (fun M' p' r => ∃ h', r = rm h' (Int32.ofNat p') f q ∧ aF m eo el h h' ∧ mC h' n b m eo el n (isS (M'.2.2.2.2.2.2.2.2.2.2.2.2.1 12)) B ∧ mD m n eo el h' M' p' ∧ n ≤ p' ∧ p' ≤ n) (pm_lim sX16_readsAll (.inr (.inr (.inr (592, Int32.ofNat la, Int32.ofNat p, Int32.ofNat id, rm H (Int32.ofNat p1) f q))))) (sp_b (sp_num B n p1) fun sz p2 => if n < p2 + sz then .inl (2, p1) else sp_b (sp_sec B (p2 + sz) (isS (if id = 0 then M.2.2.2.2.2.2.2.2.2.2.2.2.1 12 else if id = 12 then some p else M.2.2.2.2.2.2.2.2.2.2.2.2.1 12)) id p (M.1, M.2.1, M.2.2.1, M.2.2.2.1, M.2.2.2.2.1, M.2.2.2.2.2.1, M.2.2.2.2.2.2.1, M.2.2.2.2.2.2.2.1, M.2.2.2.2.2.2.2.2.1, M.2.2.2.2.2.2.2.2.2.1, M.2.2.2.2.2.2.2.2.2.2.1, M.2.2.2.2.2.2.2.2.2.2.2.1, (fun i => if id ≠ 0 ∧ i = id then some p else M.2.2.2.2.2.2.2.2.2.2.2.2.1 i), M.2.2.2.2.2.2.2.2.2.2.2.2.2) p2) fun M2 p3 => if p3 < p2 + sz then .inl (3, p3) else sp_secs B n N (if id = 0 then last else rk id) M2 p3) := by
          intro H la hla ela aH CH DH iH
          have m5 : m ≠ 592 := by omega
          refine s_w (aX16_readsAll_3 ..) ?_
          unfold tX16_readsAll_129
          refine s_t CH.1.1 (s_l ?_)
          have st : pm_setI (rm H (Int32.ofNat p1) f q) 592 13 (Int32.ofNat p) = rm (pm_setI H 592 13 (Int32.ofNat p)) (Int32.ofNat p1) f q := rm_o _ _ _ _ _ (by decide) (by decide) (by decide)
          rw [st, rm_11]
          have C3 := mC_13 CH (Int32.ofNat p)
          have a3 : aF m eo el h (pm_setI H 592 13 (Int32.ofNat p)) := gF_t aH (aF_I _ _ (by unfold aI; omega))
          refine s_c (MR_Q (ms_num C3.1 C3.2.2.2.2.1 C3.2.2.2.2.2.1 p1n f q)) (fun h' z => by rw [z]; exact a3) ?_
          intro sz p2 r e2 er
          subst er
          obtain ⟨z1, z2⟩ := sp_num_b p1n e2
          have nz := sp_num_v hb e2
          refine s_t C3.1.1 (s_b C3.1.2.1 (s_t C3.1.2.2.1 ?_))
          have i1' : pm_I (rm (pm_setI H 592 13 (Int32.ofNat p)) (Int32.ofNat p2) f q) m 1 = Int32.ofNat n := by rw [rm_x _ _ _ _ m5, ev_II, if_neg m5]; exact iH
          have cmp : (Int64.ofNat sz ≤ ((pm_I (rm (pm_setI H 592 13 (Int32.ofNat p)) (Int32.ofNat p2) f q) m 1) - (pm_I (rm (pm_setI H 592 13 (Int32.ofNat p)) (Int32.ofNat p2) f q) 592 11)).toInt64) = (sz ≤ n - p2) := by
            rw [i1', rm_11, nn_sb z2, nn_t6 (by omega), ll_le (by omega) (by omega)]
          by_cases c2 : n < p2 + sz
          · refine s_f (show ¬ Int64.ofNat sz ≤ ((pm_I (rm (pm_setI H 592 13 (Int32.ofNat p)) (Int32.ofNat p2) f q) m 1) - (pm_I (rm (pm_setI H 592 13 (Int32.ofNat p)) (Int32.ofNat p2) f q) 592 11)).toInt64 by rw [cmp]; omega) ?_
            rw [if_pos c2]
            exact q_stop (γ := Nat) C3 a3 rfl rfl
          · refine s_t (show Int64.ofNat sz ≤ ((pm_I (rm (pm_setI H 592 13 (Int32.ofNat p)) (Int32.ofNat p2) f q) m 1) - (pm_I (rm (pm_setI H 592 13 (Int32.ofNat p)) (Int32.ofNat p2) f q) 592 11)).toInt64 by rw [cmp]; omega) (s_l ?_)
            rw [if_neg c2]
            have st2 : pm_setI (rm (pm_setI H 592 13 (Int32.ofNat p)) (Int32.ofNat p2) f q) 592 12 (pm_I (rm (pm_setI H 592 13 (Int32.ofNat p)) (Int32.ofNat p2) f q) 592 11 + (Int64.ofNat sz).toInt32) = rm (pm_setI (pm_setI H 592 13 (Int32.ofNat p)) 592 12 (Int32.ofNat (p2 + sz))) (Int32.ofNat p2) f q := by
              rw [rm_11, ll_t3, nn_ad]
              exact rm_o _ _ _ _ _ (by decide) (by decide) (by decide)
            show ms_Q _ _ (ev_k sX16_readsAll ((fX16_readsSection (pm_setI (rm (pm_setI H 592 13 (Int32.ofNat p)) (Int32.ofNat p2) f q) 592 12 (pm_I (rm (pm_setI H 592 13 (Int32.ofNat p)) (Int32.ofNat p2) f q) 592 11 + (Int64.ofNat sz).toInt32)) 592 (Int32.ofNat id)).bind _)) _
            rw [st2]
            have C4 := mC_e C3 (show p2 + sz ≤ n by omega)
            have a4 : aF m eo el h (pm_setI (pm_setI H 592 13 (Int32.ofNat p)) 592 12 (Int32.ofNat (p2 + sz))) := gF_t a3 (aF_I _ _ (by unfold aI; omega))
            have D4 : mD m n eo el (pm_setI (pm_setI H 592 13 (Int32.ofNat p)) 592 12 (Int32.ofNat (p2 + sz))) (M.1, M.2.1, M.2.2.1, M.2.2.2.1, M.2.2.2.2.1, M.2.2.2.2.2.1, M.2.2.2.2.2.2.1, M.2.2.2.2.2.2.2.1, M.2.2.2.2.2.2.2.2.1, M.2.2.2.2.2.2.2.2.2.1, M.2.2.2.2.2.2.2.2.2.2.1, M.2.2.2.2.2.2.2.2.2.2.2.1, (fun i => if id ≠ 0 ∧ i = id then some p else M.2.2.2.2.2.2.2.2.2.2.2.2.1 i), M.2.2.2.2.2.2.2.2.2.2.2.2.2) p2 := mD_p (mD_s (h' := pm_setI (pm_setI H 592 13 (Int32.ofNat p)) 592 12 (Int32.ofNat (p2 + sz))) (se := (fun i => if id ≠ 0 ∧ i = id then some p else M.2.2.2.2.2.2.2.2.2.2.2.2.1 i)) DH (fun x y hx => by rw [ev_II, if_neg (by omega), ev_II, if_neg (by omega)]) (fun x y hx => rfl) (fun i hi => by rw [ev_II, if_neg (by omega), ev_II, if_neg (by omega)]; exact (DH.2.2.2.2.2.2.2.2.2.2.2.2.1) i hi)) (by omega)
            have i13' : pm_I (pm_setI (pm_setI H 592 13 (Int32.ofNat p)) 592 12 (Int32.ofNat (p2 + sz))) 592 13 = Int32.ofNat p := by rw [ev_II, if_pos rfl, if_neg (by decide), ev_II, if_pos rfl, if_pos rfl]
            refine s_c (ms_sec i13 C4 D4 i13' h4 (Nat.le_add_right _ _) f q) (fun h' y => gF_t a4 (yB_a y)) ?_
            rintro M2 p3 r e3 ⟨h3, er, y3, i1s, D3, c3, c4⟩
            subst er
            have a5 : aF m eo el h h3 := gF_t a4 (yF_a y3)
            have C5 := mC_F C4 y3
            obtain ⟨li2, se2⟩ := sec_li e3 h4 (show p < 2147483648 by omega)
            have cm3 : (pm_I (rm h3 (Int32.ofNat p3) f q) 592 12 ≤ pm_I (rm h3 (Int32.ofNat p3) f q) 592 11) = (p2 + sz ≤ p3) := by rw [rm_12, C5.2.2.2.2.1, rm_11, nn_le (by omega) (by omega)]
            refine s_t C5.1.1 ?_
            by_cases c6 : p3 < p2 + sz
            · refine s_f (show ¬ pm_I (rm h3 (Int32.ofNat p3) f q) 592 12 ≤ pm_I (rm h3 (Int32.ofNat p3) f q) 592 11 by rw [cm3]; omega) ?_
              rw [if_pos c6]
              exact q_stop (γ := Nat) C5 a5 rfl rfl
            · refine s_t (show pm_I (rm h3 (Int32.ofNat p3) f q) 592 12 ≤ pm_I (rm h3 (Int32.ofNat p3) f q) 592 11 by rw [cm3]; omega) (s_b C5.1.2.1 (s_t C5.1.2.2.1 (s_l (s_n ?_))))
              rw [if_neg c6]
              have i1h : pm_I h3 m 1 = Int32.ofNat n := i1s.trans (by rw [ev_II, if_neg m5, ev_II, if_neg m5]; exact iH)
              have st3 : pm_setI (rm h3 (Int32.ofNat p3) f q) 592 12 (pm_I (rm h3 (Int32.ofNat p3) f q) m 1) = rm (pm_setI h3 592 12 (Int32.ofNat n)) (Int32.ofNat p3) f q := by
                rw [rm_x _ _ _ _ m5, i1h]
                exact rm_o _ _ _ _ _ (by decide) (by decide) (by decide)
              show ms_Q _ _ (pm_lim sX16_readsAll (.inr (.inl (592, Int32.ofNat la, pm_setI (rm h3 (Int32.ofNat p3) f q) 592 12 (pm_I (rm h3 (Int32.ofNat p3) f q) m 1))))) _
              rw [st3, ela]
              rw [ela] at hla
              have C6 := mC_e C5 (Nat.le_refl n)
              have a6 : aF m eo el h (pm_setI h3 592 12 (Int32.ofNat n)) := gF_t a5 (aF_I _ _ (by unfold aI; omega))
              refine q_w (ih _ p3 M2 (pm_setI h3 592 12 (Int32.ofNat n)) (by omega) ?_ (mD_s (h' := pm_setI h3 592 12 (Int32.ofNat n)) (se := M2.2.2.2.2.2.2.2.2.2.2.2.2.1) D3 (fun x y hx => by rw [ev_II, if_neg (by omega)]) (fun x y hx => rfl) (fun i hi => by rw [ev_II, if_neg (by omega)]; exact (D3.2.2.2.2.2.2.2.2.2.2.2.2.1) i hi)) (by rw [ev_II, if_neg m5]; exact i1h) (by omega) hla li2) (fun h' y => gF_t a6 y) ?_
              · rw [se2]
                have sq : (if id = 0 then M.2.2.2.2.2.2.2.2.2.2.2.2.1 12 else if id = 12 then some p else M.2.2.2.2.2.2.2.2.2.2.2.2.1 12) = (if id ≠ 0 ∧ 12 = id then some p else M.2.2.2.2.2.2.2.2.2.2.2.2.1 12) := by
                  by_cases k0 : id = 0
                  · rw [if_pos k0, if_neg (fun z => z.1 k0)]
                  · rw [if_neg k0]
                    by_cases k1 : id = 12
                    · rw [if_pos k1, if_pos ⟨k0, k1.symm⟩]
                    · rw [if_neg k1, if_neg (fun z => k1 z.2.symm)]
                show mC _ n b m eo el n (isS (if id ≠ 0 ∧ 12 = id then some p else M.2.2.2.2.2.2.2.2.2.2.2.2.1 12)) B
                rw [← sq]
                exact C6
              · rintro M' p' r e4 ⟨h', er, a7, C7, D7, c7, c8⟩
                exact ⟨h', er, gF_t a6 a7, C7, D7, c7, c8⟩
        have i31 : id < 2147483648 := by omega
        refine s_w (aX16_readsAll_2 ..) ?_
        unfold tX16_readsAll_110
        by_cases k0 : id = 0
        · refine s_t (show Int32.ofNat id ≤ 0 by rw [n3_0, nn_le (by omega) (by decide)]; omega) (s_n ?_)
          refine S129 h last h3 (by rw [if_pos k0]) (gF_r _ _ h) (by rw [if_pos k0]; exact C) (mD_p (mD_s (h' := h) (se := (fun i => if id ≠ 0 ∧ i = id then some p else M.2.2.2.2.2.2.2.2.2.2.2.2.1 i)) D (fun _ _ _ => rfl) (fun _ _ _ => rfl) (fun i hi => by rw [if_neg (fun z => z.1 k0)]; exact (D.2.2.2.2.2.2.2.2.2.2.2.2.1) i hi)) (by omega)) i1
        · obtain ⟨m2, k2, l2⟩ := mP_2 C.2.2.1
          have rkm : fX16_rank (Int32.ofNat id) = Int32.ofNat (rk id) := rk_m ⟨id, i13⟩
          have rkl := rk_le i13
          have m51 : m + 1 ≠ 592 := by omega
          refine s_f (show ¬ Int32.ofNat id ≤ 0 by rw [n3_0, nn_le (by omega) (by decide)]; omega) (s_l (s_t K (s_b rr (s_t km (s_b m2 (s_t k2 (s_t (show pm_in (Int32.ofNat id) (pm_ln h (m + 1)) by rw [nn_in i31, l2]; exact i13) (s_n ?_))))))))
          rw [nn_cm i31, rm_a _ _ _ _ _ m51, rkm]
          refine S129 (pm_setI h (m + 1) id (Int32.ofNat p)) (rk id) rkl (by rw [if_neg k0]) (aF_I h _ (by unfold aI; omega)) ?_ (mD_p (mD_s (h' := pm_setI h (m + 1) id (Int32.ofNat p)) (se := (fun i => if id ≠ 0 ∧ i = id then some p else M.2.2.2.2.2.2.2.2.2.2.2.2.1 i)) D (fun x y hx => by rw [ev_II, if_neg (by omega)]) (fun _ _ _ => rfl) ?_) (by omega)) (by rw [ev_II, if_neg (by omega)]; exact i1)
          · have C7 := mC_sc C (id := id) (show p < 2147483648 by omega)
            rw [if_neg k0]
            by_cases k1 : id = 12
            · rw [if_pos k1] at C7 ⊢
              exact C7
            · rw [if_neg k1] at C7 ⊢
              exact C7
          · intro i hi
            rw [ev_II, if_pos rfl]
            by_cases ce : i = id
            · rw [if_pos ce, if_pos ⟨k0, ce⟩]; rfl
            · rw [if_neg ce, if_neg (fun z => ce z.2)]; exact (D.2.2.2.2.2.2.2.2.2.2.2.2.1) i hi
      by_cases c12 : 12 < id
      · refine s_t (show (12 : Int32) < Int32.ofNat id by rw [n3_12, nn_lt (by omega) (by omega)]; exact c12) (s_t K ?_)
        rw [if_pos (.inl c12)]
        exact q_stop (γ := Nat) C (gF_r _ _ h) rfl rfl
      · refine s_f (show ¬ (12 : Int32) < Int32.ofNat id by rw [n3_12, nn_lt (by omega) (by omega)]; exact c12) ?_
        by_cases ci : id = 0
        · refine s_t (show Int32.ofNat id ≤ 0 by rw [n3_0, nn_le (by omega) (by decide)]; omega) (s_n ?_)
          rw [if_neg (fun z => z.elim (fun z => by omega) (fun z => by omega))]
          exact main (by omega) (.inl ci)
        · refine s_f (show ¬ Int32.ofNat id ≤ 0 by rw [n3_0, nn_le (by omega) (by decide)]; omega) (s_l ?_)
          have rkm : fX16_rank (Int32.ofNat id) = Int32.ofNat (rk id) := rk_m ⟨id, by omega⟩
          have rkl := rk_le (id := id) (by omega)
          by_cases cr : rk id ≤ last
          · refine s_f (show ¬ Int32.ofNat last < fX16_rank (Int32.ofNat id) by rw [rkm, nn_lt (by omega) (by omega)]; omega) (s_t K ?_)
            rw [if_pos (.inr ⟨by omega, cr⟩)]
            exact q_stop (γ := Nat) C (gF_r _ _ h) rfl rfl
          · refine s_t (show Int32.ofNat last < fX16_rank (Int32.ofNat id) by rw [rkm, nn_lt (by omega) (by omega)]; omega) (s_n ?_)
            rw [if_neg (fun z => z.elim (fun z => by omega) (fun z => cr z.2))]
            exact main (by omega) (.inr (by omega))
end MAL
