/-! THE REFERENCE CHECKS: exports -/
section VEXP
variable {h : pm_H} {n b m eo el : Nat} {B : Nat → Nat} {M : tMd} {D : Bool} {x y : tXp}
theorem v_allk (C : vC h n b m eo el B M) (L : vL M) (hK : ∀ a, a ∈ M.2.1 → gImp a) {k : Nat} (hk : k ≤ 3) : fX14_all h m (Int32.ofNat k) = some (Int32.ofNat (spL M k)) := by
  obtain ⟨a0, a1, a2, a3⟩ := v_all C L hK
  have c : k = 0 ∨ k = 1 ∨ k = 2 ∨ k = 3 := by omega
  rcases c with c | c | c | c <;> subst c
  · exact a0
  · exact a1
  · exact a2
  · exact a3
theorem v_sml (C : vC h n b m eo el B M) {i1 i2 : Nat} (h1 : i1 < 64) (h2 : i2 < 64) (n1 : pm_I h (m + 19) i1 = Int32.ofNat x.1) (n2 : pm_I h (m + 19) i2 = Int32.ofNat y.1) (b1 : x.1 + x.2.1 ≤ n) (b2 : y.1 + x.2.1 ≤ n) : ∀ (j k : Nat), k + j = x.2.1 → pm_lim (sX16_isSameName h) (592, Int32.ofNat i1, Int32.ofNat i2, Int32.ofNat x.2.1, 1, Int32.ofNat k) = some (iN (decide (∀ t, t < x.2.1 → k ≤ t → B (x.1 + t) = B (y.1 + t)))) := by
  have n4 := C.1.2.2.2.2.2.2.1
  have hB := C.1.2.2.2.2.2.2.2.2.2
  intro j
  induction j with
  | zero =>
    intro k hk
    refine k_w (aX16_isSameName_0 ..) ?_
    unfold tX16_isSameName_33
    refine k_t (by rw [nn_le (by omega) (by omega)]; omega) (k_t (.inr rfl) ?_)
    rw [decide_eq_true (fun t h1 h2 => by omega)]
    rfl
  | succ j ih =>
    intro k hk
    refine k_w (aX16_isSameName_0 ..) ?_
    unfold tX16_isSameName_33
    have e1 : pm_I h (m + pRf 29) (Int32.ofNat i1).toNatClampNeg + Int32.ofNat k = Int32.ofNat (x.1 + k) := by rw [nn_cm (by omega), show pm_I h (m + pRf 29) i1 = _ from n1]; exact nn_ad _ _
    have e2 : pm_I h (m + pRf 29) (Int32.ofNat i2).toNatClampNeg + Int32.ofNat k = Int32.ofNat (y.1 + k) := by rw [nn_cm (by omega), show pm_I h (m + pRf 29) i2 = _ from n2]; exact nn_ad _ _
    refine k_f (by rw [nn_le (by omega) (by omega)]; omega) (k_f (by decide) (k_t C.1.1 (k_b C.1.2.1 (k_t C.1.2.2.1 (k_b (vR C 29 (by decide)) (k_t (vKd C 19 (by decide) (by decide)) (k_t (v_in64 C 19 (by decide) (by decide) rfl h1) ?_)))))))
    rw [e1]
    refine k_b (mw_at C.1 (by omega)) (k_t (v_in64 C 19 (by decide) (by decide) rfl h2) ?_)
    rw [e2]
    refine k_b (mw_at C.1 (by omega)) ?_
    have q1 := hB (x.1 + k)
    have q2 := hB (y.1 + k)
    rw [show Int32.ofNat k + 1 = Int32.ofNat (k + 1) from nn_ad _ 1]
    by_cases c : B (x.1 + k) = B (y.1 + k)
    · refine k_t (by rw [c]) (k_l (k_n ((ih (k + 1) (by omega)).trans ?_)))
      refine congrArg (fun z => some (iN z)) (decide_eq_decide.mpr ⟨fun q t h1 h2 => ?_, fun q t h1 h2 => q t h1 (by omega)⟩)
      by_cases z : t = k
      · rw [z]; exact c
      · exact q t h1 (by omega)
    · refine k_f (by rw [nn_eq (by omega) (by omega)]; exact c) (k_l (k_n ?_))
      rw [decide_eq_false (fun q => c (q k (by omega) (Nat.le_refl k)))]
      refine k_w (aX16_isSameName_0 ..) ?_
      unfold tX16_isSameName_33
      by_cases d : x.2.1 ≤ k + 1
      · exact k_t (by rw [nn_le (by omega) (by omega)]; exact d) (k_t (.inl rfl) rfl)
      · exact k_f (by rw [nn_le (by omega) (by omega)]; exact d) (k_t rfl (k_t (.inl rfl) rfl))
theorem v_sam (C : vC h n b m eo el B M) (G : vG B n D M) {i1 i2 : Nat} (hx : M.2.2.2.2.2.2.1[i1]? = some x) (hy : M.2.2.2.2.2.2.1[i2]? = some y) : fX16_isSameName h 592 (Int32.ofNat i1) (Int32.ofNat i2) = some (iN (xSm B x y)) := by
  have n4 := C.1.2.2.2.2.2.2.1
  have L6 := (vG_L G).2.2.2.2.2.1
  have l1 := some_lt hx
  have l2 := some_lt hy
  have D7 := C.2.2.1.2.2.2.2.2.2.1
  have p1 := D7.1 i1 x hx (by omega)
  have p2 := D7.1 i2 y hy (by omega)
  have g1 := G.1.2.2.2.2.2.2.1 x (List.mem_of_getElem? hx)
  have g2 := G.1.2.2.2.2.2.2.1 y (List.mem_of_getElem? hy)
  obtain ⟨g11, -⟩ := g1
  obtain ⟨g21, -⟩ := g2
  unfold fX16_isSameName xSm
  have s1 : pm_I h (m + pRf 30) (Int32.ofNat i1).toNatClampNeg = Int32.ofNat x.2.1 := by rw [nn_cm (by omega)]; exact p1.2.1
  have s2 : pm_I h (m + pRf 30) (Int32.ofNat i2).toNatClampNeg = Int32.ofNat y.2.1 := by rw [nn_cm (by omega)]; exact p2.2.1
  refine e9_t C.1.1 (e9_b C.1.2.1 (e9_t C.1.2.2.1 (e9_b (vR C 30 (by decide)) (e9_t (vKd C 20 (by decide) (by decide)) (e9_t (v_in64 C 20 (by decide) (by decide) rfl (by omega)) (e9_l (e9_t (v_in64 C 20 (by decide) (by decide) rfl (by omega)) ?_)))))))
  rw [s1, s2]
  by_cases c : x.2.1 = y.2.1
  · rw [decide_eq_true c, Bool.true_and]
    refine e9_t (by rw [c]) ?_
    have z := v_sml (i1 := i1) (i2 := i2) C (by omega) (by omega) p1.1 p2.1 g11 (by omega) x.2.1 0 (Nat.zero_add _)
    refine z.trans (congrArg (fun z => some (iN z)) (decide_eq_decide.mpr ⟨fun q t h1 => q t h1 (Nat.zero_le _), fun q t h1 _ => q t h1⟩))
  · rw [decide_eq_false c, Bool.false_and]
    refine e9_f (by rw [nn_eq (by omega) (by omega)]; exact c) (k_w (aX16_isSameName_0 ..) ?_)
    unfold tX16_isSameName_33
    by_cases d : x.2.1 ≤ 0
    · exact k_t (by rw [n3_0, nn_le (by omega) (by omega)]; exact d) (k_t (.inl rfl) rfl)
    · exact k_f (by rw [n3_0, nn_le (by omega) (by omega)]; exact d) (k_t rfl (k_t (.inl rfl) rfl))
theorem v_xpl (C : vC h n b m eo el B M) (G : vG B n D M) {o : sp_O Unit} (ho : o = .inr ((), 0)) : ∀ j i, i + j = M.2.2.2.2.2.2.1.length → ms_Q (vF m h) (fun _ _ r => r = h) (pm_lim sX16_checksExports (.inl (592, Int32.ofNat i, h))) (match sp_xpC B M (M.2.2.2.2.2.2.1.take i) (M.2.2.2.2.2.2.1.drop i) with
    | some w => .inl (w, sS M 7)
    | none => o) := by
  have L := vG_L G
  have hK := G.1.2.1
  have L6 := L.2.2.2.2.2.1
  have SL := sp_len L
  have D7 := C.2.2.1.2.2.2.2.2.2.1
  have i28 : pm_I h m 28 = Int32.ofNat M.2.2.2.2.2.2.1.length := by have z := D7.2.1; rw [k64_i L6] at z; exact z
  intro j
  induction j with
  | zero =>
    intro i hi
    rw [show i = M.2.2.2.2.2.2.1.length by omega, List.drop_length, sp_xpC]
    refine s_w (aX16_checksExports_0 ..) ?_
    unfold tX16_checksExports_2
    rw [ho]
    exact s_t C.1.1 (s_b C.1.2.1 (s_t C.1.2.2.1 (s_t (by rw [i28, nn_le (by omega) (by omega)]; omega) (s_r (q_r rfl)))))
  | succ j ih =>
    intro i hi
    have il : i < M.2.2.2.2.2.2.1.length := by omega
    obtain ⟨x, ex⟩ : ∃ x, M.2.2.2.2.2.2.1[i]? = some x := ⟨_, List.getElem?_eq_getElem il⟩
    have e2 : M.2.2.2.2.2.2.1[i] = x := by have z := List.getElem?_eq_getElem il; rw [ex] at z; exact (Option.some.inj z).symm
    rw [List.drop_eq_getElem_cons il, sp_xpC, e2]
    have pa := D7.1 i x ex (by omega)
    obtain ⟨g1, g2, g3⟩ := G.1.2.2.2.2.2.2.1 x (List.mem_of_getElem? ex)
    have sl : spL M x.2.2.1 ≤ 128 := by
      unfold spL
      split
      · exact SL.1
      · split
        · exact SL.2.1
        · split
          · exact SL.2.2.1
          · exact SL.2.2.2
    have e31 : pm_I h (m + pRf 31) (Int32.ofNat i).toNatClampNeg = Int32.ofNat x.2.2.1 := by rw [nn_cm (by omega)]; exact pa.2.2.1
    have e32 : pm_L h (m + pRf 32) (Int32.ofNat i).toNatClampNeg = Int64.ofNat x.2.2.2 := by rw [nn_cm (by omega)]; exact pa.2.2.2
    have lc : (Int64.ofNat x.2.2.2 < (Int32.ofNat (spL M x.2.2.1)).toInt64) ↔ ¬ spL M x.2.2.1 ≤ x.2.2.2 := by
      rw [nn_t6 (by omega), ll_lt (by have : x.2.2.2 < 4294967296 := g3; omega) (by omega)]
      omega
    refine s_w (aX16_checksExports_0 ..) ?_
    unfold tX16_checksExports_2
    refine s_t C.1.1 (s_b C.1.2.1 (s_t C.1.2.2.1 (s_f (by rw [i28, nn_le (by omega) (by omega)]; omega) (s_b (vR C 32 (by decide)) (s_t (vKd C 22 (by decide) (by decide)) (s_t (v_in64 C 22 (by decide) (by decide) rfl (by omega)) (s_b (vR C 31 (by decide)) (s_t (vKd C 21 (by decide) (by decide)) (s_t (v_in64 C 21 (by decide) (by decide) rfl (by omega)) ?_)))))))))
    rw [e31, e32]
    refine s_b (v_allk C L hK g2) ?_
    by_cases c : spL M x.2.2.1 ≤ x.2.2.2
    · refine s_f (fun z => lc.mp z c) ?_
      rw [if_pos c]
      exact ss_sec C (gF_r _ _ h) (i := 7) (by decide)
    · refine s_t (lc.mpr c) (s_n ?_)
      rw [if_neg c]
      have tl : (M.2.2.2.2.2.2.1.take i).length = i := by rw [List.length_take]; omega
      have fin : ms_Q (vF m h) (fun _ _ r => r = h) (pm_lim sX16_checksExports (.inr (592, Int32.ofNat i, Int32.ofNat (M.2.2.2.2.2.2.1.take i).length, h))) (match sp_xpC B M (M.2.2.2.2.2.2.1.take i ++ [x]) (M.2.2.2.2.2.2.1.drop (i + 1)) with
        | some w => .inl (w, sS M 7)
        | none => o) := by
        rw [tl]
        refine s_w (aX16_checksExports_1 ..) ?_
        unfold tX16_checksExports_61
        refine s_t (by rw [nn_le (by omega) (by omega)]; omega) (s_l ?_)
        rw [show Int32.ofNat i + 1 = Int32.ofNat (i + 1) from nn_ad _ 1]
        have et : M.2.2.2.2.2.2.1.take i ++ [x] = M.2.2.2.2.2.2.1.take (i + 1) := by rw [List.take_add_one, ex]; rfl
        rw [et]
        exact s_n (ih (i + 1) (by omega))
      have lp := lp_any (s := sX16_checksExports) (st := fun k => .inr (592, Int32.ofNat i, Int32.ofNat k, h)) (l := M.2.2.2.2.2.2.1.take i) (f := fun y => xSm B x y) (w := (23, sS M 7)) (fun k y hk => by
        have kl : k < i := by have := some_lt hk; omega
        have ey : M.2.2.2.2.2.2.1[k]? = some y := by rw [List.getElem?_take_of_lt kl] at hk; exact hk
        have sm := v_sam C G ex ey
        constructor
        · intro e
          refine s_w (aX16_checksExports_1 ..) ?_
          unfold tX16_checksExports_61
          exact s_f (by rw [nn_le (by omega) (by omega)]; omega) (s_t C.1.1 (s_b sm (s_f (by rw [e]; decide) (s_b C.1.2.1 (s_t C.1.2.2.1 (ss_sec C (gF_r _ _ h) (i := 7) (by decide)))))))
        · intro e
          refine k_w (aX16_checksExports_1 ..) ?_
          unfold tX16_checksExports_61
          refine k_f (by rw [nn_le (by omega) (by omega)]; omega) (k_t C.1.1 (k_b sm (k_t (by rw [e]; rfl) (k_l ?_))))
          rw [show Int32.ofNat k + 1 = Int32.ofNat (k + 1) from nn_ad _ 1]
          rfl) fin
      by_cases ca : (M.2.2.2.2.2.2.1.take i).any (fun y => xSm B x y) = true
      · rw [if_pos ca] at lp ⊢
        exact lp
      · rw [if_neg ca] at lp ⊢
        exact lp
theorem v_xps (C : vC h n b m eo el B M) (G : vG B n D M) {o : sp_O Unit} (ho : o = .inr ((), 0)) : ms_Q (vF m h) (fun _ _ r => r = h) (fX16_checksExports h 592) (match sp_xpC B M [] M.2.2.2.2.2.2.1 with
    | some w => .inl (w, sS M 7)
    | none => o) := by
  have z := v_xpl C G ho M.2.2.2.2.2.2.1.length 0 (Nat.zero_add _)
  rw [List.drop_zero] at z
  exact z
end VEXP
