/-! THE REFERENCE CHECKS: types, limits -/
theorem v_lm {lo : Nat} {hi : Int64} {pg : Bool} (h : lo < 4294967296) : fX16_areLimits (Int64.ofNat lo) hi (iN pg) = iN (!lmB lo hi pg) := by
  have e1 : (65536 : Int64) < Int64.ofNat lo ↔ 65536 < lo := by rw [show (65536 : Int64) = Int64.ofNat 65536 from rfl, ll_lt (by decide) (by omega)]
  have tail : (if iN pg = 0 then (1 : Int32) else if (65536 : Int64) < Int64.ofNat lo then 0 else if 65536 < hi then 0 else 1) = iN (!(pg && (decide (65536 < lo) || decide (65536 < hi)))) := by
    cases pg with
    | false => rfl
    | true =>
      rw [if_neg (show ¬ iN true = 0 by decide), Bool.true_and]
      by_cases c : 65536 < lo
      · rw [if_pos (e1.mpr c), decide_eq_true c, Bool.true_or]; rfl
      · rw [if_neg (fun z => c (e1.mp z)), decide_eq_false c, Bool.false_or]
        by_cases d : 65536 < hi
        · rw [if_pos d, decide_eq_true d]; rfl
        · rw [if_neg d, decide_eq_false d]; rfl
  unfold fX16_areLimits lmB
  by_cases c : hi < 0
  · rw [if_pos c, tail, decide_eq_false (fun z => absurd c (Int64.not_lt.mpr z)), Bool.false_and, Bool.false_or]
  · rw [if_neg c, decide_eq_true (Int64.not_lt.mp c), Bool.true_and]
    by_cases d : hi < Int64.ofNat lo
    · rw [if_pos d, decide_eq_true d, Bool.true_or]; rfl
    · rw [if_neg d, decide_eq_false d, Bool.false_or]
      exact tail
section VHEAD
variable {h : pm_H} {n b m eo el : Nat} {B : Nat → Nat} {M : tMd} {D : Bool} {β ρ : Type} {F : pm_H → Prop} {R : β → Nat → ρ → Prop} {o : sp_O β}
theorem v_sec (C : vC h n b m eo el B M) {i : Nat} (hi : i < 13) : pm_I h (m + 1) i = Int32.ofNat (sS M i) := by
  rw [sS_3]
  exact C.2.2.1.2.2.2.2.2.2.2.2.2.2.2.2.1 i hi
theorem vR (C : vC h n b m eo el B M) (y : Nat) (hy : pRf y ≠ 0) : pm_R h m y = some (m + pRf y) := C.2.1.1 y hy
theorem vKd (C : vC h n b m eo el B M) (j : Nat) (h1 : 1 ≤ j) (h2 : j ≤ 39) : pm_kd h (m + j) = pKd j := (C.2.1.2 j h1 h2).1
theorem vLn (C : vC h n b m eo el B M) (j : Nat) (h1 : 1 ≤ j) (h2 : j ≤ 39) : pm_ln h (m + j) = pLn j := (C.2.1.2 j h1 h2).2
theorem v_in64 (C : vC h n b m eo el B M) (j : Nat) (h1 : 1 ≤ j) (h2 : j ≤ 39) (h3 : pLn j = 64) {i : Nat} (hi : i < 64) : pm_in (Int32.ofNat i) (pm_ln h (m + j)) := by
  rw [vLn C j h1 h2, h3, nn_in (by omega)]
  exact hi
theorem v_in13 (C : vC h n b m eo el B M) {i : Nat} (hi : i < 13) : pm_in (Int32.ofNat i) (pm_ln h (m + 1)) := by
  rw [vLn C 1 (by decide) (by decide), nn_in (by omega)]
  exact hi
/-- a stop at a section's place -/
theorem ss_sec {σ : Type} {s : σ → Option (σ ⊕ ((Nat × pm_H) ⊕ ρ))} {k : pm_H → Option (σ ⊕ ((Nat × pm_H) ⊕ ρ))} (C : vC h n b m eo el B M) (hF : F h) {i w : Nat} (hi : i < 13) : ms_Q F R (ev_k s ((pm_R h m 2).bind fun v => if pm_kd h v = 34 then if pm_in (Int32.ofNat i) (pm_ln h v) then (fX16_stops h 592 (Int32.ofNat w) (pm_I h v (Int32.ofNat i).toNatClampNeg)).bind fun z => pt_s z k else none else none)) (.inl (w, sS M i)) :=
  s_b (vR C 2 (by decide)) (s_t (vKd C 1 (by decide) (by decide)) (s_t (v_in13 C hi) (s_stop C.1 hF rfl (by rw [nn_cm (by omega)]; exact v_sec C hi))))
theorem v_typ (C : vC h n b m eo el B M) (G : vG B n D M) {o : sp_O Unit} (ho : o = .inr ((), 0)) : ms_Q (vF m h) (fun _ _ r => r = h) (fX16_checksTypes h 592) (if M.2.1.any (fun a => decide (a.1 = 0) && decide (M.1.length ≤ a.2.1)) = true then .inl (20, sS M 2) else if M.2.2.1.any (fun a => decide (M.1.length ≤ a)) = true then .inl (20, sS M 3) else o) := by
  have L := vG_L G
  have T1 := (vG_T G).1
  obtain ⟨L1, L2, -⟩ := L
  have D1 := C.2.2.1.1
  have D2 := C.2.2.1.2.1
  have D3 := C.2.2.1.2.2.1
  have i4 : (pm_I h m 4).toInt64 = Int64.ofNat M.1.length := by
    have z := D1.2.1
    rw [k64_i T1] at z
    rw [z, nn_t6 (by omega)]
  have i8 : pm_I h m 8 = Int32.ofNat M.2.1.length := by have z := D2.2.1; rw [k64_i L1] at z; exact z
  have i15 : pm_I h m 15 = Int32.ofNat M.2.2.1.length := by have z := D3.2.1; rw [k64_i L2] at z; exact z
  unfold fX16_checksTypes
  refine lp_any (s := sX16_checksTypes) (st := fun i => .inl (592, Int32.ofNat i, h)) (l := M.2.1) (fun i a ha => ?_) ?_
  · have il := some_lt ha
    have pa := D2.1 i a ha (by omega)
    have ga := G.1.2.1 a (List.mem_of_getElem? ha)
    have nx : Int32.ofNat i + 1 = Int32.ofNat (i + 1) := nn_ad _ 1
    have e9 : (pm_I h (m + pRf 9) (Int32.ofNat i).toNatClampNeg = 0) ↔ a.1 = 0 := by
      rw [nn_cm (by omega), show pm_I h (m + pRf 9) i = Int32.ofNat a.1 from pa.1, show (0 : Int32) = Int32.ofNat 0 from rfl, nn_eq (by have := ga.1; omega) (by decide)]
    have e10 : (pm_L h (m + pRf 10) (Int32.ofNat i).toNatClampNeg < (pm_I h m 4).toInt64) ↔ ¬ M.1.length ≤ a.2.1 := by
      rw [nn_cm (by omega), show pm_L h (m + pRf 10) i = Int64.ofNat a.2.1 from pa.2.1, i4, ll_lt (by have := ga.2.1; omega) (by omega)]
      omega
    have hd : ¬ pm_I h m 8 ≤ Int32.ofNat i := by rw [i8, nn_le (by omega) (by omega)]; omega
    constructor
    · intro e
      have e0 : a.1 = 0 := by
        by_cases z : a.1 = 0
        · exact z
        · rw [decide_eq_false z] at e; cases e
      have e1 : M.1.length ≤ a.2.1 := by
        by_cases z : M.1.length ≤ a.2.1
        · exact z
        · rw [decide_eq_false z, Bool.and_false] at e; cases e
      refine s_w (aX16_checksTypes_0 ..) ?_
      unfold tX16_checksTypes_2
      exact s_t C.1.1 (s_b C.1.2.1 (s_t C.1.2.2.1 (s_f hd (s_b (vR C 9 (by decide)) (s_t (vKd C 5 (by decide) (by decide)) (s_t (v_in64 C 5 (by decide) (by decide) rfl (by omega)) (s_t (e9.mpr e0) (s_b (vR C 10 (by decide)) (s_t (vKd C 6 (by decide) (by decide)) (s_t (v_in64 C 6 (by decide) (by decide) rfl (by omega)) (s_f (fun z => e10.mp z e1) (ss_sec C (gF_r _ _ h) (i := 2) (by decide)))))))))))))
    · intro e
      refine k_w (aX16_checksTypes_0 ..) ?_
      unfold tX16_checksTypes_2
      rw [nx]
      refine k_t C.1.1 (k_b C.1.2.1 (k_t C.1.2.2.1 (k_f hd (k_b (vR C 9 (by decide)) (k_t (vKd C 5 (by decide) (by decide)) (k_t (v_in64 C 5 (by decide) (by decide) rfl (by omega)) ?_))))))
      by_cases z : a.1 = 0
      · have e1 : ¬ M.1.length ≤ a.2.1 := fun y => by rw [decide_eq_true z, decide_eq_true y] at e; cases e
        exact k_t (e9.mpr z) (k_b (vR C 10 (by decide)) (k_t (vKd C 6 (by decide) (by decide)) (k_t (v_in64 C 6 (by decide) (by decide) rfl (by omega)) (k_t (e10.mpr e1) (k_l rfl)))))
      · exact k_f (fun y => z (e9.mp y)) (k_l rfl)
  · refine s_w (aX16_checksTypes_0 ..) ?_
    unfold tX16_checksTypes_2
    refine s_t C.1.1 (s_b C.1.2.1 (s_t C.1.2.2.1 (s_t (by rw [i8, nn_le (by omega) (by omega)]; omega) (s_n ?_))))
    refine lp_any (α := Nat) (s := sX16_checksTypes) (st := fun i => .inr (592, Int32.ofNat i, h)) (l := M.2.2.1) (fun i a ha => ?_) ?_
    · have il := some_lt ha
      have pa : pm_L h (m + pRf 16) i = Int64.ofNat a := D3.1 i a ha (by omega)
      have ga : a < 4294967296 := G.1.2.2.1 a (List.mem_of_getElem? ha)
      have nx : Int32.ofNat i + 1 = Int32.ofNat (i + 1) := nn_ad _ 1
      have e10 : (pm_L h (m + pRf 16) (Int32.ofNat i).toNatClampNeg < (pm_I h m 4).toInt64) ↔ ¬ M.1.length ≤ a := by
        rw [nn_cm (by omega), pa, i4, ll_lt (by omega) (by omega)]
        omega
      have hd : ¬ pm_I h m 15 ≤ Int32.ofNat i := by rw [i15, nn_le (by omega) (by omega)]; omega
      constructor
      · intro e
        refine s_w (aX16_checksTypes_1 ..) ?_
        unfold tX16_checksTypes_69
        exact s_t C.1.1 (s_b C.1.2.1 (s_t C.1.2.2.1 (s_f hd (s_b (vR C 16 (by decide)) (s_t (vKd C 10 (by decide) (by decide)) (s_t (v_in64 C 10 (by decide) (by decide) rfl (by omega)) (s_f (fun z => e10.mp z (of_decide_eq_true e)) (ss_sec C (gF_r _ _ h) (i := 3) (by decide)))))))))
      · intro e
        refine k_w (aX16_checksTypes_1 ..) ?_
        unfold tX16_checksTypes_69
        rw [nx]
        exact k_t C.1.1 (k_b C.1.2.1 (k_t C.1.2.2.1 (k_f hd (k_b (vR C 16 (by decide)) (k_t (vKd C 10 (by decide) (by decide)) (k_t (v_in64 C 10 (by decide) (by decide) rfl (by omega)) (k_t (e10.mpr (of_decide_eq_false e)) (k_l rfl))))))))
    · refine s_w (aX16_checksTypes_1 ..) ?_
      unfold tX16_checksTypes_69
      rw [ho]
      exact s_t C.1.1 (s_b C.1.2.1 (s_t C.1.2.2.1 (s_t (by rw [i15, nn_le (by omega) (by omega)]; omega) (s_r (q_r rfl)))))
theorem v_lim (C : vC h n b m eo el B M) (G : vG B n D M) {o : sp_O Unit} (ho : o = .inr ((), 0)) : ms_Q (vF m h) (fun _ _ r => r = h) (fX16_checksLimits h 592) (if M.2.1.any (fun a => (decide (a.1 = 1) || decide (a.1 = 2)) && lmB a.2.2.1 a.2.2.2.1 (decide (a.1 = 2))) = true then .inl (21, sS M 2) else if M.2.2.2.1.any (fun a => lmB a.2.1 a.2.2 false) = true then .inl (21, sS M 4) else if M.2.2.2.2.1.any (fun a => lmB a.1 a.2 true) = true then .inl (21, sS M 5) else o) := by
  have L := vG_L G
  obtain ⟨L1, -, L3, L4, -⟩ := L
  have D2 := C.2.2.1.2.1
  have D4 := C.2.2.1.2.2.2.1
  have D5 := C.2.2.1.2.2.2.2.1
  have i8 : pm_I h m 8 = Int32.ofNat M.2.1.length := by have z := D2.2.1; rw [k64_i L1] at z; exact z
  have i17 : pm_I h m 17 = Int32.ofNat M.2.2.2.1.length := by have z := D4.2.1; rw [k64_i L3] at z; exact z
  have i21 : pm_I h m 21 = Int32.ofNat M.2.2.2.2.1.length := by have z := D5.2.1; rw [k64_i L4] at z; exact z
  unfold fX16_checksLimits
  refine lp_any (s := sX16_checksLimits) (st := fun i => .inl (592, Int32.ofNat i, h)) (l := M.2.1) (fun i a ha => ?_) ?_
  · have il := some_lt ha
    have pa := D2.1 i a ha (by omega)
    have ga := G.1.2.1 a (List.mem_of_getElem? ha)
    have g1 := ga.1
    have nx : Int32.ofNat i + 1 = Int32.ofNat (i + 1) := nn_ad _ 1
    have e9 : pm_I h (m + pRf 9) (Int32.ofNat i).toNatClampNeg = Int32.ofNat a.1 := by rw [nn_cm (by omega)]; exact pa.1
    have e11 : pm_L h (m + pRf 11) (Int32.ofNat i).toNatClampNeg = Int64.ofNat a.2.2.1 := by rw [nn_cm (by omega)]; exact pa.2.2.1
    have e12 : pm_L h (m + pRf 12) (Int32.ofNat i).toNatClampNeg = a.2.2.2.1 := by rw [nn_cm (by omega)]; exact pa.2.2.2.1
    have hd : ¬ pm_I h m 8 ≤ Int32.ofNat i := by rw [i8, nn_le (by omega) (by omega)]; omega
    have N : ∀ j, j < 10 → a.1 ≠ j → ¬ Int32.ofNat a.1 = Int32.ofNat j := fun j hj z => by rw [nn_eq (by omega) (by omega)]; exact z
    have h1 : pm_lim sX16_checksLimits (.inl (592, Int32.ofNat i, h)) = if a.1 = 1 ∨ a.1 = 2 then pm_lim sX16_checksLimits (.inr (.inr (.inl (592, Int32.ofNat i, Int32.ofNat a.1, h)))) else pm_lim sX16_checksLimits (.inl (592, Int32.ofNat (i + 1), h)) := by
      refine k_w (aX16_checksLimits_0 ..) ?_
      unfold tX16_checksLimits_2
      rw [nx]
      refine k_t C.1.1 (k_b C.1.2.1 (k_t C.1.2.2.1 (k_f hd (k_b (vR C 9 (by decide)) (k_t (vKd C 5 (by decide) (by decide)) (k_t (v_in64 C 5 (by decide) (by decide) rfl (by omega)) (k_l ?_)))))))
      rw [e9]
      by_cases z1 : a.1 = 1
      · rw [if_pos (show a.1 = 1 ∨ a.1 = 2 from .inl z1)]
        exact k_t (by rw [z1]; rfl) rfl
      · by_cases z2 : a.1 = 2
        · rw [if_pos (show a.1 = 1 ∨ a.1 = 2 from .inr z2)]
          exact k_f (N 1 (by decide) z1) (k_t (by rw [z2]; rfl) rfl)
        · rw [if_neg (show ¬ (a.1 = 1 ∨ a.1 = 2) from fun y => y.elim z1 z2)]
          exact k_f (N 1 (by decide) z1) (k_f (N 2 (by decide) z2) rfl)
    show ((((decide (a.1 = 1) || decide (a.1 = 2)) && lmB a.2.2.1 a.2.2.2.1 (decide (a.1 = 2))) = true) → ms_Q _ _ (pm_lim sX16_checksLimits (.inl (592, Int32.ofNat i, h))) _) ∧ ((((decide (a.1 = 1) || decide (a.1 = 2)) && lmB a.2.2.1 a.2.2.2.1 (decide (a.1 = 2))) = false) → pm_lim sX16_checksLimits (.inl (592, Int32.ofNat i, h)) = pm_lim sX16_checksLimits (.inl (592, Int32.ofNat (i + 1), h)))
    rw [h1]
    by_cases z : a.1 = 1 ∨ a.1 = 2
    · have zb : (decide (a.1 = 1) || decide (a.1 = 2)) = true := by
        rcases z with z | z
        · rw [decide_eq_true z]; rfl
        · rw [decide_eq_true z, Bool.or_true]
      rw [if_pos z, zb, Bool.true_and]
      have lm := v_lm (lo := a.2.2.1) (hi := a.2.2.2.1) (pg := decide (a.1 = 2)) ga.2.2.1
      constructor
      · intro e
        rw [e] at lm
        refine s_w (aX16_checksLimits_2 ..) ?_
        unfold tX16_checksLimits_33
        refine s_t C.1.1 (s_b C.1.2.1 (s_t C.1.2.2.1 (s_b (vR C 11 (by decide)) (s_t (vKd C 7 (by decide) (by decide)) (s_t (v_in64 C 7 (by decide) (by decide) rfl (by omega)) (s_b (vR C 12 (by decide)) (s_t (vKd C 8 (by decide) (by decide)) (s_t (v_in64 C 8 (by decide) (by decide) rfl (by omega)) ?_))))))))
        rw [e11, e12]
        by_cases z2 : a.1 = 2
        · rw [decide_eq_true z2] at lm
          exact s_t (by rw [z2]; rfl) (s_l (s_t (show fX16_areLimits _ _ 1 = 0 from lm) (ss_sec C (gF_r _ _ h) (i := 2) (by decide))))
        · rw [decide_eq_false z2] at lm
          exact s_f (N 2 (by decide) z2) (s_l (s_t (show fX16_areLimits _ _ 0 = 0 from lm) (ss_sec C (gF_r _ _ h) (i := 2) (by decide))))
      · intro e
        rw [e] at lm
        refine k_w (aX16_checksLimits_2 ..) ?_
        unfold tX16_checksLimits_33
        rw [nx]
        refine k_t C.1.1 (k_b C.1.2.1 (k_t C.1.2.2.1 (k_b (vR C 11 (by decide)) (k_t (vKd C 7 (by decide) (by decide)) (k_t (v_in64 C 7 (by decide) (by decide) rfl (by omega)) (k_b (vR C 12 (by decide)) (k_t (vKd C 8 (by decide) (by decide)) (k_t (v_in64 C 8 (by decide) (by decide) rfl (by omega)) ?_))))))))
        rw [e11, e12]
        by_cases z2 : a.1 = 2
        · rw [decide_eq_true z2] at lm
          exact k_t (by rw [z2]; rfl) (k_l (k_f (show ¬ fX16_areLimits _ _ 1 = 0 by rw [show fX16_areLimits (Int64.ofNat a.2.2.1) a.2.2.2.1 1 = _ from lm]; decide) (k_l rfl)))
        · rw [decide_eq_false z2] at lm
          exact k_f (N 2 (by decide) z2) (k_l (k_f (show ¬ fX16_areLimits _ _ 0 = 0 by rw [show fX16_areLimits (Int64.ofNat a.2.2.1) a.2.2.2.1 0 = _ from lm]; decide) (k_l rfl)))
    · have z1 : ¬ a.1 = 1 := fun y => z (.inl y)
      have z2 : ¬ a.1 = 2 := fun y => z (.inr y)
      rw [if_neg z, decide_eq_false z1, decide_eq_false z2]
      exact ⟨fun e => (by cases e), fun _ => rfl⟩
  · refine s_w (aX16_checksLimits_0 ..) ?_
    unfold tX16_checksLimits_2
    refine s_t C.1.1 (s_b C.1.2.1 (s_t C.1.2.2.1 (s_t (by rw [i8, nn_le (by omega) (by omega)]; omega) (s_n ?_))))
    refine lp_any (s := sX16_checksLimits) (st := fun i => .inr (.inl (592, Int32.ofNat i, h))) (l := M.2.2.2.1) (fun i a ha => ?_) ?_
    · have il := some_lt ha
      have pa := D4.1 i a ha (by omega)
      have ga := G.1.2.2.2.1 a (List.mem_of_getElem? ha)
      have nx : Int32.ofNat i + 1 = Int32.ofNat (i + 1) := nn_ad _ 1
      have e1 : pm_L h (m + pRf 19) (Int32.ofNat i).toNatClampNeg = Int64.ofNat a.2.1 := by rw [nn_cm (by omega)]; exact pa.2.1
      have e2 : pm_L h (m + pRf 20) (Int32.ofNat i).toNatClampNeg = a.2.2 := by rw [nn_cm (by omega)]; exact pa.2.2
      have hd : ¬ pm_I h m 17 ≤ Int32.ofNat i := by rw [i17, nn_le (by omega) (by omega)]; omega
      have lm := v_lm (lo := a.2.1) (hi := a.2.2) (pg := false) ga.2.1
      constructor
      · intro e
        rw [e] at lm
        refine s_w (aX16_checksLimits_1 ..) ?_
        unfold tX16_checksLimits_90
        refine s_t C.1.1 (s_b C.1.2.1 (s_t C.1.2.2.1 (s_f hd (s_b (vR C 19 (by decide)) (s_t (vKd C 12 (by decide) (by decide)) (s_t (v_in64 C 12 (by decide) (by decide) rfl (by omega)) (s_b (vR C 20 (by decide)) (s_t (vKd C 13 (by decide) (by decide)) (s_t (v_in64 C 13 (by decide) (by decide) rfl (by omega)) (s_l ?_))))))))))
        rw [e1, e2]
        exact s_t (show fX16_areLimits _ _ 0 = 0 from lm) (ss_sec C (gF_r _ _ h) (i := 4) (by decide))
      · intro e
        rw [e] at lm
        refine k_w (aX16_checksLimits_1 ..) ?_
        unfold tX16_checksLimits_90
        rw [nx]
        refine k_t C.1.1 (k_b C.1.2.1 (k_t C.1.2.2.1 (k_f hd (k_b (vR C 19 (by decide)) (k_t (vKd C 12 (by decide) (by decide)) (k_t (v_in64 C 12 (by decide) (by decide) rfl (by omega)) (k_b (vR C 20 (by decide)) (k_t (vKd C 13 (by decide) (by decide)) (k_t (v_in64 C 13 (by decide) (by decide) rfl (by omega)) (k_l ?_))))))))))
        rw [e1, e2]
        exact k_f (show ¬ fX16_areLimits _ _ 0 = 0 by rw [show fX16_areLimits (Int64.ofNat a.2.1) a.2.2 0 = _ from lm]; decide) (k_l rfl)
    · refine s_w (aX16_checksLimits_1 ..) ?_
      unfold tX16_checksLimits_90
      refine s_t C.1.1 (s_b C.1.2.1 (s_t C.1.2.2.1 (s_t (by rw [i17, nn_le (by omega) (by omega)]; omega) (s_n ?_))))
      refine lp_any (s := sX16_checksLimits) (st := fun i => .inr (.inr (.inr (592, Int32.ofNat i, h)))) (l := M.2.2.2.2.1) (fun i a ha => ?_) ?_
      · have il := some_lt ha
        have pa := D5.1 i a ha (by omega)
        have ga := G.1.2.2.2.2.1 a (List.mem_of_getElem? ha)
        have nx : Int32.ofNat i + 1 = Int32.ofNat (i + 1) := nn_ad _ 1
        have e1 : pm_L h (m + pRf 22) (Int32.ofNat i).toNatClampNeg = Int64.ofNat a.1 := by rw [nn_cm (by omega)]; exact pa.1
        have e2 : pm_L h (m + pRf 23) (Int32.ofNat i).toNatClampNeg = a.2 := by rw [nn_cm (by omega)]; exact pa.2
        have hd : ¬ pm_I h m 21 ≤ Int32.ofNat i := by rw [i21, nn_le (by omega) (by omega)]; omega
        have lm := v_lm (lo := a.1) (hi := a.2) (pg := true) ga.1
        constructor
        · intro e
          rw [e] at lm
          refine s_w (aX16_checksLimits_3 ..) ?_
          unfold tX16_checksLimits_149
          refine s_t C.1.1 (s_b C.1.2.1 (s_t C.1.2.2.1 (s_f hd (s_b (vR C 22 (by decide)) (s_t (vKd C 14 (by decide) (by decide)) (s_t (v_in64 C 14 (by decide) (by decide) rfl (by omega)) (s_b (vR C 23 (by decide)) (s_t (vKd C 15 (by decide) (by decide)) (s_t (v_in64 C 15 (by decide) (by decide) rfl (by omega)) (s_l ?_))))))))))
          rw [e1, e2]
          exact s_t (show fX16_areLimits _ _ 1 = 0 from lm) (ss_sec C (gF_r _ _ h) (i := 5) (by decide))
        · intro e
          rw [e] at lm
          refine k_w (aX16_checksLimits_3 ..) ?_
          unfold tX16_checksLimits_149
          rw [nx]
          refine k_t C.1.1 (k_b C.1.2.1 (k_t C.1.2.2.1 (k_f hd (k_b (vR C 22 (by decide)) (k_t (vKd C 14 (by decide) (by decide)) (k_t (v_in64 C 14 (by decide) (by decide) rfl (by omega)) (k_b (vR C 23 (by decide)) (k_t (vKd C 15 (by decide) (by decide)) (k_t (v_in64 C 15 (by decide) (by decide) rfl (by omega)) (k_l ?_))))))))))
          rw [e1, e2]
          exact k_f (show ¬ fX16_areLimits _ _ 1 = 0 by rw [show fX16_areLimits (Int64.ofNat a.1) a.2 1 = _ from lm]; decide) (k_l rfl)
      · refine s_w (aX16_checksLimits_3 ..) ?_
        unfold tX16_checksLimits_149
        rw [ho]
        exact s_t C.1.1 (s_b C.1.2.1 (s_t C.1.2.2.1 (s_t (by rw [i21, nn_le (by omega) (by omega)]; omega) (s_r (q_r rfl)))))
end VHEAD
