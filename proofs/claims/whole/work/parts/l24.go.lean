/-! THE REFERENCE CHECKS: instructions that stand alone, whole -/
def sgv (op ty : Nat) : Nat × Nat × Nat × Nat := (if op = 37 then 127 else if op = 33 ∨ op = 34 ∨ op = 36 ∨ op = 38 then ty else 0, if op = 38 then 127 else 0, 0, if op = 32 ∨ op = 34 ∨ op = 35 ∨ op = 37 then ty else 0)
section VGP
variable {h r : pm_H} {n b m eo el p p2 b' t x : Nat} {B : Nat → Nat} {M : tMd} {K0 K : tK} {D : Bool} {Dc : Nat → Bool} {a : tBo} {v : sp_I} {o ca cb hb : Int32} {s : Nat × Nat × Nat × Nat}
theorem v_nms (C : vC h n b m eo el B M) (I : uI h M p K K h) (hl : 0 < K.2.1.length) (G : vG B n D M) (Q : vB h m eo el M b' t a Dc) (q : sp_in B n D p = .inr (v, p2)) (ho : 32 ≤ B p ∧ B p ≤ 38) (es : kSg M Dc (lbt M t a) v.1 v.2.1.toNatClampNeg v.2.2.1.toNatClampNeg = some s) : ms_Q (vF m h) (vU h p) (fX16_names (lk h (p + 1)) 592 (Int32.ofNat (B p))) (kPl p o ca cb hb s.1 s.2.1 s.2.2.1 s.2.2.2 K) := by
  have hB := C.1.2.2.2.2.2.2.2.2.2
  have L := vG_L G
  have hK := G.1.2.1
  have hG : ∀ a, a ∈ M.2.2.2.2.2.1 → a.2.1 ≤ 1 := fun a ha => (G.1.2.2.2.2.2.1 a ha).2.1
  obtain ⟨x, hx, e1, ev⟩ := in_1 hB q (by omega)
  have ex : v.2.1.toNatClampNeg = x := by rw [ev]; exact ll_cm (by omega)
  have e9 : v.1 = B p := by rw [ev]
  rw [ex] at es
  unfold fX16_names
  refine q_t C.1.1 (q_b (mw_word C.1 (Nat.le_refl n) e1) ?_)
  by_cases c35 : 35 ≤ B p
  · refine q_t (show Int32.ofNat 35 ≤ Int32.ofNat (B p) by rw [nn_le (by decide) (by omega)]; exact c35) ?_
    by_cases c37 : 37 ≤ B p
    · refine q_t (show Int32.ofNat 37 ≤ Int32.ofNat (B p) by rw [nn_le (by decide) (by omega)]; exact c37) ?_
      rw [sg_tab (by omega)] at es
      cases ez : (spT M)[x]? with
      | none => rw [ez] at es; cases es
      | some f =>
        rw [ez] at es
        have es : (if v.1 = 37 then some (127, 0, 0, f.2.1) else some (f.2.1, 127, 0, 0)) = some s := es
        have e0 : s = sgv (B p) f.2.1 := by
          have c : B p = 37 ∨ B p = 38 := by omega
          rcases c with c | c
          · rw [if_pos (by omega)] at es; cases es; rw [c]; rfl
          · rw [if_neg (by omega)] at es; cases es; rw [c]; rfl
        rw [e0]
        refine q_t C.1.1 (q_b C.1.2.1 (q_t C.1.2.2.1 ?_))
        rw [ll_t3]
        exact q_b (v_tyT (vC_lk C p2) L hK ez) (v_b54 C (uI_lk I p2) hl ho (isT_R (spT_T G ez)))
    · refine q_f (show ¬ Int32.ofNat 37 ≤ Int32.ofNat (B p) by rw [nn_le (by decide) (by omega)]; exact c37) ?_
      rw [sg_glo (by omega)] at es
      cases ez : (spG M)[x]? with
      | none => rw [ez] at es; cases es
      | some f =>
        rw [ez] at es
        have es : (if v.1 = 35 then some (0, 0, 0, f.1.2.1) else if f.1.2.2.2.2 = 0 then none else some (f.1.2.1, 0, 0, 0)) = some s := es
        have e0 : s = sgv (B p) f.1.2.1 := by
          have c : B p = 35 ∨ B p = 36 := by omega
          rcases c with c | c
          · rw [if_pos (by omega)] at es; cases es; rw [c]; rfl
          · rw [if_neg (by omega)] at es
            split at es
            · cases es
            · cases es; rw [c]; rfl
        rw [e0]
        refine q_t C.1.1 (q_b C.1.2.1 (q_t C.1.2.2.1 ?_))
        rw [ll_t3]
        exact q_b (v_tyG (vC_lk C p2) L hK hG ez).1 (v_b54 C (uI_lk I p2) hl ho (spG_T G ez))
  · refine q_f (show ¬ Int32.ofNat 35 ≤ Int32.ofNat (B p) by rw [nn_le (by decide) (by omega)]; exact c35) ?_
    rw [sg_loc (by omega)] at es
    cases ez : lbt M t a x with
    | none => rw [ez] at es; cases es
    | some ty =>
      rw [ez] at es
      have es : (if v.1 = 32 then some (0, 0, 0, ty) else if v.1 = 33 then some (ty, 0, 0, 0) else some (ty, 0, 0, ty)) = some s := es
      have e0 : s = sgv (B p) ty := by
        have c : B p = 32 ∨ B p = 33 ∨ B p = 34 := by omega
        rcases c with c | c | c
        · rw [if_pos (by omega)] at es; cases es; rw [c]; rfl
        · rw [if_neg (by omega), if_pos (by omega)] at es; cases es; rw [c]; rfl
        · rw [if_neg (by omega), if_neg (by omega)] at es; cases es; rw [c]; rfl
      rw [e0]
      obtain ⟨y, hy⟩ := v_lty C G Q ez hx p2
      exact q_t C.1.1 (q_b hy (v_b54 C (uI_lk I y) hl ho (lbt_T G (List.mem_of_getElem? Q.2.2.1) Q.2.2.2.2.2.2.1 ez)))
theorem v_gP (C : vC h n b m eo el B M) (I : uI h M p K K h) (hl : 0 < K.2.1.length) (G : vG B n D M) (Q : vB h m eo el M b' t a Dc) (q : sp_in B n D p = .inr (v, p2)) (hf : v.2.2.2 = false) (ho : B p = 28 ∨ (32 ≤ B p ∧ B p ≤ 38) ∨ (40 ≤ B p ∧ B p ≤ 64) ∨ (69 ≤ B p ∧ B p ≤ 196) ∨ B p = 210 ∨ B p = 252) (es : kSg M Dc (lbt M t a) v.1 v.2.1.toNatClampNeg v.2.2.1.toNatClampNeg = some s) : ms_Q (vF m h) (vU h p) (fX16_goesTogether (lk h (p + 1)) 592 (Int32.ofNat (B p))) (kPl p o ca cb hb s.1 s.2.1 s.2.2.1 s.2.2.2 K) := by
  have hB := C.1.2.2.2.2.2.2.2.2.2
  have b8 := hB p
  have CI := fun {K1 r1} (I1 : uI h M p K K1 r1) => (uI_C C I1).1.1
  obtain ⟨v1, cl⟩ := in_v1 q
  have N : ∀ j, j < 1000 → B p ≠ j → ¬ Int32.ofNat (B p) = Int32.ofNat j := fun j hj z => by rw [nn_eq (by omega) (by omega)]; exact z
  have E : ∀ j, B p = j → Int32.ofNat (B p) = Int32.ofNat j := fun j z => by rw [z]
  have LE : ∀ j, j < 1000 → j ≤ B p → Int32.ofNat j ≤ Int32.ofNat (B p) := fun j hj z => by rw [nn_le (by omega) (by omega)]; exact z
  have GT : ∀ j, j < 1000 → B p < j → ¬ Int32.ofNat j ≤ Int32.ofNat (B p) := fun j hj z => by rw [nn_le (by omega) (by omega)]; omega
  have I1 := uI_lk I (p + 1)
  unfold fX16_goesTogether
  by_cases cO : 69 ≤ B p ∧ B p ≤ 196
  · rw [sg_opr (by rw [v1 (by omega)]; omega)] at es
    cases es
    rw [v1 (by omega)]
    exact q_f (show ¬ Int32.ofNat (B p) < Int32.ofNat 69 by rw [nn_lt (by omega) (by decide)]; omega) (q_f (show ¬ Int32.ofNat 196 < Int32.ofNat (B p) by rw [nn_lt (by decide) (by omega)]; omega) (q_t C.1.1 (q_e (v_opr C I1 hl (.inl cO)))))
  suffices H : ms_Q (vF m h) (vU h p) (fX16_goesTogether_b21 (lk h (p + 1)) 592 (Int32.ofNat (B p))) (kPl p o ca cb hb s.1 s.2.1 s.2.2.1 s.2.2.2 K) by
    by_cases c : B p < 69
    · exact q_t (show Int32.ofNat (B p) < Int32.ofNat 69 by rw [nn_lt (by omega) (by decide)]; exact c) H
    · exact q_f (show ¬ Int32.ofNat (B p) < Int32.ofNat 69 by rw [nn_lt (by omega) (by decide)]; exact c) (q_t (show Int32.ofNat 196 < Int32.ofNat (B p) by rw [nn_lt (by decide) (by omega)]; omega) H)
  unfold fX16_goesTogether_b21
  by_cases c28 : B p = 28
  · obtain ⟨x, p1, ty, hx, e1, e2, ev⟩ := in_28 hB q c28
    have x1 : x = 1 := by
      rw [ev] at hf
      exact Decidable.byContradiction fun z => by rw [show ((28, Int64.ofNat x, Int64.ofNat ty, decide (x ≠ 1)) : sp_I).2.2.2 = decide (x ≠ 1) from rfl, decide_eq_true z] at hf; cases hf
    rw [x1] at e2
    obtain ⟨y, p3, f1, f2⟩ := b_inv e2
    cases f2
    have ok := byte_v f1
    have pl := sp_byte_b' f1
    have by1 : B p1 = ty := by
      unfold sp_byte at f1
      rw [if_pos pl.1] at f1
      split at f1
      · cases f1; rfl
      · cases f1
    have t8 := isT_lt ok
    rw [sg_28 (by rw [ev])] at es
    cases es
    have ey : v.2.2.1.toNatClampNeg = ty := by rw [ev]; exact ll_cm (by omega)
    rw [ey]
    refine q_f (GT 32 (by decide) (by omega)) (q_t C.1.1 (q_e ?_))
    unfold fX16_controls kPl
    refine q_f (N 0 (by decide) (by omega)) (q_f (N 1 (by decide) (by omega)) (q_f (N 2 (by decide) (by omega)) (q_f (N 3 (by decide) (by omega)) (q_f (N 4 (by decide) (by omega)) (q_f (N 5 (by decide) (by omega)) (q_f (N 6 (by decide) (by omega)) (q_f (N 7 (by decide) (by omega)) (q_f (N 8 (by decide) (by omega)) (q_f (N 9 (by decide) (by omega)) (q_f (N 10 (by decide) (by omega)) (q_f (N 11 (by decide) (by omega)) (q_f (N 12 (by decide) (by omega)) (q_f (N 13 (by decide) (by omega)) (q_f (N 14 (by decide) (by omega)) (q_f (N 15 (by decide) (by omega)) (q_f (N 16 (by decide) (by omega)) (q_f (N 17 (by decide) (by omega)) (q_f (N 18 (by decide) (by omega)) (q_f (N 19 (by decide) (by omega)) (q_f (N 20 (by decide) (by omega)) (q_f (N 21 (by decide) (by omega)) (q_f (N 22 (by decide) (by omega)) (q_f (N 23 (by decide) (by omega)) (q_f (N 24 (by decide) (by omega)) (q_f (N 25 (by decide) (by omega)) (q_f (N 26 (by decide) (by omega)) (q_f (N 27 (by decide) (by omega)) (q_t (E 28 c28) (q_t C.1.1 (q_b (mw_word C.1 (Nat.le_refl n) e1) (q_t C.1.1 (q_b C.1.2.1 (q_t C.1.2.2.1 ?_)))))))))))))))))))))))))))))))))
    rw [lk_19]
    refine q_b (mw_at_lk C.1 _ pl.1) ?_
    rw [by1]
    exact u_tk1 C (uI_lk I p1) hl isT_127 fun K6 z6 r6 I6 => q_t (CI I6) (u_tk2 C I6 hl ok fun K7 z7 r7 I7 => q_t (CI I7) (u_pt C I7 ok fun K9 z9 r9 I9 => ux_r I9))
  refine q_t (LE 32 (by decide) (by omega)) ?_
  by_cases cN : B p < 40
  · exact q_f (GT 40 (by decide) cN) (q_t C.1.1 (q_e (v_nms C I hl G Q q (by omega) es)))
  refine q_t (LE 40 (by decide) (by omega)) ?_
  by_cases cA : B p < 63
  · rw [v1 (by omega), sg_acc (by omega)] at es
    have e0 : s = (if B p < 54 then 127 else kAcT (B p), if B p < 54 then 0 else 127, 0, if B p < 54 then kAcT (B p) else 0) := by
      split at es
      · cases es
      · by_cases z : B p < 54
        · rw [if_pos z] at es; cases es; rw [if_pos z, if_pos z, if_pos z]
        · rw [if_neg z] at es; cases es; rw [if_neg z, if_neg z, if_neg z]
    rw [e0]
    exact q_f (GT 63 (by decide) cA) (q_t C.1.1 (q_e (v_acc C I1 hl (by omega))))
  refine q_t (LE 63 (by decide) (by omega)) ?_
  by_cases c252 : B p = 252
  · exact q_t (E 252 c252) (q_t C.1.1 (q_e (v_frs C I hl G (in_252 q c252) es)))
  refine q_f (N 252 (by decide) c252) ?_
  by_cases c63 : B p = 63
  · rw [v1 (by omega), sg_mem (by omega)] at es
    have e0 : s = (0, 0, 0, 127) := by
      split at es
      · cases es
      · cases es; rfl
    rw [e0]
    unfold kPl
    exact u_n (u_n (u_n (q_t (E 63 c63) (q_t C.1.1 (u_pt C I1 isT_127 fun K9 z9 r9 I9 => ux_r I9)))))
  refine q_f (N 63 (by decide) c63) ?_
  by_cases c64 : B p = 64
  · rw [v1 (by omega), sg_mem (by omega)] at es
    have e0 : s = (127, 0, 0, 127) := by
      split at es
      · cases es
      · cases es; rfl
    rw [e0]
    unfold kPl
    exact q_t (E 64 c64) (q_t C.1.1 (u_tk1 C I1 hl isT_127 fun K6 z6 r6 I6 => u_n (u_n (q_t (CI I6) (u_pt C I6 isT_127 fun K9 z9 r9 I9 => ux_r I9)))))
  refine q_f (N 64 (by decide) c64) (q_t (LE 69 (by decide) (by omega)) (q_f (N 208 (by decide) (by omega)) (q_f (N 209 (by decide) (by omega)) (q_t C.1.1 ?_))))
  rw [v1 (by omega), sg_210 (by omega)] at es
  have e0 : s = (0, 0, 0, 112) := by
    split at es
    · cases es; rfl
    · cases es
  rw [e0]
  unfold kPl
  exact u_n (u_n (u_n (u_pt C I1 (by decide) fun K9 z9 r9 I9 => ux_r I9)))
end VGP
