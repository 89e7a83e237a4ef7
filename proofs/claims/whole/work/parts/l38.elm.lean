/-! THE REFERENCE CHECKS: elements -/
section VELM
variable {h : pm_H} {n b m eo el i c : Nat} {B : Nat → Nat} {M : tMd} {D : Bool} {a : tEl}
abbrev rLk (h : pm_H) (_ : Unit) (_ : Nat) (r : pm_H) : Prop := ∃ y, r = lk h y
theorem pEl_lk {h : pm_H} (hm : 592 < m) (q : pEl m h i a) (z : Nat) : pEl m (lk h z) i a := by
  obtain ⟨s1, s2, s3, s4, s5, s6, s7⟩ := q
  exact ⟨(lk_I (by omega)).trans s1, s2, (lk_I (by omega)).trans s3, (lk_I (by omega)).trans s4, (lk_I (by omega)).trans s5, (lk_I (by omega)).trans s6, (lk_I (by omega)).trans s7⟩
theorem v_el1 (C : vC h n b m eo el B M) (G : vG B n D M) (il : i < 64) (hc : c ≤ 40960) (pe : pEl m h i a) (ec : a.2.2.1.2.1 = c) {o : sp_O Unit} : ∀ (j k p p' : Nat) (l : List Nat), k + j = c → sp_rows (sp_num B n) j p = .inr (l, p') → (∀ z, ms_Q (vF m h) (rLk h) (pm_lim sX16_checksElement (.inl (592, Int32.ofNat i, Int32.ofNat (sS M 9), lk h z))) o) → ms_Q (vF m h) (rLk h) (pm_lim sX16_checksElement (.inr (.inl (592, Int32.ofNat i, Int32.ofNat (sS M 9), Int32.ofNat k, lk h p)))) (if l.any (fun f => decide ((spF M).length ≤ f)) = true then .inl (28, sS M 9) else o) := by
  have L := vG_L G
  have SL := sp_len L
  have hK := G.1.2.1
  have hB := C.1.2.2.2.2.2.2.2.2.2
  have hm := C.2.2.2.2.1
  intro j
  induction j with
  | zero =>
    intro k p p' l hk e ho
    cases e
    have i28 : pm_I (lk h p) (m + pRf 40) (Int32.ofNat i).toNatClampNeg = Int32.ofNat c := by rw [nn_cm (by omega), ← ec]; exact (pEl_lk (by omega) pe p).2.2.2.2.2.1
    refine s_w (aX16_checksElement_1 ..) ?_
    unfold tX16_checksElement_38
    exact s_t C.1.1 (s_b C.1.2.1 (s_t C.1.2.2.1 (s_b (vR C 40 (by decide)) (s_t (vKd C 28 (by decide) (by decide)) (s_t (v_in64 C 28 (by decide) (by decide) rfl il) (s_t (by rw [i28, nn_le (by omega) (by omega)]; omega) (s_n (ho p))))))))
  | succ j ih =>
    intro k p p' l hk e ho
    obtain ⟨x, p3, e1, e2⟩ := b_inv e
    obtain ⟨l', p4, e3, e4⟩ := b_inv e2
    cases e4
    have hx := sp_num_v hB e1
    have i28 : pm_I (lk h p) (m + pRf 40) (Int32.ofNat i).toNatClampNeg = Int32.ofNat c := by rw [nn_cm (by omega), ← ec]; exact (pEl_lk (by omega) pe p).2.2.2.2.2.1
    refine s_w (aX16_checksElement_1 ..) ?_
    unfold tX16_checksElement_38
    refine s_t C.1.1 (s_b C.1.2.1 (s_t C.1.2.2.1 (s_b (vR C 40 (by decide)) (s_t (vKd C 28 (by decide) (by decide)) (s_t (v_in64 C 28 (by decide) (by decide) rfl il) (s_f (by rw [i28, nn_le (by omega) (by omega)]; omega) (s_b (mw_word C.1 (Nat.le_refl n) e1) (s_t C.1.1 (s_b C.1.2.1 (s_t C.1.2.2.1 (s_b (v_all (vC_lk C p3) L hK).1 ?_)))))))))))
    rw [List.any_cons]
    by_cases d : (spF M).length ≤ x
    · rw [decide_eq_true d, Bool.true_or, if_pos (show true = true from rfl)]
      exact s_f (by rw [nn_t6 (by omega), ll_lt (by omega) (by omega)]; omega) (s_stop (vC_lk C p3).1 (vF_lk h _) rfl rfl)
    · rw [decide_eq_false d, Bool.false_or]
      refine s_t (by rw [nn_t6 (by omega), ll_lt (by omega) (by omega)]; omega) (s_l ?_)
      rw [show Int32.ofNat k + 1 = Int32.ofNat (k + 1) from nn_ad _ 1]
      exact s_n (ih (k + 1) p3 p' l' (by omega) e3 ho)
theorem v_el3 (C : vC h n b m eo el B M) (G : vG B n D M) (il : i < 64) (hc : c ≤ 40960) (pe : pEl m h i a) (ec : a.2.2.1.2.1 = c) (hm : ¬ a.1 / 4 % 2 = 0) (gr : isRf a.2.2.1.1) : ∀ (j k p p' : Nat) (l : List Nat), k + j = c → p ≤ n → sp_rows (sp_it B n D a.1) j p = .inr (l, p') → ms_Q (vF m h) (rLk h) (pm_lim sX16_checksElement (.inr (.inr (592, Int32.ofNat i, Int32.ofNat k, lk h p)))) (sp_cons B n D M a.2.2.1.1 j p) := by
  have hm8 := C.2.2.2.2.1
  have t8 := isR_lt gr
  intro j
  induction j with
  | zero =>
    intro k p p' l hk hp e
    have i28 : pm_I (lk h p) (m + pRf 40) (Int32.ofNat i).toNatClampNeg = Int32.ofNat c := by rw [nn_cm (by omega), ← ec]; exact (pEl_lk (by omega) pe p).2.2.2.2.2.1
    refine s_w (aX16_checksElement_2 ..) ?_
    unfold tX16_checksElement_175
    exact s_t C.1.1 (s_b C.1.2.1 (s_t C.1.2.2.1 (s_b (vR C 40 (by decide)) (s_t (vKd C 28 (by decide) (by decide)) (s_t (v_in64 C 28 (by decide) (by decide) rfl il) (s_t (by rw [i28, nn_le (by omega) (by omega)]; omega) (s_r (q_r ⟨p, rfl⟩))))))))
  | succ j ih =>
    intro k p p' l hk hp e
    obtain ⟨x, p3, e1, e2⟩ := b_inv e
    obtain ⟨l', p4, e3, e4⟩ := b_inv e2
    unfold sp_it at e1
    rw [if_neg hm] at e1
    obtain ⟨w, p5, e5, e6⟩ := b_inv e1
    cases e6
    have pl := pEl_lk (by omega) pe p
    have i28 : pm_I (lk h p) (m + pRf 40) (Int32.ofNat i).toNatClampNeg = Int32.ofNat c := by rw [nn_cm (by omega), ← ec]; exact pl.2.2.2.2.2.1
    have i27 : ¬ pm_I (lk h p) (m + pRf 39) (Int32.ofNat i).toNatClampNeg = 0 := by
      rw [nn_cm (by omega), show pm_I (lk h p) (m + pRf 39) i = _ from pl.2.2.2.2.1, show (0 : Int32) = Int32.ofNat 0 from rfl, nn_eq (by omega) (by decide)]
      exact hm
    have i26 : pm_I (lk h p) (m + pRf 38) (Int32.ofNat i).toNatClampNeg = Int32.ofNat a.2.2.1.1 := by rw [nn_cm (by omega)]; exact pl.2.2.2.1
    refine s_w (aX16_checksElement_2 ..) ?_
    unfold tX16_checksElement_175
    refine s_t C.1.1 (s_b C.1.2.1 (s_t C.1.2.2.1 (s_b (vR C 40 (by decide)) (s_t (vKd C 28 (by decide) (by decide)) (s_t (v_in64 C 28 (by decide) (by decide) rfl il) (s_f (by rw [i28, nn_le (by omega) (by omega)]; omega) (s_b (vR C 39 (by decide)) (s_t (vKd C 27 (by decide) (by decide)) (s_t (v_in64 C 27 (by decide) (by decide) rfl il) (s_f i27 (s_b (vR C 38 (by decide)) (s_t (vKd C 26 (by decide) (by decide)) (s_t (v_in64 C 26 (by decide) (by decide) rfl il) ?_)))))))))))))
    rw [i26, lk_19, sp_cons]
    refine s_c (v_con (vC_lk C p) G (by omega) hp e5) (fun h' F => gF_t (vF_lk h _) F) ?_
    rintro _ p6 r er ⟨q1, q2⟩
    rw [q1, q2, lk_lk]
    refine s_l ?_
    rw [show Int32.ofNat k + 1 = Int32.ofNat (k + 1) from nn_ad _ 1]
    exact s_n (ih (k + 1) p3 p4 l' (by omega) (up_ex_lt e5).2 e3)
theorem v_elC (C : vC h n b m eo el B M) (G : vG B n D M) (ha : M.2.2.2.2.2.2.2.1[i]? = some a) : ms_Q (vF m h) (rLk h) (fX16_checksElement h 592 (Int32.ofNat i)) (sp_elC B n D M a) := by
  have n4 := C.1.2.2.2.2.2.2.1
  have L := vG_L G
  have SL := sp_len L
  have hK := G.1.2.1
  have L7 := L.2.2.2.2.2.2.1
  have il := some_lt ha
  have i64 : i < 64 := by omega
  have hm8 := C.2.2.2.2.1
  have pa := C.2.2.1.2.2.2.2.2.2.2.1.1 L7 i a ha i64
  obtain ⟨g1, g2, g3, g4, g5, g6, g7, g8, pI, eI⟩ := G.1.2.2.2.2.2.2.2.1 a (List.mem_of_getElem? ha)
  have cl := rows_lt (n := n) (fun p v p' => it_lt) _ _ _ _ g8 eI
  have m3 : a.2.1.1 ≤ 2 := by rw [g2]; split; omega; split <;> omega
  have t8 := isR_lt g5
  have g3 : a.2.1.2.1 < 4294967296 := g3
  -- the last loop
  have fin : ∀ z, ms_Q (vF m h) (rLk h) (pm_lim sX16_checksElement (.inr (.inr (592, Int32.ofNat i, Int32.ofNat 0, pm_setI (lk h z) 592 19 (Int32.ofNat a.2.2.1.2.2))))) (if a.1 / 4 % 2 = 0 then .inr ((), 0) else sp_cons B n D M a.2.2.1.1 a.2.2.1.2.1 a.2.2.1.2.2) := by
    intro z
    rw [lk_v]
    by_cases hm : a.1 / 4 % 2 = 0
    · rw [if_pos hm]
      have pl := pEl_lk (by omega) pa a.2.2.1.2.2
      have i28 : pm_I (lk h a.2.2.1.2.2) (m + pRf 40) (Int32.ofNat i).toNatClampNeg = Int32.ofNat a.2.2.1.2.1 := by rw [nn_cm (by omega)]; exact pl.2.2.2.2.2.1
      have i27 : pm_I (lk h a.2.2.1.2.2) (m + pRf 39) (Int32.ofNat i).toNatClampNeg = 0 := by rw [nn_cm (by omega), show pm_I (lk h a.2.2.1.2.2) (m + pRf 39) i = _ from pl.2.2.2.2.1, hm]; rfl
      refine s_w (aX16_checksElement_2 ..) ?_
      unfold tX16_checksElement_175
      refine s_t C.1.1 (s_b C.1.2.1 (s_t C.1.2.2.1 (s_b (vR C 40 (by decide)) (s_t (vKd C 28 (by decide) (by decide)) (s_t (v_in64 C 28 (by decide) (by decide) rfl i64) ?_)))))
      by_cases d : a.2.2.1.2.1 ≤ 0
      · exact s_t (by rw [i28, nn_le (by omega) (by omega)]; exact d) (s_r (q_r ⟨_, rfl⟩))
      · exact s_f (by rw [i28, nn_le (by omega) (by omega)]; exact d) (s_b (vR C 39 (by decide)) (s_t (vKd C 27 (by decide) (by decide)) (s_t (v_in64 C 27 (by decide) (by decide) rfl i64) (s_t i27 (s_r (q_r ⟨_, rfl⟩))))))
    · rw [if_neg hm]
      exact v_el3 C G i64 (by omega) pa rfl hm g5 _ 0 _ pI _ (Nat.zero_add _) g8 eI
  -- table and place
  have mid : ∀ z, ms_Q (vF m h) (rLk h) (pm_lim sX16_checksElement (.inl (592, Int32.ofNat i, Int32.ofNat (sS M 9), lk h z))) (if a.2.1.1 = 0 ∧ sp_elt M a = true then .inl (28, sS M 9) else sp_b (if a.2.1.1 = 0 then sp_con B n D M a.2.1.2.2 127 else .inr ((), 0)) fun _ _ => if a.1 / 4 % 2 = 0 then .inr ((), 0) else sp_cons B n D M a.2.2.1.1 a.2.2.1.2.1 a.2.2.1.2.2) := by
    intro z
    have Cz := vC_lk C z
    have pl := pEl_lk (by omega) pa z
    have i23 : pm_I (lk h z) (m + pRf 35) (Int32.ofNat i).toNatClampNeg = Int32.ofNat a.2.1.1 := by rw [nn_cm (by omega)]; exact pl.1
    have i24 : pm_L (lk h z) (m + pRf 36) (Int32.ofNat i).toNatClampNeg = Int64.ofNat a.2.1.2.1 := by rw [nn_cm (by omega)]; exact pl.2.1
    have i25 : pm_I (lk h z) (m + pRf 37) (Int32.ofNat i).toNatClampNeg = Int32.ofNat a.2.1.2.2 := by rw [nn_cm (by omega)]; exact pl.2.2.1
    have i26 : pm_I (lk h z) (m + pRf 38) (Int32.ofNat i).toNatClampNeg = Int32.ofNat a.2.2.1.1 := by rw [nn_cm (by omega)]; exact pl.2.2.2.1
    have i29 : ∀ y, pm_I (lk h y) (m + pRf 41) (Int32.ofNat i).toNatClampNeg = Int32.ofNat a.2.2.1.2.2 := fun y => by rw [nn_cm (by omega)]; exact (pEl_lk (by omega) pa y).2.2.2.2.2.2
    refine s_w (aX16_checksElement_0 ..) ?_
    unfold tX16_checksElement_81
    refine s_t C.1.1 (s_b C.1.2.1 (s_t C.1.2.2.1 (s_b (vR C 35 (by decide)) (s_t (vKd C 23 (by decide) (by decide)) (s_t (v_in64 C 23 (by decide) (by decide) rfl i64) ?_)))))
    by_cases z0 : a.2.1.1 = 0
    · obtain ⟨w, p', ex⟩ := g4 z0
      refine s_t (by rw [i23, z0]; rfl) (s_b (vR C 36 (by decide)) (s_t (vKd C 24 (by decide) (by decide)) (s_t (v_in64 C 24 (by decide) (by decide) rfl i64) (s_l (s_b (v_all Cz L hK).2.1 ?_)))))
      rw [i24, if_pos z0]
      unfold sp_elt
      cases et : (spT M)[a.2.1.2.1]? with
      | none =>
        have d : (spT M).length ≤ a.2.1.2.1 := List.getElem?_eq_none_iff.mp et
        rw [if_pos (show a.2.1.1 = 0 ∧ true = true from ⟨z0, rfl⟩)]
        exact s_t (by rw [nn_t6 (by omega), ll_le (by omega) (by omega)]; exact d) (s_stop Cz.1 (vF_lk h _) rfl rfl)
      | some t =>
        have d := some_lt et
        have tt := isR_lt (spT_T G et)
        refine s_f (by rw [nn_t6 (by omega), ll_le (by omega) (by omega)]; omega) ?_
        rw [ll_t3]
        refine s_b (v_tyT Cz L hK et) (s_b (vR C 38 (by decide)) (s_t (vKd C 26 (by decide) (by decide)) (s_t (v_in64 C 26 (by decide) (by decide) rfl i64) ?_)))
        rw [i26]
        by_cases q : t.2.1 = a.2.2.1.1
        · refine s_t (by rw [q]) (s_b (vR C 37 (by decide)) (s_t (vKd C 25 (by decide) (by decide)) (s_t (v_in64 C 25 (by decide) (by decide) rfl i64) ?_)))
          rw [i25]
          rw [if_neg (show ¬ (a.2.1.1 = 0 ∧ decide (t.2.1 ≠ a.2.2.1.1) = true) from fun y => (of_decide_eq_true y.2) q)]
          refine s_c (v_con Cz G (ty := 127) (by decide) (by have := (up_ex_lt ex).1; have := (up_ex_lt ex).2; omega) ex) (fun h' F => gF_t (vF_lk h _) F) ?_
          rintro _ p6 r er ⟨q1, q2⟩
          rw [q1, lk_lk]
          have Cp := vC_lk C p6
          refine s_t Cp.1.1 (s_b Cp.1.2.1 (s_t Cp.1.2.2.1 (s_b (vR Cp 41 (by decide)) (s_t (vKd Cp 29 (by decide) (by decide)) (s_t (v_in64 Cp 29 (by decide) (by decide) rfl i64) (s_l ?_))))))
          rw [i29]
          exact s_n (fin p6)
        · rw [if_pos (show a.2.1.1 = 0 ∧ decide (t.2.1 ≠ a.2.2.1.1) = true from ⟨z0, decide_eq_true q⟩)]
          exact s_f (by rw [nn_eq (by omega) (by omega)]; exact q) (s_stop Cz.1 (vF_lk h _) rfl rfl)
    · rw [if_neg (show ¬ (a.2.1.1 = 0 ∧ sp_elt M a = true) from fun y => z0 y.1), if_neg z0]
      refine s_f (by rw [i23, show (0 : Int32) = Int32.ofNat 0 from rfl, nn_eq (by omega) (by decide)]; exact z0) (s_b (vR C 41 (by decide)) (s_t (vKd C 29 (by decide) (by decide)) (s_t (v_in64 C 29 (by decide) (by decide) rfl i64) (s_l ?_))))
      rw [i29]
      exact s_n (fin z)
  unfold fX16_checksElement sp_elC
  have i27 : pm_I h (m + pRf 39) (Int32.ofNat i).toNatClampNeg = Int32.ofNat (a.1 / 4 % 2) := by rw [nn_cm (by omega)]; exact pa.2.2.2.2.1
  have i9 : pm_I h (m + pRf 2) (9 : Int32).toNatClampNeg = Int32.ofNat (sS M 9) := v_sec C (i := 9) (by decide)
  refine q_t C.1.1 (q_b C.1.2.1 (q_t C.1.2.2.1 (q_b (vR C 2 (by decide)) (q_t (vKd C 1 (by decide) (by decide)) (q_t (v_in13 C (i := 9) (by decide)) (q_l (q_b (vR C 39 (by decide)) (q_t (vKd C 27 (by decide) (by decide)) (q_t (v_in64 C 27 (by decide) (by decide) rfl i64) ?_)))))))))
  rw [i9, i27]
  by_cases hm : a.1 / 4 % 2 = 0
  · have e41 : pm_I h (m + pRf 41) (Int32.ofNat i).toNatClampNeg = Int32.ofNat a.2.2.1.2.2 := by rw [nn_cm (by omega)]; exact pa.2.2.2.2.2.2
    refine q_t (by rw [hm]; rfl) (q_b (vR C 41 (by decide)) (q_t (vKd C 29 (by decide) (by decide)) (q_t (v_in64 C 29 (by decide) (by decide) rfl i64) (q_l ?_))))
    rw [e41]
    have eI' : sp_rows (sp_num B n) a.2.2.1.2.1 a.2.2.1.2.2 = .inr (a.2.2.2, pI) := by
      rw [← eI]
      refine congrArg (fun f => sp_rows f a.2.2.1.2.1 a.2.2.1.2.2) (funext fun p => ?_)
      unfold sp_it
      rw [if_pos hm]
    have r := v_el1 C G i64 (by omega) pa rfl _ 0 _ pI _ (Nat.zero_add _) eI' mid
    by_cases ca : a.2.2.2.any (fun f => decide ((spF M).length ≤ f)) = true
    · rw [if_pos ca] at r
      rw [if_pos (show a.1 / 4 % 2 = 0 ∧ a.2.2.2.any (fun f => decide ((spF M).length ≤ f)) = true from ⟨hm, ca⟩)]
      exact r
    · rw [if_neg ca] at r
      rw [if_neg (show ¬ (a.1 / 4 % 2 = 0 ∧ a.2.2.2.any (fun f => decide ((spF M).length ≤ f)) = true) from fun y => ca y.2)]
      exact r
  · rw [if_neg (show ¬ (a.1 / 4 % 2 = 0 ∧ a.2.2.2.any (fun f => decide ((spF M).length ≤ f)) = true) from fun y => hm y.1)]
    obtain ⟨x, hx⟩ := lk_x h
    have r := mid x
    rw [← hx] at r
    exact q_f (show ¬ Int32.ofNat (a.1 / 4 % 2) = Int32.ofNat 0 by rw [nn_eq (by omega) (by decide)]; exact hm) r
end VELM
