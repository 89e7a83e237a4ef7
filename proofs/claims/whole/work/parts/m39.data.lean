/-! THE CLASS CHECKS: data -/
section XDAT
variable {h0 h h' r : pm_H} {n b mm lo hi dd p p2 e ty nf : Nat} {B : Nat → Nat} {M : tMd} {D : Bool} {o : Option (Nat × Nat)} {L L' : List Nat} {v : sp_I} {w : Nat × Nat}
theorem yS_L (S : yS h0 dd nf o L r) (h : o ≠ none) : yS h0 dd nf o L' r := by
  cases o with
  | none => exact absurd rfl h
  | some w => exact S
theorem yS_m (S : yS h0 dd nf o L r) (h : o = none → ∀ i, i ∈ L ↔ i ∈ L') : yS h0 dd nf o L' r := by
  cases o with
  | none =>
    refine ⟨S.1, S.2.1, fun i hi => (S.2.2 i hi).trans ?_⟩
    show (decide (i ∈ L) = false) = (decide (i ∈ L') = false)
    rw [decide_eq_decide.mpr (h rfl i)]
  | some w => exact S
/-- one instruction, of another type: nothing is declared -/
theorem cRun_k (hB : ∀ i, B i < 256) : ∀ (N p k g : Nat) (v : Nat × Nat × Option Nat) (e' : Nat), eY B n D 0 p e → cRun B n D M N p k g = .inr (v, e') → k ≤ v.1 ∧ (v.1 = k → v.2.1 = g ∧ (dRun B n D N 0 p).1 = [])
  | 0, p, k, g, v, e', _, q => by cases q
  | N + 1, p, k, g, v, e', E, q => by
    obtain ⟨i, p2, e1, u1, u2, E2⟩ := eY_step E
    rw [cRun, e1] at q
    have q : (if i.1 = 11 then .inr ((k, g, none), p) else if cT M i = 0 then .inl (26, p) else sp_b (cRun B n D M N p2 (k + 1) (cT M i)) fun r e => .inr ((r.1, r.2.1, if i.1 = 210 ∧ (spF M).length ≤ i.2.1.toNatClampNeg then some p else r.2.2), e) : sp_O (Nat × Nat × Option Nat)) = .inr (v, e') := q
    by_cases c11 : i.1 = 11
    · rw [if_pos c11] at q
      cases q
      refine ⟨Nat.le_refl _, fun _ => ⟨rfl, ?_⟩⟩
      rw [dRun, e1]
      show (if i.1 = 11 ∧ 0 = 0 then _ else _ : List Nat × Nat).1 = _
      rw [if_pos ⟨c11, rfl⟩]
    rw [if_neg c11] at q
    by_cases c0 : cT M i = 0
    · rw [if_pos c0] at q; cases q
    rw [if_neg c0] at q
    obtain ⟨nb, -⟩ := cT_bk hB e1 c0
    have E3 : eY B n D 0 p2 e := by
      rcases E2 with ⟨c1, -⟩ | ⟨-, E2⟩
      · exact absurd c1 c11
      · rwa [if_neg nb, if_neg c11] at E2
    obtain ⟨z, e2, q1, q2⟩ := b_inv q
    cases q2
    obtain ⟨a1, -⟩ := cRun_k hB N p2 (k + 1) (cT M i) z _ E3 q1
    have a1 : k + 1 ≤ z.1 := a1
    exact ⟨by show k ≤ z.1; omega, fun h => absurd (show z.1 = k from h) (by omega)⟩
theorem con_d (hB : ∀ i, B i < 256) (E : eY B n D 0 p e) (ht : ty ≠ 112) {x : Nat} {u : Unit} (q : sp_con B n D M p ty = .inr (u, x)) : (dEx B n D p).1 = [] := by
  unfold sp_con at q
  obtain ⟨v, e', q1, q2⟩ := b_inv q
  obtain ⟨k, g, m⟩ := v
  cases m with
  | some y => cases q2
  | none =>
    have q2 : (if k = 1 ∧ g = ty then (.inr ((), e' + 1) : sp_O Unit) else .inl (27, e')) = .inr (u, x) := q2
    by_cases c : k = 1 ∧ g = ty
    · obtain ⟨i, p2, e1, u1, u2, E2⟩ := eY_step E
      rw [cRun, e1] at q1
      have q1 : (if i.1 = 11 then .inr ((0, 0, none), p) else if cT M i = 0 then .inl (26, p) else sp_b (cRun B n D M n p2 (0 + 1) (cT M i)) fun r e => .inr ((r.1, r.2.1, if i.1 = 210 ∧ (spF M).length ≤ i.2.1.toNatClampNeg then some p else r.2.2), e) : sp_O (Nat × Nat × Option Nat)) = .inr ((k, g, none), e') := q1
      by_cases c11 : i.1 = 11
      · rw [if_pos c11] at q1
        cases q1
        omega
      rw [if_neg c11] at q1
      by_cases c0 : cT M i = 0
      · rw [if_pos c0] at q1; cases q1
      rw [if_neg c0] at q1
      obtain ⟨nb, -⟩ := cT_bk hB e1 c0
      have E3 : eY B n D 0 p2 e := by
        rcases E2 with ⟨c1, -⟩ | ⟨-, E2⟩
        · exact absurd c1 c11
        · rwa [if_neg nb, if_neg c11] at E2
      obtain ⟨z, e2, q3, q4⟩ := b_inv q1
      have q4 := Sum.inr.inj q4
      have z1 : z.1 = k := congrArg (fun y => y.1.1) q4
      have z2 : z.2.1 = g := congrArg (fun y => y.1.2.1) q4
      obtain ⟨-, a2⟩ := cRun_k hB n p2 (0 + 1) (cT M i) z _ E3 q3
      obtain ⟨a3, a4⟩ := a2 (by omega)
      have c210 : i.1 ≠ 210 := fun h => by
        have : cT M i = 112 := by
          unfold cT
          rw [if_neg (by omega), if_neg (by omega), if_pos h]
        omega
      show (dRun B n D (n + 1) 0 p).1 = []
      rw [dRun_s e1 nb c11, if_neg c210]
      show [] ++ (dRun B n D n 0 p2).1 = []
      rw [a4]
      rfl
    · rw [if_neg c] at q2; cases q2
theorem x_da1 (X : yC h0 n b mm lo hi dd B M D) (gI : ∀ a, a ∈ M.2.1 → gImp a) (g : ∀ a, a ∈ M.2.2.2.2.2.2.2.2.1 → gDa B n D a) : ∀ (m i : Nat) {o : Option (Nat × Nat)} {r : pm_H}, i + m = M.2.2.2.2.2.2.2.2.1.length → yS h0 dd (spF M).length o L r → ∃ r', pm_lim sX1_dataAreRight (22, Int32.ofNat (i * 7), r) = some r' ∧ yS h0 dd (spF M).length (oE o (oU (sp_das B n D M (M.2.2.2.2.2.2.2.2.1.drop i)))) L r' := by
  intro m
  induction m with
  | zero =>
    intro i o r hi' S
    obtain ⟨s, cc, ⟨q1, q2, q3⟩, -⟩ := (yC_F X S.1).1
    obtain ⟨x, a1, a2, a3, a4, a5, a6, a7⟩ := cc.2.2.2.2.2.2.2.2.1 (by decide)
    rw [List.drop_eq_nil_of_le (by omega)]
    refine ⟨r, k_w (aX1_dataAreRight_0 ..) ?_, by rw [sp_das]; rw [show oU (.inr ((), 0) : sp_O Unit) = none from rfl, oE_n]; exact S⟩
    unfold tX1_dataAreRight_2
    exact k_t q1 (k_b q2 (k_t s.2.2.1 (k_b a1 (k_t a4 (k_t (by rw [a5, nn_le (by omega) (by omega)]; omega) rfl)))))
  | succ m ih =>
    intro i o r hi' S
    obtain ⟨s, cc, ⟨q1, q2, q3⟩, -⟩ := (yC_F X S.1).1
    obtain ⟨x, a1, a2, a3, a4, a5, a6, a7⟩ := cc.2.2.2.2.2.2.2.2.1 (by decide)
    have hB : ∀ i, B i < 256 := s.2.2.2.2.2.2.2.2.2
    have il : i < M.2.2.2.2.2.2.2.2.1.length := by omega
    cases o with
    | some w =>
      have z1 : 0 < w.1 ∧ w.1 < 100 := S.2.1
      have z2 : pm_I r 22 0 = Int32.ofNat w.1 := S.2.2.1
      refine ⟨r, k_w (aX1_dataAreRight_0 ..) ?_, S⟩
      unfold tX1_dataAreRight_2
      exact k_t q1 (k_b q2 (k_t s.2.2.1 (k_b a1 (k_t a4 (k_f (by rw [a5, nn_le (by omega) (by omega)]; omega) (k_f (by rw [z2, n3_0, nn_eq (by omega) (by decide)]; omega) rfl))))))
    | none =>
      have dr : M.2.2.2.2.2.2.2.2.1.drop i = M.2.2.2.2.2.2.2.2.1[i] :: M.2.2.2.2.2.2.2.2.1.drop (i + 1) := List.drop_eq_getElem_cons il
      obtain ⟨a, ea⟩ : ∃ a, a = M.2.2.2.2.2.2.2.2.1[i] := ⟨_, rfl⟩
      rw [← ea] at dr
      have ha : M.2.2.2.2.2.2.2.2.1[i]? = some a := by rw [ea]; exact List.getElem?_eq_getElem il
      have X1 := (yC_F X S.1).1
      obtain ⟨u0, u1, u2, u3, u4⟩ := a7 i a ha
      obtain ⟨g1, g2, g3, g4⟩ := g a (List.mem_of_getElem? ha)
      have item : ∀ k, k < 7 → fX12_item r x (Int32.ofNat (i * 7) + Int32.ofNat k) = some (pm_I r x (i * 7 + k)) := fun k hk => by
        rw [nn_ad]
        exact it_v a4 (by rw [a5]; omega) (by rw [a5]; omega)
      have i0 := item 0 (by decide)
      have i1 := item 1 (by decide)
      have i2 := item 2 (by decide)
      rw [Nat.add_zero, u0] at i0
      rw [u1] at i1
      rw [u2] at i2
      have st : Int32.ofNat (i * 7) + 7 = Int32.ofNat ((i + 1) * 7) := (nn_ad (i * 7) 7).trans (congrArg Int32.ofNat (by omega))
      have pre : ∀ {Y : Option pm_H} {A : Option (((Nat × Int32 × pm_H)) ⊕ pm_H)}, ((if (if a.1 = 1 then (1 : Int32) else 0) = 0 then ((fX12_item r x (Int32.ofNat (i * 7) + 1)).bind fun v13 => (fX7_has r mm 2 v13.toInt64).bind fun v15 => if v15 = 0 then ((fX1_failSection r 22 28 11).bind fun v30 => if pm_kd v30 22 = 1 then (pm_R v30 22 3).bind fun v33 => (pm_R v30 22 2).bind fun v35 => if pm_kd v30 v35 = 7 then (pm_R v30 v35 10).bind fun v38 => (fX12_item v30 v38 (Int32.ofNat (i * 7) + 2)).bind fun v40 => if pm_kd v30 v33 = 9 then (fX9_open v30 v33 v35 v40).bind fun v43 => if pm_kd v43 22 = 1 then (fX1_constant v43 22 127).bind fun v46 => pm_let (Int32.ofNat (i * 7) + 7) fun y48 => some (.inl ((22, y48, v46))) else none else none else none else none) else ((pm_R r 22 3).bind fun v18 => (fX12_item r x (Int32.ofNat (i * 7) + 2)).bind fun v20 => if pm_kd r v18 = 9 then (fX9_open r v18 mm v20).bind fun v23 => if pm_kd v23 22 = 1 then (fX1_constant v23 22 127).bind fun v26 => pm_let (Int32.ofNat (i * 7) + 7) fun y28 => some (.inl ((22, y28, v26))) else none else none)) else (pm_let (Int32.ofNat (i * 7) + 7) fun y50 => some (.inl ((22, y50, r))))) : Option (((Nat × Int32 × pm_H)) ⊕ pm_H)) = A → ev_k sX1_dataAreRight A = Y → pm_lim sX1_dataAreRight (22, Int32.ofNat (i * 7), r) = Y := by
        intro Y A hA h
        subst hA
        refine k_w (aX1_dataAreRight_0 ..) ?_
        unfold tX1_dataAreRight_2
        exact k_t q1 (k_b q2 (k_t s.2.2.1 (k_b a1 (k_t a4 (k_f (by rw [a5, nn_le (by omega) (by omega)]; omega) (k_t S.2.1 (k_b i0 h)))))))
      rw [dr, sp_das]
      unfold sp_daC
      by_cases c1 : a.1 = 1
      · obtain ⟨r3, g3, S3⟩ := ih (i + 1) (by omega) S
        refine ⟨r3, pre rfl (k_f (by rw [if_pos c1]; decide) (k_l ?_)), ?_⟩
        · rw [st]; exact k_n g3
        · rw [if_pos c1]; exact S3
      · have z0 : (if a.1 = 1 then (1 : Int32) else 0) = 0 := by rw [if_neg c1]
        obtain ⟨e, E⟩ := exR_Y (g3 c1)
        have has := y_hasI (k := 2) (x := a.2.1) X1 (by decide)
        have sl : spL M 2 = (spM M).length := rfl
        rw [if_neg c1]
        by_cases c2 : (spM M).length ≤ a.2.1
        · rw [if_pos c2]
          rw [if_neg (by rw [sl]; omega)] at has
          obtain ⟨r1, e1, S1, F1⟩ := y_fs (w := 28) (id := 11) (L' := L) X S ⟨by decide, by decide⟩ ⟨by decide, by decide⟩
          obtain ⟨s', cc', ⟨q1', q2', q3'⟩, -⟩ := (yC_F X S1.1).1
          obtain ⟨x', a1', a2', a3', a4', a5', a6', a7'⟩ := cc'.2.2.2.2.2.2.2.2.1 (by decide)
          obtain ⟨-, -, u2', -, -⟩ := a7' i a ha
          have i2' : fX12_item r1 x' (Int32.ofNat (i * 7) + Int32.ofNat 2) = some (pm_I r1 x' (i * 7 + 2)) := by
            rw [nn_ad]
            exact it_v a4' (by rw [a5']; omega) (by rw [a5']; omega)
          rw [u2'] at i2'
          obtain ⟨r2, e2, S2, R2⟩ := y_opn (p := a.2.2.1) X S1
          obtain ⟨r3, e3, S3, -⟩ := y_con (ty := 127) (p := a.2.2.1) (e := e) X gI (by decide) (fun _ => E) S2 (fun _ => R2)
          obtain ⟨r4, e4, S4⟩ := ih (i + 1) (by omega) (yS_L (L' := L) S3 (by rw [oE_s _ (oE_ns _ _)]; exact oE_ns _ _))
          refine ⟨r4, pre rfl (k_t z0 (k_b i1 (k_b has (k_t rfl (k_b e1 (k_t q1' (k_b q3' (k_b q2' (k_t s'.2.2.1 (k_b a1' (k_b i2' (k_t s'.1 (k_b e2 (k_t (yC_F X S2.1).1.2.2.1.1 (k_b e3 (k_l ?_)))))))))))))))), ?_⟩
          · rw [st]; exact k_n e4
          · exact S4
        · rw [if_neg c2]
          rw [if_pos (by rw [sl]; omega)] at has
          obtain ⟨r2, e2, S2, R2⟩ := y_opn (p := a.2.2.1) X S
          obtain ⟨r3, e3, S3, h3⟩ := y_con (ty := 127) X gI (by decide) (fun _ => E) S2 (fun _ => R2)
          have S3' : yS h0 dd (spF M).length (oE none (oU (sp_con B n D M a.2.2.1 127))) L r3 := by
            cases hc : sp_con B n D M a.2.2.1 127 with
            | inl w => rw [hc] at S3; exact S3
            | inr z =>
              have d0 := con_d hB E (by decide) hc
              rw [hc, d0, List.append_nil] at S3
              exact S3
          obtain ⟨r4, e4, S4⟩ := ih (i + 1) (by omega) S3'
          refine ⟨r4, pre rfl (k_t z0 (k_b i1 (k_b has (k_f (by decide) (k_b q3 (k_b i2 (k_t s.1 (k_b e2 (k_t (yC_F X S2.1).1.2.2.1.1 (k_b e3 (k_l ?_))))))))))), ?_⟩
          · rw [st]; exact k_n e4
          · rw [oU_b]
            cases hc : sp_con B n D M a.2.2.1 127 with
            | inl w => rw [hc] at S4; exact S4
            | inr z => rw [hc] at S4; exact S4
/-- data -/
theorem x_das (X : yC h0 n b mm lo hi dd B M D) (gI : ∀ a, a ∈ M.2.1 → gImp a) (g : ∀ a, a ∈ M.2.2.2.2.2.2.2.2.1 → gDa B n D a) (S : yS h0 dd (spF M).length o L r) : ∃ r', fX1_dataAreRight r 22 = some r' ∧ yS h0 dd (spF M).length (oE o (oU (sp_das B n D M M.2.2.2.2.2.2.2.2.1))) L r' := by
  have := x_da1 X gI g M.2.2.2.2.2.2.2.2.1.length 0 (Nat.zero_add _) S
  rw [List.drop_zero, Nat.zero_mul] at this
  exact this
end XDAT
