/-! THE CLASS CHECKS: the locals of a body, all of them -/
section XRDL
variable {h h' r : pm_H} {n b mm lo hi bo co dd cap e s : Nat} {B : Nat → Nat} {M : tMd} {p p2 y : Nat} {D ob : Bool} {ps rs : List Nat}
theorem i64_mn {lc v : Nat} (h : lc + v ≤ 1016) : (if (Int32.ofNat 1016 - Int32.ofNat lc).toInt64 < Int64.ofNat v then (Int32.ofNat 1016 - Int32.ofNat lc).toInt64 else Int64.ofNat v) = Int64.ofNat v := by
  rw [nn_sb (by omega), nn_t6 (by omega), if_neg (by rw [ll_lt (by omega) (by omega)]; omega)]
/-- rows of locals -/
theorem x_rl2 {c : Nat} (hc : c < 4294967296) : ∀ (j i : Nat) {pos p3 lc : Nat} {l L : List (Nat × Nat)} {r : pm_H}, i + j = c → sp_rows (sp_lc B n) j pos = .inr (l, p3) → xC r n b mm lo hi bo co dd cap B M → pm_I r 19 3 = 0 → pm_I r 19 1 = Int32.ofNat pos → pm_I r 22 12 = Int32.ofNat lc → lc + sumL l ≤ 1016 → rR r L → 2 * L.length + 2 * sumL l ≤ 2000 → ∃ r', pm_lim sX1_readLocals (.inr (.inl (22, Int64.ofNat c, Int64.ofNat i, r))) = some r' ∧ qFr r r' ∧ pm_I r' 19 1 = Int32.ofNat p3 ∧ pm_I r' 22 12 = Int32.ofNat (lc + sumL l) ∧ (∀ y, y < lc → pm_I r' 26 y = pm_I r 26 y) ∧ (∀ y ty, ltL l y = some ty → pm_I r' 26 (lc + y) = Int32.ofNat ty ∧ isT ty) ∧ rR r' (L ++ rfL lc l) := by
  intro j
  induction j with
  | zero =>
    intro i pos p3 lc l L r hi' q C f3 i1 i12 hs hR h2
    cases q
    refine ⟨r, ?_, gF_r _ _ r, i1, i12, fun _ _ => rfl, fun y ty hy => (by cases hy), by show rR r (L ++ []); rw [List.append_nil]; exact hR⟩
    refine k_w (aX1_readLocals_1 ..) ?_
    unfold tX1_readLocals_69
    exact k_t (by rw [ll_le (by omega) (by omega)]; omega) rfl
  | succ j ih =>
    intro i pos p3 lc l L r hi' q C f3 i1 i12 hs hR h2
    obtain ⟨w, p4, e1, e2⟩ := b_inv q
    obtain ⟨l', p5, e3, e4⟩ := b_inv e2
    cases e4
    obtain ⟨p1, n1, pn, bt, tT, ep⟩ := lc_inv e1
    have sl : sumL (w :: l') = w.1 + sumL l' := rfl
    rw [sl] at hs h2
    have t8 := isT_lt tT
    obtain ⟨l1, l2, l3⟩ := C.2.2.1.2.2.2.2.1
    obtain ⟨m1, m2, m3⟩ := C.2.2.1.2.2.2.2.2.1
    have k1 := C.2.2.1.1.1
    have aa := C.2.2.2.1
    have en := x_num C f3 i1 n1
    obtain ⟨ra, ea⟩ : ∃ z, z = pm_setI r 19 1 (Int32.ofNat p1) := ⟨_, rfl⟩
    rw [← ea] at en
    have Fa : qFr r ra := by rw [ea]; exact gF_I r _ (.inr (.inr (.inr ⟨rfl, rfl⟩)))
    have ka : ∀ x y, ¬ (x = 19 ∧ y = 1) → pm_I ra x y = pm_I r x y := fun x y hn => by rw [ea]; exact aA_I r _ x y hn
    have Ca := qC_F C Fa
    have eb := q_nxt (p := p1) Ca ((ka 19 3 (by omega)).trans f3) (by rw [ea, ev_II, if_pos rfl, if_pos rfl]) pn
    obtain ⟨rb, eb2⟩ : ∃ z, z = pm_setI ra 19 1 (Int32.ofNat (p1 + 1)) := ⟨_, rfl⟩
    rw [← eb2, bt] at eb
    have Fb : qFr r rb := gF_t Fa (by rw [eb2]; exact gF_I ra _ (.inr (.inr (.inr ⟨rfl, rfl⟩))))
    have kb : ∀ x y, ¬ (x = 19 ∧ y = 1) → pm_I rb x y = pm_I r x y := fun x y hn => by rw [eb2]; exact (aA_I ra _ x y hn).trans (ka x y hn)
    have Cb := qC_F C Fb
    have b1 : pm_I rb 19 1 = Int32.ofNat (p1 + 1) := by rw [eb2, ev_II, if_pos rfl, if_pos rfl]
    have b12 : pm_I rb 22 12 = Int32.ofNat lc := (kb 22 12 (by omega)).trans i12
    -- what is left, once the references are noted
    have fin : ∀ {rc' : pm_H} {L2 : List (Nat × Nat)}, qFr r rc' → pm_I rc' 19 1 = Int32.ofNat (p1 + 1) → pm_I rc' 22 12 = Int32.ofNat lc → pm_I rc' 19 3 = 0 → (∀ y, pm_I rc' 26 y = pm_I r 26 y) → rR rc' L2 → L2 = L ++ (if 0 < w.1 ∧ sp_isR w.2 = true then [(lc, lc + w.1)] else []) → ∃ r', pm_lim sX1_readLocals (.inr (.inr (22, Int64.ofNat c, Int64.ofNat i, Int32.ofNat w.1, Int32.ofNat w.2, 0, rc'))) = some r' ∧ qFr r r' ∧ pm_I r' 19 1 = Int32.ofNat p3 ∧ pm_I r' 22 12 = Int32.ofNat (lc + sumL (w :: l')) ∧ (∀ y, y < lc → pm_I r' 26 y = pm_I r 26 y) ∧ (∀ y ty, ltL (w :: l') y = some ty → pm_I r' 26 (lc + y) = Int32.ofNat ty ∧ isT ty) ∧ rR r' (L ++ rfL lc (w :: l')) := fun {rc' L2} F1 c1 c12 c3 c26 cR eL => by
      have C1 := qC_F C F1
      obtain ⟨rd, q1, F2, d12, d26, dk⟩ := x_rl3 (c := w.1) (lc := lc) (ty := w.2) (R := Int64.ofNat c) (X := Int64.ofNat i) (by omega) w.1 0 C1 c12 (Nat.zero_add _)
      have Cd := qC_F C1 F2
      have L2l : L2.length ≤ L.length + (if 0 < w.1 then 1 else 0) := by
        rw [eL, List.length_append]
        by_cases z : 0 < w.1 ∧ sp_isR w.2 = true
        · rw [if_pos z, if_pos z.1]; exact Nat.le_refl _
        · rw [if_neg z]; exact Nat.add_le_add_left (Nat.zero_le _) _
      have dR : rR rd L2 := ⟨(dk 22 14 (by decide) (by decide)).trans cR.1, fun i q hq => ⟨(dk 27 _ (by decide) (by omega)).trans (cR.2 i q hq).1, (dk 27 _ (by decide) (by omega)).trans (cR.2 i q hq).2⟩⟩
      obtain ⟨r', g1, F3, g2, g3, g4, g5, g6⟩ := ih (i + 1) (by omega) (by rw [ep] at e3; exact e3) Cd ((dk 19 3 (by decide) (by decide)).trans c3) ((dk 19 1 (by decide) (by decide)).trans c1) d12 (by omega) dR (by
        by_cases z : 0 < w.1
        · rw [if_pos z] at L2l; omega
        · rw [if_neg z] at L2l; omega)
      refine ⟨r', ?_, gF_t F1 (gF_t F2 F3), g2, by rw [g3, sl]; congr 1; omega, fun y hy => ?_, fun y ty hy => ?_, ?_⟩
      · rw [show Int64.ofNat (i + 1) = Int64.ofNat i + 1 from (ll_ad i 1).symm] at g1
        exact q1.trans g1
      · rw [g4 y (by omega), d26 y, if_neg (by omega), c26 y]
      · have hy : (if y < w.1 then some w.2 else ltL l' (y - w.1)) = some ty := hy
        by_cases c0 : y < w.1
        · rw [if_pos c0] at hy
          cases hy
          exact ⟨by rw [g4 (lc + y) (by omega), d26 (lc + y), if_pos (by omega)], tT⟩
        · rw [if_neg c0] at hy
          have := g5 (y - w.1) ty hy
          rw [show lc + w.1 + (y - w.1) = lc + y by omega] at this
          exact this
      · rw [eL, List.append_assoc] at g6
        exact g6
    have pre : ∀ {Y : Option pm_H}, ev_k sX1_readLocals (if Int32.ofNat w.1 ≤ 0 then (some (.inl (.inr (.inr (22, Int64.ofNat c, Int64.ofNat i, Int32.ofNat w.1, Int32.ofNat w.2, 0, rb)))) : Option (((Nat × Int32 × pm_H) ⊕ (Nat × Int64 × Int64 × pm_H) ⊕ (Nat × Int64 × Int64 × Int32 × Int32 × Int32 × pm_H)) ⊕ pm_H)) else (if Int32.ofNat w.2 = 112 then (if pm_kd rb 22 = 1 then (pm_R rb 22 13).bind fun v53 => (fX12_setItem rb v53 (pm_I rb 22 14) (pm_I rb 22 12)).bind fun v55 => if pm_kd v55 22 = 1 then (pm_R v55 22 13).bind fun v58 => (fX12_setItem v55 v58 ((pm_I v55 22 14) + 1) ((pm_I v55 22 12) + Int32.ofNat w.1)).bind fun v60 => if pm_kd v60 22 = 1 then (pm_R v60 22 13).bind fun v63 => if pm_kd v60 v63 = 34 then pm_let (Int32.ofNat (pm_ln v60 v63)) fun y66 => pm_let (if y66 < ((pm_I v60 22 14) + 2) then y66 else ((pm_I v60 22 14) + 2)) fun y68 => some (.inl (.inr (.inr ((22, Int64.ofNat c, Int64.ofNat i, Int32.ofNat w.1, Int32.ofNat w.2, 0, pm_setI v60 22 14 y68))))) else none else none else none else none) else (if Int32.ofNat w.2 = 111 then (if pm_kd rb 22 = 1 then (pm_R rb 22 13).bind fun v72 => (fX12_setItem rb v72 (pm_I rb 22 14) (pm_I rb 22 12)).bind fun v74 => if pm_kd v74 22 = 1 then (pm_R v74 22 13).bind fun v77 => (fX12_setItem v74 v77 ((pm_I v74 22 14) + 1) ((pm_I v74 22 12) + Int32.ofNat w.1)).bind fun v79 => if pm_kd v79 22 = 1 then (pm_R v79 22 13).bind fun v82 => if pm_kd v79 v82 = 34 then pm_let (Int32.ofNat (pm_ln v79 v82)) fun y85 => pm_let (if y85 < ((pm_I v79 22 14) + 2) then y85 else ((pm_I v79 22 14) + 2)) fun y87 => some (.inl (.inr (.inr ((22, Int64.ofNat c, Int64.ofNat i, Int32.ofNat w.1, Int32.ofNat w.2, 0, pm_setI v79 22 14 y87))))) else none else none else none else none) else (some (.inl (.inr (.inr (22, Int64.ofNat c, Int64.ofNat i, Int32.ofNat w.1, Int32.ofNat w.2, 0, rb)))))))) = Y → pm_lim sX1_readLocals (.inr (.inl (22, Int64.ofNat c, Int64.ofNat i, r))) = Y := fun {Y} hY => by
      refine k_w (aX1_readLocals_1 ..) ?_
      unfold tX1_readLocals_69
      refine k_f (by rw [ll_le (by omega) (by omega)]; omega) (k_t k1 (k_b C.2.2.1.1.2.2 (k_t C.1.1 (k_t f3 (k_b en (k_t Ca.2.2.1.1.1 (k_b Ca.2.2.1.2.2.2.2.1.1 (k_t Ca.2.2.1.2.2.2.2.1.2.1 (k_l (k_l ?_))))))))))
      rw [Ca.2.2.1.2.2.2.2.1.2.2, ka 22 12 (by omega), i12, i64_mn (by omega), ll_t3]
      exact k_b Ca.2.2.1.1.2.2 (k_t Ca.1.1 (k_b eb hY))
    -- noting references
    have note : 0 < w.1 → sp_isR w.2 = true → ∃ r4 y4, r4 = pm_setI (pm_setI (pm_setI rb 27 (2 * L.length) (Int32.ofNat lc)) 27 (2 * L.length + 1) (Int32.ofNat (lc + w.1))) 22 14 y4 ∧ (∀ {Y : Option pm_H}, pm_lim sX1_readLocals (.inr (.inr (22, Int64.ofNat c, Int64.ofNat i, Int32.ofNat w.1, Int32.ofNat w.2, 0, r4))) = Y → ev_k sX1_readLocals (if pm_kd rb 22 = 1 then (pm_R rb 22 13).bind fun v53 => (fX12_setItem rb v53 (pm_I rb 22 14) (pm_I rb 22 12)).bind fun v55 => if pm_kd v55 22 = 1 then (pm_R v55 22 13).bind fun v58 => (fX12_setItem v55 v58 ((pm_I v55 22 14) + 1) ((pm_I v55 22 12) + Int32.ofNat w.1)).bind fun v60 => if pm_kd v60 22 = 1 then (pm_R v60 22 13).bind fun v63 => if pm_kd v60 v63 = 34 then pm_let (Int32.ofNat (pm_ln v60 v63)) fun y66 => pm_let (if y66 < ((pm_I v60 22 14) + 2) then y66 else ((pm_I v60 22 14) + 2)) fun y68 => (some (.inl (.inr (.inr ((22, Int64.ofNat c, Int64.ofNat i, Int32.ofNat w.1, Int32.ofNat w.2, 0, pm_setI v60 22 14 y68))))) : Option (((Nat × Int32 × pm_H) ⊕ (Nat × Int64 × Int64 × pm_H) ⊕ (Nat × Int64 × Int64 × Int32 × Int32 × Int32 × pm_H)) ⊕ pm_H)) else none else none else none else none) = Y) ∧ y4 = Int32.ofNat (2 * (L.length + 1)) := fun w0 wr => by
      obtain ⟨r3, e3'⟩ : ∃ z, z = pm_setI rb 27 (2 * L.length) (Int32.ofNat lc) := ⟨_, rfl⟩
      obtain ⟨r4, e4'⟩ : ∃ z, z = pm_setI r3 27 (2 * L.length + 1) (Int32.ofNat (lc + w.1)) := ⟨_, rfl⟩
      have b14 : pm_I rb 22 14 = Int32.ofNat (2 * L.length) := (kb 22 14 (by omega)).trans hR.1
      have C3 : xC r3 n b mm lo hi bo co dd cap B M := qC_F Cb (by rw [e3']; exact gF_I rb _ (.inr (.inl rfl)))
      have C4 : xC r4 n b mm lo hi bo co dd cap B M := qC_F C3 (by rw [e4']; exact gF_I r3 _ (.inr (.inl rfl)))
      have a3 : ∀ y, pm_I r3 22 y = pm_I rb 22 y := fun y => by rw [e3', ev_II, if_neg (by decide)]
      have a4 : ∀ y, pm_I r4 22 y = pm_I rb 22 y := fun y => by rw [e4', ev_II, if_neg (by decide)]; exact a3 y
      obtain ⟨x1, x2, x3⟩ := Cb.2.2.1.2.2.2.2.2.1
      obtain ⟨u1, u2, u3⟩ := C3.2.2.1.2.2.2.2.2.1
      obtain ⟨v1, v2, v3⟩ := C4.2.2.1.2.2.2.2.2.1
      refine ⟨_, _, by rw [← e3', ← e4'], fun {Y} hY => ?_, rfl⟩
      refine k_t Cb.2.2.1.1.1 (k_b x1 (k_b (show fX12_setItem rb 27 (pm_I rb 22 14) (pm_I rb 22 12) = some r3 by rw [b14, b12, e3']; exact st_v x2 (by omega) (by omega)) (k_t C3.2.2.1.1.1 (k_b u1 (k_b (show fX12_setItem r3 27 (pm_I r3 22 14 + 1) (pm_I r3 22 12 + Int32.ofNat w.1) = some r4 by rw [a3, a3, b14, b12, nn_ad, show Int32.ofNat (2 * L.length) + 1 = Int32.ofNat (2 * L.length + 1) from nn_ad _ 1, e4']; exact st_v u2 (by omega) (by omega)) (k_t C4.2.2.1.1.1 (k_b v1 (k_t v2 (k_l (k_l ?_))))))))))
      have mn : (if Int32.ofNat (pm_ln r4 27) < pm_I r4 22 14 + 2 then Int32.ofNat (pm_ln r4 27) else pm_I r4 22 14 + 2) = Int32.ofNat (2 * (L.length + 1)) := by
        rw [v3, a4, b14, show Int32.ofNat (2 * L.length) + 2 = Int32.ofNat (2 * L.length + 2) from nn_ad _ 2, if_neg (by rw [nn_lt (by decide) (by omega)]; omega)]
        rfl
      rw [mn]
      exact k_n hY
    by_cases c0 : 0 < w.1
    · have nz : ¬ Int32.ofNat w.1 ≤ 0 := by rw [n3_0, nn_le (by omega) (by decide)]; omega
      by_cases cr : sp_isR w.2 = true
      · obtain ⟨r4, y4, er4, h4, ey4⟩ := note c0 cr
        have k4 : ∀ x y, x ≠ 27 → ¬ (x = 22 ∧ y = 14) → pm_I r4 x y = pm_I rb x y := fun x y h1 h3 => by
          rw [er4, ev_II]
          by_cases q : x = 22
          · rw [if_pos q, if_neg (fun z => h3 ⟨q, z⟩), ev_II, if_neg h1, ev_II, if_neg h1]
          · rw [if_neg q, ev_II, if_neg h1, ev_II, if_neg h1]
        have F4 : qFr r r4 := gF_t Fb (by rw [er4]; exact gF_t (gF_t (gF_I rb _ (.inr (.inl rfl))) (gF_I _ _ (.inr (.inl rfl)))) (gF_I _ _ (.inr (.inr (.inl ⟨rfl, .inr rfl⟩)))))
        have R4 : rR r4 (L ++ [(lc, lc + w.1)]) := by
          refine ⟨by rw [er4, ev_II, if_pos rfl, if_pos rfl, ey4, List.length_append]; rfl, fun i q hq => ?_⟩
          have k27 : ∀ y, pm_I r4 27 y = if y = 2 * L.length + 1 then Int32.ofNat (lc + w.1) else if y = 2 * L.length then Int32.ofNat lc else pm_I r 27 y := fun y => by
            rw [er4, ev_II, if_neg (by decide), ev_II, if_pos rfl, ev_II, if_pos rfl, kb 27 y (by omega)]
          rcases app_some hq with ⟨g1, g2⟩ | ⟨g1, g2⟩
          · obtain ⟨z1, z2⟩ := hR.2 i q g2
            exact ⟨by rw [k27, if_neg (by omega), if_neg (by omega)]; exact z1, by rw [k27, if_neg (by omega), if_neg (by omega)]; exact z2⟩
          · have il : i = L.length := by
              have := some_lt g2
              have : i - L.length < 1 := this
              omega
            rw [il, Nat.sub_self] at g2
            cases g2
            rw [il]
            exact ⟨by rw [k27, if_neg (by omega), if_pos rfl], by rw [k27, if_pos rfl]⟩
        obtain ⟨r', g1, g⟩ := fin F4 ((k4 19 1 (by decide) (by decide)).trans b1) ((k4 22 12 (by decide) (by decide)).trans b12) ((k4 19 3 (by decide) (by decide)).trans ((kb 19 3 (by omega)).trans f3)) (fun y => (k4 26 y (by decide) (by omega)).trans (kb 26 y (by omega))) R4 (by rw [if_pos ⟨c0, cr⟩])
        refine ⟨r', pre (k_f nz ?_), g⟩
        have ty : w.2 = 112 ∨ w.2 = 111 := by
          unfold sp_isR at cr
          rw [Bool.or_eq_true, beq_iff_eq, beq_iff_eq] at cr
          exact cr
        rcases ty with z | z
        · exact k_t (by rw [z]; rfl) (h4 g1)
        · exact k_f (by rw [z]; decide) (k_t (by rw [z]; rfl) (h4 g1))
      · obtain ⟨r', g1, g⟩ := fin Fb b1 b12 ((kb 19 3 (by omega)).trans f3) (fun y => kb 26 y (by omega)) (L2 := L) ⟨(kb 22 14 (by omega)).trans hR.1, fun i q hq => ⟨(kb 27 _ (by omega)).trans (hR.2 i q hq).1, (kb 27 _ (by omega)).trans (hR.2 i q hq).2⟩⟩ (by rw [if_neg (fun z => cr z.2), List.append_nil])
        refine ⟨r', pre (k_f nz (k_f ?_ (k_f ?_ (k_n g1)))), g⟩
        · intro z
          rw [show (112 : Int32) = Int32.ofNat 112 from rfl, nn_eq (by omega) (by decide)] at z
          exact cr (by rw [z]; rfl)
        · intro z
          rw [show (111 : Int32) = Int32.ofNat 111 from rfl, nn_eq (by omega) (by decide)] at z
          exact cr (by rw [z]; rfl)
    · obtain ⟨r', g1, g⟩ := fin Fb b1 b12 ((kb 19 3 (by omega)).trans f3) (fun y => kb 26 y (by omega)) (L2 := L) ⟨(kb 22 14 (by omega)).trans hR.1, fun i q hq => ⟨(kb 27 _ (by omega)).trans (hR.2 i q hq).1, (kb 27 _ (by omega)).trans (hR.2 i q hq).2⟩⟩ (by rw [if_neg (fun z => c0 z.1), List.append_nil])
      exact ⟨r', pre (k_t (by rw [n3_0, nn_le (by omega) (by decide)]; omega) (k_n g1)), g⟩
end XRDL
