/-! THE REFERENCE'S module: all is ready for its reading -/
theorem nar_b (v : Int32) : vp_nar .byte v &&& 255 = v &&& 255 := by
  show v.toInt8.toInt32 &&& 255 = v &&& 255
  apply Int32.toBitVec_inj.mp
  simp only [Int32.toBitVec_and, Int8.toBitVec_toInt32, Int32.toBitVec_toInt8]
  apply BitVec.eq_of_getLsbD_eq
  intro i hi
  have e : (Int32.toBitVec 255).getLsbD i = decide (i < 8) := (by decide : ∀ j : Fin 32, (Int32.toBitVec 255).getLsbD j.val = decide (j.val < 8)) ⟨i, hi⟩
  simp only [BitVec.getLsbD_and, BitVec.getLsbD_signExtend, BitVec.getLsbD_setWidth]
  rw [e]
  by_cases c : i < 8
  · simp [c, hi]
  · simp [c]
/-- what a plan says as it begins -/
def pB0 (h : pm_H) (m el : Nat) : Prop := pm_I h m 3 = -1 ∧ pm_I h m 4 = 0 ∧ pm_I h m 8 = 0 ∧ pm_L h m 14 = 0 ∧ pm_I h m 15 = 0 ∧ pm_I h m 17 = 0 ∧ pm_I h m 21 = 0 ∧ pm_I h m 24 = 0 ∧ pm_I h m 28 = 0 ∧ pm_L h m 33 = -1 ∧ pm_I h m 34 = 0 ∧ pm_L h m 42 = -1 ∧ pm_L h m 43 = 0 ∧ pm_I h m 44 = 0 ∧ pm_L h m 50 = 0 ∧ (∀ i, i < 13 → pm_I h (m + 1) i = -1) ∧ ∀ y, pm_I h el y = 0
theorem ms_rdy {h : pm_H} {n m b s eo el : Nat} {B : Nat → Nat} (K : pm_kd h 592 = 16) (rr : pm_R h 592 10 = some m) (km : pm_kd h m = 14) (rb : pm_R h m 0 = some b) (kb : pm_kd h b = 33) (lb : pm_ln h b = n) (hn : n ≤ 40960) (r9 : pm_R h 592 9 = some 595) (r14 : pm_R h 592 14 = some 596) (k6 : pm_kd h 596 = 34) (l6 : pm_ln h 596 = 40962) (r15 : pm_R h 592 15 = some 597) (k7 : pm_kd h 597 = 34) (l7 : pm_ln h 597 = 40962) (reo : pm_R h m 56 = some eo) (keo : pm_kd h eo = 34) (leo : pm_ln h eo = n) (rel : pm_R h m 57 = some el) (kel : pm_kd h el = 34) (lel : pm_ln h el = n) (P : mP h m) (hm : 648 < m) (hb : m + 39 < b) (heo : b < eo) (hel : eo < el) (hB : ∀ i, i < n → pm_I h s i &&& 255 = Int32.ofNat (B i)) (hB2 : ∀ i, B i < 256) (Z : pB0 h m el) (i1 : pm_I h m 1 = Int32.ofNat n) : mC (pm_setI (mB h b s n) 592 12 (Int32.ofNat n)) n b m eo el n false B ∧ mD m n eo el (pm_setI (mB h b s n) 592 12 (Int32.ofNat n)) M0 0 ∧ pm_I (mB h b s n) m 1 = Int32.ofNat n := by
  have m5 : m ≠ 592 := by omega
  have mb : m ≠ b := by omega
  have g0 : ∀ x y, x ≠ 592 → x ≠ b → pm_I (mB h b s n) x y = pm_I h x y := fun x y h1 h2 => by
    show pm_I (pm_setI (pm_setI (bC h b s n) 592 1 0) 592 6 1) x y = _
    rw [ev_II, if_neg h1, ev_II, if_neg h1, bC_I, if_neg h2]
  have gI : ∀ x y, x ≠ 592 → x ≠ b → pm_I (pm_setI (mB h b s n) 592 12 (Int32.ofNat n)) x y = pm_I h x y := fun x y h1 h2 => by
    rw [ev_II, if_neg h1, g0 x y h1 h2]
  have gb : ∀ y, y < n → pm_I (pm_setI (mB h b s n) 592 12 (Int32.ofNat n)) b y = vp_nar .byte (pm_I h s y) := fun y hy => by
    have b5 : b ≠ 592 := by omega
    show pm_I (pm_setI (pm_setI (pm_setI (bC h b s n) 592 1 0) 592 6 1) 592 12 (Int32.ofNat n)) b y = _
    rw [ev_II, if_neg b5, ev_II, if_neg b5, ev_II, if_neg b5, bC_I, if_pos rfl, if_pos hy]
  obtain ⟨p2, p3, p4⟩ := mP_2 P
  have ZE := Z.2.2.2.2.2.2.2.2.2.2.2.2.2.2.2.2
  refine ⟨⟨⟨K, rr, km, rb, kb, lb, hn, r9, fun i hi => by rw [gb i hi, nar_b]; exact hB i hi, hB2⟩, ⟨r14, k6, l6, r15, k7, l7, reo, keo, leo, rel, kel, lel, p2, p3, p4, by omega, by omega, hm, by omega, by omega, by omega, by omega⟩, P, ⟨hb, by omega, by omega⟩, by rw [ev_II, if_pos rfl, if_pos rfl], Nat.le_refl _, ?_⟩, ⟨⟨cR_0 _ _, (gI m 4 m5 mb).trans (Z.2.1), Nat.zero_lt_succ _⟩, ⟨cR_0 _ _, (gI m 8 m5 mb).trans (Z.2.2.1), Nat.zero_lt_succ _⟩, ⟨cR_0 _ _, (gI m 15 m5 mb).trans (Z.2.2.2.2.1), Z.2.2.2.1, Nat.zero_lt_succ _⟩, ⟨cR_0 _ _, (gI m 17 m5 mb).trans (Z.2.2.2.2.2.1), Nat.zero_lt_succ _⟩, ⟨cR_0 _ _, (gI m 21 m5 mb).trans (Z.2.2.2.2.2.2.1), Nat.zero_lt_succ _⟩, ⟨cR_0 _ _, (gI m 24 m5 mb).trans (Z.2.2.2.2.2.2.2.1), Nat.zero_lt_succ _⟩, ⟨cR_0 _ _, (gI m 28 m5 mb).trans (Z.2.2.2.2.2.2.2.2.1), Nat.zero_lt_succ _⟩, ⟨fun _ => cR_0 _ _, (gI m 34 m5 mb).trans (Z.2.2.2.2.2.2.2.2.2.2.1), Nat.zero_lt_succ _⟩, ⟨fun _ => cR_0 _ _, (gI m 44 m5 mb).trans (Z.2.2.2.2.2.2.2.2.2.2.2.2.2.1), Z.2.2.2.2.2.2.2.2.2.2.2.2.1, Nat.zero_lt_succ _⟩, ⟨fun _ => cR_0 _ _, Z.2.2.2.2.2.2.2.2.2.2.2.2.2.2.1, fun a ha => absurd ha List.not_mem_nil, Nat.zero_lt_succ _⟩, Z.2.2.2.2.2.2.2.2.2.1, Z.2.2.2.2.2.2.2.2.2.2.2.1, fun i hi => (gI (m + 1) i (by omega) (by omega)).trans (Z.2.2.2.2.2.2.2.2.2.2.2.2.2.2.2.1 i hi), (gI m 3 m5 mb).trans (Z.1), ⟨fun a ha => ⟨0, by omega, (gI el a (by omega) (by omega)).trans (ZE a)⟩, fun y _ _ => (gI el y (by omega) (by omega)).trans (ZE y)⟩, (fun x hx => by cases hx), (fun x hx => by cases hx)⟩, (g0 m 1 m5 mb).trans i1⟩
  rw [gI (m + 1) 12 (by omega) (by omega), Z.2.2.2.2.2.2.2.2.2.2.2.2.2.2.2.1 12 (by decide)]
  decide
