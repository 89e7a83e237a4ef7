theorem lw_step_R {q : Nat → Int32} {x m : Nat} {h h2 : pm_H} (hf : lw_step q x m h = some h2) : pl_R h2 := by
  unfold lw_step at hf
  obtain ⟨⟨hk1, R0⟩, hf⟩ := pm_if hf
  by_cases c0 : q 0 &&& 31 = 0
  · have hf := pm_it hf c0
    unfold lw_s0 at hf
    obtain ⟨r1, e1, hf⟩ := pm_bd hf
    obtain ⟨⟨hk2, R1⟩, hf⟩ := pm_if hf
    obtain ⟨r2, e2, hf⟩ := pm_bd hf
    obtain ⟨⟨he, R2⟩, hf⟩ := pm_if hf
    have hf := Option.some.inj hf
    subst hf
    exact R2
  have hf := pm_ie hf c0
  by_cases c1 : q 0 &&& 31 = 1
  · have hf := pm_it hf c1
    unfold lw_s1 at hf
    obtain ⟨r1, e1, hf⟩ := pm_bd hf
    obtain ⟨⟨hk2, R1⟩, hf⟩ := pm_if hf
    obtain ⟨r2, e2, hf⟩ := pm_bd hf
    obtain ⟨⟨he, R2⟩, hf⟩ := pm_if hf
    have hf := Option.some.inj hf
    subst hf
    exact R2
  have hf := pm_ie hf c1
  by_cases c2 : q 0 &&& 31 = 2
  · have hf := pm_it hf c2
    unfold lw_s2 at hf
    obtain ⟨r1, e1, hf⟩ := pm_bd hf
    obtain ⟨⟨hk2, R1⟩, hf⟩ := pm_if hf
    obtain ⟨r2, e2, hf⟩ := pm_bd hf
    obtain ⟨⟨he, R2⟩, hf⟩ := pm_if hf
    have hf := Option.some.inj hf
    subst hf
    exact R2
  have hf := pm_ie hf c2
  by_cases c3 : q 0 &&& 31 = 3
  · have hf := pm_it hf c3
    unfold lw_s3 at hf
    obtain ⟨r1, e1, hf⟩ := pm_bd hf
    obtain ⟨⟨hk2, R1⟩, hf⟩ := pm_if hf
    obtain ⟨r2, e2, hf⟩ := pm_bd hf
    obtain ⟨⟨he, R2⟩, hf⟩ := pm_if hf
    have hf := Option.some.inj hf
    subst hf
    exact R2
  have hf := pm_ie hf c3
  by_cases c4 : q 0 &&& 31 = 4
  · have hf := pm_it hf c4
    unfold lw_s4 at hf
    obtain ⟨r1, e1, hf⟩ := pm_bd hf
    obtain ⟨⟨hk2, R1⟩, hf⟩ := pm_if hf
    obtain ⟨r2, e2, hf⟩ := pm_bd hf
    obtain ⟨⟨he, R2⟩, hf⟩ := pm_if hf
    have hf := Option.some.inj hf
    subst hf
    exact R2
  have hf := pm_ie hf c4
  by_cases c5 : q 0 &&& 31 = 5
  · have hf := pm_it hf c5
    unfold lw_s5 at hf
    obtain ⟨r1, e1, hf⟩ := pm_bd hf
    obtain ⟨⟨hk2, R1⟩, hf⟩ := pm_if hf
    obtain ⟨r2, e2, hf⟩ := pm_bd hf
    obtain ⟨⟨he, R2⟩, hf⟩ := pm_if hf
    have hf := Option.some.inj hf
    subst hf
    exact R2
  have hf := pm_ie hf c5
  by_cases c6 : q 0 &&& 31 = 6
  · have hf := pm_it hf c6
    unfold lw_s6 at hf
    obtain ⟨r1, e1, hf⟩ := pm_bd hf
    obtain ⟨⟨hk2, R1⟩, hf⟩ := pm_if hf
    obtain ⟨r2, e2, hf⟩ := pm_bd hf
    obtain ⟨⟨he, R2⟩, hf⟩ := pm_if hf
    have hf := Option.some.inj hf
    subst hf
    exact R2
  have hf := pm_ie hf c6
  by_cases c7 : q 0 &&& 31 = 7
  · have hf := pm_it hf c7
    unfold lw_s7 at hf
    obtain ⟨r1, e1, hf⟩ := pm_bd hf
    obtain ⟨⟨hk2, R1⟩, hf⟩ := pm_if hf
    obtain ⟨r2, e2, hf⟩ := pm_bd hf
    obtain ⟨⟨he, R2⟩, hf⟩ := pm_if hf
    have hf := Option.some.inj hf
    subst hf
    exact R2
  have hf := pm_ie hf c7
  by_cases c8 : q 0 &&& 31 = 8
  · have hf := pm_it hf c8
    unfold lw_s8 at hf
    obtain ⟨r1, e1, hf⟩ := pm_bd hf
    obtain ⟨⟨hk2, R1⟩, hf⟩ := pm_if hf
    obtain ⟨r2, e2, hf⟩ := pm_bd hf
    obtain ⟨⟨he, R2⟩, hf⟩ := pm_if hf
    have hf := Option.some.inj hf
    subst hf
    exact R2
  have hf := pm_ie hf c8
  by_cases c9 : q 0 &&& 31 = 9
  · have hf := pm_it hf c9
    unfold lw_s9 at hf
    obtain ⟨r1, e1, hf⟩ := pm_bd hf
    obtain ⟨⟨hk2, R1⟩, hf⟩ := pm_if hf
    obtain ⟨r2, e2, hf⟩ := pm_bd hf
    obtain ⟨⟨he, R2⟩, hf⟩ := pm_if hf
    have hf := Option.some.inj hf
    subst hf
    exact R2
  have hf := pm_ie hf c9
  by_cases c10 : q 0 &&& 31 = 10
  · have hf := pm_it hf c10
    unfold lw_s10 at hf
    obtain ⟨r1, e1, hf⟩ := pm_bd hf
    obtain ⟨⟨hk2, R1⟩, hf⟩ := pm_if hf
    obtain ⟨r2, e2, hf⟩ := pm_bd hf
    obtain ⟨⟨he, R2⟩, hf⟩ := pm_if hf
    have hf := Option.some.inj hf
    subst hf
    exact R2
  have hf := pm_ie hf c10
  by_cases c11 : q 0 &&& 31 = 11
  · have hf := pm_it hf c11
    unfold lw_s11 at hf
    obtain ⟨r1, e1, hf⟩ := pm_bd hf
    obtain ⟨⟨hk2, R1⟩, hf⟩ := pm_if hf
    obtain ⟨r2, e2, hf⟩ := pm_bd hf
    obtain ⟨⟨he, R2⟩, hf⟩ := pm_if hf
    have hf := Option.some.inj hf
    subst hf
    exact R2
  have hf := pm_ie hf c11
  by_cases c12 : q 0 &&& 31 = 12
  · have hf := pm_it hf c12
    unfold lw_s12 at hf
    obtain ⟨r1, e1, hf⟩ := pm_bd hf
    obtain ⟨⟨hk2, R1⟩, hf⟩ := pm_if hf
    obtain ⟨r2, e2, hf⟩ := pm_bd hf
    obtain ⟨⟨he, R2⟩, hf⟩ := pm_if hf
    have hf := Option.some.inj hf
    subst hf
    exact R2
  have hf := pm_ie hf c12
  by_cases c13 : q 0 &&& 31 = 13
  · have hf := pm_it hf c13
    unfold lw_s13 at hf
    obtain ⟨r1, e1, hf⟩ := pm_bd hf
    obtain ⟨⟨hk2, R1⟩, hf⟩ := pm_if hf
    obtain ⟨r2, e2, hf⟩ := pm_bd hf
    obtain ⟨⟨he, R2⟩, hf⟩ := pm_if hf
    have hf := Option.some.inj hf
    subst hf
    exact R2
  have hf := pm_ie hf c13
  by_cases c14 : q 0 &&& 31 = 14
  · have hf := pm_it hf c14
    unfold lw_s14 at hf
    obtain ⟨r1, e1, hf⟩ := pm_bd hf
    obtain ⟨⟨hk2, R1⟩, hf⟩ := pm_if hf
    obtain ⟨r2, e2, hf⟩ := pm_bd hf
    obtain ⟨⟨he, R2⟩, hf⟩ := pm_if hf
    have hf := Option.some.inj hf
    subst hf
    exact R2
  have hf := pm_ie hf c14
  by_cases c15 : q 0 &&& 31 = 15
  · have hf := pm_it hf c15
    unfold lw_s15 at hf
    obtain ⟨r1, e1, hf⟩ := pm_bd hf
    obtain ⟨⟨hk2, R1⟩, hf⟩ := pm_if hf
    obtain ⟨r2, e2, hf⟩ := pm_bd hf
    obtain ⟨⟨he, R2⟩, hf⟩ := pm_if hf
    have hf := Option.some.inj hf
    subst hf
    exact R2
  have hf := pm_ie hf c15
  by_cases c16 : q 0 &&& 31 = 16
  · have hf := pm_it hf c16
    unfold lw_s16 at hf
    obtain ⟨r1, e1, hf⟩ := pm_bd hf
    obtain ⟨⟨hk2, R1⟩, hf⟩ := pm_if hf
    obtain ⟨r2, e2, hf⟩ := pm_bd hf
    obtain ⟨⟨he, R2⟩, hf⟩ := pm_if hf
    have hf := Option.some.inj hf
    subst hf
    exact R2
  have hf := pm_ie hf c16
  by_cases c17 : q 0 &&& 31 = 17
  · have hf := pm_it hf c17
    unfold lw_s17 at hf
    obtain ⟨r1, e1, hf⟩ := pm_bd hf
    obtain ⟨⟨hk2, R1⟩, hf⟩ := pm_if hf
    obtain ⟨r2, e2, hf⟩ := pm_bd hf
    obtain ⟨⟨he, R2⟩, hf⟩ := pm_if hf
    have hf := Option.some.inj hf
    subst hf
    exact R2
  have hf := pm_ie hf c17
  have hf := Option.some.inj hf
  subst hf
  exact R0
set_option maxHeartbeats 1000000 in
theorem lw_switch {g : pm_Gm} {l : Launch} {G : pm_Gl} {Qr : Option Value → pm_H → Prop} (C : pm_C g code RL) (X : pm_X g l G mL_law 600002 7302232 Qr) {b L j x m : Nat} {xs : Nat → Int32} {h h2 : pm_H} (SX : pl_S g b L xs) (hj : j + 6 ≤ L) (hL : L ≤ 384) (hf : lw_step (fun i => xs (j + i)) x m h = some h2) (kk : pm_G g 706 [(3, .int (Int32.ofNat j)), (2, .ref m), (1, .ref x), (0, .retAddr b)] [] h2 (pm_sz h2) (pm_us h2)) : pm_G g 33 [(3, .int (Int32.ofNat j)), (2, .ref m), (1, .ref x), (0, .retAddr b)] [.int (xs j &&& 31)] h (pm_sz h) (pm_us h) := by
  unfold lw_step at hf
  obtain ⟨⟨hk1, R0⟩, hf⟩ := pm_if hf
  by_cases c0 : xs j &&& 31 = 0
  · have hf := pm_it hf c0
    refine pm_tableIn (tgt := 120) C dL_law_33 (by rw [c0]; decide) (by rw [c0]; decide) (by rw [c0]; rfl) (by decide) ?_
    exact lw_c0 C X SX hj hL hk1 R0 hf kk
  have hf := pm_ie hf c0
  by_cases c1 : xs j &&& 31 = 1
  · have hf := pm_it hf c1
    refine pm_tableIn (tgt := 183) C dL_law_33 (by rw [c1]; decide) (by rw [c1]; decide) (by rw [c1]; rfl) (by decide) ?_
    exact lw_c1 C X SX hj hL hk1 R0 hf kk
  have hf := pm_ie hf c1
  by_cases c2 : xs j &&& 31 = 2
  · have hf := pm_it hf c2
    refine pm_tableIn (tgt := 206) C dL_law_33 (by rw [c2]; decide) (by rw [c2]; decide) (by rw [c2]; rfl) (by decide) ?_
    exact lw_c2 C X SX hj hL hk1 R0 hf kk
  have hf := pm_ie hf c2
  by_cases c3 : xs j &&& 31 = 3
  · have hf := pm_it hf c3
    refine pm_tableIn (tgt := 229) C dL_law_33 (by rw [c3]; decide) (by rw [c3]; decide) (by rw [c3]; rfl) (by decide) ?_
    exact lw_c3 C X SX hj hL hk1 R0 hf kk
  have hf := pm_ie hf c3
  by_cases c4 : xs j &&& 31 = 4
  · have hf := pm_it hf c4
    refine pm_tableIn (tgt := 262) C dL_law_33 (by rw [c4]; decide) (by rw [c4]; decide) (by rw [c4]; rfl) (by decide) ?_
    exact lw_c4 C X SX hj hL hk1 R0 hf kk
  have hf := pm_ie hf c4
  by_cases c5 : xs j &&& 31 = 5
  · have hf := pm_it hf c5
    refine pm_tableIn (tgt := 285) C dL_law_33 (by rw [c5]; decide) (by rw [c5]; decide) (by rw [c5]; rfl) (by decide) ?_
    exact lw_c5 C X SX hj hL hk1 R0 hf kk
  have hf := pm_ie hf c5
  by_cases c6 : xs j &&& 31 = 6
  · have hf := pm_it hf c6
    refine pm_tableIn (tgt := 338) C dL_law_33 (by rw [c6]; decide) (by rw [c6]; decide) (by rw [c6]; rfl) (by decide) ?_
    exact lw_c6 C X SX hj hL hk1 R0 hf kk
  have hf := pm_ie hf c6
  by_cases c7 : xs j &&& 31 = 7
  · have hf := pm_it hf c7
    refine pm_tableIn (tgt := 371) C dL_law_33 (by rw [c7]; decide) (by rw [c7]; decide) (by rw [c7]; rfl) (by decide) ?_
    exact lw_c7 C X SX hj hL hk1 R0 hf kk
  have hf := pm_ie hf c7
  by_cases c8 : xs j &&& 31 = 8
  · have hf := pm_it hf c8
    refine pm_tableIn (tgt := 394) C dL_law_33 (by rw [c8]; decide) (by rw [c8]; decide) (by rw [c8]; rfl) (by decide) ?_
    exact lw_c8 C X SX hj hL hk1 R0 hf kk
  have hf := pm_ie hf c8
  by_cases c9 : xs j &&& 31 = 9
  · have hf := pm_it hf c9
    refine pm_tableIn (tgt := 407) C dL_law_33 (by rw [c9]; decide) (by rw [c9]; decide) (by rw [c9]; rfl) (by decide) ?_
    exact lw_c9 C X SX hj hL hk1 R0 hf kk
  have hf := pm_ie hf c9
  by_cases c10 : xs j &&& 31 = 10
  · have hf := pm_it hf c10
    refine pm_tableIn (tgt := 420) C dL_law_33 (by rw [c10]; decide) (by rw [c10]; decide) (by rw [c10]; rfl) (by decide) ?_
    exact lw_c10 C X SX hj hL hk1 R0 hf kk
  have hf := pm_ie hf c10
  by_cases c11 : xs j &&& 31 = 11
  · have hf := pm_it hf c11
    refine pm_tableIn (tgt := 443) C dL_law_33 (by rw [c11]; decide) (by rw [c11]; decide) (by rw [c11]; rfl) (by decide) ?_
    exact lw_c11 C X SX hj hL hk1 R0 hf kk
  have hf := pm_ie hf c11
  by_cases c12 : xs j &&& 31 = 12
  · have hf := pm_it hf c12
    refine pm_tableIn (tgt := 467) C dL_law_33 (by rw [c12]; decide) (by rw [c12]; decide) (by rw [c12]; rfl) (by decide) ?_
    exact lw_c12 C X SX hj hL hk1 R0 hf kk
  have hf := pm_ie hf c12
  by_cases c13 : xs j &&& 31 = 13
  · have hf := pm_it hf c13
    refine pm_tableIn (tgt := 490) C dL_law_33 (by rw [c13]; decide) (by rw [c13]; decide) (by rw [c13]; rfl) (by decide) ?_
    exact lw_c13 C X SX hj hL hk1 R0 hf kk
  have hf := pm_ie hf c13
  by_cases c14 : xs j &&& 31 = 14
  · have hf := pm_it hf c14
    refine pm_tableIn (tgt := 533) C dL_law_33 (by rw [c14]; decide) (by rw [c14]; decide) (by rw [c14]; rfl) (by decide) ?_
    exact lw_c14 C X SX hj hL hk1 R0 hf kk
  have hf := pm_ie hf c14
  by_cases c15 : xs j &&& 31 = 15
  · have hf := pm_it hf c15
    refine pm_tableIn (tgt := 576) C dL_law_33 (by rw [c15]; decide) (by rw [c15]; decide) (by rw [c15]; rfl) (by decide) ?_
    exact lw_c15 C X SX hj hL hk1 R0 hf kk
  have hf := pm_ie hf c15
  by_cases c16 : xs j &&& 31 = 16
  · have hf := pm_it hf c16
    refine pm_tableIn (tgt := 629) C dL_law_33 (by rw [c16]; decide) (by rw [c16]; decide) (by rw [c16]; rfl) (by decide) ?_
    exact lw_c16 C X SX hj hL hk1 R0 hf kk
  have hf := pm_ie hf c16
  by_cases c17 : xs j &&& 31 = 17
  · have hf := pm_it hf c17
    refine pm_tableIn (tgt := 672) C dL_law_33 (by rw [c17]; decide) (by rw [c17]; decide) (by rw [c17]; rfl) (by decide) ?_
    exact lw_c17 C X SX hj hL hk1 R0 hf kk
  have hf := pm_ie hf c17
  have n0 := lv_neT c0 (by decide : (0 : Int32).toInt = 0)
  have n1 := lv_neT c1 (by decide : (1 : Int32).toInt = 1)
  have n2 := lv_neT c2 (by decide : (2 : Int32).toInt = 2)
  have n3 := lv_neT c3 (by decide : (3 : Int32).toInt = 3)
  have n4 := lv_neT c4 (by decide : (4 : Int32).toInt = 4)
  have n5 := lv_neT c5 (by decide : (5 : Int32).toInt = 5)
  have n6 := lv_neT c6 (by decide : (6 : Int32).toInt = 6)
  have n7 := lv_neT c7 (by decide : (7 : Int32).toInt = 7)
  have n8 := lv_neT c8 (by decide : (8 : Int32).toInt = 8)
  have n9 := lv_neT c9 (by decide : (9 : Int32).toInt = 9)
  have n10 := lv_neT c10 (by decide : (10 : Int32).toInt = 10)
  have n11 := lv_neT c11 (by decide : (11 : Int32).toInt = 11)
  have n12 := lv_neT c12 (by decide : (12 : Int32).toInt = 12)
  have n13 := lv_neT c13 (by decide : (13 : Int32).toInt = 13)
  have n14 := lv_neT c14 (by decide : (14 : Int32).toInt = 14)
  have n15 := lv_neT c15 (by decide : (15 : Int32).toInt = 15)
  have n16 := lv_neT c16 (by decide : (16 : Int32).toInt = 16)
  have n17 := lv_neT c17 (by decide : (17 : Int32).toInt = 17)
  have hf := Option.some.inj hf
  subst hf
  exact pm_tableOut (tgt := 706) C dL_law_33 (by omega) (by decide) kk
theorem lw_loop {g : pm_Gm} {l : Launch} {G : pm_Gl} {Qr : Option Value → pm_H → Prop} (C : pm_C g code RL) (X : pm_X g l G mL_law 600002 7302232 Qr) {b L x m : Nat} {xs : Nat → Int32} (SX : pl_S g b L xs) (hL : L ≤ 384) (q : ∀ h, Qr (some (.int 1)) h) : ∀ (k j : Nat) (h h2 : pm_H), j + 6 * k ≤ L → L < j + 6 * k + 6 → pl_R h → lw_runs xs x m k j h = some h2 → pm_G g 18 [(3, .int (Int32.ofNat j)), (2, .ref m), (1, .ref x), (0, .retAddr b)] [] h (pm_sz h) (pm_us h) := by
  intro k
  induction k with
  | zero =>
    intro j h h2 h1 h3 hR _
    refine pm_iload_n C dL_law_18 rfl rfl ?_
    refine pm_aloadT C dL_law_19 rfl rfl ?_
    refine pl_slen C SX dL_law_20 ?_
    refine pm_bipush (v := 6) C dL_law_21 (by decide) ?_
    refine pm_isub C dL_law_23 ?_
    refine pm_icmp_gt (tgt := 712) C dL_law_24 (by decide) (fun _ => ?_) (fun c => absurd ((pl_gt (by omega) hL).mpr (by omega)) c)
    refine pm_iconst (v := 1) C dL_law_712 (by decide) ?_
    exact pm_zret C X dL_law_713 rfl (by decide) hR.1 hR.2 (q h)
  | succ k ih =>
    intro j h h2 h1 h3 hR hf
    obtain ⟨h', hs, hf⟩ := pm_bd (show (lw_step (fun i => xs (j + i)) x m h).bind (fun h' => lw_runs xs x m k (j + 6) h') = some h2 from hf)
    refine pm_iload_n C dL_law_18 rfl rfl ?_
    refine pm_aloadT C dL_law_19 rfl rfl ?_
    refine pl_slen C SX dL_law_20 ?_
    refine pm_bipush (v := 6) C dL_law_21 (by decide) ?_
    refine pm_isub C dL_law_23 ?_
    refine pm_icmp_gt (tgt := 712) C dL_law_24 (by decide) (fun c => absurd ((pl_gt (by omega) hL).mp c) (by omega)) (fun _ => ?_)
    refine pm_aloadT C dL_law_27 rfl rfl ?_
    refine pm_iload_n C dL_law_28 rfl rfl ?_
    have i0 := pl_ix (L := L) (j := j) 0 (by decide) (by omega) hL
    have ez : Int32.ofNat j + Int32.ofNat 0 = Int32.ofNat j := by rw [← Int32.ofNat_add]; rfl
    rw [ez] at i0
    refine pl_sld (v := xs j) C SX dL_law_29 i0.1 (by rw [i0.2]; rfl) ?_
    refine pm_bipush (v := 31) C dL_law_30 (by decide) ?_
    refine pm_iand C dL_law_32 ?_
    have hR' : pl_R h' := lw_step_R hs
    refine lw_switch C X SX (by omega) hL hs ?_
    have ej : Int32.ofNat j + 6 = Int32.ofNat (j + 6) := (Int32.ofNat_add j 6).symm
    refine pm_iinc (v := Int32.ofNat (j + 6)) (lv' := [(3, .int (Int32.ofNat (j + 6))), (2, .ref m), (1, .ref x), (0, .retAddr b)]) C dL_law_706 rfl ((congrArg (Int32.ofNat j + ·) (by decide : Int32.ofInt 6 = 6)).trans ej) (pm_nl X (by decide)) rfl ?_
    refine pm_goto (tgt := 18) C dL_law_709 (by decide) ?_
    exact ih (j + 6) h' h2 (by omega) (by omega) hR' hf
