/-! THE CLASS READS: the Reader begins on a new Module -/
theorem rc_open (X : pm_H) (v : Int32) : pm_setI (pm_setI (pm_setI (pm_setI (pm_setI (pm_setI (pm_setI (pm_setI X 19 1 0) 19 2 v) 19 3 0) 19 4 (-1)) 19 16 0) 19 5 (-1)) 19 12 0) 19 10 (-1) = rc (pm_setI (pm_setI (pm_setI (pm_setI (pm_setI X 19 2 v) 19 16 0) 19 5 (-1)) 19 12 0) 19 10 (-1)) 0 0 (-1) := by
  have : ∀ a f q, pm_setI (pm_setI (pm_setI (pm_setI (pm_setI (pm_setI (pm_setI (pm_setI (rc X a f q) 19 1 0) 19 2 v) 19 3 0) 19 4 (-1)) 19 16 0) 19 5 (-1)) 19 12 0) 19 10 (-1) = rc (pm_setI (pm_setI (pm_setI (pm_setI (pm_setI X 19 2 v) 19 16 0) 19 5 (-1)) 19 12 0) 19 10 (-1)) 0 0 (-1) := by
    intro a f q
    rw [rc_s1, rc_19 _ _ _ _ _ (by decide) (by decide) (by decide), rc_s3, rc_s4, rc_19 _ _ _ _ _ (by decide) (by decide) (by decide), rc_19 _ _ _ _ _ (by decide) (by decide) (by decide), rc_19 _ _ _ _ _ (by decide) (by decide) (by decide), rc_19 _ _ _ _ _ (by decide) (by decide) (by decide)]
  have e := this (pm_I X 19 1) (pm_I X 19 3) (pm_I X 19 4)
  rw [rc_eta] at e
  exact e
/-- what begin leaves, at its first byte -/
def hBeg (H : pm_H) (mm n : Nat) : pm_H := pm_setI (pm_setI (pm_setI (pm_setI (pm_setI (pm_setR H 19 0 (some mm)) 19 2 (Int32.ofNat n)) 19 16 0) 19 5 (-1)) 19 12 0) 19 10 (-1)
theorem begin_e {H : pm_H} {b mm n : Nat} (K9 : pm_kd H 19 = 9) (km : pm_kd H mm = 7) (m9 : mm ≠ 19) (rb : pm_R H mm 0 = some b) (kb : pm_kd H b = 33) (lb : pm_ln H b = n) : fX9_begin H 19 mm = pm_lim sX9_begin (19, 0, rc (hBeg H mm n) 0 0 (-1)) := by
  have rb' : pm_R (pm_setI (pm_setR H 19 0 (some mm)) 19 1 0) mm 0 = some b := by rw [ev_RI, ev_RR, if_neg m9]; exact rb
  have OP : fX9_open H 19 mm 0 = some (pm_setI (pm_setI (pm_setI (pm_setI (pm_setI (pm_setR H 19 0 (some mm)) 19 1 0) 19 2 (Int32.ofNat n)) 19 3 0) 19 4 (-1)) 19 16 0) := by
    unfold fX9_open
    refine e9_t K9 (e9_t km (e9_b rb' (e9_t kb (e9_l ?_))))
    rw [show pm_ln (pm_setI (pm_setR H 19 0 (some mm)) 19 1 0) b = n from lb]
  unfold fX9_begin
  refine e9_t K9 (e9_b OP (e9_t K9 ?_))
  rw [show (pm_setI (pm_setI (pm_setI (pm_setI (pm_setI (pm_setI (pm_setI (pm_setI (pm_setR H 19 0 (some mm)) 19 1 0) 19 2 (Int32.ofNat n)) 19 3 0) 19 4 (-1)) 19 16 0) 19 5 (-1)) 19 12 0) 19 10 (-1)) = rc (hBeg H mm n) 0 0 (-1) from rc_open _ _]
/-- a new Module is M0 -/
theorem clS_0 {H : pm_H} {n b mm me sh lo : Nat} {B : Nat → Nat} (K9 : pm_kd H 19 = 9) (km : pm_kd H mm = 7) (P : pj_X7 H mm lo b) (hsz : pm_sz H = lo + 12) (kb : pm_kd H b = 33) (lb : pm_ln H b = n) (n4 : n ≤ 40960) (hB : ∀ i, i < n → pm_I H b i &&& 255 = Int32.ofNat (B i)) (hB2 : ∀ i, B i < 256) (r17 : pm_R H 19 17 = some me) (kme : pm_kd H me = 32) (lme : pm_ln H me = 20481) (r18 : pm_R H 19 18 = some sh) (ksh : pm_kd H sh = 34) (lsh : pm_ln H sh = 34) (hlo : 19 < lo ∧ me < lo ∧ sh < lo ∧ b < lo ∧ mm < lo) (b9 : b ≠ 19) (m9 : me ≠ 19) (mb : me ≠ b) (m7 : me ≠ mm) (mm9 : mm ≠ 19) : clS (hBeg H mm n) n b mm me sh lo 0 false B M0 := by
  obtain ⟨pi, pl, ⟨q0, q1, q2, q3, q4, q5, q6, q7, q8, q9, q10, q11, q12⟩, ⟨s1, s2, s3⟩, z1, z2, z3, z4, z5, z6, z7, z8, z9, z10, -⟩ := P
  obtain ⟨h1, eh⟩ : ∃ z, z = hBeg H mm n := ⟨_, rfl⟩
  rw [← eh]
  have kk : pm_kd h1 = pm_kd H := by rw [eh]; rfl
  have ll : pm_ln h1 = pm_ln H := by rw [eh]; rfl
  have ss : pm_sz h1 = lo + 12 := by rw [eh]; exact hsz
  have LL : pm_L h1 = pm_L H := by rw [eh]; rfl
  have RR : ∀ x j, x ≠ 19 → pm_R h1 x j = pm_R H x j := fun x j hx => by rw [eh]; show pm_R (pm_setR H 19 0 (some mm)) x j = _; rw [ev_RR, if_neg hx]
  have R9 : ∀ j, j ≠ 0 → pm_R h1 19 j = pm_R H 19 j := fun j hj => by rw [eh]; show pm_R (pm_setR H 19 0 (some mm)) 19 j = _; rw [ev_RR, if_pos rfl, if_neg hj]
  have R0 : pm_R h1 19 0 = some mm := by rw [eh]; show pm_R (pm_setR H 19 0 (some mm)) 19 0 = _; rw [ev_RR, if_pos rfl, if_pos rfl]
  have II : ∀ x, x ≠ 19 → pm_I h1 x = pm_I H x := fun x hx => by
    funext y
    rw [eh]
    unfold hBeg
    rw [ev_II, if_neg hx, ev_II, if_neg hx, ev_II, if_neg hx, ev_II, if_neg hx, ev_II, if_neg hx, ev_IR]
  have I2 : pm_I h1 19 2 = Int32.ofNat n := by
    rw [eh]; unfold hBeg
    rw [ev_II, if_pos rfl, if_neg (by decide), ev_II, if_pos rfl, if_neg (by decide), ev_II, if_pos rfl, if_neg (by decide), ev_II, if_pos rfl, if_neg (by decide), ev_II, if_pos rfl, if_pos rfl]
  have I16 : pm_I h1 19 16 = 0 := by
    rw [eh]; unfold hBeg
    rw [ev_II, if_pos rfl, if_neg (by decide), ev_II, if_pos rfl, if_neg (by decide), ev_II, if_pos rfl, if_neg (by decide), ev_II, if_pos rfl, if_pos rfl]
  have I5 : pm_I h1 19 5 = -1 := by
    rw [eh]; unfold hBeg
    rw [ev_II, if_pos rfl, if_neg (by decide), ev_II, if_pos rfl, if_neg (by decide), ev_II, if_pos rfl, if_pos rfl]
  have I12 : pm_I h1 19 12 = 0 := by
    rw [eh]; unfold hBeg
    rw [ev_II, if_pos rfl, if_neg (by decide), ev_II, if_pos rfl, if_pos rfl]
  have I10 : pm_I h1 19 10 = -1 := by
    rw [eh]; unfold hBeg
    rw [ev_II, if_pos rfl, if_pos rfl]
  have L13 : pm_L h1 mm 13 = -1 := by rw [LL, pl, if_neg (by decide), if_pos rfl]
  have L14 : pm_L h1 mm 14 = -1 := by rw [LL, pl, if_pos rfl]
  have Z : ∀ {x k}, pe_Z H x k 0 → pm_kd h1 x = k ∧ pm_ln h1 x = 0 := fun z => ⟨by rw [kk]; exact z.1, by rw [ll]; exact z.2.1⟩
  have AR : ∀ {α : Type} (Q : pm_H → Nat → Nat → α → Prop) (k w j x : Nat), pm_R H mm j = some x → lo + 1 ≤ x → x < lo + 12 → pe_Z H x k 0 → cAr Q k w j h1 mm (lo + 1) (pm_sz h1) [] := fun Q k w j x r x1 x2 z => ⟨x, (RR mm j mm9).trans r, x1, by omega, (Z z).1, by rw [(Z z).2, List.length_nil, Nat.zero_mul], Nat.zero_le _, fun i v e => by cases e⟩
  refine ⟨⟨fun _ => ⟨lo + 1, (RR mm 2 mm9).trans q2, Nat.le_refl _, by omega, (Z z1).1, (Z z1).2, Nat.zero_le _, fun i v e => by cases e⟩, fun _ => AR _ _ _ _ _ q3 (by omega) (by omega) z2, fun _ => AR _ _ _ _ _ q4 (by omega) (by omega) z3, fun _ => AR _ _ _ _ _ q5 (by omega) (by omega) z4, fun _ => AR _ _ _ _ _ q6 (by omega) (by omega) z5, fun _ => AR _ _ _ _ _ q7 (by omega) (by omega) z6, fun _ => AR _ _ _ _ _ q8 (by omega) (by omega) z7, fun _ => AR _ _ _ _ _ q9 (by omega) (by omega) z8, fun _ => AR _ _ _ _ _ q10 (by omega) (by omega) z9, fun _ => AR _ _ _ _ _ q11 (by omega) (by omega) z10, L13, L14, (RR mm 1 mm9).trans q1, by omega, by rw [kk]; exact s1, by rw [ll]; exact s2, fun i i1 i2 => by rw [II lo (by omega), s3, if_pos i2]; rfl⟩, ?_, ?_, I10, I12, I5⟩
  · refine ⟨⟨by rw [kk]; exact K9, R0, by rw [kk]; exact km, (RR mm 0 mm9).trans q0, by rw [kk]; exact kb, by rw [ll]; exact lb, n4, b9, fun i hi => by rw [II b b9]; exact hB i hi, hB2⟩, ⟨(R9 17 (by decide)).trans r17, by rw [kk]; exact kme, by rw [ll]; exact lme, m9, mb, m7⟩, I2, Nat.le_refl _, by rw [I16]; exact propext ⟨fun _ => rfl, fun _ => rfl⟩, by rw [L14]; exact propext ⟨fun z => absurd z (by decide), fun z => by cases z⟩⟩
  · refine ⟨⟨⟨by rw [kk]; exact K9, R0, by rw [kk]; exact km, (RR mm 0 mm9).trans q0, by rw [kk]; exact kb⟩, (R9 17 (by decide)).trans r17, by rw [kk]; exact kme, by rw [ll]; exact lme⟩, ⟨(R9 18 (by decide)).trans r18, by rw [kk]; exact ksh, by rw [ll]; exact lsh⟩, by omega, ⟨lo, (RR mm 1 mm9).trans q1, by rw [kk]; exact s1, by rw [ll]; exact s2, by omega⟩, ⟨lo + 1, (RR mm 2 mm9).trans q2, (Z z1).1, by rw [(Z z1).2]; decide, by omega⟩, fun j j1 j2 => ?_, fun j j1 j2 => ?_⟩
    · rcases (show j = 3 ∨ j = 4 ∨ j = 5 ∨ j = 6 ∨ j = 7 by omega) with rfl | rfl | rfl | rfl | rfl
      · exact ⟨_, (RR mm 3 mm9).trans q3, (Z z2).1, by rw [(Z z2).2]; decide, by omega⟩
      · exact ⟨_, (RR mm 4 mm9).trans q4, (Z z3).1, by rw [(Z z3).2]; decide, by omega⟩
      · exact ⟨_, (RR mm 5 mm9).trans q5, (Z z4).1, by rw [(Z z4).2]; decide, by omega⟩
      · exact ⟨_, (RR mm 6 mm9).trans q6, (Z z5).1, by rw [(Z z5).2]; decide, by omega⟩
      · exact ⟨_, (RR mm 7 mm9).trans q7, (Z z6).1, by rw [(Z z6).2]; decide, by omega⟩
    · rcases (show j = 8 ∨ j = 9 ∨ j = 10 ∨ j = 11 by omega) with rfl | rfl | rfl | rfl
      · exact ⟨_, (RR mm 8 mm9).trans q8, (Z z7).1, by rw [(Z z7).2]; decide, by omega⟩
      · exact ⟨_, (RR mm 9 mm9).trans q9, (Z z8).1, by rw [(Z z8).2]; decide, by omega⟩
      · exact ⟨_, (RR mm 10 mm9).trans q10, (Z z9).1, by rw [(Z z9).2]; decide, by omega⟩
      · exact ⟨_, (RR mm 11 mm9).trans q11, (Z z10).1, by rw [(Z z10).2]; decide, by omega⟩
