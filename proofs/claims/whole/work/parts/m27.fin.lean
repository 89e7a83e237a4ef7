/-! THE CLASS CHECKS: what a checked body keeps: its slots, its operands, where its references are -/
section XFIN
variable {r : pm_H} {n b mm lo hi bo co dd cap : Nat} {B : Nat → Nat} {M : tMd}
theorem x_bfin {L : List (Nat × Nat)} {sl mo : Nat} (C : xC r n b mm lo hi bo co dd cap B M) (s27 : 27 < pm_sz r) (sb : bo < pm_sz r) (b27 : bo ≠ 27 ∧ bo ≠ 22 ∧ bo ≠ 19) (i12 : pm_I r 22 12 = Int32.ofNat sl) (i8 : pm_I r 22 8 = Int32.ofNat mo) (R : rR r L) (hL : 2 * L.length ≤ 2000) : ∃ r', pm_lim sX1_body (.inr (.inr (.inl (22, r)))) = some r' ∧ ∃ rb h', rb = pm_setI (pm_setI r bo 3 (Int32.ofNat sl)) bo 4 (Int32.ofNat mo) ∧ nA rb h' 34 (2 * L.length) ∧ r' = pm_setR h' bo 5 (some (pm_sz r)) ∧ ∀ i q, L[i]? = some q → pm_I r' (pm_sz r) (2 * i) = Int32.ofNat q.1 ∧ pm_I r' (pm_sz r) (2 * i + 1) = Int32.ofNat q.2 := by
  have u := C.2.2.1.2.2.2.2.2.2.2.2.2
  obtain ⟨m1, m2, m3⟩ := C.2.2.1.2.2.2.2.2.1
  obtain ⟨ra, ea⟩ : ∃ z, z = pm_setI r bo 3 (Int32.ofNat sl) := ⟨_, rfl⟩
  obtain ⟨rb, eb⟩ : ∃ z, z = pm_setI ra bo 4 (Int32.ofNat mo) := ⟨_, rfl⟩
  have ka : ∀ x y, x ≠ bo → pm_I ra x y = pm_I r x y := fun x y h => by rw [ea, ev_II, if_neg h]
  have kb : ∀ x y, x ≠ bo → pm_I rb x y = pm_I r x y := fun x y h => by rw [eb, ev_II, if_neg h]; exact ka x y h
  have zb : pm_sz rb = pm_sz r := by rw [eb, ea]; rfl
  have dkb : pm_kd rb = pm_kd r := by rw [eb, ea]; rfl
  have lnb : pm_ln rb = pm_ln r := by rw [eb, ea]; rfl
  have rrb : pm_R rb = pm_R r := by rw [eb, ea]; rfl
  have e0 : rc rb (pm_I rb 19 1) (pm_I rb 19 3) (pm_I rb 19 4) = rb := rc_eta rb
  obtain ⟨h', g1, g2, g3⟩ := cpy3 (h := rb) (a := pm_I rb 19 1) (f := pm_I rb 19 3) (q := pm_I rb 19 4) (x0 := 27) (m := 2 * L.length) (by rw [zb]; omega) (by rw [dkb]; exact m2) (by decide) (by rw [zb]; exact s27) (by rw [lnb, m3]; decide) (by omega)
  have k19 := (g2.2.2.2 19 (by rw [zb]; omega)).2.2.1
  have e1 : rc h' (pm_I rb 19 1) (pm_I rb 19 3) (pm_I rb 19 4) = h' := by rw [← k19]; exact rc_eta h'
  rw [e0, e1] at g1
  have Rb1 : pm_R rb 22 13 = some 27 := by rw [rrb]; exact m1
  have i14 : pm_I rb 22 14 = Int32.ofNat (2 * L.length) := (kb 22 14 (by omega)).trans R.1
  have kdb : pm_kd h' bo = 0 := by rw [(g2.2.2.2 bo (by rw [zb]; omega)).1, dkb]; exact u.2.1
  refine ⟨pm_setR h' bo 5 (some (pm_sz rb)), ?_, rb, h', by rw [eb, ea], g2, by rw [zb], fun i q hq => ?_⟩
  · refine k_w (aX1_body_2 ..) ?_
    unfold tX1_body_208
    refine k_t C.2.2.1.1.1 (k_b u.1 (k_l (k_t u.2.1 ?_)))
    rw [i12, ← ea]
    refine k_l ?_
    rw [show pm_I ra 22 8 = Int32.ofNat mo by rw [ka 22 8 (by omega)]; exact i8, ← eb]
    refine k_b Rb1 ?_
    rw [i14]
    refine k_b g1 (k_n (k_w (aX1_body_5 ..) ?_))
    unfold tX1_body_245
    exact k_t kdb rfl
  · have il := some_lt hq
    obtain ⟨z1, z2⟩ := R.2 i q hq
    have l27 : pm_ln rb 27 = 2000 := by rw [lnb]; exact m3
    rw [← zb, ev_IR]
    refine ⟨?_, ?_⟩
    · rw [g3 (2 * i) (by omega), if_pos (by omega), kb 27 _ (by omega)]
      exact z1
    · rw [ev_IR, g3 (2 * i + 1) (by omega), if_pos (by omega), kb 27 _ (by omega)]
      exact z2
end XFIN
