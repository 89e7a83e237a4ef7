/-! THE REFERENCE: module(): the Plan, its engine between calls -/
theorem X14_mP {h : pm_H} {m : Nat} (P : pj_X14 h m (m + 1)) : mP h m := by
  obtain ⟨-, -, R, z1, z2, z3, z4, z5, z6, z7, z8, z9, z10, z11, z12, z13, z14, z15, z16, z17, z18, z19, z20, z21, z22, z23, z24, z25, z26, z27, z28, z29, z30, z31, z32, z33, z34, z35, z36, z37, z38, z39⟩ := P
  refine ⟨fun y hy => ?_, fun j h1 h2 => ?_⟩
  · rw [R y]
    unfold pRf at hy ⊢
    split at hy
    all_goals first | (exact absurd rfl hy) | (simp only [Nat.add_assoc, Nat.reduceAdd, Nat.reduceEqDiff, if_true, if_false, reduceIte])
  · rcases (show j = 1 ∨ j = 2 ∨ j = 3 ∨ j = 4 ∨ j = 5 ∨ j = 6 ∨ j = 7 ∨ j = 8 ∨ j = 9 ∨ j = 10 ∨ j = 11 ∨ j = 12 ∨ j = 13 ∨ j = 14 ∨ j = 15 ∨ j = 16 ∨ j = 17 ∨ j = 18 ∨ j = 19 ∨ j = 20 ∨ j = 21 ∨ j = 22 ∨ j = 23 ∨ j = 24 ∨ j = 25 ∨ j = 26 ∨ j = 27 ∨ j = 28 ∨ j = 29 ∨ j = 30 ∨ j = 31 ∨ j = 32 ∨ j = 33 ∨ j = 34 ∨ j = 35 ∨ j = 36 ∨ j = 37 ∨ j = 38 ∨ j = 39 by omega) with rfl | rfl | rfl | rfl | rfl | rfl | rfl | rfl | rfl | rfl | rfl | rfl | rfl | rfl | rfl | rfl | rfl | rfl | rfl | rfl | rfl | rfl | rfl | rfl | rfl | rfl | rfl | rfl | rfl | rfl | rfl | rfl | rfl | rfl | rfl | rfl | rfl | rfl | rfl
    · exact ⟨z1.1, z1.2.1⟩
    · exact ⟨z2.1, z2.2.1⟩
    · exact ⟨z3.1, z3.2.1⟩
    · exact ⟨z4.1, z4.2.1⟩
    · exact ⟨z5.1, z5.2.1⟩
    · exact ⟨z6.1, z6.2.1⟩
    · exact ⟨z7.1, z7.2.1⟩
    · exact ⟨z8.1, z8.2.1⟩
    · exact ⟨z9.1, z9.2.1⟩
    · exact ⟨z10.1, z10.2.1⟩
    · exact ⟨z11.1, z11.2.1⟩
    · exact ⟨z12.1, z12.2.1⟩
    · exact ⟨z13.1, z13.2.1⟩
    · exact ⟨z14.1, z14.2.1⟩
    · exact ⟨z15.1, z15.2.1⟩
    · exact ⟨z16.1, z16.2.1⟩
    · exact ⟨z17.1, z17.2.1⟩
    · exact ⟨z18.1, z18.2.1⟩
    · exact ⟨z19.1, z19.2.1⟩
    · exact ⟨z20.1, z20.2.1⟩
    · exact ⟨z21.1, z21.2.1⟩
    · exact ⟨z22.1, z22.2.1⟩
    · exact ⟨z23.1, z23.2.1⟩
    · exact ⟨z24.1, z24.2.1⟩
    · exact ⟨z25.1, z25.2.1⟩
    · exact ⟨z26.1, z26.2.1⟩
    · exact ⟨z27.1, z27.2.1⟩
    · exact ⟨z28.1, z28.2.1⟩
    · exact ⟨z29.1, z29.2.1⟩
    · exact ⟨z30.1, z30.2.1⟩
    · exact ⟨z31.1, z31.2.1⟩
    · exact ⟨z32.1, z32.2.1⟩
    · exact ⟨z33.1, z33.2.1⟩
    · exact ⟨z34.1, z34.2.1⟩
    · exact ⟨z35.1, z35.2.1⟩
    · exact ⟨z36.1, z36.2.1⟩
    · exact ⟨z37.1, z37.2.1⟩
    · exact ⟨z38.1, z38.2.1⟩
    · exact ⟨z39.1, z39.2.1⟩
