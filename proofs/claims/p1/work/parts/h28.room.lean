/-! what a new Plan adds to the room -/
theorem pu_X14 {h h' : pm_H} {a : Nat} (K : pe_K h h' a) (hs : pm_sz h' = pm_sz h + 39) (P : pj_X14 h' a (pm_sz h)) : pm_us h' = pm_us h + 4429 := by
  rw [pu_add K hs]
  obtain ⟨_, _, _, z0, z1, z2, z3, z4, z5, z6, z7, z8, z9, z10, z11, z12, z13, z14, z15, z16, z17, z18, z19, z20, z21, z22, z23, z24, z25, z26, z27, z28, z29, z30, z31, z32, z33, z34, z35, z36, z37, z38⟩ := P
  have e0 : pu_s h' (pm_sz h + 0) = 13 := pu_Z z0
  have e1 : pu_s h' (pm_sz h + 1) = 64 := pu_Z z1
  have e2 : pu_s h' (pm_sz h + 2) = 64 := pu_Z z2
  have e3 : pu_s h' (pm_sz h + 3) = 2048 := pu_Z z3
  have e4 : pu_s h' (pm_sz h + 4) = 64 := pu_Z z4
  have e5 : pu_s h' (pm_sz h + 5) = 64 := pu_Z z5
  have e6 : pu_s h' (pm_sz h + 6) = 64 := pu_Z z6
  have e7 : pu_s h' (pm_sz h + 7) = 64 := pu_Z z7
  have e8 : pu_s h' (pm_sz h + 8) = 64 := pu_Z z8
  have e9 : pu_s h' (pm_sz h + 9) = 64 := pu_Z z9
  have e10 : pu_s h' (pm_sz h + 10) = 64 := pu_Z z10
  have e11 : pu_s h' (pm_sz h + 11) = 64 := pu_Z z11
  have e12 : pu_s h' (pm_sz h + 12) = 64 := pu_Z z12
  have e13 : pu_s h' (pm_sz h + 13) = 64 := pu_Z z13
  have e14 : pu_s h' (pm_sz h + 14) = 64 := pu_Z z14
  have e15 : pu_s h' (pm_sz h + 15) = 64 := pu_Z z15
  have e16 : pu_s h' (pm_sz h + 16) = 64 := pu_Z z16
  have e17 : pu_s h' (pm_sz h + 17) = 64 := pu_Z z17
  have e18 : pu_s h' (pm_sz h + 18) = 64 := pu_Z z18
  have e19 : pu_s h' (pm_sz h + 19) = 64 := pu_Z z19
  have e20 : pu_s h' (pm_sz h + 20) = 64 := pu_Z z20
  have e21 : pu_s h' (pm_sz h + 21) = 64 := pu_Z z21
  have e22 : pu_s h' (pm_sz h + 22) = 64 := pu_Z z22
  have e23 : pu_s h' (pm_sz h + 23) = 64 := pu_Z z23
  have e24 : pu_s h' (pm_sz h + 24) = 64 := pu_Z z24
  have e25 : pu_s h' (pm_sz h + 25) = 64 := pu_Z z25
  have e26 : pu_s h' (pm_sz h + 26) = 64 := pu_Z z26
  have e27 : pu_s h' (pm_sz h + 27) = 64 := pu_Z z27
  have e28 : pu_s h' (pm_sz h + 28) = 64 := pu_Z z28
  have e29 : pu_s h' (pm_sz h + 29) = 64 := pu_Z z29
  have e30 : pu_s h' (pm_sz h + 30) = 64 := pu_Z z30
  have e31 : pu_s h' (pm_sz h + 31) = 64 := pu_Z z31
  have e32 : pu_s h' (pm_sz h + 32) = 64 := pu_Z z32
  have e33 : pu_s h' (pm_sz h + 33) = 64 := pu_Z z33
  have e34 : pu_s h' (pm_sz h + 34) = 64 := pu_Z z34
  have e35 : pu_s h' (pm_sz h + 35) = 64 := pu_Z z35
  have e36 : pu_s h' (pm_sz h + 36) = 64 := pu_Z z36
  have e37 : pu_s h' (pm_sz h + 37) = 64 := pu_Z z37
  have e38 : pu_s h' (pm_sz h + 38) = 64 := pu_Z z38
  have r : List.range 39 = [0, 1, 2, 3, 4, 5, 6, 7, 8, 9, 10, 11, 12, 13, 14, 15, 16, 17, 18, 19, 20, 21, 22, 23, 24, 25, 26, 27, 28, 29, 30, 31, 32, 33, 34, 35, 36, 37, 38] := rfl
  rw [r]
  simp only [List.map_cons, List.map_nil, List.sum_cons, List.sum_nil, e0, e1, e2, e3, e4, e5, e6, e7, e8, e9, e10, e11, e12, e13, e14, e15, e16, e17, e18, e19, e20, e21, e22, e23, e24, e25, e26, e27, e28, e29, e30, e31, e32, e33, e34, e35, e36, e37, e38, Nat.reduceAdd]
