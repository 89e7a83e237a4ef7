/-! THE PLAN'S CONSTRUCTOR -/
/-- a new Plan at a, made from the cell s on -/
def pj_X14 (h : pm_H) (a s : Nat) : Prop := (∀ y, pm_I h a y = if y = 3 then (-1) else 0) ∧ (∀ y, pm_L h a y = if y = 42 then (-1) else if y = 33 then (-1) else 0) ∧ (∀ y, pm_R h a y = if y = 55 then some (s + 38) else if y = 54 then some (s + 37) else if y = 53 then some (s + 36) else if y = 52 then some (s + 35) else if y = 51 then some (s + 34) else if y = 49 then some (s + 33) else if y = 48 then some (s + 32) else if y = 47 then some (s + 31) else if y = 46 then some (s + 30) else if y = 45 then some (s + 29) else if y = 41 then some (s + 28) else if y = 40 then some (s + 27) else if y = 39 then some (s + 26) else if y = 38 then some (s + 25) else if y = 37 then some (s + 24) else if y = 36 then some (s + 23) else if y = 35 then some (s + 22) else if y = 32 then some (s + 21) else if y = 31 then some (s + 20) else if y = 30 then some (s + 19) else if y = 29 then some (s + 18) else if y = 27 then some (s + 17) else if y = 26 then some (s + 16) else if y = 25 then some (s + 15) else if y = 23 then some (s + 14) else if y = 22 then some (s + 13) else if y = 20 then some (s + 12) else if y = 19 then some (s + 11) else if y = 18 then some (s + 10) else if y = 16 then some (s + 9) else if y = 13 then some (s + 8) else if y = 12 then some (s + 7) else if y = 11 then some (s + 6) else if y = 10 then some (s + 5) else if y = 9 then some (s + 4) else if y = 7 then some (s + 3) else if y = 6 then some (s + 2) else if y = 5 then some (s + 1) else if y = 2 then some (s) else none) ∧ pe_Z h (s) 34 13 ∧ pe_Z h (s + 1) 34 64 ∧ pe_Z h (s + 2) 34 64 ∧ pe_Z h (s + 3) 34 2048 ∧ pe_Z h (s + 4) 34 64 ∧ pe_Z h (s + 5) 35 64 ∧ pe_Z h (s + 6) 35 64 ∧ pe_Z h (s + 7) 35 64 ∧ pe_Z h (s + 8) 32 64 ∧ pe_Z h (s + 9) 35 64 ∧ pe_Z h (s + 10) 34 64 ∧ pe_Z h (s + 11) 35 64 ∧ pe_Z h (s + 12) 35 64 ∧ pe_Z h (s + 13) 35 64 ∧ pe_Z h (s + 14) 35 64 ∧ pe_Z h (s + 15) 34 64 ∧ pe_Z h (s + 16) 32 64 ∧ pe_Z h (s + 17) 34 64 ∧ pe_Z h (s + 18) 34 64 ∧ pe_Z h (s + 19) 34 64 ∧ pe_Z h (s + 20) 34 64 ∧ pe_Z h (s + 21) 35 64 ∧ pe_Z h (s + 22) 34 64 ∧ pe_Z h (s + 23) 35 64 ∧ pe_Z h (s + 24) 34 64 ∧ pe_Z h (s + 25) 34 64 ∧ pe_Z h (s + 26) 32 64 ∧ pe_Z h (s + 27) 34 64 ∧ pe_Z h (s + 28) 34 64 ∧ pe_Z h (s + 29) 32 64 ∧ pe_Z h (s + 30) 35 64 ∧ pe_Z h (s + 31) 34 64 ∧ pe_Z h (s + 32) 34 64 ∧ pe_Z h (s + 33) 34 64 ∧ pe_Z h (s + 34) 34 64 ∧ pe_Z h (s + 35) 35 64 ∧ pe_Z h (s + 36) 34 64 ∧ pe_Z h (s + 37) 34 64 ∧ pe_Z h (s + 38) 34 64
set_option maxHeartbeats 8000000 in
theorem cX14 {h : pm_H} {a s : Nat} (hz : pe_Z h a 14 0) (hs : pm_sz h = s) (ha : a < s) : ∃ h', fX14_init h a = some h' ∧ pm_sz h' = s + 39 ∧ pe_K h h' a ∧ pj_X14 h' a s := by
  have hk := hz.1
  have N0 := pe_new h 34 13 a (by omega)
  have T0 : fX14_init h a = fX14_init_b9 (pm_new h 34 13) a (pm_sz h) a := rfl
  have s0 : pm_sz (pm_new h 34 13) = s + 1 := by rw [ev_szN, hs]
  have k0 : pm_kd (pm_new h 34 13) a = 14 := N0.1.2.1.trans hk
  have a0 := N0.2.2 a (by omega)
  have i0 : ∀ y, pm_I (pm_new h 34 13) a y = 0 := fun y => (a0.2.2.1 y).trans (hz.2.2.1 y)
  have l0 : ∀ y, pm_L (pm_new h 34 13) a y = 0 := fun y => (a0.2.2.2.1 y).trans (hz.2.2.2.1 y)
  have r0 : ∀ y, pm_R (pm_new h 34 13) a y = none := fun y => (a0.2.2.2.2 y).trans (hz.2.2.2.2 y)
  have K0 : pe_K h (pm_new h 34 13) a := N0.1
  have z0_0 := N0.2.1
  rw [hs] at T0 z0_0
  generalize pm_new h 34 13 = g0 at *
  obtain ⟨g1, e1, s1, K1, i1, l1, r1, z1_0, z1_1, z1_2, z1_3, z1_4, z1_5, z1_6, z1_7, z1_8, z1_9⟩ := cX14_0 (g := g0) (a := a) (s0 := s) k0 (by omega)
  have k1 : pm_kd g1 a = 14 := K1.2.1.trans k0
  simp only [s0, Nat.add_assoc, Nat.reduceAdd] at e1 s1 r1 z1_0 z1_1 z1_2 z1_3 z1_4 z1_5 z1_6 z1_7 z1_8 z1_9
  obtain ⟨g2, e2, s2, K2, i2, l2, r2, z2_0, z2_1, z2_2, z2_3, z2_4, z2_5, z2_6, z2_7, z2_8, z2_9⟩ := cX14_1 (g := g1) (a := a) (s0 := s + 10) k1 (by omega)
  have k2 : pm_kd g2 a = 14 := K2.2.1.trans k1
  simp only [s1, Nat.add_assoc, Nat.reduceAdd] at e2 s2 r2 z2_0 z2_1 z2_2 z2_3 z2_4 z2_5 z2_6 z2_7 z2_8 z2_9
  obtain ⟨g3, e3, s3, K3, i3, l3, r3, z3_0, z3_1, z3_2, z3_3, z3_4, z3_5, z3_6, z3_7, z3_8, z3_9⟩ := cX14_2 (g := g2) (a := a) (s0 := s + 20) k2 (by omega)
  have k3 : pm_kd g3 a = 14 := K3.2.1.trans k2
  simp only [s2, Nat.add_assoc, Nat.reduceAdd] at e3 s3 r3 z3_0 z3_1 z3_2 z3_3 z3_4 z3_5 z3_6 z3_7 z3_8 z3_9
  obtain ⟨g4, e4, s4, K4, i4, l4, r4, z4_0, z4_1, z4_2, z4_3, z4_4, z4_5, z4_6, z4_7⟩ := cX14_3 (g := g3) (a := a) (s0 := s + 30) k3 (by omega)
  have k4 : pm_kd g4 a = 14 := K4.2.1.trans k3
  simp only [s3, Nat.add_assoc, Nat.reduceAdd] at s4 r4 z4_0 z4_1 z4_2 z4_3 z4_4 z4_5 z4_6 z4_7
  have D4 : ∀ x, x ≠ a → pe_E g4 g4 x := fun x _ => pe_E_r _ x
  have D3 : ∀ x, x < pm_sz g3 → x ≠ a → pe_E g3 g4 x := fun x hx e => pe_E_t (K4.2.2.2 x hx e) (D4 x  e)
  have D2 : ∀ x, x < pm_sz g2 → x ≠ a → pe_E g2 g4 x := fun x hx e => pe_E_t (K3.2.2.2 x hx e) (D3 x (by omega) e)
  have D1 : ∀ x, x < pm_sz g1 → x ≠ a → pe_E g1 g4 x := fun x hx e => pe_E_t (K2.2.2.2 x hx e) (D2 x (by omega) e)
  have D0 : ∀ x, x < pm_sz g0 → x ≠ a → pe_E g0 g4 x := fun x hx e => pe_E_t (K1.2.2.2 x hx e) (D1 x (by omega) e)
  refine ⟨g4, by rw [T0, e1, e2, e3, e4], by omega, ⟨by omega, ?_, ?_, fun x hx e => pe_E_t (K0.2.2.2 x hx e) (D0 x (by omega) e)⟩, fun y => ?_, fun y => ?_, fun y => ?_, pe_E_Z (D0 _ (by omega) (by omega)) z0_0, pe_E_Z (D1 _ (by omega) (by omega)) z1_0, pe_E_Z (D1 _ (by omega) (by omega)) z1_1, pe_E_Z (D1 _ (by omega) (by omega)) z1_2, pe_E_Z (D1 _ (by omega) (by omega)) z1_3, pe_E_Z (D1 _ (by omega) (by omega)) z1_4, pe_E_Z (D1 _ (by omega) (by omega)) z1_5, pe_E_Z (D1 _ (by omega) (by omega)) z1_6, pe_E_Z (D1 _ (by omega) (by omega)) z1_7, pe_E_Z (D1 _ (by omega) (by omega)) z1_8, pe_E_Z (D1 _ (by omega) (by omega)) z1_9, pe_E_Z (D2 _ (by omega) (by omega)) z2_0, pe_E_Z (D2 _ (by omega) (by omega)) z2_1, pe_E_Z (D2 _ (by omega) (by omega)) z2_2, pe_E_Z (D2 _ (by omega) (by omega)) z2_3, pe_E_Z (D2 _ (by omega) (by omega)) z2_4, pe_E_Z (D2 _ (by omega) (by omega)) z2_5, pe_E_Z (D2 _ (by omega) (by omega)) z2_6, pe_E_Z (D2 _ (by omega) (by omega)) z2_7, pe_E_Z (D2 _ (by omega) (by omega)) z2_8, pe_E_Z (D2 _ (by omega) (by omega)) z2_9, pe_E_Z (D3 _ (by omega) (by omega)) z3_0, pe_E_Z (D3 _ (by omega) (by omega)) z3_1, pe_E_Z (D3 _ (by omega) (by omega)) z3_2, pe_E_Z (D3 _ (by omega) (by omega)) z3_3, pe_E_Z (D3 _ (by omega) (by omega)) z3_4, pe_E_Z (D3 _ (by omega) (by omega)) z3_5, pe_E_Z (D3 _ (by omega) (by omega)) z3_6, pe_E_Z (D3 _ (by omega) (by omega)) z3_7, pe_E_Z (D3 _ (by omega) (by omega)) z3_8, pe_E_Z (D3 _ (by omega) (by omega)) z3_9, pe_E_Z (D4 _ (by omega)) z4_0, pe_E_Z (D4 _ (by omega)) z4_1, pe_E_Z (D4 _ (by omega)) z4_2, pe_E_Z (D4 _ (by omega)) z4_3, pe_E_Z (D4 _ (by omega)) z4_4, pe_E_Z (D4 _ (by omega)) z4_5, pe_E_Z (D4 _ (by omega)) z4_6, pe_E_Z (D4 _ (by omega)) z4_7⟩
  · rw [k4, hk]
  · rw [K4.2.2.1, K3.2.2.1, K2.2.2.1, K1.2.2.1, K0.2.2.1]
  · rw [i4 y, i3 y, i2 y, i1 y, i0 y]
  · rw [l4 y, l3 y, l2 y, l1 y, l0 y]
  · rw [r4 y, r3 y, r2 y, r1 y, r0 y]
