/-! NUMBERS: the floating operators as both do them -/
theorem jl_x1 {k a : Nat} (hk : k ≤ 63) (h : a < 2 ^ k) : Int64.ofNat a ^^^ Int64.ofNat (2 ^ k) = Int64.ofNat (2 ^ k + a) := by
  have pk : 2 ^ k ≤ 2 ^ 63 := Nat.pow_le_pow_right (by decide) hk
  have z := jl_top0 hk h
  have o := jl_o (k := k) (a := a) (c := 1) h (by omega)
  rw [Nat.one_mul] at o
  have e : Int64.ofNat a ^^^ Int64.ofNat (2 ^ k) = Int64.ofNat a ||| Int64.ofNat (2 ^ k) := by
    apply Int64.toBitVec_inj.mp
    rw [Int64.toBitVec_xor, Int64.toBitVec_or]
    exact bv_xo (by rw [← Int64.toBitVec_and, z]; rfl)
  rw [e, jl_oc, o]
/-- since h only the two floating values and the trap of the reference were written -/
def nF (h h' : pm_H) : Prop := pm_sz h' = pm_sz h ∧ pm_kd h' = pm_kd h ∧ pm_ln h' = pm_ln h ∧ pm_R h' = pm_R h ∧ (∀ x y, x ≠ 605 → x ≠ 606 → (x = 592 → y ≠ 33) → pm_I h' x y = pm_I h x y) ∧ ∀ x y, x ≠ 605 → x ≠ 606 → pm_L h' x y = pm_L h x y
theorem nF_r (h : pm_H) : nF h h := ⟨rfl, rfl, rfl, rfl, fun _ _ _ _ _ => rfl, fun _ _ _ _ => rfl⟩
theorem nF_t {a b c : pm_H} (p : nF a b) (q : nF b c) : nF a c := ⟨q.1.trans p.1, q.2.1.trans p.2.1, q.2.2.1.trans p.2.2.1, q.2.2.2.1.trans p.2.2.2.1, fun x y h1 h2 h3 => (q.2.2.2.2.1 x y h1 h2 h3).trans (p.2.2.2.2.1 x y h1 h2 h3), fun x y h1 h2 => (q.2.2.2.2.2 x y h1 h2).trans (p.2.2.2.2.2 x y h1 h2)⟩
theorem nF_rv (h : pm_H) {a : Nat} (ha : a = 605 ∨ a = 606) (g : Bool) (so w : Nat) (p : Int) : nF h (rv h a g so w p) := ⟨rfl, rfl, rfl, rfl, fun x y h1 h2 _ => rv_In h y g so w p (by omega), fun x y h1 h2 => rv_Ln h y g so w p (by omega)⟩
theorem nF_I (h : pm_H) {a k : Nat} (v : Int32) (ha : a = 605 ∨ a = 606 ∨ (a = 592 ∧ k = 33)) : nF h (pm_setI h a k v) := by
  refine ⟨rfl, rfl, rfl, rfl, fun x y h1 h2 h3 => ?_, fun _ _ _ _ => rfl⟩
  rw [ev_II]
  by_cases e : x = a
  · rw [if_pos e, if_neg (by omega)]
  · rw [if_neg e]
/-- and the trap stayed -/
def nG (h h' : pm_H) : Prop := nF h h' ∧ pm_I h' 592 33 = pm_I h 592 33
theorem nG_r (h : pm_H) : nG h h := ⟨nF_r h, rfl⟩
theorem nG_rv (h : pm_H) {a : Nat} (ha : a = 605 ∨ a = 606) (g : Bool) (so w : Nat) (p : Int) : nG h (rv h a g so w p) := ⟨nF_rv h ha g so w p, rv_In h 33 g so w p (by omega)⟩
theorem nG_t {a b c : pm_H} (p : nG a b) (q : nG b c) : nG a c := ⟨nF_t p.1 q.1, q.2.trans p.2⟩
theorem nG_I (h : pm_H) {a k : Nat} (v : Int32) (ha : a = 605 ∨ a = 606) : nG h (pm_setI h a k v) := ⟨nF_I h v (by omega), by rw [ev_II, if_neg (by omega)]⟩
theorem nG_2 (h : pm_H) (g1 : Bool) (s1 w1 : Nat) (p1 : Int) (g2 : Bool) (s2 w2 : Nat) (p2 : Int) : nG h (rv (rv h 605 g1 s1 w1 p1) 606 g2 s2 w2 p2) := nG_t (nG_rv h (.inl rfl) _ _ _ _) (nG_rv _ (.inr rfl) _ _ _ _)
theorem ni_0_1 : ((0 : Int32) = 1) = False := eq_false (by decide)
theorem ni_0_2 : ((0 : Int32) = 2) = False := eq_false (by decide)
theorem ni_0_3 : ((0 : Int32) = 3) = False := eq_false (by decide)
theorem ni_0_4 : ((0 : Int32) = 4) = False := eq_false (by decide)
theorem ni_0_5 : ((0 : Int32) = 5) = False := eq_false (by decide)
theorem ni_0_6 : ((0 : Int32) = 6) = False := eq_false (by decide)
theorem ni_0_7 : ((0 : Int32) = 7) = False := eq_false (by decide)
theorem ni_0_8 : ((0 : Int32) = 8) = False := eq_false (by decide)
theorem ni_0_9 : ((0 : Int32) = 9) = False := eq_false (by decide)
theorem ni_0_10 : ((0 : Int32) = 10) = False := eq_false (by decide)
theorem ni_0_11 : ((0 : Int32) = 11) = False := eq_false (by decide)
theorem ni_0_12 : ((0 : Int32) = 12) = False := eq_false (by decide)
theorem ni_0_13 : ((0 : Int32) = 13) = False := eq_false (by decide)
theorem ni_0_14 : ((0 : Int32) = 14) = False := eq_false (by decide)
theorem ni_0_15 : ((0 : Int32) = 15) = False := eq_false (by decide)
theorem ni_0_16 : ((0 : Int32) = 16) = False := eq_false (by decide)
theorem ni_0_17 : ((0 : Int32) = 17) = False := eq_false (by decide)
theorem ni_1_0 : ((1 : Int32) = 0) = False := eq_false (by decide)
theorem ni_1_2 : ((1 : Int32) = 2) = False := eq_false (by decide)
theorem ni_1_3 : ((1 : Int32) = 3) = False := eq_false (by decide)
theorem ni_1_4 : ((1 : Int32) = 4) = False := eq_false (by decide)
theorem ni_1_5 : ((1 : Int32) = 5) = False := eq_false (by decide)
theorem ni_1_6 : ((1 : Int32) = 6) = False := eq_false (by decide)
theorem ni_1_7 : ((1 : Int32) = 7) = False := eq_false (by decide)
theorem ni_1_8 : ((1 : Int32) = 8) = False := eq_false (by decide)
theorem ni_1_9 : ((1 : Int32) = 9) = False := eq_false (by decide)
theorem ni_1_10 : ((1 : Int32) = 10) = False := eq_false (by decide)
theorem ni_1_11 : ((1 : Int32) = 11) = False := eq_false (by decide)
theorem ni_1_12 : ((1 : Int32) = 12) = False := eq_false (by decide)
theorem ni_1_13 : ((1 : Int32) = 13) = False := eq_false (by decide)
theorem ni_1_14 : ((1 : Int32) = 14) = False := eq_false (by decide)
theorem ni_1_15 : ((1 : Int32) = 15) = False := eq_false (by decide)
theorem ni_1_16 : ((1 : Int32) = 16) = False := eq_false (by decide)
theorem ni_1_17 : ((1 : Int32) = 17) = False := eq_false (by decide)
theorem ni_2_0 : ((2 : Int32) = 0) = False := eq_false (by decide)
theorem ni_2_1 : ((2 : Int32) = 1) = False := eq_false (by decide)
theorem ni_2_3 : ((2 : Int32) = 3) = False := eq_false (by decide)
theorem ni_2_4 : ((2 : Int32) = 4) = False := eq_false (by decide)
theorem ni_2_5 : ((2 : Int32) = 5) = False := eq_false (by decide)
theorem ni_2_6 : ((2 : Int32) = 6) = False := eq_false (by decide)
theorem ni_2_7 : ((2 : Int32) = 7) = False := eq_false (by decide)
theorem ni_2_8 : ((2 : Int32) = 8) = False := eq_false (by decide)
theorem ni_2_9 : ((2 : Int32) = 9) = False := eq_false (by decide)
theorem ni_2_10 : ((2 : Int32) = 10) = False := eq_false (by decide)
theorem ni_2_11 : ((2 : Int32) = 11) = False := eq_false (by decide)
theorem ni_2_12 : ((2 : Int32) = 12) = False := eq_false (by decide)
theorem ni_2_13 : ((2 : Int32) = 13) = False := eq_false (by decide)
theorem ni_2_14 : ((2 : Int32) = 14) = False := eq_false (by decide)
theorem ni_2_15 : ((2 : Int32) = 15) = False := eq_false (by decide)
theorem ni_2_16 : ((2 : Int32) = 16) = False := eq_false (by decide)
theorem ni_2_17 : ((2 : Int32) = 17) = False := eq_false (by decide)
theorem ni_3_0 : ((3 : Int32) = 0) = False := eq_false (by decide)
theorem ni_3_1 : ((3 : Int32) = 1) = False := eq_false (by decide)
theorem ni_3_2 : ((3 : Int32) = 2) = False := eq_false (by decide)
theorem ni_3_4 : ((3 : Int32) = 4) = False := eq_false (by decide)
theorem ni_3_5 : ((3 : Int32) = 5) = False := eq_false (by decide)
theorem ni_3_6 : ((3 : Int32) = 6) = False := eq_false (by decide)
theorem ni_3_7 : ((3 : Int32) = 7) = False := eq_false (by decide)
theorem ni_3_8 : ((3 : Int32) = 8) = False := eq_false (by decide)
theorem ni_3_9 : ((3 : Int32) = 9) = False := eq_false (by decide)
theorem ni_3_10 : ((3 : Int32) = 10) = False := eq_false (by decide)
theorem ni_3_11 : ((3 : Int32) = 11) = False := eq_false (by decide)
theorem ni_3_12 : ((3 : Int32) = 12) = False := eq_false (by decide)
theorem ni_3_13 : ((3 : Int32) = 13) = False := eq_false (by decide)
theorem ni_3_14 : ((3 : Int32) = 14) = False := eq_false (by decide)
theorem ni_3_15 : ((3 : Int32) = 15) = False := eq_false (by decide)
theorem ni_3_16 : ((3 : Int32) = 16) = False := eq_false (by decide)
theorem ni_3_17 : ((3 : Int32) = 17) = False := eq_false (by decide)
theorem ni_4_0 : ((4 : Int32) = 0) = False := eq_false (by decide)
theorem ni_4_1 : ((4 : Int32) = 1) = False := eq_false (by decide)
theorem ni_4_2 : ((4 : Int32) = 2) = False := eq_false (by decide)
theorem ni_4_3 : ((4 : Int32) = 3) = False := eq_false (by decide)
theorem ni_4_5 : ((4 : Int32) = 5) = False := eq_false (by decide)
theorem ni_4_6 : ((4 : Int32) = 6) = False := eq_false (by decide)
theorem ni_4_7 : ((4 : Int32) = 7) = False := eq_false (by decide)
theorem ni_4_8 : ((4 : Int32) = 8) = False := eq_false (by decide)
theorem ni_4_9 : ((4 : Int32) = 9) = False := eq_false (by decide)
theorem ni_4_10 : ((4 : Int32) = 10) = False := eq_false (by decide)
theorem ni_4_11 : ((4 : Int32) = 11) = False := eq_false (by decide)
theorem ni_4_12 : ((4 : Int32) = 12) = False := eq_false (by decide)
theorem ni_4_13 : ((4 : Int32) = 13) = False := eq_false (by decide)
theorem ni_4_14 : ((4 : Int32) = 14) = False := eq_false (by decide)
theorem ni_4_15 : ((4 : Int32) = 15) = False := eq_false (by decide)
theorem ni_4_16 : ((4 : Int32) = 16) = False := eq_false (by decide)
theorem ni_4_17 : ((4 : Int32) = 17) = False := eq_false (by decide)
theorem ni_5_0 : ((5 : Int32) = 0) = False := eq_false (by decide)
theorem ni_5_1 : ((5 : Int32) = 1) = False := eq_false (by decide)
theorem ni_5_2 : ((5 : Int32) = 2) = False := eq_false (by decide)
theorem ni_5_3 : ((5 : Int32) = 3) = False := eq_false (by decide)
theorem ni_5_4 : ((5 : Int32) = 4) = False := eq_false (by decide)
theorem ni_5_6 : ((5 : Int32) = 6) = False := eq_false (by decide)
theorem ni_5_7 : ((5 : Int32) = 7) = False := eq_false (by decide)
theorem ni_5_8 : ((5 : Int32) = 8) = False := eq_false (by decide)
theorem ni_5_9 : ((5 : Int32) = 9) = False := eq_false (by decide)
theorem ni_5_10 : ((5 : Int32) = 10) = False := eq_false (by decide)
theorem ni_5_11 : ((5 : Int32) = 11) = False := eq_false (by decide)
theorem ni_5_12 : ((5 : Int32) = 12) = False := eq_false (by decide)
theorem ni_5_13 : ((5 : Int32) = 13) = False := eq_false (by decide)
theorem ni_5_14 : ((5 : Int32) = 14) = False := eq_false (by decide)
theorem ni_5_15 : ((5 : Int32) = 15) = False := eq_false (by decide)
theorem ni_5_16 : ((5 : Int32) = 16) = False := eq_false (by decide)
theorem ni_5_17 : ((5 : Int32) = 17) = False := eq_false (by decide)
theorem ni_6_0 : ((6 : Int32) = 0) = False := eq_false (by decide)
theorem ni_6_1 : ((6 : Int32) = 1) = False := eq_false (by decide)
theorem ni_6_2 : ((6 : Int32) = 2) = False := eq_false (by decide)
theorem ni_6_3 : ((6 : Int32) = 3) = False := eq_false (by decide)
theorem ni_6_4 : ((6 : Int32) = 4) = False := eq_false (by decide)
theorem ni_6_5 : ((6 : Int32) = 5) = False := eq_false (by decide)
theorem ni_6_7 : ((6 : Int32) = 7) = False := eq_false (by decide)
theorem ni_6_8 : ((6 : Int32) = 8) = False := eq_false (by decide)
theorem ni_6_9 : ((6 : Int32) = 9) = False := eq_false (by decide)
theorem ni_6_10 : ((6 : Int32) = 10) = False := eq_false (by decide)
theorem ni_6_11 : ((6 : Int32) = 11) = False := eq_false (by decide)
theorem ni_6_12 : ((6 : Int32) = 12) = False := eq_false (by decide)
theorem ni_6_13 : ((6 : Int32) = 13) = False := eq_false (by decide)
theorem ni_6_14 : ((6 : Int32) = 14) = False := eq_false (by decide)
theorem ni_6_15 : ((6 : Int32) = 15) = False := eq_false (by decide)
theorem ni_6_16 : ((6 : Int32) = 16) = False := eq_false (by decide)
theorem ni_6_17 : ((6 : Int32) = 17) = False := eq_false (by decide)
theorem ni_7_0 : ((7 : Int32) = 0) = False := eq_false (by decide)
theorem ni_7_1 : ((7 : Int32) = 1) = False := eq_false (by decide)
theorem ni_7_2 : ((7 : Int32) = 2) = False := eq_false (by decide)
theorem ni_7_3 : ((7 : Int32) = 3) = False := eq_false (by decide)
theorem ni_7_4 : ((7 : Int32) = 4) = False := eq_false (by decide)
theorem ni_7_5 : ((7 : Int32) = 5) = False := eq_false (by decide)
theorem ni_7_6 : ((7 : Int32) = 6) = False := eq_false (by decide)
theorem ni_7_8 : ((7 : Int32) = 8) = False := eq_false (by decide)
theorem ni_7_9 : ((7 : Int32) = 9) = False := eq_false (by decide)
theorem ni_7_10 : ((7 : Int32) = 10) = False := eq_false (by decide)
theorem ni_7_11 : ((7 : Int32) = 11) = False := eq_false (by decide)
theorem ni_7_12 : ((7 : Int32) = 12) = False := eq_false (by decide)
theorem ni_7_13 : ((7 : Int32) = 13) = False := eq_false (by decide)
theorem ni_7_14 : ((7 : Int32) = 14) = False := eq_false (by decide)
theorem ni_7_15 : ((7 : Int32) = 15) = False := eq_false (by decide)
theorem ni_7_16 : ((7 : Int32) = 16) = False := eq_false (by decide)
theorem ni_7_17 : ((7 : Int32) = 17) = False := eq_false (by decide)
theorem ni_8_0 : ((8 : Int32) = 0) = False := eq_false (by decide)
theorem ni_8_1 : ((8 : Int32) = 1) = False := eq_false (by decide)
theorem ni_8_2 : ((8 : Int32) = 2) = False := eq_false (by decide)
theorem ni_8_3 : ((8 : Int32) = 3) = False := eq_false (by decide)
theorem ni_8_4 : ((8 : Int32) = 4) = False := eq_false (by decide)
theorem ni_8_5 : ((8 : Int32) = 5) = False := eq_false (by decide)
theorem ni_8_6 : ((8 : Int32) = 6) = False := eq_false (by decide)
theorem ni_8_7 : ((8 : Int32) = 7) = False := eq_false (by decide)
theorem ni_8_9 : ((8 : Int32) = 9) = False := eq_false (by decide)
theorem ni_8_10 : ((8 : Int32) = 10) = False := eq_false (by decide)
theorem ni_8_11 : ((8 : Int32) = 11) = False := eq_false (by decide)
theorem ni_8_12 : ((8 : Int32) = 12) = False := eq_false (by decide)
theorem ni_8_13 : ((8 : Int32) = 13) = False := eq_false (by decide)
theorem ni_8_14 : ((8 : Int32) = 14) = False := eq_false (by decide)
theorem ni_8_15 : ((8 : Int32) = 15) = False := eq_false (by decide)
theorem ni_8_16 : ((8 : Int32) = 16) = False := eq_false (by decide)
theorem ni_8_17 : ((8 : Int32) = 17) = False := eq_false (by decide)
theorem ni_9_0 : ((9 : Int32) = 0) = False := eq_false (by decide)
theorem ni_9_1 : ((9 : Int32) = 1) = False := eq_false (by decide)
theorem ni_9_2 : ((9 : Int32) = 2) = False := eq_false (by decide)
theorem ni_9_3 : ((9 : Int32) = 3) = False := eq_false (by decide)
theorem ni_9_4 : ((9 : Int32) = 4) = False := eq_false (by decide)
theorem ni_9_5 : ((9 : Int32) = 5) = False := eq_false (by decide)
theorem ni_9_6 : ((9 : Int32) = 6) = False := eq_false (by decide)
theorem ni_9_7 : ((9 : Int32) = 7) = False := eq_false (by decide)
theorem ni_9_8 : ((9 : Int32) = 8) = False := eq_false (by decide)
theorem ni_9_10 : ((9 : Int32) = 10) = False := eq_false (by decide)
theorem ni_9_11 : ((9 : Int32) = 11) = False := eq_false (by decide)
theorem ni_9_12 : ((9 : Int32) = 12) = False := eq_false (by decide)
theorem ni_9_13 : ((9 : Int32) = 13) = False := eq_false (by decide)
theorem ni_9_14 : ((9 : Int32) = 14) = False := eq_false (by decide)
theorem ni_9_15 : ((9 : Int32) = 15) = False := eq_false (by decide)
theorem ni_9_16 : ((9 : Int32) = 16) = False := eq_false (by decide)
theorem ni_9_17 : ((9 : Int32) = 17) = False := eq_false (by decide)
theorem ni_10_0 : ((10 : Int32) = 0) = False := eq_false (by decide)
theorem ni_10_1 : ((10 : Int32) = 1) = False := eq_false (by decide)
theorem ni_10_2 : ((10 : Int32) = 2) = False := eq_false (by decide)
theorem ni_10_3 : ((10 : Int32) = 3) = False := eq_false (by decide)
theorem ni_10_4 : ((10 : Int32) = 4) = False := eq_false (by decide)
theorem ni_10_5 : ((10 : Int32) = 5) = False := eq_false (by decide)
theorem ni_10_6 : ((10 : Int32) = 6) = False := eq_false (by decide)
theorem ni_10_7 : ((10 : Int32) = 7) = False := eq_false (by decide)
theorem ni_10_8 : ((10 : Int32) = 8) = False := eq_false (by decide)
theorem ni_10_9 : ((10 : Int32) = 9) = False := eq_false (by decide)
theorem ni_10_11 : ((10 : Int32) = 11) = False := eq_false (by decide)
theorem ni_10_12 : ((10 : Int32) = 12) = False := eq_false (by decide)
theorem ni_10_13 : ((10 : Int32) = 13) = False := eq_false (by decide)
theorem ni_10_14 : ((10 : Int32) = 14) = False := eq_false (by decide)
theorem ni_10_15 : ((10 : Int32) = 15) = False := eq_false (by decide)
theorem ni_10_16 : ((10 : Int32) = 16) = False := eq_false (by decide)
theorem ni_10_17 : ((10 : Int32) = 17) = False := eq_false (by decide)
theorem ni_11_0 : ((11 : Int32) = 0) = False := eq_false (by decide)
theorem ni_11_1 : ((11 : Int32) = 1) = False := eq_false (by decide)
theorem ni_11_2 : ((11 : Int32) = 2) = False := eq_false (by decide)
theorem ni_11_3 : ((11 : Int32) = 3) = False := eq_false (by decide)
theorem ni_11_4 : ((11 : Int32) = 4) = False := eq_false (by decide)
theorem ni_11_5 : ((11 : Int32) = 5) = False := eq_false (by decide)
theorem ni_11_6 : ((11 : Int32) = 6) = False := eq_false (by decide)
theorem ni_11_7 : ((11 : Int32) = 7) = False := eq_false (by decide)
theorem ni_11_8 : ((11 : Int32) = 8) = False := eq_false (by decide)
theorem ni_11_9 : ((11 : Int32) = 9) = False := eq_false (by decide)
theorem ni_11_10 : ((11 : Int32) = 10) = False := eq_false (by decide)
theorem ni_11_12 : ((11 : Int32) = 12) = False := eq_false (by decide)
theorem ni_11_13 : ((11 : Int32) = 13) = False := eq_false (by decide)
theorem ni_11_14 : ((11 : Int32) = 14) = False := eq_false (by decide)
theorem ni_11_15 : ((11 : Int32) = 15) = False := eq_false (by decide)
theorem ni_11_16 : ((11 : Int32) = 16) = False := eq_false (by decide)
theorem ni_11_17 : ((11 : Int32) = 17) = False := eq_false (by decide)
theorem ni_12_0 : ((12 : Int32) = 0) = False := eq_false (by decide)
theorem ni_12_1 : ((12 : Int32) = 1) = False := eq_false (by decide)
theorem ni_12_2 : ((12 : Int32) = 2) = False := eq_false (by decide)
theorem ni_12_3 : ((12 : Int32) = 3) = False := eq_false (by decide)
theorem ni_12_4 : ((12 : Int32) = 4) = False := eq_false (by decide)
theorem ni_12_5 : ((12 : Int32) = 5) = False := eq_false (by decide)
theorem ni_12_6 : ((12 : Int32) = 6) = False := eq_false (by decide)
theorem ni_12_7 : ((12 : Int32) = 7) = False := eq_false (by decide)
theorem ni_12_8 : ((12 : Int32) = 8) = False := eq_false (by decide)
theorem ni_12_9 : ((12 : Int32) = 9) = False := eq_false (by decide)
theorem ni_12_10 : ((12 : Int32) = 10) = False := eq_false (by decide)
theorem ni_12_11 : ((12 : Int32) = 11) = False := eq_false (by decide)
theorem ni_12_13 : ((12 : Int32) = 13) = False := eq_false (by decide)
theorem ni_12_14 : ((12 : Int32) = 14) = False := eq_false (by decide)
theorem ni_12_15 : ((12 : Int32) = 15) = False := eq_false (by decide)
theorem ni_12_16 : ((12 : Int32) = 16) = False := eq_false (by decide)
theorem ni_12_17 : ((12 : Int32) = 17) = False := eq_false (by decide)
theorem ni_13_0 : ((13 : Int32) = 0) = False := eq_false (by decide)
theorem ni_13_1 : ((13 : Int32) = 1) = False := eq_false (by decide)
theorem ni_13_2 : ((13 : Int32) = 2) = False := eq_false (by decide)
theorem ni_13_3 : ((13 : Int32) = 3) = False := eq_false (by decide)
theorem ni_13_4 : ((13 : Int32) = 4) = False := eq_false (by decide)
theorem ni_13_5 : ((13 : Int32) = 5) = False := eq_false (by decide)
theorem ni_13_6 : ((13 : Int32) = 6) = False := eq_false (by decide)
theorem ni_13_7 : ((13 : Int32) = 7) = False := eq_false (by decide)
theorem ni_13_8 : ((13 : Int32) = 8) = False := eq_false (by decide)
theorem ni_13_9 : ((13 : Int32) = 9) = False := eq_false (by decide)
theorem ni_13_10 : ((13 : Int32) = 10) = False := eq_false (by decide)
theorem ni_13_11 : ((13 : Int32) = 11) = False := eq_false (by decide)
theorem ni_13_12 : ((13 : Int32) = 12) = False := eq_false (by decide)
theorem ni_13_14 : ((13 : Int32) = 14) = False := eq_false (by decide)
theorem ni_13_15 : ((13 : Int32) = 15) = False := eq_false (by decide)
theorem ni_13_16 : ((13 : Int32) = 16) = False := eq_false (by decide)
theorem ni_13_17 : ((13 : Int32) = 17) = False := eq_false (by decide)
theorem ni_14_0 : ((14 : Int32) = 0) = False := eq_false (by decide)
theorem ni_14_1 : ((14 : Int32) = 1) = False := eq_false (by decide)
theorem ni_14_2 : ((14 : Int32) = 2) = False := eq_false (by decide)
theorem ni_14_3 : ((14 : Int32) = 3) = False := eq_false (by decide)
theorem ni_14_4 : ((14 : Int32) = 4) = False := eq_false (by decide)
theorem ni_14_5 : ((14 : Int32) = 5) = False := eq_false (by decide)
theorem ni_14_6 : ((14 : Int32) = 6) = False := eq_false (by decide)
theorem ni_14_7 : ((14 : Int32) = 7) = False := eq_false (by decide)
theorem ni_14_8 : ((14 : Int32) = 8) = False := eq_false (by decide)
theorem ni_14_9 : ((14 : Int32) = 9) = False := eq_false (by decide)
theorem ni_14_10 : ((14 : Int32) = 10) = False := eq_false (by decide)
theorem ni_14_11 : ((14 : Int32) = 11) = False := eq_false (by decide)
theorem ni_14_12 : ((14 : Int32) = 12) = False := eq_false (by decide)
theorem ni_14_13 : ((14 : Int32) = 13) = False := eq_false (by decide)
theorem ni_14_15 : ((14 : Int32) = 15) = False := eq_false (by decide)
theorem ni_14_16 : ((14 : Int32) = 16) = False := eq_false (by decide)
theorem ni_14_17 : ((14 : Int32) = 17) = False := eq_false (by decide)
theorem ni_15_0 : ((15 : Int32) = 0) = False := eq_false (by decide)
theorem ni_15_1 : ((15 : Int32) = 1) = False := eq_false (by decide)
theorem ni_15_2 : ((15 : Int32) = 2) = False := eq_false (by decide)
theorem ni_15_3 : ((15 : Int32) = 3) = False := eq_false (by decide)
theorem ni_15_4 : ((15 : Int32) = 4) = False := eq_false (by decide)
theorem ni_15_5 : ((15 : Int32) = 5) = False := eq_false (by decide)
theorem ni_15_6 : ((15 : Int32) = 6) = False := eq_false (by decide)
theorem ni_15_7 : ((15 : Int32) = 7) = False := eq_false (by decide)
theorem ni_15_8 : ((15 : Int32) = 8) = False := eq_false (by decide)
theorem ni_15_9 : ((15 : Int32) = 9) = False := eq_false (by decide)
theorem ni_15_10 : ((15 : Int32) = 10) = False := eq_false (by decide)
theorem ni_15_11 : ((15 : Int32) = 11) = False := eq_false (by decide)
theorem ni_15_12 : ((15 : Int32) = 12) = False := eq_false (by decide)
theorem ni_15_13 : ((15 : Int32) = 13) = False := eq_false (by decide)
theorem ni_15_14 : ((15 : Int32) = 14) = False := eq_false (by decide)
theorem ni_15_16 : ((15 : Int32) = 16) = False := eq_false (by decide)
theorem ni_15_17 : ((15 : Int32) = 17) = False := eq_false (by decide)
theorem ni_16_0 : ((16 : Int32) = 0) = False := eq_false (by decide)
theorem ni_16_1 : ((16 : Int32) = 1) = False := eq_false (by decide)
theorem ni_16_2 : ((16 : Int32) = 2) = False := eq_false (by decide)
theorem ni_16_3 : ((16 : Int32) = 3) = False := eq_false (by decide)
theorem ni_16_4 : ((16 : Int32) = 4) = False := eq_false (by decide)
theorem ni_16_5 : ((16 : Int32) = 5) = False := eq_false (by decide)
theorem ni_16_6 : ((16 : Int32) = 6) = False := eq_false (by decide)
theorem ni_16_7 : ((16 : Int32) = 7) = False := eq_false (by decide)
theorem ni_16_8 : ((16 : Int32) = 8) = False := eq_false (by decide)
theorem ni_16_9 : ((16 : Int32) = 9) = False := eq_false (by decide)
theorem ni_16_10 : ((16 : Int32) = 10) = False := eq_false (by decide)
theorem ni_16_11 : ((16 : Int32) = 11) = False := eq_false (by decide)
theorem ni_16_12 : ((16 : Int32) = 12) = False := eq_false (by decide)
theorem ni_16_13 : ((16 : Int32) = 13) = False := eq_false (by decide)
theorem ni_16_14 : ((16 : Int32) = 14) = False := eq_false (by decide)
theorem ni_16_15 : ((16 : Int32) = 15) = False := eq_false (by decide)
theorem ni_16_17 : ((16 : Int32) = 17) = False := eq_false (by decide)
theorem ni_17_0 : ((17 : Int32) = 0) = False := eq_false (by decide)
theorem ni_17_1 : ((17 : Int32) = 1) = False := eq_false (by decide)
theorem ni_17_2 : ((17 : Int32) = 2) = False := eq_false (by decide)
theorem ni_17_3 : ((17 : Int32) = 3) = False := eq_false (by decide)
theorem ni_17_4 : ((17 : Int32) = 4) = False := eq_false (by decide)
theorem ni_17_5 : ((17 : Int32) = 5) = False := eq_false (by decide)
theorem ni_17_6 : ((17 : Int32) = 6) = False := eq_false (by decide)
theorem ni_17_7 : ((17 : Int32) = 7) = False := eq_false (by decide)
theorem ni_17_8 : ((17 : Int32) = 8) = False := eq_false (by decide)
theorem ni_17_9 : ((17 : Int32) = 9) = False := eq_false (by decide)
theorem ni_17_10 : ((17 : Int32) = 10) = False := eq_false (by decide)
theorem ni_17_11 : ((17 : Int32) = 11) = False := eq_false (by decide)
theorem ni_17_12 : ((17 : Int32) = 12) = False := eq_false (by decide)
theorem ni_17_13 : ((17 : Int32) = 13) = False := eq_false (by decide)
theorem ni_17_14 : ((17 : Int32) = 14) = False := eq_false (by decide)
theorem ni_17_15 : ((17 : Int32) = 15) = False := eq_false (by decide)
theorem ni_17_16 : ((17 : Int32) = 16) = False := eq_false (by decide)
def fp2 (X : Nat) : Nat := if 2147483648 ≤ X then X - 2147483648 else X + 2147483648
theorem sx2 {X : Nat} (h : X < 4294967296) : Int64.ofNat X ^^^ 2147483648 = Int64.ofNat (fp2 X) := by
  rw [show (2147483648 : Int64) = Int64.ofNat (2 ^ 31) by decide]
  unfold fp2
  by_cases c : 2147483648 ≤ X
  · have e := jl_x1 (k := 31) (a := X - 2147483648) (by decide) (by omega)
    rw [show 2 ^ 31 + (X - 2147483648) = X by omega] at e
    rw [if_pos c, ← e, Int64.xor_assoc, Int64.xor_self, Int64.xor_zero]
  · rw [if_neg c, jl_x1 (by decide) (by omega), Nat.add_comm, show (2 : Nat) ^ 31 = 2147483648 by decide]
theorem sn2_a {Y : Nat} (h : Y < 4294967296) : Int64.ofNat Y &&& 2147483648 = Int64.ofNat (sg2 (ng2 Y)) := by
  rw [show (2147483648 : Int64) = Int64.ofNat (2 ^ 31) by decide]
  unfold sg2 ng2
  by_cases c : 2147483648 ≤ Y
  · have e := jl_top1 (k := 31) (a := Y - 2147483648) (by decide) (by omega)
    rw [show 2 ^ 31 + (Y - 2147483648) = Y by omega] at e
    rw [e, decide_eq_true c, if_pos b_tt]
  · rw [jl_top0 (by decide) (by omega), decide_eq_false c, if_neg b_ft]
    rfl
theorem sn2_o {X Y : Nat} : Int64.ofNat (X % 2147483648) ||| Int64.ofNat (sg2 (ng2 Y)) = Int64.ofNat (sg2 (ng2 Y) + X % 2147483648) := by
  have o := jl_o (k := 31) (a := X % 2147483648) (c := bN (ng2 Y)) (by omega) (by cases ng2 Y <;> simp [bN] <;> omega)
  have e : bN (ng2 Y) * 2 ^ 31 = sg2 (ng2 Y) := by cases ng2 Y <;> rfl
  rw [e] at o
  rw [jl_oc, o]
theorem fp2_f {Y : Nat} (h : Y < 4294967296) : fp2 Y < 4294967296 ∧ fp2 Y % 2147483648 = Y % 2147483648 ∧ ng2 (fp2 Y) = (ng2 Y ^^ true) := by
  unfold fp2 ng2
  by_cases c : 2147483648 ≤ Y
  · rw [if_pos c, decide_eq_true c, decide_eq_false (by omega)]
    exact ⟨by omega, by omega, rfl⟩
  · rw [if_neg c, decide_eq_false c, decide_eq_true (by omega)]
    exact ⟨by omega, by omega, rfl⟩
/-- a floating operator by its order from 139 (153) on -/
def fo2 (k X Y : Nat) : Nat := if k = 0 then X % 2147483648 else if k = 1 then fp2 X else if k ≤ 5 then wo2 (k - 2) X else if k = 6 then ro2 X else if k = 7 then su2 X Y (ng2 Y) else if k = 8 then su2 X Y (ng2 Y ^^ true) else if k = 9 then ml2 X Y else if k = 10 then dv2 X Y else if k = 11 then mi2 true X Y else if k = 12 then mi2 false X Y else sg2 (ng2 Y) + X % 2147483648
theorem su2_f {X Y : Nat} (hY : Y < 4294967296) (g : Bool) : su2 X (fp2 Y) g = su2 X Y g := by
  have f := (fp2_f hY).2.1
  have e1 : so2 (fp2 Y) = so2 Y := by unfold so2; rw [f]
  have e2 : ex2 (fp2 Y) = ex2 Y := by unfold ex2; rw [f]
  have e3 : fr2 (fp2 Y) = fr2 Y := by unfold fr2; omega
  have e4 : wh2 (fp2 Y) = wh2 Y := by unfold wh2; rw [e2, e3]
  have e5 : pw2 (fp2 Y) = pw2 Y := by unfold pw2; rw [e2]
  unfold su2 cn2
  rw [e1, e4, e5, f]
def fp3 (X : Nat) : Nat := if 9223372036854775808 ≤ X then X - 9223372036854775808 else X + 9223372036854775808
theorem sx3 {X : Nat} (h : X < 18446744073709551616) : Int64.ofNat X ^^^ (-9223372036854775808) = Int64.ofNat (fp3 X) := by
  rw [show ((-9223372036854775808) : Int64) = Int64.ofNat (2 ^ 63) by decide]
  unfold fp3
  by_cases c : 9223372036854775808 ≤ X
  · have e := jl_x1 (k := 63) (a := X - 9223372036854775808) (by decide) (by omega)
    rw [show 2 ^ 63 + (X - 9223372036854775808) = X by omega] at e
    rw [if_pos c, ← e, Int64.xor_assoc, Int64.xor_self, Int64.xor_zero]
  · rw [if_neg c, jl_x1 (by decide) (by omega), Nat.add_comm, show (2 : Nat) ^ 63 = 9223372036854775808 by decide]
theorem sn3_a {Y : Nat} (h : Y < 18446744073709551616) : Int64.ofNat Y &&& (-9223372036854775808) = Int64.ofNat (sg3 (ng3 Y)) := by
  rw [show ((-9223372036854775808) : Int64) = Int64.ofNat (2 ^ 63) by decide]
  unfold sg3 ng3
  by_cases c : 9223372036854775808 ≤ Y
  · have e := jl_top1 (k := 63) (a := Y - 9223372036854775808) (by decide) (by omega)
    rw [show 2 ^ 63 + (Y - 9223372036854775808) = Y by omega] at e
    rw [e, decide_eq_true c, if_pos b_tt]
  · rw [jl_top0 (by decide) (by omega), decide_eq_false c, if_neg b_ft]
    rfl
theorem sn3_o {X Y : Nat} : Int64.ofNat (X % 9223372036854775808) ||| Int64.ofNat (sg3 (ng3 Y)) = Int64.ofNat (sg3 (ng3 Y) + X % 9223372036854775808) := by
  have o := jl_o (k := 63) (a := X % 9223372036854775808) (c := bN (ng3 Y)) (by omega) (by cases ng3 Y <;> simp [bN] <;> omega)
  have e : bN (ng3 Y) * 2 ^ 63 = sg3 (ng3 Y) := by cases ng3 Y <;> rfl
  rw [e] at o
  rw [jl_oc, o]
theorem fp3_f {Y : Nat} (h : Y < 18446744073709551616) : fp3 Y < 18446744073709551616 ∧ fp3 Y % 9223372036854775808 = Y % 9223372036854775808 ∧ ng3 (fp3 Y) = (ng3 Y ^^ true) := by
  unfold fp3 ng3
  by_cases c : 9223372036854775808 ≤ Y
  · rw [if_pos c, decide_eq_true c, decide_eq_false (by omega)]
    exact ⟨by omega, by omega, rfl⟩
  · rw [if_neg c, decide_eq_false c, decide_eq_true (by omega)]
    exact ⟨by omega, by omega, rfl⟩
/-- a floating operator by its order from 139 (153) on -/
def fo3 (k X Y : Nat) : Nat := if k = 0 then X % 9223372036854775808 else if k = 1 then fp3 X else if k ≤ 5 then wo3 (k - 2) X else if k = 6 then ro3 X else if k = 7 then su3 X Y (ng3 Y) else if k = 8 then su3 X Y (ng3 Y ^^ true) else if k = 9 then ml3 X Y else if k = 10 then dv3 X Y else if k = 11 then mi3 true X Y else if k = 12 then mi3 false X Y else sg3 (ng3 Y) + X % 9223372036854775808
theorem su3_f {X Y : Nat} (hY : Y < 18446744073709551616) (g : Bool) : su3 X (fp3 Y) g = su3 X Y g := by
  have f := (fp3_f hY).2.1
  have e1 : so3 (fp3 Y) = so3 Y := by unfold so3; rw [f]
  have e2 : ex3 (fp3 Y) = ex3 Y := by unfold ex3; rw [f]
  have e3 : fr3 (fp3 Y) = fr3 Y := by unfold fr3; omega
  have e4 : wh3 (fp3 Y) = wh3 Y := by unfold wh3; rw [e2, e3]
  have e5 : pw3 (fp3 Y) = pw3 Y := by unfold pw3; rw [e2]
  unfold su3 cn3
  rw [e1, e4, e5, f]
