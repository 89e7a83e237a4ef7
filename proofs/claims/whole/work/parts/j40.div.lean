/-! NUMBERS: quotients and remainders as both do them -/
/-- reference and class: the same trap, or none and the same value (as f takes it) -/
def qD (b : Nat) (f : Int64 → Int64) (R : pm_H → Option (Int64 × pm_H)) (C : pm_H → Nat → Option (Int64 × pm_H)) : Prop := ∃ v t : Nat, v < 2 ^ b ∧ t ≤ 4 ∧ t ≠ 1 ∧ (∀ h : pm_H, pm_kd h 592 = 16 → ∃ u, R h = some (u, if t = 0 then h else pm_setI h 592 33 (Int32.ofNat (t - 1))) ∧ (t = 0 → f u = Int64.ofNat v)) ∧ ∀ (h : pm_H) (a : Nat), pm_kd h a = 8 → ∃ u, C h a = some (u, if t = 0 then h else pm_setI h a 0 (Int32.ofNat t)) ∧ (t = 0 → f u = Int64.ofNat v)
def q_lo (u : Int64) : Int64 := u &&& 4294967295
def q_id (u : Int64) : Int64 := u
theorem q_lo_b (u : Int64) : ∃ v : Nat, v < 2 ^ 32 ∧ q_lo u = Int64.ofNat v := nu_cut u
theorem q_id_b (u : Int64) : ∃ v : Nat, v < 2 ^ 64 ∧ q_id u = Int64.ofNat v := jl_all u
theorem qD_v {b : Nat} {f : Int64 → Int64} (hf : ∀ u, ∃ v : Nat, v < 2 ^ b ∧ f u = Int64.ofNat v) {R : pm_H → Option (Int64 × pm_H)} {C : pm_H → Nat → Option (Int64 × pm_H)} {u w : Int64} (e1 : ∀ h : pm_H, pm_kd h 592 = 16 → R h = some (u, h)) (e2 : ∀ (h : pm_H) (a : Nat), pm_kd h a = 8 → C h a = some (w, h)) (e : f u = f w) : qD b f R C := by
  obtain ⟨v, hv, ev⟩ := hf u
  exact ⟨v, 0, hv, by decide, by decide, fun h k => ⟨u, e1 h k, fun _ => ev⟩, fun h a k => ⟨w, e2 h a k, fun _ => e.symm.trans ev⟩⟩
theorem qD_t {b : Nat} {f : Int64 → Int64} {R : pm_H → Option (Int64 × pm_H)} {C : pm_H → Nat → Option (Int64 × pm_H)} {u w : Int64} (t : Nat) (h0 : t ≠ 0) (h1 : t ≠ 1) (h4 : t ≤ 4) (e1 : ∀ h : pm_H, pm_kd h 592 = 16 → R h = some (u, pm_setI h 592 33 (Int32.ofNat (t - 1)))) (e2 : ∀ (h : pm_H) (a : Nat), pm_kd h a = 8 → C h a = some (w, pm_setI h a 0 (Int32.ofNat t))) : qD b f R C :=
  ⟨0, t, Nat.two_pow_pos b, h4, h1, fun h k => ⟨u, by rw [if_neg h0]; exact e1 h k, fun q => absurd q h0⟩, fun h a k => ⟨w, by rw [if_neg h0]; exact e2 h a k, fun q => absurd q h0⟩⟩
theorem jd_m1 (a : Int64) : a / (-1) = -a := by
  apply Int64.toInt_inj.mp
  rw [Int64.toInt_div, show (-1 : Int64).toInt = -1 from rfl, Int.tdiv_neg, Int.tdiv_one, Int64.toInt_neg]
theorem jd_r1 (a : Int64) : a - a / (-1) * (-1) = 0 := by
  rw [jd_m1]
  apply Int64.toBitVec_inj.mp
  show a.toBitVec - (-a.toBitVec) * (-1#64) = 0#64
  rw [BitVec.neg_mul_neg, BitVec.mul_one, BitVec.sub_self]
theorem j3_i {m n : Int32} (e : m.toInt64 = n.toInt64) : m = n := by
  apply Int32.toInt_inj.mp
  rw [← Int32.toInt_toInt64 m, e, Int32.toInt_toInt64]
theorem j3_0 (n : Int32) : (n.toInt64 = 0) = (n = 0) := propext ⟨fun e => j3_i (e.trans (show (0 : Int64) = (0 : Int32).toInt64 from rfl)), fun e => by rw [e]; rfl⟩
theorem j3_m (n : Int32) : (n.toInt64 = -1) = (n = -1) := propext ⟨fun e => j3_i (e.trans (show (-1 : Int64) = (-1 : Int32).toInt64 from rfl)), fun e => by rw [e]; rfl⟩
theorem j3_l (n : Int32) : (n.toInt64 = -2147483648) = (n = -2147483648) := propext ⟨fun e => j3_i (e.trans (show (-2147483648 : Int64) = (-2147483648 : Int32).toInt64 from rfl)), fun e => by rw [e]; rfl⟩
/-- the reference's four -/
theorem dR_0 {h : pm_H} (k : pm_kd h 592 = 16) (p : Int32) (x l : Int64) : fX16_divided h 592 p x 0 l = some (0, pm_setI h 592 33 1) := by
  show (if pm_kd h 592 = 16 then (fX16_traps h 592 1).bind fun v9 => some ((0, v9)) else none) = _
  rw [if_pos k]
  unfold fX16_traps
  rw [if_pos k]
  rfl
theorem dR_s {h : pm_H} (k : pm_kd h 592 = 16) {x y l : Int64} (h0 : y ≠ 0) : fX16_divided h 592 0 x y l = if y = -1 then (if x = l then some (-x, pm_setI h 592 33 2) else some (-x, h)) else some (x / y, h) := by
  unfold fX16_divided
  rw [if_neg h0, if_pos rfl]
  by_cases c : y = -1
  · rw [if_pos c, if_pos c]
    by_cases d : x = l
    · rw [if_pos d, if_pos d, if_pos k]
      unfold fX16_traps
      rw [if_pos k]
      rfl
    · rw [if_neg d, if_neg d]
  · rw [if_neg c, if_neg c]
    show (if ¬ y = 0 then some ((x / y, h)) else none) = _
    rw [if_pos h0]
theorem dR_r {h : pm_H} {x y l : Int64} (h0 : y ≠ 0) : fX16_divided h 592 2 x y l = if y = -1 then some (0, h) else some (x - x / y * y, h) := by
  unfold fX16_divided
  rw [if_neg h0, if_neg (by decide)]
  by_cases c : y = -1
  · rw [if_pos c]
    show (if y = (-1) then (some ((0, h))) else _) = _
    rw [if_pos c]
  · rw [if_neg c]
    show (if y = (-1) then (some ((0, h))) else (if ¬ y = 0 then some ((x - x / y * y, h)) else none)) = _
    rw [if_neg c, if_pos h0]
theorem dR_u {h : pm_H} {x y l : Int64} (h0 : y ≠ 0) : fX16_divided h 592 1 x y l = (fJ13_divideUnsigned_f86c9 x y).bind fun v18 => some ((v18, h)) := by
  unfold fX16_divided
  rw [if_neg h0, if_neg (by decide)]
  rfl
theorem dR_v {h : pm_H} {x y l : Int64} (h0 : y ≠ 0) : fX16_divided h 592 3 x y l = (fJ13_remainderUnsigned_f86c9 x y).bind fun v18 => some ((v18, h)) := by
  unfold fX16_divided
  rw [if_neg h0, if_neg (by decide)]
  rfl
theorem dS_6 {h : pm_H} (k : pm_kd h 592 = 16) (a x b y : Int64) : fX16_short32 h 592 6 a x b y = (fX16_divided h 592 0 a b (-2147483648)).bind fun v => some (v.1, v.2) := by
  show (if pm_kd h 592 = 16 then (fX16_divided h 592 0 a b (-2147483648)).bind fun v25 => some ((v25.1, v25.2)) else none) = _
  rw [if_pos k]
theorem dS_7 {h : pm_H} (k : pm_kd h 592 = 16) (a x b y : Int64) : fX16_short32 h 592 7 a x b y = (fX16_divided h 592 1 x y (-2147483648)).bind fun v => some (v.1, v.2) := by
  show (if pm_kd h 592 = 16 then (fX16_divided h 592 1 x y (-2147483648)).bind fun v25 => some ((v25.1, v25.2)) else none) = _
  rw [if_pos k]
theorem dS_8 {h : pm_H} (k : pm_kd h 592 = 16) (a x b y : Int64) : fX16_short32 h 592 8 a x b y = (fX16_divided h 592 2 a b (-2147483648)).bind fun v => some (v.1, v.2) := by
  show (if pm_kd h 592 = 16 then (fX16_divided h 592 2 a b (-2147483648)).bind fun v25 => some ((v25.1, v25.2)) else none) = _
  rw [if_pos k]
theorem dS_9 {h : pm_H} (k : pm_kd h 592 = 16) (a x b y : Int64) : fX16_short32 h 592 9 a x b y = (fX16_divided h 592 3 x y (-2147483648)).bind fun v => some (v.1, v.2) := by
  show (if pm_kd h 592 = 16 then (fX16_divided h 592 3 x y (-2147483648)).bind fun v25 => some ((v25.1, v25.2)) else none) = _
  rw [if_pos k]
theorem dC_6 {h : pm_H} {a : Nat} (k : pm_kd h a = 8) (m n : Int32) : fX8_whole32 h a 6 m n = if n = 0 then some (0, pm_setI h a 0 2) else if m = -2147483648 ∧ n = -1 then some (0, pm_setI h a 0 3) else some (m.toInt64 / n.toInt64, h) := by
  show (if pm_kd h a = 8 then (fX8_divide32 h a 6 m n).bind fun v4 => some ((v4.1, v4.2)) else none) = _
  rw [if_pos k]
  unfold fX8_divide32
  by_cases c : n = 0
  · rw [if_pos c, if_pos c, if_pos k]; rfl
  · have l : fX8_divide32_b35 h 6 m n = some (m.toInt64 / n.toInt64, h) := by
      show (if ¬ n.toInt64 = 0 then some ((m.toInt64 / n.toInt64, h)) else none) = _
      rw [if_pos (by rw [j3_0]; exact c)]
    rw [if_neg c, if_neg c, if_pos rfl, l]
    by_cases d : m = -2147483648
    · rw [if_pos d]
      by_cases e : n = -1
      · rw [if_pos e, if_pos k, if_pos (show m = -2147483648 ∧ n = -1 from ⟨d, e⟩)]; rfl
      · rw [if_neg e, if_neg (show ¬ (m = -2147483648 ∧ n = -1) from fun q => e q.2)]; rfl
    · rw [if_neg d, if_neg (show ¬ (m = -2147483648 ∧ n = -1) from fun q => d q.1)]; rfl
theorem dC_8 {h : pm_H} {a : Nat} (k : pm_kd h a = 8) (m n : Int32) : fX8_whole32 h a 8 m n = if n = 0 then some (0, pm_setI h a 0 2) else some (m.toInt64 - m.toInt64 / n.toInt64 * n.toInt64, h) := by
  show (if pm_kd h a = 8 then (fX8_divide32 h a 8 m n).bind fun v4 => some ((v4.1, v4.2)) else none) = _
  rw [if_pos k]
  unfold fX8_divide32
  by_cases c : n = 0
  · rw [if_pos c, if_pos c, if_pos k]; rfl
  · have l : fX8_divide32_b35 h 8 m n = some (m.toInt64 - m.toInt64 / n.toInt64 * n.toInt64, h) := by
      show (if ¬ n.toInt64 = 0 then some ((m.toInt64 - m.toInt64 / n.toInt64 * n.toInt64, h)) else none) = _
      rw [if_pos (by rw [j3_0]; exact c)]
    rw [if_neg c, if_neg c, if_neg (by decide), l]
    rfl
theorem dC_7 {h : pm_H} {a : Nat} (k : pm_kd h a = 8) (m n : Int32) : fX8_whole32 h a 7 m n = if n = 0 then some (0, pm_setI h a 0 2) else if ¬ (n.toInt64 &&& 4294967295) = 0 then some ((m.toInt64 &&& 4294967295) / (n.toInt64 &&& 4294967295), h) else none := by
  show (if pm_kd h a = 8 then (fX8_divide32 h a 7 m n).bind fun v4 => some ((v4.1, v4.2)) else none) = _
  rw [if_pos k]
  unfold fX8_divide32
  by_cases c : n = 0
  · rw [if_pos c, if_pos c, if_pos k]; rfl
  · rw [if_neg c, if_neg c, if_neg (by decide)]
    show ((if ¬ (n.toInt64 &&& 4294967295) = 0 then some (((m.toInt64 &&& 4294967295) / (n.toInt64 &&& 4294967295), h)) else none).bind fun v4 => some ((v4.1, v4.2))) = _
    split <;> rfl
theorem dC_9 {h : pm_H} {a : Nat} (k : pm_kd h a = 8) (m n : Int32) : fX8_whole32 h a 9 m n = if n = 0 then some (0, pm_setI h a 0 2) else if ¬ (n.toInt64 &&& 4294967295) = 0 then some ((m.toInt64 &&& 4294967295) - (m.toInt64 &&& 4294967295) / (n.toInt64 &&& 4294967295) * (n.toInt64 &&& 4294967295), h) else none := by
  show (if pm_kd h a = 8 then (fX8_divide32 h a 9 m n).bind fun v4 => some ((v4.1, v4.2)) else none) = _
  rw [if_pos k]
  unfold fX8_divide32
  by_cases c : n = 0
  · rw [if_pos c, if_pos c, if_pos k]; rfl
  · rw [if_neg c, if_neg c, if_neg (by decide)]
    show ((if ¬ (n.toInt64 &&& 4294967295) = 0 then some (((m.toInt64 &&& 4294967295) - (m.toInt64 &&& 4294967295) / (n.toInt64 &&& 4294967295) * (n.toInt64 &&& 4294967295), h)) else none).bind fun v4 => some ((v4.1, v4.2))) = _
    split <;> rfl
abbrev qS (k : Int32) (x y : Int64) : Prop := qD 32 q_lo (fun h => fX16_short32 h 592 k x.toInt32.toInt64 x y.toInt32.toInt64 y) (fun h a => fX8_whole32 h a k x.toInt32 y.toInt32)
abbrev qL (k : Int32) (x y : Int64) : Prop := qD 64 q_id (fun h => fX16_long64 h 592 k x y) (fun h a => fX8_whole64 h a k x y)
theorem qS_6 (x y : Int64) : qS 6 x y := by
  by_cases c : y.toInt32 = 0
  · refine qD_t (u := 0) (w := 0) 2 (by decide) (by decide) (by decide) (fun h k => ?_) (fun h a k => ?_)
    · rw [dS_6 k, c, show (0 : Int32).toInt64 = 0 from rfl, dR_0 k]; rfl
    · rw [dC_6 k, if_pos c]; rfl
  · have c6 : y.toInt32.toInt64 ≠ 0 := by rw [Ne, j3_0]; exact c
    by_cases d : x.toInt32 = -2147483648 ∧ y.toInt32 = -1
    · refine qD_t (u := -x.toInt32.toInt64) (w := 0) 3 (by decide) (by decide) (by decide) (fun h k => ?_) (fun h a k => ?_)
      · rw [dS_6 k, dR_s k c6, if_pos (by rw [d.2]; rfl), if_pos (by rw [d.1]; rfl)]; rfl
      · rw [dC_6 k, if_neg c, if_pos d]; rfl
    · refine qD_v q_lo_b (u := x.toInt32.toInt64 / y.toInt32.toInt64) (fun h k => ?_) (fun h a k => ?_) rfl
      · rw [dS_6 k, dR_s k c6]
        by_cases e : y.toInt32 = -1
        · rw [if_pos (by rw [e]; rfl), if_neg (by rw [j3_l]; exact fun q => d ⟨q, e⟩), e, show (-1 : Int32).toInt64 = -1 from rfl, jd_m1]; rfl
        · rw [if_neg (by rw [j3_m]; exact e)]; rfl
      · rw [dC_6 k, if_neg c, if_neg d]
theorem qS_8 (x y : Int64) : qS 8 x y := by
  by_cases c : y.toInt32 = 0
  · refine qD_t (u := 0) (w := 0) 2 (by decide) (by decide) (by decide) (fun h k => ?_) (fun h a k => ?_)
    · rw [dS_8 k, c, show (0 : Int32).toInt64 = 0 from rfl, dR_0 k]; rfl
    · rw [dC_8 k, if_pos c]; rfl
  · have c6 : y.toInt32.toInt64 ≠ 0 := by rw [Ne, j3_0]; exact c
    refine qD_v q_lo_b (u := x.toInt32.toInt64 - x.toInt32.toInt64 / y.toInt32.toInt64 * y.toInt32.toInt64) (fun h k => ?_) (fun h a k => ?_) rfl
    · rw [dS_8 k, dR_r c6]
      by_cases e : y.toInt32 = -1
      · rw [if_pos (by rw [e]; rfl), e, show (-1 : Int32).toInt64 = -1 from rfl, jd_r1]; rfl
      · rw [if_neg (by rw [j3_m]; exact e)]; rfl
    · rw [dC_8 k, if_neg c]
section US
variable {X Y : Nat}
theorem nu_o (hX : X < 4294967296) : (Int64.ofNat X).toInt32.toInt64 &&& 4294967295 = Int64.ofNat X := by rw [nu_t3, nu_ll, Nat.mod_eq_of_lt hX]
theorem nu_z (hX : X < 4294967296) : ((Int64.ofNat X).toInt32 = 0) = (X = 0) := by rw [ll_t3]; exact jn_eq (n := 0) hX (by decide)
theorem qS_7 (hX : X < 4294967296) (hY : Y < 4294967296) : qS 7 (Int64.ofNat X) (Int64.ofNat Y) := by
  by_cases c : Y = 0
  · have c1 : (Int64.ofNat Y).toInt32 = 0 := by rw [nu_z hY]; exact c
    refine qD_t (u := 0) (w := 0) 2 (by decide) (by decide) (by decide) (fun h k => ?_) (fun h a k => ?_)
    · rw [dS_7 k, c, show Int64.ofNat 0 = 0 from rfl, dR_0 k]; rfl
    · rw [dC_7 k, if_pos c1]; rfl
  · have c1 : (Int64.ofNat Y).toInt32 ≠ 0 := by rw [Ne, nu_z hY]; exact c
    have c6 : Int64.ofNat Y ≠ 0 := by rw [Ne, jl_z0 (by omega)]; exact c
    refine qD_v q_lo_b (u := Int64.ofNat (X / Y)) (w := Int64.ofNat (X / Y)) (fun h k => ?_) (fun h a k => ?_) rfl
    · rw [dS_7 k, dR_u c6, ju_div (by omega) (by omega) c]; rfl
    · rw [dC_7 k, if_neg c1, nu_o hX, nu_o hY, if_pos c6, ll_dv (by omega) (by omega)]
theorem qS_9 (hX : X < 4294967296) (hY : Y < 4294967296) : qS 9 (Int64.ofNat X) (Int64.ofNat Y) := by
  by_cases c : Y = 0
  · have c1 : (Int64.ofNat Y).toInt32 = 0 := by rw [nu_z hY]; exact c
    refine qD_t (u := 0) (w := 0) 2 (by decide) (by decide) (by decide) (fun h k => ?_) (fun h a k => ?_)
    · rw [dS_9 k, c, show Int64.ofNat 0 = 0 from rfl, dR_0 k]; rfl
    · rw [dC_9 k, if_pos c1]; rfl
  · have c1 : (Int64.ofNat Y).toInt32 ≠ 0 := by rw [Ne, nu_z hY]; exact c
    have c6 : Int64.ofNat Y ≠ 0 := by rw [Ne, jl_z0 (by omega)]; exact c
    refine qD_v q_lo_b (u := Int64.ofNat (X % Y)) (w := Int64.ofNat (X % Y)) (fun h k => ?_) (fun h a k => ?_) rfl
    · rw [dS_9 k, dR_v c6, ju_rem (by omega) (by omega) c]; rfl
    · rw [dC_9 k, if_neg c1, nu_o hX, nu_o hY, if_pos c6, ll_dv (by omega) (by omega), ll_ml, ll_sb (Nat.div_mul_le_self X Y)]
      congr 3
      have := Nat.mod_add_div X Y
      rw [Nat.mul_comm] at this
      omega
end US
