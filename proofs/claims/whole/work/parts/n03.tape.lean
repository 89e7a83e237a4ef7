/-! BOTH TAPES ARE FED ALIKE -/
theorem by_eq (v : Int32) (k : Nat) (hk : k ≤ 24) (s : UInt32) (t : Int32) (hs : (s.toBitVec % 32).toNat = k) (ht : (t.toBitVec.smod 32).toNat = k) : ((v.toUInt32 >>> s).toInt32).toInt8 = (v >>> t).toInt8 := by
  apply Int8.toBitVec_inj.mp
  rw [Int32.toBitVec_toInt8, Int32.toBitVec_toInt8]
  apply BitVec.eq_of_getLsbD_eq
  intro i hi
  rw [BitVec.getLsbD_signExtend, BitVec.getLsbD_signExtend, Int32.toBitVec_shiftRight, BitVec.sshiftRight_eq', ht, BitVec.getLsbD_sshiftRight]
  have e : ((v.toUInt32 >>> s).toInt32).toBitVec = v.toBitVec >>> k := by
    show (v.toUInt32 >>> s).toBitVec = _
    rw [UInt32.toBitVec_shiftRight]
    show v.toBitVec >>> (s.toBitVec % 32) = _
    rw [BitVec.ushiftRight_eq', hs]
  rw [e, BitVec.getLsbD_ushiftRight]
  have h1 : i < 32 := by omega
  have h2 : k + i < 32 := by omega
  simp [h1, h2, hi]
theorem by_bz (v : Int32) : pe_by v 0 = pe_bz v 24 ∧ pe_by v 1 = pe_bz v 16 ∧ pe_by v 2 = pe_bz v 8 ∧ pe_by v 3 = pe_bz v 0 := by
  unfold pe_by pe_bz
  refine ⟨?_, ?_, ?_, ?_⟩
  · rw [by_eq v 24 (by decide) ((24 - (8 * (0 : Int32))).toUInt32 &&& Int32.toUInt32 31) ((24 : Int32) &&& 31) (by decide) (by decide)]
  · rw [by_eq v 16 (by decide) ((24 - (8 * (1 : Int32))).toUInt32 &&& Int32.toUInt32 31) ((16 : Int32) &&& 31) (by decide) (by decide)]
  · rw [by_eq v 8 (by decide) ((24 - (8 * (2 : Int32))).toUInt32 &&& Int32.toUInt32 31) ((8 : Int32) &&& 31) (by decide) (by decide)]
  · rw [by_eq v 0 (by decide) ((24 - (8 * (3 : Int32))).toUInt32 &&& Int32.toUInt32 31) ((0 : Int32) &&& 31) (by decide) (by decide)]
theorem pe_w4z {f : Nat → Int32} {n : Nat} {v : Int32} (y : Nat) : (if y = n + 3 then pe_bz v 0 else if y = n + 2 then pe_bz v 8 else if y = n + 1 then pe_bz v 16 else if y = n then pe_bz v 24 else f y) = if n ≤ y ∧ y < n + 4 then pe_by v (Int32.ofNat (y - n)) else f y := by
  obtain ⟨b0, b1, b2, b3⟩ := by_bz v
  rw [← b0, ← b1, ← b2, ← b3]
  exact pe_w4 y
theorem pe_f20_s {f : Nat → Int32} {n : Nat} (v1 v2 v3 v4 v5 : Int32) (y : Nat) : (if n + 16 ≤ y ∧ y < n + 16 + 4 then pe_by v5 (Int32.ofNat (y - (n + 16))) else if n + 12 ≤ y ∧ y < n + 12 + 4 then pe_by v4 (Int32.ofNat (y - (n + 12))) else if n + 8 ≤ y ∧ y < n + 8 + 4 then pe_by v3 (Int32.ofNat (y - (n + 8))) else if n + 4 ≤ y ∧ y < n + 4 + 4 then pe_by v2 (Int32.ofNat (y - (n + 4))) else if n ≤ y ∧ y < n + 4 then pe_by v1 (Int32.ofNat (y - n)) else f y) = if n ≤ y ∧ y < n + 20 then pe_f20 v1 v2 v3 v4 v5 (y - n) else f y := by
  by_cases c5 : n + 16 ≤ y ∧ y < n + 16 + 4
  · rw [if_pos c5, if_pos (by omega)]
    unfold pe_f20
    rw [if_neg (by omega), if_neg (by omega), if_neg (by omega), if_neg (by omega), show (y - n) % 4 = y - (n + 16) by omega]
  · rw [if_neg c5]
    by_cases c4 : n + 12 ≤ y ∧ y < n + 12 + 4
    · rw [if_pos c4, if_pos (by omega)]
      unfold pe_f20
      rw [if_neg (by omega), if_neg (by omega), if_neg (by omega), if_pos (by omega), show (y - n) % 4 = y - (n + 12) by omega]
    · rw [if_neg c4]
      by_cases c3 : n + 8 ≤ y ∧ y < n + 8 + 4
      · rw [if_pos c3, if_pos (by omega)]
        unfold pe_f20
        rw [if_neg (by omega), if_neg (by omega), if_pos (by omega), show (y - n) % 4 = y - (n + 8) by omega]
      · rw [if_neg c3]
        by_cases c2 : n + 4 ≤ y ∧ y < n + 4 + 4
        · rw [if_pos c2, if_pos (by omega)]
          unfold pe_f20
          rw [if_neg (by omega), if_pos (by omega), show (y - n) % 4 = y - (n + 4) by omega]
        · rw [if_neg c2]
          by_cases c1 : n ≤ y ∧ y < n + 4
          · rw [if_pos c1, if_pos (by omega)]
            unfold pe_f20
            rw [if_pos (by omega), show (y - n) % 4 = y - n by omega]
          · rw [if_neg c1, if_neg (by omega)]
/-- the reference's tape, told -/
theorem cw_feedT {h : pm_H} {a t n f : Nat} (v1 v2 v3 v4 v5 : Int32) (ka : pm_kd h a = 16) (ra : pm_R h a 0 = some t) (kt : pm_kd h t = 33) (lt : pm_ln h t = 40980) (i1 : pm_I h a 1 = Int32.ofNat n) (i2 : pm_I h a 2 = Int32.ofNat f) (hnf : n ≤ f) (hf : f ≤ 40940) : ∃ h', fX16_feed h a v1 v2 v3 v4 v5 = some (Int32.ofNat (n + 20), h') ∧ pe_S h h' ∧ (∀ x y, x ≠ t → x ≠ a → pm_I h' x y = pm_I h x y) ∧ (∀ y, pm_I h' a y = if y = 1 then Int32.ofNat (n + 20) else if y = 2 then Int32.ofNat (f + 20) else pm_I h a y) ∧ ∀ y, pm_I h' t y = if n ≤ y ∧ y < n + 20 then pe_f20 v1 v2 v3 v4 v5 (y - n) else pm_I h t y := by
  have nta : t ≠ a := fun e => by rw [e, ka] at kt; cases kt
  have b0 : Int32.ofNat f + 20 = Int32.ofNat (f + 20) := pe_ad f 20
  have l2 : Int32.ofNat (f + 20) ≤ 40960 := pe_le (n := 40960) (by omega) (by decide)
  have k0 : pm_kd (pm_setI h a 2 (Int32.ofNat (f + 20))) a = 16 := ka
  have j0 : pm_I (pm_setI h a 2 (Int32.ofNat (f + 20))) a 1 = Int32.ofNat n := by rw [ev_II, if_pos rfl, if_neg (by decide), i1]
  obtain ⟨w1, e1, S1, x1, m1, y1⟩ := cw_puts (h := pm_setI h a 2 (Int32.ofNat (f + 20))) (m := a) (t := t) (n := n) v1 k0 ra kt lt j0 (by omega)
  have k1 : pm_kd w1 a = 16 := (S1.2.1 a).trans ka
  obtain ⟨w2, e2, S2, x2, m2, y2⟩ := cw_puts (h := w1) (m := a) (t := t) (n := n + 4) v2 k1 ((S1.2.2.2.2 a 0).trans ra) ((S1.2.1 t).trans kt) ((S1.2.2.1 t).trans lt) ((m1 1).trans (if_pos rfl)) (by omega)
  have T2 := pe_S_t S1 S2
  have k2 : pm_kd w2 a = 16 := (T2.2.1 a).trans ka
  obtain ⟨w3, e3, S3, x3, m3, y3⟩ := cw_puts (h := w2) (m := a) (t := t) (n := n + 8) v3 k2 ((T2.2.2.2.2 a 0).trans ra) ((T2.2.1 t).trans kt) ((T2.2.2.1 t).trans lt) ((m2 1).trans (if_pos rfl)) (by omega)
  have T3 := pe_S_t T2 S3
  have k3 : pm_kd w3 a = 16 := (T3.2.1 a).trans ka
  obtain ⟨w4, e4, S4, x4, m4, y4⟩ := cw_puts (h := w3) (m := a) (t := t) (n := n + 12) v4 k3 ((T3.2.2.2.2 a 0).trans ra) ((T3.2.1 t).trans kt) ((T3.2.2.1 t).trans lt) ((m3 1).trans (if_pos rfl)) (by omega)
  have T4 := pe_S_t T3 S4
  have k4 : pm_kd w4 a = 16 := (T4.2.1 a).trans ka
  obtain ⟨w5, e5, S5, x5, m5, y5⟩ := cw_puts (h := w4) (m := a) (t := t) (n := n + 16) v5 k4 ((T4.2.2.2.2 a 0).trans ra) ((T4.2.1 t).trans kt) ((T4.2.2.1 t).trans lt) ((m4 1).trans (if_pos rfl)) (by omega)
  have T5 := pe_S_t T4 S5
  have k5 : pm_kd w5 a = 16 := (T5.2.1 a).trans ka
  have j5 : pm_I w5 a 1 = Int32.ofNat (n + 20) := (m5 1).trans (if_pos rfl)
  refine ⟨w5, ?_, T5, fun x y hx ha => ?_, fun y => ?_, fun y => ?_⟩
  · unfold fX16_feed
    rw [if_pos ka, i2, b0, if_pos l2, ev_let, e1, Option.bind_some, if_pos k1, e2, Option.bind_some, if_pos k2, e3, Option.bind_some, if_pos k3, e4, Option.bind_some, if_pos k4, e5, Option.bind_some, if_pos k5, j5]
  · rw [x5 x y hx ha, x4 x y hx ha, x3 x y hx ha, x2 x y hx ha, x1 x y hx ha, ev_II, if_neg ha]
  · rw [m5 y, m4 y, m3 y, m2 y, m1 y, ev_II, if_pos rfl]
    by_cases c : y = 1
    · rw [if_pos c, if_pos c]
    · rw [if_neg c, if_neg c, if_neg c, if_neg c, if_neg c, if_neg c]
  · rw [y5 y, pe_w4z, y4 y, pe_w4z, y3 y, pe_w4z, y2 y, pe_w4z, y1 y, pe_w4z, ev_II, if_neg nta]
    exact pe_f20_s v1 v2 v3 v4 v5 y
