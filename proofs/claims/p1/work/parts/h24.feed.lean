/-! feed -/
/-- byte i of the twenty that feed writes -/
def pe_f20 (v1 v2 v3 v4 v5 : Int32) (i : Nat) : Int32 := pe_by (if i < 4 then v1 else if i < 8 then v2 else if i < 12 then v3 else if i < 16 then v4 else v5) (Int32.ofNat (i % 4))
theorem pe_w4 {f : Nat → Int32} {n : Nat} {v : Int32} (y : Nat) : (if y = n + 3 then pe_by v 3 else if y = n + 2 then pe_by v 2 else if y = n + 1 then pe_by v 1 else if y = n then pe_by v 0 else f y) = if n ≤ y ∧ y < n + 4 then pe_by v (Int32.ofNat (y - n)) else f y := by
  by_cases e3 : y = n + 3
  · have : y - n = 3 := by omega
    rw [if_pos e3, if_pos (by omega), this]; rfl
  · rw [if_neg e3]
    by_cases e2 : y = n + 2
    · have : y - n = 2 := by omega
      rw [if_pos e2, if_pos (by omega), this]; rfl
    · rw [if_neg e2]
      by_cases e1 : y = n + 1
      · have : y - n = 1 := by omega
        rw [if_pos e1, if_pos (by omega), this]; rfl
      · rw [if_neg e1]
        by_cases e0 : y = n
        · have : y - n = 0 := by omega
          rw [if_pos e0, if_pos (by omega), this]; rfl
        · rw [if_neg e0, if_neg (by omega)]
/-- the class's feed, where there is room -/
theorem cw_feed {h : pm_H} {a t n f : Nat} (v1 v2 v3 v4 v5 : Int32) (ka : pm_kd h a = 12) (ra : pm_R h a 0 = some t) (kt : pm_kd h t = 33) (lt : pm_ln h t = 40960) (i1 : pm_I h a 1 = Int32.ofNat n) (i2 : pm_I h a 2 = Int32.ofNat f) (hnf : n ≤ f) (hf : f ≤ 40940) : ∃ h', fX12_feed h a v1 v2 v3 v4 v5 = some (Int32.ofNat (n + 20), h') ∧ pe_S h h' ∧ (∀ x y, x ≠ t → x ≠ a → pm_I h' x y = pm_I h x y) ∧ (∀ y, pm_I h' a y = if y = 1 then Int32.ofNat (n + 20) else if y = 2 then Int32.ofNat (f + 20) else pm_I h a y) ∧ (∀ y, pm_I h' t y = if n ≤ y ∧ y < n + 20 then pe_f20 v1 v2 v3 v4 v5 (y - n) else pm_I h t y) := by
  have nta : t ≠ a := fun e => by rw [e, ka] at kt; cases kt
  have nat := Ne.symm nta
  have l2 : Int32.ofNat f ≤ 40940 := pe_le (n := 40940) hf (by decide)
  obtain ⟨w1, e1, S1, x1, y1⟩ := cw_writeF (h := h) (a := a) (t := t) (n := n) v1 ka ra kt lt (by omega)
  have k1 : pm_kd w1 a = 12 := (S1.2.1 a).trans ka
  obtain ⟨w2, e2, S2, x2, y2⟩ := cw_writeF (h := w1) (a := a) (t := t) (n := n + 4) v2 k1 ((S1.2.2.2.2 a 0).trans ra) ((S1.2.1 t).trans kt) ((S1.2.2.1 t).trans lt) (by omega)
  have T2 := pe_S_t S1 S2
  have k2 : pm_kd w2 a = 12 := (T2.2.1 a).trans ka
  obtain ⟨w3, e3, S3, x3, y3⟩ := cw_writeF (h := w2) (a := a) (t := t) (n := n + 8) v3 k2 ((T2.2.2.2.2 a 0).trans ra) ((T2.2.1 t).trans kt) ((T2.2.2.1 t).trans lt) (by omega)
  have T3 := pe_S_t T2 S3
  have k3 : pm_kd w3 a = 12 := (T3.2.1 a).trans ka
  obtain ⟨w4, e4, S4, x4, y4⟩ := cw_writeF (h := w3) (a := a) (t := t) (n := n + 12) v4 k3 ((T3.2.2.2.2 a 0).trans ra) ((T3.2.1 t).trans kt) ((T3.2.2.1 t).trans lt) (by omega)
  have T4 := pe_S_t T3 S4
  have k4 : pm_kd w4 a = 12 := (T4.2.1 a).trans ka
  obtain ⟨w5, e5, S5, x5, y5⟩ := cw_writeF (h := w4) (a := a) (t := t) (n := n + 16) v5 k4 ((T4.2.2.2.2 a 0).trans ra) ((T4.2.1 t).trans kt) ((T4.2.2.1 t).trans lt) (by omega)
  have T5 := pe_S_t T4 S5
  have k5 : pm_kd w5 a = 12 := (T5.2.1 a).trans ka
  have X1 := fun y => x1 a y nat
  have X2 := fun y => (x2 a y nat).trans (X1 y)
  have X3 := fun y => (x3 a y nat).trans (X2 y)
  have X4 := fun y => (x4 a y nat).trans (X3 y)
  have X5 := fun y => (x5 a y nat).trans (X4 y)
  have b1 : pm_I w1 a 1 + 4 = Int32.ofNat (n + 4) := by rw [X1 1, i1]; exact pe_ad n 4
  have b2 : pm_I w2 a 1 + 8 = Int32.ofNat (n + 8) := by rw [X2 1, i1]; exact pe_ad n 8
  have b3 : pm_I w3 a 1 + 12 = Int32.ofNat (n + 12) := by rw [X3 1, i1]; exact pe_ad n 12
  have b4 : pm_I w4 a 1 + 16 = Int32.ofNat (n + 16) := by rw [X4 1, i1]; exact pe_ad n 16
  have b5 : pm_I w5 a 2 + 20 = Int32.ofNat (f + 20) := by rw [X5 2, i2]; exact pe_ad f 20
  have b6 : pm_I w5 a 1 + 20 = Int32.ofNat (n + 20) := by rw [X5 1, i1]; exact pe_ad n 20
  have e : fX12_feed h a v1 v2 v3 v4 v5 = some (Int32.ofNat (n + 20), pm_setI (pm_setI w5 a 2 (Int32.ofNat (f + 20))) a 1 (Int32.ofNat (n + 20))) := by
    unfold fX12_feed
    rw [if_pos ka, i2, if_pos l2, i1, e1, Option.bind_some, if_pos k1, b1, e2, Option.bind_some, if_pos k2, b2, e3, Option.bind_some, if_pos k3, b3, e4, Option.bind_some, if_pos k4, b4, e5, Option.bind_some, if_pos k5, b5, ev_let, ev_II, if_pos rfl, if_neg (by decide), b6, ev_let, ev_II, if_pos rfl, if_pos rfl]
  refine ⟨_, e, T5, fun x y hx ha => ?_, fun y => ?_, fun y => ?_⟩
  · rw [ev_II, if_neg ha, ev_II, if_neg ha, x5 x y hx, x4 x y hx, x3 x y hx, x2 x y hx, x1 x y hx]
  · rw [ev_II, if_pos rfl, ev_II, if_pos rfl, X5 y]
  · rw [ev_II, if_neg nta, ev_II, if_neg nta, y5 y, pe_w4, y4 y, pe_w4, y3 y, pe_w4, y2 y, pe_w4, y1 y, pe_w4]
    by_cases c5 : n + 16 ≤ y ∧ y < n + 16 + 4
    · rw [if_pos c5, if_pos (by omega)]
      unfold pe_f20
      rw [if_neg (by omega), if_neg (by omega), if_neg (by omega), if_neg (by omega)]
      have : (y - n) % 4 = y - (n + 16) := by omega
      rw [this]
    · rw [if_neg c5]
      by_cases c4 : n + 12 ≤ y ∧ y < n + 12 + 4
      · rw [if_pos c4, if_pos (by omega)]
        unfold pe_f20
        rw [if_neg (by omega), if_neg (by omega), if_neg (by omega), if_pos (by omega)]
        have : (y - n) % 4 = y - (n + 12) := by omega
        rw [this]
      · rw [if_neg c4]
        by_cases c3 : n + 8 ≤ y ∧ y < n + 8 + 4
        · rw [if_pos c3, if_pos (by omega)]
          unfold pe_f20
          rw [if_neg (by omega), if_neg (by omega), if_pos (by omega)]
          have : (y - n) % 4 = y - (n + 8) := by omega
          rw [this]
        · rw [if_neg c3]
          by_cases c2 : n + 4 ≤ y ∧ y < n + 4 + 4
          · rw [if_pos c2, if_pos (by omega)]
            unfold pe_f20
            rw [if_neg (by omega), if_pos (by omega)]
            have : (y - n) % 4 = y - (n + 4) := by omega
            rw [this]
          · rw [if_neg c2]
            by_cases c1 : n ≤ y ∧ y < n + 4
            · rw [if_pos c1, if_pos (by omega)]
              unfold pe_f20
              rw [if_pos (by omega)]
              have : (y - n) % 4 = y - n := by omega
              rw [this]
            · rw [if_neg c1, if_neg (by omega)]
/-- byte i of the twenty that the Model's feed writes -/
def pe_g20 (v1 v2 v3 v4 v5 : Int32) (i : Nat) : Int32 := (fun v => if i % 4 = 3 then pe_bz v 0 else if i % 4 = 2 then pe_bz v 8 else if i % 4 = 1 then pe_bz v 16 else pe_bz v 24) (if i < 4 then v1 else if i < 8 then v2 else if i < 12 then v3 else if i < 16 then v4 else v5)
/-- the Model's feed, where there is room -/
theorem cw_feedM {h : pm_H} {a t n f : Nat} (v1 v2 v3 v4 v5 : Int32) (ka : pm_kd h a = 16) (ra : pm_R h a 0 = some t) (kt : pm_kd h t = 33) (lt : pm_ln h t = 40980) (i1 : pm_I h a 1 = Int32.ofNat n) (i2 : pm_I h a 2 = Int32.ofNat f) (hnf : n ≤ f) (hf : f ≤ 40940) : ∃ h', fX16_feed h a v1 v2 v3 v4 v5 = some (Int32.ofNat (n + 20), h') ∧ pe_S h h' ∧ (∀ x y, x ≠ t → x ≠ a → pm_I h' x y = pm_I h x y) ∧ (∀ y, pm_I h' a y = if y = 1 then Int32.ofNat (n + 20) else if y = 2 then Int32.ofNat (f + 20) else pm_I h a y) := by
  have nta : t ≠ a := fun e => by rw [e, ka] at kt; cases kt
  have b0 : Int32.ofNat f + 20 = Int32.ofNat (f + 20) := pe_ad f 20
  have l2 : Int32.ofNat (f + 20) ≤ 40960 := pe_le (n := 40960) (by omega) (by decide)
  have k0 : pm_kd (pm_setI h a 2 (Int32.ofNat (f + 20))) a = 16 := ka
  have j0 : pm_I (pm_setI h a 2 (Int32.ofNat (f + 20))) a 1 = Int32.ofNat n := by rw [ev_II, if_pos rfl, if_neg (by decide), i1]
  obtain ⟨w1, e1, S1, x1, m1, y1⟩ := cw_puts (h := pm_setI h a 2 (Int32.ofNat (f + 20))) (m := a) (t := t) (n := n) v1 k0 ra kt lt j0 (by omega)
  have k1 : pm_kd w1 a = 16 := (S1.2.1 a).trans ka
  obtain ⟨w2, e2, S2, x2, m2, y2⟩ := cw_puts (h := w1) (m := a) (t := t) (n := n + 4) v2 k1 ((S1.2.2.2.2 a 0).trans ra) ((S1.2.1 t).trans kt) ((S1.2.2.1 t).trans lt) ((m1 1).trans (if_pos rfl)) (by omega)
  have T2 := pe_S_t S1 S2
  have k2 : pm_kd w2 a = 16 := (T2.2.1 a).trans ka
  obtain ⟨w3, e3, S3, x3, m3, y3⟩ := cw_puts (h := w2) (m := a) (t := t) (n := n + 8) v3 k2 ((T2.2.2.2.2 a 0).trans ra) ((T2.2.1 t).trans kt) ((T2.2.2.1 t).trans lt) ((m2 1).trans (if_pos rfl)) (by omega)
  have T3 := pe_S_t T2 S3
  have k3 : pm_kd w3 a = 16 := (T3.2.1 a).trans ka
  obtain ⟨w4, e4, S4, x4, m4, y4⟩ := cw_puts (h := w3) (m := a) (t := t) (n := n + 12) v4 k3 ((T3.2.2.2.2 a 0).trans ra) ((T3.2.1 t).trans kt) ((T3.2.2.1 t).trans lt) ((m3 1).trans (if_pos rfl)) (by omega)
  have T4 := pe_S_t T3 S4
  have k4 : pm_kd w4 a = 16 := (T4.2.1 a).trans ka
  obtain ⟨w5, e5, S5, x5, m5, y5⟩ := cw_puts (h := w4) (m := a) (t := t) (n := n + 16) v5 k4 ((T4.2.2.2.2 a 0).trans ra) ((T4.2.1 t).trans kt) ((T4.2.2.1 t).trans lt) ((m4 1).trans (if_pos rfl)) (by omega)
  have T5 := pe_S_t T4 S5
  have k5 : pm_kd w5 a = 16 := (T5.2.1 a).trans ka
  have j5 : pm_I w5 a 1 = Int32.ofNat (n + 20) := (m5 1).trans (if_pos rfl)
  refine ⟨w5, ?_, T5, fun x y hx ha => ?_, fun y => ?_⟩
  · unfold fX16_feed
    rw [if_pos ka, i2, b0, if_pos l2, ev_let, e1, Option.bind_some, if_pos k1, e2, Option.bind_some, if_pos k2, e3, Option.bind_some, if_pos k3, e4, Option.bind_some, if_pos k4, e5, Option.bind_some, if_pos k5, j5]
  · rw [x5 x y hx ha, x4 x y hx ha, x3 x y hx ha, x2 x y hx ha, x1 x y hx ha, ev_II, if_neg ha]
  · rw [m5 y, m4 y, m3 y, m2 y, m1 y, ev_II, if_pos rfl]
    by_cases c : y = 1
    · rw [if_pos c, if_pos c]
    · rw [if_neg c, if_neg c, if_neg c, if_neg c, if_neg c, if_neg c]
theorem fr_s0 {h : pm_H} (p : pj_0 h) (q : Nat → Int32) : ∃ h', lw_s0 q 0 592 h = some h' := by
  have hR := fr_R p
  have hK := fr_k592 p
  have z1 := fr_z1 p
  obtain ⟨g, e1, S1, x1, y1, t1⟩ := cw_feed (h := h) (a := 0) (t := 1) (n := 0) (f := 0) (q 1) (q 2) (q 3) (q 4) (q 5) (fr_k0 p) (fr_r0_0 p) z1.1 z1.2.1 (fr_i0 p 1) (fr_i0 p 2) (Nat.le_refl _) (by decide)
  have r0 : pm_R h 592 0 = some 593 := (p.2.1.2.2.2.1 0).trans rfl
  have zt : pe_Z h 593 33 40980 := p.2.1.2.2.2.2.2.2.1
  have j1 : pm_I g 592 1 = Int32.ofNat 0 := (x1 592 1 (by decide) (by decide)).trans ((fr_i592 p 1).trans rfl)
  have j2 : pm_I g 592 2 = Int32.ofNat 0 := (x1 592 2 (by decide) (by decide)).trans ((fr_i592 p 2).trans rfl)
  obtain ⟨u, e2, S2, x2, y2⟩ := cw_feedM (h := g) (a := 592) (t := 593) (n := 0) (f := 0) (q 1) (q 2) (q 3) (q 4) (q 5) ((S1.2.1 592).trans hK) ((S1.2.2.2.2 592 0).trans r0) ((S1.2.1 593).trans zt.1) ((S1.2.2.1 593).trans zt.2.1) j1 j2 (Nat.le_refl _) (by decide)
  unfold lw_s0
  rw [e1, Option.bind_some, if_pos ⟨(S1.2.1 592).trans hK, pe_S_R S1 hR⟩, e2, Option.bind_some, if_pos ⟨rfl, pe_S_R S2 (pe_S_R S1 hR)⟩]
  exact ⟨_, rfl⟩
