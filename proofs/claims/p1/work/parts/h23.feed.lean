/-! feed: four bytes at a time -/
/-- two heaps that part only in ints -/
def pe_S (h h' : pm_H) : Prop := pm_sz h' = pm_sz h ∧ (∀ x, pm_kd h' x = pm_kd h x) ∧ (∀ x, pm_ln h' x = pm_ln h x) ∧ (∀ x y, pm_L h' x y = pm_L h x y) ∧ (∀ x y, pm_R h' x y = pm_R h x y)
theorem pe_S_r (h : pm_H) : pe_S h h := ⟨rfl, fun _ => rfl, fun _ => rfl, fun _ _ => rfl, fun _ _ => rfl⟩
theorem pe_S_t {h1 h2 h3 : pm_H} (p : pe_S h1 h2) (q : pe_S h2 h3) : pe_S h1 h3 := ⟨q.1.trans p.1, fun x => (q.2.1 x).trans (p.2.1 x), fun x => (q.2.2.1 x).trans (p.2.2.1 x), fun x y => (q.2.2.2.1 x y).trans (p.2.2.2.1 x y), fun x y => (q.2.2.2.2 x y).trans (p.2.2.2.2 x y)⟩
theorem pe_S_i {h h' : pm_H} (a k : Nat) (v : Int32) (p : pe_S h h') : pe_S h (pm_setI h' a k v) := p
theorem pe_S_us {h h' : pm_H} (p : pe_S h h') : pm_us h' = pm_us h := by
  rw [pu_us, pu_us, p.1]
  have : pu_s h' = pu_s h := by
    funext x
    unfold pu_s
    rw [p.2.1 x, p.2.2.1 x]
  rw [this]
theorem pe_S_R {h h' : pm_H} (p : pe_S h h') (r : pl_R h) : pl_R h' := ⟨by rw [p.1]; exact r.1, by rw [pe_S_us p]; exact r.2⟩
/-- the class's byte i of four -/
def pe_by (v : Int32) (i : Int32) : Int32 := vp_nar .byte (((v.toUInt32 >>> ((24 - (8 * i)).toUInt32 &&& Int32.toUInt32 31)).toInt32).toInt8.toInt32)
/-- the Model's byte that a shift by i gives -/
def pe_bz (v : Int32) (i : Int32) : Int32 := vp_nar .byte ((v >>> (i &&& 31)).toInt8.toInt32)
theorem pe_ad (n k : Nat) : Int32.ofNat n + Int32.ofNat k = Int32.ofNat (n + k) := (Int32.ofNat_add n k).symm
theorem pe_le {m n : Nat} (hm : m ≤ n) (hn : n < 2147483648) : Int32.ofNat m ≤ Int32.ofNat n := (Int32.ofNat_le_iff_le (by omega) (by omega)).mpr hm
theorem cw_write {h : pm_H} {a t n : Nat} (v : Int32) (ka : pm_kd h a = 12) (ra : pm_R h a 0 = some t) (kt : pm_kd h t = 33) (lt : pm_ln h t = 40960) (hn : n + 4 ≤ 40960) : fX12_write h a v (Int32.ofNat n) = some (pm_setI (pm_setI (pm_setI (pm_setI h t n (pe_by v 0)) t (n + 1) (pe_by v 1)) t (n + 2) (pe_by v 2)) t (n + 3) (pe_by v 3)) := by
  have n0 : ¬ Int32.ofNat n < 0 := pe_nlt (m := 0) (n := n) (by omega) (by omega)
  have l0 : Int32.ofNat n ≤ Int32.ofNat 40960 - 4 := by
    have e : Int32.ofNat 40960 - 4 = Int32.ofNat 40956 := by decide
    rw [e]; exact pe_le (by omega) (by decide)
  have a0 : Int32.ofNat n + 0 = Int32.ofNat n := pe_ad n 0
  have a1 : Int32.ofNat n + 1 = Int32.ofNat (n + 1) := pe_ad n 1
  have a2 : Int32.ofNat n + 2 = Int32.ofNat (n + 2) := pe_ad n 2
  have a3 : Int32.ofNat n + 3 = Int32.ofNat (n + 3) := pe_ad n 3
  have p0 : pm_in (Int32.ofNat n) 40960 = True := eq_true (pe_in (by decide) (by omega))
  have p1 : pm_in (Int32.ofNat (n + 1)) 40960 = True := eq_true (pe_in (by decide) (by omega))
  have p2 : pm_in (Int32.ofNat (n + 2)) 40960 = True := eq_true (pe_in (by decide) (by omega))
  have p3 : pm_in (Int32.ofNat (n + 3)) 40960 = True := eq_true (pe_in (by decide) (by omega))
  have c0 : (Int32.ofNat n).toNatClampNeg = n := pe_cm (by omega)
  have c1 : (Int32.ofNat (n + 1)).toNatClampNeg = n + 1 := pe_cm (by omega)
  have c2 : (Int32.ofNat (n + 2)).toNatClampNeg = n + 2 := pe_cm (by omega)
  have c3 : (Int32.ofNat (n + 3)).toNatClampNeg = n + 3 := pe_cm (by omega)
  have q0 : ((4 : Int32) ≤ 0) = False := eq_false (by decide)
  have q1 : ((4 : Int32) ≤ 1) = False := eq_false (by decide)
  have q2 : ((4 : Int32) ≤ 2) = False := eq_false (by decide)
  have q3 : ((4 : Int32) ≤ 3) = False := eq_false (by decide)
  have q4 : ((4 : Int32) ≤ 4) = True := eq_true (by decide)
  have s0 : (0 : Int32) + 1 = 1 := by decide
  have s1 : (1 : Int32) + 1 = 2 := by decide
  have s2 : (2 : Int32) + 1 = 3 := by decide
  have s3 : (3 : Int32) + 1 = 4 := by decide
  unfold fX12_write
  rw [if_neg n0, if_pos ka, ra, Option.bind_some, if_pos kt, lt, if_pos l0]
  rw [ev_lim]; simp only [sX12_write, tX12_write_18, q0, ka, ra, kt, lt, a0, p0, c0, s0, if_true, if_false, Option.bind_some, ev_let, ev_kdI, ev_RI, ev_lnI]
  rw [ev_lim]; simp only [sX12_write, tX12_write_18, q1, ka, ra, kt, lt, a1, p1, c1, s1, if_true, if_false, Option.bind_some, ev_let, ev_kdI, ev_RI, ev_lnI]
  rw [ev_lim]; simp only [sX12_write, tX12_write_18, q2, ka, ra, kt, lt, a2, p2, c2, s2, if_true, if_false, Option.bind_some, ev_let, ev_kdI, ev_RI, ev_lnI]
  rw [ev_lim]; simp only [sX12_write, tX12_write_18, q3, ka, ra, kt, lt, a3, p3, c3, s3, if_true, if_false, Option.bind_some, ev_let, ev_kdI, ev_RI, ev_lnI]
  rw [ev_lim]; simp only [sX12_write, tX12_write_18, q4, if_true, Option.bind_some]
  rfl
theorem cw_writeF {h : pm_H} {a t n : Nat} (v : Int32) (ka : pm_kd h a = 12) (ra : pm_R h a 0 = some t) (kt : pm_kd h t = 33) (lt : pm_ln h t = 40960) (hn : n + 4 ≤ 40960) : ∃ h', fX12_write h a v (Int32.ofNat n) = some h' ∧ pe_S h h' ∧ (∀ x y, x ≠ t → pm_I h' x y = pm_I h x y) ∧ (∀ y, pm_I h' t y = if y = n + 3 then pe_by v 3 else if y = n + 2 then pe_by v 2 else if y = n + 1 then pe_by v 1 else if y = n then pe_by v 0 else pm_I h t y) := by
  refine ⟨_, cw_write v ka ra kt lt hn, ⟨rfl, fun _ => rfl, fun _ => rfl, fun _ _ => rfl, fun _ _ => rfl⟩, fun x y hx => ?_, fun y => ?_⟩
  · simp only [ev_II, if_neg hx]
  · simp only [ev_II, if_true]
theorem cw_puts {h : pm_H} {m t n : Nat} (v : Int32) (km : pm_kd h m = 16) (rm : pm_R h m 0 = some t) (kt : pm_kd h t = 33) (lt : pm_ln h t = 40980) (im : pm_I h m 1 = Int32.ofNat n) (hn : n + 4 ≤ 40980) : ∃ h', fX16_puts h m v = some h' ∧ pe_S h h' ∧ (∀ x y, x ≠ t → x ≠ m → pm_I h' x y = pm_I h x y) ∧ (∀ y, pm_I h' m y = if y = 1 then Int32.ofNat (n + 4) else pm_I h m y) ∧ (∀ y, pm_I h' t y = if y = n + 3 then pe_bz v 0 else if y = n + 2 then pe_bz v 8 else if y = n + 1 then pe_bz v 16 else if y = n then pe_bz v 24 else pm_I h t y) := by
  have ntm : t ≠ m := fun e => by rw [e, km] at kt; cases kt
  have nmt : (m = t) = False := eq_false (Ne.symm ntm)
  have p0 : pm_in (Int32.ofNat n) 40980 = True := eq_true (pe_in (by decide) (by omega))
  have p1 : pm_in (Int32.ofNat (n + 1)) 40980 = True := eq_true (pe_in (by decide) (by omega))
  have p2 : pm_in (Int32.ofNat (n + 2)) 40980 = True := eq_true (pe_in (by decide) (by omega))
  have p3 : pm_in (Int32.ofNat (n + 3)) 40980 = True := eq_true (pe_in (by decide) (by omega))
  have c0 : (Int32.ofNat n).toNatClampNeg = n := pe_cm (by omega)
  have c1 : (Int32.ofNat (n + 1)).toNatClampNeg = n + 1 := pe_cm (by omega)
  have c2 : (Int32.ofNat (n + 2)).toNatClampNeg = n + 2 := pe_cm (by omega)
  have c3 : (Int32.ofNat (n + 3)).toNatClampNeg = n + 3 := pe_cm (by omega)
  have q0 : ((24 : Int32) < 0) = False := eq_false (by decide)
  have q1 : ((16 : Int32) < 0) = False := eq_false (by decide)
  have q2 : ((8 : Int32) < 0) = False := eq_false (by decide)
  have q3 : ((0 : Int32) < 0) = False := eq_false (by decide)
  have q4 : ((-8 : Int32) < 0) = True := eq_true (by decide)
  have s0 : (24 : Int32) + (-8) = 16 := by decide
  have s1 : (16 : Int32) + (-8) = 8 := by decide
  have s2 : (8 : Int32) + (-8) = 0 := by decide
  have s3 : (0 : Int32) + (-8) = -8 := by decide
  have t0 := pe_s n
  have t1 := pe_s (n + 1)
  have t2 := pe_s (n + 2)
  have t3 := pe_s (n + 3)
  have e : fX16_puts h m v = some (pm_setI (pm_setI (pm_setI (pm_setI (pm_setI (pm_setI (pm_setI (pm_setI h t n (pe_bz v 24)) m 1 (Int32.ofNat (n + 1))) t (n + 1) (pe_bz v 16)) m 1 (Int32.ofNat (n + 2))) t (n + 2) (pe_bz v 8)) m 1 (Int32.ofNat (n + 3))) t (n + 3) (pe_bz v 0)) m 1 (Int32.ofNat (n + 4))) := by
    unfold fX16_puts
    rw [ev_lim]; simp only [sX16_puts, tX16_puts_3, q0, km, rm, kt, lt, im, p0, c0, s0, t0, if_true, if_false, Option.bind_some, ev_let, ev_kdI, ev_RI, ev_lnI, ev_II, nmt]
    rw [ev_lim]; simp only [sX16_puts, tX16_puts_3, q1, km, rm, kt, lt, p1, c1, s1, t1, if_true, if_false, Option.bind_some, ev_let, ev_kdI, ev_RI, ev_lnI, ev_II, nmt]
    rw [ev_lim]; simp only [sX16_puts, tX16_puts_3, q2, km, rm, kt, lt, p2, c2, s2, t2, if_true, if_false, Option.bind_some, ev_let, ev_kdI, ev_RI, ev_lnI, ev_II, nmt]
    rw [ev_lim]; simp only [sX16_puts, tX16_puts_3, q3, km, rm, kt, lt, p3, c3, s3, t3, if_true, if_false, Option.bind_some, ev_let, ev_kdI, ev_RI, ev_lnI, ev_II, nmt]
    rw [ev_lim]; simp only [sX16_puts, tX16_puts_3, q4, if_true, Option.bind_some]
    rfl
  refine ⟨_, e, ⟨rfl, fun _ => rfl, fun _ => rfl, fun _ _ => rfl, fun _ _ => rfl⟩, fun x y hx hm => ?_, fun y => ?_, fun y => ?_⟩
  · simp only [ev_II, if_neg hx, if_neg hm]
  · simp only [ev_II, nmt, if_true, if_false]
    by_cases ey : y = 1
    · simp only [if_pos ey]
    · simp only [if_neg ey]
  · simp only [ev_II, eq_false ntm, if_true, if_false]
