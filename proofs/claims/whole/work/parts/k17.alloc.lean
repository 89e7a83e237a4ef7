/-! THE CLASS READS: what is made on the way -/
/-- a new cell of kind k, of length n; all others stay -/
def nA (h h' : pm_H) (k n : Nat) : Prop := pm_sz h' = pm_sz h + 1 ∧ pm_kd h' (pm_sz h) = k ∧ pm_ln h' (pm_sz h) = n ∧ ∀ y, y ≠ pm_sz h → pm_kd h' y = pm_kd h y ∧ pm_ln h' y = pm_ln h y ∧ pm_I h' y = pm_I h y ∧ pm_L h' y = pm_L h y ∧ pm_R h' y = pm_R h y
theorem nA_new (h : pm_H) (k n : Nat) : nA h (pm_new h k n) k n := by
  refine ⟨rfl, by rw [ev_kdN, if_pos rfl], by rw [ev_lnN, if_pos rfl], fun y hy => ⟨by rw [ev_kdN, if_neg hy], by rw [ev_lnN, if_neg hy], ?_, ?_, ?_⟩⟩
  · funext z; rw [ev_IN, if_neg hy]
  · funext z; rw [ev_LN, if_neg hy]
  · funext z; rw [ev_RN, if_neg hy]
theorem nA_cl (h : pm_H) (x t : Nat) : nA h (pm_cl h x t) (t + 32) (pm_ln h x) := by
  refine ⟨rfl, ?_, ?_, fun y hy => ⟨?_, ?_, ?_, ?_, ?_⟩⟩
  · show (if pm_sz h = pm_sz h then _ else _) = _; rw [if_pos rfl]
  · show (if pm_sz h = pm_sz h then _ else _) = _; rw [if_pos rfl]
  · show (if y = pm_sz h then _ else _) = _; rw [if_neg hy]
  · show (if y = pm_sz h then _ else _) = _; rw [if_neg hy]
  · funext z; show (if y = pm_sz h then _ else _) = _; rw [if_neg hy]
  · funext z; show (if y = pm_sz h then _ else _) = _; rw [if_neg hy]
  · funext z; show (if y = pm_sz h then _ else _) = _; rw [if_neg hy]
theorem rc_N {h : pm_H} (h19 : 19 < pm_sz h) (p f q : Int32) (k n : Nat) : pm_new (rc h p f q) k n = rc (pm_new h k n) p f q := by
  refine congrArg (fun z => (pm_sz h + 1, pm_u1 (pm_kd h) (pm_sz h) k, pm_u1 (pm_ln h) (pm_sz h) n, z, pm_row (pm_L h) (pm_sz h) (fun _ => 0), pm_row (pm_R h) (pm_sz h) (fun _ => none))) (funext fun x => funext fun y => ?_)
  show (if x = pm_sz h then 0 else (if x = 19 then (if y = 1 then p else if y = 3 then f else if y = 4 then q else pm_I h x y) else pm_I h x y)) = (if x = 19 then (if y = 1 then p else if y = 3 then f else if y = 4 then q else (if x = pm_sz h then 0 else pm_I h x y)) else (if x = pm_sz h then 0 else pm_I h x y))
  by_cases c : x = 19
  · rw [if_neg (show ¬ x = pm_sz h by omega), if_pos c, if_pos c, if_neg (show ¬ x = pm_sz h by omega)]
  · rw [if_neg c, if_neg c]
theorem rc_C {h : pm_H} (h19 : 19 < pm_sz h) {x0 : Nat} (hx : x0 ≠ 19) (p f q : Int32) (t : Nat) : pm_cl (rc h p f q) x0 t = rc (pm_cl h x0 t) p f q := by
  refine congrArg (fun z => (pm_sz h + 1, pm_u1 (pm_kd h) (pm_sz h) (t + 32), pm_u1 (pm_ln h) (pm_sz h) (pm_ln h x0), z, pm_row (pm_L h) (pm_sz h) (pm_L h x0), pm_row (pm_R h) (pm_sz h) (pm_R h x0))) (funext fun x => funext fun y => ?_)
  show (if x = pm_sz h then pm_I (rc h p f q) x0 y else (if x = 19 then (if y = 1 then p else if y = 3 then f else if y = 4 then q else pm_I h x y) else pm_I h x y)) = (if x = 19 then (if y = 1 then p else if y = 3 then f else if y = 4 then q else (if x = pm_sz h then pm_I h x0 y else pm_I h x y)) else (if x = pm_sz h then pm_I h x0 y else pm_I h x y))
  rw [rc_x _ _ _ _ hx]
  by_cases c : x = 19
  · rw [if_neg (show ¬ x = pm_sz h by omega), if_pos c, if_pos c, if_neg (show ¬ x = pm_sz h by omega)]
  · rw [if_neg c, if_neg c]
theorem rc_P {h : pm_H} {x0 x1 : Nat} (h0 : x0 ≠ 19) (h1 : x1 ≠ 19) (p f q : Int32) (sp dp n : Nat) : pm_cpI (rc h p f q) x0 sp x1 dp n = rc (pm_cpI h x0 sp x1 dp n) p f q := by
  refine congrArg (fun z => (pm_sz h, pm_kd h, pm_ln h, z, pm_L h, pm_R h)) (funext fun x => funext fun y => ?_)
  show (if x = x1 then va_cpy (pm_I (rc h p f q) x0) (pm_I (rc h p f q) x1) sp dp n y else (if x = 19 then (if y = 1 then p else if y = 3 then f else if y = 4 then q else pm_I h x y) else pm_I h x y)) = (if x = 19 then (if y = 1 then p else if y = 3 then f else if y = 4 then q else (if x = x1 then va_cpy (pm_I h x0) (pm_I h x1) sp dp n y else pm_I h x y)) else (if x = x1 then va_cpy (pm_I h x0) (pm_I h x1) sp dp n y else pm_I h x y))
  rw [rc_x _ _ _ _ h0, rc_x _ _ _ _ h1]
  by_cases c : x = 19
  · rw [if_neg (show ¬ x = x1 by omega), if_pos c, if_pos c, if_neg (show ¬ x = x1 by omega)]
  · rw [if_neg c, if_neg c]
section CPY
variable {h : pm_H} {x0 m : Nat} {a f q : Int32}
theorem min_n {m n : Nat} (hm : m < 2147483648) (hn : n < 2147483648) : (if Int32.ofNat m < Int32.ofNat n then Int32.ofNat m else Int32.ofNat n) = Int32.ofNat (if m < n then m else n) := by
  by_cases c : m < n
  · rw [if_pos c, if_pos (by rw [nn_lt hm hn]; exact c)]
  · rw [if_neg c, if_neg (by rw [nn_lt hm hn]; exact c)]
theorem cpy3 (h19 : 19 < pm_sz h) (k : pm_kd h x0 = 34) (hx : x0 ≠ 19) (hs : x0 < pm_sz h) (hl : pm_ln h x0 < 134217728) (hm : m ≤ 134217728) : ∃ h', fJ7_copyOf_59c91 (rc h a f q) x0 (Int32.ofNat m) = some (pm_sz h, rc h' a f q) ∧ nA h h' 34 m ∧ ∀ y, y < m → pm_I h' (pm_sz h) y = if y < pm_ln h x0 then pm_I h x0 y else 0 := by
  unfold fJ7_copyOf_59c91 fJ7_copyOf_59c91_b0
  by_cases c : m = pm_ln h x0
  · refine ⟨pm_cl h x0 2, e9_t k (e9_t (show Int32.ofNat m = Int32.ofNat (pm_ln h x0) by rw [c]) ?_), by rw [c]; exact nA_cl h x0 2, fun y hy => ?_⟩
    · rw [rc_C h19 hx]
      unfold fJ7_copyOf_59c91_b10
      exact e9_t (show pm_kd (pm_cl h x0 2) (pm_sz h) = 34 from (nA_cl h x0 2).2.1) rfl
    · rw [if_pos (by omega)]
      show (if pm_sz h = pm_sz h then pm_I h x0 y else _) = _
      rw [if_pos rfl]
  · obtain ⟨n1, n2, n3, n4⟩ := nA_new h 34 m
    have hne : x0 ≠ pm_sz h := by omega
    have lx : pm_ln (pm_new h 34 m) x0 = pm_ln h x0 := (n4 x0 hne).2.1
    refine ⟨pm_cpI (pm_new h 34 m) x0 0 (pm_sz h) 0 (if m < pm_ln h x0 then m else pm_ln h x0), e9_t k (e9_f (show ¬ Int32.ofNat m = Int32.ofNat (pm_ln h x0) by rw [nn_eq (by omega) (by omega)]; exact c) (e9_t (show ¬ Int32.ofNat m < 0 ∧ (Int32.ofNat m).toNatClampNeg * 4 ≤ 536870912 from ⟨by rw [n3_0, nn_lt (by omega) (by decide)]; omega, by rw [nn_cm (by omega)]; omega⟩) ?_)), ⟨n1, n2, n3, fun y hy => ?_⟩, fun y hy => ?_⟩
    · rw [rc_N h19, nn_cm (show m < 2147483648 by omega)]
      unfold fJ7_copyOf_59c91_b17
      rw [show pm_ln (rc (pm_new h 34 m) a f q) x0 = pm_ln h x0 from lx, min_n (by omega) (by omega), show pm_ln (rc (pm_new h 34 m) a f q) (pm_sz (rc h a f q)) = m from n3]
      have mn : (if m < pm_ln h x0 then m else pm_ln h x0) ≤ m ∧ (if m < pm_ln h x0 then m else pm_ln h x0) ≤ pm_ln h x0 := by split <;> omega
      refine e9_t (show pm_kd (pm_new h 34 m) x0 = 34 from (n4 x0 hne).1.trans k) (e9_t n2 (e9_t ⟨by decide, by decide, ?_, ?_, ?_⟩ ?_))
      · rw [n3_0, nn_lt (by omega) (by decide)]; omega
      · rw [show ((0 : Int32)).toNatClampNeg = 0 from rfl, nn_cm (by omega)]; omega
      · rw [show ((0 : Int32)).toNatClampNeg = 0 from rfl, nn_cm (by omega)]; omega
      · rw [nn_cm (by omega), show ((0 : Int32)).toNatClampNeg = 0 from rfl, rc_P hx (show pm_sz (rc h a f q) ≠ 19 by show pm_sz h ≠ 19; omega)]
        rfl
    · obtain ⟨k1, k2, k3, k4, k5⟩ := n4 y hy
      refine ⟨k1, k2, ?_, k4, k5⟩
      funext z
      show (if y = pm_sz h then _ else pm_I (pm_new h 34 m) y z) = _
      rw [if_neg hy, k3]
    · show (if pm_sz h = pm_sz h then va_cpy (pm_I (pm_new h 34 m) x0) (pm_I (pm_new h 34 m) (pm_sz h)) 0 0 (if m < pm_ln h x0 then m else pm_ln h x0) y else _) = _
      rw [if_pos rfl]
      show (if 0 ≤ y ∧ y < 0 + (if m < pm_ln h x0 then m else pm_ln h x0) then pm_I (pm_new h 34 m) x0 (0 + (y - 0)) else pm_I (pm_new h 34 m) (pm_sz h) y) = _
      rw [(n4 x0 hne).2.2.1, ev_IN, if_pos rfl, show 0 + (y - 0) = y by omega]
      by_cases cy : y < pm_ln h x0
      · rw [if_pos cy, if_pos ⟨Nat.zero_le _, by split <;> omega⟩]
      · rw [if_neg cy, if_neg (fun z => by have := z.2; split at this <;> omega)]
theorem cpy6 (h19 : 19 < pm_sz h) (k : pm_kd h x0 = 35) (hs : x0 < pm_sz h) (hx : x0 ≠ 19) (hl : pm_ln h x0 < 67108864) (hm : m ≤ 67108864) : ∃ h', fJ7_copyOf_c38d5 (rc h a f q) x0 (Int32.ofNat m) = some (pm_sz h, rc h' a f q) ∧ nA h h' 35 m ∧ (∀ y, y < m → pm_L h' (pm_sz h) y = if y < pm_ln h x0 then pm_L h x0 y else 0) ∧ ∀ y, pm_ln h x0 ≤ y → y < m → pm_I h' (pm_sz h) y = 0 := by
  unfold fJ7_copyOf_c38d5 fJ7_copyOf_c38d5_b0
  by_cases c : m = pm_ln h x0
  · refine ⟨pm_cl h x0 3, e9_t k (e9_t (show Int32.ofNat m = Int32.ofNat (pm_ln h x0) by rw [c]) ?_), by rw [c]; exact nA_cl h x0 3, fun y hy => ?_, fun y h1 h2 => by omega⟩
    · rw [rc_C h19 hx]
      unfold fJ7_copyOf_c38d5_b10
      exact e9_t (show pm_kd (pm_cl h x0 3) (pm_sz h) = 35 from (nA_cl h x0 3).2.1) rfl
    · rw [if_pos (by omega)]
      show (if pm_sz h = pm_sz h then pm_L h x0 y else _) = _
      rw [if_pos rfl]
  · obtain ⟨n1, n2, n3, n4⟩ := nA_new h 35 m
    have hne : x0 ≠ pm_sz h := by omega
    have lx : pm_ln (pm_new h 35 m) x0 = pm_ln h x0 := (n4 x0 hne).2.1
    refine ⟨pm_cpL (pm_new h 35 m) x0 0 (pm_sz h) 0 (if m < pm_ln h x0 then m else pm_ln h x0), e9_t k (e9_f (show ¬ Int32.ofNat m = Int32.ofNat (pm_ln h x0) by rw [nn_eq (by omega) (by omega)]; exact c) (e9_t (show ¬ Int32.ofNat m < 0 ∧ (Int32.ofNat m).toNatClampNeg * 8 ≤ 536870912 from ⟨by rw [n3_0, nn_lt (by omega) (by decide)]; omega, by rw [nn_cm (by omega)]; omega⟩) ?_)), ⟨n1, n2, n3, fun y hy => ?_⟩, fun y hy => ?_, fun y _ _ => ?_⟩
    · rw [rc_N h19, nn_cm (show m < 2147483648 by omega)]
      unfold fJ7_copyOf_c38d5_b17
      rw [show pm_ln (rc (pm_new h 35 m) a f q) x0 = pm_ln h x0 from lx, min_n (by omega) (by omega), show pm_ln (rc (pm_new h 35 m) a f q) (pm_sz (rc h a f q)) = m from n3]
      have mn : (if m < pm_ln h x0 then m else pm_ln h x0) ≤ m ∧ (if m < pm_ln h x0 then m else pm_ln h x0) ≤ pm_ln h x0 := by split <;> omega
      refine e9_t (show pm_kd (pm_new h 35 m) x0 = 35 from (n4 x0 hne).1.trans k) (e9_t n2 (e9_t ⟨by decide, by decide, ?_, ?_, ?_⟩ ?_))
      · rw [n3_0, nn_lt (by omega) (by decide)]; omega
      · rw [show ((0 : Int32)).toNatClampNeg = 0 from rfl, nn_cm (by omega)]; omega
      · rw [show ((0 : Int32)).toNatClampNeg = 0 from rfl, nn_cm (by omega)]; omega
      · rw [nn_cm (by omega), show ((0 : Int32)).toNatClampNeg = 0 from rfl]
        rfl
    · obtain ⟨k1, k2, k3, k4, k5⟩ := n4 y hy
      refine ⟨k1, k2, k3, ?_, k5⟩
      funext z
      show (if y = pm_sz h then _ else pm_L (pm_new h 35 m) y z) = _
      rw [if_neg hy, k4]
    · show (if pm_sz h = pm_sz h then va_cpy (pm_L (pm_new h 35 m) x0) (pm_L (pm_new h 35 m) (pm_sz h)) 0 0 (if m < pm_ln h x0 then m else pm_ln h x0) y else _) = _
      rw [if_pos rfl]
      show (if 0 ≤ y ∧ y < 0 + (if m < pm_ln h x0 then m else pm_ln h x0) then pm_L (pm_new h 35 m) x0 (0 + (y - 0)) else pm_L (pm_new h 35 m) (pm_sz h) y) = _
      rw [(n4 x0 hne).2.2.2.1, ev_LN, if_pos rfl, show 0 + (y - 0) = y by omega]
      by_cases cy : y < pm_ln h x0
      · rw [if_pos cy, if_pos ⟨Nat.zero_le _, by split <;> omega⟩]
      · rw [if_neg cy, if_neg (fun z => by have := z.2; split at this <;> omega)]
    · show pm_I (pm_new h 35 m) (pm_sz h) y = 0
      rw [ev_IN, if_pos rfl]
end CPY
/-- since h cells may have been made; of the old ones only what is named was written -/
def nW (AI AL AR : Nat → Nat → Prop) (h h' : pm_H) : Prop := pm_sz h ≤ pm_sz h' ∧ (∀ y, y < pm_sz h → pm_kd h' y = pm_kd h y ∧ pm_ln h' y = pm_ln h y) ∧ (∀ x y, x < pm_sz h → ¬ AI x y → pm_I h' x y = pm_I h x y) ∧ (∀ x y, x < pm_sz h → ¬ AL x y → pm_L h' x y = pm_L h x y) ∧ ∀ x y, x < pm_sz h → ¬ AR x y → pm_R h' x y = pm_R h x y
section NWS
variable {AI AL AR BI BL BR : Nat → Nat → Prop} {a b c h : pm_H}
theorem nW_r (h : pm_H) : nW AI AL AR h h := ⟨Nat.le_refl _, fun _ _ => ⟨rfl, rfl⟩, fun _ _ _ _ => rfl, fun _ _ _ _ => rfl, fun _ _ _ _ => rfl⟩
theorem nW_t (p : nW AI AL AR a b) (q : nW AI AL AR b c) : nW AI AL AR a c := by
  have hs := p.1
  refine ⟨Nat.le_trans p.1 q.1, fun y hy => ?_, fun x y hx n => ?_, fun x y hx n => ?_, fun x y hx n => ?_⟩
  · have := q.2.1 y (by omega)
    have h2 := p.2.1 y hy
    exact ⟨this.1.trans h2.1, this.2.trans h2.2⟩
  · exact (q.2.2.1 x y (by omega) n).trans (p.2.2.1 x y hx n)
  · exact (q.2.2.2.1 x y (by omega) n).trans (p.2.2.2.1 x y hx n)
  · exact (q.2.2.2.2 x y (by omega) n).trans (p.2.2.2.2 x y hx n)
theorem nW_m (p : nW AI AL AR a b) (i : ∀ x y, x < pm_sz a → AI x y → BI x y) (l : ∀ x y, x < pm_sz a → AL x y → BL x y) (r : ∀ x y, x < pm_sz a → AR x y → BR x y) : nW BI BL BR a b := ⟨p.1, p.2.1, fun x y hx n => p.2.2.1 x y hx (fun z => n (i x y hx z)), fun x y hx n => p.2.2.2.1 x y hx (fun z => n (l x y hx z)), fun x y hx n => p.2.2.2.2 x y hx (fun z => n (r x y hx z))⟩
theorem nW_g (g : gF AI AL a b) : nW AI AL AR a b := ⟨Nat.le_of_eq g.1.symm, fun y _ => ⟨congrFun g.2.1 y, congrFun g.2.2.1 y⟩, fun x y _ n => g.2.2.2.2.1 x y n, fun x y _ n => g.2.2.2.2.2 x y n, fun x y _ _ => congrFun (congrFun g.2.2.2.1 x) y⟩
theorem nW_A {k n : Nat} (z : nA a b k n) : nW AI AL AR a b := by
  have hs := z.1
  refine ⟨by omega, fun y hy => ?_, fun x y hx _ => ?_, fun x y hx _ => ?_, fun x y hx _ => ?_⟩
  · exact ⟨(z.2.2.2 y (by omega)).1, (z.2.2.2 y (by omega)).2.1⟩
  · rw [(z.2.2.2 x (by omega)).2.2.1]
  · rw [(z.2.2.2 x (by omega)).2.2.2.1]
  · rw [(z.2.2.2 x (by omega)).2.2.2.2]
theorem nW_I (g : nW AI AL AR a b) {x k : Nat} {v : Int32} (z : x < pm_sz a → AI x k) : nW AI AL AR a (pm_setI b x k v) := by
  refine ⟨g.1, g.2.1, fun X Y hX n => ?_, g.2.2.2.1, g.2.2.2.2⟩
  rw [ev_II]
  by_cases e : X = x
  · by_cases e2 : Y = k
    · exact absurd (by rw [e, e2]; exact z (by omega)) n
    · rw [if_pos e, if_neg e2]; exact g.2.2.1 X Y hX n
  · rw [if_neg e]; exact g.2.2.1 X Y hX n
theorem nW_L (g : nW AI AL AR a b) {x k : Nat} {v : Int64} (z : x < pm_sz a → AL x k) : nW AI AL AR a (pm_setL b x k v) := by
  refine ⟨g.1, g.2.1, g.2.2.1, fun X Y hX n => ?_, g.2.2.2.2⟩
  rw [ev_LL]
  by_cases e : X = x
  · by_cases e2 : Y = k
    · exact absurd (by rw [e, e2]; exact z (by omega)) n
    · rw [if_pos e, if_neg e2]; exact g.2.2.2.1 X Y hX n
  · rw [if_neg e]; exact g.2.2.2.1 X Y hX n
theorem nW_R (g : nW AI AL AR a b) {x k : Nat} {v : Option Nat} (z : x < pm_sz a → AR x k) : nW AI AL AR a (pm_setR b x k v) := by
  refine ⟨g.1, g.2.1, g.2.2.1, g.2.2.2.1, fun X Y hX n => ?_⟩
  rw [ev_RR]
  by_cases e : X = x
  · by_cases e2 : Y = k
    · exact absurd (by rw [e, e2]; exact z (by omega)) n
    · rw [if_pos e, if_neg e2]; exact g.2.2.2.2 X Y hX n
  · rw [if_neg e]; exact g.2.2.2.2 X Y hX n
end NWS
