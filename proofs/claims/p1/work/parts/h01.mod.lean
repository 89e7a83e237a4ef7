/-! CONSTRUCTORS, first: loops, Module -/
theorem ev_iter {σ ρ : Type} {s : σ → Option (σ ⊕ ρ)} (st : Nat → σ) (N : Nat) (hs : ∀ i, i < N → pm_lim s (st i) = pm_lim s (st (i + 1))) : pm_lim s (st 0) = pm_lim s (st N) := by
  induction N with
  | zero => rfl
  | succ N ih => exact (ih (fun i hi => hs i (Nat.lt_succ_of_lt hi))).trans (hs N (Nat.lt_succ_self N))
/-- a row of ints whose first n are v -/
def pe_fI (h : pm_H) (a n : Nat) (v : Int32) : pm_H := (pm_sz h, pm_kd h, pm_ln h, pm_row (pm_I h) a (fun k => if k < n then v else pm_I h a k), pm_L h, pm_R h)
def pe_fR (h : pm_H) (a n : Nat) (v : Option Nat) : pm_H := (pm_sz h, pm_kd h, pm_ln h, pm_I h, pm_L h, pm_row (pm_R h) a (fun k => if k < n then v else pm_R h a k))
theorem pe_row {α : Type} (f : Nat → Nat → α) (a n : Nat) (v : α) : pm_u2 (pm_row f a (fun k => if k < n then v else f a k)) a n v = pm_row f a (fun k => if k < n + 1 then v else f a k) := by
  funext x y
  show (if x = a then (if y = n then v else (if x = a then (if y < n then v else f a y) else f x y)) else (if x = a then (if y < n then v else f a y) else f x y)) = (if x = a then (if y < n + 1 then v else f a y) else f x y)
  by_cases e : x = a
  · rw [if_pos e, if_pos e, if_pos e]
    by_cases e2 : y = n
    · rw [if_pos e2, if_pos (by omega)]
    · rw [if_neg e2]
      by_cases e3 : y < n
      · rw [if_pos e3, if_pos (by omega)]
      · rw [if_neg e3, if_neg (by omega)]
  · rw [if_neg e, if_neg e, if_neg e]
theorem pe_row0 {α : Type} (f : Nat → Nat → α) (a : Nat) (v : α) : pm_row f a (fun k => if k < 0 then v else f a k) = f := by
  funext x y
  show (if x = a then (if y < 0 then v else f a y) else f x y) = f x y
  by_cases e : x = a
  · rw [if_pos e, if_neg (Nat.not_lt_zero y), e]
  · rw [if_neg e]
theorem pe_fI0 (h : pm_H) (a : Nat) (v : Int32) : pe_fI h a 0 v = h := by
  show (pm_sz h, pm_kd h, pm_ln h, _, pm_L h, pm_R h) = h
  rw [pe_row0]
theorem pe_fR0 (h : pm_H) (a : Nat) (v : Option Nat) : pe_fR h a 0 v = h := by
  show (pm_sz h, pm_kd h, pm_ln h, pm_I h, pm_L h, _) = h
  rw [pe_row0]
theorem pe_fIs (h : pm_H) (a n : Nat) (v : Int32) : pm_setI (pe_fI h a n v) a n v = pe_fI h a (n + 1) v := by
  show (pm_sz h, pm_kd h, pm_ln h, pm_u2 (pm_row (pm_I h) a (fun k => if k < n then v else pm_I h a k)) a n v, pm_L h, pm_R h) = (pm_sz h, pm_kd h, pm_ln h, pm_row (pm_I h) a (fun k => if k < n + 1 then v else pm_I h a k), pm_L h, pm_R h)
  rw [pe_row]
theorem pe_fRs (h : pm_H) (a n : Nat) (v : Option Nat) : pm_setR (pe_fR h a n v) a n v = pe_fR h a (n + 1) v := by
  show (pm_sz h, pm_kd h, pm_ln h, pm_I h, pm_L h, pm_u2 (pm_row (pm_R h) a (fun k => if k < n then v else pm_R h a k)) a n v) = (pm_sz h, pm_kd h, pm_ln h, pm_I h, pm_L h, pm_row (pm_R h) a (fun k => if k < n + 1 then v else pm_R h a k))
  rw [pe_row]
theorem pe_lt {i n : Nat} (hn : n < 2147483648) (hi : i < n) : ¬ Int32.ofNat n ≤ Int32.ofNat i := fun q => absurd ((Int32.ofNat_le_iff_le (by omega) (by omega)).mp q) (by omega)
theorem pe_ge {n : Nat} : Int32.ofNat n ≤ Int32.ofNat n := Int32.le_refl _
theorem pe_in {i n : Nat} (hn : n < 2147483648) (hi : i < n) : pm_in (Int32.ofNat i) n := by
  have e2 : (Int32.ofNat i).toNatClampNeg = i := Int32.toNatClampNeg_ofNat_of_lt (by omega)
  intro q
  rcases q with q | q
  · have := Int32.lt_iff_toInt_lt.mp q
    rw [Int32.toInt_ofNat_of_lt (by omega)] at this
    have h0 : (0 : Int32).toInt = 0 := by decide
    rw [h0] at this
    omega
  · rw [e2] at q; omega
theorem pe_cl {i n : Nat} (hn : n < 2147483648) (hi : i < n) : (Int32.ofNat i).toNatClampNeg = i := Int32.toNatClampNeg_ofNat_of_lt (by omega)
theorem pe_s (i : Nat) : Int32.ofNat i + 1 = Int32.ofNat (i + 1) := (Int32.ofNat_add i 1).symm
/-- a Module as its constructor leaves it, ahead of its loop -/
def iX7a (h : pm_H) (a p : Nat) : pm_H := pm_setR (pm_setL (pm_setL (pm_setR (pm_new (pm_setR (pm_new (pm_setR (pm_new (pm_setR (pm_new (pm_setR (pm_new (pm_setR (pm_new (pm_setR (pm_new (pm_setR (pm_new (pm_setR (pm_new (pm_setR (pm_new (pm_setR (pm_ma (pm_setR (pm_new h 34 13) a 1 (some (pm_sz h))) 4 2 0 0) a 2 (some (pm_sz h + 1))) 35 0) a 3 (some (pm_sz h + 2))) 35 0) a 4 (some (pm_sz h + 3))) 35 0) a 5 (some (pm_sz h + 4))) 35 0) a 6 (some (pm_sz h + 5))) 35 0) a 7 (some (pm_sz h + 6))) 34 0) a 8 (some (pm_sz h + 7))) 34 0) a 9 (some (pm_sz h + 8))) 34 0) a 10 (some (pm_sz h + 9))) 34 0) a 11 (some (pm_sz h + 10))) 38 0) a 12 (some (pm_sz h + 11))) a 13 (-1)) a 14 (-1)) a 0 (some p)
def iX7 (h : pm_H) (a p : Nat) : pm_H := pe_fI (iX7a h a p) (pm_sz h) 13 (-1)
theorem iX7a_sz (h : pm_H) (a p : Nat) : pm_sz (iX7a h a p) = pm_sz h + 12 := rfl
theorem iX7a_kd (h : pm_H) (a p x : Nat) : pm_kd (iX7a h a p) x = if x = pm_sz h + 11 then 38 else if x = pm_sz h + 10 then 34 else if x = pm_sz h + 9 then 34 else if x = pm_sz h + 8 then 34 else if x = pm_sz h + 7 then 34 else if x = pm_sz h + 6 then 35 else if x = pm_sz h + 5 then 35 else if x = pm_sz h + 4 then 35 else if x = pm_sz h + 3 then 35 else if x = pm_sz h + 2 then 35 else if x = pm_sz h + 1 then 36 else if x = pm_sz h then 34 else pm_kd h x := rfl
theorem iX7a_ln (h : pm_H) (a p x : Nat) : pm_ln (iX7a h a p) x = if x = pm_sz h + 11 then 0 else if x = pm_sz h + 10 then 0 else if x = pm_sz h + 9 then 0 else if x = pm_sz h + 8 then 0 else if x = pm_sz h + 7 then 0 else if x = pm_sz h + 6 then 0 else if x = pm_sz h + 5 then 0 else if x = pm_sz h + 4 then 0 else if x = pm_sz h + 3 then 0 else if x = pm_sz h + 2 then 0 else if x = pm_sz h + 1 then 0 else if x = pm_sz h then 13 else pm_ln h x := rfl
set_option maxHeartbeats 4000000 in
theorem eX7 {h : pm_H} {a p : Nat} (hk : pm_kd h a = 7) (ha : a < pm_sz h) : fX7_init h a p = some (iX7 h a p) := by
  have n0 : a ≠ pm_sz h := by omega
  have n1 : a ≠ pm_sz h + 1 := by omega
  have n2 : a ≠ pm_sz h + 1 + 1 := by omega
  have n3 : a ≠ pm_sz h + 1 + 1 + 1 := by omega
  have n4 : a ≠ pm_sz h + 1 + 1 + 1 + 1 := by omega
  have n5 : a ≠ pm_sz h + 1 + 1 + 1 + 1 + 1 := by omega
  have n6 : a ≠ pm_sz h + 1 + 1 + 1 + 1 + 1 + 1 := by omega
  have n7 : a ≠ pm_sz h + 1 + 1 + 1 + 1 + 1 + 1 + 1 := by omega
  have n8 : a ≠ pm_sz h + 1 + 1 + 1 + 1 + 1 + 1 + 1 + 1 := by omega
  have n9 : a ≠ pm_sz h + 1 + 1 + 1 + 1 + 1 + 1 + 1 + 1 + 1 := by omega
  have n10 : a ≠ pm_sz h + 1 + 1 + 1 + 1 + 1 + 1 + 1 + 1 + 1 + 1 := by omega
  have n11 : a ≠ pm_sz h + 1 + 1 + 1 + 1 + 1 + 1 + 1 + 1 + 1 + 1 + 1 := by omega
  have hm0 : ∀ g : pm_H, pm_ma g 4 2 0 0 = pm_new g 36 0 := fun _ => rfl
  unfold fX7_init
  have ka : pm_kd (iX7a h a p) a = 7 := by
    rw [iX7a_kd, if_neg (by omega), if_neg (by omega), if_neg (by omega), if_neg (by omega), if_neg (by omega), if_neg (by omega), if_neg (by omega), if_neg (by omega), if_neg (by omega), if_neg (by omega), if_neg (by omega), if_neg (by omega)]
    exact hk
  have e1 : pm_lim sX7_init (.inl (a, p, h)) = pm_lim sX7_init (.inr (.inr (.inr (.inr (.inr (.inr (.inr (.inr (.inr (.inr (.inr (.inr (.inr (a, Int32.ofNat 0, pe_fI (iX7a h a p) (pm_sz h) 0 (-1))))))))))))))) := by
    rw [pe_fI0]
    rw [ev_lim]; simp only [sX7_init, tX7_init_0, Option.bind_some]
    rw [ev_lim]; simp only [sX7_init, tX7_init_9, ev_kdN, if_neg n0, hk, if_true, Option.bind_some]
    rw [ev_lim]; simp only [sX7_init, tX7_init_19, hm0, ev_kdN, ev_kdR, ev_szR, ev_szN, if_neg n0, if_neg n1, hk, if_true, Option.bind_some]
    rw [ev_lim]; simp only [sX7_init, tX7_init_26, hm0, ev_kdN, ev_kdR, ev_szR, ev_szN, if_neg n0, if_neg n1, if_neg n2, hk, if_true, Option.bind_some]
    rw [ev_lim]; simp only [sX7_init, tX7_init_33, hm0, ev_kdN, ev_kdR, ev_szR, ev_szN, if_neg n0, if_neg n1, if_neg n2, if_neg n3, hk, if_true, Option.bind_some]
    rw [ev_lim]; simp only [sX7_init, tX7_init_40, hm0, ev_kdN, ev_kdR, ev_szR, ev_szN, if_neg n0, if_neg n1, if_neg n2, if_neg n3, if_neg n4, hk, if_true, Option.bind_some]
    rw [ev_lim]; simp only [sX7_init, tX7_init_47, hm0, ev_kdN, ev_kdR, ev_szR, ev_szN, if_neg n0, if_neg n1, if_neg n2, if_neg n3, if_neg n4, if_neg n5, hk, if_true, Option.bind_some]
    rw [ev_lim]; simp only [sX7_init, tX7_init_54, hm0, ev_kdN, ev_kdR, ev_szR, ev_szN, if_neg n0, if_neg n1, if_neg n2, if_neg n3, if_neg n4, if_neg n5, if_neg n6, hk, if_true, Option.bind_some]
    rw [ev_lim]; simp only [sX7_init, tX7_init_61, hm0, ev_kdN, ev_kdR, ev_szR, ev_szN, if_neg n0, if_neg n1, if_neg n2, if_neg n3, if_neg n4, if_neg n5, if_neg n6, if_neg n7, hk, if_true, Option.bind_some]
    rw [ev_lim]; simp only [sX7_init, tX7_init_68, hm0, ev_kdN, ev_kdR, ev_szR, ev_szN, if_neg n0, if_neg n1, if_neg n2, if_neg n3, if_neg n4, if_neg n5, if_neg n6, if_neg n7, if_neg n8, hk, if_true, Option.bind_some]
    rw [ev_lim]; simp only [sX7_init, tX7_init_75, hm0, ev_kdN, ev_kdR, ev_szR, ev_szN, if_neg n0, if_neg n1, if_neg n2, if_neg n3, if_neg n4, if_neg n5, if_neg n6, if_neg n7, if_neg n8, if_neg n9, hk, if_true, Option.bind_some]
    rw [ev_lim]; simp only [sX7_init, tX7_init_82, hm0, ev_kdN, ev_kdR, ev_szR, ev_szN, if_neg n0, if_neg n1, if_neg n2, if_neg n3, if_neg n4, if_neg n5, if_neg n6, if_neg n7, if_neg n8, if_neg n9, if_neg n10, hk, if_true, Option.bind_some]
    rw [ev_lim]; simp only [sX7_init, tX7_init_90, hm0, ev_kdN, ev_kdR, ev_szR, ev_szN, if_neg n0, if_neg n1, if_neg n2, if_neg n3, if_neg n4, if_neg n5, if_neg n6, if_neg n7, if_neg n8, if_neg n9, if_neg n10, if_neg n11, hk, if_true, Option.bind_some]
    rfl
  have hR : pm_R (iX7a h a p) a 1 = some (pm_sz h) := by
    simp only [iX7a, hm0, ev_RR, ev_RL, ev_RN, ev_szR, ev_szN, if_neg n0, if_neg n1, if_neg n2, if_neg n3, if_neg n4, if_neg n5, if_neg n6, if_neg n7, if_neg n8, if_neg n9, if_neg n10, if_neg n11, if_true, Nat.reduceEqDiff, if_false, reduceIte]
  have hks : pm_kd (iX7a h a p) (pm_sz h) = 34 := by
    rw [iX7a_kd, if_neg (by omega), if_neg (by omega), if_neg (by omega), if_neg (by omega), if_neg (by omega), if_neg (by omega), if_neg (by omega), if_neg (by omega), if_neg (by omega), if_neg (by omega), if_neg (by omega), if_pos rfl]
  have hls : pm_ln (iX7a h a p) (pm_sz h) = 13 := by
    rw [iX7a_ln, if_neg (by omega), if_neg (by omega), if_neg (by omega), if_neg (by omega), if_neg (by omega), if_neg (by omega), if_neg (by omega), if_neg (by omega), if_neg (by omega), if_neg (by omega), if_neg (by omega), if_pos rfl]
  have kf : ∀ i x, pm_kd (pe_fI (iX7a h a p) (pm_sz h) i (-1)) x = pm_kd (iX7a h a p) x := fun _ _ => rfl
  have lf : ∀ i x, pm_ln (pe_fI (iX7a h a p) (pm_sz h) i (-1)) x = pm_ln (iX7a h a p) x := fun _ _ => rfl
  have rf : ∀ i x y, pm_R (pe_fI (iX7a h a p) (pm_sz h) i (-1)) x y = pm_R (iX7a h a p) x y := fun _ _ _ => rfl
  refine e1.trans ((ev_iter (s := sX7_init) (fun i => .inr (.inr (.inr (.inr (.inr (.inr (.inr (.inr (.inr (.inr (.inr (.inr (.inr (a, Int32.ofNat i, pe_fI (iX7a h a p) (pm_sz h) i (-1))))))))))))))) 13 ?_).trans ?_)
  · intro i hi
    rw [ev_lim]
    simp only [sX7_init, tX7_init_114, kf, lf, rf, ka, hR, hks, hls, if_true, Option.bind_some, if_neg (pe_lt (by decide) hi), if_pos (pe_in (by decide) hi), pe_cl (n := 13) (by decide) hi, ev_let, pe_s, pe_fIs]
  · rw [ev_lim]
    simp only [sX7_init, tX7_init_114, kf, lf, rf, ka, hR, hks, hls, if_true, Option.bind_some, if_pos (pe_ge (n := 13))]
    rfl
