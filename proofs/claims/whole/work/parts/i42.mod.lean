/-! THE REFERENCE'S module: the bytes' copy -/
section EK
variable {σ ρ : Type} {s : σ → Option (σ ⊕ ρ)} {x : Option ρ}
theorem k_t {c : Prop} {i : Decidable c} {a b : Option (σ ⊕ ρ)} (h : c) (q : ev_k s a = x) : ev_k s (@ite _ c i a b) = x := by rw [if_pos h]; exact q
theorem k_f {c : Prop} {i : Decidable c} {a b : Option (σ ⊕ ρ)} (h : ¬ c) (q : ev_k s b = x) : ev_k s (@ite _ c i a b) = x := by rw [if_neg h]; exact q
theorem k_l {δ : Type} {e : δ} {k : δ → Option (σ ⊕ ρ)} (q : ev_k s (k e) = x) : ev_k s (pm_let e k) = x := q
theorem k_b {δ : Type} {y : Option δ} {v : δ} {k : δ → Option (σ ⊕ ρ)} (e : y = some v) (q : ev_k s (k v) = x) : ev_k s (y.bind k) = x := by rw [e]; exact q
theorem k_n {y : σ} (q : pm_lim s y = x) : ev_k s (some (.inl y)) = x := q
theorem k_w {y : σ} {v : Option (σ ⊕ ρ)} (e : s y = v) (q : ev_k s v = x) : pm_lim s y = x := by rw [ev_lm, e]; exact q
end EK
/-- b's first k are s's, as bytes -/
def bC (h : pm_H) (b s k : Nat) : pm_H := (pm_sz h, pm_kd h, pm_ln h, pm_row (pm_I h) b (fun y => if y < k then vp_nar .byte (pm_I h s y) else pm_I h b y), pm_L h, pm_R h)
theorem bC_0 (h : pm_H) (b s : Nat) : bC h b s 0 = h := by
  refine (congrArg (fun z => (pm_sz h, pm_kd h, pm_ln h, z, pm_L h, pm_R h)) (funext fun x => funext fun y => ?_) : _ = (pm_sz h, pm_kd h, pm_ln h, pm_I h, pm_L h, pm_R h))
  show (if x = b then (if y < 0 then vp_nar .byte (pm_I h s y) else pm_I h b y) else pm_I h x y) = pm_I h x y
  by_cases c : x = b
  · rw [if_pos c, if_neg (Nat.not_lt_zero _), c]
  · rw [if_neg c]
theorem bC_I (h : pm_H) (b s k x y : Nat) : pm_I (bC h b s k) x y = if x = b then (if y < k then vp_nar .byte (pm_I h s y) else pm_I h b y) else pm_I h x y := rfl
theorem bC_s (h : pm_H) {b s k : Nat} (hb : s ≠ b) : pm_setI (bC h b s k) b k (vp_nar .byte (pm_I (bC h b s k) s k)) = bC h b s (k + 1) := by
  rw [bC_I, if_neg hb]
  refine congrArg (fun z => (pm_sz h, pm_kd h, pm_ln h, z, pm_L h, pm_R h)) (funext fun x => funext fun y => ?_)
  show (if x = b then (if y = k then vp_nar .byte (pm_I h s k) else (if x = b then (if y < k then vp_nar .byte (pm_I h s y) else pm_I h b y) else pm_I h x y)) else (if x = b then (if y < k then vp_nar .byte (pm_I h s y) else pm_I h b y) else pm_I h x y)) = (if x = b then (if y < k + 1 then vp_nar .byte (pm_I h s y) else pm_I h b y) else pm_I h x y)
  by_cases c : x = b
  · rw [if_pos c, if_pos c, if_pos c]
    by_cases c2 : y = k
    · rw [if_pos c2, if_pos (by omega), c2]
    · rw [if_neg c2]
      by_cases c3 : y < k
      · rw [if_pos c3, if_pos (by omega)]
      · rw [if_neg c3, if_neg (by omega)]
  · rw [if_neg c, if_neg c, if_neg c]
theorem mo_cp {h : pm_H} {m b s n : Nat} (K : pm_kd h 592 = 16) (rr : pm_R h 592 10 = some m) (km : pm_kd h m = 14) (rb : pm_R h m 0 = some b) (kb : pm_kd h b = 33) (lb : pm_ln h b = n) (rs : pm_R h 592 0 = some s) (ks : pm_kd h s = 33) (ls : n ≤ pm_ln h s) (hn : n ≤ 40960) (hb : s ≠ b) (z : Option Nat) : pm_lim sX16_module (.inr (.inr (.inr (.inr (.inl (592, Int32.ofNat n, z, 0, h)))))) = pm_lim sX16_module (.inr (.inr (.inr (.inr (.inl (592, Int32.ofNat n, z, Int32.ofNat n, bC h b s n)))))) := by
  refine Eq.trans (by rw [bC_0]; rfl) (ev_iter (s := sX16_module) (fun i => (.inr (.inr (.inr (.inr (.inl (592, Int32.ofNat n, z, Int32.ofNat i, bC h b s i))))))) n ?_)
  intro i hi
  have c1 : pm_in (Int32.ofNat i) (pm_ln (bC h b s i) s) := by rw [nn_in (by omega)]; exact Nat.lt_of_lt_of_le hi ls
  have c2 : pm_in (Int32.ofNat i) (pm_ln (bC h b s i) b) := by rw [nn_in (by omega)]; show i < pm_ln h b; omega
  refine k_w (aX16_module_4 ..) ?_
  unfold tX16_module_65
  refine k_f (show ¬ Int32.ofNat n ≤ Int32.ofNat i by rw [nn_le (by omega) (by omega)]; omega) (k_t K (k_b rr (k_t km (k_b rb (k_b rs (k_t ks (k_t c1 (k_l (k_t kb (k_t c2 (k_l (k_n ?_))))))))))))
  rw [nn_cm (by omega), bC_s h hb, show Int32.ofNat i + 1 = Int32.ofNat (i + 1) from nn_ad i 1]
/-- the heap as the reading begins -/
def mB (h : pm_H) (b s n : Nat) : pm_H := pm_setI (pm_setI (bC h b s n) 592 1 0) 592 6 1
theorem mB_r (h : pm_H) (b s n : Nat) : pm_setI (pm_setI (pm_setI (pm_setI (bC h b s n) 592 1 0) 592 6 1) 592 7 0) 592 8 (-1) = rm (mB h b s n) (pm_I (mB h b s n) 592 11) 0 (-1) := by
  show pm_setI (pm_setI (mB h b s n) 592 7 0) 592 8 (-1) = _
  generalize mB h b s n = g
  rw [show pm_setI g 592 7 0 = pm_setI (rm g (pm_I g 592 11) (pm_I g 592 7) (pm_I g 592 8)) 592 7 0 by rw [rm_eta], rm_s7, rm_s8]
