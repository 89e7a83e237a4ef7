/-! THE REFERENCE LOOKS AGAIN: what was read before, at the place 592.19 -/
abbrev lk (h : pm_H) (p : Nat) : pm_H := pm_setI h 592 19 (Int32.ofNat p)
theorem lk_v (h : pm_H) (v w : Int32) : pm_setI (pm_setI h 592 19 v) 592 19 w = pm_setI h 592 19 w := by
  refine congrArg (fun z => (pm_sz h, pm_kd h, pm_ln h, z, pm_L h, pm_R h)) (funext fun x => funext fun y => ?_)
  show (if x = 592 then (if y = 19 then w else (if x = 592 then (if y = 19 then v else pm_I h x y) else pm_I h x y)) else (if x = 592 then (if y = 19 then v else pm_I h x y) else pm_I h x y)) = (if x = 592 then (if y = 19 then w else pm_I h x y) else pm_I h x y)
  repeat' split
  all_goals first | rfl | (exfalso; omega)
theorem lk_lk (h : pm_H) (p p' : Nat) : lk (lk h p) p' = lk h p' := lk_v h _ _
theorem lk_19 (h : pm_H) (p : Nat) : pm_I (lk h p) 592 19 = Int32.ofNat p := by rw [ev_II, if_pos rfl, if_pos rfl]
section LOOK
variable {h : pm_H} {n b m s e p : Nat} {B : Nat → Nat}
theorem mS_lk (C : mS h n b m s B) (v : Int32) : mS (pm_setI h 592 19 v) n b m s B := by
  have nb := mS_nb C
  obtain ⟨k, rr, km, rb, kb, lb, n4, rs, hB, hb⟩ := C
  exact ⟨k, rr, km, rb, kb, lb, n4, rs, fun i hi => by rw [ev_II, if_neg nb]; exact hB i hi, hb⟩
theorem mw_at (C : mS h n b m s B) (hp : p < n) : fX14_at h m (Int32.ofNat p) = some (Int32.ofNat (B p)) := by
  have e := ms_at C (pm_I h 592 11) (pm_I h 592 7) (pm_I h 592 8) hp
  rwa [rm_eta] at e
theorem mw_at_lk (C : mS h n b m s B) (v : Int32) (hp : p < n) : fX14_at (pm_setI h 592 19 v) m (Int32.ofNat p) = some (Int32.ofNat (B p)) := mw_at (mS_lk C v) hp
theorem nu_lt {N k v p : Nat} {r : Nat × Nat} (q : sp_nu B e (N + 1) k v p = .inr r) : p < e := by
  unfold sp_nu at q
  by_cases c : p < e
  · exact c
  · rw [if_neg c] at q; cases q
theorem mw_wd (C : mS h n b m s B) (he : e ≤ n) : ∀ (N k v p c w p' : Nat), k + N = 5 → p ≤ e → v < 2 ^ (7 * k) → 127 < c → c < 256 → 0 < N → sp_nu B e N k v p = .inr (w, p') → pm_lim sX16_word (592, Int64.ofNat v, Int32.ofNat (7 * k), Int32.ofNat c, lk h p) = some (Int64.ofNat w, lk h p') := by
  have hb := C.2.2.2.2.2.2.2.2.2
  have n4 := C.2.2.2.2.2.2.1
  intro N
  induction N with
  | zero => intro k v p c w p' hk hp hv hc hc2 hN q; exact absurd hN (by decide)
  | succ N ih =>
    intro k v p c w p' hk hp hv hc hc2 hN q
    have hl := nu_lt q
    unfold sp_nu at q
    rw [if_pos hl] at q
    have b0 := hb p
    have pw : 2 ^ (7 * k) ≤ 2 ^ 28 := Nat.pow_le_pow_right (by decide) (by omega)
    have m1 : B p % 128 * 2 ^ (7 * k) ≤ 127 * 2 ^ 28 := Nat.mul_le_mul (by omega) pw
    have p2 : 2 ^ (7 * (k + 1)) = 128 * 2 ^ (7 * k) := by rw [Nat.mul_succ, Nat.pow_add, Nat.mul_comm]
    have m2 : B p % 128 * 2 ^ (7 * k) ≤ 127 * 2 ^ (7 * k) := Nat.mul_le_mul_right _ (by omega)
    have por := ll_or (v := v) (a := B p % 128) (t := 7 * k) (by omega) hv (by omega)
    have go : ∀ x, pm_lim sX16_word (592, Int64.ofNat (v + B p % 128 * 2 ^ (7 * k)), Int32.ofNat (7 * (k + 1)), Int32.ofNat (B p), lk h (p + 1)) = x → pm_lim sX16_word (592, Int64.ofNat v, Int32.ofNat (7 * k), Int32.ofNat c, lk h p) = x := by
      intro x hx
      refine k_w (aX16_word_0 ..) ?_
      unfold tX16_word_9
      refine k_f (show ¬ Int32.ofNat c ≤ Int32.ofNat 127 by rw [nn_le (by omega) (by decide)]; omega) (k_t C.1 (k_b C.2.1 (k_t C.2.2.1 (k_b (v := Int32.ofNat (B p)) (by rw [lk_19]; exact mw_at_lk C _ (by omega)) ?_))))
      have e1 : Int64.ofNat v ||| ((Int32.ofNat (B p) &&& 127).toInt64 <<< ((Int32.ofNat (7 * k)).toInt64 &&& 63)) = Int64.ofNat (v + B p % 128 * 2 ^ (7 * k)) := by
        rw [show Int32.ofNat (B p) &&& 127 = Int32.ofNat (B p % 128) from nn_m127 _, nn_t6 (by omega), nn_t6 (by omega), show Int64.ofNat (7 * k) &&& 63 = Int64.ofNat (7 * k % 64) from ll_m63 _, show 7 * k % 64 = 7 * k by omega, por]
      refine k_l ?_
      rw [e1]
      refine k_l ?_
      rw [show Int32.ofNat (7 * k) + 7 = Int32.ofNat (7 * (k + 1)) from nn_ad _ 7]
      refine k_l ?_
      rw [lk_19, show Int32.ofNat p + 1 = Int32.ofNat (p + 1) from nn_ad _ 1, lk_v]
      exact k_n hx
    refine go _ ?_
    by_cases c1 : N = 0 ∧ 15 < B p
    · rw [if_pos c1] at q; cases q
    rw [if_neg c1] at q
    by_cases c2 : B p < 128
    · rw [if_pos c2] at q
      cases q
      rw [Nat.mod_eq_of_lt c2]
      refine k_w (aX16_word_0 ..) ?_
      unfold tX16_word_9
      exact k_t (show Int32.ofNat (B p) ≤ Int32.ofNat 127 by rw [nn_le (by omega) (by decide)]; omega) rfl
    · rw [if_neg c2] at q
      have N0 : 0 < N := by omega
      exact ih (k + 1) _ (p + 1) (B p) w p' (by omega) (by omega) (by omega) (by omega) b0 N0 q
theorem mw_word {v p' : Nat} (C : mS h n b m s B) (he : e ≤ n) (q : sp_num B e p = .inr (v, p')) : fX16_word (lk h p) 592 = some (Int64.ofNat v, lk h p') := mw_wd C he 5 0 0 p 128 v p' rfl (Nat.le_of_lt (nu_lt q)) (by decide) (by decide) (by decide) (by decide) q
theorem sg_lt {bits N k p : Nat} {w : Int64} {r : Int64 × Nat} (q : sp_sg B e bits (N + 1) k w p = .inr r) : p < e := by
  unfold sp_sg at q
  by_cases c : p < e
  · exact c
  · rw [if_neg c] at q; cases q
theorem mw_sg (C : mS h n b m s B) (he : e ≤ n) {bits : Nat} : ∀ (N k : Nat) (v : Int64) (p c : Nat) (w : Int64) (p' : Nat), k + N ≤ 10 → p ≤ e → 127 < c → c < 256 → 0 < N → sp_sg B e bits N k v p = .inr (w, p') → pm_lim sX16_signedWord (592, v, Int32.ofNat (7 * k), Int32.ofNat c, lk h p) = some (w, lk h p') := by
  have hb := C.2.2.2.2.2.2.2.2.2
  have n4 := C.2.2.2.2.2.2.1
  intro N
  induction N with
  | zero => intro k v p c w p' hk hp hc hc2 hN q; exact absurd hN (by decide)
  | succ N ih =>
    intro k v p c w p' hk hp hc hc2 hN q
    have hl := sg_lt q
    unfold sp_sg at q
    rw [if_pos hl] at q
    have b0 := hb p
    have go : ∀ x, pm_lim sX16_signedWord (592, sp_sa k (B p) v, Int32.ofNat (7 * (k + 1)), Int32.ofNat (B p), lk h (p + 1)) = x → pm_lim sX16_signedWord (592, v, Int32.ofNat (7 * k), Int32.ofNat c, lk h p) = x := by
      intro x hx
      refine k_w (aX16_signedWord_0 ..) ?_
      unfold tX16_signedWord_9
      refine k_f (show ¬ Int32.ofNat c ≤ Int32.ofNat 127 by rw [nn_le (by omega) (by decide)]; omega) (k_t C.1 (k_b C.2.1 (k_t C.2.2.1 (k_b (v := Int32.ofNat (B p)) (by rw [lk_19]; exact mw_at_lk C _ (by omega)) ?_))))
      have e1 : v ||| ((Int32.ofNat (B p) &&& 127).toInt64 <<< ((Int32.ofNat (7 * k)).toInt64 &&& 63)) = sp_sa k (B p) v := by
        unfold sp_sa
        rw [show Int32.ofNat (B p) &&& 127 = Int32.ofNat (B p % 128) from nn_m127 _, nn_t6 (by omega), nn_t6 (by omega), show Int64.ofNat (7 * k) &&& 63 = Int64.ofNat (7 * k % 64) from ll_m63 _, show 7 * k % 64 = 7 * k by omega]
      refine k_l ?_
      rw [e1]
      refine k_l ?_
      rw [show Int32.ofNat (7 * k) + 7 = Int32.ofNat (7 * (k + 1)) from nn_ad _ 7]
      refine k_l ?_
      rw [lk_19, show Int32.ofNat p + 1 = Int32.ofNat (p + 1) from nn_ad _ 1, lk_v]
      exact k_n hx
    refine go _ ?_
    by_cases c1 : N = 0 ∧ sp_end bits k (B p) = false
    · rw [if_pos c1] at q; cases q
    rw [if_neg c1] at q
    by_cases c2 : B p < 128
    · rw [if_pos c2] at q
      cases q
      refine k_w (aX16_signedWord_0 ..) ?_
      unfold tX16_signedWord_9 sp_sx
      refine k_t (show Int32.ofNat (B p) ≤ Int32.ofNat 127 by rw [nn_le (by omega) (by decide)]; omega) ?_
      by_cases c3 : 64 ≤ 7 * k + 7
      · rw [if_pos c3]
        exact k_t (show Int32.ofNat 64 ≤ Int32.ofNat (7 * (k + 1)) by rw [nn_le (by omega) (by omega)]; omega) rfl
      · rw [if_neg c3]
        refine k_f (show ¬ Int32.ofNat 64 ≤ Int32.ofNat (7 * (k + 1)) by rw [nn_le (by omega) (by omega)]; omega) ?_
        by_cases c4 : B p / 64 % 2 = 0
        · rw [if_pos c4]
          exact k_t (show Int32.ofNat (B p) &&& 64 = 0 by rw [sp_b6 ⟨B p, b0⟩]; exact c4) rfl
        · rw [if_neg c4]
          refine k_f (show ¬ Int32.ofNat (B p) &&& 64 = 0 by rw [sp_b6 ⟨B p, b0⟩]; exact c4) ?_
          rw [nn_t6 (by omega), show Int64.ofNat (7 * (k + 1)) &&& 63 = Int64.ofNat (7 * (k + 1) % 64) from ll_m63 _, Nat.mod_eq_of_lt (by omega)]
          rfl
    · rw [if_neg c2] at q
      have N0 : 0 < N := by
        rcases Nat.eq_zero_or_pos N with z | z
        · exfalso
          apply c1
          refine ⟨z, ?_⟩
          unfold sp_end
          rw [decide_eq_false c2]
          rfl
        · exact z
      exact ih (k + 1) _ (p + 1) (B p) w p' (by omega) (by omega) (by omega) b0 N0 q
theorem mw_sig {v : Int64} {p' bits : Nat} (C : mS h n b m s B) (he : e ≤ n) (hb : bits = 32 ∨ bits = 33 ∨ bits = 64) (q : sp_sig B e bits p = .inr (v, p')) : fX16_signedWord (lk h p) 592 = some (v, lk h p') := by
  unfold sp_sig at q
  rcases hb with rfl | rfl | rfl
  · exact mw_sg C he 5 0 0 p 128 v p' (by decide) (Nat.le_of_lt (sg_lt q)) (by decide) (by decide) (by decide) q
  · exact mw_sg C he 5 0 0 p 128 v p' (by decide) (Nat.le_of_lt (sg_lt q)) (by decide) (by decide) (by decide) q
  · exact mw_sg C he 10 0 0 p 128 v p' (by decide) (Nat.le_of_lt (sg_lt q)) (by decide) (by decide) (by decide) q
end LOOK
