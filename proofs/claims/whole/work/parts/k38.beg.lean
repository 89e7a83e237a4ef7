/-! THE CLASS READS: the first eight bytes -/
theorem beg_g : ∀ j, j < 8 → pm_beg.getD j 0 = Int32.ofNat (mg (7 - j)) := by decide
theorem mg_b (k : Nat) : mg k < 256 := by unfold mg; split <;> (try split) <;> (try split) <;> (try split) <;> omega
section MAG
variable {h : pm_H} {n b mm : Nat} {B : Nat → Nat}
theorem mag_d (K9 : pm_kd h 19 = 9) {f q : Int32} (hf : f ≠ 0) (a x : Int32) : cd_Q wH (fun h' => h' = h) f q (pm_lim sX9_begin (19, x, rc h a f q)) := by
  refine z_w (aX9_begin_0 ..) ?_
  unfold tX9_begin_23
  exact z_i (fun _ => z_r (y_r (a := a) rfl rfl)) (fun _ => z_t K9 (z_f hf (z_r (y_r (a := a) rfl rfl))))
theorem mag_c (C : cS h n b mm B) (ie : pm_I h 19 2 = Int32.ofNat n) (q : Int32) : ∀ (k p : Nat), p + k = 8 → p ≤ n → cs_Q wH (fun h' => h' = h) (fun (_ : Unit) p' r => r = rc h (Int32.ofNat p') 0 q ∧ p' = 8 ∧ p' ≤ n) (pm_lim sX9_begin (19, Int32.ofNat p, rc h (Int32.ofNat p) 0 q)) (sp_mg B n (fun p => .inr ((), p)) k p) := by
  have K9 := C.1
  have n4 := C.2.2.2.2.2.2.1
  have hB := C.2.2.2.2.2.2.2.2.2
  intro k
  induction k with
  | zero =>
    intro p hk hp
    refine v_w (aX9_begin_0 ..) ?_
    unfold tX9_begin_23
    refine v_t (show (8 : Int32) ≤ Int32.ofNat p by rw [show (8 : Int32) = Int32.ofNat 8 from rfl, nn_le (by decide) (by omega)]; omega) ?_
    exact ⟨_, rfl, rfl, by omega, hp⟩
  | succ k ih =>
    intro p hk hp
    have in8 : pm_in (Int32.ofNat p) 8 := by rw [nn_in (by omega)]; omega
    have cm : (Int32.ofNat p).toNatClampNeg = p := nn_cm (by omega)
    refine v_w (aX9_begin_0 ..) ?_
    unfold tX9_begin_23 sp_mg
    refine v_f (show ¬ (8 : Int32) ≤ Int32.ofNat p by rw [show (8 : Int32) = Int32.ofNat 8 from rfl, nn_le (by decide) (by omega)]; omega) (v_t K9 (v_t rfl (v_c (cs_next C ie (Nat.le_refl _) hp q) ?_ ?_)))
    · rintro ⟨r1, r2⟩ h' a f q hf ew hF
      have ew : r2 = _ := ew
      subst hF
      subst ew
      exact z_t in8 (z_i (fun _ => z_l (z_n (mag_d K9 hf a _))) (fun _ => z_t K9 (z_b (cd_fail K9 hf _ _ _ _) (z_l (z_n (mag_d K9 hf a _))))))
    · intro v p1 r e1 er
      subst er
      have hp1 : p1 = p + 1 ∧ p < n ∧ v = B p := by
        unfold sp_next at e1
        split at e1
        · next c => cases e1; exact ⟨rfl, c, rfl⟩
        · cases e1
      obtain ⟨rfl, pn, rfl⟩ := hp1
      have hb := hB p
      have gb := mg_b k
      have s1 : Int32.ofNat p + 1 = Int32.ofNat (p + 1) := nn_ad p 1
      have g : pm_beg.getD (Int32.ofNat p).toNatClampNeg 0 = Int32.ofNat (mg k) := by rw [cm, beg_g p (by omega)]; exact congrArg (fun z => Int32.ofNat (mg z)) (by omega)
      refine v_t in8 ?_
      by_cases c : B p = mg k
      · rw [if_pos c]
        refine v_t (show Int32.ofNat (B p) = _ by rw [g, c]) (v_l (v_n ?_))
        rw [s1]
        exact ih (p + 1) (by omega) (by omega)
      · rw [if_neg c]
        refine v_f (show ¬ Int32.ofNat (B p) = _ by rw [g, nn_eq (by omega) (by omega)]; exact c) (v_t K9 (v_b (cs_fail K9 _ _ _ _) (v_l (v_n ?_))))
        exact ⟨by decide, mag_d K9 (by decide) _ _⟩
end MAG
