/-! CONSTRUCTORS, seventh: Store -/
theorem pe_fRE (l : pm_H) (b n : Nat) (v : Option Nat) : pm_sz (pe_fR l b n v) = pm_sz l ∧ (∀ x, pm_kd (pe_fR l b n v) x = pm_kd l x) ∧ (∀ x, pm_ln (pe_fR l b n v) x = pm_ln l x) ∧ (∀ x, x ≠ b → pe_E l (pe_fR l b n v) x) ∧ (∀ y, pm_R (pe_fR l b n v) b y = if y < n then v else pm_R l b y) ∧ (∀ x y, pm_I (pe_fR l b n v) x y = pm_I l x y) ∧ (∀ x y, pm_L (pe_fR l b n v) x y = pm_L l x y) ∧ (∀ x y, x ≠ b → pm_R (pe_fR l b n v) x y = pm_R l x y) := by
  refine ⟨rfl, fun _ => rfl, fun _ => rfl, fun x hx => ⟨rfl, rfl, fun _ => rfl, fun _ => rfl, fun y => ?_⟩, fun y => ?_, fun _ _ => rfl, fun _ _ => rfl, fun x y hx => ?_⟩
  · show (if x = b then _ else pm_R l x y) = _
    rw [if_neg hx]
  · show (if b = b then (if y < n then v else pm_R l b y) else pm_R l b y) = _
    rw [if_pos rfl]
  · show (if x = b then _ else pm_R l x y) = _
    rw [if_neg hx]
theorem cX10_l1 {l : pm_H} {a b p : Nat} (nab : a ≠ b) (ka : pm_kd l a = 10) (ra : pm_R l a 10 = some b) (kb : pm_kd l b = 38) (lb : pm_ln l b = 512) (kp : pm_kd l p = 0) : pm_lim sX10_init (.inr (.inr (.inr (.inr (.inr (.inr (.inr (.inr (.inr (.inr (.inr (.inr (.inr (.inr (.inr (.inr (.inr (.inr (.inr (.inr (.inl ((a, p, 0, l))))))))))))))))))))))) = pm_lim sX10_init (.inr (.inr (.inr (.inr (.inr (.inr (.inr (.inr (.inr (.inr (.inr (.inr (.inr (.inr (.inr (.inr (.inr (.inr (.inr (.inr (.inr (.inl ((a, 0, pe_fR l b 512 (some p))))))))))))))))))))))))) := by
  have F := fun i => pe_fRE l b i (some p)
  refine Eq.trans (by rw [← pe_fR0 l b (some p)]; rw [pe_fR0]) ((ev_iter (s := sX10_init) (fun i => (.inr (.inr (.inr (.inr (.inr (.inr (.inr (.inr (.inr (.inr (.inr (.inr (.inr (.inr (.inr (.inr (.inr (.inr (.inr (.inr (.inl ((a, p, Int32.ofNat i, pe_fR l b i (some p))))))))))))))))))))))))) 512 ?_).trans ?_)
  · exact .inl (a, p, p, l)
  · intro i hi
    rw [ev_lim]
    simp only [sX10_init, tX10_init_159, (F i).2.1, (F i).2.2.1, (F i).2.2.2.2.2.2.2 a _ nab, ka, ra, kb, lb, kp, if_true, Option.bind_some, if_neg (pe_lt (by decide) hi), if_pos (pe_in (by decide) hi), pe_cl (n := 512) (by decide) hi, ev_let, pe_s, pe_fRs]
  · rw [ev_lim]
    simp only [sX10_init, tX10_init_159, (F 512).2.1, (F 512).2.2.1, (F 512).2.2.2.2.2.2.2 a _ nab, ka, ra, kb, lb, if_true, Option.bind_some, if_pos (pe_ge (n := 512))]
