/-! THE CLASS: the reading loop of module(), and what it keeps -/
section LOOPZ
variable {A : Nat → Prop} {h0 H X : pm_H} {n mm : Nat}
theorem s69_eq (hn : n < 2147483648) : ∀ (m i : Nat) (H : pm_H), i + m = n → pm_lim sX12_module (.inr (.inr (.inr (.inr (.inl (0, Int32.ofNat n, mm, Int32.ofNat i, H)))))) = (s69 n mm i H).bind fun X => pm_lim sX12_module (.inr (.inr (.inr (.inr (.inr (.inl (0, mm, X))))))) := by
  intro m
  induction m with
  | zero =>
    intro i H hi
    have c : Int32.ofNat n ≤ Int32.ofNat i := by rw [nn_le (by omega) (by omega)]; omega
    unfold s69
    rw [ev_lm, ev_lm sZ, aX12_module_4, sZ_e]
    unfold tX12_module_69
    rw [if_pos c, if_pos c]
    rfl
  | succ m ih =>
    intro i H hi
    have c : ¬ Int32.ofNat n ≤ Int32.ofNat i := by rw [nn_le (by omega) (by omega)]; omega
    unfold s69
    rw [ev_lm, ev_lm sZ, aX12_module_4, sZ_e]
    unfold tX12_module_69
    rw [if_neg c, if_neg c]
    by_cases k0 : pm_kd H 0 = 12
    · rw [if_pos k0, if_pos k0]
      cases pm_R H 0 8 with
      | none => rfl
      | some v25 =>
        show ev_k _ (if pm_kd H v25 = 9 then _ else none) = (ev_k _ (if pm_kd H v25 = 9 then _ else none)).bind _
        by_cases k9 : pm_kd H v25 = 9
        · rw [if_pos k9, if_pos k9]
          cases fX9_goesOn H v25 with
          | none => rfl
          | some v28 =>
            show ev_k _ (if v28 = 0 then _ else _) = (ev_k _ (if v28 = 0 then _ else _)).bind _
            by_cases z : v28 = 0
            · rw [if_pos z, if_pos z]
              rfl
            · rw [if_neg z, if_neg z]
              cases fX9_advance H v25 with
              | none => rfl
              | some v31 =>
                have I := ih (i + 1) v31 (by omega)
                unfold s69 at I
                have st : Int32.ofNat i + 1 = Int32.ofNat (i + 1) := nn_ad i 1
                show pm_lim sX12_module (.inr (.inr (.inr (.inr (.inr (.inr (.inl (0, Int32.ofNat n, mm, Int32.ofNat i, v31)))))))) = (pm_lim sZ (Int32.ofNat n, Int32.ofNat i + 1, v31)).bind _
                rw [st]
                refine (k_w (aX12_module_6 ..) ?_).trans I
                unfold tX12_module_91
                refine k_l ?_
                rw [st]
                rfl
        · rw [if_neg k9, if_neg k9]
          rfl
    · rw [if_neg k0, if_neg k0]
      rfl
/-- whatever each step keeps, the loop keeps -/
theorem s69_I (hn : n < 2147483648) {P : pm_H → Prop} (st : ∀ H r v, P H → pm_kd H 0 = 12 → pm_R H 0 8 = some v → fX9_advance H v = some r → P r) : ∀ (m i : Nat) (H : pm_H), i + m = n → P H → s69 n mm i H = some X → P X := by
  intro m
  induction m with
  | zero =>
    intro i H hi p e
    have c : Int32.ofNat n ≤ Int32.ofNat i := by rw [nn_le (by omega) (by omega)]; omega
    unfold s69 at e
    rw [ev_lm sZ, sZ_e, if_pos c] at e
    cases e
    exact p
  | succ m ih =>
    intro i H hi p e
    have c : ¬ Int32.ofNat n ≤ Int32.ofNat i := by rw [nn_le (by omega) (by omega)]; omega
    unfold s69 at e
    rw [ev_lm sZ, sZ_e, if_neg c] at e
    by_cases k0 : pm_kd H 0 = 12
    · rw [if_pos k0] at e
      cases e8 : pm_R H 0 8 with
      | none => rw [e8] at e; cases e
      | some v25 =>
        rw [e8] at e
        have e : ev_k sZ (if pm_kd H v25 = 9 then (fX9_goesOn H v25).bind fun v28 => if v28 = 0 then (some (.inr H)) else ((fX9_advance H v25).bind fun v31 => some (.inl (Int32.ofNat n, Int32.ofNat i + 1, v31))) else none) = some X := e
        by_cases k9 : pm_kd H v25 = 9
        · rw [if_pos k9] at e
          cases eg : fX9_goesOn H v25 with
          | none => rw [eg] at e; cases e
          | some v28 =>
            rw [eg] at e
            have e : ev_k sZ (if v28 = 0 then (some (.inr H)) else ((fX9_advance H v25).bind fun v31 => some (.inl (Int32.ofNat n, Int32.ofNat i + 1, v31)))) = some X := e
            by_cases z : v28 = 0
            · rw [if_pos z] at e
              cases e
              exact p
            · rw [if_neg z] at e
              cases ea : fX9_advance H v25 with
              | none => rw [ea] at e; cases e
              | some v31 =>
                rw [ea] at e
                have e : pm_lim sZ (Int32.ofNat n, Int32.ofNat i + 1, v31) = some X := e
                rw [show Int32.ofNat i + 1 = Int32.ofNat (i + 1) from nn_ad i 1] at e
                exact ih (i + 1) v31 (by omega) (st H v31 v25 p k0 e8 ea) e
        · rw [if_neg k9] at e; cases e
    · rw [if_neg k0] at e; cases e
theorem s69_R (hn : n < 2147483648) (E : eng A h0) (F : pr_F A h0 H) (e : s69 n mm 0 H = some X) : pr_F A h0 X := s69_I hn (P := pr_F A h0) (fun H r v p k0 e8 ea => by
  obtain ⟨-, q⟩ := eng_k E p
  rw [q] at e8
  cases e8
  exact rgX9_advance p E.2.1 ea) n 0 H (Nat.zero_add _) F e
theorem s69_W (hn : n < 2147483648) (F : pw_F WX9_advance h0 H) (e : s69 n mm 0 H = some X) : pw_F WX9_advance h0 X := s69_I hn (P := pw_F WX9_advance h0) (fun H r v p _ _ ea => wfX9_advance p ea) n 0 H (Nat.zero_add _) F e
end LOOPZ
