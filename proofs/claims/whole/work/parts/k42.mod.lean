/-! THE CLASS: module() up to the reading -/
theorem pe_E_nA {h h' : pm_H} {k n x : Nat} (N : nA h h' k n) (hx : x < pm_sz h) : pe_E h h' x := by
  obtain ⟨k1, k2, k3, k4, k5⟩ := N.2.2.2 x (by omega)
  exact ⟨k1, k2, fun y => congrFun k3 y, fun y => congrFun k4 y, fun y => congrFun k5 y⟩
theorem mod_c {h : pm_H} {n fed cnt ms tp : Nat} (k0 : pm_kd h 0 = 12) (i1 : pm_I h 0 1 = Int32.ofNat fed) (hn : n ≤ fed) (hf : fed ≤ 40960) (r3 : pm_R h 0 3 = some ms) (k3 : pm_kd h ms = 41) (i4 : pm_I h 0 4 = Int32.ofNat cnt) (hc : cnt < pm_ln h ms) (hl : pm_ln h ms < 1000) (r0 : pm_R h 0 0 = some tp) (kt : pm_kd h tp = 33) (lt : pm_ln h tp = 40960) (FT : ∀ j, fits .byte (.int (pm_I h tp j)) = true) (r8 : pm_R h 0 8 = some 19) (k9 : pm_kd h 19 = 9) (s19 : 19 < pm_sz h) (stp : tp < pm_sz h) : ∃ H, (∀ r, fX9_begin H 19 (pm_sz h) = some r → fX12_module h 0 (Int32.ofNat n) = pm_lim sX12_module (.inr (.inr (.inr (.inr (.inl (0, Int32.ofNat n, pm_sz h, Int32.ofNat 0, r))))))) ∧ pm_kd H (pm_sz h) = 7 ∧ pj_X7 H (pm_sz h) (pm_sz h + 2) (pm_sz h + 1) ∧ pm_sz H = pm_sz h + 14 ∧ pm_kd H (pm_sz h + 1) = 33 ∧ pm_ln H (pm_sz h + 1) = n ∧ (∀ i, i < n → pm_I H (pm_sz h + 1) i = pm_I h tp i) ∧ (∀ x, x < pm_sz h → x ≠ 0 → pe_E h H x) ∧ pm_kd H 0 = 12 ∧ pm_ln H 0 = pm_ln h 0 ∧ (∀ y, pm_R H 0 y = pm_R h 0 y) ∧ (∀ y, pm_L H 0 y = pm_L h 0 y) ∧ (∀ y, pm_I H 0 y = if y = 5 then 1 else if y = 1 then 0 else pm_I h 0 y) ∧ (∀ A : Nat → Prop, pr_F A h h → A tp → ∀ a, A a → ∀ k b, pm_R H a k = some b → A b) ∧ (pw_J h → pw_J H) := by
  have N1 := pe_new h 7 0 0 (by omega)
  obtain ⟨h1, eh1⟩ : ∃ z, z = pm_new h 7 0 := ⟨_, rfl⟩
  rw [← eh1] at N1
  have z1 : pm_sz h1 = pm_sz h + 1 := by rw [eh1, ev_szN]
  obtain ⟨h2, e2, N2, C2⟩ := copy_c (h := h1) (x0 := tp) (m := n) ((N1.2.2 tp stp).1.trans kt) (by omega) (by rw [(N1.2.2 tp stp).2.1, lt]; decide) (by rw [(N1.2.2 tp stp).2.1, lt]; omega) (fun j => by rw [(N1.2.2 tp stp).2.2.1]; exact FT j)
  rw [z1] at e2
  have z2 : pm_sz h2 = pm_sz h + 2 := by rw [N2.1, z1]
  have Z2 : pe_Z h2 (pm_sz h) 7 0 := pe_E_Z (pe_E_nA N2 (by omega)) N1.2.1
  obtain ⟨m, em, sm, Km, Pm⟩ : ∃ h', fX7_init h2 (pm_sz h) (pm_sz h + 1) = some h' ∧ pm_sz h' = pm_sz h2 + 12 ∧ pe_K h2 h' (pm_sz h) ∧ pj_X7 h' (pm_sz h) (pm_sz h2) (pm_sz h + 1) := cX7 Z2 (by omega)
  rw [z2] at sm Pm
  have EM : ∀ x, x < pm_sz h → pe_E h m x := fun x hx => pe_E_t (N1.2.2 x hx) (pe_E_t (pe_E_nA N2 (by omega)) (Km.2.2.2 x (by omega) (by omega)))
  have EB : pe_E h2 m (pm_sz h + 1) := Km.2.2.2 _ (by omega) (by omega)
  obtain ⟨H, eH⟩ : ∃ z, z = pm_setI (pm_setI m 0 1 0) 0 5 1 := ⟨_, rfl⟩
  have EH : ∀ x, x ≠ 0 → pe_E m H x := fun x hx => ⟨by rw [eH]; rfl, by rw [eH]; rfl, fun y => by rw [eH, ev_II, if_neg hx, ev_II, if_neg hx], fun y => by rw [eH]; rfl, fun y => by rw [eH]; rfl⟩
  have m0 := EM 0 (by omega)
  have m9 := EM 19 s19
  refine ⟨H, fun r er => ?_, ?_, pj_X7_t Pm (fun x hx => EH x (by omega)), ?_, ?_, ?_, fun i hi => ?_, fun x hx x0 => pe_E_t (EM x hx) (EH x x0), ?_, ?_, fun y => ?_, fun y => ?_, fun y => ?_, fun A FA hA a ha k b e => ?_, fun J => ?_⟩
  · unfold fX12_module
    refine k_w (aX12_module_0 ..) ?_
    unfold tX12_module_0
    refine k_f (show ¬ Int32.ofNat n < 0 by rw [n3_0, nn_lt (by omega) (by decide)]; omega) (k_t k0 (k_f (show ¬ pm_I h 0 1 < Int32.ofNat n by rw [i1, nn_lt (by omega) (by omega)]; omega) (k_f (show ¬ (40960 : Int32) < Int32.ofNat n by rw [show (40960 : Int32) = Int32.ofNat 40960 from rfl, nn_lt (by decide) (by omega)]; omega) (k_b r3 (k_t k3 (k_t (show pm_I h 0 4 < Int32.ofNat (pm_ln h ms) by rw [i4, nn_lt (by omega) (by omega)]; exact hc) (k_n (k_w (aX12_module_1 ..) ?_))))))))
    unfold tX12_module_36
    rw [← eh1]
    refine k_t ((N1.2.2 0 (by omega)).1.trans k0) (k_b (((N1.2.2 0 (by omega)).2.2.2.2 0).trans r0) (k_b e2 (k_n (k_w (aX12_module_2 ..) ?_))))
    unfold tX12_module_45
    refine k_b em (k_n (k_w (aX12_module_3 ..) ?_))
    unfold tX12_module_48
    rw [← eH]
    refine k_t (m0.1.trans k0) (k_b (show pm_R H 0 8 = some 19 by rw [eH]; exact (m0.2.2.2.2 8).trans r8) (k_t (show pm_kd H 19 = 9 from (EH 19 (by decide)).1.trans (m9.1.trans k9)) (k_b er (k_n rfl))))
  · exact (EH _ (by omega)).1.trans (Km.2.1.trans Z2.1)
  · rw [eH]; exact sm
  · exact (EH _ (by omega)).1.trans (EB.1.trans (by rw [← z1]; exact N2.2.1))
  · exact (EH _ (by omega)).2.1.trans (EB.2.1.trans (by rw [← z1]; exact N2.2.2.1))
  · rw [(EH _ (by omega)).2.2.1, EB.2.2.1, ← z1, C2 i hi]
    exact (N1.2.2 tp stp).2.2.1 i
  · rw [eH]; exact m0.1.trans k0
  · rw [eH]; exact m0.2.1
  · rw [eH]; exact m0.2.2.2.2 y
  · rw [eH]; exact m0.2.2.2.1 y
  · rw [eH, ev_II, if_pos rfl]
    by_cases y5 : y = 5
    · rw [if_pos y5, if_pos y5]
    · rw [if_neg y5, if_neg y5, ev_II, if_pos rfl]
      by_cases y1 : y = 1
      · rw [if_pos y1, if_pos y1]
      · rw [if_neg y1, if_neg y1]; exact m0.2.2.1 y
  · have f1 : pr_F A h h1 := by rw [eh1]; exact pr_new FA
    have f2 := rgJ7_copyOf_9075b f1 hA e2
    have f3 := rgX7_init f2.1 (FA.1 _ (Nat.le_refl _)) f2.2 em
    have e : pm_R m a k = some b := by rw [← e, eH]; rfl
    exact f3.2.2.1 a ha k b e
  · have J1 : pw_J h1 := by rw [eh1]; exact (pw_new (pw_rf (L := []) h)).2.2.2.1 J
    have J2 := (wfJ7_copyOf_9075b (pw_rf h1) e2).2.2.2.1 J1
    have J3 := (wfX7_init (pw_rf h2) em).2.2.2.1 J2
    intro a ha
    rw [eH] at ha ⊢
    exact J3 a ha
