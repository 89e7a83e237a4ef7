/-! THE REFERENCE READS: section 9: an element whole -/
section MEL
variable {n b m eo el e : Nat} {B : Nat → Nat} {d : Bool}
theorem ms_elm {mm i : Nat} (hmm : mm < 8) (hi : i < 64) {h : pm_H} {p : Nat} (C : mC h n b m eo el e d B) (E : mE h n el p) (hp : p ≤ e) (f q : Int32) : ms_Q (fun h' => yF m eo el h h') (fun v p' r => ∃ h', r = rm h' (Int32.ofNat p') f q ∧ gF (elI m eo el i p) (elL m i) h h' ∧ mE h' n el p' ∧ pm_I h' m 3 = pm_I h m 3 ∧ pEl m h' i v ∧ p < p' ∧ p' ≤ e) (fX16_readsElement (rm h (Int32.ofNat p) f q) 592 (Int32.ofNat mm) (Int32.ofNat i)) (sp_elm B e d mm p) := by
  have hm : 648 < m := mC_m C
  obtain ⟨d1, d2, d3⟩ := mC_d C
  obtain ⟨s1, s2⟩ := mC_s C
  have K : pm_kd h 592 = 16 := C.1.1
  have rr := C.1.2.1
  have km := C.1.2.2.1
  have b1 := el_b1 hmm
  have b2 := el_b2 hmm
  have ic : (Int32.ofNat i).toNatClampNeg = i := nn_cm (by omega)
  have ki : ∀ ln, ln = 64 → pm_in (Int32.ofNat i) ln := fun ln z => by rw [nn_in (by omega)]; omega
  have m23 : m + 23 ≠ 592 := by omega
  have m25 : m + 25 ≠ 592 := by omega
  obtain ⟨r35, k35, l35⟩ := mP_35 C.2.2.1
  obtain ⟨r36, k36, l36⟩ := mP_36 C.2.2.1
  obtain ⟨r37, k37, l37⟩ := mP_37 C.2.2.1
  -- behind mode, table and place
  have fin : ∀ (mo tb pl p2 : Nat) (G : pm_H), p ≤ p2 → p2 ≤ e → gF (elI m eo el i p) (elL m i) h G → mE G n el p2 → pm_I G m 3 = pm_I h m 3 → pm_I G (m + 23) i = Int32.ofNat mo → pm_L G (m + 24) i = Int64.ofNat tb → pm_I G (m + 25) i = Int32.ofNat pl → ms_Q (fun h' => yF m eo el h h') (fun v p' r => ∃ h', r = rm h' (Int32.ofNat p') f q ∧ gF (elI m eo el i p) (elL m i) h h' ∧ mE h' n el p' ∧ pm_I h' m 3 = pm_I h m 3 ∧ pEl m h' i v ∧ p < p' ∧ p' ≤ e) (pm_lim sX16_readsElement (.inr (.inr (.inr (.inr (.inl (592, Int32.ofNat mm, Int32.ofNat i, rm G (Int32.ofNat p2) f q))))))) (sp_b (sp_elB B e mm p2) fun v p2 => sp_b (sp_rows (sp_it B e d mm) v.2.1 p2) fun l p3 => .inr ((mm, (mo, tb, pl), v, l), p3)) := by
    intro mo tb pl p2 G h1 h2 g EG G3 Gm Gt Gp
    have y := el_y C g
    have CG := mC_F C y
    refine q_w (ms_elB hmm hi CG EG h2 f q (mo, tb, pl)) (fun h' z => yF_t y z) ?_
    rintro v p3 r e1 ⟨h', er, g2, E2, i3, va, vb, P, c1, c2⟩
    refine ⟨h', er, gF_t g (gF_m g2 (fun x y z => el_m h1 z) (fun x y z => z)), E2, i3.trans G3, ?_, by omega, c2⟩
    unfold pEl
    rw [va, vb]
    exact ⟨P.2.2.2.2.1.trans Gm, P.2.2.2.2.2.2.trans Gt, P.2.2.2.2.2.1.trans Gp, P.1, P.2.1, P.2.2.1, P.2.2.2.1⟩
  -- the heap with mode, table, place
  have hH : ∀ (mo tb pl p1 : Nat), p ≤ p1 → ∃ G, pm_setI (pm_setL (pm_setI h (m + 23) i (Int32.ofNat mo)) (m + 24) i (Int64.ofNat tb)) (m + 25) i (Int32.ofNat pl) = G ∧ gF (elI m eo el i p) (elL m i) h G ∧ mE G n el p1 ∧ pm_I G m 3 = pm_I h m 3 ∧ pm_I G (m + 23) i = Int32.ofNat mo ∧ pm_L G (m + 24) i = Int64.ofNat tb ∧ pm_I G (m + 25) i = Int32.ofNat pl := by
    intro mo tb pl p1 h1
    refine ⟨_, rfl, gF_t (gF_t (gF_I _ _ (by unfold elI; omega)) (gF_L _ _ ⟨rfl, rfl⟩)) (gF_I _ _ (by unfold elI; omega)), mE_k (mE_m E h1) (fun y => by rw [ev_II, if_neg (by omega), ev_IL, ev_II, if_neg (by omega)]), ?_, ?_, ?_, ?_⟩
    · rw [ev_II, if_neg (by omega), ev_IL, ev_II, if_neg (by omega)]
    · rw [ev_II, if_neg (by omega), ev_IL, ev_II, if_pos rfl, if_pos rfl]
    · rw [ev_LI, ev_LL, if_pos rfl, if_pos rfl]
    · rw [ev_II, if_pos rfl, if_pos rfl]
  unfold fX16_readsElement sp_elm
  by_cases z1 : mm % 2 = 0
  · refine q_t (show Int32.ofNat mm &&& 1 = 0 by rw [b1]; exact z1) (s_w (aX16_readsElement_0 ..) ?_)
    unfold tX16_readsElement_11
    refine s_t K (s_b rr (s_t km (s_b r35 (s_f (by decide) (s_n (s_w (aX16_readsElement_1 ..) ?_))))))
    unfold tX16_readsElement_39
    simp only [ic, rm_a _ _ _ _ _ m23]
    refine s_t k35 (s_t (ki _ l35) (s_t K (s_b rr (s_t km (s_b r36 (s_f (by decide) ?_))))))
    obtain ⟨C1, g1'⟩ := mC_el1 C (x := m + 23) (i := i) 0 (by omega)
    have g1 : gF (elI m eo el i p) (elL m i) h (pm_setI h (m + 23) i 0) := gF_I _ _ (by unfold elI; omega)
    have y1 := el_y C g1
    -- from the table on
    have s66 : ∀ (tb p1 : Nat), p ≤ p1 → p1 ≤ e → ms_Q (fun h' => yF m eo el h h') (fun v p' r => ∃ h', r = rm h' (Int32.ofNat p') f q ∧ gF (elI m eo el i p) (elL m i) h h' ∧ mE h' n el p' ∧ pm_I h' m 3 = pm_I h m 3 ∧ pEl m h' i v ∧ p < p' ∧ p' ≤ e) (pm_lim sX16_readsElement (.inr (.inr (.inr (.inl (592, Int32.ofNat mm, Int32.ofNat i, 1, Int64.ofNat tb, Int32.ofNat i, m + 24, rm (pm_setI h (m + 23) i 0) (Int32.ofNat p1) f q)))))) (sp_b (sp_ex B e d false (e + 1) [] p1) fun _ p2 => sp_b (sp_elB B e mm p2) fun v p2 => sp_b (sp_rows (sp_it B e d mm) v.2.1 p2) fun l p3 => .inr ((mm, (0, tb, p1), v, l), p3)) := by
      intro tb p1 h1 h2
      obtain ⟨G, eG, gG, EG, G3, Gm, Gt, Gp⟩ := hH 0 tb p1 p1 h1
      have eG' : pm_setI (pm_setL (pm_setI h (m + 23) i 0) (m + 24) i (Int64.ofNat tb)) (m + 25) i (Int32.ofNat p1) = G := eG
      have yG := el_y C gG
      have CG := mC_F C yG
      refine s_w (aX16_readsElement_3 ..) ?_
      unfold tX16_readsElement_66
      refine s_t k36 (s_t (ki _ l36) (s_t K (s_b rr (s_t km (s_b r37 (s_l (s_t k37 (s_t (ki _ l37) (s_f (by decide) ?_)))))))))
      rw [ic, rm_sL, r_11, rm_a _ _ _ _ _ m25, eG']
      refine s_c (ms_ex CG EG h2 false f q) (fun h' z => yF_t yG z) ?_
      rintro v3 p3 r e3 ⟨h3, er, g3, P3, E3, b3, hp3⟩
      subst er
      have w : ∀ x y, m + 23 ≤ x ∧ x ≤ m + 29 → pm_I h3 x y = pm_I G x y := fun x y hx => g3.2.2.2.2.1 x y (by unfold exI; omega)
      refine s_n (fin 0 tb p1 p3 h3 (by omega) hp3 (gF_t gG (gF_m g3 (fun x y z => .inl (exI_ep h1 z)) (fun x y z => z.elim))) E3 ?_ ?_ ?_ ?_)
      · rw [P3.2.2.2.2.2.2.1, ex_nf e3]; exact G3
      · rw [w _ _ (by omega)]; exact Gm
      · rw [g3.2.2.2.2.2 _ _ (fun z => z)]; exact Gt
      · rw [w _ _ (by omega)]; exact Gp
    unfold sp_elA
    rw [if_pos z1]
    by_cases z2 : mm / 2 % 2 = 0
    · rw [if_pos z2, sp_ba]
      refine s_t (show Int32.ofNat mm &&& 2 = 0 by rw [b2]; exact z2) (s_n (s_w (aX16_readsElement_2 ..) ?_))
      unfold tX16_readsElement_65
      exact s_n (s66 0 p (Nat.le_refl _) hp)
    · rw [if_neg z2, sp_ba]
      refine s_f (show ¬ Int32.ofNat mm &&& 2 = 0 by rw [b2]; exact z2) ?_
      refine s_c (MR_Q (ms_num C1.1 C1.2.2.2.2.1 C1.2.2.2.2.2.1 hp f q)) (fun h' z => by rw [z]; exact y1) ?_
      intro tb p1 r e1 er
      subst er
      obtain ⟨c1, c2⟩ := sp_num_b hp e1
      rw [sp_ba]
      exact s_n (s66 tb p1 (by omega) c2)
  · refine q_f (show ¬ Int32.ofNat mm &&& 1 = 0 by rw [b1]; exact z1) (s_w (aX16_readsElement_0 ..) ?_)
    unfold tX16_readsElement_11
    refine s_t K (s_b rr (s_t km (s_b r35 (s_t rfl ?_))))
    unfold sp_elA
    rw [if_neg z1, sp_br]
    have s39 : ∀ mo : Nat, ms_Q (fun h' => yF m eo el h h') (fun v p' r => ∃ h', r = rm h' (Int32.ofNat p') f q ∧ gF (elI m eo el i p) (elL m i) h h' ∧ mE h' n el p' ∧ pm_I h' m 3 = pm_I h m 3 ∧ pEl m h' i v ∧ p < p' ∧ p' ≤ e) (pm_lim sX16_readsElement (.inr (.inl (592, Int32.ofNat mm, Int32.ofNat i, 0, Int32.ofNat mo, Int32.ofNat i, m + 23, rm h (Int32.ofNat p) f q)))) (sp_b (sp_elB B e mm p) fun v p2 => sp_b (sp_rows (sp_it B e d mm) v.2.1 p2) fun l p3 => .inr ((mm, (mo, 0, p), v, l), p3)) := by
      intro mo
      refine s_w (aX16_readsElement_1 ..) ?_
      unfold tX16_readsElement_39
      simp only [ic, rm_a _ _ _ _ _ m23]
      refine s_t k35 (s_t (ki _ l35) (s_t K (s_b rr (s_t km (s_b r36 (s_t trivial (s_n (s_w (aX16_readsElement_2 ..) ?_))))))))
      unfold tX16_readsElement_65
      refine s_n (s_w (aX16_readsElement_3 ..) ?_)
      unfold tX16_readsElement_66
      obtain ⟨G, eG, gG, EG, G3, Gm, Gt, Gp⟩ := hH mo 0 p p (Nat.le_refl _)
      have eG' : pm_setI (pm_setL (pm_setI h (m + 23) i (Int32.ofNat mo)) (m + 24) i 0) (m + 25) i (Int32.ofNat p) = G := eG
      refine s_t k36 (s_t (ki _ l36) (s_t K (s_b rr (s_t km (s_b r37 (s_l (s_t k37 (s_t (ki _ l37) (s_t rfl ?_)))))))))
      rw [ic, rm_sL, r_11, rm_a _ _ _ _ _ m25, eG']
      exact s_n (fin mo 0 p p G (Nat.le_refl _) hp gG EG G3 Gm Gt Gp)
    by_cases z2 : mm / 2 % 2 = 0
    · rw [if_pos z2]
      exact s_t (show Int32.ofNat mm &&& 2 = 0 by rw [b2]; exact z2) (s_n (s39 1))
    · rw [if_neg z2]
      exact s_f (show ¬ Int32.ofNat mm &&& 2 = 0 by rw [b2]; exact z2) (s_n (s39 2))
end MEL
