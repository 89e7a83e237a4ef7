/-! THE REFERENCE READS: section 9: an element, by rules -/
theorem ev_II2' (h : pm_H) (a k : Nat) (v w : Int32) : pm_setI (pm_setI h a k v) a k w = pm_setI h a k w := by
  refine congrArg (fun z => (pm_sz h, pm_kd h, pm_ln h, z, pm_L h, pm_R h)) (funext fun x => funext fun y => ?_)
  show (if x = a then (if y = k then w else (if x = a then (if y = k then v else pm_I h x y) else pm_I h x y)) else (if x = a then (if y = k then v else pm_I h x y) else pm_I h x y)) = (if x = a then (if y = k then w else pm_I h x y) else pm_I h x y)
  repeat' split
  all_goals rfl
section MEL
variable {n b m eo el e : Nat} {B : Nat → Nat} {d : Bool}
/-- what is told behind type, count and items: the type t, how many c, where a -/
def elP (m mm i : Nat) (h h' : pm_H) (t c a : Nat) : Prop := pm_I h' (m + 26) i = Int32.ofNat t ∧ pm_I h' (m + 27) i = Int32.ofNat (mm / 4 % 2) ∧ pm_I h' (m + 28) i = Int32.ofNat c ∧ pm_I h' (m + 29) i = Int32.ofNat a ∧ pm_I h' (m + 23) i = pm_I h (m + 23) i ∧ pm_I h' (m + 25) i = pm_I h (m + 25) i ∧ pm_L h' (m + 24) i = pm_L h (m + 24) i
theorem mC_el1 {h : pm_H} (C : mC h n b m eo el e d B) {x i : Nat} (v : Int32) (hx : m + 23 ≤ x ∧ x ≤ m + 29) : mC (pm_setI h x i v) n b m eo el e d B ∧ gF (elI m eo el i 0) (elL m i) h (pm_setI h x i v) := by
  have g : gF (elI m eo el i 0) (elL m i) h (pm_setI h x i v) := gF_I _ _ (by unfold elI; omega)
  exact ⟨mC_F C (el_y C g), g⟩
theorem ms_elB {mm i : Nat} (hmm : mm < 8) (hi : i < 64) {h : pm_H} {p : Nat} (C : mC h n b m eo el e d B) (E : mE h n el p) (hp : p ≤ e) (f q : Int32) (a : Nat × Nat × Nat) : ms_Q (fun h' => yF m eo el h h') (fun v p' r => ∃ h', r = rm h' (Int32.ofNat p') f q ∧ gF (elI m eo el i p) (elL m i) h h' ∧ mE h' n el p' ∧ pm_I h' m 3 = pm_I h m 3 ∧ v.1 = mm ∧ v.2.1 = a ∧ elP m mm i h h' v.2.2.1.1 v.2.2.1.2.1 v.2.2.1.2.2 ∧ p < p' ∧ p' ≤ e) (pm_lim sX16_readsElement (.inr (.inr (.inr (.inr (.inl (592, Int32.ofNat mm, Int32.ofNat i, rm h (Int32.ofNat p) f q))))))) (sp_b (sp_elB B e mm p) fun v p2 => sp_b (sp_rows (sp_it B e d mm) v.2.1 p2) fun l p3 => .inr ((mm, a, v, l), p3)) := by
  have hm : 648 < m := mC_m C
  obtain ⟨d1, d2, d3⟩ := mC_d C
  obtain ⟨s1, s2⟩ := mC_s C
  have K : pm_kd h 592 = 16 := C.1.1
  have rr := C.1.2.1
  have km := C.1.2.2.1
  have hb := C.1.2.2.2.2.2.2.2.2.2
  have b4 := el_b4 hmm
  have ic : (Int32.ofNat i).toNatClampNeg = i := nn_cm (by omega)
  have ki : ∀ ln, ln = 64 → pm_in (Int32.ofNat i) ln := fun ln z => by rw [nn_in (by omega)]; omega
  obtain ⟨r39, k39, l39⟩ := mP_39 C.2.2.1
  obtain ⟨r38, k38, l38⟩ := mP_38 C.2.2.1
  obtain ⟨r41, k41, l41⟩ := mP_41 C.2.2.1
  -- the heap with the bit and the type
  have hG : ∀ t : Nat, ∃ G, pm_setI (pm_setI h (m + 27) i (Int32.ofNat (mm / 4 % 2))) (m + 26) i (Int32.ofNat t) = G ∧ mC G n b m eo el e d B ∧ mE G n el p ∧ gF (elI m eo el i p) (elL m i) h G ∧ pm_I G m 3 = pm_I h m 3 ∧ pm_I G (m + 26) i = Int32.ofNat t ∧ pm_I G (m + 27) i = Int32.ofNat (mm / 4 % 2) ∧ (∀ x, x ≠ m + 26 → x ≠ m + 27 → pm_I G x i = pm_I h x i) ∧ pm_L G = pm_L h := by
    intro t
    have g : gF (elI m eo el i p) (elL m i) h (pm_setI (pm_setI h (m + 27) i (Int32.ofNat (mm / 4 % 2))) (m + 26) i (Int32.ofNat t)) := gF_t (gF_I _ _ (by unfold elI; omega)) (gF_I _ _ (by unfold elI; omega))
    refine ⟨_, rfl, mC_F C (el_y C g), mE_k E (fun y => by rw [ev_II, if_neg (by omega), ev_II, if_neg (by omega)]), g, by rw [ev_II, if_neg (by omega), ev_II, if_neg (by omega)], by rw [ev_II, if_pos rfl, if_pos rfl], by rw [ev_II, if_neg (by omega), ev_II, if_pos rfl, if_pos rfl], fun x h1 h2 => by rw [ev_II, if_neg h1, ev_II, if_neg h2], rfl⟩
  -- from the count on
  have tail : ∀ (t : Nat) (G : pm_H) (p1 : Nat), p ≤ p1 → p1 ≤ e → mC G n b m eo el e d B → mE G n el p1 → gF (elI m eo el i p) (elL m i) h G → pm_I G m 3 = pm_I h m 3 → pm_I G (m + 26) i = Int32.ofNat t → pm_I G (m + 27) i = Int32.ofNat (mm / 4 % 2) → (∀ x, x ≠ m + 26 → x ≠ m + 27 → pm_I G x i = pm_I h x i) → pm_L G = pm_L h → ∀ (c p2 : Nat), sp_num B e p1 = .inr (c, p2) → p1 < p2 → p2 ≤ e → ms_Q (fun h' => yF m eo el h h') (fun v p' r => ∃ h', r = rm h' (Int32.ofNat p') f q ∧ gF (elI m eo el i p) (elL m i) h h' ∧ mE h' n el p' ∧ pm_I h' m 3 = pm_I h m 3 ∧ v.1 = mm ∧ v.2.1 = a ∧ elP m mm i h h' v.2.2.1.1 v.2.2.1.2.1 v.2.2.1.2.2 ∧ p < p' ∧ p' ≤ e) (pm_lim sX16_readsElement (.inr (.inr (.inr (.inr (.inr (.inr (592, Int32.ofNat mm, Int32.ofNat i, Int64.ofNat c, 0, rm (pm_setI G (m + 29) i (Int32.ofNat p2)) (Int32.ofNat p2) f q)))))))) (sp_b (sp_rows (sp_it B e d mm) c p2) fun l p3 => .inr ((mm, a, (t, c, p2), l), p3)) := by
    intro t G p1 h1 h2 CG EG gG G3 Gt Gb Gx GL c p2 ec hc1 hc2
    have nv := sp_num_v hb ec
    obtain ⟨C5, g5⟩ := mC_el1 CG (x := m + 29) (i := i) (Int32.ofNat p2) (by omega)
    have gG5 : gF (elI m eo el i p) (elL m i) h (pm_setI G (m + 29) i (Int32.ofNat p2)) := gF_t gG (gF_I _ _ (by unfold elI; omega))
    have y5 := el_y C gG5
    refine q_cl (ms_els hmm hi nv C5 (mE_k (mE_m EG (by omega)) (fun y => by rw [ev_II, if_neg (by omega)])) hc2 f q) (fun h' y => yF_t y5 y) ?_
    rintro l p3 r el3 ⟨h', er, g6, E6, i3, i28, ix, iL, ln, b1, b2⟩
    have gL : pm_L h' (m + 24) i = pm_L h (m + 24) i ∨ True := .inr trivial
    refine q_r ⟨h', er, gF_t gG5 (gF_m g6 (fun x y z => el_m (by omega) z) (fun x y z => z)), E6, ?_, rfl, rfl, ⟨?_, ?_, i28, ?_, ?_, ?_, ?_⟩, by omega, b2⟩
    · rw [i3, ev_II, if_neg (by omega)]; exact G3
    · rw [ix (m + 26) (by omega) (by omega) (by omega), ev_II, if_neg (by omega)]; exact Gt
    · rw [ix (m + 27) (by omega) (by omega) (by omega), ev_II, if_neg (by omega)]; exact Gb
    · rw [ix (m + 29) (by omega) (by omega) (by omega), ev_II, if_pos rfl, if_pos rfl]
    · rw [ix (m + 23) (by omega) (by omega) (by omega), ev_II, if_neg (by omega)]; exact Gx _ (by omega) (by omega)
    · rw [ix (m + 25) (by omega) (by omega) (by omega), ev_II, if_neg (by omega)]; exact Gx _ (by omega) (by omega)
    · rw [iL, ev_LI, GL]
  refine s_w (aX16_readsElement_4 ..) ?_
  unfold tX16_readsElement_89
  refine s_t K (s_b rr (s_t km (s_b r39 ?_)))
  have st108 : ms_Q (fun h' => yF m eo el h h') (fun v p' r => ∃ h', r = rm h' (Int32.ofNat p') f q ∧ gF (elI m eo el i p) (elL m i) h h' ∧ mE h' n el p' ∧ pm_I h' m 3 = pm_I h m 3 ∧ v.1 = mm ∧ v.2.1 = a ∧ elP m mm i h h' v.2.2.1.1 v.2.2.1.2.1 v.2.2.1.2.2 ∧ p < p' ∧ p' ≤ e) (pm_lim sX16_readsElement (.inr (.inr (.inr (.inr (.inr (.inl (592, Int32.ofNat mm, Int32.ofNat i, Int32.ofNat (mm / 4 % 2), Int32.ofNat i, m + 27, rm h (Int32.ofNat p) f q)))))))) (sp_b (sp_elB B e mm p) fun v p2 => sp_b (sp_rows (sp_it B e d mm) v.2.1 p2) fun l p3 => .inr ((mm, a, v, l), p3)) := by
    refine s_w (aX16_readsElement_5 ..) ?_
    unfold tX16_readsElement_108
    have m27 : m + 27 ≠ 592 := by omega
    have m26 : m + 26 ≠ 592 := by omega
    have m29 : m + 29 ≠ 592 := by omega
    simp only [vp_b01 (show mm / 4 % 2 ≤ 1 by omega), ic, rm_a _ _ _ _ _ m27]
    refine s_t k39 (s_t (ki _ l39) (s_t K (s_b rr (s_t km (s_b r38 (s_t k38 (s_t (ki _ l38) ?_)))))))
    rw [rm_a _ _ _ _ _ m26]
    obtain ⟨G, eG, CG, EG, gG, G3, Gt, Gb, Gx, GL⟩ := hG 112
    have eG' : pm_setI (pm_setI h (m + 27) i (Int32.ofNat (mm / 4 % 2))) (m + 26) i 112 = G := eG
    rw [eG']
    have yG := el_y C gG
    obtain ⟨rr', km', K'⟩ : pm_R G 592 10 = some m ∧ pm_kd G m = 14 ∧ pm_kd G 592 = 16 := ⟨CG.1.2.1, CG.1.2.2.1, CG.1.1⟩
    obtain ⟨r41', k41', l41'⟩ := mP_41 CG.2.2.1
    unfold sp_elB
    by_cases c0 : mm = 0
    · rw [if_pos (show mm = 0 ∨ mm = 4 from .inl c0), sp_ba]
      refine s_t (show Int32.ofNat mm = 0 by rw [c0]; rfl) ?_
      refine s_c (MR_Q (ms_num CG.1 CG.2.2.2.2.1 CG.2.2.2.2.2.1 hp f q)) (fun h' z => by rw [z]; exact yG) ?_
      intro c p2 r ec er
      subst er
      obtain ⟨b1, b2⟩ := sp_num_b hp ec
      refine s_t K' (s_b rr' (s_t km' (s_b r41' (s_l (s_t k41' (s_t (ki _ l41') (s_n ?_)))))))
      show ms_Q _ _ (pm_lim sX16_readsElement (.inr (.inr (.inr (.inr (.inr (.inr (592, Int32.ofNat mm, Int32.ofNat i, Int64.ofNat c, 0, pm_setI (rm G (Int32.ofNat p2) f q) (m + 29) i (Int32.ofNat p2))))))))) _
      rw [rm_a _ _ _ _ _ m29]
      exact tail 112 G p (Nat.le_refl _) hp CG EG gG G3 Gt Gb Gx GL c p2 ec b1 b2
    · refine s_f (show ¬ Int32.ofNat mm = 0 by rw [n3_0, nn_eq (by omega) (by omega)]; exact c0) ?_
      by_cases c4 : mm = 4
      · rw [if_pos (show mm = 0 ∨ mm = 4 from .inr c4), sp_ba]
        refine s_t (show Int32.ofNat mm = 4 by rw [c4]; rfl) ?_
        refine s_c (MR_Q (ms_num CG.1 CG.2.2.2.2.1 CG.2.2.2.2.2.1 hp f q)) (fun h' z => by rw [z]; exact yG) ?_
        intro c p2 r ec er
        subst er
        obtain ⟨b1, b2⟩ := sp_num_b hp ec
        refine s_t K' (s_b rr' (s_t km' (s_b r41' (s_l (s_t k41' (s_t (ki _ l41') (s_n ?_)))))))
        show ms_Q _ _ (pm_lim sX16_readsElement (.inr (.inr (.inr (.inr (.inr (.inr (592, Int32.ofNat mm, Int32.ofNat i, Int64.ofNat c, 0, pm_setI (rm G (Int32.ofNat p2) f q) (m + 29) i (Int32.ofNat p2))))))))) _
        rw [rm_a _ _ _ _ _ m29]
        exact tail 112 G p (Nat.le_refl _) hp CG EG gG G3 Gt Gb Gx GL c p2 ec b1 b2
      · rw [if_neg (show ¬ (mm = 0 ∨ mm = 4) from fun z => z.elim c0 c4)]
        refine s_f (show ¬ Int32.ofNat mm = 4 by rw [n3_4, nn_eq (by omega) (by omega)]; exact c4) ?_
        by_cases z4 : mm / 4 % 2 = 0
        · rw [if_pos z4, sp_ba]
          refine s_t (show Int32.ofNat mm &&& 4 = 0 by rw [b4]; exact z4) ?_
          refine s_c (MR_Q (ms_small CG.1 CG.2.2.2.2.1 CG.2.2.2.2.2.1 hp f q (t := 0) (by decide))) (fun h' z => by rw [z]; exact yG) ?_
          intro v1 p1 r e1 er
          subst er
          obtain ⟨b1, b2⟩ := sp_byte_b hp e1
          refine s_t K' ?_
          rw [sp_ba]
          refine s_c (MR_Q (ms_num CG.1 CG.2.2.2.2.1 CG.2.2.2.2.2.1 b2 f q)) (fun h' z => by rw [z]; exact yG) ?_
          intro c p2 r ec er
          subst er
          obtain ⟨b3, b5⟩ := sp_num_b b2 ec
          refine s_t K' (s_b rr' (s_t km' (s_b r41' (s_l (s_t k41' (s_t (ki _ l41') (s_n ?_)))))))
          show ms_Q _ _ (pm_lim sX16_readsElement (.inr (.inr (.inr (.inr (.inr (.inr (592, Int32.ofNat mm, Int32.ofNat i, Int64.ofNat c, 0, pm_setI (rm G (Int32.ofNat p2) f q) (m + 29) i (Int32.ofNat p2))))))))) _
          rw [rm_a _ _ _ _ _ m29]
          exact tail 112 G p1 (by omega) b2 CG (mE_m EG (by omega)) gG G3 Gt Gb Gx GL c p2 ec b3 b5
        · rw [if_neg z4, sp_ba]
          refine s_f (show ¬ Int32.ofNat mm &&& 4 = 0 by rw [b4]; exact z4) ?_
          refine s_c (MR_Q (ms_ref CG.1 CG.2.2.2.2.1 CG.2.2.2.2.2.1 hp f q)) (fun h' z => by rw [z]; exact yG) ?_
          intro t p1 r e1 er
          subst er
          obtain ⟨b1, b2⟩ := sp_byte_b hp e1
          obtain ⟨r38', k38', l38'⟩ := mP_38 CG.2.2.1
          refine s_t k38' (s_t (ki _ l38') (s_t K' ?_))
          obtain ⟨G2, eG2, CG2, EG2, gG2, G32, Gt2, Gb2, Gx2, GL2⟩ := hG t
          have e2 : pm_setI G (m + 26) i (Int32.ofNat t) = G2 := by
            rw [← eG, ← eG2]
            exact ev_II2' _ _ _ _ _
          have st : pm_setI (rm G (Int32.ofNat p1) f q) (m + 26) i (Int32.ofNat t) = rm G2 (Int32.ofNat p1) f q := by rw [rm_a _ _ _ _ _ m26, e2]
          have st2 : ∀ {γ : Type} (k : pm_H → γ), k (pm_setI (rm G (Int32.ofNat p1) f q) (m + 26) i (Int32.ofNat t)) = k (rm G2 (Int32.ofNat p1) f q) := fun k => by rw [st]
          rw [sp_ba]
          show ms_Q _ _ (ev_k sX16_readsElement ((fX16_number (pm_setI (rm G (Int32.ofNat p1) f q) (m + 26) i (Int32.ofNat t)) 592).bind _)) _
          rw [st]
          have yG2 := el_y C gG2
          refine s_c (MR_Q (ms_num CG2.1 CG2.2.2.2.2.1 CG2.2.2.2.2.2.1 b2 f q)) (fun h' z => by rw [z]; exact yG2) ?_
          intro c p2 r ec er
          subst er
          obtain ⟨b3, b5⟩ := sp_num_b b2 ec
          obtain ⟨r412, k412, l412⟩ := mP_41 CG2.2.2.1
          refine s_t CG2.1.1 (s_b CG2.1.2.1 (s_t CG2.1.2.2.1 (s_b r412 (s_l (s_t k412 (s_t (ki _ l412) (s_n ?_)))))))
          show ms_Q _ _ (pm_lim sX16_readsElement (.inr (.inr (.inr (.inr (.inr (.inr (592, Int32.ofNat mm, Int32.ofNat i, Int64.ofNat c, 0, pm_setI (rm G2 (Int32.ofNat p2) f q) (m + 29) i (Int32.ofNat p2))))))))) _
          rw [rm_a _ _ _ _ _ m29]
          exact tail t G2 p1 (by omega) b2 CG2 (mE_m EG2 (by omega)) gG2 G32 Gt2 Gb2 Gx2 GL2 c p2 ec b3 b5
  by_cases z4 : mm / 4 % 2 = 0
  · refine s_t (show Int32.ofNat mm &&& 4 = 0 by rw [b4]; exact z4) (s_n ?_)
    rw [z4] at st108
    exact st108
  · refine s_f (show ¬ Int32.ofNat mm &&& 4 = 0 by rw [b4]; exact z4) (s_n ?_)
    rw [show mm / 4 % 2 = 1 by omega] at st108
    exact st108
end MEL
