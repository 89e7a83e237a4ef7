/-! THE REFERENCE CHECKS: taking and putting -/
def tAI (x y : Nat) : Prop := (x = 592 ∧ (y = 23 ∨ y = 24)) ∨ (599 ≤ x ∧ x ≤ 604)
abbrev tF : pm_H → pm_H → Prop := gF tAI vAL
theorem tF_v {m : Nat} {h h' : pm_H} (F : tF h h') : vF m h h' := gF_m F (fun x y z => by unfold tAI at z; unfold vAI; omega) (fun x y z => z)
theorem tF_y {h h' : pm_H} (F : tF h h') {y : Nat} (h1 : y ≠ 23) (h2 : y ≠ 24) : pm_I h' 592 y = pm_I h 592 y := F.2.2.2.2.1 592 y (by unfold tAI; omega)
/-- what is kept of a state K at p: h' tells K' -/
abbrev vT (h : pm_H) (p : Nat) (K : tK) (h' : pm_H) : Prop := tF h h' ∧ vK h' p K
theorem nn_s1 {k : Nat} (h : 1 ≤ k) : Int32.ofNat k - 1 = Int32.ofNat (k - 1) := nn_sb h
section VTAKE
variable {h : pm_H} {n b m eo el p w : Nat} {B : Nat → Nat} {M : tMd} {K : tK}
theorem kTake_w {v : Nat × tK} {z : Nat} (W : wfK M K) (q : kTake p w K = .inr (v, z)) : wfK M v.2 ∧ v.2.2 = K.2 ∧ (v.1 = 0 ∨ isT v.1) ∧ v.2.1.length ≤ K.1.length := by
  unfold kTake at q
  obtain ⟨w1, w2, w3, w4, w5⟩ := W
  by_cases c : K.1.length ≤ (kTop K).2.2.1
  · rw [if_pos c] at q
    split at q
    · cases q; exact ⟨⟨w1, w2, w3, w4, w5⟩, rfl, .inl rfl, Nat.le_refl _⟩
    · cases q
  · rw [if_neg c] at q
    split at q
    · cases q
      obtain ⟨st, ls, co⟩ := K
      cases st with
      | nil => exact absurd (Nat.zero_le _) c
      | cons t s =>
        have c : ¬ s.length + 1 ≤ (kTop (t :: s, ls, co)).2.2.1 := c
        refine ⟨⟨?_, w2, fun x hx => w3 x (List.mem_cons_of_mem _ hx), Nat.le_of_succ_le w4, w5⟩, rfl, w3 t List.mem_cons_self, Nat.le_succ _⟩
        show wfL ls s.length
        cases ls with
        | nil => trivial
        | cons l ls =>
          have c : ¬ s.length + 1 ≤ l.2.2.1 := c
          exact ⟨by omega, w1.2⟩
    · cases q
theorem kPut_w {K' : tK} {z : Nat} (W : wfK M K) (hw : w = 0 ∨ isT w) (q : kPut p w K = .inr (K', z)) : wfK M K' ∧ K'.2 = K.2 ∧ K'.1 = w :: K.1 := by
  unfold kPut at q
  obtain ⟨w1, w2, w3, w4, w5⟩ := W
  by_cases c : K.1.length < 1000
  · rw [if_pos c] at q
    cases q
    refine ⟨⟨?_, w2, fun x hx => ?_, c, w5⟩, rfl, rfl⟩
    · obtain ⟨st, ls, co⟩ := K
      cases ls with
      | nil => trivial
      | cons l ls =>
        have w1 : l.2.2.1 ≤ st.length ∧ wfL ls l.2.2.1 := w1
        exact ⟨Nat.le_succ_of_le w1.1, w1.2⟩
    · rcases List.mem_cons.mp hx with z | z
      · rw [z]; exact hw
      · exact w3 x z
  · rw [if_neg c] at q; cases q
theorem v_take (C : vC h n b m eo el B M) (V : vK h p K) (W : wfK M K) (hl : 0 < K.2.1.length) (hw : w = 0 ∨ isT w) : ms_Q (vF m h) (fun v _ r => ∃ h', r = (rT v.1, h') ∧ vT h p v.2 h') (fX16_take h 592 (Int32.ofNat w)) (kTake p w K) := by
  have C0 := C
  obtain ⟨st, ls, co⟩ := K
  obtain ⟨v1, v2, v3, v4, v5⟩ := V
  obtain ⟨w1, w2, w3, w4, w5⟩ := W
  obtain ⟨S, P, D, X, -⟩ := C
  obtain ⟨-, ⟨x1, x2, x3⟩, -, -, ⟨x4, x5, x6⟩, ⟨x7, x8, x9⟩, -⟩ := X
  cases ls with
  | nil => exact absurd hl (Nat.lt_irrefl 0)
  | cons l ls =>
    have v1 : pm_I h 592 23 = Int32.ofNat st.length := v1
    have v2 : pm_I h 592 24 = Int32.ofNat (ls.length + 1) := v2
    have w1 : l.2.2.1 ≤ st.length ∧ wfL ls l.2.2.1 := w1
    have w4 : st.length ≤ 1000 := w4
    have w5 : ls.length + 1 ≤ 200 := w5
    obtain ⟨⟨l1, l2, l3, l4⟩, lr⟩ := v5
    have y2 : pm_I h 592 24 - 1 = Int32.ofNat ls.length := by rw [v2]; exact nn_s1 (Nat.succ_le_succ (Nat.zero_le _))
    unfold fX16_take
    refine q_t S.1 (q_l ?_)
    rw [y2, v1]
    refine q_b x4 (q_t x5 (q_t (by rw [x6, nn_in (by omega)]; omega) ?_))
    have e602 : pm_I h 602 (Int32.ofNat ls.length).toNatClampNeg = Int32.ofNat l.2.2.1 := by rw [nn_cm (by omega)]; exact l3
    have e603 : pm_I h 603 (Int32.ofNat ls.length).toNatClampNeg = if l.2.2.2.1 = true then 1 else 0 := by rw [nn_cm (by omega)]; exact l4
    show ms_Q _ _ _ (if st.length ≤ l.2.2.1 then (if l.2.2.2.1 = true then .inr ((0, st, l :: ls, co), 0) else .inl (29, p)) else if w = 0 ∨ st.headD 0 = 0 ∨ st.headD 0 = w then .inr ((st.headD 0, st.tail, l :: ls, co), 0) else .inl (29, p))
    by_cases c : st.length ≤ l.2.2.1
    · rw [if_pos c]
      refine q_t (by rw [e602, show st.length = l.2.2.1 by omega]) (q_b x7 (q_t x8 (q_t (by rw [x9, nn_in (by omega)]; omega) ?_)))
      cases hd : l.2.2.2.1 with
      | true =>
        rw [if_pos rfl]
        exact q_f (by rw [e603, hd]; decide) (q_r ⟨h, rfl, gF_r _ _ h, v1, v2, v3, v4, ⟨⟨l1, l2, l3, l4⟩, lr⟩⟩)
      | false =>
        rw [if_neg (show ¬ false = true by decide)]
        exact q_t (by rw [e603, hd]; rfl) (v_stop S (gF_r _ _ h) rfl v3)
    · rw [if_neg c]
      refine q_f (by rw [e602, nn_eq (by omega) (by omega)]; omega) (q_l ?_)
      cases st with
      | nil => exact absurd (Nat.zero_le _) c
      | cons t s =>
        have v4 : pm_I h 599 s.length = rT t ∧ onR h s := v4
        have w4 : s.length + 1 ≤ 1000 := w4
        have c : ¬ s.length + 1 ≤ l.2.2.1 := c
        rw [show Int32.ofNat (t :: s).length - 1 = Int32.ofNat s.length from nn_s1 (Nat.succ_le_succ (Nat.zero_le _))]
        have F : tF h (pm_setI h 592 23 (Int32.ofNat s.length)) := gF_I h _ (.inl ⟨rfl, .inl rfl⟩)
        have e23 : pm_I (pm_setI h 592 23 (Int32.ofNat s.length)) 592 23 = Int32.ofNat s.length := by rw [ev_II, if_pos rfl, if_pos rfl]
        have k599 : ∀ x y, x ≠ 592 → pm_I (pm_setI h 592 23 (Int32.ofNat s.length)) x y = pm_I h x y := fun x y hx => by rw [ev_II, if_neg hx]
        refine q_b x1 (q_l ?_)
        rw [e23]
        refine q_t x2 (q_t (show pm_in (Int32.ofNat s.length) (pm_ln h 599) by rw [x3, nn_in (by omega)]; omega) (q_l ?_))
        rw [nn_cm (by omega), k599 599 _ (by decide), v4.1]
        show ms_Q _ _ _ (if w = 0 ∨ t = 0 ∨ t = w then .inr ((t, s, l :: ls, co), 0) else .inl (29, p))
        have RQ := rT_eq (w3 t List.mem_cons_self) hw
        have VK : vK (pm_setI h 592 23 (Int32.ofNat s.length)) p (s, l :: ls, co) := ⟨e23, by rw [ev_II, if_pos rfl, if_neg (by decide)]; exact v2, by rw [ev_II, if_pos rfl, if_neg (by decide)]; exact v3, onR_k (fun y _ => k599 599 y (by decide)) v4.2, onL_k (fun y _ => ⟨k599 600 y (by decide), rfl, k599 602 y (by decide), k599 603 y (by decide)⟩) ⟨⟨l1, l2, l3, l4⟩, lr⟩⟩
        have ok : (w = 0 ∨ t = 0 ∨ t = w) → ms_Q (vF m h) (fun v _ r => ∃ h', r = (rT v.1, h') ∧ vT h p v.2 h') (some (.inr (rT t, pm_setI h 592 23 (Int32.ofNat s.length)))) (if w = 0 ∨ t = 0 ∨ t = w then (.inr ((t, s, l :: ls, co), 0) : sp_O (Nat × tK)) else .inl (29, p)) := fun z => by
          rw [if_pos z]
          exact q_r ⟨_, rfl, F, VK⟩
        by_cases z1 : Int32.ofNat w = 0
        · exact q_t z1 (ok (RQ.mpr (.inl z1)))
        refine q_f z1 ?_
        by_cases z2 : rT t = -1
        · exact q_t z2 (ok (RQ.mpr (.inr (.inl z2))))
        refine q_f z2 ?_
        by_cases z3 : rT t = Int32.ofNat w
        · exact q_t z3 (ok (RQ.mpr (.inr (.inr z3))))
        refine q_f z3 ?_
        rw [if_neg (fun z => (RQ.mp z).elim z1 (fun z => z.elim z2 z3))]
        exact v_stop (vC_F C0 (tF_v F)).1 (tF_v F) rfl VK.2.2.1
theorem v_put (C : vC h n b m eo el B M) (V : vK h p K) (W : wfK M K) (hw : w = 0 ∨ isT w) : ms_Q (vF m h) (fun K' _ r => vT h p K' r) (fX16_put h 592 (rT w)) (kPut p w K) := by
  obtain ⟨st, ls, co⟩ := K
  obtain ⟨v1, v2, v3, v4, v5⟩ := V
  obtain ⟨w1, w2, w3, w4, w5⟩ := W
  obtain ⟨S, P, D, X, -⟩ := C
  obtain ⟨-, ⟨x1, x2, x3⟩, -⟩ := X
  have v1 : pm_I h 592 23 = Int32.ofNat st.length := v1
  have w4 : st.length ≤ 1000 := w4
  unfold fX16_put kPut
  refine q_t S.1 ?_
  rw [v1]
  show ms_Q _ _ _ (if st.length < 1000 then .inr ((w :: st, ls, co), 0) else .inl (40, p))
  by_cases c : st.length < 1000
  · rw [if_pos c]
    refine q_f (show ¬ Int32.ofNat st.length = Int32.ofNat 1000 by rw [nn_eq (by omega) (by omega)]; omega) (q_b x1 (q_t x2 (q_t (by rw [x3, nn_in (by omega)]; omega) (q_l ?_))))
    rw [nn_cm (by omega)]
    have F : tF h (pm_setI (pm_setI h 599 st.length (rT w)) 592 23 (Int32.ofNat (st.length + 1))) := gF_t (gF_I h _ (.inr ⟨by decide, by decide⟩)) (gF_I _ _ (.inl ⟨rfl, .inl rfl⟩))
    have e : pm_I (pm_setI h 599 st.length (rT w)) 592 23 + 1 = Int32.ofNat (st.length + 1) := by
      rw [ev_II, if_neg (by decide), v1]
      exact nn_ad _ 1
    rw [e]
    have k1 : ∀ x y, x ≠ 592 → x ≠ 599 → pm_I (pm_setI (pm_setI h 599 st.length (rT w)) 592 23 (Int32.ofNat (st.length + 1))) x y = pm_I h x y := fun x y hx hy => by rw [ev_II, if_neg hx, ev_II, if_neg hy]
    refine q_r ⟨F, by rw [ev_II, if_pos rfl, if_pos rfl]; rfl, ?_, ?_, ⟨?_, onR_k (fun y hy => ?_) v4⟩, onL_k (fun y _ => ⟨k1 600 y (by decide) (by decide), rfl, k1 602 y (by decide) (by decide), k1 603 y (by decide) (by decide)⟩) v5⟩
    · rw [ev_II, if_pos rfl, if_neg (by decide), ev_II, if_neg (by decide)]; exact v2
    · rw [ev_II, if_pos rfl, if_neg (by decide), ev_II, if_neg (by decide)]; exact v3
    · rw [ev_II, if_neg (by decide), ev_II, if_pos rfl, if_pos rfl]
    · rw [ev_II, if_neg (by decide), ev_II, if_pos rfl, if_neg (by omega)]
  · rw [if_neg c]
    refine q_t (show Int32.ofNat st.length = Int32.ofNat 1000 by rw [show st.length = 1000 by omega]) ?_
    exact v_stop S (gF_r _ _ h) rfl v3
end VTAKE
