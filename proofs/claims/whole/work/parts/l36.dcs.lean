/-! THE REFERENCE CHECKS: all that is declared -/
section VDCS
variable {h : pm_H} {n b m eo el : Nat} {B : Nat → Nat} {M : tMd} {D : Bool} {S : List Nat}
theorem rows_lt {α : Type} {row : Nat → sp_O α} (h : ∀ p v p', row p = .inr (v, p') → p < p' ∧ p' ≤ n) : ∀ (j p : Nat) (l : List α) (p' : Nat), p ≤ n → sp_rows row j p = .inr (l, p') → p + j ≤ p' ∧ p' ≤ n ∧ l.length = j
  | 0, p, l, p', hp, q => by cases q; exact ⟨Nat.le_refl _, hp, rfl⟩
  | j + 1, p, l, p', hp, q => by
    obtain ⟨v, p3, e1, e2⟩ := b_inv q
    obtain ⟨l', p4, e3, e4⟩ := b_inv e2
    cases e4
    have a := h _ _ _ e1
    obtain ⟨b1, b2, b3⟩ := rows_lt h j p3 l' p' a.2 e3
    exact ⟨by omega, b2, by rw [List.length_cons, b3]⟩
theorem it_lt {mm p v p' : Nat} (q : sp_it B n D mm p = .inr (v, p')) : p < p' ∧ p' ≤ n := by
  unfold sp_it at q
  split at q
  · have := num_lt q; omega
  · obtain ⟨w, p3, e1, e2⟩ := b_inv q
    cases e2
    exact up_ex_lt e1
theorem v_dc0 : ∀ (j i : Nat) {h : pm_H}, vC h n b m eo el B M → i + j = 128 → ∃ r, pm_lim sX16_declares (.inl (592, Int32.ofNat i, h)) = pm_lim sX16_declares (.inr (.inl (592, 0, r))) ∧ dcF h r ∧ pm_I r 592 21 = Int32.ofNat 0 ∧ ∀ f, f < 128 → pm_I r 598 f = if i ≤ f then 0 else pm_I h 598 f := by
  intro j
  induction j with
  | zero =>
    intro i h C hi
    refine ⟨pm_setI h 592 21 0, ?_, gF_I h _ (.inl ⟨rfl, .inr rfl⟩), by rw [ev_II, if_pos rfl, if_pos rfl]; rfl, fun f hf => by rw [if_neg (by omega), ev_II, if_neg (by decide)]⟩
    refine k_w (aX16_declares_0 ..) ?_
    unfold tX16_declares_2
    exact k_t (show Int32.ofNat 128 ≤ Int32.ofNat i by rw [nn_le (by decide) (by omega)]; omega) (k_t C.1.1 rfl)
  | succ j ih =>
    intro i h C hi
    obtain ⟨r1, r2, r3⟩ := C.2.2.2.1.1
    obtain ⟨h1, e1⟩ : ∃ z, z = pm_setI h 598 i 0 := ⟨_, rfl⟩
    have F1 : dcF h h1 := by rw [e1]; exact gF_I h _ (.inr rfl)
    obtain ⟨r, er, Fr, k21, kf⟩ := ih (i + 1) (vC_F C (dcF_v F1)) (by omega)
    refine ⟨r, ?_, gF_t F1 Fr, k21, fun f hf => ?_⟩
    · refine k_w (aX16_declares_0 ..) ?_
      unfold tX16_declares_2
      refine k_f (show ¬ Int32.ofNat 128 ≤ Int32.ofNat i by rw [nn_le (by decide) (by omega)]; omega) (k_t C.1.1 (k_b r1 (k_t r2 (k_t (by rw [r3, nn_in (by omega)]; omega) (k_l ?_)))))
      rw [nn_cm (by omega), show Int32.ofNat i + 1 = Int32.ofNat (i + 1) from nn_ad _ 1, show (vp_nar .boolean 0) = 0 from rfl, ← e1]
      exact k_n er
    · rw [kf f hf, e1, ev_II, if_pos rfl]
      by_cases z : f = i
      · rw [if_neg (by omega), if_pos z, if_pos (by omega)]
      · rw [if_neg z]
        by_cases y : i ≤ f
        · rw [if_pos (by omega), if_pos y]
        · rw [if_neg (by omega), if_neg y]
theorem v_dc1 (G : vG B n D M) : ∀ (j i : Nat) {h : pm_H} {S : List Nat}, vC h n b m eo el B M → pm_I h 592 21 = Int32.ofNat 0 → vDc h S → i + j = M.2.2.2.2.2.1.length → ∃ r, pm_lim sX16_declares (.inr (.inl (592, Int32.ofNat i, h))) = pm_lim sX16_declares (.inr (.inr (.inl (592, 0, r)))) ∧ dcF h r ∧ pm_I r 592 21 = Int32.ofNat 0 ∧ vDc r (S ++ (M.2.2.2.2.2.1.drop i).flatMap fun a => (dEx B n D a.2.2).1) := by
  have L5 := (vG_L G).2.2.2.2.1
  intro j
  induction j with
  | zero =>
    intro i h S C h21 q hi
    have D6 := C.2.2.1.2.2.2.2.2.1
    have i24 : pm_I h m 24 = Int32.ofNat M.2.2.2.2.2.1.length := by have z := D6.2.1; rw [k64_i L5] at z; exact z
    refine ⟨h, ?_, gF_r _ _ h, h21, ?_⟩
    · refine k_w (aX16_declares_1 ..) ?_
      unfold tX16_declares_29
      exact k_t C.1.1 (k_b C.1.2.1 (k_t C.1.2.2.1 (k_t (by rw [i24, nn_le (by omega) (by omega)]; omega) rfl)))
    · rw [show i = M.2.2.2.2.2.1.length by omega, List.drop_length]
      show vDc h (S ++ [])
      rw [List.append_nil]
      exact q
  | succ j ih =>
    intro i h S C h21 q hi
    have D6 := C.2.2.1.2.2.2.2.2.1
    have i24 : pm_I h m 24 = Int32.ofNat M.2.2.2.2.2.1.length := by have z := D6.2.1; rw [k64_i L5] at z; exact z
    have il : i < M.2.2.2.2.2.1.length := by omega
    obtain ⟨a, ea⟩ : ∃ a, M.2.2.2.2.2.1[i]? = some a := ⟨_, List.getElem?_eq_getElem il⟩
    have e2 : M.2.2.2.2.2.1[i] = a := by have z := List.getElem?_eq_getElem il; rw [ea] at z; exact (Option.some.inj z).symm
    have pa := D6.1 i a ea (by omega)
    obtain ⟨-, -, w, p', ex⟩ := G.1.2.2.2.2.2.1 a (List.mem_of_getElem? ea)
    obtain ⟨r1, er1, F1, -, k21, q1, -⟩ := v_dce C h21 q ex
    obtain ⟨r, er, Fr, k21', qr⟩ := ih (i + 1) (vC_F C (dcF_v F1)) k21 q1 (by omega)
    refine ⟨r, ?_, gF_t F1 Fr, k21', ?_⟩
    · refine k_w (aX16_declares_1 ..) ?_
      unfold tX16_declares_29
      refine k_t C.1.1 (k_b C.1.2.1 (k_t C.1.2.2.1 (k_f (by rw [i24, nn_le (by omega) (by omega)]; omega) (k_b (vR C 27 (by decide)) (k_t (vKd C 18 (by decide) (by decide)) (k_t (v_in64 C 18 (by decide) (by decide) rfl (by omega)) ?_))))))
      rw [nn_cm (by omega), show pm_I h (m + pRf 27) i = Int32.ofNat a.2.2 from pa.2.2, show Int32.ofNat i + 1 = Int32.ofNat (i + 1) from nn_ad _ 1]
      exact k_b er1 (k_l (k_n er))
    · rw [List.drop_eq_getElem_cons il, e2, List.flatMap_cons, ← List.append_assoc]
      exact qr
/-- the items of an element that are numbers -/
theorem v_dcn (G : vG B n D M) {a : tEl} {i c : Nat} (il : i < 64) (hc : c ≤ 40960) (hm : a.1 / 4 % 2 = 0) : ∀ (j k p p' : Nat) (l : List Nat) {h : pm_H} {S : List Nat}, vC h n b m eo el B M → pEl m h i a → a.2.2.1.2.1 = c → pm_I h 592 21 = Int32.ofNat 0 → pm_I h 592 19 = Int32.ofNat p → vDc h S → k + j = c → sp_rows (sp_num B n) j p = .inr (l, p') → ∃ r, pm_lim sX16_declares (.inr (.inr (.inr (.inr (592, Int32.ofNat i, Int32.ofNat k, h))))) = pm_lim sX16_declares (.inr (.inr (.inl (592, Int32.ofNat (i + 1), r)))) ∧ dcF h r ∧ pm_I r 592 21 = Int32.ofNat 0 ∧ vDc r (S ++ l) := by
  intro j
  induction j with
  | zero =>
    intro k p p' l h S C pe ec h21 h19 q hk e
    cases e
    have i28 : pm_I h (m + pRf 40) (Int32.ofNat i).toNatClampNeg = Int32.ofNat c := by rw [nn_cm (by omega), ← ec]; exact pe.2.2.2.2.2.1
    refine ⟨h, ?_, gF_r _ _ h, h21, by rw [List.append_nil]; exact q⟩
    refine k_w (aX16_declares_4 ..) ?_
    unfold tX16_declares_112
    refine k_t C.1.1 (k_b C.1.2.1 (k_t C.1.2.2.1 (k_b (vR C 40 (by decide)) (k_t (vKd C 28 (by decide) (by decide)) (k_t (v_in64 C 28 (by decide) (by decide) rfl il) (k_t (by rw [i28, nn_le (by omega) (by omega)]; omega) (k_l ?_)))))))
    rw [show Int32.ofNat i + 1 = Int32.ofNat (i + 1) from nn_ad _ 1]
    rfl
  | succ j ih =>
    intro k p p' l h S C pe ec h21 h19 q hk e
    obtain ⟨x, p3, e1, e2⟩ := b_inv e
    obtain ⟨l', p4, e3, e4⟩ := b_inv e2
    cases e4
    have hB := C.1.2.2.2.2.2.2.2.2.2
    have i28 : pm_I h (m + pRf 40) (Int32.ofNat i).toNatClampNeg = Int32.ofNat c := by rw [nn_cm (by omega), ← ec]; exact pe.2.2.2.2.2.1
    have i27 : pm_I h (m + pRf 39) (Int32.ofNat i).toNatClampNeg = 0 := by rw [nn_cm (by omega), show pm_I h (m + pRf 39) i = _ from pe.2.2.2.2.1, hm]; rfl
    have ew : fX16_word h 592 = some (Int64.ofNat x, lk h p3) := by
      have := mw_word C.1 (Nat.le_refl n) e1
      rwa [lk_e h19] at this
    have C1 := vC_lk C p3
    obtain ⟨r1, er1, F1, k1, q1⟩ := v_dec C1 (sp_num_v hB e1) (vDc_k (S := S) (fun f => lk_I (by decide)) q)
    have F2 : dcF h r1 := gF_t (dcF_lk h _) F1
    have C2 := vC_F C (dcF_v (m := m) F2)
    have hm648 := C.2.2.2.2.1
    have pe2 : pEl m r1 i a := by
      obtain ⟨s1, s2, s3, s4, s5, s6, s7⟩ := pe
      have kI : ∀ x, m < x → pm_I r1 x i = pm_I h x i := fun x hx => F2.2.2.2.2.1 x i (by unfold dcAI; omega)
      have kL : ∀ x, m < x → pm_L r1 x i = pm_L h x i := fun x hx => F2.2.2.2.2.2 x i (fun z => z)
      exact ⟨(kI _ (by omega)).trans s1, (kL _ (by omega)).trans s2, (kI _ (by omega)).trans s3, (kI _ (by omega)).trans s4, (kI _ (by omega)).trans s5, (kI _ (by omega)).trans s6, (kI _ (by omega)).trans s7⟩
    obtain ⟨r, er, Fr, k21, qr⟩ := ih (k + 1) p3 p' l' C2 pe2 ec (by rw [k1, lk_y (by decide)]; exact h21) (by rw [k1]; exact lk_19 h p3) q1 (by omega) e3
    refine ⟨r, ?_, gF_t F2 Fr, k21, ?_⟩
    · refine k_w (aX16_declares_4 ..) ?_
      unfold tX16_declares_112
      refine k_t C.1.1 (k_b C.1.2.1 (k_t C.1.2.2.1 (k_b (vR C 40 (by decide)) (k_t (vKd C 28 (by decide) (by decide)) (k_t (v_in64 C 28 (by decide) (by decide) rfl il) (k_f (by rw [i28, nn_le (by omega) (by omega)]; omega) (k_b (vR C 39 (by decide)) (k_t (vKd C 27 (by decide) (by decide)) (k_t (v_in64 C 27 (by decide) (by decide) rfl il) (k_t i27 (k_b ew (k_t C1.1.1 (k_b er1 (k_l ?_))))))))))))))
      rw [show Int32.ofNat k + 1 = Int32.ofNat (k + 1) from nn_ad _ 1]
      exact k_n er
    · have : S ++ x :: l' = (S ++ [x]) ++ l' := by rw [List.append_assoc]; rfl
      rw [this]
      exact qr
/-- the items of an element that are expressions -/
theorem v_dcx (G : vG B n D M) {a : tEl} {i c : Nat} (il : i < 64) (hc : c ≤ 40960) (hm : ¬ a.1 / 4 % 2 = 0) : ∀ (j k p p' : Nat) (l : List Nat) {h : pm_H} {S : List Nat}, vC h n b m eo el B M → pEl m h i a → a.2.2.1.2.1 = c → pm_I h 592 21 = Int32.ofNat 0 → pm_I h 592 19 = Int32.ofNat p → vDc h S → k + j = c → sp_rows (sp_it B n D a.1) j p = .inr (l, p') → ∃ r, pm_lim sX16_declares (.inr (.inr (.inr (.inr (592, Int32.ofNat i, Int32.ofNat k, h))))) = pm_lim sX16_declares (.inr (.inr (.inl (592, Int32.ofNat (i + 1), r)))) ∧ dcF h r ∧ pm_I r 592 21 = Int32.ofNat 0 ∧ vDc r (S ++ dExs B n D j p) := by
  intro j
  induction j with
  | zero =>
    intro k p p' l h S C pe ec h21 h19 q hk e
    have i28 : pm_I h (m + pRf 40) (Int32.ofNat i).toNatClampNeg = Int32.ofNat c := by rw [nn_cm (by omega), ← ec]; exact pe.2.2.2.2.2.1
    refine ⟨h, ?_, gF_r _ _ h, h21, by rw [dExs, List.append_nil]; exact q⟩
    refine k_w (aX16_declares_4 ..) ?_
    unfold tX16_declares_112
    refine k_t C.1.1 (k_b C.1.2.1 (k_t C.1.2.2.1 (k_b (vR C 40 (by decide)) (k_t (vKd C 28 (by decide) (by decide)) (k_t (v_in64 C 28 (by decide) (by decide) rfl il) (k_t (by rw [i28, nn_le (by omega) (by omega)]; omega) (k_l ?_)))))))
    rw [show Int32.ofNat i + 1 = Int32.ofNat (i + 1) from nn_ad _ 1]
    rfl
  | succ j ih =>
    intro k p p' l h S C pe ec h21 h19 q hk e
    obtain ⟨x, p3, e1, e2⟩ := b_inv e
    obtain ⟨l', p4, e3, e4⟩ := b_inv e2
    unfold sp_it at e1
    rw [if_neg hm] at e1
    obtain ⟨w, p5, e5, e6⟩ := b_inv e1
    cases e6
    have i28 : pm_I h (m + pRf 40) (Int32.ofNat i).toNatClampNeg = Int32.ofNat c := by rw [nn_cm (by omega), ← ec]; exact pe.2.2.2.2.2.1
    have i27 : ¬ pm_I h (m + pRf 39) (Int32.ofNat i).toNatClampNeg = 0 := by
      rw [nn_cm (by omega), show pm_I h (m + pRf 39) i = _ from pe.2.2.2.2.1, show (0 : Int32) = Int32.ofNat 0 from rfl, nn_eq (by omega) (by decide)]
      exact hm
    obtain ⟨r1, er1, F1, k19, k21, q1, e9⟩ := v_dce C h21 q e5
    have C2 := vC_F C (dcF_v (m := m) F1)
    have hm648 := C.2.2.2.2.1
    have pe2 : pEl m r1 i a := by
      obtain ⟨s1, s2, s3, s4, s5, s6, s7⟩ := pe
      have kI : ∀ x, m < x → pm_I r1 x i = pm_I h x i := fun x hx => F1.2.2.2.2.1 x i (by unfold dcAI; omega)
      have kL : ∀ x, m < x → pm_L r1 x i = pm_L h x i := fun x hx => F1.2.2.2.2.2 x i (fun z => z)
      exact ⟨(kI _ (by omega)).trans s1, (kL _ (by omega)).trans s2, (kI _ (by omega)).trans s3, (kI _ (by omega)).trans s4, (kI _ (by omega)).trans s5, (kI _ (by omega)).trans s6, (kI _ (by omega)).trans s7⟩
    obtain ⟨r, er, Fr, k21', qr⟩ := ih (k + 1) p3 p4 l' C2 pe2 ec k21 k19 q1 (by omega) e3
    refine ⟨r, ?_, gF_t F1 Fr, k21', ?_⟩
    · refine k_w (aX16_declares_4 ..) ?_
      unfold tX16_declares_112
      refine k_t C.1.1 (k_b C.1.2.1 (k_t C.1.2.2.1 (k_b (vR C 40 (by decide)) (k_t (vKd C 28 (by decide) (by decide)) (k_t (v_in64 C 28 (by decide) (by decide) rfl il) (k_f (by rw [i28, nn_le (by omega) (by omega)]; omega) (k_b (vR C 39 (by decide)) (k_t (vKd C 27 (by decide) (by decide)) (k_t (v_in64 C 27 (by decide) (by decide) rfl il) (k_f i27 ?_))))))))))
      rw [h19]
      refine k_b er1 (k_l ?_)
      rw [show Int32.ofNat k + 1 = Int32.ofNat (k + 1) from nn_ad _ 1]
      exact k_n er
    · rw [dExs, ← List.append_assoc, e9]
      exact qr
theorem v_dc2 (G : vG B n D M) : ∀ (j i : Nat) {h : pm_H} {S : List Nat}, vC h n b m eo el B M → pm_I h 592 21 = Int32.ofNat 0 → vDc h S → i + j = M.2.2.2.2.2.2.2.1.length → ∃ r, pm_lim sX16_declares (.inr (.inr (.inl (592, Int32.ofNat i, h)))) = pm_lim sX16_declares (.inr (.inr (.inr (.inl (592, 0, r))))) ∧ dcF h r ∧ pm_I r 592 21 = Int32.ofNat 0 ∧ vDc r (S ++ (M.2.2.2.2.2.2.2.1.drop i).flatMap fun a => dcE B n D a) := by
  have L7 := (vG_L G).2.2.2.2.2.2.1
  intro j
  induction j with
  | zero =>
    intro i h S C h21 q hi
    have D8 := C.2.2.1.2.2.2.2.2.2.2.1
    have i34 : pm_I h m 34 = Int32.ofNat M.2.2.2.2.2.2.2.1.length := by have z := D8.2.1; rw [k64_i L7] at z; exact z
    refine ⟨h, ?_, gF_r _ _ h, h21, ?_⟩
    · refine k_w (aX16_declares_2 ..) ?_
      unfold tX16_declares_61
      exact k_t C.1.1 (k_b C.1.2.1 (k_t C.1.2.2.1 (k_t (by rw [i34, nn_le (by omega) (by omega)]; omega) rfl)))
    · rw [show i = M.2.2.2.2.2.2.2.1.length by omega, List.drop_length]
      show vDc h (S ++ [])
      rw [List.append_nil]
      exact q
  | succ j ih =>
    intro i h S C h21 q hi
    have n4 := C.1.2.2.2.2.2.2.1
    have D8 := C.2.2.1.2.2.2.2.2.2.2.1
    have i34 : pm_I h m 34 = Int32.ofNat M.2.2.2.2.2.2.2.1.length := by have z := D8.2.1; rw [k64_i L7] at z; exact z
    have il : i < M.2.2.2.2.2.2.2.1.length := by omega
    have i64 : i < 64 := by omega
    obtain ⟨a, ea⟩ : ∃ a, M.2.2.2.2.2.2.2.1[i]? = some a := ⟨_, List.getElem?_eq_getElem il⟩
    have e2 : M.2.2.2.2.2.2.2.1[i] = a := by have z := List.getElem?_eq_getElem il; rw [ea] at z; exact (Option.some.inj z).symm
    have pa := D8.1 L7 i a ea (by omega)
    obtain ⟨g1, g2, g3, g4, g5, g6, g7, g8, pI, eI⟩ := G.1.2.2.2.2.2.2.2.1 a (List.mem_of_getElem? ea)
    have cl := rows_lt (n := n) (fun p v p' => it_lt) _ _ _ _ g8 eI
    have hm648 := C.2.2.2.2.1
    have m3 : a.2.1.1 ≤ 2 := by rw [g2]; split; omega; split <;> omega
    -- the place
    have pl : ∃ r1, dcF h r1 ∧ pm_I r1 592 21 = Int32.ofNat 0 ∧ pm_I r1 592 19 = Int32.ofNat a.2.2.1.2.2 ∧ vDc r1 (S ++ if a.2.1.1 = 0 then (dEx B n D a.2.1.2.2).1 else []) ∧ pm_lim sX16_declares (.inr (.inr (.inl (592, Int32.ofNat i, h)))) = pm_lim sX16_declares (.inr (.inr (.inr (.inr (592, Int32.ofNat i, Int32.ofNat 0, r1))))) := by
      by_cases z : a.2.1.1 = 0
      · obtain ⟨w, p', ex⟩ := g4 z
        obtain ⟨r1, er1, F1, k19, k21, q1, e9⟩ := v_dce C h21 q ex
        have C1 := vC_F C (dcF_v (m := m) F1)
        have k29 : pm_I r1 (m + 29) i = Int32.ofNat a.2.2.1.2.2 := (F1.2.2.2.2.1 (m + 29) i (by unfold dcAI; omega)).trans pa.2.2.2.2.2.2
        refine ⟨lk r1 a.2.2.1.2.2, gF_t F1 (dcF_lk r1 _), (lk_y (by decide)).trans k21, lk_19 r1 _, ?_, ?_⟩
        · rw [if_pos z]
          exact vDc_k (fun f => lk_I (by decide)) q1
        · refine k_w (aX16_declares_2 ..) ?_
          unfold tX16_declares_61
          refine k_t C.1.1 (k_b C.1.2.1 (k_t C.1.2.2.1 (k_f (by rw [i34, nn_le (by omega) (by omega)]; omega) (k_b (vR C 35 (by decide)) (k_t (vKd C 23 (by decide) (by decide)) (k_t (v_in64 C 23 (by decide) (by decide) rfl i64) (k_t (by rw [nn_cm (by omega), show pm_I h (m + pRf 35) i = _ from pa.1, z]; rfl) (k_b (vR C 37 (by decide)) (k_t (vKd C 25 (by decide) (by decide)) (k_t (v_in64 C 25 (by decide) (by decide) rfl i64) ?_))))))))))
          have e37 : pm_I h (m + pRf 37) (Int32.ofNat i).toNatClampNeg = Int32.ofNat a.2.1.2.2 := by rw [nn_cm (by omega)]; exact pa.2.2.1
          have e41 : pm_I r1 (m + pRf 41) (Int32.ofNat i).toNatClampNeg = Int32.ofNat a.2.2.1.2.2 := by rw [nn_cm (by omega)]; exact k29
          rw [e37]
          refine k_b er1 (k_t C1.1.1 (k_b C1.1.2.1 (k_t C1.1.2.2.1 (k_b (vR C1 41 (by decide)) (k_t (vKd C1 29 (by decide) (by decide)) (k_t (v_in64 C1 29 (by decide) (by decide) rfl i64) (k_l ?_)))))))
          rw [e41]
          rfl
      · refine ⟨lk h a.2.2.1.2.2, dcF_lk h _, (lk_y (by decide)).trans h21, lk_19 h _, ?_, ?_⟩
        · rw [if_neg z, List.append_nil]
          exact vDc_k (fun f => lk_I (by decide)) q
        · refine k_w (aX16_declares_2 ..) ?_
          unfold tX16_declares_61
          refine k_t C.1.1 (k_b C.1.2.1 (k_t C.1.2.2.1 (k_f (by rw [i34, nn_le (by omega) (by omega)]; omega) (k_b (vR C 35 (by decide)) (k_t (vKd C 23 (by decide) (by decide)) (k_t (v_in64 C 23 (by decide) (by decide) rfl i64) (k_f (by rw [nn_cm (by omega), show pm_I h (m + pRf 35) i = _ from pa.1, show (0 : Int32) = Int32.ofNat 0 from rfl, nn_eq (by omega) (by decide)]; exact z) (k_b (vR C 41 (by decide)) (k_t (vKd C 29 (by decide) (by decide)) (k_t (v_in64 C 29 (by decide) (by decide) rfl i64) (k_l ?_)))))))))))
          rw [nn_cm (by omega), show pm_I h (m + pRf 41) i = _ from pa.2.2.2.2.2.2]
          rfl
    obtain ⟨r1, F1, k21, k19, q1, e1⟩ := pl
    have C1 := vC_F C (dcF_v (m := m) F1)
    have pe1 : pEl m r1 i a := by
      obtain ⟨s1, s2, s3, s4, s5, s6, s7⟩ := pa
      have kI : ∀ x, m < x → pm_I r1 x i = pm_I h x i := fun x hx => F1.2.2.2.2.1 x i (by unfold dcAI; omega)
      have kL : ∀ x, m < x → pm_L r1 x i = pm_L h x i := fun x hx => F1.2.2.2.2.2 x i (fun z => z)
      exact ⟨(kI _ (by omega)).trans s1, (kL _ (by omega)).trans s2, (kI _ (by omega)).trans s3, (kI _ (by omega)).trans s4, (kI _ (by omega)).trans s5, (kI _ (by omega)).trans s6, (kI _ (by omega)).trans s7⟩
    have it : ∃ r2, pm_lim sX16_declares (.inr (.inr (.inr (.inr (592, Int32.ofNat i, Int32.ofNat 0, r1))))) = pm_lim sX16_declares (.inr (.inr (.inl (592, Int32.ofNat (i + 1), r2)))) ∧ dcF r1 r2 ∧ pm_I r2 592 21 = Int32.ofNat 0 ∧ vDc r2 (S ++ dcE B n D a) := by
      unfold dcE
      by_cases hm : a.1 / 4 % 2 = 0
      · have eI' : sp_rows (sp_num B n) a.2.2.1.2.1 a.2.2.1.2.2 = .inr (a.2.2.2, pI) := by
          rw [← eI]
          refine congrArg (fun f => sp_rows f a.2.2.1.2.1 a.2.2.1.2.2) (funext fun p => ?_)
          unfold sp_it
          rw [if_pos hm]
        rw [if_pos hm, ← List.append_assoc]
        exact v_dcn G i64 (by omega) hm _ 0 _ pI _ C1 pe1 rfl k21 k19 q1 (Nat.zero_add _) eI'
      · rw [if_neg hm, ← List.append_assoc]
        exact v_dcx G i64 (by omega) hm _ 0 _ pI _ C1 pe1 rfl k21 k19 q1 (Nat.zero_add _) eI
    obtain ⟨r2, er2, F2, k21', q2⟩ := it
    obtain ⟨r, er, Fr, kr, qr⟩ := ih (i + 1) (vC_F C1 (dcF_v F2)) k21' q2 (by omega)
    refine ⟨r, e1.trans (er2.trans er), gF_t F1 (gF_t F2 Fr), kr, ?_⟩
    rw [List.drop_eq_getElem_cons il, e2, List.flatMap_cons, ← List.append_assoc]
    exact qr
theorem v_dc3 (G : vG B n D M) : ∀ (j i : Nat) {h : pm_H} {S : List Nat}, vC h n b m eo el B M → vDc h S → i + j = M.2.2.2.2.2.2.1.length → ∃ r, pm_lim sX16_declares (.inr (.inr (.inr (.inl (592, Int32.ofNat i, h))))) = some r ∧ dcF h r ∧ vDc r (S ++ ((M.2.2.2.2.2.2.1.drop i).filter fun a => decide (a.2.2.1 = 0)).map fun a => a.2.2.2) := by
  have L6 := (vG_L G).2.2.2.2.2.1
  intro j
  induction j with
  | zero =>
    intro i h S C q hi
    have D7 := C.2.2.1.2.2.2.2.2.2.1
    have i28 : pm_I h m 28 = Int32.ofNat M.2.2.2.2.2.2.1.length := by have z := D7.2.1; rw [k64_i L6] at z; exact z
    refine ⟨h, ?_, gF_r _ _ h, ?_⟩
    · refine k_w (aX16_declares_3 ..) ?_
      unfold tX16_declares_170
      exact k_t C.1.1 (k_b C.1.2.1 (k_t C.1.2.2.1 (k_t (by rw [i28, nn_le (by omega) (by omega)]; omega) rfl)))
    · rw [show i = M.2.2.2.2.2.2.1.length by omega, List.drop_length]
      show vDc h (S ++ [])
      rw [List.append_nil]
      exact q
  | succ j ih =>
    intro i h S C q hi
    have D7 := C.2.2.1.2.2.2.2.2.2.1
    have i28 : pm_I h m 28 = Int32.ofNat M.2.2.2.2.2.2.1.length := by have z := D7.2.1; rw [k64_i L6] at z; exact z
    have il : i < M.2.2.2.2.2.2.1.length := by omega
    have i64 : i < 64 := by omega
    obtain ⟨a, ea⟩ : ∃ a, M.2.2.2.2.2.2.1[i]? = some a := ⟨_, List.getElem?_eq_getElem il⟩
    have e2 : M.2.2.2.2.2.2.1[i] = a := by have z := List.getElem?_eq_getElem il; rw [ea] at z; exact (Option.some.inj z).symm
    have pa := D7.1 i a ea i64
    obtain ⟨g1, g2, g3⟩ := G.1.2.2.2.2.2.2.1 a (List.mem_of_getElem? ea)
    by_cases z : a.2.2.1 = 0
    · obtain ⟨r1, er1, F1, k1, q1⟩ := v_dec C g3 q
      obtain ⟨r, er, Fr, qr⟩ := ih (i + 1) (vC_F C (dcF_v F1)) q1 (by omega)
      refine ⟨r, ?_, gF_t F1 Fr, ?_⟩
      · refine k_w (aX16_declares_3 ..) ?_
        unfold tX16_declares_170
        refine k_t C.1.1 (k_b C.1.2.1 (k_t C.1.2.2.1 (k_f (by rw [i28, nn_le (by omega) (by omega)]; omega) (k_b (vR C 31 (by decide)) (k_t (vKd C 21 (by decide) (by decide)) (k_t (v_in64 C 21 (by decide) (by decide) rfl i64) (k_t (by rw [nn_cm (by omega), show pm_I h (m + pRf 31) i = _ from pa.2.2.1, z]; rfl) (k_b (vR C 32 (by decide)) (k_t (vKd C 22 (by decide) (by decide)) (k_t (v_in64 C 22 (by decide) (by decide) rfl i64) ?_))))))))))
        rw [nn_cm (by omega), show pm_L h (m + pRf 32) i = _ from pa.2.2.2, show Int32.ofNat i + 1 = Int32.ofNat (i + 1) from nn_ad _ 1]
        exact k_b er1 (k_l (k_n er))
      · rw [List.drop_eq_getElem_cons il, e2, List.filter_cons, if_pos (decide_eq_true z), List.map_cons]
        have : ∀ l : List Nat, S ++ a.2.2.2 :: l = (S ++ [a.2.2.2]) ++ l := fun l => by rw [List.append_assoc]; rfl
        rw [this]
        exact qr
    · obtain ⟨r, er, Fr, qr⟩ := ih (i + 1) C q (by omega)
      refine ⟨r, ?_, Fr, ?_⟩
      · refine k_w (aX16_declares_3 ..) ?_
        unfold tX16_declares_170
        refine k_t C.1.1 (k_b C.1.2.1 (k_t C.1.2.2.1 (k_f (by rw [i28, nn_le (by omega) (by omega)]; omega) (k_b (vR C 31 (by decide)) (k_t (vKd C 21 (by decide) (by decide)) (k_t (v_in64 C 21 (by decide) (by decide) rfl i64) (k_f (by rw [nn_cm (by omega), show pm_I h (m + pRf 31) i = _ from pa.2.2.1, show (0 : Int32) = Int32.ofNat 0 from rfl, nn_eq (by omega) (by decide)]; exact z) (k_l ?_))))))))
        rw [show Int32.ofNat i + 1 = Int32.ofNat (i + 1) from nn_ad _ 1]
        exact k_n er
      · rw [List.drop_eq_getElem_cons il, e2, List.filter_cons, if_neg (fun y => z (of_decide_eq_true y))]
        exact qr
theorem v_dcs (C : vC h n b m eo el B M) (G : vG B n D M) : ∃ r, fX16_declares h 592 = some r ∧ dcF h r ∧ ∀ f, f < 128 → pm_I r 598 f = iN (dCl B n D M f) := by
  obtain ⟨r0, e0, F0, k0, q0⟩ := v_dc0 128 0 C (Nat.zero_add _)
  have C0 := vC_F C (dcF_v (m := m) F0)
  have S0 : vDc r0 [] := fun f hf => by
    rw [q0 f hf, if_pos (Nat.zero_le _), decide_eq_false List.not_mem_nil]
    rfl
  obtain ⟨r1, e1, F1, k1, q1⟩ := v_dc1 G _ 0 C0 k0 S0 (Nat.zero_add _)
  have C1 := vC_F C0 (dcF_v (m := m) F1)
  obtain ⟨r2, e2, F2, k2, q2⟩ := v_dc2 G _ 0 C1 k1 q1 (Nat.zero_add _)
  have C2 := vC_F C1 (dcF_v (m := m) F2)
  obtain ⟨r3, e3, F3, q3⟩ := v_dc3 G _ 0 C2 q2 (Nat.zero_add _)
  refine ⟨r3, ?_, gF_t F0 (gF_t F1 (gF_t F2 F3)), fun f hf => ?_⟩
  · unfold fX16_declares
    exact e0.trans (e1.trans (e2.trans e3))
  · rw [q3 f hf, List.drop_zero, List.drop_zero, List.drop_zero, List.nil_append]
    rfl
end VDCS
