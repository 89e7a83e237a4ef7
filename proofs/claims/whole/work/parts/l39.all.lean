/-! THE REFERENCE CHECKS: a module -/
def aAI (m x y : Nat) : Prop := (x = 592 ∧ (y = 19 ∨ y = 21 ∨ y = 23 ∨ y = 24 ∨ y = 29 ∨ y = 30 ∨ y = 31)) ∨ (598 ≤ x ∧ x ≤ 604) ∨ x = m + 39
section VALL
variable {h : pm_H} {n b m eo el i : Nat} {B : Nat → Nat} {M : tMd} {D : Bool}
abbrev rAll (m : Nat) (h : pm_H) (l : List (Nat × tK)) (_ : Nat) (r : pm_H) : Prop := vF m h r ∧ ∀ i v, l[i]? = some v → pm_I r (m + 39) i = Int32.ofNat v.1 ∧ v.1 ≤ 1000
theorem v_ab (G : vG B n D M) (hF : ∀ f, f ∈ spF M → f.2.1 < M.1.length) (hE : M.2.2.1.length = M.2.2.2.2.2.2.2.2.2.1.length) : ∀ (j i : Nat) {h : pm_H}, vC h n b m eo el B M → (∀ f, f < 128 → pm_I h 598 f = iN (dCl B n D M f)) → i + j = M.2.2.1.length → ms_Q (vF m h) (fun l _ r => vF m h r ∧ (∀ k v, l[k]? = some v → pm_I r (m + 39) (i + k) = Int32.ofNat v.1 ∧ v.1 ≤ 1000) ∧ ∀ k, k < i → pm_I r (m + 39) k = pm_I h (m + 39) k) (pm_lim sX16_checksAll (.inr (.inr (.inr (.inr (.inr (.inr (.inr (.inr (592, Int32.ofNat i, h)))))))))) (sp_bds B n D M (dCl B n D M) (M.2.2.1.drop i) (M.2.2.2.2.2.2.2.2.2.1.drop i)) := by
  have L2 := (vG_L G).2.1
  intro j
  induction j with
  | zero =>
    intro i h C hD hi
    have i15 : pm_I h m 15 = Int32.ofNat M.2.2.1.length := by have z := C.2.2.1.2.2.1.2.1; rw [k64_i L2] at z; exact z
    have e0 : sp_bds B n D M (dCl B n D M) (M.2.2.1.drop i) (M.2.2.2.2.2.2.2.2.2.1.drop i) = .inr ([], 0) := by
      rw [show i = M.2.2.1.length by omega, List.drop_length, hE, List.drop_length]
      rfl
    rw [e0]
    refine s_w (aX16_checksAll_8 ..) ?_
    unfold tX16_checksAll_357
    exact s_t C.1.1 (s_b C.1.2.1 (s_t C.1.2.2.1 (s_t (by rw [i15, nn_le (by omega) (by omega)]; omega) (s_r (q_r ⟨gF_r _ _ h, fun k v z => (by cases z), fun k _ => rfl⟩)))))
  | succ j ih =>
    intro i h C hD hi
    have hm := C.2.2.2.2.1
    have i15 : pm_I h m 15 = Int32.ofNat M.2.2.1.length := by have z := C.2.2.1.2.2.1.2.1; rw [k64_i L2] at z; exact z
    have il : i < M.2.2.1.length := by omega
    have il2 : i < M.2.2.2.2.2.2.2.2.2.1.length := by omega
    have hT := List.getElem?_eq_getElem il
    have hA := List.getElem?_eq_getElem il2
    rw [List.drop_eq_getElem_cons il, List.drop_eq_getElem_cons il2, sp_bds]
    refine s_w (aX16_checksAll_8 ..) ?_
    unfold tX16_checksAll_357
    refine s_t C.1.1 (s_b C.1.2.1 (s_t C.1.2.2.1 (s_f (by rw [i15, nn_le (by omega) (by omega)]; omega) ?_)))
    have bv : ∀ {x y : pm_H}, gF (bAI m i) vAL x y → vF m x y := fun F => gF_m F (fun x y z => by unfold bAI rAI cAI uAI at z; unfold vAI; omega) (fun x y z => z)
    refine s_c (v_body C G hF hA hT (by omega) hD) (fun h' F => F) ?_
    rintro v z r ev ⟨F1, k39, vl⟩
    have k98 : ∀ f, pm_I r 598 f = pm_I h 598 f := fun f => F1.2.2.2.2.1 598 f (by unfold bAI rAI cAI uAI; omega)
    have ko : ∀ k, k ≠ i → pm_I r (m + 39) k = pm_I h (m + 39) k := fun k hk => F1.2.2.2.2.1 (m + 39) k (by unfold bAI rAI cAI uAI; omega)
    refine s_l ?_
    rw [show Int32.ofNat i + 1 = Int32.ofNat (i + 1) from nn_ad _ 1]
    refine s_n ?_
    refine q_cl (ih (i + 1) (vC_F C (bv F1)) (fun f hf => (k98 f).trans (hD f hf)) (by omega)) (fun h' F => gF_t (bv F1) F) ?_
    rintro l z2 r2 el' ⟨F2, g1, g2⟩
    refine q_r ⟨gF_t (bv F1) F2, fun k w hw => ?_, fun k hk => (g2 k (by omega)).trans (ko k (by omega))⟩
    cases k with
    | zero =>
      cases hw
      exact ⟨(g2 i (by omega)).trans k39, vl⟩
    | succ k =>
      have := g1 k w hw
      rw [show i + (k + 1) = i + 1 + k by omega]
      exact this
theorem v_ad (G : vG B n D M) : ∀ (j i z : Nat) {h : pm_H}, vC h n b m eo el B M → ∀ {R : List (Nat × tK) → Nat → pm_H → Prop} {o : sp_O (List (Nat × tK))}, (∀ y, ms_Q (vF m h) R (pm_lim sX16_checksAll (.inr (.inr (.inr (.inr (.inr (.inr (.inr (.inr (592, Int32.ofNat 0, lk h y)))))))))) o) → i + j = M.2.2.2.2.2.2.2.2.1.length → ms_Q (vF m h) R (pm_lim sX16_checksAll (.inr (.inr (.inr (.inr (.inr (.inr (.inr (.inl (592, Int32.ofNat i, lk h z)))))))))) (sp_b (sp_das B n D M (M.2.2.2.2.2.2.2.2.1.drop i)) fun _ _ => o) := by
  have L := vG_L G
  have L8 := L.2.2.2.2.2.2.2
  have SL := sp_len L
  have hK := G.1.2.1
  intro j
  induction j with
  | zero =>
    intro i z h C R o ho hi
    have D9 := C.2.2.1.2.2.2.2.2.2.2.2.1
    have hm := C.2.2.2.2.1
    have i44 : pm_I (lk h z) m 44 = Int32.ofNat M.2.2.2.2.2.2.2.2.1.length := by have y := D9.2.1; rw [k64_i L8] at y; rw [lk_I (by omega)]; exact y
    rw [show i = M.2.2.2.2.2.2.2.2.1.length by omega, List.drop_length, sp_das]
    refine s_w (aX16_checksAll_7 ..) ?_
    unfold tX16_checksAll_261
    exact s_t C.1.1 (s_b C.1.2.1 (s_t C.1.2.2.1 (s_t (by rw [i44, nn_le (by omega) (by omega)]; omega) (s_n (ho z)))))
  | succ j ih =>
    intro i z h C R o ho hi
    have D9 := C.2.2.1.2.2.2.2.2.2.2.2.1
    have hm := C.2.2.2.2.1
    have n4 := C.1.2.2.2.2.2.2.1
    have Cz := vC_lk C z
    have i44 : pm_I (lk h z) m 44 = Int32.ofNat M.2.2.2.2.2.2.2.2.1.length := by have y := D9.2.1; rw [k64_i L8] at y; rw [lk_I (by omega)]; exact y
    have il : i < M.2.2.2.2.2.2.2.2.1.length := by omega
    have i64 : i < 64 := by omega
    obtain ⟨a, ea⟩ : ∃ a, M.2.2.2.2.2.2.2.2.1[i]? = some a := ⟨_, List.getElem?_eq_getElem il⟩
    have e2 : M.2.2.2.2.2.2.2.2.1[i] = a := by have z := List.getElem?_eq_getElem il; rw [ea] at z; exact (Option.some.inj z).symm
    have pa := D9.1 L8 i a ea i64
    obtain ⟨g1, g2, g3, g4⟩ := G.1.2.2.2.2.2.2.2.2.1 a (List.mem_of_getElem? ea)
    have g2 : a.2.1 < 4294967296 := g2
    have i30 : pm_I (lk h z) (m + pRf 45) (Int32.ofNat i).toNatClampNeg = Int32.ofNat (daA a.1) := by rw [nn_cm (by omega), lk_I (by show m + 30 ≠ 592; omega)]; exact pa.1
    have i31 : pm_L (lk h z) (m + pRf 46) (Int32.ofNat i).toNatClampNeg = Int64.ofNat a.2.1 := by rw [nn_cm (by omega)]; exact pa.2.1
    have i32 : pm_I (lk h z) (m + pRf 47) (Int32.ofNat i).toNatClampNeg = Int32.ofNat a.2.2.1 := by rw [nn_cm (by omega), lk_I (by show m + 32 ≠ 592; omega)]; exact pa.2.2.1
    rw [List.drop_eq_getElem_cons il, e2, sp_das, sp_as]
    refine s_w (aX16_checksAll_7 ..) ?_
    unfold tX16_checksAll_261
    refine s_t C.1.1 (s_b C.1.2.1 (s_t C.1.2.2.1 (s_f (by rw [i44, nn_le (by omega) (by omega)]; omega) (s_b (vR C 45 (by decide)) (s_t (vKd C 30 (by decide) (by decide)) (s_t (v_in64 C 30 (by decide) (by decide) rfl i64) ?_))))))
    rw [i30, show Int32.ofNat i + 1 = Int32.ofNat (i + 1) from nn_ad _ 1]
    unfold sp_daC
    by_cases c1 : a.1 = 1
    · rw [if_pos (show a.1 = 1 from c1)]
      have e0 : Int32.ofNat (daA a.1) = 0 := by rw [c1]; rfl
      refine s_t e0 (s_t (v_in64 C 30 (by decide) (by decide) rfl i64) (s_t e0 (s_l (s_n ?_))))
      exact ih (i + 1) z C ho (by omega)
    · rw [if_neg (show ¬ a.1 = 1 from c1)]
      obtain ⟨w, p', ex⟩ := g3 c1
      have e0 : ¬ Int32.ofNat (daA a.1) = 0 := by unfold daA; rw [if_neg c1]; decide
      refine s_f e0 (s_b (vR C 46 (by decide)) (s_t (vKd C 31 (by decide) (by decide)) (s_t (v_in64 C 31 (by decide) (by decide) rfl i64) (s_b (v_all Cz L hK).2.2.1 ?_))))
      rw [i31]
      by_cases d : (spM M).length ≤ a.2.1
      · rw [if_pos (show (spM M).length ≤ a.2.1 from d)]
        exact s_f (by rw [nn_t6 (by omega), ll_lt (by omega) (by omega)]; omega) (ss_sec Cz (vF_lk h _) (i := 11) (by decide))
      · rw [if_neg (show ¬ (spM M).length ≤ a.2.1 from d)]
        refine s_t (by rw [nn_t6 (by omega), ll_lt (by omega) (by omega)]; omega) (s_t (v_in64 C 30 (by decide) (by decide) rfl i64) (s_f e0 (s_b (vR C 47 (by decide)) (s_t (vKd C 32 (by decide) (by decide)) (s_t (v_in64 C 32 (by decide) (by decide) rfl i64) ?_)))))
        rw [i32]
        refine s_c (v_con Cz G (ty := 127) (by decide) (by have := (up_ex_lt ex).1; have := (up_ex_lt ex).2; omega) ex) (fun h' F => gF_t (vF_lk h _) F) ?_
        rintro _ p6 r er ⟨q1, q2⟩
        rw [q1, lk_lk]
        exact s_l (s_n (ih (i + 1) p6 C ho (by omega)))
theorem v_ae (G : vG B n D M) : ∀ (j i z : Nat) {h : pm_H}, vC h n b m eo el B M → ∀ {R : List (Nat × tK) → Nat → pm_H → Prop} {o : sp_O (List (Nat × tK))}, (∀ y, ms_Q (vF m h) R (pm_lim sX16_checksAll (.inr (.inr (.inr (.inr (.inr (.inr (.inr (.inl (592, Int32.ofNat 0, lk h y)))))))))) o) → i + j = M.2.2.2.2.2.2.2.1.length → ms_Q (vF m h) R (pm_lim sX16_checksAll (.inr (.inr (.inr (.inr (.inr (.inl (592, Int32.ofNat i, lk h z)))))))) (sp_b (sp_els B n D M (M.2.2.2.2.2.2.2.1.drop i)) fun _ _ => o) := by
  have L7 := (vG_L G).2.2.2.2.2.2.1
  intro j
  induction j with
  | zero =>
    intro i z h C R o ho hi
    have D8 := C.2.2.1.2.2.2.2.2.2.2.1
    have hm := C.2.2.2.2.1
    have i34 : pm_I (lk h z) m 34 = Int32.ofNat M.2.2.2.2.2.2.2.1.length := by have y := D8.2.1; rw [k64_i L7] at y; rw [lk_I (by omega)]; exact y
    rw [show i = M.2.2.2.2.2.2.2.1.length by omega, List.drop_length, sp_els]
    refine s_w (aX16_checksAll_5 ..) ?_
    unfold tX16_checksAll_237
    exact s_t C.1.1 (s_b C.1.2.1 (s_t C.1.2.2.1 (s_t (by rw [i34, nn_le (by omega) (by omega)]; omega) (s_n (ho z)))))
  | succ j ih =>
    intro i z h C R o ho hi
    have D8 := C.2.2.1.2.2.2.2.2.2.2.1
    have hm := C.2.2.2.2.1
    have Cz := vC_lk C z
    have i34 : pm_I (lk h z) m 34 = Int32.ofNat M.2.2.2.2.2.2.2.1.length := by have y := D8.2.1; rw [k64_i L7] at y; rw [lk_I (by omega)]; exact y
    have il : i < M.2.2.2.2.2.2.2.1.length := by omega
    have ea := List.getElem?_eq_getElem il
    rw [List.drop_eq_getElem_cons il, sp_els, sp_as]
    refine s_w (aX16_checksAll_5 ..) ?_
    unfold tX16_checksAll_237
    refine s_t C.1.1 (s_b C.1.2.1 (s_t C.1.2.2.1 (s_f (by rw [i34, nn_le (by omega) (by omega)]; omega) (s_c (v_elC Cz G ea) (fun h' F => gF_t (vF_lk h _) F) ?_))))
    rintro _ p6 r er ⟨y, q1⟩
    rw [q1, lk_lk]
    refine s_l ?_
    rw [show Int32.ofNat i + 1 = Int32.ofNat (i + 1) from nn_ad _ 1]
    exact s_n (ih (i + 1) y C ho (by omega))
theorem v_ag (G : vG B n D M) : ∀ (j i z : Nat) {h : pm_H}, vC h n b m eo el B M → ∀ {R : List (Nat × tK) → Nat → pm_H → Prop} {o : sp_O (List (Nat × tK))}, (∀ y, ms_Q (vF m h) R (pm_lim sX16_checksAll (.inr (.inr (.inr (.inr (.inr (.inl (592, Int32.ofNat 0, lk h y)))))))) o) → i + j = M.2.2.2.2.2.1.length → ms_Q (vF m h) R (pm_lim sX16_checksAll (.inr (.inr (.inr (.inl (592, Int32.ofNat i, lk h z)))))) (sp_b (sp_gls B n D M (M.2.2.2.2.2.1.drop i)) fun _ _ => o) := by
  have L5 := (vG_L G).2.2.2.2.1
  intro j
  induction j with
  | zero =>
    intro i z h C R o ho hi
    have D6 := C.2.2.1.2.2.2.2.2.1
    have hm := C.2.2.2.2.1
    have i24 : pm_I (lk h z) m 24 = Int32.ofNat M.2.2.2.2.2.1.length := by have y := D6.2.1; rw [k64_i L5] at y; rw [lk_I (by omega)]; exact y
    rw [show i = M.2.2.2.2.2.1.length by omega, List.drop_length, sp_gls]
    refine s_w (aX16_checksAll_3 ..) ?_
    unfold tX16_checksAll_196
    exact s_t C.1.1 (s_b C.1.2.1 (s_t C.1.2.2.1 (s_t (by rw [i24, nn_le (by omega) (by omega)]; omega) (s_n (ho z)))))
  | succ j ih =>
    intro i z h C R o ho hi
    have D6 := C.2.2.1.2.2.2.2.2.1
    have hm := C.2.2.2.2.1
    have Cz := vC_lk C z
    have i24 : pm_I (lk h z) m 24 = Int32.ofNat M.2.2.2.2.2.1.length := by have y := D6.2.1; rw [k64_i L5] at y; rw [lk_I (by omega)]; exact y
    have il : i < M.2.2.2.2.2.1.length := by omega
    have i64 : i < 64 := by omega
    obtain ⟨a, ea⟩ : ∃ a, M.2.2.2.2.2.1[i]? = some a := ⟨_, List.getElem?_eq_getElem il⟩
    have e2 : M.2.2.2.2.2.1[i] = a := by have z := List.getElem?_eq_getElem il; rw [ea] at z; exact (Option.some.inj z).symm
    have pa := D6.1 i a ea i64
    obtain ⟨g1, g2, w, p', ex⟩ := G.1.2.2.2.2.2.1 a (List.mem_of_getElem? ea)
    have t8 := isT_lt g1
    have i18 : pm_I (lk h z) (m + pRf 27) (Int32.ofNat i).toNatClampNeg = Int32.ofNat a.2.2 := by rw [nn_cm (by omega), lk_I (by show m + 18 ≠ 592; omega)]; exact pa.2.2
    have i16 : pm_I (lk h z) (m + pRf 25) (Int32.ofNat i).toNatClampNeg = Int32.ofNat a.1 := by rw [nn_cm (by omega), lk_I (by show m + 16 ≠ 592; omega)]; exact pa.1
    rw [List.drop_eq_getElem_cons il, e2, sp_gls, sp_as]
    refine s_w (aX16_checksAll_3 ..) ?_
    unfold tX16_checksAll_196
    refine s_t C.1.1 (s_b C.1.2.1 (s_t C.1.2.2.1 (s_f (by rw [i24, nn_le (by omega) (by omega)]; omega) (s_b (vR C 27 (by decide)) (s_t (vKd C 18 (by decide) (by decide)) (s_t (v_in64 C 18 (by decide) (by decide) rfl i64) (s_b (vR C 25 (by decide)) (s_t (vKd C 16 (by decide) (by decide)) (s_t (v_in64 C 16 (by decide) (by decide) rfl i64) ?_)))))))))
    rw [i18, i16]
    refine s_c (v_con Cz G (by omega) (by have := (up_ex_lt ex).1; have := (up_ex_lt ex).2; omega) ex) (fun h' F => gF_t (vF_lk h _) F) ?_
    rintro _ p6 r er ⟨q1, q2⟩
    rw [q1, lk_lk]
    refine s_l ?_
    rw [show Int32.ofNat i + 1 = Int32.ofNat (i + 1) from nn_ad _ 1]
    exact s_n (ih (i + 1) p6 C ho (by omega))
end VALL
