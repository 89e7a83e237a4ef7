/-! THE REFERENCE LOOKS AGAIN: behind, as an instruction was read -/
section BEHIND2
variable {h : pm_H} {n b m s e p : Nat} {B : Nat → Nat} {d : Bool}
theorem in_lt {v : sp_I} {p' : Nat} (q : sp_in B e d p = .inr (v, p')) : p < e := by
  unfold sp_in at q
  obtain ⟨c, p1, e1, e2⟩ := b_inv q
  exact (sp_next_b e1).1
theorem mw_behind {v : sp_I} {p' : Nat} (C : mS h n b m s B) (he : e ≤ n) (q : sp_in B e d p = .inr (v, p')) : fX16_behind h 592 (Int32.ofNat p) = some (Int32.ofNat p', lk h p') := by
  unfold sp_in at q
  obtain ⟨c, p1, e1, e2⟩ := b_inv q
  obtain ⟨c1, c2, c3⟩ := sp_next_b e1
  have n4 := C.2.2.2.2.2.2.1
  have b0 : c < 256 := by rw [c2]; exact C.2.2.2.2.2.2.2.2.2 p
  have at1 : fX14_at h m (Int32.ofNat p) = some (Int32.ofNat c) := by rw [c2]; exact mw_at C (by omega)
  have N : ∀ k, k < 1000 → c ≠ k → ¬ Int32.ofNat c = Int32.ofNat k := fun k hk z => by rw [nn_eq (by omega) (by omega)]; exact z
  unfold fX16_behind
  refine e9_t C.1 (e9_b C.2.1 (e9_t C.2.2.1 (e9_b at1 ?_)))
  rw [show Int32.ofNat p + 1 = Int32.ofNat p1 by rw [c3]; exact nn_ad p 1]
  refine e9_l ?_
  show (if Int32.ofNat c < Int32.ofNat 2 then _ else if Int32.ofNat 4 < Int32.ofNat c then _ else _) = _
  by_cases c24 : 2 ≤ c ∧ c ≤ 4
  · rw [if_neg (show ¬ (c = 5 ∨ c = 11) by omega), if_pos c24] at e2
    obtain ⟨t, p2, e3, e4⟩ := b_inv e2
    cases e4
    refine e9_f (by rw [nn_lt (by omega) (by decide)]; omega) (e9_f (by rw [nn_lt (by decide) (by omega)]; omega) (e9_b (mw_blk C he e3) (e9_t C.1 ?_)))
    rw [lk_19]
  have GO : pm_lim sX16_behind (.inl (592, Int32.ofNat c, lk h p1)) = some (Int32.ofNat p', lk h p') → (if Int32.ofNat c < Int32.ofNat 2 then pm_lim sX16_behind (.inl (592, Int32.ofNat c, pm_setI h 592 19 (Int32.ofNat p1))) else if Int32.ofNat 4 < Int32.ofNat c then pm_lim sX16_behind (.inl (592, Int32.ofNat c, pm_setI h 592 19 (Int32.ofNat p1))) else (fX16_blockWord (pm_setI h 592 19 (Int32.ofNat p1)) 592).bind fun v11 => if pm_kd v11.2 592 = 16 then some (pm_I v11.2 592 19, v11.2) else none) = some (Int32.ofNat p', lk h p') := fun G => by
    by_cases c2' : c < 2
    · exact e9_t (by rw [nn_lt (by omega) (by decide)]; exact c2') G
    · exact e9_f (by rw [nn_lt (by omega) (by decide)]; exact c2') (e9_t (by rw [nn_lt (by decide) (by omega)]; omega) G)
  refine GO (k_w (aX16_behind_0 ..) ?_)
  unfold tX16_behind_34
  have hn := k_hn ⟨c, b0⟩
  have ia := sp_isac ⟨c, b0⟩
  have ia : (fX16_isAccess (Int32.ofNat c) = 0) = ¬ (40 ≤ c ∧ c ≤ 62) := ia
  have plain : sp_cls c ≠ 1 → ¬ (40 ≤ c ∧ c ≤ 62) → c ≠ 17 → c ≠ 14 → c ≠ 28 → c ≠ 63 → c ≠ 64 → c ≠ 208 → c ≠ 65 → c ≠ 66 → c ≠ 67 → c ≠ 68 → c ≠ 252 → p' = p1 → ev_k sX16_behind (tX16_behind_34 592 (Int32.ofNat c) (lk h p1)) = some (Int32.ofNat p', lk h p') := by
    intro h1 h2 h3 h4 h5 h6 h7 h8 h9 h10 h11 h12 h13 hp
    rw [hp]
    unfold tX16_behind_34
    exact k_l (k_t (hn.mpr h1) (k_l (k_t (by rw [ia]; exact h2) (k_f (N 17 (by decide) h3) (k_f (N 14 (by decide) h4) (k_f (N 28 (by decide) h5) (k_f (N 63 (by decide) h6) (k_f (N 64 (by decide) h7) (k_f (N 208 (by decide) h8) (k_f (N 65 (by decide) h9) (k_f (N 66 (by decide) h10) (k_f (N 67 (by decide) h11) (k_f (N 68 (by decide) h12) (k_f (N 252 (by decide) h13) (k_t C.1 (k_e19 h p1))))))))))))))))
  by_cases c511 : c = 5 ∨ c = 11
  · rw [if_pos c511] at e2
    cases e2
    have := plain
    unfold tX16_behind_34 at this
    exact this (by rcases c511 with z | z <;> rw [z] <;> decide) (by omega) (by omega) (by omega) (by omega) (by omega) (by omega) (by omega) (by omega) (by omega) (by omega) (by omega) (by omega) rfl
  rw [if_neg c511, if_neg c24] at e2
  unfold sp_ops at e2
  by_cases k0 : sp_cls c = 0
  · rw [if_pos k0] at e2
    cases e2
    have := plain
    unfold tX16_behind_34 at this
    have z : c < 2 ∨ c = 15 ∨ c = 26 ∨ c = 27 ∨ (69 ≤ c ∧ c ≤ 196) ∨ c = 209 := by
      unfold sp_cls at k0
      repeat' split at k0
      all_goals first | assumption | omega
    exact this (by rw [k0]; decide) (by omega) (by omega) (by omega) (by omega) (by omega) (by omega) (by omega) (by omega) (by omega) (by omega) (by omega) (by omega) rfl
  rw [if_neg k0] at e2
  by_cases k1 : sp_cls c = 1
  · rw [if_pos k1] at e2
    obtain ⟨x, p2, e3, e4⟩ := b_inv e2
    cases e4
    exact k_l (k_f (fun z => hn.mp z k1) (k_t C.1 (k_b (mw_word C he e3) (k_t C.1 (k_e19 h p')))))
  rw [if_neg k1] at e2
  refine k_l (k_t (hn.mpr k1) (k_l ?_))
  by_cases k2 : sp_cls c = 2
  · rw [if_pos k2] at e2
    obtain ⟨x, p2, e3, e4⟩ := b_inv e2
    obtain ⟨y, p3, e5, e6⟩ := b_inv e4
    cases e6
    by_cases z : 40 ≤ c ∧ c ≤ 62
    · exact k_f (by rw [ia]; exact fun y => y z) (k_t C.1 (k_b (mw_word C he e3) (k_t C.1 (k_b (mw_word C he e5) (k_t C.1 (k_e19 h p'))))))
    · refine k_t (by rw [ia]; exact z) (k_t (by rw [(sp_cls_2 k2).resolve_left z]; rfl) (k_t C.1 (k_b (mw_word C he e3) (k_t C.1 (k_b (mw_word C he e5) (k_t C.1 (k_e19 h p')))))))
  rw [if_neg k2] at e2
  have nac : ¬ (40 ≤ c ∧ c ≤ 62) := fun z => k2 ((k_cls ⟨c, b0⟩).2.2 (.inl z))
  have n17 : c ≠ 17 := fun z => k2 ((k_cls ⟨c, b0⟩).2.2 (.inr z))
  refine k_t (by rw [ia]; exact nac) (k_f (N 17 (by decide) n17) ?_)
  by_cases k3 : sp_cls c = 3
  · rw [if_pos k3] at e2
    obtain ⟨x, p2, e3, e4⟩ := b_inv e2
    obtain ⟨y, p3, e5, e6⟩ := b_inv e4
    cases e6
    have nv := sp_num_v C.2.2.2.2.2.2.2.2.2 e3
    exact k_t (by rw [sp_cls_3 k3]; rfl) (k_t C.1 (k_b (mw_word C he e3) (k_n (mw_nums C he nv (x + 1) 0 p2 p' y (by omega) e5))))
  rw [if_neg k3] at e2
  by_cases c14 : c = 14
  · exact absurd (by rw [c14]; decide) k3
  refine k_f (N 14 (by decide) c14) ?_
  by_cases k4 : sp_cls c = 4
  · rw [if_pos k4] at e2
    obtain ⟨x, p2, e3, e4⟩ := b_inv e2
    obtain ⟨t, p3, e5, e6⟩ := b_inv e4
    cases e6
    rw [tys_p _ _ _ _ _ e5]
    refine k_t (by rw [sp_cls_4 k4]; rfl) (k_t C.1 (k_b (mw_word C he e3) (k_t C.1 ?_)))
    rw [ll_t3]
    exact k_a19 h p2 x
  rw [if_neg k4] at e2
  by_cases c28 : c = 28
  · exact absurd (by rw [c28]; decide) k4
  refine k_f (N 28 (by decide) c28) ?_
  by_cases k5 : sp_cls c = 5
  · rw [if_pos k5] at e2
    obtain ⟨x, p2, e3, e4⟩ := b_inv e2
    cases e4
    rw [(sp_byte_b' e3).2]
    rcases sp_cls_5 k5 with z | z
    · exact k_t (by rw [z]; rfl) (k_t C.1 (k_a19 h p1 1))
    · exact k_f (N 63 (by decide) (by omega)) (k_t (by rw [z]; rfl) (k_t C.1 (k_a19 h p1 1)))
  rw [if_neg k5] at e2
  by_cases c63 : c = 63
  · exact absurd (by rw [c63]; decide) k5
  by_cases c64 : c = 64
  · exact absurd (by rw [c64]; decide) k5
  refine k_f (N 63 (by decide) c63) (k_f (N 64 (by decide) c64) ?_)
  by_cases c208 : c = 208
  · rw [if_neg (show ¬ sp_cls c = 6 by rw [c208]; decide), if_neg (show ¬ sp_cls c = 7 by rw [c208]; decide), if_neg (show ¬ sp_cls c = 8 by rw [c208]; decide), if_neg (show ¬ sp_cls c = 9 by rw [c208]; decide), if_pos (show sp_cls c = 10 by rw [c208]; decide)] at e2
    obtain ⟨x, p2, e3, e4⟩ := b_inv e2
    cases e4
    rw [(sp_byte_b' e3).2]
    exact k_t (by rw [c208]; rfl) (k_t C.1 (k_a19 h p1 1))
  refine k_f (N 208 (by decide) c208) ?_
  by_cases k6 : sp_cls c = 6
  · rw [if_pos k6] at e2
    obtain ⟨x, p2, e3, e4⟩ := b_inv e2
    cases e4
    exact k_t (by rw [sp_cls_6 k6]; rfl) (k_t C.1 (k_b (mw_sig C he (.inl rfl) e3) (k_t C.1 (k_e19 h p'))))
  rw [if_neg k6] at e2
  by_cases c65 : c = 65
  · exact absurd (by rw [c65]; decide) k6
  refine k_f (N 65 (by decide) c65) ?_
  by_cases k7 : sp_cls c = 7
  · rw [if_pos k7] at e2
    obtain ⟨x, p2, e3, e4⟩ := b_inv e2
    cases e4
    exact k_t (by rw [sp_cls_7 k7]; rfl) (k_t C.1 (k_b (mw_sig C he (.inr (.inr rfl)) e3) (k_t C.1 (k_e19 h p'))))
  rw [if_neg k7] at e2
  by_cases c66 : c = 66
  · exact absurd (by rw [c66]; decide) k7
  refine k_f (N 66 (by decide) c66) ?_
  by_cases k8 : sp_cls c = 8
  · rw [if_pos k8] at e2
    obtain ⟨x, p2, e3, e4⟩ := b_inv e2
    cases e4
    rw [les_p _ _ _ _ _ _ e3]
    refine k_t (by rw [sp_cls_8 k8]; rfl) (k_n (k_w (aX16_behind_1 ..) ?_))
    unfold tX16_behind_204
    exact k_t C.1 (k_t (by rw [sp_cls_8 k8]; rfl) (k_a19 h p1 4))
  rw [if_neg k8] at e2
  by_cases c67 : c = 67
  · exact absurd (by rw [c67]; decide) k8
  refine k_f (N 67 (by decide) c67) ?_
  by_cases k9 : sp_cls c = 9
  · rw [if_pos k9] at e2
    obtain ⟨x, p2, e3, e4⟩ := b_inv e2
    cases e4
    rw [les_p _ _ _ _ _ _ e3]
    refine k_t (by rw [sp_cls_9 k9]; rfl) (k_n (k_w (aX16_behind_1 ..) ?_))
    unfold tX16_behind_204
    exact k_t C.1 (k_f (N 67 (by decide) c67) (k_a19 h p1 8))
  rw [if_neg k9] at e2
  by_cases c68 : c = 68
  · exact absurd (by rw [c68]; decide) k9
  refine k_f (N 68 (by decide) c68) ?_
  by_cases k10 : sp_cls c = 10
  · exact absurd (sp_cls_10 k10) c208
  rw [if_neg k10] at e2
  by_cases k11 : sp_cls c = 11
  · rw [if_pos k11] at e2
    exact k_t (by rw [sp_cls_11 k11]; rfl) (k_t C.1 (k_b (mw_fur C he e2) (k_t C.1 (k_e19 h p'))))
  · rw [if_neg k11] at e2; cases e2
theorem mw_behind_lk {v : sp_I} {p' : Nat} (C : mS h n b m s B) (he : e ≤ n) (x : Nat) (q : sp_in B e d p = .inr (v, p')) : fX16_behind (lk h x) 592 (Int32.ofNat p) = some (Int32.ofNat p', lk h p') := by
  rw [mw_behind (mS_lk C _) he q, lk_lk]
end BEHIND2
