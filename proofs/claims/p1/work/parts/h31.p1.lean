/-! THE FIRST CALL, all; p1's bound -/
theorem fr_s1 {h : pm_H} (p : pj_0 h) (q : Nat → Int32) : ∃ h', lw_s1 q 0 592 h = some h' := by
  have hR := fr_R p
  have hK := fr_k592 p
  have i1 : pm_I h 592 1 = 0 := (fr_i592 p 1).trans rfl
  unfold lw_s1
  by_cases e : q 1 < 0
  · have e1 : fX12_module h 0 (q 1) = some (-2, h) := by
      unfold fX12_module
      rw [ev_lim]; simp only [sX12_module, tX12_module_0, e, if_true, Option.bind_some]
    have e2 : fX16_module h 592 (q 1) = some (-2, h) := by
      unfold fX16_module
      rw [ev_lim]; simp only [sX16_module, tX16_module_0, e, if_true, Option.bind_some]
    rw [e1, Option.bind_some, if_pos ⟨hK, hR⟩, e2, Option.bind_some, if_pos ⟨rfl, hR⟩]
    exact ⟨_, rfl⟩
  · by_cases z : (0 : Int32) < q 1
    · have e1 : fX12_module h 0 (q 1) = some (-2, h) := by
        unfold fX12_module
        rw [ev_lim]; simp only [sX12_module, tX12_module_0, e, fr_k0 p, fr_i0 p, z, if_true, if_false, Option.bind_some]
      have e2 : fX16_module h 592 (q 1) = some (-2, h) := by
        unfold fX16_module
        rw [ev_lim]; simp only [sX16_module, tX16_module_0, e, hK, i1, z, if_true, if_false, Option.bind_some]
      rw [e1, Option.bind_some, if_pos ⟨hK, hR⟩, e2, Option.bind_some, if_pos ⟨rfl, hR⟩]
      exact ⟨_, rfl⟩
    · have q0 : q 1 = 0 := Int32.le_antisymm (Int32.not_lt.mp z) (Int32.not_lt.mp e)
      obtain ⟨g, e1, sg, ug, E⟩ := fr_c1 p
      obtain ⟨g', e2, sg', ug'⟩ := fr_m1 p sg E
      have u0 := p.2.2.2
      have k1 : pm_kd g 592 = 16 := (E 592 (by decide) (by decide)).1.trans hK
      have R1 : pl_R g := ⟨by omega, by omega⟩
      have R2 : pl_R g' := ⟨by omega, by omega⟩
      rw [q0, e1, Option.bind_some, if_pos ⟨k1, R1⟩, e2, Option.bind_some, if_pos ⟨rfl, R2⟩]
      exact ⟨_, rfl⟩
theorem lw_six : lw_pure 6 := by
  apply lw_pure_of
  intro xs k h p hk
  have step : ∀ q : Nat → Int32, ∃ h', lw_step q 0 592 h = some h' := by
    intro q
    unfold lw_step
    rw [if_pos ⟨fr_k0 p, fr_R p⟩]
    refine ev_ex (fr_s0 p q) (ev_ex (fr_s1 p q) (ev_ex (fr_s2 p q) (ev_ex (fr_s3 p q) (ev_ex (fr_s4 p q) (ev_ex (fr_s5 p q) (ev_ex (fr_s6 p q) (ev_ex (fr_s7 p q) (ev_ex (fr_s8 p q) (ev_ex (fr_s9 p q) (ev_ex (fr_s10 p q) (ev_ex (fr_s11 p q) (ev_ex (fr_s12 p q) (ev_ex (fr_s13 p q) (ev_ex (fr_s14 p q) (ev_ex (fr_s15 p q) (ev_ex (fr_s16 p q) (ev_ex (fr_s17 p q) ⟨h, rfl⟩)))))))))))))))))
  have hk2 : k = 0 ∨ k = 1 := by omega
  rcases hk2 with e | e
  · rw [e]; exact ⟨h, rfl⟩
  · rw [e]
    obtain ⟨h', e'⟩ := step (fun i => xs (0 + i))
    refine ⟨h', ?_⟩
    show (lw_step (fun i => xs (0 + i)) 0 592 h).bind (fun h' => lw_runs xs 0 592 0 (0 + 6) h') = some h'
    rw [e']
    rfl
