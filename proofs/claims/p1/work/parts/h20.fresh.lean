/-! THE FIRST CALL: on both new objects -/
theorem fr_k0 {h : pm_H} (p : pj_0 h) : pm_kd h 0 = 12 := p.1.1
theorem fr_i0 {h : pm_H} (p : pj_0 h) (y : Nat) : pm_I h 0 y = 0 := p.1.2.1 y
theorem fr_r0_0 {h : pm_H} (p : pj_0 h) : pm_R h 0 0 = some 1 := p.1.2.2.2.1.1
theorem fr_r0_3 {h : pm_H} (p : pj_0 h) : pm_R h 0 3 = some 2 := p.1.2.2.2.1.2.1
theorem fr_r0_8 {h : pm_H} (p : pj_0 h) : pm_R h 0 8 = some 19 := p.1.2.2.2.1.2.2.1
theorem fr_r0_9 {h : pm_H} (p : pj_0 h) : pm_R h 0 9 = some 22 := p.1.2.2.2.1.2.2.2.1
theorem fr_r0_10 {h : pm_H} (p : pj_0 h) : pm_R h 0 10 = some 182 := p.1.2.2.2.1.2.2.2.2.1
theorem fr_r0_11 {h : pm_H} (p : pj_0 h) : pm_R h 0 11 = some 376 := p.1.2.2.2.1.2.2.2.2.2.1
theorem fr_r0_12 {h : pm_H} (p : pj_0 h) : pm_R h 0 12 = some 3 := p.1.2.2.2.1.2.2.2.2.2.2.1
theorem fr_r0_14 {h : pm_H} (p : pj_0 h) : pm_R h 0 14 = some 4 := p.1.2.2.2.1.2.2.2.2.2.2.2
theorem fr_z1 {h : pm_H} (p : pj_0 h) : pe_Z h 1 33 40960 := p.1.2.2.2.2.1
theorem fr_k2 {h : pm_H} (p : pj_0 h) : pm_kd h 2 = 41 ∧ pm_ln h 2 = 16 := ⟨p.1.2.2.2.2.2.1.1, p.1.2.2.2.2.2.1.2.1⟩
theorem fr_z3 {h : pm_H} (p : pj_0 h) : pe_Z h 3 34 128 := p.1.2.2.2.2.2.2.1
theorem fr_z4 {h : pm_H} (p : pj_0 h) : pe_Z h 4 35 16 := p.1.2.2.2.2.2.2.2.1
theorem fr_m {h : pm_H} (p : pj_0 h) : pm_kd h 5 = 7 ∧ pj_X7 h 5 7 6 := p.1.2.2.2.2.2.2.2.2.2.1
theorem fr_rd {h : pm_H} (p : pj_0 h) : pm_kd h 19 = 9 ∧ pj_X9 h 19 20 5 := p.1.2.2.2.2.2.2.2.2.2.2.1
theorem fr_ck {h : pm_H} (p : pj_0 h) : pm_kd h 22 = 1 ∧ pj_X1 h 22 23 19 5 := p.1.2.2.2.2.2.2.2.2.2.2.2.1
theorem fr_st {h : pm_H} (p : pj_0 h) : pm_kd h 182 = 10 ∧ pj_X10 h 182 183 19 5 := p.1.2.2.2.2.2.2.2.2.2.2.2.2.1
theorem fr_mc {h : pm_H} (p : pj_0 h) : pm_kd h 376 = 5 ∧ pj_X5 h 376 377 182 362 := p.1.2.2.2.2.2.2.2.2.2.2.2.2.2
theorem fr_k592 {h : pm_H} (p : pj_0 h) : pm_kd h 592 = 16 := p.2.1.1
theorem fr_i592 {h : pm_H} (p : pj_0 h) (y : Nat) : pm_I h 592 y = if y = 79 then -1 else if y = 53 then 8 else if y = 47 then 1024 else 0 := p.2.1.2.1 y
theorem fr_R {h : pm_H} (p : pj_0 h) : pl_R h := ⟨by have := p.2.2.1; omega, by have := p.2.2.2; omega⟩
theorem fr_i376 {h : pm_H} (p : pj_0 h) (y : Nat) : pm_I h 376 y = 0 := (fr_mc p).2.1 y
theorem fr_i182 {h : pm_H} (p : pj_0 h) (y : Nat) : pm_I h 182 y = if y = 17 then 2048 else 0 := (fr_st p).2.1 y
theorem fr_no {h : pm_H} (p : pj_0 h) : pm_R h 182 16 = some 362 := by
  obtain ⟨_, _, _, ⟨_, _, _, _, _, _, _, _, _, _, _, e, _⟩, _⟩ := fr_st p
  exact e
theorem fr_362 {h : pm_H} (p : pj_0 h) : pm_kd h 362 = 4 ∧ pm_R h 362 0 = some 5 := by
  obtain ⟨_, _, _, _, _, _, _, _, _, _, _, _, ⟨e1, e2, _⟩, _⟩ := fr_st p
  exact ⟨e1, e2⟩
theorem fr_x {h : pm_H} (p : pj_0 h) : pm_R h 5 8 = some 14 ∧ pm_kd h 14 = 34 ∧ pm_ln h 14 = 0 := by
  obtain ⟨_, _, _, ⟨_, _, _, _, _, _, _, _, e, _⟩, _, _, _, _, _, _, _, z, _⟩ := fr_m p
  exact ⟨e, z.1, z.2.1⟩
theorem fr_at {h : pm_H} (p : pj_0 h) (i : Int32) : fX10_instanceAt h 182 i = some 362 := by
  unfold fX10_instanceAt
  by_cases e : i < 0
  · rw [if_pos e, if_pos (fr_st p).1, fr_no p]; rfl
  · have e2 : (0 : Int32) ≤ i := Int32.not_lt.mp e
    have i3 : pm_I h 182 3 = 0 := (fr_i182 p 3).trans rfl
    rw [if_neg e, if_pos (fr_st p).1, i3, if_pos e2, fr_no p]; rfl
theorem fr_lt {i : Int32} (e : ¬ i < 0) : ¬ i < Int32.ofNat 0 / 4 := e
theorem fr_ek {h : pm_H} (p : pj_0 h) (k : Int32) : fX4_exportKind h 362 k = some (-1) := by
  unfold fX4_exportKind
  by_cases e : k < 0
  · rw [if_pos e]
  · simp only [if_neg e, (fr_362 p).1, (fr_362 p).2, (fr_m p).1, (fr_x p).1, (fr_x p).2.1, (fr_x p).2.2, if_true, Option.bind_some, if_neg (fr_lt e)]
theorem fr_en {h : pm_H} (p : pj_0 h) (k : Int32) : fX4_exportNumber h 362 k = some (-1) := by
  unfold fX4_exportNumber
  by_cases e : k < 0
  · rw [if_pos e]
  · simp only [if_neg e, (fr_362 p).1, (fr_362 p).2, (fr_m p).1, (fr_x p).1, (fr_x p).2.1, (fr_x p).2.2, if_true, Option.bind_some, if_neg (fr_lt e)]
theorem fr_busy {h : pm_H} (p : pj_0 h) : fX5_isBusy h 376 = some 0 := by
  unfold fX5_isBusy
  rw [if_pos (fr_mc p).1, fr_i376 p 0, if_neg (by decide), if_neg (by decide)]
theorem fr_runs {h : pm_H} (p : pj_0 h) : fX16_runs h 592 = some 0 := by
  unfold fX16_runs
  rw [if_pos (fr_k592 p), fr_i592 p 76]
  rfl
theorem fr_ix {h : pm_H} (p : pj_0 h) (i k : Int32) : fX16_isExport h 592 i k = some 0 := by
  have e : fX16_isInstance h 592 i = some 0 := by
    unfold fX16_isInstance
    by_cases e : i < 0
    · simp only [if_pos e]
    · have e2 : ¬ i < 0 := e
      rw [if_neg e, if_pos (fr_k592 p), fr_i592 p 62]
      exact if_pos (Int32.not_lt.mp e2)
  unfold fX16_isExport
  rw [if_pos (fr_k592 p), e]
  rfl
theorem fr_as {h : pm_H} (p : pj_0 h) (t i k : Int32) : fX16_exportedAs h 592 t i k = some (-1) := by
  unfold fX16_exportedAs
  rw [if_pos (fr_k592 p), fr_ix p]
  rfl
theorem fr_s2 {h : pm_H} (p : pj_0 h) (q : Nat → Int32) : ∃ h', lw_s2 q 0 592 h = some h' := by
  have e1 : fX12_fault h 0 (q 1) = some (-1) := by unfold fX12_fault; rw [if_pos (fr_k0 p), fr_i0 p 5, if_pos rfl]
  have e2 : fX16_fault h 592 (q 1) = some (-1) := by unfold fX16_fault; rw [if_pos (fr_k592 p), fr_i592 p 6]; rfl
  unfold lw_s2
  rw [e1, Option.bind_some, if_pos ⟨fr_k592 p, fr_R p⟩, e2, Option.bind_some, if_pos ⟨rfl, fr_R p⟩]
  exact ⟨_, rfl⟩
theorem fr_s6 {h : pm_H} (p : pj_0 h) (q : Nat → Int32) : ∃ h', lw_s6 q 0 592 h = some h' := by
  have e1 : fX12_call h 0 (q 1) (q 2) = some (0, h) := by
    simp only [fX12_call, fX12_call_b0, fr_k0 p, fr_r0_10 p, fr_r0_11 p, (fr_st p).1, (fr_mc p).1, fr_at p, fr_busy p, (fr_362 p).1, fr_ek p, if_true, Option.bind_some]
    rfl
  have e2 : fX16_call h 592 (q 1) (q 2) = some (0, h) := by
    unfold fX16_call
    rw [if_pos (fr_k592 p), fr_runs p, Option.bind_some, if_pos rfl, fr_as p]
    rfl
  unfold lw_s6
  rw [e1, Option.bind_some, if_pos ⟨fr_k592 p, fr_R p⟩, e2, Option.bind_some, if_pos ⟨rfl, fr_R p⟩]
  exact ⟨_, rfl⟩
theorem fr_s8 {h : pm_H} (p : pj_0 h) (q : Nat → Int32) : ∃ h', lw_s8 q 0 592 h = some h' := by
  have e1 : fX12_give h 0 = some (0, h) := by
    simp only [fX12_give, fr_k0 p, fr_r0_11 p, (fr_mc p).1, fr_busy p, if_true, Option.bind_some]
  have e2 : fX16_give h 592 = some (0, h) := by
    simp only [fX16_give, fr_k592 p, fr_runs p, if_true, Option.bind_some]
  unfold lw_s8
  rw [e1, Option.bind_some, if_pos ⟨fr_k592 p, fr_R p⟩, e2, Option.bind_some, if_pos ⟨rfl, fr_R p⟩]
  exact ⟨_, rfl⟩
theorem fr_s9 {h : pm_H} (p : pj_0 h) (q : Nat → Int32) : ∃ h', lw_s9 q 0 592 h = some h' := by
  have e1 : fX12_answer h 0 = some (0, h) := by
    simp only [fX12_answer, fX12_answer_b0, fr_k0 p, fr_r0_11 p, (fr_mc p).1, fr_i376 p, if_true, Option.bind_some]
    rfl
  have e2 : fX16_answer h 592 = some (0, h) := by
    unfold fX16_answer
    rw [if_pos (fr_k592 p), fr_i592 p 76]
    rfl
  unfold lw_s9
  rw [e1, Option.bind_some, if_pos ⟨fr_k592 p, fr_R p⟩, e2, Option.bind_some, if_pos ⟨rfl, fr_R p⟩]
  exact ⟨_, rfl⟩
theorem fr_s11 {h : pm_H} (p : pj_0 h) (q : Nat → Int32) : ∃ h', lw_s11 q 0 592 h = some h' := by
  have e1 : fX12_value h 0 (q 1) = some 0 := by
    simp only [fX12_value, fr_k0 p, fr_r0_11 p, (fr_mc p).1, fr_i376 p, if_true, Option.bind_some]
    rfl
  have e2 : fX16_value h 592 (q 1) = some 0 := by
    unfold fX16_value
    rw [if_pos (fr_k592 p), fr_i592 p 76]
    rfl
  unfold lw_s11
  rw [e1, Option.bind_some, if_pos ⟨fr_k592 p, fr_R p⟩, e2, Option.bind_some, if_pos ⟨rfl, fr_R p⟩]
  exact ⟨_, rfl⟩
theorem fr_s13 {h : pm_H} (p : pj_0 h) (q : Nat → Int32) : ∃ h', lw_s13 q 0 592 h = some h' := by
  have e1 : fX12_export h 0 (q 1) (q 2) (q 3) = some (-1) := by
    unfold fX12_export
    simp only [fr_k0 p, fr_r0_10 p, (fr_st p).1, fr_at p, (fr_362 p).1, fr_ek p, fr_en p, if_true, Option.bind_some]
    rw [if_neg (by decide)]
  have e2 : fX16_export h 592 (q 1) (q 2) (q 3) = some (-1) := by
    unfold fX16_export
    rw [if_pos (fr_k592 p), fr_ix p]
    rfl
  unfold lw_s13
  rw [e1, Option.bind_some, if_pos ⟨fr_k592 p, fr_R p⟩, e2, Option.bind_some, if_pos ⟨rfl, fr_R p⟩]
  exact ⟨_, rfl⟩
theorem fr_s14 {h : pm_H} (p : pj_0 h) (q : Nat → Int32) : ∃ h', lw_s14 q 0 592 h = some h' := by
  have e1 : fX12_memory h 0 (q 1) (q 2) (q 3) = some (-1) := by
    unfold fX12_memory
    simp only [fr_k0 p, fr_r0_10 p, (fr_st p).1, fr_at p, (fr_362 p).1, fr_ek p, fr_en p, if_true, Option.bind_some, ev_let]
    rw [if_neg (by decide)]
  have e2 : fX16_memory h 592 (q 1) (q 2) (q 3) = some (-1) := by
    unfold fX16_memory
    rw [if_pos (fr_k592 p), fr_as p]
    rfl
  unfold lw_s14
  rw [e1, Option.bind_some, if_pos ⟨fr_k592 p, fr_R p⟩, e2, Option.bind_some, if_pos ⟨rfl, fr_R p⟩]
  exact ⟨_, rfl⟩
theorem fr_s15 {h : pm_H} (p : pj_0 h) (q : Nat → Int32) : ∃ h', lw_s15 q 0 592 h = some h' := by
  have e1 : fX12_poke h 0 (q 1) (q 2) (q 3) (q 4) = some (0, h) := by
    unfold fX12_poke
    simp only [fr_k0 p, fr_r0_10 p, fr_r0_11 p, (fr_mc p).1, fr_busy p, (fr_st p).1, fr_at p, (fr_362 p).1, fr_ek p, fr_en p, if_true, Option.bind_some, ev_let]
    rw [if_neg (by decide)]
  have e2 : fX16_poke h 592 (q 1) (q 2) (q 3) (q 4) = some (0, h) := by
    unfold fX16_poke
    rw [if_pos (fr_k592 p), fr_runs p, Option.bind_some, if_pos rfl, fr_as p]
    rfl
  unfold lw_s15
  rw [e1, Option.bind_some, if_pos ⟨fr_k592 p, fr_R p⟩, e2, Option.bind_some, if_pos ⟨rfl, fr_R p⟩]
  exact ⟨_, rfl⟩
theorem fr_s16 {h : pm_H} (p : pj_0 h) (q : Nat → Int32) : ∃ h', lw_s16 q 0 592 h = some h' := by
  have e1 : fX12_table h 0 (q 1) (q 2) (q 3) = some (-2) := by
    unfold fX12_table
    simp only [fr_k0 p, fr_r0_10 p, (fr_st p).1, fr_at p, (fr_362 p).1, fr_ek p, fr_en p, if_true, Option.bind_some, ev_let]
    rw [if_neg (by decide)]
  have e2 : fX16_table h 592 (q 1) (q 2) (q 3) = some (-2) := by
    unfold fX16_table
    rw [if_pos (fr_k592 p), fr_as p]
    rfl
  unfold lw_s16
  rw [e1, Option.bind_some, if_pos ⟨fr_k592 p, fr_R p⟩, e2, Option.bind_some, if_pos ⟨rfl, fr_R p⟩]
  exact ⟨_, rfl⟩
theorem fr_s17 {h : pm_H} (p : pj_0 h) (q : Nat → Int32) : ∃ h', lw_s17 q 0 592 h = some h' := by
  have e1 : fX12_global h 0 (q 1) (q 2) = some 0 := by
    unfold fX12_global
    simp only [fr_k0 p, fr_r0_10 p, (fr_st p).1, fr_at p, (fr_362 p).1, fr_ek p, if_true, Option.bind_some, ev_let]
    rw [if_neg (by decide)]
  have e2 : fX16_global h 592 (q 1) (q 2) = some 0 := by
    unfold fX16_global
    rw [if_pos (fr_k592 p), fr_as p]
    rfl
  unfold lw_s17
  rw [e1, Option.bind_some, if_pos ⟨fr_k592 p, fr_R p⟩, e2, Option.bind_some, if_pos ⟨rfl, fr_R p⟩]
  exact ⟨_, rfl⟩
