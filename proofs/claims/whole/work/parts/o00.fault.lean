/-! BETWEEN CALLS: what was told last of a module is told alike -/
def relF (h : pm_H) : Prop := pm_I h 0 5 = pm_I h 592 6 ∧ pm_I h 0 6 = pm_I h 592 7 ∧ pm_I h 0 7 = pm_I h 592 8
theorem rel_fault {h : pm_H} (k0 : pm_kd h 0 = 12) (k1 : pm_kd h 592 = 16) (r : pl_R h) (R : relF h) (q : Nat → Int32) : lw_s2 q 0 592 h = some h := by
  obtain ⟨r1, r2, r3⟩ := R
  obtain ⟨v, e1, e2⟩ : ∃ v, fX12_fault h 0 (q 1) = some v ∧ fX16_fault h 592 (q 1) = some v := by
    unfold fX12_fault fX16_fault
    rw [if_pos k0, if_pos k1, r1, r2, r3]
    split
    · exact ⟨_, rfl, rfl⟩
    · split
      · exact ⟨_, rfl, rfl⟩
      · split <;> exact ⟨_, rfl, rfl⟩
  unfold lw_s2
  rw [e1, Option.bind_some, if_pos ⟨k1, r⟩, e2, Option.bind_some, if_pos ⟨rfl, r⟩]
