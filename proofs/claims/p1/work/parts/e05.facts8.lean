abbrev mX16_module : pm_M := (yX16_module, cX16_module, 4, (some .int), 10, 248)
theorem viX16_module : pm_Vi mX16_module 16 := ⟨pm_Cl16, rfl, pm_tin11 _ (List.mem_of_getElem? (i := 18) rfl), pm_tin11 _ (List.mem_of_getElem? (i := 19) rfl)⟩
theorem lnX16_228 : pm_Ln RX16 228 mX14_init := Or.inr ⟨"ModuleEngineModel", pm_tin11 _ (List.mem_of_getElem? (i := 22) rfl)⟩
theorem lnX16_229 : pm_Ln RX16 229 mX14_begin := Or.inl (pm_tin12 _ (List.mem_of_getElem? (i := 20) rfl))
theorem ltX16_245 : Cond.methodLink RX16 245 mX16_readsAll.1 ∈ lw_tbl := pm_tin12 _ (List.mem_of_getElem? (i := 24) rfl)
theorem ltX16_248 : Cond.methodLink RX16 248 mX16_checksAll.1 ∈ lw_tbl := pm_tin12 _ (List.mem_of_getElem? (i := 191) rfl)
theorem flX16_225 : pm_F RX16 225 16 5 := ⟨pm_Cl16, by decide, Or.inl (pm_tin9 _ (List.mem_of_getElem? (i := 189) rfl))⟩
theorem cc14 : Cond.instantiable (pm_Rn 14) (pm_fN 14) ∈ lw_tbl ∧ Cond.initialized (pm_Rn 14) ∈ lw_tbl := ⟨pm_tin11 _ (List.mem_of_getElem? (i := 21) rfl), pm_tin1 _ (List.mem_of_getElem? (i := 27) rfl)⟩
theorem pc_on {α : Type} {o : Option Nat} {n s r : α} (e : o = none) (h : pc_oc o n s = r) : n = r := by subst e; exact h
theorem pc_os {α : Type} {o : Option Nat} {x : Nat} {n s r : α} (e : o = some x) (h : pc_oc o n s = r) : s = r := by subst e; exact h
theorem pc_cast : Cond.castable RX13 RX13 ∈ lw_tbl := pm_tin9 _ (List.mem_of_getElem? (i := 98) rfl)
