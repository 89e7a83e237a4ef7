theorem nhJ7 : RJ7 ≠ "java/lang/invoke/MethodHandle" ∧ RJ7 ≠ "java/lang/invoke/VarHandle" := ⟨by decide, by decide⟩
theorem pnJ7 : plainName RJ7 = true := by decide +kernel
theorem pd79 : (parseMethodDescriptor "(IJJJ)V").map (fun d => d.parameters.length) = some 4 := by decide +kernel
theorem pd80 : (parseMethodDescriptor "(IZJI)J").map (fun d => d.parameters.length) = some 4 := by decide +kernel
theorem pd81 : (parseMethodDescriptor "(IIIJ)J").map (fun d => d.parameters.length) = some 4 := by decide +kernel
theorem pd82 : (parseMethodDescriptor "(LModuleEngine$Instance;LModuleEngine$Body;I)I").map (fun d => d.parameters.length) = some 3 := by decide +kernel
theorem pd83 : (parseMethodDescriptor "([JIII)V").map (fun d => d.parameters.length) = some 4 := by decide +kernel
theorem pd84 : (parseMethodDescriptor "([BIIB)V").map (fun d => d.parameters.length) = some 4 := by decide +kernel
theorem pd85 : (parseMethodDescriptor "([IIII)V").map (fun d => d.parameters.length) = some 4 := by decide +kernel
theorem pd86 : (parseMethodDescriptor "(IJIJ)V").map (fun d => d.parameters.length) = some 4 := by decide +kernel
theorem pd87 : (parseMethodDescriptor "([JII)V").map (fun d => d.parameters.length) = some 3 := by decide +kernel
theorem pd88 : (parseMethodDescriptor "(LModuleEngine$Instance;IIJJJ)J").map (fun d => d.parameters.length) = some 6 := by decide +kernel
theorem pd89 : (parseMethodDescriptor "(LModuleEngine$Instance;)J").map (fun d => d.parameters.length) = some 1 := by decide +kernel
theorem pd90 : (parseMethodDescriptor "(LModuleEngine$Instance;I)I").map (fun d => d.parameters.length) = some 2 := by decide +kernel
abbrev mJ7_rangeCheck_23922 : pm_M := (yJ7_rangeCheck_23922, cJ7_rangeCheck_23922, 3, none, 0, 0)
abbrev mX6_copy : pm_M := (yX6_copy, cX6_copy, 22, none, 2, 60)
abbrev mX8_round : pm_M := (yX8_round, cX8_round, 18, (some .long), 2, 43)
abbrev mX8_scale : pm_M := (yX8_scale, cX8_scale, 10, (some .int), 2, 43)
abbrev mX8_significand : pm_M := (yX8_significand, cX8_significand, 8, (some .long), 2, 43)
abbrev mX8_toWholeFloating : pm_M := (yX8_toWholeFloating, cX8_toWholeFloating, 15, (some .long), 3, 80)
abbrev mX8_truncated : pm_M := (yX8_truncated, cX8_truncated, 14, (some .long), 3, 72)
abbrev mX9_number : pm_M := (yX9_number, cX9_number, 8, (some .long), 1, 23)
abbrev mX9_selected : pm_M := (yX9_selected, cX9_selected, 3, none, 2, 50)
abbrev mX10_addFunction : pm_M := (yX10_addFunction, cX10_addFunction, 5, (some .int), 0, 0)
abbrev mX12_move : pm_M := (yX12_move, cX12_move, 4, none, 1, 60)
abbrev mJ7_fill_eb02e : pm_M := (yJ7_fill_eb02e, cJ7_fill_eb02e, 5, none, 1, 22)
abbrev mJ7_fill_fda19 : pm_M := (yJ7_fill_fda19, cJ7_fill_fda19, 5, none, 1, 22)
abbrev mX1_readLocals : pm_M := (yX1_readLocals, cX1_readLocals, 8, none, 2, 50)
abbrev mX5_branchOnRegisters : pm_M := (yX5_branchOnRegisters, cX5_branchOnRegisters, 4, none, 2, 83)
abbrev mX5_branchOnStack : pm_M := (yX5_branchOnStack, cX5_branchOnStack, 4, none, 2, 83)
abbrev mX5_enter : pm_M := (yX5_enter, cX5_enter, 6, none, 2, 83)
abbrev mX5_leave : pm_M := (yX5_leave, cX5_leave, 3, none, 2, 83)
abbrev mX6_fill : pm_M := (yX6_fill, cX6_fill, 12, none, 2, 48)
abbrev mX8_add : pm_M := (yX8_add, cX8_add, 17, (some .long), 3, 80)
abbrev mX8_divide : pm_M := (yX8_divide, cX8_divide, 15, (some .long), 3, 80)
abbrev mX8_fromWhole : pm_M := (yX8_fromWhole, cX8_fromWhole, 5, (some .long), 3, 80)
abbrev mX8_multiply : pm_M := (yX8_multiply, cX8_multiply, 23, (some .long), 3, 80)
abbrev mX8_resized : pm_M := (yX8_resized, cX8_resized, 6, (some .long), 3, 80)
abbrev mX8_root : pm_M := (yX8_root, cX8_root, 13, (some .long), 3, 80)
abbrev mX8_toFloating : pm_M := (yX8_toFloating, cX8_toFloating, 3, (some .long), 4, 105)
abbrev mX9_blockType : pm_M := (yX9_blockType, cX9_blockType, 5, (some .long), 2, 50)
abbrev mX9_describe : pm_M := (yX9_describe, cX9_describe, 5, none, 2, 50)
abbrev mX9_labels : pm_M := (yX9_labels, cX9_labels, 3, none, 2, 50)
abbrev mX9_longInstruction : pm_M := (yX9_longInstruction, cX9_longInstruction, 3, none, 2, 50)
abbrev mX9_name : pm_M := (yX9_name, cX9_name, 5, (some .int), 2, 50)
abbrev mX10_alongMemory : pm_M := (yX10_alongMemory, cX10_alongMemory, 17, (some .long), 3, 101)
abbrev mX11_fill : pm_M := (yX11_fill, cX11_fill, 8, none, 2, 46)
abbrev mX5_goFreely : pm_M := (yX5_goFreely, cX5_goFreely, 4, none, 3, 105)
abbrev mX8_floating : pm_M := (yX8_floating, cX8_floating, 8, (some .long), 4, 122)
abbrev mX9_exportOne : pm_M := (yX9_exportOne, cX9_exportOne, 3, none, 3, 74)
abbrev mX9_importOne : pm_M := (yX9_importOne, cX9_importOne, 2, none, 3, 74)
abbrev mX9_instruction : pm_M := (yX9_instruction, cX9_instruction, 1, none, 3, 74)
abbrev mX10_constant : pm_M := (yX10_constant, cX10_constant, 6, (some .long), 4, 94)
abbrev mX1_constant : pm_M := (yX1_constant, cX1_constant, 6, none, 4, 94)
abbrev mX1_dataAreRight : pm_M := (yX1_dataAreRight, cX1_dataAreRight, 2, none, 5, 119)
abbrev mX1_elementsAreRight : pm_M := (yX1_elementsAreRight, cX1_elementsAreRight, 10, none, 5, 119)
abbrev mX1_globalsAreRight : pm_M := (yX1_globalsAreRight, cX1_globalsAreRight, 2, none, 5, 119)
abbrev mX9_expression : pm_M := (yX9_expression, cX9_expression, 3, none, 4, 94)
abbrev mX9_own : pm_M := (yX9_own, cX9_own, 3, none, 5, 116)
abbrev mX10_addGlobal : pm_M := (yX10_addGlobal, cX10_addGlobal, 4, (some .int), 5, 119)
abbrev mX9_body : pm_M := (yX9_body, cX9_body, 12, none, 5, 116)
abbrev mX9_dataOne : pm_M := (yX9_dataOne, cX9_dataOne, 7, none, 5, 116)
abbrev mX9_element : pm_M := (yX9_element, cX9_element, 12, none, 5, 116)
theorem myJ7_rangeCheck_23922 : pm_My mJ7_rangeCheck_23922 3 := ⟨pm_tin7 _ (List.mem_of_getElem? (i := 13) rfl), pm_tin1 _ (List.mem_of_getElem? (i := 21) rfl), nhJ7.1, nhJ7.2, pd38⟩
theorem stJ7_rangeCheck_23922 : pm_St mJ7_rangeCheck_23922 := pm_tin7 _ (List.mem_of_getElem? (i := 12) rfl)
theorem myX6_copy : pm_My mX6_copy 4 := ⟨pm_tin8 _ (List.mem_of_getElem? (i := 6) rfl), pm_tin1 _ (List.mem_of_getElem? (i := 9) rfl), nhX6.1, nhX6.2, pd79⟩
theorem viX6_copy : pm_Vi mX6_copy 6 := ⟨pm_Cl6, rfl, pm_tin8 _ (List.mem_of_getElem? (i := 4) rfl), pm_tin8 _ (List.mem_of_getElem? (i := 5) rfl)⟩
theorem myX8_round : pm_My mX8_round 4 := ⟨pm_tin7 _ (List.mem_of_getElem? (i := 162) rfl), pm_tin1 _ (List.mem_of_getElem? (i := 10) rfl), nhX8.1, nhX8.2, pd80⟩
theorem stX8_round : pm_St mX8_round := pm_tin7 _ (List.mem_of_getElem? (i := 161) rfl)
theorem myX8_scale : pm_My mX8_scale 2 := ⟨pm_tin7 _ (List.mem_of_getElem? (i := 152) rfl), pm_tin1 _ (List.mem_of_getElem? (i := 10) rfl), nhX8.1, nhX8.2, pd14⟩
theorem stX8_scale : pm_St mX8_scale := pm_tin7 _ (List.mem_of_getElem? (i := 151) rfl)
theorem myX8_significand : pm_My mX8_significand 2 := ⟨pm_tin7 _ (List.mem_of_getElem? (i := 159) rfl), pm_tin1 _ (List.mem_of_getElem? (i := 10) rfl), nhX8.1, nhX8.2, pd13⟩
theorem stX8_significand : pm_St mX8_significand := pm_tin7 _ (List.mem_of_getElem? (i := 158) rfl)
theorem myX8_toWholeFloating : pm_My mX8_toWholeFloating 3 := ⟨pm_tin7 _ (List.mem_of_getElem? (i := 146) rfl), pm_tin1 _ (List.mem_of_getElem? (i := 10) rfl), nhX8.1, nhX8.2, pd70⟩
theorem stX8_toWholeFloating : pm_St mX8_toWholeFloating := pm_tin7 _ (List.mem_of_getElem? (i := 145) rfl)
theorem myX8_truncated : pm_My mX8_truncated 4 := ⟨pm_tin7 _ (List.mem_of_getElem? (i := 194) rfl), pm_tin1 _ (List.mem_of_getElem? (i := 10) rfl), nhX8.1, nhX8.2, pd81⟩
theorem viX8_truncated : pm_Vi mX8_truncated 8 := ⟨pm_Cl8, rfl, pm_tin7 _ (List.mem_of_getElem? (i := 193) rfl), List.mem_append_left _ (List.mem_of_getElem? (i := 96) rfl)⟩
theorem myX9_number : pm_My mX9_number 1 := ⟨pm_tin4 _ (List.mem_of_getElem? (i := 75) rfl), pm_tin1 _ (List.mem_of_getElem? (i := 3) rfl), nhX9.1, nhX9.2, pd20⟩
theorem viX9_number : pm_Vi mX9_number 9 := ⟨pm_Cl9, rfl, pm_tin4 _ (List.mem_of_getElem? (i := 73) rfl), pm_tin4 _ (List.mem_of_getElem? (i := 74) rfl)⟩
theorem myX9_selected : pm_My mX9_selected 0 := ⟨pm_tin4 _ (List.mem_of_getElem? (i := 213) rfl), pm_tin1 _ (List.mem_of_getElem? (i := 3) rfl), nhX9.1, nhX9.2, pd10⟩
theorem viX9_selected : pm_Vi mX9_selected 9 := ⟨pm_Cl9, rfl, pm_tin4 _ (List.mem_of_getElem? (i := 212) rfl), List.mem_append_left _ (List.mem_of_getElem? (i := 19) rfl)⟩
theorem myX10_addFunction : pm_My mX10_addFunction 3 := ⟨pm_tin6 _ (List.mem_of_getElem? (i := 225) rfl), pm_tin1 _ (List.mem_of_getElem? (i := 7) rfl), nhX10.1, nhX10.2, pd82⟩
theorem viX10_addFunction : pm_Vi mX10_addFunction 10 := ⟨pm_Cl10, rfl, pm_tin6 _ (List.mem_of_getElem? (i := 224) rfl), List.mem_append_left _ (List.mem_of_getElem? (i := 87) rfl)⟩
theorem myX12_move : pm_My mX12_move 4 := ⟨pm_tin8 _ (List.mem_of_getElem? (i := 107) rfl), pm_tin1 _ (List.mem_of_getElem? (i := 1) rfl), nhX12.1, nhX12.2, pd83⟩
theorem stX12_move : pm_St mX12_move := pm_tin8 _ (List.mem_of_getElem? (i := 106) rfl)
theorem myJ7_fill_eb02e : pm_My mJ7_fill_eb02e 4 := ⟨pm_tin8 _ (List.mem_of_getElem? (i := 20) rfl), pm_tin1 _ (List.mem_of_getElem? (i := 21) rfl), nhJ7.1, nhJ7.2, pd84⟩
theorem stJ7_fill_eb02e : pm_St mJ7_fill_eb02e := pm_tin8 _ (List.mem_of_getElem? (i := 19) rfl)
theorem myJ7_fill_fda19 : pm_My mJ7_fill_fda19 4 := ⟨pm_tin7 _ (List.mem_of_getElem? (i := 10) rfl), pm_tin1 _ (List.mem_of_getElem? (i := 21) rfl), nhJ7.1, nhJ7.2, pd85⟩
theorem stJ7_fill_fda19 : pm_St mJ7_fill_fda19 := pm_tin7 _ (List.mem_of_getElem? (i := 9) rfl)
theorem myX1_readLocals : pm_My mX1_readLocals 0 := ⟨pm_tin5 _ (List.mem_of_getElem? (i := 132) rfl), pm_tin1 _ (List.mem_of_getElem? (i := 4) rfl), nhX1.1, nhX1.2, pd10⟩
theorem viX1_readLocals : pm_Vi mX1_readLocals 1 := ⟨pm_Cl1, rfl, pm_tin5 _ (List.mem_of_getElem? (i := 131) rfl), List.mem_append_left _ (List.mem_of_getElem? (i := 42) rfl)⟩
theorem myX5_branchOnRegisters : pm_My mX5_branchOnRegisters 1 := ⟨pm_tin9 _ (List.mem_of_getElem? (i := 33) rfl), pm_tin1 _ (List.mem_of_getElem? (i := 12) rfl), nhX5.1, nhX5.2, pd7⟩
theorem viX5_branchOnRegisters : pm_Vi mX5_branchOnRegisters 5 := ⟨pm_Cl5, rfl, pm_tin9 _ (List.mem_of_getElem? (i := 32) rfl), List.mem_append_left _ (List.mem_of_getElem? (i := 136) rfl)⟩
theorem myX5_branchOnStack : pm_My mX5_branchOnStack 1 := ⟨pm_tin9 _ (List.mem_of_getElem? (i := 10) rfl), pm_tin1 _ (List.mem_of_getElem? (i := 12) rfl), nhX5.1, nhX5.2, pd7⟩
theorem viX5_branchOnStack : pm_Vi mX5_branchOnStack 5 := ⟨pm_Cl5, rfl, pm_tin9 _ (List.mem_of_getElem? (i := 9) rfl), List.mem_append_left _ (List.mem_of_getElem? (i := 132) rfl)⟩
theorem myX5_enter : pm_My mX5_enter 2 := ⟨pm_tin8 _ (List.mem_of_getElem? (i := 87) rfl), pm_tin1 _ (List.mem_of_getElem? (i := 12) rfl), nhX5.1, nhX5.2, pd8⟩
theorem viX5_enter : pm_Vi mX5_enter 5 := ⟨pm_Cl5, rfl, pm_tin8 _ (List.mem_of_getElem? (i := 86) rfl), List.mem_append_left _ (List.mem_of_getElem? (i := 105) rfl)⟩
theorem myX5_leave : pm_My mX5_leave 0 := ⟨pm_tin8 _ (List.mem_of_getElem? (i := 211) rfl), pm_tin1 _ (List.mem_of_getElem? (i := 12) rfl), nhX5.1, nhX5.2, pd10⟩
theorem viX5_leave : pm_Vi mX5_leave 5 := ⟨pm_Cl5, rfl, pm_tin8 _ (List.mem_of_getElem? (i := 210) rfl), List.mem_append_left _ (List.mem_of_getElem? (i := 127) rfl)⟩
theorem myX6_fill : pm_My mX6_fill 4 := ⟨pm_tin8 _ (List.mem_of_getElem? (i := 17) rfl), pm_tin1 _ (List.mem_of_getElem? (i := 9) rfl), nhX6.1, nhX6.2, pd86⟩
theorem viX6_fill : pm_Vi mX6_fill 6 := ⟨pm_Cl6, rfl, pm_tin8 _ (List.mem_of_getElem? (i := 15) rfl), pm_tin8 _ (List.mem_of_getElem? (i := 16) rfl)⟩
theorem myX8_add : pm_My mX8_add 3 := ⟨pm_tin7 _ (List.mem_of_getElem? (i := 169) rfl), pm_tin1 _ (List.mem_of_getElem? (i := 10) rfl), nhX8.1, nhX8.2, pd46⟩
theorem stX8_add : pm_St mX8_add := pm_tin7 _ (List.mem_of_getElem? (i := 168) rfl)
theorem myX8_divide : pm_My mX8_divide 3 := ⟨pm_tin7 _ (List.mem_of_getElem? (i := 184) rfl), pm_tin1 _ (List.mem_of_getElem? (i := 10) rfl), nhX8.1, nhX8.2, pd46⟩
theorem stX8_divide : pm_St mX8_divide := pm_tin7 _ (List.mem_of_getElem? (i := 183) rfl)
theorem myX8_fromWhole : pm_My mX8_fromWhole 3 := ⟨pm_tin7 _ (List.mem_of_getElem? (i := 200) rfl), pm_tin1 _ (List.mem_of_getElem? (i := 10) rfl), nhX8.1, nhX8.2, pd77⟩
theorem stX8_fromWhole : pm_St mX8_fromWhole := pm_tin7 _ (List.mem_of_getElem? (i := 199) rfl)
theorem myX8_multiply : pm_My mX8_multiply 3 := ⟨pm_tin7 _ (List.mem_of_getElem? (i := 175) rfl), pm_tin1 _ (List.mem_of_getElem? (i := 10) rfl), nhX8.1, nhX8.2, pd46⟩
theorem stX8_multiply : pm_St mX8_multiply := pm_tin7 _ (List.mem_of_getElem? (i := 174) rfl)
theorem myX8_resized : pm_My mX8_resized 3 := ⟨pm_tin7 _ (List.mem_of_getElem? (i := 203) rfl), pm_tin1 _ (List.mem_of_getElem? (i := 10) rfl), nhX8.1, nhX8.2, pd70⟩
theorem stX8_resized : pm_St mX8_resized := pm_tin7 _ (List.mem_of_getElem? (i := 202) rfl)
theorem myX8_root : pm_My mX8_root 2 := ⟨pm_tin7 _ (List.mem_of_getElem? (i := 165) rfl), pm_tin1 _ (List.mem_of_getElem? (i := 10) rfl), nhX8.1, nhX8.2, pd13⟩
theorem stX8_root : pm_St mX8_root := pm_tin7 _ (List.mem_of_getElem? (i := 164) rfl)
theorem myX8_toFloating : pm_My mX8_toFloating 2 := ⟨pm_tin7 _ (List.mem_of_getElem? (i := 197) rfl), pm_tin1 _ (List.mem_of_getElem? (i := 10) rfl), nhX8.1, nhX8.2, pd13⟩
theorem stX8_toFloating : pm_St mX8_toFloating := pm_tin7 _ (List.mem_of_getElem? (i := 196) rfl)
theorem myX9_blockType : pm_My mX9_blockType 0 := ⟨pm_tin4 _ (List.mem_of_getElem? (i := 203) rfl), pm_tin1 _ (List.mem_of_getElem? (i := 3) rfl), nhX9.1, nhX9.2, pd48⟩
theorem viX9_blockType : pm_Vi mX9_blockType 9 := ⟨pm_Cl9, rfl, pm_tin4 _ (List.mem_of_getElem? (i := 202) rfl), List.mem_append_left _ (List.mem_of_getElem? (i := 17) rfl)⟩
theorem myX9_describe : pm_My mX9_describe 3 := ⟨pm_tin4 _ (List.mem_of_getElem? (i := 165) rfl), pm_tin1 _ (List.mem_of_getElem? (i := 3) rfl), nhX9.1, nhX9.2, pd87⟩
theorem viX9_describe : pm_Vi mX9_describe 9 := ⟨pm_Cl9, rfl, pm_tin4 _ (List.mem_of_getElem? (i := 164) rfl), List.mem_append_left _ (List.mem_of_getElem? (i := 12) rfl)⟩
theorem myX9_labels : pm_My mX9_labels 0 := ⟨pm_tin4 _ (List.mem_of_getElem? (i := 208) rfl), pm_tin1 _ (List.mem_of_getElem? (i := 3) rfl), nhX9.1, nhX9.2, pd10⟩
theorem viX9_labels : pm_Vi mX9_labels 9 := ⟨pm_Cl9, rfl, pm_tin4 _ (List.mem_of_getElem? (i := 207) rfl), List.mem_append_left _ (List.mem_of_getElem? (i := 18) rfl)⟩
theorem myX9_longInstruction : pm_My mX9_longInstruction 0 := ⟨pm_tin4 _ (List.mem_of_getElem? (i := 222) rfl), pm_tin1 _ (List.mem_of_getElem? (i := 3) rfl), nhX9.1, nhX9.2, pd10⟩
theorem viX9_longInstruction : pm_Vi mX9_longInstruction 9 := ⟨pm_Cl9, rfl, pm_tin4 _ (List.mem_of_getElem? (i := 221) rfl), List.mem_append_left _ (List.mem_of_getElem? (i := 21) rfl)⟩
theorem myX9_name : pm_My mX9_name 0 := ⟨pm_tin4 _ (List.mem_of_getElem? (i := 89) rfl), pm_tin1 _ (List.mem_of_getElem? (i := 3) rfl), nhX9.1, nhX9.2, pd23⟩
theorem viX9_name : pm_Vi mX9_name 9 := ⟨pm_Cl9, rfl, pm_tin4 _ (List.mem_of_getElem? (i := 88) rfl), List.mem_append_left _ (List.mem_of_getElem? (i := 3) rfl)⟩
theorem myX10_alongMemory : pm_My mX10_alongMemory 6 := ⟨pm_tin8 _ (List.mem_of_getElem? (i := 2) rfl), pm_tin1 _ (List.mem_of_getElem? (i := 7) rfl), nhX10.1, nhX10.2, pd88⟩
theorem viX10_alongMemory : pm_Vi mX10_alongMemory 10 := ⟨pm_Cl10, rfl, pm_tin8 _ (List.mem_of_getElem? (i := 1) rfl), List.mem_append_left _ (List.mem_of_getElem? (i := 99) rfl)⟩
theorem myX11_fill : pm_My mX11_fill 4 := ⟨pm_tin7 _ (List.mem_of_getElem? (i := 7) rfl), pm_tin1 _ (List.mem_of_getElem? (i := 8) rfl), nhX11.1, nhX11.2, pd86⟩
theorem viX11_fill : pm_Vi mX11_fill 11 := ⟨pm_Cl11, rfl, pm_tin7 _ (List.mem_of_getElem? (i := 5) rfl), pm_tin7 _ (List.mem_of_getElem? (i := 6) rfl)⟩
theorem myX5_goFreely : pm_My mX5_goFreely 1 := ⟨pm_tin8 _ (List.mem_of_getElem? (i := 207) rfl), pm_tin1 _ (List.mem_of_getElem? (i := 12) rfl), nhX5.1, nhX5.2, pd7⟩
theorem viX5_goFreely : pm_Vi mX5_goFreely 5 := ⟨pm_Cl5, rfl, pm_tin8 _ (List.mem_of_getElem? (i := 206) rfl), List.mem_append_left _ (List.mem_of_getElem? (i := 126) rfl)⟩
theorem myX8_floating : pm_My mX8_floating 4 := ⟨pm_tin7 _ (List.mem_of_getElem? (i := 135) rfl), pm_tin1 _ (List.mem_of_getElem? (i := 10) rfl), nhX8.1, nhX8.2, pd57⟩
theorem stX8_floating : pm_St mX8_floating := pm_tin7 _ (List.mem_of_getElem? (i := 134) rfl)
theorem myX9_exportOne : pm_My mX9_exportOne 0 := ⟨pm_tin4 _ (List.mem_of_getElem? (i := 179) rfl), pm_tin1 _ (List.mem_of_getElem? (i := 3) rfl), nhX9.1, nhX9.2, pd10⟩
theorem viX9_exportOne : pm_Vi mX9_exportOne 9 := ⟨pm_Cl9, rfl, pm_tin4 _ (List.mem_of_getElem? (i := 178) rfl), List.mem_append_left _ (List.mem_of_getElem? (i := 14) rfl)⟩
theorem myX9_importOne : pm_My mX9_importOne 0 := ⟨pm_tin4 _ (List.mem_of_getElem? (i := 157) rfl), pm_tin1 _ (List.mem_of_getElem? (i := 3) rfl), nhX9.1, nhX9.2, pd10⟩
theorem viX9_importOne : pm_Vi mX9_importOne 9 := ⟨pm_Cl9, rfl, pm_tin4 _ (List.mem_of_getElem? (i := 156) rfl), List.mem_append_left _ (List.mem_of_getElem? (i := 10) rfl)⟩
theorem myX9_instruction : pm_My mX9_instruction 0 := ⟨pm_tin4 _ (List.mem_of_getElem? (i := 199) rfl), pm_tin1 _ (List.mem_of_getElem? (i := 3) rfl), nhX9.1, nhX9.2, pd10⟩
theorem viX9_instruction : pm_Vi mX9_instruction 9 := ⟨pm_Cl9, rfl, pm_tin4 _ (List.mem_of_getElem? (i := 197) rfl), pm_tin4 _ (List.mem_of_getElem? (i := 198) rfl)⟩
theorem myX10_constant : pm_My mX10_constant 1 := ⟨pm_tin7 _ (List.mem_of_getElem? (i := 36) rfl), pm_tin1 _ (List.mem_of_getElem? (i := 7) rfl), nhX10.1, nhX10.2, pd89⟩
theorem viX10_constant : pm_Vi mX10_constant 10 := ⟨pm_Cl10, rfl, pm_tin7 _ (List.mem_of_getElem? (i := 35) rfl), List.mem_append_left _ (List.mem_of_getElem? (i := 89) rfl)⟩
theorem myX1_constant : pm_My mX1_constant 1 := ⟨pm_tin5 _ (List.mem_of_getElem? (i := 102) rfl), pm_tin1 _ (List.mem_of_getElem? (i := 4) rfl), nhX1.1, nhX1.2, pd7⟩
theorem viX1_constant : pm_Vi mX1_constant 1 := ⟨pm_Cl1, rfl, pm_tin5 _ (List.mem_of_getElem? (i := 101) rfl), List.mem_append_left _ (List.mem_of_getElem? (i := 36) rfl)⟩
theorem myX1_dataAreRight : pm_My mX1_dataAreRight 0 := ⟨pm_tin5 _ (List.mem_of_getElem? (i := 120) rfl), pm_tin1 _ (List.mem_of_getElem? (i := 4) rfl), nhX1.1, nhX1.2, pd10⟩
theorem viX1_dataAreRight : pm_Vi mX1_dataAreRight 1 := ⟨pm_Cl1, rfl, pm_tin5 _ (List.mem_of_getElem? (i := 119) rfl), List.mem_append_left _ (List.mem_of_getElem? (i := 40) rfl)⟩
theorem myX1_elementsAreRight : pm_My mX1_elementsAreRight 0 := ⟨pm_tin5 _ (List.mem_of_getElem? (i := 115) rfl), pm_tin1 _ (List.mem_of_getElem? (i := 4) rfl), nhX1.1, nhX1.2, pd10⟩
theorem viX1_elementsAreRight : pm_Vi mX1_elementsAreRight 1 := ⟨pm_Cl1, rfl, pm_tin5 _ (List.mem_of_getElem? (i := 114) rfl), List.mem_append_left _ (List.mem_of_getElem? (i := 39) rfl)⟩
theorem myX1_globalsAreRight : pm_My mX1_globalsAreRight 0 := ⟨pm_tin5 _ (List.mem_of_getElem? (i := 97) rfl), pm_tin1 _ (List.mem_of_getElem? (i := 4) rfl), nhX1.1, nhX1.2, pd10⟩
theorem viX1_globalsAreRight : pm_Vi mX1_globalsAreRight 1 := ⟨pm_Cl1, rfl, pm_tin5 _ (List.mem_of_getElem? (i := 96) rfl), List.mem_append_left _ (List.mem_of_getElem? (i := 35) rfl)⟩
theorem myX9_expression : pm_My mX9_expression 0 := ⟨pm_tin4 _ (List.mem_of_getElem? (i := 195) rfl), pm_tin1 _ (List.mem_of_getElem? (i := 3) rfl), nhX9.1, nhX9.2, pd10⟩
theorem viX9_expression : pm_Vi mX9_expression 9 := ⟨pm_Cl9, rfl, pm_tin4 _ (List.mem_of_getElem? (i := 194) rfl), List.mem_append_left _ (List.mem_of_getElem? (i := 16) rfl)⟩
theorem myX9_own : pm_My mX9_own 1 := ⟨pm_tin5 _ (List.mem_of_getElem? (i := 2) rfl), pm_tin1 _ (List.mem_of_getElem? (i := 3) rfl), nhX9.1, nhX9.2, pd7⟩
theorem viX9_own : pm_Vi mX9_own 9 := ⟨pm_Cl9, rfl, pm_tin5 _ (List.mem_of_getElem? (i := 1) rfl), List.mem_append_left _ (List.mem_of_getElem? (i := 24) rfl)⟩
theorem myX10_addGlobal : pm_My mX10_addGlobal 2 := ⟨pm_tin7 _ (List.mem_of_getElem? (i := 31) rfl), pm_tin1 _ (List.mem_of_getElem? (i := 7) rfl), nhX10.1, nhX10.2, pd90⟩
theorem viX10_addGlobal : pm_Vi mX10_addGlobal 10 := ⟨pm_Cl10, rfl, pm_tin7 _ (List.mem_of_getElem? (i := 30) rfl), List.mem_append_left _ (List.mem_of_getElem? (i := 88) rfl)⟩
theorem myX9_body : pm_My mX9_body 0 := ⟨pm_tin4 _ (List.mem_of_getElem? (i := 233) rfl), pm_tin1 _ (List.mem_of_getElem? (i := 3) rfl), nhX9.1, nhX9.2, pd10⟩
theorem viX9_body : pm_Vi mX9_body 9 := ⟨pm_Cl9, rfl, pm_tin4 _ (List.mem_of_getElem? (i := 232) rfl), List.mem_append_left _ (List.mem_of_getElem? (i := 22) rfl)⟩
theorem myX9_dataOne : pm_My mX9_dataOne 0 := ⟨pm_tin4 _ (List.mem_of_getElem? (i := 238) rfl), pm_tin1 _ (List.mem_of_getElem? (i := 3) rfl), nhX9.1, nhX9.2, pd10⟩
theorem viX9_dataOne : pm_Vi mX9_dataOne 9 := ⟨pm_Cl9, rfl, pm_tin4 _ (List.mem_of_getElem? (i := 237) rfl), List.mem_append_left _ (List.mem_of_getElem? (i := 23) rfl)⟩
theorem myX9_element : pm_My mX9_element 0 := ⟨pm_tin4 _ (List.mem_of_getElem? (i := 188) rfl), pm_tin1 _ (List.mem_of_getElem? (i := 3) rfl), nhX9.1, nhX9.2, pd10⟩
theorem viX9_element : pm_Vi mX9_element 9 := ⟨pm_Cl9, rfl, pm_tin4 _ (List.mem_of_getElem? (i := 187) rfl), List.mem_append_left _ (List.mem_of_getElem? (i := 15) rfl)⟩
theorem lnX1_170 : pm_Ln RX1 170 mX9_open := Or.inl (pm_tin5 _ (List.mem_of_getElem? (i := 98) rfl))
theorem lnX1_174 : pm_Ln RX1 174 mX1_constant := Or.inl (pm_tin5 _ (List.mem_of_getElem? (i := 99) rfl))
theorem lnX1_181 : pm_Ln RX1 181 mX9_number := Or.inl (pm_tin5 _ (List.mem_of_getElem? (i := 116) rfl))
theorem lnX1_188 : pm_Ln RX1 188 mX9_instruction := Or.inl (pm_tin5 _ (List.mem_of_getElem? (i := 103) rfl))
theorem lnX1_194 : pm_Ln RX1 194 mX1_constantType := Or.inl (pm_tin5 _ (List.mem_of_getElem? (i := 104) rfl))
theorem lnX1_275 : pm_Ln RX1 275 mX9_next := Or.inl (pm_tin5 _ (List.mem_of_getElem? (i := 135) rfl))
theorem lnX5_88 : pm_Ln RX5 88 mX12_item := Or.inr ⟨"ModuleEngine", pm_tin8 _ (List.mem_of_getElem? (i := 77) rfl)⟩
theorem lnX5_164 : pm_Ln RX5 164 mX5_leave := Or.inl (pm_tin8 _ (List.mem_of_getElem? (i := 208) rfl))
theorem lnX5_170 : pm_Ln RX5 170 mX10_bodyOf := Or.inl (pm_tin8 _ (List.mem_of_getElem? (i := 88) rfl))
theorem lnX5_177 : pm_Ln RX5 177 mX10_hostNumber := Or.inl (pm_tin8 _ (List.mem_of_getElem? (i := 89) rfl))
theorem lnX5_181 : pm_Ln RX5 181 mX5_tell := Or.inl (pm_tin8 _ (List.mem_of_getElem? (i := 93) rfl))
theorem lnX5_190 : pm_Ln RX5 190 mX10_homeOf := Or.inl (pm_tin8 _ (List.mem_of_getElem? (i := 97) rfl))
theorem lnX5_204 : pm_Ln RX5 204 mX10_countFrame := Or.inl (pm_tin8 _ (List.mem_of_getElem? (i := 101) rfl))
theorem lnX5_208 : pm_Ln RX5 208 mX12_move := Or.inr ⟨"ModuleEngine", pm_tin8 _ (List.mem_of_getElem? (i := 105) rfl)⟩
theorem lnX5_212 : pm_Ln RX5 212 mX5_clearLocals := Or.inl (pm_tin8 _ (List.mem_of_getElem? (i := 109) rfl))
theorem lnX5_280 : pm_Ln RX5 280 mX5_register := Or.inl (pm_tin8 _ (List.mem_of_getElem? (i := 212) rfl))
theorem lnX6_82 : pm_Ln RX6 82 mX6_leftOfPage := Or.inl (pm_tin8 _ (List.mem_of_getElem? (i := 7) rfl))
theorem lnX6_91 : pm_Ln RX6 91 mJ7_fill_eb02e := Or.inl (pm_tin8 _ (List.mem_of_getElem? (i := 18) rfl))
theorem lnX8_45 : pm_Ln RX8 45 mX8_compareWithoutSign := Or.inl (pm_tin7 _ (List.mem_of_getElem? (i := 63) rfl))
theorem lnX8_132 : pm_Ln RX8 132 mX8_sign := Or.inl (pm_tin7 _ (List.mem_of_getElem? (i := 136) rfl))
theorem lnX8_136 : pm_Ln RX8 136 mX8_none := Or.inl (pm_tin7 _ (List.mem_of_getElem? (i := 139) rfl))
theorem lnX8_139 : pm_Ln RX8 139 mX8_toWholeFloating := Or.inl (pm_tin7 _ (List.mem_of_getElem? (i := 144) rfl))
theorem lnX8_143 : pm_Ln RX8 143 mX8_root := Or.inl (pm_tin7 _ (List.mem_of_getElem? (i := 163) rfl))
theorem lnX8_146 : pm_Ln RX8 146 mX8_add := Or.inl (pm_tin7 _ (List.mem_of_getElem? (i := 167) rfl))
theorem lnX8_149 : pm_Ln RX8 149 mX8_multiply := Or.inl (pm_tin7 _ (List.mem_of_getElem? (i := 173) rfl))
theorem lnX8_152 : pm_Ln RX8 152 mX8_divide := Or.inl (pm_tin7 _ (List.mem_of_getElem? (i := 182) rfl))
theorem lnX8_155 : pm_Ln RX8 155 mX8_isInfinite := Or.inl (pm_tin7 _ (List.mem_of_getElem? (i := 147) rfl))
theorem lnX8_158 : pm_Ln RX8 158 mX8_scale := Or.inl (pm_tin7 _ (List.mem_of_getElem? (i := 150) rfl))
theorem lnX8_162 : pm_Ln RX8 162 mX8_isMinus := Or.inl (pm_tin7 _ (List.mem_of_getElem? (i := 154) rfl))
theorem lnX8_165 : pm_Ln RX8 165 mX8_significand := Or.inl (pm_tin7 _ (List.mem_of_getElem? (i := 157) rfl))
theorem lnX8_168 : pm_Ln RX8 168 mX8_round := Or.inl (pm_tin7 _ (List.mem_of_getElem? (i := 160) rfl))
theorem lnX8_178 : pm_Ln RX8 178 mX8_infinite := Or.inl (pm_tin7 _ (List.mem_of_getElem? (i := 176) rfl))
theorem lnX8_196 : pm_Ln RX8 196 mX8_fromWhole := Or.inl (pm_tin7 _ (List.mem_of_getElem? (i := 198) rfl))
theorem lnX8_200 : pm_Ln RX8 200 mX8_resized := Or.inl (pm_tin7 _ (List.mem_of_getElem? (i := 201) rfl))
theorem lnX9_95 : pm_Ln RX9 95 mX9_endsNumber := Or.inl (pm_tin4 _ (List.mem_of_getElem? (i := 79) rfl))
theorem lnX9_145 : pm_Ln RX9 145 mX9_number := Or.inl (pm_tin4 _ (List.mem_of_getElem? (i := 72) rfl))
theorem lnX9_152 : pm_Ln RX9 152 mX12_setItem := Or.inr ⟨"ModuleEngine", pm_tin4 _ (List.mem_of_getElem? (i := 83) rfl)⟩
theorem lnX9_156 : pm_Ln RX9 156 mX9_name := Or.inl (pm_tin4 _ (List.mem_of_getElem? (i := 86) rfl))
theorem lnX9_159 : pm_Ln RX9 159 mX9_skip := Or.inl (pm_tin4 _ (List.mem_of_getElem? (i := 90) rfl))
theorem lnX9_175 : pm_Ln RX9 175 mX9_exceedLimit := Or.inl (pm_tin4 _ (List.mem_of_getElem? (i := 108) rfl))
theorem lnX9_188 : pm_Ln RX9 188 mX7_space := Or.inl (pm_tin4 _ (List.mem_of_getElem? (i := 119) rfl))
theorem lnX9_219 : pm_Ln RX9 219 mX9_valueType := Or.inl (pm_tin4 _ (List.mem_of_getElem? (i := 138) rfl))
theorem lnX9_228 : pm_Ln RX9 228 mX9_nextUpTo := Or.inl (pm_tin4 _ (List.mem_of_getElem? (i := 158) rfl))
theorem lnX9_231 : pm_Ln RX9 231 mX9_describe := Or.inl (pm_tin4 _ (List.mem_of_getElem? (i := 162) rfl))
theorem lnX9_238 : pm_Ln RX9 238 mX12_setItem_ := Or.inr ⟨"ModuleEngine", pm_tin4 _ (List.mem_of_getElem? (i := 166) rfl)⟩
theorem lnX9_241 : pm_Ln RX9 241 mX9_expression := Or.inl (pm_tin4 _ (List.mem_of_getElem? (i := 192) rfl))
theorem lnX9_244 : pm_Ln RX9 244 mX9_referenceType := Or.inl (pm_tin4 _ (List.mem_of_getElem? (i := 169) rfl))
theorem lnX9_247 : pm_Ln RX9 247 mX12_index := Or.inr ⟨"ModuleEngine", pm_tin4 _ (List.mem_of_getElem? (i := 180) rfl)⟩
theorem lnX9_261 : pm_Ln RX9 261 mX9_characterLength := Or.inl (pm_tin4 _ (List.mem_of_getElem? (i := 94) rfl))
theorem lnX9_270 : pm_Ln RX9 270 mX9_instruction := Or.inl (pm_tin4 _ (List.mem_of_getElem? (i := 196) rfl))
theorem lnX9_285 : pm_Ln RX9 285 mX9_blockType := Or.inl (pm_tin4 _ (List.mem_of_getElem? (i := 200) rfl))
theorem lnX9_289 : pm_Ln RX9 289 mX9_labels := Or.inl (pm_tin4 _ (List.mem_of_getElem? (i := 205) rfl))
theorem lnX9_292 : pm_Ln RX9 292 mX9_selected := Or.inl (pm_tin4 _ (List.mem_of_getElem? (i := 210) rfl))
theorem lnX9_295 : pm_Ln RX9 295 mX9_lowestFirst := Or.inl (pm_tin4 _ (List.mem_of_getElem? (i := 215) rfl))
theorem lnX9_298 : pm_Ln RX9 298 mX9_longInstruction := Or.inl (pm_tin4 _ (List.mem_of_getElem? (i := 219) rfl))
theorem lnX10_184 : pm_Ln RX10 184 mX12_setItem := Or.inr ⟨"ModuleEngine", pm_tin6 _ (List.mem_of_getElem? (i := 227) rfl)⟩
theorem lnX10_226 : pm_Ln RX10 226 mX9_open := Or.inl (pm_tin7 _ (List.mem_of_getElem? (i := 32) rfl))
theorem lnX10_232 : pm_Ln RX10 232 mX10_constant := Or.inl (pm_tin7 _ (List.mem_of_getElem? (i := 33) rfl))
theorem lnX10_240 : pm_Ln RX10 240 mX12_index := Or.inr ⟨"ModuleEngine", pm_tin7 _ (List.mem_of_getElem? (i := 38) rfl)⟩
theorem lnX10_247 : pm_Ln RX10 247 mX9_instruction := Or.inl (pm_tin7 _ (List.mem_of_getElem? (i := 37) rfl))
theorem lnX10_298 : pm_Ln RX10 298 mX6_reaches := Or.inl (pm_tin7 _ (List.mem_of_getElem? (i := 211) rfl))
theorem lnX10_310 : pm_Ln RX10 310 mX6_copy := Or.inl (pm_tin8 _ (List.mem_of_getElem? (i := 3) rfl))
theorem lnX10_314 : pm_Ln RX10 314 mX6_fill := Or.inl (pm_tin8 _ (List.mem_of_getElem? (i := 14) rfl))
theorem lnX10_322 : pm_Ln RX10 322 mX6_setByte := Or.inl (pm_tin8 _ (List.mem_of_getElem? (i := 21) rfl))
theorem lnX11_73 : pm_Ln RX11 73 mJ7_fill_fda19 := Or.inl (pm_tin7 _ (List.mem_of_getElem? (i := 8) rfl))
theorem lnJ7_13 : pm_Ln RJ7 13 mJ7_rangeCheck_23922 := Or.inl (pm_tin7 _ (List.mem_of_getElem? (i := 11) rfl))
theorem flX1_25 : pm_F RX1 25 1 13 := ⟨pm_Cl1, by decide, Or.inl (pm_tin2 _ (List.mem_of_getElem? (i := 46) rfl))⟩
theorem flX1_251 : pm_F RX1 251 1 14 := ⟨pm_Cl1, by decide, Or.inl (pm_tin2 _ (List.mem_of_getElem? (i := 47) rfl))⟩
theorem flX1_263 : pm_F RX1 263 0 0 := ⟨pm_Cl0, by decide, Or.inl (pm_tin1 _ (List.mem_of_getElem? (i := 229) rfl))⟩
theorem flX1_270 : pm_F RX1 270 9 3 := ⟨pm_Cl9, by decide, Or.inl (pm_tin1 _ (List.mem_of_getElem? (i := 146) rfl))⟩
theorem flX5_20 : pm_F RX5 20 5 11 := ⟨pm_Cl5, by decide, Or.inl (pm_tin3 _ (List.mem_of_getElem? (i := 166) rfl))⟩
theorem flX5_24 : pm_F RX5 24 5 8 := ⟨pm_Cl5, by decide, Or.inl (pm_tin3 _ (List.mem_of_getElem? (i := 163) rfl))⟩
theorem flX5_112 : pm_F RX5 112 5 4 := ⟨pm_Cl5, by decide, Or.inl (pm_tin3 _ (List.mem_of_getElem? (i := 155) rfl))⟩
theorem flX5_128 : pm_F RX5 128 3 3 := ⟨pm_Cl3, by decide, Or.inl (pm_tin3 _ (List.mem_of_getElem? (i := 125) rfl))⟩
theorem flX5_174 : pm_F RX5 174 0 0 := ⟨pm_Cl0, by decide, Or.inl (pm_tin1 _ (List.mem_of_getElem? (i := 228) rfl))⟩
theorem flX5_184 : pm_F RX5 184 0 3 := ⟨pm_Cl0, by decide, Or.inl (pm_tin1 _ (List.mem_of_getElem? (i := 237) rfl))⟩
theorem flX5_187 : pm_F RX5 187 0 4 := ⟨pm_Cl0, by decide, Or.inl (pm_tin1 _ (List.mem_of_getElem? (i := 239) rfl))⟩
theorem flX5_193 : pm_F RX5 193 3 0 := ⟨pm_Cl3, by decide, Or.inl (pm_tin3 _ (List.mem_of_getElem? (i := 120) rfl))⟩
theorem flX5_197 : pm_F RX5 197 0 1 := ⟨pm_Cl0, by decide, Or.inl (pm_tin1 _ (List.mem_of_getElem? (i := 232) rfl))⟩
theorem flX5_201 : pm_F RX5 201 5 5 := ⟨pm_Cl5, by decide, Or.inl (pm_tin3 _ (List.mem_of_getElem? (i := 157) rfl))⟩
theorem flX9_9 : pm_F RX9 9 9 17 := ⟨pm_Cl9, by decide, Or.inl (pm_tin1 _ (List.mem_of_getElem? (i := 168) rfl))⟩
theorem flX9_133 : pm_F RX9 133 9 15 := ⟨pm_Cl9, by decide, Or.inl (pm_tin1 _ (List.mem_of_getElem? (i := 166) rfl))⟩
theorem flX9_185 : pm_F RX9 185 9 13 := ⟨pm_Cl9, by decide, Or.inl (pm_tin1 _ (List.mem_of_getElem? (i := 164) rfl))⟩
theorem flX9_207 : pm_F RX9 207 7 3 := ⟨pm_Cl7, by decide, Or.inl (pm_tin1 _ (List.mem_of_getElem? (i := 65) rfl))⟩
theorem flX9_211 : pm_F RX9 211 7 8 := ⟨pm_Cl7, by decide, Or.inl (pm_tin1 _ (List.mem_of_getElem? (i := 76) rfl))⟩
theorem flX9_214 : pm_F RX9 214 7 9 := ⟨pm_Cl7, by decide, Or.inl (pm_tin1 _ (List.mem_of_getElem? (i := 81) rfl))⟩
theorem flX9_235 : pm_F RX9 235 7 7 := ⟨pm_Cl7, by decide, Or.inl (pm_tin1 _ (List.mem_of_getElem? (i := 72) rfl))⟩
theorem flX9_273 : pm_F RX9 273 9 6 := ⟨pm_Cl9, by decide, Or.inl (pm_tin1 _ (List.mem_of_getElem? (i := 153) rfl))⟩
theorem flX9_276 : pm_F RX9 276 9 7 := ⟨pm_Cl9, by decide, Or.inl (pm_tin1 _ (List.mem_of_getElem? (i := 155) rfl))⟩
theorem flX9_279 : pm_F RX9 279 9 8 := ⟨pm_Cl9, by decide, Or.inl (pm_tin1 _ (List.mem_of_getElem? (i := 158) rfl))⟩
theorem flX9_282 : pm_F RX9 282 9 9 := ⟨pm_Cl9, by decide, Or.inl (pm_tin1 _ (List.mem_of_getElem? (i := 159) rfl))⟩
theorem flX10_25 : pm_F RX10 25 10 6 := ⟨pm_Cl10, by decide, Or.inl (pm_tin2 _ (List.mem_of_getElem? (i := 236) rfl))⟩
theorem flX10_29 : pm_F RX10 29 10 7 := ⟨pm_Cl10, by decide, Or.inl (pm_tin2 _ (List.mem_of_getElem? (i := 238) rfl))⟩
theorem flX10_33 : pm_F RX10 33 10 8 := ⟨pm_Cl10, by decide, Or.inl (pm_tin3 _ (List.mem_of_getElem? (i := 0) rfl))⟩
theorem flX10_72 : pm_F RX10 72 10 18 := ⟨pm_Cl10, by decide, Or.inl (pm_tin3 _ (List.mem_of_getElem? (i := 10) rfl))⟩
theorem flX10_188 : pm_F RX10 188 4 1 := ⟨pm_Cl4, by decide, Or.inl (pm_tin2 _ (List.mem_of_getElem? (i := 190) rfl))⟩
theorem flX10_197 : pm_F RX10 197 4 3 := ⟨pm_Cl4, by decide, Or.inl (pm_tin2 _ (List.mem_of_getElem? (i := 196) rfl))⟩
theorem flX10_202 : pm_F RX10 202 4 4 := ⟨pm_Cl4, by decide, Or.inl (pm_tin2 _ (List.mem_of_getElem? (i := 198) rfl))⟩
theorem flX10_216 : pm_F RX10 216 4 7 := ⟨pm_Cl4, by decide, Or.inl (pm_tin2 _ (List.mem_of_getElem? (i := 204) rfl))⟩
theorem flX10_219 : pm_F RX10 219 7 10 := ⟨pm_Cl7, by decide, Or.inl (pm_tin1 _ (List.mem_of_getElem? (i := 85) rfl))⟩
theorem flX10_222 : pm_F RX10 222 4 0 := ⟨pm_Cl4, by decide, Or.inl (pm_tin2 _ (List.mem_of_getElem? (i := 186) rfl))⟩
theorem flX10_250 : pm_F RX10 250 9 6 := ⟨pm_Cl9, by decide, Or.inl (pm_tin1 _ (List.mem_of_getElem? (i := 152) rfl))⟩
theorem flX10_253 : pm_F RX10 253 9 8 := ⟨pm_Cl9, by decide, Or.inl (pm_tin1 _ (List.mem_of_getElem? (i := 157) rfl))⟩
theorem flX10_318 : pm_F RX10 318 7 0 := ⟨pm_Cl7, by decide, Or.inl (pm_tin1 _ (List.mem_of_getElem? (i := 55) rfl))⟩
theorem cnX8_172 : Cond.constantLong RX8 172 3 ∈ lw_tbl := pm_tin7 _ (List.mem_of_getElem? (i := 166) rfl)
theorem cnX8_181 : Cond.constantLong RX8 181 134217727 ∈ lw_tbl := pm_tin7 _ (List.mem_of_getElem? (i := 179) rfl)
theorem cnX8_183 : Cond.constantLong RX8 183 18014398509481983 ∈ lw_tbl := pm_tin7 _ (List.mem_of_getElem? (i := 180) rfl)
theorem cnX8_185 : Cond.constantLong RX8 185 17592186044415 ∈ lw_tbl := pm_tin7 _ (List.mem_of_getElem? (i := 181) rfl)
theorem cnX9_99 : Cond.constantLong RX9 99 (-1) ∈ lw_tbl := pm_tin4 _ (List.mem_of_getElem? (i := 82) rfl)
theorem cnX9_251 : Cond.constantLong RX9 251 7 ∈ lw_tbl := pm_tin4 _ (List.mem_of_getElem? (i := 189) rfl)
theorem cnX9_253 : Cond.constantLong RX9 253 4 ∈ lw_tbl := pm_tin4 _ (List.mem_of_getElem? (i := 190) rfl)
theorem cnX9_255 : Cond.constantLong RX9 255 2 ∈ lw_tbl := pm_tin4 _ (List.mem_of_getElem? (i := 191) rfl)
theorem cnX9_257 : Cond.constantLong RX9 257 4294967295 ∈ lw_tbl := pm_tin4 _ (List.mem_of_getElem? (i := 214) rfl)
theorem cnX9_259 : Cond.constantLong RX9 259 1000 ∈ lw_tbl := pm_tin4 _ (List.mem_of_getElem? (i := 234) rfl)
theorem cnX9_301 : Cond.constantLong RX9 301 (-64) ∈ lw_tbl := pm_tin4 _ (List.mem_of_getElem? (i := 204) rfl)
theorem cnX9_303 : Cond.constantLong RX9 303 200 ∈ lw_tbl := pm_tin4 _ (List.mem_of_getElem? (i := 209) rfl)
theorem cnX9_305 : Cond.constantLong RX9 305 17 ∈ lw_tbl := pm_tin4 _ (List.mem_of_getElem? (i := 223) rfl)
theorem cnX9_307 : Cond.constantLong RX9 307 8 ∈ lw_tbl := pm_tin4 _ (List.mem_of_getElem? (i := 224) rfl)
theorem cnX9_309 : Cond.constantLong RX9 309 9 ∈ lw_tbl := pm_tin4 _ (List.mem_of_getElem? (i := 225) rfl)
theorem cnX9_311 : Cond.constantLong RX9 311 10 ∈ lw_tbl := pm_tin4 _ (List.mem_of_getElem? (i := 226) rfl)
theorem cnX9_313 : Cond.constantLong RX9 313 11 ∈ lw_tbl := pm_tin4 _ (List.mem_of_getElem? (i := 227) rfl)
theorem cnX9_315 : Cond.constantLong RX9 315 12 ∈ lw_tbl := pm_tin4 _ (List.mem_of_getElem? (i := 228) rfl)
theorem cnX9_317 : Cond.constantLong RX9 317 14 ∈ lw_tbl := pm_tin4 _ (List.mem_of_getElem? (i := 229) rfl)
theorem cnX10_257 : Cond.constantLong RX10 257 (-1) ∈ lw_tbl := pm_tin7 _ (List.mem_of_getElem? (i := 39) rfl)
theorem acX12_298 : pm_AcW RX12 298 := ⟨pm_tin8 _ (List.mem_of_getElem? (i := 108) rfl), pm_tin4 _ (List.mem_of_getElem? (i := 38) rfl), pm_tin4 _ (List.mem_of_getElem? (i := 37) rfl), pm_tin1 _ (List.mem_of_getElem? (i := 22) rfl)⟩
theorem acX6_100 : pm_AcW RX6 100 := ⟨pm_tin8 _ (List.mem_of_getElem? (i := 13) rfl), pm_tin4 _ (List.mem_of_getElem? (i := 38) rfl), pm_tin4 _ (List.mem_of_getElem? (i := 37) rfl), pm_tin1 _ (List.mem_of_getElem? (i := 22) rfl)⟩
theorem mtX1_271 : Cond.methodLink RX1 271 Lib.MathLoose.min_long.x ∈ lw_tbl := pm_tin5 _ (List.mem_of_getElem? (i := 134) rfl)
theorem mtX1_278 : Cond.methodLink RX1 278 Lib.Math.min.name ∈ lw_tbl := pm_tin5 _ (List.mem_of_getElem? (i := 136) rfl)
theorem mtX6_85 : Cond.methodLink RX6 85 Lib.MathLoose.min_long.x ∈ lw_tbl := pm_tin8 _ (List.mem_of_getElem? (i := 12) rfl)
theorem mtX6_97 : Cond.methodLink RX6 97 Lib.Math.min.name ∈ lw_tbl := pm_tin8 _ (List.mem_of_getElem? (i := 11) rfl)
theorem mtX8_13 : Cond.methodLink RX8 13 Lib.Math.min.name ∈ lw_tbl := pm_tin6 _ (List.mem_of_getElem? (i := 120) rfl)
theorem mtX8_129 : Cond.methodLink RX8 129 Lib.Math.max.name ∈ lw_tbl := pm_tin7 _ (List.mem_of_getElem? (i := 153) rfl)
theorem mtX8_174 : Cond.methodLink RX8 174 Lib.MathLoose.abs_long.x ∈ lw_tbl := pm_tin7 _ (List.mem_of_getElem? (i := 170) rfl)
theorem mtX8_187 : Cond.methodLink RX8 187 Lib.MathLoose.max_long.x ∈ lw_tbl := pm_tin7 _ (List.mem_of_getElem? (i := 185) rfl)
theorem mtX9_90 : Cond.methodLink RX9 90 Lib.Math.abs.name ∈ lw_tbl := pm_tin4 _ (List.mem_of_getElem? (i := 76) rfl)
theorem mtX9_264 : Cond.methodLink RX9 264 Lib.Math.max.name ∈ lw_tbl := pm_tin4 _ (List.mem_of_getElem? (i := 102) rfl)
