theorem pd78 : (parseMethodDescriptor "(IIZ)V").map (fun d => d.parameters.length) = some 3 := by decide +kernel
abbrev mX16_stops : pm_M := (yX16_stops, cX16_stops, 3, none, 0, 0)
abbrev mX16_take : pm_M := (yX16_take, cX16_take, 4, (some .int), 1, 22)
abbrev mX16_takeParameters : pm_M := (yX16_takeParameters, cX16_takeParameters, 5, none, 2, 45)
abbrev mX16_takeResults : pm_M := (yX16_takeResults, cX16_takeResults, 5, none, 2, 45)
abbrev mX16_takeWanted : pm_M := (yX16_takeWanted, cX16_takeWanted, 4, none, 2, 46)
abbrev mX16_takes : pm_M := (yX16_takes, cX16_takes, 5, none, 2, 45)
abbrev mX16_begins : pm_M := (yX16_begins, cX16_begins, 4, none, 1, 22)
abbrev mX16_character : pm_M := (yX16_character, cX16_character, 8, (some .int), 1, 22)
abbrev mX16_checksExports : pm_M := (yX16_checksExports, cX16_checksExports, 3, none, 2, 46)
abbrev mX16_checksLimits : pm_M := (yX16_checksLimits, cX16_checksLimits, 3, none, 1, 24)
abbrev mX16_checksTypes : pm_M := (yX16_checksTypes, cX16_checksTypes, 2, none, 1, 22)
abbrev mX16_constantly : pm_M := (yX16_constantly, cX16_constantly, 7, none, 4, 97)
abbrev mX16_next : pm_M := (yX16_next, cX16_next, 1, (some .int), 1, 22)
abbrev mX16_number : pm_M := (yX16_number, cX16_number, 5, (some .long), 2, 42)
abbrev mX16_put : pm_M := (yX16_put, cX16_put, 2, none, 1, 22)
abbrev mX16_putParameters : pm_M := (yX16_putParameters, cX16_putParameters, 4, none, 2, 43)
abbrev mX16_putResults : pm_M := (yX16_putResults, cX16_putResults, 4, none, 2, 43)
abbrev mX16_readsFunctions : pm_M := (yX16_readsFunctions, cX16_readsFunctions, 7, none, 3, 66)
abbrev mX16_referenceType : pm_M := (yX16_referenceType, cX16_referenceType, 2, (some .int), 2, 42)
abbrev mX16_selects : pm_M := (yX16_selects, cX16_selects, 4, none, 3, 69)
abbrev mX16_signed : pm_M := (yX16_signed, cX16_signed, 10, (some .long), 2, 42)
abbrev mX16_small : pm_M := (yX16_small, cX16_small, 3, (some .int), 2, 42)
abbrev mX16_type : pm_M := (yX16_type, cX16_type, 2, (some .int), 2, 42)
abbrev mX16_typeRow : pm_M := (yX16_typeRow, cX16_typeRow, 7, (some .int), 3, 66)
abbrev mX16_accesses : pm_M := (yX16_accesses, cX16_accesses, 3, none, 3, 69)
abbrev mX16_blockType : pm_M := (yX16_blockType, cX16_blockType, 3, none, 3, 71)
abbrev mX16_checksElement : pm_M := (yX16_checksElement, cX16_checksElement, 5, none, 5, 123)
abbrev mX16_chooses : pm_M := (yX16_chooses, cX16_chooses, 8, none, 3, 69)
abbrev mX16_ends : pm_M := (yX16_ends, cX16_ends, 7, none, 3, 69)
abbrev mX16_further : pm_M := (yX16_further, cX16_further, 6, none, 3, 66)
abbrev mX16_limits : pm_M := (yX16_limits, cX16_limits, 2, none, 3, 66)
abbrev mX16_name : pm_M := (yX16_name, cX16_name, 6, none, 3, 66)
abbrev mX16_names : pm_M := (yX16_names, cX16_names, 5, none, 3, 79)
abbrev mX16_operands : pm_M := (yX16_operands, cX16_operands, 10, none, 4, 91)
abbrev mX16_operates : pm_M := (yX16_operates, cX16_operates, 2, none, 3, 69)
abbrev mX16_readsExports : pm_M := (yX16_readsExports, cX16_readsExports, 10, none, 4, 91)
abbrev mX16_readsImports : pm_M := (yX16_readsImports, cX16_readsImports, 10, none, 4, 91)
abbrev mX16_readsMemories : pm_M := (yX16_readsMemories, cX16_readsMemories, 5, none, 4, 87)
abbrev mX16_readsTables : pm_M := (yX16_readsTables, cX16_readsTables, 6, none, 4, 87)
abbrev mX16_readsTypes : pm_M := (yX16_readsTypes, cX16_readsTypes, 9, none, 4, 92)
abbrev mX16_controls : pm_M := (yX16_controls, cX16_controls, 12, none, 4, 96)
abbrev mX16_expression : pm_M := (yX16_expression, cX16_expression, 5, none, 5, 120)
abbrev mX16_furthers : pm_M := (yX16_furthers, cX16_furthers, 3, none, 4, 90)
abbrev mX16_goesTogether : pm_M := (yX16_goesTogether, cX16_goesTogether, 3, none, 5, 127)
abbrev mX16_readsBody : pm_M := (yX16_readsBody, cX16_readsBody, 10, none, 6, 144)
abbrev mX16_readsDatas : pm_M := (yX16_readsDatas, cX16_readsDatas, 14, none, 6, 144)
abbrev mX16_readsElement : pm_M := (yX16_readsElement, cX16_readsElement, 10, none, 6, 144)
abbrev mX16_readsElements : pm_M := (yX16_readsElements, cX16_readsElements, 8, none, 7, 173)
abbrev mX16_readsGlobals : pm_M := (yX16_readsGlobals, cX16_readsGlobals, 8, none, 6, 144)
abbrev mX16_checksBody : pm_M := (yX16_checksBody, cX16_checksBody, 5, none, 6, 149)
abbrev mX16_readsBodies : pm_M := (yX16_readsBodies, cX16_readsBodies, 9, none, 7, 173)
abbrev mX16_readsSection : pm_M := (yX16_readsSection, cX16_readsSection, 2, none, 8, 201)
abbrev mX16_checksAll : pm_M := (yX16_checksAll, cX16_checksAll, 3, none, 7, 173)
abbrev mX16_readsAll : pm_M := (yX16_readsAll, cX16_readsAll, 7, none, 9, 222)
theorem myX16_stops : pm_My mX16_stops 2 := ⟨pm_tin12 _ (List.mem_of_getElem? (i := 35) rfl), pm_tin1 _ (List.mem_of_getElem? (i := 15) rfl), nhX16.1, nhX16.2, pd8⟩
theorem viX16_stops : pm_Vi mX16_stops 16 := ⟨pm_Cl16, rfl, pm_tin12 _ (List.mem_of_getElem? (i := 34) rfl), List.mem_append_left _ (List.mem_of_getElem? (i := 141) rfl)⟩
theorem myX16_take : pm_My mX16_take 1 := ⟨pm_tin13 _ (List.mem_of_getElem? (i := 89) rfl), pm_tin1 _ (List.mem_of_getElem? (i := 15) rfl), nhX16.1, nhX16.2, pd0⟩
theorem viX16_take : pm_Vi mX16_take 16 := ⟨pm_Cl16, rfl, pm_tin13 _ (List.mem_of_getElem? (i := 88) rfl), List.mem_append_left _ (List.mem_of_getElem? (i := 193) rfl)⟩
theorem myX16_takeParameters : pm_My mX16_takeParameters 1 := ⟨pm_tin13 _ (List.mem_of_getElem? (i := 108) rfl), pm_tin1 _ (List.mem_of_getElem? (i := 15) rfl), nhX16.1, nhX16.2, pd6⟩
theorem viX16_takeParameters : pm_Vi mX16_takeParameters 16 := ⟨pm_Cl16, rfl, pm_tin13 _ (List.mem_of_getElem? (i := 107) rfl), List.mem_append_left _ (List.mem_of_getElem? (i := 197) rfl)⟩
theorem myX16_takeResults : pm_My mX16_takeResults 1 := ⟨pm_tin13 _ (List.mem_of_getElem? (i := 128) rfl), pm_tin1 _ (List.mem_of_getElem? (i := 15) rfl), nhX16.1, nhX16.2, pd6⟩
theorem viX16_takeResults : pm_Vi mX16_takeResults 16 := ⟨pm_Cl16, rfl, pm_tin13 _ (List.mem_of_getElem? (i := 127) rfl), List.mem_append_left _ (List.mem_of_getElem? (i := 202) rfl)⟩
theorem myX16_takeWanted : pm_My mX16_takeWanted 1 := ⟨pm_tin13 _ (List.mem_of_getElem? (i := 145) rfl), pm_tin1 _ (List.mem_of_getElem? (i := 15) rfl), nhX16.1, nhX16.2, pd7⟩
theorem viX16_takeWanted : pm_Vi mX16_takeWanted 16 := ⟨pm_Cl16, rfl, pm_tin13 _ (List.mem_of_getElem? (i := 144) rfl), List.mem_append_left _ (List.mem_of_getElem? (i := 206) rfl)⟩
theorem myX16_takes : pm_My mX16_takes 2 := ⟨pm_tin13 _ (List.mem_of_getElem? (i := 85) rfl), pm_tin1 _ (List.mem_of_getElem? (i := 15) rfl), nhX16.1, nhX16.2, pd8⟩
theorem viX16_takes : pm_Vi mX16_takes 16 := ⟨pm_Cl16, rfl, pm_tin13 _ (List.mem_of_getElem? (i := 84) rfl), List.mem_append_left _ (List.mem_of_getElem? (i := 192) rfl)⟩
theorem myX16_begins : pm_My mX16_begins 2 := ⟨pm_tin13 _ (List.mem_of_getElem? (i := 56) rfl), pm_tin1 _ (List.mem_of_getElem? (i := 15) rfl), nhX16.1, nhX16.2, pd33⟩
theorem viX16_begins : pm_Vi mX16_begins 16 := ⟨pm_Cl16, rfl, pm_tin13 _ (List.mem_of_getElem? (i := 55) rfl), List.mem_append_left _ (List.mem_of_getElem? (i := 187) rfl)⟩
theorem myX16_character : pm_My mX16_character 2 := ⟨pm_tin12 _ (List.mem_of_getElem? (i := 60) rfl), pm_tin1 _ (List.mem_of_getElem? (i := 15) rfl), nhX16.1, nhX16.2, pd5⟩
theorem viX16_character : pm_Vi mX16_character 16 := ⟨pm_Cl16, rfl, pm_tin12 _ (List.mem_of_getElem? (i := 59) rfl), List.mem_append_left _ (List.mem_of_getElem? (i := 145) rfl)⟩
theorem myX16_checksExports : pm_My mX16_checksExports 0 := ⟨pm_tin12 _ (List.mem_of_getElem? (i := 218) rfl), pm_tin1 _ (List.mem_of_getElem? (i := 15) rfl), nhX16.1, nhX16.2, pd10⟩
theorem viX16_checksExports : pm_Vi mX16_checksExports 16 := ⟨pm_Cl16, rfl, pm_tin12 _ (List.mem_of_getElem? (i := 217) rfl), List.mem_append_left _ (List.mem_of_getElem? (i := 173) rfl)⟩
theorem myX16_checksLimits : pm_My mX16_checksLimits 0 := ⟨pm_tin12 _ (List.mem_of_getElem? (i := 202) rfl), pm_tin1 _ (List.mem_of_getElem? (i := 15) rfl), nhX16.1, nhX16.2, pd10⟩
theorem viX16_checksLimits : pm_Vi mX16_checksLimits 16 := ⟨pm_Cl16, rfl, pm_tin12 _ (List.mem_of_getElem? (i := 201) rfl), List.mem_append_left _ (List.mem_of_getElem? (i := 172) rfl)⟩
theorem myX16_checksTypes : pm_My mX16_checksTypes 0 := ⟨pm_tin12 _ (List.mem_of_getElem? (i := 198) rfl), pm_tin1 _ (List.mem_of_getElem? (i := 15) rfl), nhX16.1, nhX16.2, pd10⟩
theorem viX16_checksTypes : pm_Vi mX16_checksTypes 16 := ⟨pm_Cl16, rfl, pm_tin12 _ (List.mem_of_getElem? (i := 197) rfl), List.mem_append_left _ (List.mem_of_getElem? (i := 171) rfl)⟩
theorem myX16_constantly : pm_My mX16_constantly 2 := ⟨pm_tin13 _ (List.mem_of_getElem? (i := 27) rfl), pm_tin1 _ (List.mem_of_getElem? (i := 15) rfl), nhX16.1, nhX16.2, pd8⟩
theorem viX16_constantly : pm_Vi mX16_constantly 16 := ⟨pm_Cl16, rfl, pm_tin13 _ (List.mem_of_getElem? (i := 26) rfl), List.mem_append_left _ (List.mem_of_getElem? (i := 183) rfl)⟩
theorem myX16_next : pm_My mX16_next 0 := ⟨pm_tin12 _ (List.mem_of_getElem? (i := 31) rfl), pm_tin1 _ (List.mem_of_getElem? (i := 15) rfl), nhX16.1, nhX16.2, pd23⟩
theorem viX16_next : pm_Vi mX16_next 16 := ⟨pm_Cl16, rfl, pm_tin12 _ (List.mem_of_getElem? (i := 30) rfl), List.mem_append_left _ (List.mem_of_getElem? (i := 140) rfl)⟩
theorem myX16_number : pm_My mX16_number 0 := ⟨pm_tin12 _ (List.mem_of_getElem? (i := 48) rfl), pm_tin1 _ (List.mem_of_getElem? (i := 15) rfl), nhX16.1, nhX16.2, pd48⟩
theorem viX16_number : pm_Vi mX16_number 16 := ⟨pm_Cl16, rfl, pm_tin12 _ (List.mem_of_getElem? (i := 47) rfl), List.mem_append_left _ (List.mem_of_getElem? (i := 142) rfl)⟩
theorem myX16_put : pm_My mX16_put 1 := ⟨pm_tin13 _ (List.mem_of_getElem? (i := 96) rfl), pm_tin1 _ (List.mem_of_getElem? (i := 15) rfl), nhX16.1, nhX16.2, pd7⟩
theorem viX16_put : pm_Vi mX16_put 16 := ⟨pm_Cl16, rfl, pm_tin13 _ (List.mem_of_getElem? (i := 95) rfl), List.mem_append_left _ (List.mem_of_getElem? (i := 194) rfl)⟩
theorem myX16_putParameters : pm_My mX16_putParameters 1 := ⟨pm_tin13 _ (List.mem_of_getElem? (i := 120) rfl), pm_tin1 _ (List.mem_of_getElem? (i := 15) rfl), nhX16.1, nhX16.2, pd6⟩
theorem viX16_putParameters : pm_Vi mX16_putParameters 16 := ⟨pm_Cl16, rfl, pm_tin13 _ (List.mem_of_getElem? (i := 119) rfl), List.mem_append_left _ (List.mem_of_getElem? (i := 200) rfl)⟩
theorem myX16_putResults : pm_My mX16_putResults 1 := ⟨pm_tin13 _ (List.mem_of_getElem? (i := 141) rfl), pm_tin1 _ (List.mem_of_getElem? (i := 15) rfl), nhX16.1, nhX16.2, pd6⟩
theorem viX16_putResults : pm_Vi mX16_putResults 16 := ⟨pm_Cl16, rfl, pm_tin13 _ (List.mem_of_getElem? (i := 140) rfl), List.mem_append_left _ (List.mem_of_getElem? (i := 205) rfl)⟩
theorem myX16_readsFunctions : pm_My mX16_readsFunctions 0 := ⟨pm_tin12 _ (List.mem_of_getElem? (i := 113) rfl), pm_tin1 _ (List.mem_of_getElem? (i := 15) rfl), nhX16.1, nhX16.2, pd10⟩
theorem viX16_readsFunctions : pm_Vi mX16_readsFunctions 16 := ⟨pm_Cl16, rfl, pm_tin12 _ (List.mem_of_getElem? (i := 112) rfl), List.mem_append_left _ (List.mem_of_getElem? (i := 155) rfl)⟩
theorem myX16_referenceType : pm_My mX16_referenceType 0 := ⟨pm_tin12 _ (List.mem_of_getElem? (i := 105) rfl), pm_tin1 _ (List.mem_of_getElem? (i := 15) rfl), nhX16.1, nhX16.2, pd23⟩
theorem viX16_referenceType : pm_Vi mX16_referenceType 16 := ⟨pm_Cl16, rfl, pm_tin12 _ (List.mem_of_getElem? (i := 104) rfl), List.mem_append_left _ (List.mem_of_getElem? (i := 153) rfl)⟩
theorem myX16_selects : pm_My mX16_selects 0 := ⟨pm_tin13 _ (List.mem_of_getElem? (i := 161) rfl), pm_tin1 _ (List.mem_of_getElem? (i := 15) rfl), nhX16.1, nhX16.2, pd10⟩
theorem viX16_selects : pm_Vi mX16_selects 16 := ⟨pm_Cl16, rfl, pm_tin13 _ (List.mem_of_getElem? (i := 160) rfl), List.mem_append_left _ (List.mem_of_getElem? (i := 210) rfl)⟩
theorem myX16_signed : pm_My mX16_signed 1 := ⟨pm_tin12 _ (List.mem_of_getElem? (i := 137) rfl), pm_tin1 _ (List.mem_of_getElem? (i := 15) rfl), nhX16.1, nhX16.2, pd20⟩
theorem viX16_signed : pm_Vi mX16_signed 16 := ⟨pm_Cl16, rfl, pm_tin12 _ (List.mem_of_getElem? (i := 136) rfl), List.mem_append_left _ (List.mem_of_getElem? (i := 161) rfl)⟩
theorem myX16_small : pm_My mX16_small 1 := ⟨pm_tin12 _ (List.mem_of_getElem? (i := 100) rfl), pm_tin1 _ (List.mem_of_getElem? (i := 15) rfl), nhX16.1, nhX16.2, pd0⟩
theorem viX16_small : pm_Vi mX16_small 16 := ⟨pm_Cl16, rfl, pm_tin12 _ (List.mem_of_getElem? (i := 99) rfl), List.mem_append_left _ (List.mem_of_getElem? (i := 152) rfl)⟩
theorem myX16_type : pm_My mX16_type 0 := ⟨pm_tin12 _ (List.mem_of_getElem? (i := 86) rfl), pm_tin1 _ (List.mem_of_getElem? (i := 15) rfl), nhX16.1, nhX16.2, pd23⟩
theorem viX16_type : pm_Vi mX16_type 16 := ⟨pm_Cl16, rfl, pm_tin12 _ (List.mem_of_getElem? (i := 85) rfl), List.mem_append_left _ (List.mem_of_getElem? (i := 150) rfl)⟩
theorem myX16_typeRow : pm_My mX16_typeRow 1 := ⟨pm_tin12 _ (List.mem_of_getElem? (i := 81) rfl), pm_tin1 _ (List.mem_of_getElem? (i := 15) rfl), nhX16.1, nhX16.2, pd0⟩
theorem viX16_typeRow : pm_Vi mX16_typeRow 16 := ⟨pm_Cl16, rfl, pm_tin12 _ (List.mem_of_getElem? (i := 80) rfl), List.mem_append_left _ (List.mem_of_getElem? (i := 149) rfl)⟩
theorem myX16_accesses : pm_My mX16_accesses 1 := ⟨pm_tin13 _ (List.mem_of_getElem? (i := 173) rfl), pm_tin1 _ (List.mem_of_getElem? (i := 15) rfl), nhX16.1, nhX16.2, pd7⟩
theorem viX16_accesses : pm_Vi mX16_accesses 16 := ⟨pm_Cl16, rfl, pm_tin13 _ (List.mem_of_getElem? (i := 172) rfl), List.mem_append_left _ (List.mem_of_getElem? (i := 213) rfl)⟩
theorem myX16_blockType : pm_My mX16_blockType 0 := ⟨pm_tin12 _ (List.mem_of_getElem? (i := 133) rfl), pm_tin1 _ (List.mem_of_getElem? (i := 15) rfl), nhX16.1, nhX16.2, pd10⟩
theorem viX16_blockType : pm_Vi mX16_blockType 16 := ⟨pm_Cl16, rfl, pm_tin12 _ (List.mem_of_getElem? (i := 132) rfl), List.mem_append_left _ (List.mem_of_getElem? (i := 160) rfl)⟩
theorem myX16_checksElement : pm_My mX16_checksElement 1 := ⟨pm_tin13 _ (List.mem_of_getElem? (i := 44) rfl), pm_tin1 _ (List.mem_of_getElem? (i := 15) rfl), nhX16.1, nhX16.2, pd7⟩
theorem viX16_checksElement : pm_Vi mX16_checksElement 16 := ⟨pm_Cl16, rfl, pm_tin13 _ (List.mem_of_getElem? (i := 43) rfl), List.mem_append_left _ (List.mem_of_getElem? (i := 185) rfl)⟩
theorem myX16_chooses : pm_My mX16_chooses 0 := ⟨pm_tin13 _ (List.mem_of_getElem? (i := 157) rfl), pm_tin1 _ (List.mem_of_getElem? (i := 15) rfl), nhX16.1, nhX16.2, pd10⟩
theorem viX16_chooses : pm_Vi mX16_chooses 16 := ⟨pm_Cl16, rfl, pm_tin13 _ (List.mem_of_getElem? (i := 156) rfl), List.mem_append_left _ (List.mem_of_getElem? (i := 209) rfl)⟩
theorem myX16_ends : pm_My mX16_ends 1 := ⟨pm_tin13 _ (List.mem_of_getElem? (i := 124) rfl), pm_tin1 _ (List.mem_of_getElem? (i := 15) rfl), nhX16.1, nhX16.2, pd7⟩
theorem viX16_ends : pm_Vi mX16_ends 16 := ⟨pm_Cl16, rfl, pm_tin13 _ (List.mem_of_getElem? (i := 123) rfl), List.mem_append_left _ (List.mem_of_getElem? (i := 201) rfl)⟩
theorem myX16_further : pm_My mX16_further 1 := ⟨pm_tin12 _ (List.mem_of_getElem? (i := 155) rfl), pm_tin1 _ (List.mem_of_getElem? (i := 15) rfl), nhX16.1, nhX16.2, pd7⟩
theorem viX16_further : pm_Vi mX16_further 16 := ⟨pm_Cl16, rfl, pm_tin12 _ (List.mem_of_getElem? (i := 154) rfl), List.mem_append_left _ (List.mem_of_getElem? (i := 163) rfl)⟩
theorem myX16_limits : pm_My mX16_limits 0 := ⟨pm_tin12 _ (List.mem_of_getElem? (i := 109) rfl), pm_tin1 _ (List.mem_of_getElem? (i := 15) rfl), nhX16.1, nhX16.2, pd10⟩
theorem viX16_limits : pm_Vi mX16_limits 16 := ⟨pm_Cl16, rfl, pm_tin12 _ (List.mem_of_getElem? (i := 108) rfl), List.mem_append_left _ (List.mem_of_getElem? (i := 154) rfl)⟩
theorem myX16_name : pm_My mX16_name 0 := ⟨pm_tin12 _ (List.mem_of_getElem? (i := 56) rfl), pm_tin1 _ (List.mem_of_getElem? (i := 15) rfl), nhX16.1, nhX16.2, pd10⟩
theorem viX16_name : pm_Vi mX16_name 16 := ⟨pm_Cl16, rfl, pm_tin12 _ (List.mem_of_getElem? (i := 55) rfl), List.mem_append_left _ (List.mem_of_getElem? (i := 144) rfl)⟩
theorem myX16_names : pm_My mX16_names 1 := ⟨pm_tin13 _ (List.mem_of_getElem? (i := 165) rfl), pm_tin1 _ (List.mem_of_getElem? (i := 15) rfl), nhX16.1, nhX16.2, pd7⟩
theorem viX16_names : pm_Vi mX16_names 16 := ⟨pm_Cl16, rfl, pm_tin13 _ (List.mem_of_getElem? (i := 164) rfl), List.mem_append_left _ (List.mem_of_getElem? (i := 211) rfl)⟩
theorem myX16_operands : pm_My mX16_operands 3 := ⟨pm_tin12 _ (List.mem_of_getElem? (i := 141) rfl), pm_tin1 _ (List.mem_of_getElem? (i := 15) rfl), nhX16.1, nhX16.2, pd78⟩
theorem viX16_operands : pm_Vi mX16_operands 16 := ⟨pm_Cl16, rfl, pm_tin12 _ (List.mem_of_getElem? (i := 140) rfl), List.mem_append_left _ (List.mem_of_getElem? (i := 162) rfl)⟩
theorem myX16_operates : pm_My mX16_operates 1 := ⟨pm_tin13 _ (List.mem_of_getElem? (i := 75) rfl), pm_tin1 _ (List.mem_of_getElem? (i := 15) rfl), nhX16.1, nhX16.2, pd7⟩
theorem viX16_operates : pm_Vi mX16_operates 16 := ⟨pm_Cl16, rfl, pm_tin13 _ (List.mem_of_getElem? (i := 74) rfl), List.mem_append_left _ (List.mem_of_getElem? (i := 191) rfl)⟩
theorem myX16_readsExports : pm_My mX16_readsExports 0 := ⟨pm_tin12 _ (List.mem_of_getElem? (i := 166) rfl), pm_tin1 _ (List.mem_of_getElem? (i := 15) rfl), nhX16.1, nhX16.2, pd10⟩
theorem viX16_readsExports : pm_Vi mX16_readsExports 16 := ⟨pm_Cl16, rfl, pm_tin12 _ (List.mem_of_getElem? (i := 165) rfl), List.mem_append_left _ (List.mem_of_getElem? (i := 164) rfl)⟩
theorem myX16_readsImports : pm_My mX16_readsImports 0 := ⟨pm_tin12 _ (List.mem_of_getElem? (i := 96) rfl), pm_tin1 _ (List.mem_of_getElem? (i := 15) rfl), nhX16.1, nhX16.2, pd10⟩
theorem viX16_readsImports : pm_Vi mX16_readsImports 16 := ⟨pm_Cl16, rfl, pm_tin12 _ (List.mem_of_getElem? (i := 95) rfl), List.mem_append_left _ (List.mem_of_getElem? (i := 151) rfl)⟩
theorem myX16_readsMemories : pm_My mX16_readsMemories 0 := ⟨pm_tin12 _ (List.mem_of_getElem? (i := 121) rfl), pm_tin1 _ (List.mem_of_getElem? (i := 15) rfl), nhX16.1, nhX16.2, pd10⟩
theorem viX16_readsMemories : pm_Vi mX16_readsMemories 16 := ⟨pm_Cl16, rfl, pm_tin12 _ (List.mem_of_getElem? (i := 120) rfl), List.mem_append_left _ (List.mem_of_getElem? (i := 157) rfl)⟩
theorem myX16_readsTables : pm_My mX16_readsTables 0 := ⟨pm_tin12 _ (List.mem_of_getElem? (i := 117) rfl), pm_tin1 _ (List.mem_of_getElem? (i := 15) rfl), nhX16.1, nhX16.2, pd10⟩
theorem viX16_readsTables : pm_Vi mX16_readsTables 16 := ⟨pm_Cl16, rfl, pm_tin12 _ (List.mem_of_getElem? (i := 116) rfl), List.mem_append_left _ (List.mem_of_getElem? (i := 156) rfl)⟩
theorem myX16_readsTypes : pm_My mX16_readsTypes 0 := ⟨pm_tin12 _ (List.mem_of_getElem? (i := 68) rfl), pm_tin1 _ (List.mem_of_getElem? (i := 15) rfl), nhX16.1, nhX16.2, pd10⟩
theorem viX16_readsTypes : pm_Vi mX16_readsTypes 16 := ⟨pm_Cl16, rfl, pm_tin12 _ (List.mem_of_getElem? (i := 67) rfl), List.mem_append_left _ (List.mem_of_getElem? (i := 146) rfl)⟩
theorem myX16_controls : pm_My mX16_controls 1 := ⟨pm_tin13 _ (List.mem_of_getElem? (i := 100) rfl), pm_tin1 _ (List.mem_of_getElem? (i := 15) rfl), nhX16.1, nhX16.2, pd7⟩
theorem viX16_controls : pm_Vi mX16_controls 16 := ⟨pm_Cl16, rfl, pm_tin13 _ (List.mem_of_getElem? (i := 99) rfl), List.mem_append_left _ (List.mem_of_getElem? (i := 195) rfl)⟩
theorem myX16_expression : pm_My mX16_expression 1 := ⟨pm_tin12 _ (List.mem_of_getElem? (i := 129) rfl), pm_tin1 _ (List.mem_of_getElem? (i := 15) rfl), nhX16.1, nhX16.2, pd37⟩
theorem viX16_expression : pm_Vi mX16_expression 16 := ⟨pm_Cl16, rfl, pm_tin12 _ (List.mem_of_getElem? (i := 128) rfl), List.mem_append_left _ (List.mem_of_getElem? (i := 159) rfl)⟩
theorem myX16_furthers : pm_My mX16_furthers 0 := ⟨pm_tin13 _ (List.mem_of_getElem? (i := 180) rfl), pm_tin1 _ (List.mem_of_getElem? (i := 15) rfl), nhX16.1, nhX16.2, pd10⟩
theorem viX16_furthers : pm_Vi mX16_furthers 16 := ⟨pm_Cl16, rfl, pm_tin13 _ (List.mem_of_getElem? (i := 179) rfl), List.mem_append_left _ (List.mem_of_getElem? (i := 214) rfl)⟩
theorem myX16_goesTogether : pm_My mX16_goesTogether 1 := ⟨pm_tin13 _ (List.mem_of_getElem? (i := 71) rfl), pm_tin1 _ (List.mem_of_getElem? (i := 15) rfl), nhX16.1, nhX16.2, pd7⟩
theorem viX16_goesTogether : pm_Vi mX16_goesTogether 16 := ⟨pm_Cl16, rfl, pm_tin13 _ (List.mem_of_getElem? (i := 70) rfl), List.mem_append_left _ (List.mem_of_getElem? (i := 190) rfl)⟩
theorem myX16_readsBody : pm_My mX16_readsBody 1 := ⟨pm_tin12 _ (List.mem_of_getElem? (i := 183) rfl), pm_tin1 _ (List.mem_of_getElem? (i := 15) rfl), nhX16.1, nhX16.2, pd7⟩
theorem viX16_readsBody : pm_Vi mX16_readsBody 16 := ⟨pm_Cl16, rfl, pm_tin12 _ (List.mem_of_getElem? (i := 182) rfl), List.mem_append_left _ (List.mem_of_getElem? (i := 168) rfl)⟩
theorem myX16_readsDatas : pm_My mX16_readsDatas 0 := ⟨pm_tin12 _ (List.mem_of_getElem? (i := 189) rfl), pm_tin1 _ (List.mem_of_getElem? (i := 15) rfl), nhX16.1, nhX16.2, pd10⟩
theorem viX16_readsDatas : pm_Vi mX16_readsDatas 16 := ⟨pm_Cl16, rfl, pm_tin12 _ (List.mem_of_getElem? (i := 188) rfl), List.mem_append_left _ (List.mem_of_getElem? (i := 169) rfl)⟩
theorem myX16_readsElement : pm_My mX16_readsElement 2 := ⟨pm_tin12 _ (List.mem_of_getElem? (i := 175) rfl), pm_tin1 _ (List.mem_of_getElem? (i := 15) rfl), nhX16.1, nhX16.2, pd8⟩
theorem viX16_readsElement : pm_Vi mX16_readsElement 16 := ⟨pm_Cl16, rfl, pm_tin12 _ (List.mem_of_getElem? (i := 174) rfl), List.mem_append_left _ (List.mem_of_getElem? (i := 166) rfl)⟩
theorem myX16_readsElements : pm_My mX16_readsElements 0 := ⟨pm_tin12 _ (List.mem_of_getElem? (i := 170) rfl), pm_tin1 _ (List.mem_of_getElem? (i := 15) rfl), nhX16.1, nhX16.2, pd10⟩
theorem viX16_readsElements : pm_Vi mX16_readsElements 16 := ⟨pm_Cl16, rfl, pm_tin12 _ (List.mem_of_getElem? (i := 169) rfl), List.mem_append_left _ (List.mem_of_getElem? (i := 165) rfl)⟩
theorem myX16_readsGlobals : pm_My mX16_readsGlobals 0 := ⟨pm_tin12 _ (List.mem_of_getElem? (i := 125) rfl), pm_tin1 _ (List.mem_of_getElem? (i := 15) rfl), nhX16.1, nhX16.2, pd10⟩
theorem viX16_readsGlobals : pm_Vi mX16_readsGlobals 16 := ⟨pm_Cl16, rfl, pm_tin12 _ (List.mem_of_getElem? (i := 124) rfl), List.mem_append_left _ (List.mem_of_getElem? (i := 158) rfl)⟩
theorem myX16_checksBody : pm_My mX16_checksBody 1 := ⟨pm_tin13 _ (List.mem_of_getElem? (i := 52) rfl), pm_tin1 _ (List.mem_of_getElem? (i := 15) rfl), nhX16.1, nhX16.2, pd7⟩
theorem viX16_checksBody : pm_Vi mX16_checksBody 16 := ⟨pm_Cl16, rfl, pm_tin13 _ (List.mem_of_getElem? (i := 51) rfl), List.mem_append_left _ (List.mem_of_getElem? (i := 186) rfl)⟩
theorem myX16_readsBodies : pm_My mX16_readsBodies 0 := ⟨pm_tin12 _ (List.mem_of_getElem? (i := 179) rfl), pm_tin1 _ (List.mem_of_getElem? (i := 15) rfl), nhX16.1, nhX16.2, pd10⟩
theorem viX16_readsBodies : pm_Vi mX16_readsBodies 16 := ⟨pm_Cl16, rfl, pm_tin12 _ (List.mem_of_getElem? (i := 178) rfl), List.mem_append_left _ (List.mem_of_getElem? (i := 167) rfl)⟩
theorem myX16_readsSection : pm_My mX16_readsSection 1 := ⟨pm_tin12 _ (List.mem_of_getElem? (i := 52) rfl), pm_tin1 _ (List.mem_of_getElem? (i := 15) rfl), nhX16.1, nhX16.2, pd7⟩
theorem viX16_readsSection : pm_Vi mX16_readsSection 16 := ⟨pm_Cl16, rfl, pm_tin12 _ (List.mem_of_getElem? (i := 51) rfl), List.mem_append_left _ (List.mem_of_getElem? (i := 143) rfl)⟩
theorem myX16_checksAll : pm_My mX16_checksAll 0 := ⟨pm_tin12 _ (List.mem_of_getElem? (i := 194) rfl), pm_tin1 _ (List.mem_of_getElem? (i := 15) rfl), nhX16.1, nhX16.2, pd10⟩
theorem viX16_checksAll : pm_Vi mX16_checksAll 16 := ⟨pm_Cl16, rfl, pm_tin12 _ (List.mem_of_getElem? (i := 193) rfl), List.mem_append_left _ (List.mem_of_getElem? (i := 170) rfl)⟩
theorem myX16_readsAll : pm_My mX16_readsAll 0 := ⟨pm_tin12 _ (List.mem_of_getElem? (i := 27) rfl), pm_tin1 _ (List.mem_of_getElem? (i := 15) rfl), nhX16.1, nhX16.2, pd10⟩
theorem viX16_readsAll : pm_Vi mX16_readsAll 16 := ⟨pm_Cl16, rfl, pm_tin12 _ (List.mem_of_getElem? (i := 26) rfl), List.mem_append_left _ (List.mem_of_getElem? (i := 139) rfl)⟩
theorem lnX16_299 : pm_Ln RX16 299 mX16_rank := Or.inl (pm_tin12 _ (List.mem_of_getElem? (i := 42) rfl))
theorem lnX16_377 : pm_Ln RX16 377 mX16_kept := Or.inl (pm_tin12 _ (List.mem_of_getElem? (i := 69) rfl))
theorem lnX16_566 : pm_Ln RX16 566 mX16_isAlone := Or.inl (pm_tin12 _ (List.mem_of_getElem? (i := 142) rfl))
theorem lnX16_621 : pm_Ln RX16 621 mX14_typeOfFunction := Or.inl (pm_tin12 _ (List.mem_of_getElem? (i := 223) rfl))
theorem lnX16_624 : pm_Ln RX16 624 mX16_declares := Or.inl (pm_tin12 _ (List.mem_of_getElem? (i := 231) rfl))
theorem lnX16_638 : pm_Ln RX16 638 mX16_areLimits := Or.inl (pm_tin12 _ (List.mem_of_getElem? (i := 203) rfl))
theorem lnX16_642 : pm_Ln RX16 642 mX16_isSameName := Or.inl (pm_tin12 _ (List.mem_of_getElem? (i := 219) rfl))
theorem lnX16_673 : pm_Ln RX16 673 mX16_constantType := Or.inl (pm_tin13 _ (List.mem_of_getElem? (i := 28) rfl))
theorem lnX16_704 : pm_Ln RX16 704 mX16_wantedBy := Or.inl (pm_tin13 _ (List.mem_of_getElem? (i := 146) rfl))
theorem lnX16_707 : pm_Ln RX16 707 mX16_wantedAt := Or.inl (pm_tin13 _ (List.mem_of_getElem? (i := 150) rfl))
theorem lnX16_720 : pm_Ln RX16 720 mX16_isNamed := Or.inl (pm_tin13 _ (List.mem_of_getElem? (i := 57) rfl))
theorem lnX16_762 : pm_Ln RX16 762 mX16_dies := Or.inl (pm_tin13 _ (List.mem_of_getElem? (i := 101) rfl))
theorem lnX16_789 : pm_Ln RX16 789 mX16_localType := Or.inl (pm_tin13 _ (List.mem_of_getElem? (i := 166) rfl))
theorem ltX16_257 : Cond.methodLink RX16 257 mX16_stops.1 ∈ lw_tbl := pm_tin12 _ (List.mem_of_getElem? (i := 32) rfl)
theorem ltX16_264 : Cond.methodLink RX16 264 mX16_next.1 ∈ lw_tbl := pm_tin12 _ (List.mem_of_getElem? (i := 28) rfl)
theorem ltX16_277 : Cond.methodLink RX16 277 mX16_number.1 ∈ lw_tbl := pm_tin12 _ (List.mem_of_getElem? (i := 45) rfl)
theorem ltX16_284 : Cond.methodLink RX16 284 mX16_character.1 ∈ lw_tbl := pm_tin12 _ (List.mem_of_getElem? (i := 57) rfl)
theorem ltX16_308 : Cond.methodLink RX16 308 mX16_readsSection.1 ∈ lw_tbl := pm_tin12 _ (List.mem_of_getElem? (i := 49) rfl)
theorem ltX16_324 : Cond.methodLink RX16 324 mX16_name.1 ∈ lw_tbl := pm_tin12 _ (List.mem_of_getElem? (i := 53) rfl)
theorem ltX16_327 : Cond.methodLink RX16 327 mX16_readsTypes.1 ∈ lw_tbl := pm_tin12 _ (List.mem_of_getElem? (i := 65) rfl)
theorem ltX16_330 : Cond.methodLink RX16 330 mX16_readsImports.1 ∈ lw_tbl := pm_tin12 _ (List.mem_of_getElem? (i := 93) rfl)
theorem ltX16_333 : Cond.methodLink RX16 333 mX16_readsFunctions.1 ∈ lw_tbl := pm_tin12 _ (List.mem_of_getElem? (i := 110) rfl)
theorem ltX16_336 : Cond.methodLink RX16 336 mX16_readsTables.1 ∈ lw_tbl := pm_tin12 _ (List.mem_of_getElem? (i := 114) rfl)
theorem ltX16_339 : Cond.methodLink RX16 339 mX16_readsMemories.1 ∈ lw_tbl := pm_tin12 _ (List.mem_of_getElem? (i := 118) rfl)
theorem ltX16_342 : Cond.methodLink RX16 342 mX16_readsGlobals.1 ∈ lw_tbl := pm_tin12 _ (List.mem_of_getElem? (i := 122) rfl)
theorem ltX16_345 : Cond.methodLink RX16 345 mX16_readsExports.1 ∈ lw_tbl := pm_tin12 _ (List.mem_of_getElem? (i := 163) rfl)
theorem ltX16_351 : Cond.methodLink RX16 351 mX16_readsElements.1 ∈ lw_tbl := pm_tin12 _ (List.mem_of_getElem? (i := 167) rfl)
theorem ltX16_354 : Cond.methodLink RX16 354 mX16_readsBodies.1 ∈ lw_tbl := pm_tin12 _ (List.mem_of_getElem? (i := 176) rfl)
theorem ltX16_357 : Cond.methodLink RX16 357 mX16_readsDatas.1 ∈ lw_tbl := pm_tin12 _ (List.mem_of_getElem? (i := 186) rfl)
theorem ltX16_371 : Cond.methodLink RX16 371 mX16_type.1 ∈ lw_tbl := pm_tin12 _ (List.mem_of_getElem? (i := 83) rfl)
theorem ltX16_384 : Cond.methodLink RX16 384 mX16_typeRow.1 ∈ lw_tbl := pm_tin12 _ (List.mem_of_getElem? (i := 78) rfl)
theorem ltX16_393 : Cond.methodLink RX16 393 mX16_small.1 ∈ lw_tbl := pm_tin12 _ (List.mem_of_getElem? (i := 97) rfl)
theorem ltX16_405 : Cond.methodLink RX16 405 mX16_referenceType.1 ∈ lw_tbl := pm_tin12 _ (List.mem_of_getElem? (i := 102) rfl)
theorem ltX16_408 : Cond.methodLink RX16 408 mX16_limits.1 ∈ lw_tbl := pm_tin12 _ (List.mem_of_getElem? (i := 106) rfl)
theorem ltX16_456 : Cond.methodLink RX16 456 mX16_expression.1 ∈ lw_tbl := pm_tin12 _ (List.mem_of_getElem? (i := 126) rfl)
theorem ltX16_486 : Cond.methodLink RX16 486 mX16_readsElement.1 ∈ lw_tbl := pm_tin12 _ (List.mem_of_getElem? (i := 172) rfl)
theorem ltX16_510 : Cond.methodLink RX16 510 mX16_readsBody.1 ∈ lw_tbl := pm_tin12 _ (List.mem_of_getElem? (i := 180) rfl)
theorem ltX16_555 : Cond.methodLink RX16 555 mX16_blockType.1 ∈ lw_tbl := pm_tin12 _ (List.mem_of_getElem? (i := 130) rfl)
theorem ltX16_558 : Cond.methodLink RX16 558 mX16_operands.1 ∈ lw_tbl := pm_tin12 _ (List.mem_of_getElem? (i := 138) rfl)
theorem ltX16_562 : Cond.methodLink RX16 562 mX16_signed.1 ∈ lw_tbl := pm_tin12 _ (List.mem_of_getElem? (i := 134) rfl)
theorem ltX16_577 : Cond.methodLink RX16 577 mX16_further.1 ∈ lw_tbl := pm_tin12 _ (List.mem_of_getElem? (i := 152) rfl)
theorem ltX16_609 : Cond.methodLink RX16 609 mX16_checksTypes.1 ∈ lw_tbl := pm_tin12 _ (List.mem_of_getElem? (i := 195) rfl)
theorem ltX16_612 : Cond.methodLink RX16 612 mX16_checksLimits.1 ∈ lw_tbl := pm_tin12 _ (List.mem_of_getElem? (i := 199) rfl)
theorem ltX16_618 : Cond.methodLink RX16 618 mX16_checksExports.1 ∈ lw_tbl := pm_tin12 _ (List.mem_of_getElem? (i := 215) rfl)
theorem ltX16_627 : Cond.methodLink RX16 627 mX16_constantly.1 ∈ lw_tbl := pm_tin13 _ (List.mem_of_getElem? (i := 24) rfl)
theorem ltX16_630 : Cond.methodLink RX16 630 mX16_checksElement.1 ∈ lw_tbl := pm_tin13 _ (List.mem_of_getElem? (i := 41) rfl)
theorem ltX16_633 : Cond.methodLink RX16 633 mX16_checksBody.1 ∈ lw_tbl := pm_tin13 _ (List.mem_of_getElem? (i := 49) rfl)
theorem ltX16_692 : Cond.methodLink RX16 692 mX16_take.1 ∈ lw_tbl := pm_tin13 _ (List.mem_of_getElem? (i := 86) rfl)
theorem ltX16_695 : Cond.methodLink RX16 695 mX16_put.1 ∈ lw_tbl := pm_tin13 _ (List.mem_of_getElem? (i := 93) rfl)
theorem ltX16_716 : Cond.methodLink RX16 716 mX16_begins.1 ∈ lw_tbl := pm_tin13 _ (List.mem_of_getElem? (i := 53) rfl)
theorem ltX16_723 : Cond.methodLink RX16 723 mX16_goesTogether.1 ∈ lw_tbl := pm_tin13 _ (List.mem_of_getElem? (i := 68) rfl)
theorem ltX16_735 : Cond.methodLink RX16 735 mX16_operates.1 ∈ lw_tbl := pm_tin13 _ (List.mem_of_getElem? (i := 72) rfl)
theorem ltX16_738 : Cond.methodLink RX16 738 mX16_controls.1 ∈ lw_tbl := pm_tin13 _ (List.mem_of_getElem? (i := 97) rfl)
theorem ltX16_741 : Cond.methodLink RX16 741 mX16_names.1 ∈ lw_tbl := pm_tin13 _ (List.mem_of_getElem? (i := 162) rfl)
theorem ltX16_744 : Cond.methodLink RX16 744 mX16_accesses.1 ∈ lw_tbl := pm_tin13 _ (List.mem_of_getElem? (i := 170) rfl)
theorem ltX16_747 : Cond.methodLink RX16 747 mX16_furthers.1 ∈ lw_tbl := pm_tin13 _ (List.mem_of_getElem? (i := 177) rfl)
theorem ltX16_750 : Cond.methodLink RX16 750 mX16_takes.1 ∈ lw_tbl := pm_tin13 _ (List.mem_of_getElem? (i := 82) rfl)
theorem ltX16_765 : Cond.methodLink RX16 765 mX16_takeParameters.1 ∈ lw_tbl := pm_tin13 _ (List.mem_of_getElem? (i := 105) rfl)
theorem ltX16_768 : Cond.methodLink RX16 768 mX16_putParameters.1 ∈ lw_tbl := pm_tin13 _ (List.mem_of_getElem? (i := 117) rfl)
theorem ltX16_771 : Cond.methodLink RX16 771 mX16_ends.1 ∈ lw_tbl := pm_tin13 _ (List.mem_of_getElem? (i := 121) rfl)
theorem ltX16_774 : Cond.methodLink RX16 774 mX16_takeWanted.1 ∈ lw_tbl := pm_tin13 _ (List.mem_of_getElem? (i := 142) rfl)
theorem ltX16_777 : Cond.methodLink RX16 777 mX16_chooses.1 ∈ lw_tbl := pm_tin13 _ (List.mem_of_getElem? (i := 154) rfl)
theorem ltX16_780 : Cond.methodLink RX16 780 mX16_takeResults.1 ∈ lw_tbl := pm_tin13 _ (List.mem_of_getElem? (i := 125) rfl)
theorem ltX16_783 : Cond.methodLink RX16 783 mX16_putResults.1 ∈ lw_tbl := pm_tin13 _ (List.mem_of_getElem? (i := 138) rfl)
theorem ltX16_786 : Cond.methodLink RX16 786 mX16_selects.1 ∈ lw_tbl := pm_tin13 _ (List.mem_of_getElem? (i := 158) rfl)
theorem flX16_23 : pm_F RX16 23 16 9 := ⟨pm_Cl16, by decide, Or.inl (pm_tin9 _ (List.mem_of_getElem? (i := 193) rfl))⟩
theorem flX16_28 : pm_F RX16 28 16 14 := ⟨pm_Cl16, by decide, Or.inl (pm_tin9 _ (List.mem_of_getElem? (i := 198) rfl))⟩
theorem flX16_32 : pm_F RX16 32 16 15 := ⟨pm_Cl16, by decide, Or.inl (pm_tin9 _ (List.mem_of_getElem? (i := 199) rfl))⟩
theorem flX16_39 : pm_F RX16 39 16 22 := ⟨pm_Cl16, by decide, Or.inl (pm_tin9 _ (List.mem_of_getElem? (i := 206) rfl))⟩
theorem flX16_55 : pm_F RX16 55 16 32 := ⟨pm_Cl16, by decide, Or.inl (pm_tin9 _ (List.mem_of_getElem? (i := 216) rfl))⟩
theorem flX16_251 : pm_F RX16 251 16 11 := ⟨pm_Cl16, by decide, Or.inl (pm_tin9 _ (List.mem_of_getElem? (i := 195) rfl))⟩
theorem flX16_254 : pm_F RX16 254 16 12 := ⟨pm_Cl16, by decide, Or.inl (pm_tin9 _ (List.mem_of_getElem? (i := 196) rfl))⟩
theorem flX16_281 : pm_F RX16 281 16 16 := ⟨pm_Cl16, by decide, Or.inl (pm_tin9 _ (List.mem_of_getElem? (i := 200) rfl))⟩
theorem flX16_292 : pm_F RX16 292 14 1 := ⟨pm_Cl14, by decide, Or.inr ⟨"ModuleEngineModel", pm_tin11 _ (List.mem_of_getElem? (i := 30) rfl)⟩⟩
theorem flX16_302 : pm_F RX16 302 14 2 := ⟨pm_Cl14, by decide, Or.inr ⟨"ModuleEngineModel", pm_tin11 _ (List.mem_of_getElem? (i := 32) rfl)⟩⟩
theorem flX16_311 : pm_F RX16 311 14 14 := ⟨pm_Cl14, by decide, Or.inr ⟨"ModuleEngineModel", pm_tin11 _ (List.mem_of_getElem? (i := 56) rfl)⟩⟩
theorem flX16_315 : pm_F RX16 315 14 50 := ⟨pm_Cl14, by decide, Or.inr ⟨"ModuleEngineModel", pm_tin11 _ (List.mem_of_getElem? (i := 128) rfl)⟩⟩
theorem flX16_318 : pm_F RX16 318 14 42 := ⟨pm_Cl14, by decide, Or.inr ⟨"ModuleEngineModel", pm_tin11 _ (List.mem_of_getElem? (i := 112) rfl)⟩⟩
theorem flX16_321 : pm_F RX16 321 14 43 := ⟨pm_Cl14, by decide, Or.inr ⟨"ModuleEngineModel", pm_tin11 _ (List.mem_of_getElem? (i := 114) rfl)⟩⟩
theorem flX16_396 : pm_F RX16 396 16 17 := ⟨pm_Cl16, by decide, Or.inl (pm_tin9 _ (List.mem_of_getElem? (i := 201) rfl))⟩
theorem flX16_399 : pm_F RX16 399 16 18 := ⟨pm_Cl16, by decide, Or.inl (pm_tin9 _ (List.mem_of_getElem? (i := 202) rfl))⟩
theorem flX16_402 : pm_F RX16 402 14 8 := ⟨pm_Cl14, by decide, Or.inr ⟨"ModuleEngineModel", pm_tin11 _ (List.mem_of_getElem? (i := 44) rfl)⟩⟩
theorem flX16_537 : pm_F RX16 537 14 46 := ⟨pm_Cl14, by decide, Or.inr ⟨"ModuleEngineModel", pm_tin11 _ (List.mem_of_getElem? (i := 120) rfl)⟩⟩
theorem flX16_686 : pm_F RX16 686 16 31 := ⟨pm_Cl16, by decide, Or.inl (pm_tin9 _ (List.mem_of_getElem? (i := 215) rfl))⟩
theorem cnX16_288 : Cond.constant RX16 288 55296 ∈ lw_tbl := pm_tin12 _ (List.mem_of_getElem? (i := 61) rfl)
theorem cnX16_289 : Cond.constant RX16 289 57343 ∈ lw_tbl := pm_tin12 _ (List.mem_of_getElem? (i := 62) rfl)
theorem cnX16_291 : Cond.constant RX16 291 1114111 ∈ lw_tbl := pm_tin12 _ (List.mem_of_getElem? (i := 64) rfl)
theorem cnX16_295 : Cond.constantLong RX16 295 27429984746340352 ∈ lw_tbl := pm_tin12 _ (List.mem_of_getElem? (i := 40) rfl)
theorem cnX16_369 : Cond.constantLong RX16 369 16 ∈ lw_tbl := pm_tin12 _ (List.mem_of_getElem? (i := 82) rfl)
theorem cnX16_484 : Cond.constantLong RX16 484 7 ∈ lw_tbl := pm_tin12 _ (List.mem_of_getElem? (i := 171) rfl)
theorem cnX16_515 : Cond.constantLong RX16 515 1000 ∈ lw_tbl := pm_tin12 _ (List.mem_of_getElem? (i := 185) rfl)
theorem cnX16_532 : Cond.constantLong RX16 532 2 ∈ lw_tbl := pm_tin12 _ (List.mem_of_getElem? (i := 190) rfl)
theorem cnX16_575 : Cond.constantLong RX16 575 200 ∈ lw_tbl := pm_tin12 _ (List.mem_of_getElem? (i := 151) rfl)
theorem cnX16_580 : Cond.constantLong RX16 580 17 ∈ lw_tbl := pm_tin12 _ (List.mem_of_getElem? (i := 156) rfl)
