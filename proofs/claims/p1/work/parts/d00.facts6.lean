theorem nhJ0 : RJ0 ≠ "java/lang/invoke/MethodHandle" ∧ RJ0 ≠ "java/lang/invoke/VarHandle" := ⟨by decide, by decide⟩
theorem pnJ0 : plainName RJ0 = true := by decide +kernel
theorem nhJ1 : RJ1 ≠ "java/lang/invoke/MethodHandle" ∧ RJ1 ≠ "java/lang/invoke/VarHandle" := ⟨by decide, by decide⟩
theorem pnJ1 : plainName RJ1 = true := by decide +kernel
theorem nhJ3 : RJ3 ≠ "java/lang/invoke/MethodHandle" ∧ RJ3 ≠ "java/lang/invoke/VarHandle" := ⟨by decide, by decide⟩
theorem pnJ3 : plainName RJ3 = true := by decide +kernel
theorem pd111 : (parseMethodDescriptor "(I)C").map (fun d => d.parameters.length) = some 1 := by decide +kernel
theorem pd112 : (parseMethodDescriptor "([BI)C").map (fun d => d.parameters.length) = some 2 := by decide +kernel
theorem pd113 : (parseMethodDescriptor "(IILjava/util/function/BiFunction;)I").map (fun d => d.parameters.length) = some 3 := by decide +kernel
theorem pd114 : (parseMethodDescriptor "(IIJJ)V").map (fun d => d.parameters.length) = some 4 := by decide +kernel
theorem pd115 : (parseMethodDescriptor "(IIIJJ)J").map (fun d => d.parameters.length) = some 5 := by decide +kernel
theorem pd116 : (parseMethodDescriptor "(LModuleEngine$Instance;)I").map (fun d => d.parameters.length) = some 1 := by decide +kernel
abbrev mJ0_charAt_5068e : pm_M := (yJ0_charAt_5068e, cJ0_charAt_5068e, 2, (some .char), 4, 85)
abbrev mJ0_isLatin1_aae02 : pm_M := (yJ0_isLatin1_aae02, cJ0_isLatin1_aae02, 1, (some .boolean), 0, 0)
abbrev mJ1_charAt_3b067 : pm_M := (yJ1_charAt_3b067, cJ1_charAt_3b067, 2, (some .char), 2, 43)
abbrev mJ0_checkIndex_df160 : pm_M := (yJ0_checkIndex_df160, cJ0_checkIndex_df160, 2, none, 1, 22)
abbrev mJ3_checkIndex_8e157 : pm_M := (yJ3_checkIndex_8e157, cJ3_checkIndex_8e157, 3, (some .int), 0, 0)
abbrev mX6_logOfWidth : pm_M := (yX6_logOfWidth, cX6_logOfWidth, 1, (some .int), 5, 106)
abbrev mX6_save : pm_M := (yX6_save, cX6_save, 9, none, 6, 126)
abbrev mX6_valueType : pm_M := (yX6_valueType, cX6_valueType, 1, (some .int), 5, 106)
abbrev mX8_operandType : pm_M := (yX8_operandType, cX8_operandType, 1, (some .int), 5, 106)
abbrev mX8_resultType : pm_M := (yX8_resultType, cX8_resultType, 1, (some .int), 6, 126)
abbrev mX8_toWhole : pm_M := (yX8_toWhole, cX8_toWhole, 4, (some .long), 7, 146)
abbrev mX9_begin : pm_M := (yX9_begin, cX9_begin, 3, none, 1, 22)
abbrev mX1_memoryAccess : pm_M := (yX1_memoryAccess, cX1_memoryAccess, 3, none, 6, 126)
abbrev mX1_operator : pm_M := (yX1_operator, cX1_operator, 3, none, 7, 146)
abbrev mX1_other : pm_M := (yX1_other, cX1_other, 2, none, 8, 168)
abbrev mX6_load : pm_M := (yX6_load, cX6_load, 10, (some .long), 6, 126)
abbrev mX8_apply : pm_M := (yX8_apply, cX8_apply, 6, (some .long), 8, 169)
abbrev mX10_atMemory : pm_M := (yX10_atMemory, cX10_atMemory, 10, (some .long), 7, 155)
abbrev mX10_perform : pm_M := (yX10_perform, cX10_perform, 13, (some .long), 9, 194)
abbrev mX1_body : pm_M := (yX1_body, cX1_body, 3, none, 9, 189)
abbrev mX5_stepOnRegisters : pm_M := (yX5_stepOnRegisters, cX5_stepOnRegisters, 13, none, 10, 226)
abbrev mX5_stepOnStack : pm_M := (yX5_stepOnStack, cX5_stepOnStack, 17, none, 10, 226)
abbrev mX10_fillSegments : pm_M := (yX10_fillSegments, cX10_fillSegments, 7, (some .int), 10, 226)
abbrev mX12_make : pm_M := (yX12_make, cX12_make, 7, (some .int), 11, 252)
abbrev mX12_module : pm_M := (yX12_module, cX12_module, 4, (some .int), 10, 211)
abbrev mX5_advance : pm_M := (yX5_advance, cX5_advance, 7, (some .int), 11, 262)
abbrev mX12_run : pm_M := (yX12_run, cX12_run, 2, (some .int), 12, 288)
theorem myJ0_charAt_5068e : pm_My mJ0_charAt_5068e 1 := ⟨pm_tin6 _ (List.mem_of_getElem? (i := 71) rfl), pm_tin1 _ (List.mem_of_getElem? (i := 23) rfl), nhJ0.1, nhJ0.2, pd111⟩
theorem myJ0_isLatin1_aae02 : pm_My mJ0_isLatin1_aae02 0 := ⟨pm_tin6 _ (List.mem_of_getElem? (i := 75) rfl), pm_tin1 _ (List.mem_of_getElem? (i := 23) rfl), nhJ0.1, nhJ0.2, pd12⟩
theorem myJ1_charAt_3b067 : pm_My mJ1_charAt_3b067 2 := ⟨pm_tin6 _ (List.mem_of_getElem? (i := 80) rfl), pm_tin1 _ (List.mem_of_getElem? (i := 24) rfl), nhJ1.1, nhJ1.2, pd112⟩
theorem stJ1_charAt_3b067 : pm_St mJ1_charAt_3b067 := pm_tin6 _ (List.mem_of_getElem? (i := 79) rfl)
theorem myJ0_checkIndex_df160 : pm_My mJ0_checkIndex_df160 2 := ⟨pm_tin6 _ (List.mem_of_getElem? (i := 83) rfl), pm_tin1 _ (List.mem_of_getElem? (i := 23) rfl), nhJ0.1, nhJ0.2, pd8⟩
theorem stJ0_checkIndex_df160 : pm_St mJ0_checkIndex_df160 := pm_tin6 _ (List.mem_of_getElem? (i := 82) rfl)
theorem myJ3_checkIndex_8e157 : pm_My mJ3_checkIndex_8e157 3 := ⟨pm_tin6 _ (List.mem_of_getElem? (i := 88) rfl), pm_tin1 _ (List.mem_of_getElem? (i := 25) rfl), nhJ3.1, nhJ3.2, pd113⟩
theorem stJ3_checkIndex_8e157 : pm_St mJ3_checkIndex_8e157 := pm_tin6 _ (List.mem_of_getElem? (i := 87) rfl)
theorem myX6_logOfWidth : pm_My mX6_logOfWidth 1 := ⟨pm_tin6 _ (List.mem_of_getElem? (i := 66) rfl), pm_tin1 _ (List.mem_of_getElem? (i := 9) rfl), nhX6.1, nhX6.2, pd0⟩
theorem stX6_logOfWidth : pm_St mX6_logOfWidth := pm_tin6 _ (List.mem_of_getElem? (i := 65) rfl)
theorem myX6_save : pm_My mX6_save 4 := ⟨pm_tin7 _ (List.mem_of_getElem? (i := 234) rfl), pm_tin1 _ (List.mem_of_getElem? (i := 9) rfl), nhX6.1, nhX6.2, pd114⟩
theorem viX6_save : pm_Vi mX6_save 6 := ⟨pm_Cl6, rfl, pm_tin7 _ (List.mem_of_getElem? (i := 232) rfl), pm_tin7 _ (List.mem_of_getElem? (i := 233) rfl)⟩
theorem myX6_valueType : pm_My mX6_valueType 1 := ⟨pm_tin6 _ (List.mem_of_getElem? (i := 110) rfl), pm_tin1 _ (List.mem_of_getElem? (i := 9) rfl), nhX6.1, nhX6.2, pd0⟩
theorem stX6_valueType : pm_St mX6_valueType := pm_tin6 _ (List.mem_of_getElem? (i := 109) rfl)
theorem myX8_operandType : pm_My mX8_operandType 1 := ⟨pm_tin6 _ (List.mem_of_getElem? (i := 118) rfl), pm_tin1 _ (List.mem_of_getElem? (i := 10) rfl), nhX8.1, nhX8.2, pd0⟩
theorem stX8_operandType : pm_St mX8_operandType := pm_tin6 _ (List.mem_of_getElem? (i := 117) rfl)
theorem myX8_resultType : pm_My mX8_resultType 1 := ⟨pm_tin6 _ (List.mem_of_getElem? (i := 127) rfl), pm_tin1 _ (List.mem_of_getElem? (i := 10) rfl), nhX8.1, nhX8.2, pd0⟩
theorem stX8_resultType : pm_St mX8_resultType := pm_tin6 _ (List.mem_of_getElem? (i := 126) rfl)
theorem myX8_toWhole : pm_My mX8_toWhole 2 := ⟨pm_tin7 _ (List.mem_of_getElem? (i := 189) rfl), pm_tin1 _ (List.mem_of_getElem? (i := 10) rfl), nhX8.1, nhX8.2, pd13⟩
theorem viX8_toWhole : pm_Vi mX8_toWhole 8 := ⟨pm_Cl8, rfl, pm_tin7 _ (List.mem_of_getElem? (i := 188) rfl), List.mem_append_left _ (List.mem_of_getElem? (i := 95) rfl)⟩
theorem myX9_begin : pm_My mX9_begin 1 := ⟨pm_tin4 _ (List.mem_of_getElem? (i := 42) rfl), pm_tin1 _ (List.mem_of_getElem? (i := 3) rfl), nhX9.1, nhX9.2, pd95⟩
theorem viX9_begin : pm_Vi mX9_begin 9 := ⟨pm_Cl9, rfl, pm_tin4 _ (List.mem_of_getElem? (i := 40) rfl), pm_tin4 _ (List.mem_of_getElem? (i := 41) rfl)⟩
theorem myX1_memoryAccess : pm_My mX1_memoryAccess 1 := ⟨pm_tin6 _ (List.mem_of_getElem? (i := 63) rfl), pm_tin1 _ (List.mem_of_getElem? (i := 4) rfl), nhX1.1, nhX1.2, pd7⟩
theorem viX1_memoryAccess : pm_Vi mX1_memoryAccess 1 := ⟨pm_Cl1, rfl, pm_tin6 _ (List.mem_of_getElem? (i := 62) rfl), List.mem_append_left _ (List.mem_of_getElem? (i := 78) rfl)⟩
theorem myX1_operator : pm_My mX1_operator 1 := ⟨pm_tin6 _ (List.mem_of_getElem? (i := 115) rfl), pm_tin1 _ (List.mem_of_getElem? (i := 4) rfl), nhX1.1, nhX1.2, pd7⟩
theorem viX1_operator : pm_Vi mX1_operator 1 := ⟨pm_Cl1, rfl, pm_tin6 _ (List.mem_of_getElem? (i := 114) rfl), List.mem_append_left _ (List.mem_of_getElem? (i := 79) rfl)⟩
theorem myX1_other : pm_My mX1_other 1 := ⟨pm_tin6 _ (List.mem_of_getElem? (i := 44) rfl), pm_tin1 _ (List.mem_of_getElem? (i := 4) rfl), nhX1.1, nhX1.2, pd7⟩
theorem viX1_other : pm_Vi mX1_other 1 := ⟨pm_Cl1, rfl, pm_tin6 _ (List.mem_of_getElem? (i := 43) rfl), List.mem_append_left _ (List.mem_of_getElem? (i := 74) rfl)⟩
theorem myX6_load : pm_My mX6_load 3 := ⟨pm_tin7 _ (List.mem_of_getElem? (i := 218) rfl), pm_tin1 _ (List.mem_of_getElem? (i := 9) rfl), nhX6.1, nhX6.2, pd70⟩
theorem viX6_load : pm_Vi mX6_load 6 := ⟨pm_Cl6, rfl, pm_tin7 _ (List.mem_of_getElem? (i := 216) rfl), pm_tin7 _ (List.mem_of_getElem? (i := 217) rfl)⟩
theorem myX8_apply : pm_My mX8_apply 3 := ⟨pm_tin7 _ (List.mem_of_getElem? (i := 56) rfl), pm_tin1 _ (List.mem_of_getElem? (i := 10) rfl), nhX8.1, nhX8.2, pd46⟩
theorem viX8_apply : pm_Vi mX8_apply 8 := ⟨pm_Cl8, rfl, pm_tin7 _ (List.mem_of_getElem? (i := 54) rfl), pm_tin7 _ (List.mem_of_getElem? (i := 55) rfl)⟩
theorem myX10_atMemory : pm_My mX10_atMemory 5 := ⟨pm_tin7 _ (List.mem_of_getElem? (i := 207) rfl), pm_tin1 _ (List.mem_of_getElem? (i := 7) rfl), nhX10.1, nhX10.2, pd115⟩
theorem viX10_atMemory : pm_Vi mX10_atMemory 10 := ⟨pm_Cl10, rfl, pm_tin7 _ (List.mem_of_getElem? (i := 206) rfl), List.mem_append_left _ (List.mem_of_getElem? (i := 97) rfl)⟩
theorem myX10_perform : pm_My mX10_perform 7 := ⟨pm_tin7 _ (List.mem_of_getElem? (i := 52) rfl), pm_tin1 _ (List.mem_of_getElem? (i := 7) rfl), nhX10.1, nhX10.2, pd106⟩
theorem viX10_perform : pm_Vi mX10_perform 10 := ⟨pm_Cl10, rfl, pm_tin7 _ (List.mem_of_getElem? (i := 50) rfl), pm_tin7 _ (List.mem_of_getElem? (i := 51) rfl)⟩
theorem myX1_body : pm_My mX1_body 1 := ⟨pm_tin5 _ (List.mem_of_getElem? (i := 128) rfl), pm_tin1 _ (List.mem_of_getElem? (i := 4) rfl), nhX1.1, nhX1.2, pd7⟩
theorem viX1_body : pm_Vi mX1_body 1 := ⟨pm_Cl1, rfl, pm_tin5 _ (List.mem_of_getElem? (i := 126) rfl), pm_tin5 _ (List.mem_of_getElem? (i := 127) rfl)⟩
theorem myX5_stepOnRegisters : pm_My mX5_stepOnRegisters 1 := ⟨pm_tin9 _ (List.mem_of_getElem? (i := 29) rfl), pm_tin1 _ (List.mem_of_getElem? (i := 12) rfl), nhX5.1, nhX5.2, pd7⟩
theorem viX5_stepOnRegisters : pm_Vi mX5_stepOnRegisters 5 := ⟨pm_Cl5, rfl, pm_tin9 _ (List.mem_of_getElem? (i := 28) rfl), List.mem_append_left _ (List.mem_of_getElem? (i := 135) rfl)⟩
theorem myX5_stepOnStack : pm_My mX5_stepOnStack 0 := ⟨pm_tin9 _ (List.mem_of_getElem? (i := 2) rfl), pm_tin1 _ (List.mem_of_getElem? (i := 12) rfl), nhX5.1, nhX5.2, pd10⟩
theorem viX5_stepOnStack : pm_Vi mX5_stepOnStack 5 := ⟨pm_Cl5, rfl, pm_tin9 _ (List.mem_of_getElem? (i := 1) rfl), List.mem_append_left _ (List.mem_of_getElem? (i := 130) rfl)⟩
theorem myX10_fillSegments : pm_My mX10_fillSegments 1 := ⟨pm_tin7 _ (List.mem_of_getElem? (i := 48) rfl), pm_tin1 _ (List.mem_of_getElem? (i := 7) rfl), nhX10.1, nhX10.2, pd116⟩
theorem viX10_fillSegments : pm_Vi mX10_fillSegments 10 := ⟨pm_Cl10, rfl, pm_tin7 _ (List.mem_of_getElem? (i := 46) rfl), pm_tin7 _ (List.mem_of_getElem? (i := 47) rfl)⟩
theorem myX12_make : pm_My mX12_make 1 := ⟨pm_tin6 _ (List.mem_of_getElem? (i := 178) rfl), pm_tin1 _ (List.mem_of_getElem? (i := 1) rfl), nhX12.1, nhX12.2, pd0⟩
theorem viX12_make : pm_Vi mX12_make 12 := ⟨pm_Cl12, rfl, pm_tin6 _ (List.mem_of_getElem? (i := 176) rfl), pm_tin6 _ (List.mem_of_getElem? (i := 177) rfl)⟩
theorem myX12_module : pm_My mX12_module 1 := ⟨pm_tin4 _ (List.mem_of_getElem? (i := 22) rfl), pm_tin1 _ (List.mem_of_getElem? (i := 1) rfl), nhX12.1, nhX12.2, pd0⟩
theorem viX12_module : pm_Vi mX12_module 12 := ⟨pm_Cl12, rfl, pm_tin4 _ (List.mem_of_getElem? (i := 20) rfl), pm_tin4 _ (List.mem_of_getElem? (i := 21) rfl)⟩
theorem myX5_advance : pm_My mX5_advance 1 := ⟨pm_tin8 _ (List.mem_of_getElem? (i := 238) rfl), pm_tin1 _ (List.mem_of_getElem? (i := 12) rfl), nhX5.1, nhX5.2, pd0⟩
theorem viX5_advance : pm_Vi mX5_advance 5 := ⟨pm_Cl5, rfl, pm_tin8 _ (List.mem_of_getElem? (i := 236) rfl), pm_tin8 _ (List.mem_of_getElem? (i := 237) rfl)⟩
theorem myX12_run : pm_My mX12_run 1 := ⟨pm_tin8 _ (List.mem_of_getElem? (i := 233) rfl), pm_tin1 _ (List.mem_of_getElem? (i := 1) rfl), nhX12.1, nhX12.2, pd0⟩
theorem viX12_run : pm_Vi mX12_run 12 := ⟨pm_Cl12, rfl, pm_tin8 _ (List.mem_of_getElem? (i := 231) rfl), pm_tin8 _ (List.mem_of_getElem? (i := 232) rfl)⟩
theorem lnX12_80 : pm_Ln RX12 80 mJ7_copyOf_9075b := Or.inl (pm_tin4 _ (List.mem_of_getElem? (i := 23) rfl))
theorem lnX12_90 : pm_Ln RX12 90 mX9_begin := Or.inl (pm_tin4 _ (List.mem_of_getElem? (i := 39) rfl))
theorem lnX12_93 : pm_Ln RX12 93 mX9_goesOn := Or.inl (pm_tin4 _ (List.mem_of_getElem? (i := 57) rfl))
theorem lnX12_97 : pm_Ln RX12 97 mX9_advance := Or.inl (pm_tin4 _ (List.mem_of_getElem? (i := 61) rfl))
theorem lnX12_100 : pm_Ln RX12 100 mX9_finish := Or.inl (pm_tin5 _ (List.mem_of_getElem? (i := 17) rfl))
theorem lnX12_118 : pm_Ln RX12 118 mX1_check := Or.inl (pm_tin5 _ (List.mem_of_getElem? (i := 22) rfl))
theorem lnX12_127 : pm_Ln RX12 127 mX1_body := Or.inl (pm_tin5 _ (List.mem_of_getElem? (i := 125) rfl))
theorem lnX12_159 : pm_Ln RX12 159 mX10_refusal := Or.inl (pm_tin6 _ (List.mem_of_getElem? (i := 183) rfl))
theorem lnX12_163 : pm_Ln RX12 163 mX10_create := Or.inl (pm_tin6 _ (List.mem_of_getElem? (i := 218) rfl))
theorem lnX12_167 : pm_Ln RX12 167 mX10_fillSegments := Or.inl (pm_tin7 _ (List.mem_of_getElem? (i := 45) rfl))
theorem lnX12_171 : pm_Ln RX12 171 mX5_failAtMaking := Or.inl (pm_tin8 _ (List.mem_of_getElem? (i := 55) rfl))
theorem lnX12_203 : pm_Ln RX12 203 mX5_advance := Or.inl (pm_tin8 _ (List.mem_of_getElem? (i := 235) rfl))
theorem lnX1_211 : pm_Ln RX1 211 mX1_readLocals := Or.inl (pm_tin5 _ (List.mem_of_getElem? (i := 129) rfl))
theorem lnX1_230 : pm_Ln RX1 230 mX1_control := Or.inl (pm_tin5 _ (List.mem_of_getElem? (i := 145) rfl))
theorem lnX1_233 : pm_Ln RX1 233 mX1_other := Or.inl (pm_tin6 _ (List.mem_of_getElem? (i := 41) rfl))
theorem lnX1_254 : pm_Ln RX1 254 mJ7_copyOf_59c91 := Or.inl (pm_tin6 _ (List.mem_of_getElem? (i := 147) rfl))
theorem lnX1_328 : pm_Ln RX1 328 mX1_choice := Or.inl (pm_tin6 _ (List.mem_of_getElem? (i := 45) rfl))
theorem lnX1_331 : pm_Ln RX1 331 mX1_variable := Or.inl (pm_tin6 _ (List.mem_of_getElem? (i := 56) rfl))
theorem lnX1_334 : pm_Ln RX1 334 mX1_memoryAccess := Or.inl (pm_tin6 _ (List.mem_of_getElem? (i := 60) rfl))
theorem lnX1_337 : pm_Ln RX1 337 mX1_operator := Or.inl (pm_tin6 _ (List.mem_of_getElem? (i := 112) rfl))
theorem lnX1_344 : pm_Ln RX1 344 mX1_reference := Or.inl (pm_tin6 _ (List.mem_of_getElem? (i := 134) rfl))
theorem lnX1_347 : pm_Ln RX1 347 mX1_tableAccess := Or.inl (pm_tin6 _ (List.mem_of_getElem? (i := 139) rfl))
theorem lnX1_350 : pm_Ln RX1 350 mX1_stretch := Or.inl (pm_tin6 _ (List.mem_of_getElem? (i := 143) rfl))
theorem lnX1_434 : pm_Ln RX1 434 mX6_logOfWidth := Or.inl (pm_tin6 _ (List.mem_of_getElem? (i := 64) rfl))
theorem lnX1_439 : pm_Ln RX1 439 mX6_valueType := Or.inl (pm_tin6 _ (List.mem_of_getElem? (i := 108) rfl))
theorem lnX1_442 : pm_Ln RX1 442 mX8_operandType := Or.inl (pm_tin6 _ (List.mem_of_getElem? (i := 116) rfl))
theorem lnX1_447 : pm_Ln RX1 447 mX8_isBinary := Or.inl (pm_tin6 _ (List.mem_of_getElem? (i := 122) rfl))
theorem lnX1_450 : pm_Ln RX1 450 mX8_resultType := Or.inl (pm_tin6 _ (List.mem_of_getElem? (i := 125) rfl))
theorem lnX5_125 : pm_Ln RX5 125 mX5_stepOnStack := Or.inl (pm_tin8 _ (List.mem_of_getElem? (i := 239) rfl))
theorem lnX5_141 : pm_Ln RX5 141 mX5_stepOnRegisters := Or.inl (pm_tin9 _ (List.mem_of_getElem? (i := 26) rfl))
theorem lnX5_251 : pm_Ln RX5 251 mX5_pop := Or.inl (pm_tin9 _ (List.mem_of_getElem? (i := 3) rfl))
theorem lnX5_255 : pm_Ln RX5 255 mX5_branchOnStack := Or.inl (pm_tin9 _ (List.mem_of_getElem? (i := 7) rfl))
theorem lnX5_264 : pm_Ln RX5 264 mX5_callByTable := Or.inl (pm_tin9 _ (List.mem_of_getElem? (i := 12) rfl))
theorem lnX5_268 : pm_Ln RX5 268 mX5_push := Or.inl (pm_tin9 _ (List.mem_of_getElem? (i := 20) rfl))
theorem lnX5_272 : pm_Ln RX5 272 mX10_perform := Or.inl (pm_tin9 _ (List.mem_of_getElem? (i := 24) rfl))
theorem lnX5_284 : pm_Ln RX5 284 mX5_branchOnRegisters := Or.inl (pm_tin9 _ (List.mem_of_getElem? (i := 30) rfl))
theorem lnX6_69 : pm_Ln RX6 69 mX6_logOfWidth := Or.inl (pm_tin7 _ (List.mem_of_getElem? (i := 219) rfl))
theorem lnX6_73 : pm_Ln RX6 73 mX6_byteAt := Or.inl (pm_tin7 _ (List.mem_of_getElem? (i := 220) rfl))
theorem lnX6_78 : pm_Ln RX6 78 mX6_setByte := Or.inl (pm_tin7 _ (List.mem_of_getElem? (i := 235) rfl))
theorem lnX8_27 : pm_Ln RX8 27 mX8_operandType := Or.inl (pm_tin6 _ (List.mem_of_getElem? (i := 129) rfl))
theorem lnX8_41 : pm_Ln RX8 41 mX8_compareWhole := Or.inl (pm_tin7 _ (List.mem_of_getElem? (i := 60) rfl))
theorem lnX8_48 : pm_Ln RX8 48 mX8_compareFloating := Or.inl (pm_tin7 _ (List.mem_of_getElem? (i := 67) rfl))
theorem lnX8_52 : pm_Ln RX8 52 mX8_whole32 := Or.inl (pm_tin7 _ (List.mem_of_getElem? (i := 85) rfl))
theorem lnX8_58 : pm_Ln RX8 58 mX8_whole64 := Or.inl (pm_tin7 _ (List.mem_of_getElem? (i := 108) rfl))
theorem lnX8_62 : pm_Ln RX8 62 mX8_floating := Or.inl (pm_tin7 _ (List.mem_of_getElem? (i := 133) rfl))
theorem lnX8_65 : pm_Ln RX8 65 mX8_toWhole := Or.inl (pm_tin7 _ (List.mem_of_getElem? (i := 186) rfl))
theorem lnX8_69 : pm_Ln RX8 69 mX8_toFloating := Or.inl (pm_tin7 _ (List.mem_of_getElem? (i := 195) rfl))
theorem lnX8_189 : pm_Ln RX8 189 mX8_resultType := Or.inl (pm_tin7 _ (List.mem_of_getElem? (i := 190) rfl))
theorem lnX8_192 : pm_Ln RX8 192 mX8_truncated := Or.inl (pm_tin7 _ (List.mem_of_getElem? (i := 191) rfl))
theorem lnX10_259 : pm_Ln RX10 259 mX10_perform := Or.inl (pm_tin7 _ (List.mem_of_getElem? (i := 49) rfl))
theorem lnX10_266 : pm_Ln RX10 266 mX8_apply := Or.inl (pm_tin7 _ (List.mem_of_getElem? (i := 53) rfl))
theorem lnX10_271 : pm_Ln RX10 271 mX10_atMemory := Or.inl (pm_tin7 _ (List.mem_of_getElem? (i := 204) rfl))
theorem lnX10_275 : pm_Ln RX10 275 mX10_alongMemory := Or.inl (pm_tin7 _ (List.mem_of_getElem? (i := 239) rfl))
theorem lnX10_279 : pm_Ln RX10 279 mX10_alongTable := Or.inl (pm_tin8 _ (List.mem_of_getElem? (i := 22) rfl))
theorem lnX10_282 : pm_Ln RX10 282 mX12_setItem_ := Or.inr ⟨"ModuleEngine", pm_tin8 _ (List.mem_of_getElem? (i := 48) rfl)⟩
theorem lnX10_285 : pm_Ln RX10 285 mX10_atTable := Or.inl (pm_tin8 _ (List.mem_of_getElem? (i := 49) rfl))
theorem lnX10_289 : pm_Ln RX10 289 mX6_grow := Or.inl (pm_tin7 _ (List.mem_of_getElem? (i := 208) rfl))
theorem lnX10_295 : pm_Ln RX10 295 mX6_logOfWidth := Or.inl (pm_tin7 _ (List.mem_of_getElem? (i := 210) rfl))
theorem lnX10_302 : pm_Ln RX10 302 mX6_load := Or.inl (pm_tin7 _ (List.mem_of_getElem? (i := 215) rfl))
theorem lnX10_306 : pm_Ln RX10 306 mX6_save := Or.inl (pm_tin7 _ (List.mem_of_getElem? (i := 231) rfl))
theorem flX12_103 : pm_F RX12 103 9 3 := ⟨pm_Cl9, by decide, Or.inl (pm_tin1 _ (List.mem_of_getElem? (i := 145) rfl))⟩
theorem flX12_109 : pm_F RX12 109 9 4 := ⟨pm_Cl9, by decide, Or.inl (pm_tin1 _ (List.mem_of_getElem? (i := 148) rfl))⟩
theorem flX12_115 : pm_F RX12 115 9 5 := ⟨pm_Cl9, by decide, Or.inl (pm_tin1 _ (List.mem_of_getElem? (i := 150) rfl))⟩
theorem flX12_122 : pm_F RX12 122 7 12 := ⟨pm_Cl7, by decide, Or.inl (pm_tin1 _ (List.mem_of_getElem? (i := 91) rfl))⟩
theorem flX12_126 : pm_F RX12 126 1 0 := ⟨pm_Cl1, by decide, Or.inl (pm_tin2 _ (List.mem_of_getElem? (i := 32) rfl))⟩
theorem flX12_131 : pm_F RX12 131 1 1 := ⟨pm_Cl1, by decide, Or.inl (pm_tin2 _ (List.mem_of_getElem? (i := 34) rfl))⟩
theorem flX12_174 : pm_F RX12 174 7 13 := ⟨pm_Cl7, by decide, Or.inl (pm_tin1 _ (List.mem_of_getElem? (i := 95) rfl))⟩
theorem flX12_178 : pm_F RX12 178 4 1 := ⟨pm_Cl4, by decide, Or.inl (pm_tin2 _ (List.mem_of_getElem? (i := 189) rfl))⟩
theorem flX1_217 : pm_F RX1 217 1 8 := ⟨pm_Cl1, by decide, Or.inl (pm_tin2 _ (List.mem_of_getElem? (i := 41) rfl))⟩
theorem flX1_245 : pm_F RX1 245 0 3 := ⟨pm_Cl0, by decide, Or.inl (pm_tin1 _ (List.mem_of_getElem? (i := 238) rfl))⟩
theorem flX1_248 : pm_F RX1 248 0 4 := ⟨pm_Cl0, by decide, Or.inl (pm_tin2 _ (List.mem_of_getElem? (i := 0) rfl))⟩
theorem flX1_260 : pm_F RX1 260 0 5 := ⟨pm_Cl0, by decide, Or.inl (pm_tin2 _ (List.mem_of_getElem? (i := 3) rfl))⟩
theorem flX5_261 : pm_F RX5 261 4 1 := ⟨pm_Cl4, by decide, Or.inl (pm_tin2 _ (List.mem_of_getElem? (i := 191) rfl))⟩
theorem flX5_276 : pm_F RX5 276 10 0 := ⟨pm_Cl10, by decide, Or.inl (pm_tin2 _ (List.mem_of_getElem? (i := 224) rfl))⟩
theorem flX10_270 : pm_F RX10 270 8 0 := ⟨pm_Cl8, by decide, Or.inl (pm_tin2 _ (List.mem_of_getElem? (i := 167) rfl))⟩
theorem cnX12_202 : Cond.constant RX12 202 100000 ∈ lw_tbl := pm_tin8 _ (List.mem_of_getElem? (i := 234) rfl)
theorem cnX6_76 : Cond.constantLong RX6 76 4294967295 ∈ lw_tbl := pm_tin7 _ (List.mem_of_getElem? (i := 230) rfl)
theorem mtX5_135 : Cond.methodLink RX5 135 Lib.Math.min.name ∈ lw_tbl := pm_tin9 _ (List.mem_of_getElem? (i := 25) rfl)
theorem mtX5_258 : Cond.methodLink RX5 258 Lib.MathLoose.min_long.x ∈ lw_tbl := pm_tin9 _ (List.mem_of_getElem? (i := 11) rfl)
