theorem pd100 : (parseMethodDescriptor "([II)[I").map (fun d => d.parameters.length) = some 2 := by decide +kernel
theorem pd101 : (parseMethodDescriptor "([BI)[B").map (fun d => d.parameters.length) = some 2 := by decide +kernel
theorem pd102 : (parseMethodDescriptor "([JI)[J").map (fun d => d.parameters.length) = some 2 := by decide +kernel
theorem pd103 : (parseMethodDescriptor "(IJI)I").map (fun d => d.parameters.length) = some 3 := by decide +kernel
theorem pd104 : (parseMethodDescriptor "(I[JI)V").map (fun d => d.parameters.length) = some 3 := by decide +kernel
theorem pd105 : (parseMethodDescriptor "([JI)V").map (fun d => d.parameters.length) = some 2 := by decide +kernel
theorem pd106 : (parseMethodDescriptor "(LModuleEngine$Instance;IIIJJJ)J").map (fun d => d.parameters.length) = some 7 := by decide +kernel
theorem pd107 : (parseMethodDescriptor "(IJJ)I").map (fun d => d.parameters.length) = some 3 := by decide +kernel
abbrev mJ7_copyOf_59c91 : pm_M := (yJ7_copyOf_59c91, cJ7_copyOf_59c91, 3, (some (.array .int)), 1, 60)
abbrev mJ7_copyOf_9075b : pm_M := (yJ7_copyOf_9075b, cJ7_copyOf_9075b, 3, (some (.array .byte)), 1, 60)
abbrev mJ7_copyOf_c38d5 : pm_M := (yJ7_copyOf_c38d5, cJ7_copyOf_c38d5, 3, (some (.array .long)), 1, 60)
abbrev mX2_compile : pm_M := (yX2_compile, cX2_compile, 4, none, 4, 97)
abbrev mX5_settle : pm_M := (yX5_settle, cX5_settle, 3, none, 5, 128)
abbrev mX9_functionType : pm_M := (yX9_functionType, cX9_functionType, 8, none, 2, 82)
abbrev mX11_grow : pm_M := (yX11_grow, cX11_grow, 10, (some .int), 3, 82)
abbrev mX5_begin : pm_M := (yX5_begin, cX5_begin, 6, none, 6, 150)
abbrev mX5_goOn : pm_M := (yX5_goOn, cX5_goOn, 6, none, 6, 150)
abbrev mX10_alongTable : pm_M := (yX10_alongTable, cX10_alongTable, 14, (some .long), 4, 111)
abbrev mX11_create : pm_M := (yX11_create, cX11_create, 7, (some .int), 4, 111)
abbrev mX12_answer : pm_M := (yX12_answer, cX12_answer, 2, (some .boolean), 7, 175)
abbrev mX12_call : pm_M := (yX12_call, cX12_call, 6, (some .boolean), 7, 175)
theorem myJ7_copyOf_59c91 : pm_My mJ7_copyOf_59c91 2 := ⟨pm_tin4 _ (List.mem_of_getElem? (i := 148) rfl), pm_tin1 _ (List.mem_of_getElem? (i := 21) rfl), nhJ7.1, nhJ7.2, pd100⟩
theorem stJ7_copyOf_59c91 : pm_St mJ7_copyOf_59c91 := pm_tin4 _ (List.mem_of_getElem? (i := 147) rfl)
theorem myJ7_copyOf_9075b : pm_My mJ7_copyOf_9075b 2 := ⟨pm_tin4 _ (List.mem_of_getElem? (i := 25) rfl), pm_tin1 _ (List.mem_of_getElem? (i := 21) rfl), nhJ7.1, nhJ7.2, pd101⟩
theorem stJ7_copyOf_9075b : pm_St mJ7_copyOf_9075b := pm_tin4 _ (List.mem_of_getElem? (i := 24) rfl)
theorem myJ7_copyOf_c38d5 : pm_My mJ7_copyOf_c38d5 2 := ⟨pm_tin4 _ (List.mem_of_getElem? (i := 122) rfl), pm_tin1 _ (List.mem_of_getElem? (i := 21) rfl), nhJ7.1, nhJ7.2, pd102⟩
theorem stJ7_copyOf_c38d5 : pm_St mJ7_copyOf_c38d5 := pm_tin4 _ (List.mem_of_getElem? (i := 121) rfl)
theorem myX2_compile : pm_My mX2_compile 1 := ⟨pm_tin8 _ (List.mem_of_getElem? (i := 122) rfl), pm_tin1 _ (List.mem_of_getElem? (i := 13) rfl), nhX2.1, nhX2.2, pd92⟩
theorem viX2_compile : pm_Vi mX2_compile 2 := ⟨pm_Cl2, rfl, pm_tin8 _ (List.mem_of_getElem? (i := 120) rfl), pm_tin8 _ (List.mem_of_getElem? (i := 121) rfl)⟩
theorem myX5_settle : pm_My mX5_settle 0 := ⟨pm_tin8 _ (List.mem_of_getElem? (i := 117) rfl), pm_tin1 _ (List.mem_of_getElem? (i := 12) rfl), nhX5.1, nhX5.2, pd10⟩
theorem viX5_settle : pm_Vi mX5_settle 5 := ⟨pm_Cl5, rfl, pm_tin8 _ (List.mem_of_getElem? (i := 116) rfl), List.mem_append_left _ (List.mem_of_getElem? (i := 108) rfl)⟩
theorem myX9_functionType : pm_My mX9_functionType 0 := ⟨pm_tin4 _ (List.mem_of_getElem? (i := 136) rfl), pm_tin1 _ (List.mem_of_getElem? (i := 3) rfl), nhX9.1, nhX9.2, pd10⟩
theorem viX9_functionType : pm_Vi mX9_functionType 9 := ⟨pm_Cl9, rfl, pm_tin4 _ (List.mem_of_getElem? (i := 135) rfl), List.mem_append_left _ (List.mem_of_getElem? (i := 8) rfl)⟩
theorem myX11_grow : pm_My mX11_grow 3 := ⟨pm_tin6 _ (List.mem_of_getElem? (i := 237) rfl), pm_tin1 _ (List.mem_of_getElem? (i := 8) rfl), nhX11.1, nhX11.2, pd103⟩
theorem viX11_grow : pm_Vi mX11_grow 11 := ⟨pm_Cl11, rfl, pm_tin6 _ (List.mem_of_getElem? (i := 235) rfl), pm_tin6 _ (List.mem_of_getElem? (i := 236) rfl)⟩
theorem myX5_begin : pm_My mX5_begin 3 := ⟨pm_tin8 _ (List.mem_of_getElem? (i := 75) rfl), pm_tin1 _ (List.mem_of_getElem? (i := 12) rfl), nhX5.1, nhX5.2, pd104⟩
theorem viX5_begin : pm_Vi mX5_begin 5 := ⟨pm_Cl5, rfl, pm_tin8 _ (List.mem_of_getElem? (i := 73) rfl), pm_tin8 _ (List.mem_of_getElem? (i := 74) rfl)⟩
theorem myX5_goOn : pm_My mX5_goOn 2 := ⟨pm_tin9 _ (List.mem_of_getElem? (i := 46) rfl), pm_tin1 _ (List.mem_of_getElem? (i := 12) rfl), nhX5.1, nhX5.2, pd105⟩
theorem viX5_goOn : pm_Vi mX5_goOn 5 := ⟨pm_Cl5, rfl, pm_tin9 _ (List.mem_of_getElem? (i := 44) rfl), pm_tin9 _ (List.mem_of_getElem? (i := 45) rfl)⟩
theorem myX10_alongTable : pm_My mX10_alongTable 7 := ⟨pm_tin8 _ (List.mem_of_getElem? (i := 25) rfl), pm_tin1 _ (List.mem_of_getElem? (i := 7) rfl), nhX10.1, nhX10.2, pd106⟩
theorem viX10_alongTable : pm_Vi mX10_alongTable 10 := ⟨pm_Cl10, rfl, pm_tin8 _ (List.mem_of_getElem? (i := 24) rfl), List.mem_append_left _ (List.mem_of_getElem? (i := 101) rfl)⟩
theorem myX11_create : pm_My mX11_create 3 := ⟨pm_tin6 _ (List.mem_of_getElem? (i := 231) rfl), pm_tin1 _ (List.mem_of_getElem? (i := 8) rfl), nhX11.1, nhX11.2, pd107⟩
theorem viX11_create : pm_Vi mX11_create 11 := ⟨pm_Cl11, rfl, pm_tin6 _ (List.mem_of_getElem? (i := 229) rfl), pm_tin6 _ (List.mem_of_getElem? (i := 230) rfl)⟩
theorem myX12_answer : pm_My mX12_answer 0 := ⟨pm_tin9 _ (List.mem_of_getElem? (i := 42) rfl), pm_tin1 _ (List.mem_of_getElem? (i := 1) rfl), nhX12.1, nhX12.2, pd12⟩
theorem viX12_answer : pm_Vi mX12_answer 12 := ⟨pm_Cl12, rfl, pm_tin9 _ (List.mem_of_getElem? (i := 40) rfl), pm_tin9 _ (List.mem_of_getElem? (i := 41) rfl)⟩
theorem myX12_call : pm_My mX12_call 2 := ⟨pm_tin8 _ (List.mem_of_getElem? (i := 223) rfl), pm_tin1 _ (List.mem_of_getElem? (i := 1) rfl), nhX12.1, nhX12.2, pd26⟩
theorem viX12_call : pm_Vi mX12_call 12 := ⟨pm_Cl12, rfl, pm_tin8 _ (List.mem_of_getElem? (i := 221) rfl), pm_tin8 _ (List.mem_of_getElem? (i := 222) rfl)⟩
theorem lnX12_185 : pm_Ln RX12 185 mX5_begin := Or.inl (pm_tin8 _ (List.mem_of_getElem? (i := 72) rfl))
theorem lnX12_198 : pm_Ln RX12 198 mX12_argumentsAre := Or.inl (pm_tin8 _ (List.mem_of_getElem? (i := 225) rfl))
theorem lnX12_214 : pm_Ln RX12 214 mX5_goOn := Or.inl (pm_tin9 _ (List.mem_of_getElem? (i := 43) rfl))
theorem lnX2_66 : pm_Ln RX2 66 mX2_markTargets := Or.inl (pm_tin8 _ (List.mem_of_getElem? (i := 123) rfl))
theorem lnX2_69 : pm_Ln RX2 69 mX2_translate := Or.inl (pm_tin8 _ (List.mem_of_getElem? (i := 131) rfl))
theorem lnX2_73 : pm_Ln RX2 73 mX2_aimBranches := Or.inl (pm_tin8 _ (List.mem_of_getElem? (i := 194) rfl))
theorem lnX2_76 : pm_Ln RX2 76 mJ7_copyOf_59c91 := Or.inl (pm_tin8 _ (List.mem_of_getElem? (i := 198) rfl))
theorem lnX2_85 : pm_Ln RX2 85 mJ7_copyOf_c38d5 := Or.inl (pm_tin8 _ (List.mem_of_getElem? (i := 199) rfl))
theorem lnX5_95 : pm_Ln RX5 95 mX5_toldBits := Or.inl (pm_tin8 _ (List.mem_of_getElem? (i := 79) rfl))
theorem lnX5_107 : pm_Ln RX5 107 mX5_settle := Or.inl (pm_tin8 _ (List.mem_of_getElem? (i := 114) rfl))
theorem lnX5_155 : pm_Ln RX5 155 mX2_compile := Or.inl (pm_tin8 _ (List.mem_of_getElem? (i := 119) rfl))
theorem lnX5_158 : pm_Ln RX5 158 mX5_chooseCode := Or.inl (pm_tin8 _ (List.mem_of_getElem? (i := 200) rfl))
theorem lnX5_161 : pm_Ln RX5 161 mX5_goFreely := Or.inl (pm_tin8 _ (List.mem_of_getElem? (i := 204) rfl))
theorem lnX9_111 : pm_Ln RX9 111 mX9_functionType := Or.inl (pm_tin4 _ (List.mem_of_getElem? (i := 133) rfl))
theorem lnX9_114 : pm_Ln RX9 114 mX9_importOne := Or.inl (pm_tin4 _ (List.mem_of_getElem? (i := 154) rfl))
theorem lnX9_117 : pm_Ln RX9 117 mX9_exportOne := Or.inl (pm_tin4 _ (List.mem_of_getElem? (i := 176) rfl))
theorem lnX9_120 : pm_Ln RX9 120 mX9_element := Or.inl (pm_tin4 _ (List.mem_of_getElem? (i := 185) rfl))
theorem lnX9_123 : pm_Ln RX9 123 mX9_body := Or.inl (pm_tin4 _ (List.mem_of_getElem? (i := 230) rfl))
theorem lnX9_126 : pm_Ln RX9 126 mX9_dataOne := Or.inl (pm_tin4 _ (List.mem_of_getElem? (i := 235) rfl))
theorem lnX9_142 : pm_Ln RX9 142 mX9_rank := Or.inl (pm_tin4 _ (List.mem_of_getElem? (i := 69) rfl))
theorem lnX9_192 : pm_Ln RX9 192 mJ7_copyOf_c38d5 := Or.inl (pm_tin4 _ (List.mem_of_getElem? (i := 120) rfl))
theorem lnX9_225 : pm_Ln RX9 225 mJ7_copyOf_59c91 := Or.inl (pm_tin4 _ (List.mem_of_getElem? (i := 146) rfl))
theorem lnX10_333 : pm_Ln RX10 333 mX11_grow := Or.inl (pm_tin8 _ (List.mem_of_getElem? (i := 26) rfl))
theorem lnX10_336 : pm_Ln RX10 336 mX11_copyFrom := Or.inl (pm_tin8 _ (List.mem_of_getElem? (i := 31) rfl))
theorem lnX10_340 : pm_Ln RX10 340 mX11_copy := Or.inl (pm_tin8 _ (List.mem_of_getElem? (i := 39) rfl))
theorem lnX10_343 : pm_Ln RX10 343 mX11_fill := Or.inl (pm_tin8 _ (List.mem_of_getElem? (i := 47) rfl))
theorem lnX11_32 : pm_Ln RX11 32 mX12_setItem := Or.inr ⟨"ModuleEngine", pm_tin6 _ (List.mem_of_getElem? (i := 232) rfl)⟩
theorem lnX11_38 : pm_Ln RX11 38 mX12_setItem_ := Or.inr ⟨"ModuleEngine", pm_tin6 _ (List.mem_of_getElem? (i := 233) rfl)⟩
theorem lnX11_41 : pm_Ln RX11 41 mX11_grow := Or.inl (pm_tin6 _ (List.mem_of_getElem? (i := 234) rfl))
theorem lnX11_49 : pm_Ln RX11 49 mX12_item_ := Or.inr ⟨"ModuleEngine", pm_tin6 _ (List.mem_of_getElem? (i := 239) rfl)⟩
theorem lnX11_63 : pm_Ln RX11 63 mJ7_copyOf_59c91 := Or.inl (pm_tin7 _ (List.mem_of_getElem? (i := 3) rfl))
theorem lnX11_69 : pm_Ln RX11 69 mX11_fill := Or.inl (pm_tin7 _ (List.mem_of_getElem? (i := 4) rfl))
theorem flX2_38 : pm_F RX2 38 0 6 := ⟨pm_Cl0, by decide, Or.inl (pm_tin2 _ (List.mem_of_getElem? (i := 4) rfl))⟩
theorem flX2_47 : pm_F RX2 47 0 3 := ⟨pm_Cl0, by decide, Or.inl (pm_tin1 _ (List.mem_of_getElem? (i := 236) rfl))⟩
theorem flX2_82 : pm_F RX2 82 0 7 := ⟨pm_Cl0, by decide, Or.inl (pm_tin2 _ (List.mem_of_getElem? (i := 7) rfl))⟩
theorem flX2_88 : pm_F RX2 88 0 8 := ⟨pm_Cl0, by decide, Or.inl (pm_tin2 _ (List.mem_of_getElem? (i := 10) rfl))⟩
theorem flX5_152 : pm_F RX5 152 0 6 := ⟨pm_Cl0, by decide, Or.inl (pm_tin2 _ (List.mem_of_getElem? (i := 5) rfl))⟩
theorem flX9_136 : pm_F RX9 136 9 14 := ⟨pm_Cl9, by decide, Or.inl (pm_tin1 _ (List.mem_of_getElem? (i := 165) rfl))⟩
theorem flX9_149 : pm_F RX9 149 7 1 := ⟨pm_Cl7, by decide, Or.inl (pm_tin1 _ (List.mem_of_getElem? (i := 58) rfl))⟩
theorem flX9_204 : pm_F RX9 204 7 2 := ⟨pm_Cl7, by decide, Or.inl (pm_tin1 _ (List.mem_of_getElem? (i := 61) rfl))⟩
theorem flX10_191 : pm_F RX10 191 4 2 := ⟨pm_Cl4, by decide, Or.inl (pm_tin2 _ (List.mem_of_getElem? (i := 193) rfl))⟩
theorem flX11_29 : pm_F RX11 29 11 0 := ⟨pm_Cl11, by decide, Or.inl (pm_tin2 _ (List.mem_of_getElem? (i := 101) rfl))⟩
theorem cnX5_144 : Cond.constant RX5 144 1000000 ∈ lw_tbl := pm_tin8 _ (List.mem_of_getElem? (i := 118) rfl)
theorem cnX9_173 : Cond.constantLong RX9 173 64 ∈ lw_tbl := pm_tin4 _ (List.mem_of_getElem? (i := 107) rfl)
theorem cnX9_217 : Cond.constantLong RX9 217 16 ∈ lw_tbl := pm_tin4 _ (List.mem_of_getElem? (i := 137) rfl)
theorem cnX10_293 : Cond.constantLong RX10 293 4294967295 ∈ lw_tbl := pm_tin7 _ (List.mem_of_getElem? (i := 209) rfl)
theorem cnX11_52 : Cond.constantLong RX11 52 4294967295 ∈ lw_tbl := pm_tin7 _ (List.mem_of_getElem? (i := 0) rfl)
theorem acJ7_150 : pm_AcW RJ7 150 := ⟨pm_tin4 _ (List.mem_of_getElem? (i := 36) rfl), pm_tin4 _ (List.mem_of_getElem? (i := 38) rfl), pm_tin4 _ (List.mem_of_getElem? (i := 37) rfl), pm_tin1 _ (List.mem_of_getElem? (i := 22) rfl)⟩
theorem mtX9_178 : Cond.methodLink RX9 178 Lib.MathLoose.min_long.x ∈ lw_tbl := pm_tin4 _ (List.mem_of_getElem? (i := 112) rfl)
theorem mtX9_182 : Cond.methodLink RX9 182 Lib.MathLoose.max_long.x ∈ lw_tbl := pm_tin4 _ (List.mem_of_getElem? (i := 115) rfl)
theorem mtX9_222 : Cond.methodLink RX9 222 Lib.Math.min.name ∈ lw_tbl := pm_tin4 _ (List.mem_of_getElem? (i := 145) rfl)
theorem mtX11_54 : Cond.methodLink RX11 54 Lib.Math.max.name ∈ lw_tbl := pm_tin7 _ (List.mem_of_getElem? (i := 1) rfl)
theorem mtX11_60 : Cond.methodLink RX11 60 Lib.Math.min.name ∈ lw_tbl := pm_tin7 _ (List.mem_of_getElem? (i := 2) rfl)
theorem mtJ7_304 : Cond.methodLink RJ7 304 Lib.Math.min.name ∈ lw_tbl := pm_tin4 _ (List.mem_of_getElem? (i := 33) rfl)
theorem ckX10_43 : Cond.classLink RX10 43 (pm_Rn 4) ∈ lw_tbl := pm_tin2 _ (List.mem_of_getElem? (i := 158) rfl)
theorem cc4 : Cond.instantiable (pm_Rn 4) (pm_fN 4) ∈ lw_tbl ∧ Cond.initialized (pm_Rn 4) ∈ lw_tbl := ⟨pm_tin2 _ (List.mem_of_getElem? (i := 171) rfl), pm_tin1 _ (List.mem_of_getElem? (i := 11) rfl)⟩
theorem cwJ7_310 : pm_ClW RJ7 310 (pm_ad 1) := ⟨pm_tin4 _ (List.mem_of_getElem? (i := 26) rfl), pm_tin4 _ (List.mem_of_getElem? (i := 27) rfl), pm_tin4 _ (List.mem_of_getElem? (i := 28) rfl), pm_tin4 _ (List.mem_of_getElem? (i := 29) rfl), pm_tin4 _ (List.mem_of_getElem? (i := 30) rfl), pm_tin4 _ (List.mem_of_getElem? (i := 31) rfl)⟩
theorem cwJ7_316 : pm_ClW RJ7 316 (pm_ad 2) := ⟨pm_tin4 _ (List.mem_of_getElem? (i := 149) rfl), pm_tin4 _ (List.mem_of_getElem? (i := 150) rfl), pm_tin4 _ (List.mem_of_getElem? (i := 28) rfl), pm_tin4 _ (List.mem_of_getElem? (i := 29) rfl), pm_tin4 _ (List.mem_of_getElem? (i := 151) rfl), pm_tin4 _ (List.mem_of_getElem? (i := 152) rfl)⟩
theorem cwJ7_319 : pm_ClW RJ7 319 (pm_ad 3) := ⟨pm_tin4 _ (List.mem_of_getElem? (i := 123) rfl), pm_tin4 _ (List.mem_of_getElem? (i := 124) rfl), pm_tin4 _ (List.mem_of_getElem? (i := 28) rfl), pm_tin4 _ (List.mem_of_getElem? (i := 29) rfl), pm_tin4 _ (List.mem_of_getElem? (i := 125) rfl), pm_tin4 _ (List.mem_of_getElem? (i := 126) rfl)⟩
theorem caJ7_311 : Cond.classLink RJ7 311 (pm_ad 1) ∈ lw_tbl := pm_tin4 _ (List.mem_of_getElem? (i := 32) rfl)
theorem caJ7_317 : Cond.classLink RJ7 317 (pm_ad 2) ∈ lw_tbl := pm_tin4 _ (List.mem_of_getElem? (i := 153) rfl)
theorem caJ7_320 : Cond.classLink RJ7 320 (pm_ad 3) ∈ lw_tbl := pm_tin4 _ (List.mem_of_getElem? (i := 127) rfl)
