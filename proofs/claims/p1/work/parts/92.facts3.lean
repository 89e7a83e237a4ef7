theorem nhX3 : RX3 ≠ "java/lang/invoke/MethodHandle" ∧ RX3 ≠ "java/lang/invoke/VarHandle" := ⟨by decide, by decide⟩
theorem pnX3 : plainName RX3 = true := by decide +kernel
theorem pd91 : (parseMethodDescriptor "([II)V").map (fun d => d.parameters.length) = some 2 := by decide +kernel
theorem pd92 : (parseMethodDescriptor "(LModuleEngine$Body;)V").map (fun d => d.parameters.length) = some 1 := by decide +kernel
theorem pd93 : (parseMethodDescriptor "(LModuleEngine$Instance;LModuleEngine$Body;)V").map (fun d => d.parameters.length) = some 2 := by decide +kernel
theorem pd94 : (parseMethodDescriptor "(LModuleEngine$Store;)V").map (fun d => d.parameters.length) = some 1 := by decide +kernel
theorem pd95 : (parseMethodDescriptor "(LModuleEngine$Module;)V").map (fun d => d.parameters.length) = some 1 := by decide +kernel
theorem pd96 : (parseMethodDescriptor "(LModuleEngine$Instance;I)V").map (fun d => d.parameters.length) = some 2 := by decide +kernel
theorem pd97 : (parseMethodDescriptor "(LModuleEngine$Module;III)Z").map (fun d => d.parameters.length) = some 4 := by decide +kernel
theorem pd98 : (parseMethodDescriptor "(LModuleEngine$Module;[II)I").map (fun d => d.parameters.length) = some 3 := by decide +kernel
theorem pd99 : (parseMethodDescriptor "(IIJI)V").map (fun d => d.parameters.length) = some 4 := by decide +kernel
abbrev mX0_init : pm_M := (yX0_init, cX0_init, 3, none, 1, 23)
abbrev mX2_init : pm_M := (yX2_init, cX2_init, 2, none, 1, 20)
abbrev mX3_init : pm_M := (yX3_init, cX3_init, 3, none, 1, 20)
abbrev mX5_init : pm_M := (yX5_init, cX5_init, 4, none, 2, 45)
abbrev mX6_grow : pm_M := (yX6_grow, cX6_grow, 9, (some .int), 1, 22)
abbrev mX7_shape : pm_M := (yX7_shape, cX7_shape, 2, (some (.array .int)), 0, 0)
abbrev mX7_shapeOfFunction : pm_M := (yX7_shapeOfFunction, cX7_shapeOfFunction, 2, (some (.array .int)), 2, 44)
abbrev mX7_shareImports : pm_M := (yX7_shareImports, cX7_shareImports, 5, none, 1, 60)
abbrev mX8_init : pm_M := (yX8_init, cX8_init, 1, none, 1, 20)
abbrev mX9_closeSection : pm_M := (yX9_closeSection, cX9_closeSection, 1, none, 2, 84)
abbrev mX9_init : pm_M := (yX9_init, cX9_init, 2, none, 1, 20)
abbrev mX10_fillElement : pm_M := (yX10_fillElement, cX10_fillElement, 8, none, 5, 119)
abbrev mX10_fits : pm_M := (yX10_fits, cX10_fits, 9, (some .boolean), 2, 47)
abbrev mX10_refusal : pm_M := (yX10_refusal, cX10_refusal, 5, (some .int), 4, 98)
abbrev mX14_begin : pm_M := (yX14_begin, cX14_begin, 3, none, 0, 0)
abbrev mX14_init : pm_M := (yX14_init, cX14_init, 1, none, 1, 20)
abbrev mX15_init : pm_M := (yX15_init, cX15_init, 1, none, 1, 20)
abbrev mX16_takesImports : pm_M := (yX16_takesImports, cX16_takesImports, 7, none, 1, 25)
abbrev mX1_beginBlock : pm_M := (yX1_beginBlock, cX1_beginBlock, 5, none, 4, 91)
abbrev mX1_callByTable : pm_M := (yX1_callByTable, cX1_callByTable, 3, none, 4, 91)
abbrev mX1_callDirectly : pm_M := (yX1_callDirectly, cX1_callDirectly, 2, none, 4, 91)
abbrev mX1_makeBodies : pm_M := (yX1_makeBodies, cX1_makeBodies, 4, none, 3, 65)
abbrev mX1_shapeOfLabel : pm_M := (yX1_shapeOfLabel, cX1_shapeOfLabel, 3, (some (.array .int)), 1, 23)
abbrev mX1_startIsRight : pm_M := (yX1_startIsRight, cX1_startIsRight, 2, none, 3, 65)
abbrev mX1_takeAllResults : pm_M := (yX1_takeAllResults, cX1_takeAllResults, 3, none, 3, 70)
abbrev mX1_wantedCount : pm_M := (yX1_wantedCount, cX1_wantedCount, 2, (some .int), 2, 45)
abbrev mX1_wantedFrom : pm_M := (yX1_wantedFrom, cX1_wantedFrom, 2, (some .int), 2, 45)
abbrev mX5_callByTable : pm_M := (yX5_callByTable, cX5_callByTable, 8, none, 3, 108)
abbrev mX6_create : pm_M := (yX6_create, cX6_create, 6, (some .int), 2, 50)
abbrev mX16_make : pm_M := (yX16_make, cX16_make, 6, (some .int), 7, 156)
abbrev mX1_check : pm_M := (yX1_check, cX1_check, 3, none, 6, 148)
abbrev mX1_emitBranch : pm_M := (yX1_emitBranch, cX1_emitBranch, 6, none, 3, 68)
abbrev mX1_endBlock : pm_M := (yX1_endBlock, cX1_endBlock, 6, none, 4, 92)
abbrev mX1_otherwise : pm_M := (yX1_otherwise, cX1_otherwise, 2, none, 4, 93)
abbrev mX1_takeAndPutAgain : pm_M := (yX1_takeAndPutAgain, cX1_takeAndPutAgain, 6, none, 3, 66)
abbrev mX1_takeWanted : pm_M := (yX1_takeWanted, cX1_takeWanted, 2, none, 3, 70)
abbrev mX1_branch : pm_M := (yX1_branch, cX1_branch, 4, none, 4, 93)
abbrev mX1_branchByTable : pm_M := (yX1_branchByTable, cX1_branchByTable, 6, none, 4, 93)
abbrev mX1_control : pm_M := (yX1_control, cX1_control, 2, none, 5, 118)
theorem myX0_init : pm_My mX0_init 2 := ⟨pm_tin1 _ (List.mem_of_getElem? (i := 221) rfl), pm_tin1 _ (List.mem_of_getElem? (i := 5) rfl), nhX0.1, nhX0.2, pd91⟩
theorem iiX0_init : pm_Ii mX0_init := ⟨rfl, pm_tin1 _ (List.mem_of_getElem? (i := 220) rfl), rfl⟩
theorem myX2_init : pm_My mX2_init 1 := ⟨pm_tin3 _ (List.mem_of_getElem? (i := 67) rfl), pm_tin1 _ (List.mem_of_getElem? (i := 13) rfl), nhX2.1, nhX2.2, pd92⟩
theorem iiX2_init : pm_Ii mX2_init := ⟨rfl, pm_tin3 _ (List.mem_of_getElem? (i := 66) rfl), rfl⟩
theorem myX3_init : pm_My mX3_init 2 := ⟨pm_tin3 _ (List.mem_of_getElem? (i := 117) rfl), pm_tin1 _ (List.mem_of_getElem? (i := 14) rfl), nhX3.1, nhX3.2, pd93⟩
theorem iiX3_init : pm_Ii mX3_init := ⟨rfl, pm_tin3 _ (List.mem_of_getElem? (i := 116) rfl), rfl⟩
theorem myX5_init : pm_My mX5_init 1 := ⟨pm_tin3 _ (List.mem_of_getElem? (i := 57) rfl), pm_tin1 _ (List.mem_of_getElem? (i := 12) rfl), nhX5.1, nhX5.2, pd94⟩
theorem iiX5_init : pm_Ii mX5_init := ⟨rfl, pm_tin3 _ (List.mem_of_getElem? (i := 56) rfl), rfl⟩
theorem myX6_grow : pm_My mX6_grow 2 := ⟨pm_tin7 _ (List.mem_of_getElem? (i := 23) rfl), pm_tin1 _ (List.mem_of_getElem? (i := 9) rfl), nhX6.1, nhX6.2, pd14⟩
theorem viX6_grow : pm_Vi mX6_grow 6 := ⟨pm_Cl6, rfl, pm_tin7 _ (List.mem_of_getElem? (i := 21) rfl), pm_tin7 _ (List.mem_of_getElem? (i := 22) rfl)⟩
theorem myX7_shape : pm_My mX7_shape 1 := ⟨pm_tin5 _ (List.mem_of_getElem? (i := 93) rfl), pm_tin1 _ (List.mem_of_getElem? (i := 2) rfl), nhX7.1, nhX7.2, pd11⟩
theorem viX7_shape : pm_Vi mX7_shape 7 := ⟨pm_Cl7, rfl, pm_tin5 _ (List.mem_of_getElem? (i := 91) rfl), pm_tin5 _ (List.mem_of_getElem? (i := 92) rfl)⟩
theorem myX7_shapeOfFunction : pm_My mX7_shapeOfFunction 1 := ⟨pm_tin5 _ (List.mem_of_getElem? (i := 88) rfl), pm_tin1 _ (List.mem_of_getElem? (i := 2) rfl), nhX7.1, nhX7.2, pd11⟩
theorem viX7_shapeOfFunction : pm_Vi mX7_shapeOfFunction 7 := ⟨pm_Cl7, rfl, pm_tin5 _ (List.mem_of_getElem? (i := 86) rfl), pm_tin5 _ (List.mem_of_getElem? (i := 87) rfl)⟩
theorem myX7_shareImports : pm_My mX7_shareImports 0 := ⟨pm_tin5 _ (List.mem_of_getElem? (i := 10) rfl), pm_tin1 _ (List.mem_of_getElem? (i := 2) rfl), nhX7.1, nhX7.2, pd10⟩
theorem viX7_shareImports : pm_Vi mX7_shareImports 7 := ⟨pm_Cl7, rfl, pm_tin5 _ (List.mem_of_getElem? (i := 8) rfl), pm_tin5 _ (List.mem_of_getElem? (i := 9) rfl)⟩
theorem myX8_init : pm_My mX8_init 0 := ⟨pm_tin2 _ (List.mem_of_getElem? (i := 164) rfl), pm_tin1 _ (List.mem_of_getElem? (i := 10) rfl), nhX8.1, nhX8.2, pd10⟩
theorem iiX8_init : pm_Ii mX8_init := ⟨rfl, pm_tin2 _ (List.mem_of_getElem? (i := 163) rfl), rfl⟩
theorem myX9_closeSection : pm_My mX9_closeSection 0 := ⟨pm_tin5 _ (List.mem_of_getElem? (i := 6) rfl), pm_tin1 _ (List.mem_of_getElem? (i := 3) rfl), nhX9.1, nhX9.2, pd10⟩
theorem viX9_closeSection : pm_Vi mX9_closeSection 9 := ⟨pm_Cl9, rfl, pm_tin5 _ (List.mem_of_getElem? (i := 5) rfl), List.mem_append_left _ (List.mem_of_getElem? (i := 25) rfl)⟩
theorem myX9_init : pm_My mX9_init 1 := ⟨pm_tin1 _ (List.mem_of_getElem? (i := 138) rfl), pm_tin1 _ (List.mem_of_getElem? (i := 3) rfl), nhX9.1, nhX9.2, pd95⟩
theorem iiX9_init : pm_Ii mX9_init := ⟨rfl, pm_tin1 _ (List.mem_of_getElem? (i := 137) rfl), rfl⟩
theorem myX10_fillElement : pm_My mX10_fillElement 2 := ⟨pm_tin7 _ (List.mem_of_getElem? (i := 43) rfl), pm_tin1 _ (List.mem_of_getElem? (i := 7) rfl), nhX10.1, nhX10.2, pd96⟩
theorem viX10_fillElement : pm_Vi mX10_fillElement 10 := ⟨pm_Cl10, rfl, pm_tin7 _ (List.mem_of_getElem? (i := 42) rfl), List.mem_append_left _ (List.mem_of_getElem? (i := 90) rfl)⟩
theorem myX10_fits : pm_My mX10_fits 4 := ⟨pm_tin6 _ (List.mem_of_getElem? (i := 191) rfl), pm_tin1 _ (List.mem_of_getElem? (i := 7) rfl), nhX10.1, nhX10.2, pd97⟩
theorem viX10_fits : pm_Vi mX10_fits 10 := ⟨pm_Cl10, rfl, pm_tin6 _ (List.mem_of_getElem? (i := 190) rfl), List.mem_append_left _ (List.mem_of_getElem? (i := 85) rfl)⟩
theorem myX10_refusal : pm_My mX10_refusal 3 := ⟨pm_tin6 _ (List.mem_of_getElem? (i := 186) rfl), pm_tin1 _ (List.mem_of_getElem? (i := 7) rfl), nhX10.1, nhX10.2, pd98⟩
theorem viX10_refusal : pm_Vi mX10_refusal 10 := ⟨pm_Cl10, rfl, pm_tin6 _ (List.mem_of_getElem? (i := 184) rfl), pm_tin6 _ (List.mem_of_getElem? (i := 185) rfl)⟩
theorem myX14_begin : pm_My mX14_begin 1 := ⟨pm_tin12 _ (List.mem_of_getElem? (i := 23) rfl), pm_tin1 _ (List.mem_of_getElem? (i := 27) rfl), nhX14.1, nhX14.2, pd7⟩
theorem viX14_begin : pm_Vi mX14_begin 14 := ⟨pm_Cl14, rfl, pm_tin12 _ (List.mem_of_getElem? (i := 21) rfl), pm_tin12 _ (List.mem_of_getElem? (i := 22) rfl)⟩
theorem myX14_init : pm_My mX14_init 0 := ⟨pm_tin11 _ (List.mem_of_getElem? (i := 24) rfl), pm_tin1 _ (List.mem_of_getElem? (i := 27) rfl), nhX14.1, nhX14.2, pd10⟩
theorem iiX14_init : pm_Ii mX14_init := ⟨rfl, pm_tin11 _ (List.mem_of_getElem? (i := 23) rfl), rfl⟩
theorem myX15_init : pm_My mX15_init 0 := ⟨pm_tin9 _ (List.mem_of_getElem? (i := 162) rfl), pm_tin1 _ (List.mem_of_getElem? (i := 20) rfl), nhX15.1, nhX15.2, pd10⟩
theorem iiX15_init : pm_Ii mX15_init := ⟨rfl, pm_tin9 _ (List.mem_of_getElem? (i := 161) rfl), rfl⟩
theorem myX16_takesImports : pm_My mX16_takesImports 2 := ⟨pm_tin13 _ (List.mem_of_getElem? (i := 233) rfl), pm_tin1 _ (List.mem_of_getElem? (i := 15) rfl), nhX16.1, nhX16.2, pd8⟩
theorem viX16_takesImports : pm_Vi mX16_takesImports 16 := ⟨pm_Cl16, rfl, pm_tin13 _ (List.mem_of_getElem? (i := 232) rfl), List.mem_append_left _ (List.mem_of_getElem? (i := 224) rfl)⟩
theorem myX1_beginBlock : pm_My mX1_beginBlock 0 := ⟨pm_tin5 _ (List.mem_of_getElem? (i := 176) rfl), pm_tin1 _ (List.mem_of_getElem? (i := 4) rfl), nhX1.1, nhX1.2, pd10⟩
theorem viX1_beginBlock : pm_Vi mX1_beginBlock 1 := ⟨pm_Cl1, rfl, pm_tin5 _ (List.mem_of_getElem? (i := 175) rfl), List.mem_append_left _ (List.mem_of_getElem? (i := 51) rfl)⟩
theorem myX1_callByTable : pm_My mX1_callByTable 0 := ⟨pm_tin6 _ (List.mem_of_getElem? (i := 39) rfl), pm_tin1 _ (List.mem_of_getElem? (i := 4) rfl), nhX1.1, nhX1.2, pd10⟩
theorem viX1_callByTable : pm_Vi mX1_callByTable 1 := ⟨pm_Cl1, rfl, pm_tin6 _ (List.mem_of_getElem? (i := 38) rfl), List.mem_append_left _ (List.mem_of_getElem? (i := 73) rfl)⟩
theorem myX1_callDirectly : pm_My mX1_callDirectly 0 := ⟨pm_tin6 _ (List.mem_of_getElem? (i := 35) rfl), pm_tin1 _ (List.mem_of_getElem? (i := 4) rfl), nhX1.1, nhX1.2, pd10⟩
theorem viX1_callDirectly : pm_Vi mX1_callDirectly 1 := ⟨pm_Cl1, rfl, pm_tin6 _ (List.mem_of_getElem? (i := 34) rfl), List.mem_append_left _ (List.mem_of_getElem? (i := 72) rfl)⟩
theorem myX1_makeBodies : pm_My mX1_makeBodies 0 := ⟨pm_tin5 _ (List.mem_of_getElem? (i := 124) rfl), pm_tin1 _ (List.mem_of_getElem? (i := 4) rfl), nhX1.1, nhX1.2, pd10⟩
theorem viX1_makeBodies : pm_Vi mX1_makeBodies 1 := ⟨pm_Cl1, rfl, pm_tin5 _ (List.mem_of_getElem? (i := 123) rfl), List.mem_append_left _ (List.mem_of_getElem? (i := 41) rfl)⟩
theorem myX1_shapeOfLabel : pm_My mX1_shapeOfLabel 1 := ⟨pm_tin5 _ (List.mem_of_getElem? (i := 214) rfl), pm_tin1 _ (List.mem_of_getElem? (i := 4) rfl), nhX1.1, nhX1.2, pd11⟩
theorem viX1_shapeOfLabel : pm_Vi mX1_shapeOfLabel 1 := ⟨pm_Cl1, rfl, pm_tin5 _ (List.mem_of_getElem? (i := 213) rfl), List.mem_append_left _ (List.mem_of_getElem? (i := 60) rfl)⟩
theorem myX1_startIsRight : pm_My mX1_startIsRight 0 := ⟨pm_tin5 _ (List.mem_of_getElem? (i := 84) rfl), pm_tin1 _ (List.mem_of_getElem? (i := 4) rfl), nhX1.1, nhX1.2, pd10⟩
theorem viX1_startIsRight : pm_Vi mX1_startIsRight 1 := ⟨pm_Cl1, rfl, pm_tin5 _ (List.mem_of_getElem? (i := 83) rfl), List.mem_append_left _ (List.mem_of_getElem? (i := 34) rfl)⟩
theorem myX1_takeAllResults : pm_My mX1_takeAllResults 1 := ⟨pm_tin5 _ (List.mem_of_getElem? (i := 210) rfl), pm_tin1 _ (List.mem_of_getElem? (i := 4) rfl), nhX1.1, nhX1.2, pd7⟩
theorem viX1_takeAllResults : pm_Vi mX1_takeAllResults 1 := ⟨pm_Cl1, rfl, pm_tin5 _ (List.mem_of_getElem? (i := 209) rfl), List.mem_append_left _ (List.mem_of_getElem? (i := 59) rfl)⟩
theorem myX1_wantedCount : pm_My mX1_wantedCount 1 := ⟨pm_tin5 _ (List.mem_of_getElem? (i := 226) rfl), pm_tin1 _ (List.mem_of_getElem? (i := 4) rfl), nhX1.1, nhX1.2, pd0⟩
theorem viX1_wantedCount : pm_Vi mX1_wantedCount 1 := ⟨pm_Cl1, rfl, pm_tin5 _ (List.mem_of_getElem? (i := 225) rfl), List.mem_append_left _ (List.mem_of_getElem? (i := 63) rfl)⟩
theorem myX1_wantedFrom : pm_My mX1_wantedFrom 1 := ⟨pm_tin6 _ (List.mem_of_getElem? (i := 22) rfl), pm_tin1 _ (List.mem_of_getElem? (i := 4) rfl), nhX1.1, nhX1.2, pd0⟩
theorem viX1_wantedFrom : pm_Vi mX1_wantedFrom 1 := ⟨pm_Cl1, rfl, pm_tin6 _ (List.mem_of_getElem? (i := 21) rfl), List.mem_append_left _ (List.mem_of_getElem? (i := 69) rfl)⟩
theorem myX5_callByTable : pm_My mX5_callByTable 4 := ⟨pm_tin9 _ (List.mem_of_getElem? (i := 15) rfl), pm_tin1 _ (List.mem_of_getElem? (i := 12) rfl), nhX5.1, nhX5.2, pd99⟩
theorem viX5_callByTable : pm_Vi mX5_callByTable 5 := ⟨pm_Cl5, rfl, pm_tin9 _ (List.mem_of_getElem? (i := 14) rfl), List.mem_append_left _ (List.mem_of_getElem? (i := 133) rfl)⟩
theorem myX6_create : pm_My mX6_create 2 := ⟨pm_tin7 _ (List.mem_of_getElem? (i := 17) rfl), pm_tin1 _ (List.mem_of_getElem? (i := 9) rfl), nhX6.1, nhX6.2, pd2⟩
theorem viX6_create : pm_Vi mX6_create 6 := ⟨pm_Cl6, rfl, pm_tin7 _ (List.mem_of_getElem? (i := 15) rfl), pm_tin7 _ (List.mem_of_getElem? (i := 16) rfl)⟩
theorem myX16_make : pm_My mX16_make 1 := ⟨pm_tin13 _ (List.mem_of_getElem? (i := 212) rfl), pm_tin1 _ (List.mem_of_getElem? (i := 15) rfl), nhX16.1, nhX16.2, pd0⟩
theorem viX16_make : pm_Vi mX16_make 16 := ⟨pm_Cl16, rfl, pm_tin13 _ (List.mem_of_getElem? (i := 210) rfl), pm_tin13 _ (List.mem_of_getElem? (i := 211) rfl)⟩
theorem myX1_check : pm_My mX1_check 2 := ⟨pm_tin5 _ (List.mem_of_getElem? (i := 25) rfl), pm_tin1 _ (List.mem_of_getElem? (i := 4) rfl), nhX1.1, nhX1.2, pd24⟩
theorem viX1_check : pm_Vi mX1_check 1 := ⟨pm_Cl1, rfl, pm_tin5 _ (List.mem_of_getElem? (i := 23) rfl), pm_tin5 _ (List.mem_of_getElem? (i := 24) rfl)⟩
theorem myX1_emitBranch : pm_My mX1_emitBranch 2 := ⟨pm_tin5 _ (List.mem_of_getElem? (i := 218) rfl), pm_tin1 _ (List.mem_of_getElem? (i := 4) rfl), nhX1.1, nhX1.2, pd8⟩
theorem viX1_emitBranch : pm_Vi mX1_emitBranch 1 := ⟨pm_Cl1, rfl, pm_tin5 _ (List.mem_of_getElem? (i := 217) rfl), List.mem_append_left _ (List.mem_of_getElem? (i := 61) rfl)⟩
theorem myX1_endBlock : pm_My mX1_endBlock 0 := ⟨pm_tin5 _ (List.mem_of_getElem? (i := 239) rfl), pm_tin1 _ (List.mem_of_getElem? (i := 4) rfl), nhX1.1, nhX1.2, pd10⟩
theorem viX1_endBlock : pm_Vi mX1_endBlock 1 := ⟨pm_Cl1, rfl, pm_tin5 _ (List.mem_of_getElem? (i := 238) rfl), List.mem_append_left _ (List.mem_of_getElem? (i := 65) rfl)⟩
theorem myX1_otherwise : pm_My mX1_otherwise 0 := ⟨pm_tin5 _ (List.mem_of_getElem? (i := 206) rfl), pm_tin1 _ (List.mem_of_getElem? (i := 4) rfl), nhX1.1, nhX1.2, pd10⟩
theorem viX1_otherwise : pm_Vi mX1_otherwise 1 := ⟨pm_Cl1, rfl, pm_tin5 _ (List.mem_of_getElem? (i := 205) rfl), List.mem_append_left _ (List.mem_of_getElem? (i := 58) rfl)⟩
theorem myX1_takeAndPutAgain : pm_My mX1_takeAndPutAgain 1 := ⟨pm_tin6 _ (List.mem_of_getElem? (i := 31) rfl), pm_tin1 _ (List.mem_of_getElem? (i := 4) rfl), nhX1.1, nhX1.2, pd7⟩
theorem viX1_takeAndPutAgain : pm_Vi mX1_takeAndPutAgain 1 := ⟨pm_Cl1, rfl, pm_tin6 _ (List.mem_of_getElem? (i := 30) rfl), List.mem_append_left _ (List.mem_of_getElem? (i := 71) rfl)⟩
theorem myX1_takeWanted : pm_My mX1_takeWanted 1 := ⟨pm_tin6 _ (List.mem_of_getElem? (i := 18) rfl), pm_tin1 _ (List.mem_of_getElem? (i := 4) rfl), nhX1.1, nhX1.2, pd7⟩
theorem viX1_takeWanted : pm_Vi mX1_takeWanted 1 := ⟨pm_Cl1, rfl, pm_tin6 _ (List.mem_of_getElem? (i := 17) rfl), List.mem_append_left _ (List.mem_of_getElem? (i := 68) rfl)⟩
theorem myX1_branch : pm_My mX1_branch 1 := ⟨pm_tin6 _ (List.mem_of_getElem? (i := 14) rfl), pm_tin1 _ (List.mem_of_getElem? (i := 4) rfl), nhX1.1, nhX1.2, pd6⟩
theorem viX1_branch : pm_Vi mX1_branch 1 := ⟨pm_Cl1, rfl, pm_tin6 _ (List.mem_of_getElem? (i := 13) rfl), List.mem_append_left _ (List.mem_of_getElem? (i := 67) rfl)⟩
theorem myX1_branchByTable : pm_My mX1_branchByTable 0 := ⟨pm_tin6 _ (List.mem_of_getElem? (i := 26) rfl), pm_tin1 _ (List.mem_of_getElem? (i := 4) rfl), nhX1.1, nhX1.2, pd10⟩
theorem viX1_branchByTable : pm_Vi mX1_branchByTable 1 := ⟨pm_Cl1, rfl, pm_tin6 _ (List.mem_of_getElem? (i := 25) rfl), List.mem_append_left _ (List.mem_of_getElem? (i := 70) rfl)⟩
theorem myX1_control : pm_My mX1_control 1 := ⟨pm_tin5 _ (List.mem_of_getElem? (i := 148) rfl), pm_tin1 _ (List.mem_of_getElem? (i := 4) rfl), nhX1.1, nhX1.2, pd7⟩
theorem viX1_control : pm_Vi mX1_control 1 := ⟨pm_Cl1, rfl, pm_tin5 _ (List.mem_of_getElem? (i := 147) rfl), List.mem_append_left _ (List.mem_of_getElem? (i := 45) rfl)⟩
theorem lnX1_46 : pm_Ln RX1 46 mX0_init := Or.inl (pm_tin1 _ (List.mem_of_getElem? (i := 219) rfl))
theorem lnX1_70 : pm_Ln RX1 70 mX1_typesAreThere := Or.inl (pm_tin5 _ (List.mem_of_getElem? (i := 31) rfl))
theorem lnX1_73 : pm_Ln RX1 73 mX1_limitsAreRight := Or.inl (pm_tin5 _ (List.mem_of_getElem? (i := 50) rfl))
theorem lnX1_76 : pm_Ln RX1 76 mX1_memoryIsOne := Or.inl (pm_tin5 _ (List.mem_of_getElem? (i := 60) rfl))
theorem lnX1_79 : pm_Ln RX1 79 mX1_exportsAreRight := Or.inl (pm_tin5 _ (List.mem_of_getElem? (i := 64) rfl))
theorem lnX1_82 : pm_Ln RX1 82 mX1_startIsRight := Or.inl (pm_tin5 _ (List.mem_of_getElem? (i := 81) rfl))
theorem lnX1_85 : pm_Ln RX1 85 mX1_globalsAreRight := Or.inl (pm_tin5 _ (List.mem_of_getElem? (i := 94) rfl))
theorem lnX1_88 : pm_Ln RX1 88 mX1_elementsAreRight := Or.inl (pm_tin5 _ (List.mem_of_getElem? (i := 112) rfl))
theorem lnX1_91 : pm_Ln RX1 91 mX1_dataAreRight := Or.inl (pm_tin5 _ (List.mem_of_getElem? (i := 117) rfl))
theorem lnX1_94 : pm_Ln RX1 94 mX1_makeBodies := Or.inl (pm_tin5 _ (List.mem_of_getElem? (i := 121) rfl))
theorem lnX1_166 : pm_Ln RX1 166 mX7_shapeOfFunction := Or.inl (pm_tin5 _ (List.mem_of_getElem? (i := 85) rfl))
theorem lnX1_223 : pm_Ln RX1 223 mX1_openLabel := Or.inl (pm_tin5 _ (List.mem_of_getElem? (i := 137) rfl))
theorem lnX1_287 : pm_Ln RX1 287 mX7_shape := Or.inl (pm_tin5 _ (List.mem_of_getElem? (i := 177) rfl))
theorem lnX1_301 : pm_Ln RX1 301 mX1_shapeOfLabel := Or.inl (pm_tin5 _ (List.mem_of_getElem? (i := 211) rfl))
theorem lnX1_304 : pm_Ln RX1 304 mX1_isLoop := Or.inl (pm_tin5 _ (List.mem_of_getElem? (i := 219) rfl))
theorem lnX1_308 : pm_Ln RX1 308 mX1_wantedFrom := Or.inl (pm_tin6 _ (List.mem_of_getElem? (i := 19) rfl))
theorem lnX1_311 : pm_Ln RX1 311 mX1_wantedCount := Or.inl (pm_tin5 _ (List.mem_of_getElem? (i := 223) rfl))
theorem lnX1_357 : pm_Ln RX1 357 mX1_die := Or.inl (pm_tin5 _ (List.mem_of_getElem? (i := 169) rfl))
theorem lnX1_360 : pm_Ln RX1 360 mX1_beginBlock := Or.inl (pm_tin5 _ (List.mem_of_getElem? (i := 173) rfl))
theorem lnX1_363 : pm_Ln RX1 363 mX1_otherwise := Or.inl (pm_tin5 _ (List.mem_of_getElem? (i := 203) rfl))
theorem lnX1_366 : pm_Ln RX1 366 mX1_endBlock := Or.inl (pm_tin5 _ (List.mem_of_getElem? (i := 236) rfl))
theorem lnX1_369 : pm_Ln RX1 369 mX1_branch := Or.inl (pm_tin6 _ (List.mem_of_getElem? (i := 11) rfl))
theorem lnX1_372 : pm_Ln RX1 372 mX1_branchByTable := Or.inl (pm_tin6 _ (List.mem_of_getElem? (i := 23) rfl))
theorem lnX1_375 : pm_Ln RX1 375 mX1_takeWanted := Or.inl (pm_tin6 _ (List.mem_of_getElem? (i := 15) rfl))
theorem lnX1_378 : pm_Ln RX1 378 mX1_emitBranch := Or.inl (pm_tin5 _ (List.mem_of_getElem? (i := 215) rfl))
theorem lnX1_381 : pm_Ln RX1 381 mX1_callDirectly := Or.inl (pm_tin6 _ (List.mem_of_getElem? (i := 32) rfl))
theorem lnX1_384 : pm_Ln RX1 384 mX1_callByTable := Or.inl (pm_tin6 _ (List.mem_of_getElem? (i := 36) rfl))
theorem lnX1_387 : pm_Ln RX1 387 mX1_takeParameters := Or.inl (pm_tin5 _ (List.mem_of_getElem? (i := 183) rfl))
theorem lnX1_394 : pm_Ln RX1 394 mX1_putParameters := Or.inl (pm_tin5 _ (List.mem_of_getElem? (i := 191) rfl))
theorem lnX1_397 : pm_Ln RX1 397 mX1_takeAllResults := Or.inl (pm_tin5 _ (List.mem_of_getElem? (i := 207) rfl))
theorem lnX1_400 : pm_Ln RX1 400 mX1_aimCondition := Or.inl (pm_tin5 _ (List.mem_of_getElem? (i := 227) rfl))
theorem lnX1_406 : pm_Ln RX1 406 mX1_resultsAreParameters := Or.inl (pm_tin6 _ (List.mem_of_getElem? (i := 0) rfl))
theorem lnX1_410 : pm_Ln RX1 410 mX0_of := Or.inl (pm_tin6 _ (List.mem_of_getElem? (i := 3) rfl))
theorem lnX1_412 : pm_Ln RX1 412 mX1_putResults := Or.inl (pm_tin6 _ (List.mem_of_getElem? (i := 7) rfl))
theorem lnX1_422 : pm_Ln RX1 422 mX1_takeAndPutAgain := Or.inl (pm_tin6 _ (List.mem_of_getElem? (i := 28) rfl))
theorem lnX4_13 : pm_Ln RX4 13 mX7_count := Or.inl (pm_tin2 _ (List.mem_of_getElem? (i := 176) rfl))
theorem lnX5_30 : pm_Ln RX5 30 mX0_init := Or.inl (pm_tin3 _ (List.mem_of_getElem? (i := 62) rfl))
theorem lnX5_35 : pm_Ln RX5 35 mX2_init := Or.inl (pm_tin3 _ (List.mem_of_getElem? (i := 65) rfl))
theorem lnX5_42 : pm_Ln RX5 42 mX10_instanceAt := Or.inl (pm_tin3 _ (List.mem_of_getElem? (i := 111) rfl))
theorem lnX5_48 : pm_Ln RX5 48 mX3_init := Or.inl (pm_tin3 _ (List.mem_of_getElem? (i := 115) rfl))
theorem lnX5_84 : pm_Ln RX5 84 mX10_shapeOf := Or.inl (pm_tin8 _ (List.mem_of_getElem? (i := 76) rfl))
theorem lnX5_103 : pm_Ln RX5 103 mX5_enter := Or.inl (pm_tin8 _ (List.mem_of_getElem? (i := 84) rfl))
theorem lnX5_229 : pm_Ln RX5 229 mX11_reaches := Or.inl (pm_tin9 _ (List.mem_of_getElem? (i := 16) rfl))
theorem lnX5_235 : pm_Ln RX5 235 mX11_entry := Or.inl (pm_tin9 _ (List.mem_of_getElem? (i := 17) rfl))
theorem lnX5_243 : pm_Ln RX5 243 mX7_shape := Or.inl (pm_tin9 _ (List.mem_of_getElem? (i := 18) rfl))
theorem lnX5_247 : pm_Ln RX5 247 mX10_isSameShape := Or.inl (pm_tin9 _ (List.mem_of_getElem? (i := 19) rfl))
theorem lnX6_41 : pm_Ln RX6 41 mX12_setItem := Or.inr ⟨"ModuleEngine", pm_tin7 _ (List.mem_of_getElem? (i := 18) rfl)⟩
theorem lnX6_45 : pm_Ln RX6 45 mX12_setItem_ := Or.inr ⟨"ModuleEngine", pm_tin7 _ (List.mem_of_getElem? (i := 19) rfl)⟩
theorem lnX6_48 : pm_Ln RX6 48 mX6_grow := Or.inl (pm_tin7 _ (List.mem_of_getElem? (i := 20) rfl))
theorem lnX6_56 : pm_Ln RX6 56 mX12_item_ := Or.inr ⟨"ModuleEngine", pm_tin7 _ (List.mem_of_getElem? (i := 25) rfl)⟩
theorem lnX7_79 : pm_Ln RX7 79 mX7_imported := Or.inl (pm_tin5 _ (List.mem_of_getElem? (i := 11) rfl))
theorem lnX7_88 : pm_Ln RX7 88 mX7_setSpace := Or.inl (pm_tin5 _ (List.mem_of_getElem? (i := 16) rfl))
theorem lnX7_92 : pm_Ln RX7 92 mX7_of := Or.inl (pm_tin5 _ (List.mem_of_getElem? (i := 89) rfl))
theorem lnX7_96 : pm_Ln RX7 96 mX7_shape := Or.inl (pm_tin5 _ (List.mem_of_getElem? (i := 90) rfl))
theorem lnX9_170 : pm_Ln RX9 170 mX7_shareImports := Or.inl (pm_tin5 _ (List.mem_of_getElem? (i := 7) rfl))
theorem lnX10_108 : pm_Ln RX10 108 mX10_fits := Or.inl (pm_tin6 _ (List.mem_of_getElem? (i := 188) rfl))
theorem lnX10_115 : pm_Ln RX10 115 mX10_hasRoom := Or.inl (pm_tin6 _ (List.mem_of_getElem? (i := 208) rfl))
theorem lnX10_119 : pm_Ln RX10 119 mX10_shapeOf := Or.inl (pm_tin6 _ (List.mem_of_getElem? (i := 193) rfl))
theorem lnX10_123 : pm_Ln RX10 123 mX7_shape := Or.inl (pm_tin6 _ (List.mem_of_getElem? (i := 201) rfl))
theorem lnX10_125 : pm_Ln RX10 125 mX10_isSameShape := Or.inl (pm_tin6 _ (List.mem_of_getElem? (i := 202) rfl))
theorem lnX10_138 : pm_Ln RX10 138 mX10_isLimited := Or.inl (pm_tin6 _ (List.mem_of_getElem? (i := 205) rfl))
theorem lnX10_236 : pm_Ln RX10 236 mX9_number := Or.inl (pm_tin7 _ (List.mem_of_getElem? (i := 44) rfl))
theorem lnX16_989 : pm_Ln RX16 989 mX16_fits := Or.inl (pm_tin13 _ (List.mem_of_getElem? (i := 217) rfl))
theorem lnX16_992 : pm_Ln RX16 992 mX16_hasRoom := Or.inl (pm_tin13 _ (List.mem_of_getElem? (i := 225) rfl))
theorem lnX16_996 : pm_Ln RX16 996 mX16_takesImports := Or.inl (pm_tin13 _ (List.mem_of_getElem? (i := 230) rfl))
theorem lnX16_999 : pm_Ln RX16 999 mX16_takesOwn := Or.inl (pm_tin14 _ (List.mem_of_getElem? (i := 2) rfl))
theorem lnX16_1002 : pm_Ln RX16 1002 mX16_startsUp := Or.inl (pm_tin14 _ (List.mem_of_getElem? (i := 26) rfl))
theorem flX12_16 : pm_F RX12 16 12 3 := ⟨pm_Cl12, by decide, Or.inl (pm_tin3 _ (List.mem_of_getElem? (i := 204) rfl))⟩
theorem flX0_7 : pm_F RX0 7 0 5 := ⟨pm_Cl0, by decide, Or.inl (pm_tin2 _ (List.mem_of_getElem? (i := 1) rfl))⟩
theorem flX0_13 : pm_F RX0 13 0 7 := ⟨pm_Cl0, by decide, Or.inl (pm_tin2 _ (List.mem_of_getElem? (i := 6) rfl))⟩
theorem flX0_16 : pm_F RX0 16 0 8 := ⟨pm_Cl0, by decide, Or.inl (pm_tin2 _ (List.mem_of_getElem? (i := 9) rfl))⟩
theorem flX0_20 : pm_F RX0 20 0 0 := ⟨pm_Cl0, by decide, Or.inl (pm_tin1 _ (List.mem_of_getElem? (i := 226) rfl))⟩
theorem flX1_28 : pm_F RX1 28 1 15 := ⟨pm_Cl1, by decide, Or.inl (pm_tin2 _ (List.mem_of_getElem? (i := 48) rfl))⟩
theorem flX1_33 : pm_F RX1 33 1 16 := ⟨pm_Cl1, by decide, Or.inl (pm_tin2 _ (List.mem_of_getElem? (i := 49) rfl))⟩
theorem flX1_162 : pm_F RX1 162 7 13 := ⟨pm_Cl7, by decide, Or.inl (pm_tin1 _ (List.mem_of_getElem? (i := 96) rfl))⟩
theorem flX1_204 : pm_F RX1 204 7 11 := ⟨pm_Cl7, by decide, Or.inl (pm_tin1 _ (List.mem_of_getElem? (i := 89) rfl))⟩
theorem flX1_207 : pm_F RX1 207 7 12 := ⟨pm_Cl7, by decide, Or.inl (pm_tin1 _ (List.mem_of_getElem? (i := 93) rfl))⟩
theorem flX1_415 : pm_F RX1 415 9 1 := ⟨pm_Cl9, by decide, Or.inl (pm_tin1 _ (List.mem_of_getElem? (i := 142) rfl))⟩
theorem flX2_12 : pm_F RX2 12 2 0 := ⟨pm_Cl2, by decide, Or.inl (pm_tin3 _ (List.mem_of_getElem? (i := 70) rfl))⟩
theorem flX3_7 : pm_F RX3 7 3 0 := ⟨pm_Cl3, by decide, Or.inl (pm_tin3 _ (List.mem_of_getElem? (i := 119) rfl))⟩
theorem flX3_13 : pm_F RX3 13 3 1 := ⟨pm_Cl3, by decide, Or.inl (pm_tin3 _ (List.mem_of_getElem? (i := 121) rfl))⟩
theorem flX3_17 : pm_F RX3 17 0 1 := ⟨pm_Cl0, by decide, Or.inl (pm_tin1 _ (List.mem_of_getElem? (i := 230) rfl))⟩
theorem flX3_23 : pm_F RX3 23 3 2 := ⟨pm_Cl3, by decide, Or.inl (pm_tin3 _ (List.mem_of_getElem? (i := 123) rfl))⟩
theorem flX4_32 : pm_F RX4 32 7 9 := ⟨pm_Cl7, by decide, Or.inl (pm_tin1 _ (List.mem_of_getElem? (i := 77) rfl))⟩
theorem flX5_38 : pm_F RX5 38 5 9 := ⟨pm_Cl5, by decide, Or.inl (pm_tin3 _ (List.mem_of_getElem? (i := 164) rfl))⟩
theorem flX5_221 : pm_F RX5 221 4 2 := ⟨pm_Cl4, by decide, Or.inl (pm_tin2 _ (List.mem_of_getElem? (i := 194) rfl))⟩
theorem flX5_226 : pm_F RX5 226 10 4 := ⟨pm_Cl10, by decide, Or.inl (pm_tin2 _ (List.mem_of_getElem? (i := 233) rfl))⟩
theorem flX5_239 : pm_F RX5 239 4 0 := ⟨pm_Cl4, by decide, Or.inl (pm_tin2 _ (List.mem_of_getElem? (i := 187) rfl))⟩
theorem flX6_11 : pm_F RX6 11 6 1 := ⟨pm_Cl6, by decide, Or.inl (pm_tin2 _ (List.mem_of_getElem? (i := 137) rfl))⟩
theorem flX6_19 : pm_F RX6 19 6 3 := ⟨pm_Cl6, by decide, Or.inl (pm_tin2 _ (List.mem_of_getElem? (i := 143) rfl))⟩
theorem flX6_38 : pm_F RX6 38 6 0 := ⟨pm_Cl6, by decide, Or.inl (pm_tin2 _ (List.mem_of_getElem? (i := 135) rfl))⟩
theorem flX7_7 : pm_F RX7 7 7 1 := ⟨pm_Cl7, by decide, Or.inl (pm_tin1 _ (List.mem_of_getElem? (i := 56) rfl))⟩
theorem flX7_15 : pm_F RX7 15 7 2 := ⟨pm_Cl7, by decide, Or.inl (pm_tin1 _ (List.mem_of_getElem? (i := 59) rfl))⟩
theorem flX9_15 : pm_F RX9 15 9 18 := ⟨pm_Cl9, by decide, Or.inl (pm_tin1 _ (List.mem_of_getElem? (i := 169) rfl))⟩
theorem flX10_99 : pm_F RX10 99 7 3 := ⟨pm_Cl7, by decide, Or.inl (pm_tin1 _ (List.mem_of_getElem? (i := 64) rfl))⟩
theorem flX10_129 : pm_F RX10 129 11 2 := ⟨pm_Cl11, by decide, Or.inl (pm_tin2 _ (List.mem_of_getElem? (i := 107) rfl))⟩
theorem flX10_132 : pm_F RX10 132 11 3 := ⟨pm_Cl11, by decide, Or.inl (pm_tin2 _ (List.mem_of_getElem? (i := 109) rfl))⟩
theorem flX10_135 : pm_F RX10 135 11 4 := ⟨pm_Cl11, by decide, Or.inl (pm_tin2 _ (List.mem_of_getElem? (i := 112) rfl))⟩
theorem flX10_142 : pm_F RX10 142 6 2 := ⟨pm_Cl6, by decide, Or.inl (pm_tin2 _ (List.mem_of_getElem? (i := 141) rfl))⟩
theorem flX10_143 : pm_F RX10 143 6 3 := ⟨pm_Cl6, by decide, Or.inl (pm_tin2 _ (List.mem_of_getElem? (i := 144) rfl))⟩
theorem flX10_209 : pm_F RX10 209 4 5 := ⟨pm_Cl4, by decide, Or.inl (pm_tin2 _ (List.mem_of_getElem? (i := 200) rfl))⟩
theorem flX10_244 : pm_F RX10 244 4 6 := ⟨pm_Cl4, by decide, Or.inl (pm_tin2 _ (List.mem_of_getElem? (i := 202) rfl))⟩
theorem flX11_9 : pm_F RX11 9 11 1 := ⟨pm_Cl11, by decide, Or.inl (pm_tin2 _ (List.mem_of_getElem? (i := 103) rfl))⟩
theorem flX11_13 : pm_F RX11 13 11 2 := ⟨pm_Cl11, by decide, Or.inl (pm_tin2 _ (List.mem_of_getElem? (i := 106) rfl))⟩
theorem flX11_20 : pm_F RX11 20 11 4 := ⟨pm_Cl11, by decide, Or.inl (pm_tin2 _ (List.mem_of_getElem? (i := 111) rfl))⟩
theorem flX14_9 : pm_F RX14 9 14 2 := ⟨pm_Cl14, by decide, Or.inl (pm_tin11 _ (List.mem_of_getElem? (i := 31) rfl))⟩
theorem flX14_15 : pm_F RX14 15 14 3 := ⟨pm_Cl14, by decide, Or.inl (pm_tin11 _ (List.mem_of_getElem? (i := 33) rfl))⟩
theorem flX14_19 : pm_F RX14 19 14 5 := ⟨pm_Cl14, by decide, Or.inl (pm_tin11 _ (List.mem_of_getElem? (i := 37) rfl))⟩
theorem flX14_22 : pm_F RX14 22 14 6 := ⟨pm_Cl14, by decide, Or.inl (pm_tin11 _ (List.mem_of_getElem? (i := 39) rfl))⟩
theorem flX14_25 : pm_F RX14 25 14 7 := ⟨pm_Cl14, by decide, Or.inl (pm_tin11 _ (List.mem_of_getElem? (i := 41) rfl))⟩
theorem flX14_35 : pm_F RX14 35 14 11 := ⟨pm_Cl14, by decide, Or.inl (pm_tin11 _ (List.mem_of_getElem? (i := 49) rfl))⟩
theorem flX14_38 : pm_F RX14 38 14 12 := ⟨pm_Cl14, by decide, Or.inl (pm_tin11 _ (List.mem_of_getElem? (i := 51) rfl))⟩
theorem flX14_51 : pm_F RX14 51 14 19 := ⟨pm_Cl14, by decide, Or.inl (pm_tin11 _ (List.mem_of_getElem? (i := 65) rfl))⟩
theorem flX14_54 : pm_F RX14 54 14 20 := ⟨pm_Cl14, by decide, Or.inl (pm_tin11 _ (List.mem_of_getElem? (i := 67) rfl))⟩
theorem flX14_57 : pm_F RX14 57 14 22 := ⟨pm_Cl14, by decide, Or.inl (pm_tin11 _ (List.mem_of_getElem? (i := 71) rfl))⟩
theorem flX14_60 : pm_F RX14 60 14 23 := ⟨pm_Cl14, by decide, Or.inl (pm_tin11 _ (List.mem_of_getElem? (i := 73) rfl))⟩
theorem flX14_69 : pm_F RX14 69 14 27 := ⟨pm_Cl14, by decide, Or.inl (pm_tin11 _ (List.mem_of_getElem? (i := 81) rfl))⟩
theorem flX14_72 : pm_F RX14 72 14 29 := ⟨pm_Cl14, by decide, Or.inl (pm_tin11 _ (List.mem_of_getElem? (i := 85) rfl))⟩
theorem flX14_75 : pm_F RX14 75 14 30 := ⟨pm_Cl14, by decide, Or.inl (pm_tin11 _ (List.mem_of_getElem? (i := 87) rfl))⟩
theorem flX14_78 : pm_F RX14 78 14 31 := ⟨pm_Cl14, by decide, Or.inl (pm_tin11 _ (List.mem_of_getElem? (i := 89) rfl))⟩
theorem flX14_81 : pm_F RX14 81 14 32 := ⟨pm_Cl14, by decide, Or.inl (pm_tin11 _ (List.mem_of_getElem? (i := 91) rfl))⟩
theorem flX14_86 : pm_F RX14 86 14 33 := ⟨pm_Cl14, by decide, Or.inl (pm_tin11 _ (List.mem_of_getElem? (i := 93) rfl))⟩
theorem flX14_90 : pm_F RX14 90 14 35 := ⟨pm_Cl14, by decide, Or.inl (pm_tin11 _ (List.mem_of_getElem? (i := 97) rfl))⟩
theorem flX14_93 : pm_F RX14 93 14 36 := ⟨pm_Cl14, by decide, Or.inl (pm_tin11 _ (List.mem_of_getElem? (i := 99) rfl))⟩
theorem flX14_96 : pm_F RX14 96 14 37 := ⟨pm_Cl14, by decide, Or.inl (pm_tin11 _ (List.mem_of_getElem? (i := 101) rfl))⟩
theorem flX14_99 : pm_F RX14 99 14 38 := ⟨pm_Cl14, by decide, Or.inl (pm_tin11 _ (List.mem_of_getElem? (i := 103) rfl))⟩
theorem flX14_102 : pm_F RX14 102 14 39 := ⟨pm_Cl14, by decide, Or.inl (pm_tin11 _ (List.mem_of_getElem? (i := 105) rfl))⟩
theorem flX14_105 : pm_F RX14 105 14 40 := ⟨pm_Cl14, by decide, Or.inl (pm_tin11 _ (List.mem_of_getElem? (i := 107) rfl))⟩
theorem flX14_108 : pm_F RX14 108 14 41 := ⟨pm_Cl14, by decide, Or.inl (pm_tin11 _ (List.mem_of_getElem? (i := 109) rfl))⟩
theorem flX14_111 : pm_F RX14 111 14 42 := ⟨pm_Cl14, by decide, Or.inl (pm_tin11 _ (List.mem_of_getElem? (i := 111) rfl))⟩
theorem flX14_114 : pm_F RX14 114 14 45 := ⟨pm_Cl14, by decide, Or.inl (pm_tin11 _ (List.mem_of_getElem? (i := 117) rfl))⟩
theorem flX14_117 : pm_F RX14 117 14 46 := ⟨pm_Cl14, by decide, Or.inl (pm_tin11 _ (List.mem_of_getElem? (i := 119) rfl))⟩
theorem flX14_120 : pm_F RX14 120 14 47 := ⟨pm_Cl14, by decide, Or.inl (pm_tin11 _ (List.mem_of_getElem? (i := 121) rfl))⟩
theorem flX14_123 : pm_F RX14 123 14 48 := ⟨pm_Cl14, by decide, Or.inl (pm_tin11 _ (List.mem_of_getElem? (i := 123) rfl))⟩
theorem flX14_126 : pm_F RX14 126 14 49 := ⟨pm_Cl14, by decide, Or.inl (pm_tin11 _ (List.mem_of_getElem? (i := 125) rfl))⟩
theorem flX14_129 : pm_F RX14 129 14 51 := ⟨pm_Cl14, by decide, Or.inl (pm_tin11 _ (List.mem_of_getElem? (i := 129) rfl))⟩
theorem flX14_132 : pm_F RX14 132 14 52 := ⟨pm_Cl14, by decide, Or.inl (pm_tin11 _ (List.mem_of_getElem? (i := 131) rfl))⟩
theorem flX14_135 : pm_F RX14 135 14 53 := ⟨pm_Cl14, by decide, Or.inl (pm_tin11 _ (List.mem_of_getElem? (i := 133) rfl))⟩
theorem flX14_138 : pm_F RX14 138 14 54 := ⟨pm_Cl14, by decide, Or.inl (pm_tin11 _ (List.mem_of_getElem? (i := 135) rfl))⟩
theorem flX14_141 : pm_F RX14 141 14 55 := ⟨pm_Cl14, by decide, Or.inl (pm_tin11 _ (List.mem_of_getElem? (i := 137) rfl))⟩
theorem flX14_144 : pm_F RX14 144 14 1 := ⟨pm_Cl14, by decide, Or.inl (pm_tin11 _ (List.mem_of_getElem? (i := 29) rfl))⟩
theorem flX14_151 : pm_F RX14 151 14 56 := ⟨pm_Cl14, by decide, Or.inl (pm_tin11 _ (List.mem_of_getElem? (i := 139) rfl))⟩
theorem flX14_154 : pm_F RX14 154 14 57 := ⟨pm_Cl14, by decide, Or.inl (pm_tin11 _ (List.mem_of_getElem? (i := 141) rfl))⟩
theorem flX14_157 : pm_F RX14 157 14 4 := ⟨pm_Cl14, by decide, Or.inl (pm_tin11 _ (List.mem_of_getElem? (i := 35) rfl))⟩
theorem flX14_163 : pm_F RX14 163 14 14 := ⟨pm_Cl14, by decide, Or.inl (pm_tin11 _ (List.mem_of_getElem? (i := 55) rfl))⟩
theorem flX14_178 : pm_F RX14 178 14 28 := ⟨pm_Cl14, by decide, Or.inl (pm_tin11 _ (List.mem_of_getElem? (i := 83) rfl))⟩
theorem flX14_181 : pm_F RX14 181 14 34 := ⟨pm_Cl14, by decide, Or.inl (pm_tin11 _ (List.mem_of_getElem? (i := 95) rfl))⟩
theorem flX14_184 : pm_F RX14 184 14 43 := ⟨pm_Cl14, by decide, Or.inl (pm_tin11 _ (List.mem_of_getElem? (i := 113) rfl))⟩
theorem flX14_187 : pm_F RX14 187 14 44 := ⟨pm_Cl14, by decide, Or.inl (pm_tin11 _ (List.mem_of_getElem? (i := 115) rfl))⟩
theorem flX14_190 : pm_F RX14 190 14 50 := ⟨pm_Cl14, by decide, Or.inl (pm_tin11 _ (List.mem_of_getElem? (i := 127) rfl))⟩
theorem cnX12_9 : Cond.constant RX12 9 40960 ∈ lw_tbl := pm_tin1 _ (List.mem_of_getElem? (i := 39) rfl)
theorem cnX1_425 : Cond.constantLong RX1 425 112 ∈ lw_tbl := pm_tin6 _ (List.mem_of_getElem? (i := 40) rfl)
theorem cnX2_11 : Cond.constant RX2 11 32768 ∈ lw_tbl := pm_tin3 _ (List.mem_of_getElem? (i := 69) rfl)
theorem cnX14_84 : Cond.constantLong RX14 84 (-1) ∈ lw_tbl := pm_tin11 _ (List.mem_of_getElem? (i := 26) rfl)
theorem acX7_82 : pm_AcW RX7 82 := ⟨pm_tin5 _ (List.mem_of_getElem? (i := 15) rfl), pm_tin4 _ (List.mem_of_getElem? (i := 38) rfl), pm_tin4 _ (List.mem_of_getElem? (i := 37) rfl), pm_tin1 _ (List.mem_of_getElem? (i := 22) rfl)⟩
theorem mtX0_23 : Cond.methodLink RX0 23 Lib.Math.max.name ∈ lw_tbl := pm_tin1 _ (List.mem_of_getElem? (i := 223) rfl)
theorem mtX1_236 : Cond.methodLink RX1 236 Lib.Math.max.name ∈ lw_tbl := pm_tin5 _ (List.mem_of_getElem? (i := 178) rfl)
theorem ckX12_14 : Cond.classLink RX12 14 (pm_Rn 7) ∈ lw_tbl := pm_tin1 _ (List.mem_of_getElem? (i := 40) rfl)
theorem ckX1_44 : Cond.classLink RX1 44 (pm_Rn 0) ∈ lw_tbl := pm_tin1 _ (List.mem_of_getElem? (i := 217) rfl)
theorem ckX5_18 : Cond.classLink RX5 18 (pm_Rn 3) ∈ lw_tbl := pm_tin3 _ (List.mem_of_getElem? (i := 59) rfl)
theorem ckX5_28 : Cond.classLink RX5 28 (pm_Rn 0) ∈ lw_tbl := pm_tin3 _ (List.mem_of_getElem? (i := 61) rfl)
theorem ckX5_33 : Cond.classLink RX5 33 (pm_Rn 2) ∈ lw_tbl := pm_tin3 _ (List.mem_of_getElem? (i := 63) rfl)
theorem ckX10_9 : Cond.classLink RX10 9 (pm_Rn 11) ∈ lw_tbl := pm_tin2 _ (List.mem_of_getElem? (i := 94) rfl)
theorem cc0 : Cond.instantiable (pm_Rn 0) (pm_fN 0) ∈ lw_tbl ∧ Cond.initialized (pm_Rn 0) ∈ lw_tbl := ⟨pm_tin1 _ (List.mem_of_getElem? (i := 218) rfl), pm_tin1 _ (List.mem_of_getElem? (i := 5) rfl)⟩
theorem cc2 : Cond.instantiable (pm_Rn 2) (pm_fN 2) ∈ lw_tbl ∧ Cond.initialized (pm_Rn 2) ∈ lw_tbl := ⟨pm_tin3 _ (List.mem_of_getElem? (i := 64) rfl), pm_tin1 _ (List.mem_of_getElem? (i := 13) rfl)⟩
theorem cc3 : Cond.instantiable (pm_Rn 3) (pm_fN 3) ∈ lw_tbl ∧ Cond.initialized (pm_Rn 3) ∈ lw_tbl := ⟨pm_tin3 _ (List.mem_of_getElem? (i := 110) rfl), pm_tin1 _ (List.mem_of_getElem? (i := 14) rfl)⟩
theorem cc7 : Cond.instantiable (pm_Rn 7) (pm_fN 7) ∈ lw_tbl ∧ Cond.initialized (pm_Rn 7) ∈ lw_tbl := ⟨pm_tin1 _ (List.mem_of_getElem? (i := 42) rfl), pm_tin1 _ (List.mem_of_getElem? (i := 2) rfl)⟩
theorem cc11 : Cond.instantiable (pm_Rn 11) (pm_fN 11) ∈ lw_tbl ∧ Cond.initialized (pm_Rn 11) ∈ lw_tbl := ⟨pm_tin2 _ (List.mem_of_getElem? (i := 95) rfl), pm_tin1 _ (List.mem_of_getElem? (i := 8) rfl)⟩
theorem obX12_1 : Cond.methodLink RX12 1 objectInit ∈ lw_tbl := pm_tin1 _ (List.mem_of_getElem? (i := 36) rfl)
theorem obX0_1 : Cond.methodLink RX0 1 objectInit ∈ lw_tbl := pm_tin1 _ (List.mem_of_getElem? (i := 222) rfl)
theorem obX1_3 : Cond.methodLink RX1 3 objectInit ∈ lw_tbl := pm_tin1 _ (List.mem_of_getElem? (i := 215) rfl)
theorem obX2_3 : Cond.methodLink RX2 3 objectInit ∈ lw_tbl := pm_tin3 _ (List.mem_of_getElem? (i := 68) rfl)
theorem obX3_1 : Cond.methodLink RX3 1 objectInit ∈ lw_tbl := pm_tin3 _ (List.mem_of_getElem? (i := 118) rfl)
theorem obX4_1 : Cond.methodLink RX4 1 objectInit ∈ lw_tbl := pm_tin2 _ (List.mem_of_getElem? (i := 175) rfl)
theorem obX5_3 : Cond.methodLink RX5 3 objectInit ∈ lw_tbl := pm_tin3 _ (List.mem_of_getElem? (i := 58) rfl)
theorem obX6_3 : Cond.methodLink RX6 3 objectInit ∈ lw_tbl := pm_tin2 _ (List.mem_of_getElem? (i := 132) rfl)
theorem obX7_1 : Cond.methodLink RX7 1 objectInit ∈ lw_tbl := pm_tin1 _ (List.mem_of_getElem? (i := 46) rfl)
theorem obX8_3 : Cond.methodLink RX8 3 objectInit ∈ lw_tbl := pm_tin2 _ (List.mem_of_getElem? (i := 165) rfl)
theorem obX9_3 : Cond.methodLink RX9 3 objectInit ∈ lw_tbl := pm_tin1 _ (List.mem_of_getElem? (i := 139) rfl)
theorem obX10_3 : Cond.methodLink RX10 3 objectInit ∈ lw_tbl := pm_tin2 _ (List.mem_of_getElem? (i := 93) rfl)
theorem obX11_1 : Cond.methodLink RX11 1 objectInit ∈ lw_tbl := pm_tin2 _ (List.mem_of_getElem? (i := 99) rfl)
theorem obX14_3 : Cond.methodLink RX14 3 objectInit ∈ lw_tbl := pm_tin11 _ (List.mem_of_getElem? (i := 25) rfl)
theorem obX15_1 : Cond.methodLink RX15 1 objectInit ∈ lw_tbl := pm_tin9 _ (List.mem_of_getElem? (i := 163) rfl)
theorem fwX12_10 : Cond.fieldLink RX12 10 (pm_T 12 0).1 (pm_T 12 0).2.1 (pm_T 12 0).2.2.1 ∈ lw_tbl := pm_tin3 _ (List.mem_of_getElem? (i := 201) rfl)
theorem fwX12_16 : Cond.fieldLink RX12 16 (pm_T 12 3).1 (pm_T 12 3).2.1 (pm_T 12 3).2.2.1 ∈ lw_tbl := pm_tin3 _ (List.mem_of_getElem? (i := 204) rfl)
theorem fwX12_20 : Cond.fieldLink RX12 20 (pm_T 12 12).1 (pm_T 12 12).2.1 (pm_T 12 12).2.2.1 ∈ lw_tbl := pm_tin3 _ (List.mem_of_getElem? (i := 213) rfl)
theorem fwX12_24 : Cond.fieldLink RX12 24 (pm_T 12 14).1 (pm_T 12 14).2.1 (pm_T 12 14).2.2.1 ∈ lw_tbl := pm_tin3 _ (List.mem_of_getElem? (i := 215) rfl)
theorem fwX0_20 : Cond.fieldLink RX0 20 (pm_T 0 0).1 (pm_T 0 0).2.1 (pm_T 0 0).2.2.1 ∈ lw_tbl := pm_tin1 _ (List.mem_of_getElem? (i := 226) rfl)
theorem fwX0_29 : Cond.fieldLink RX0 29 (pm_T 0 1).1 (pm_T 0 1).2.1 (pm_T 0 1).2.2.1 ∈ lw_tbl := pm_tin1 _ (List.mem_of_getElem? (i := 231) rfl)
theorem fwX1_15 : Cond.fieldLink RX1 15 (pm_T 1 5).1 (pm_T 1 5).2.1 (pm_T 1 5).2.2.1 ∈ lw_tbl := pm_tin2 _ (List.mem_of_getElem? (i := 38) rfl)
theorem fwX1_19 : Cond.fieldLink RX1 19 (pm_T 1 9).1 (pm_T 1 9).2.1 (pm_T 1 9).2.2.1 ∈ lw_tbl := pm_tin2 _ (List.mem_of_getElem? (i := 42) rfl)
theorem fwX1_22 : Cond.fieldLink RX1 22 (pm_T 1 11).1 (pm_T 1 11).2.1 (pm_T 1 11).2.2.1 ∈ lw_tbl := pm_tin2 _ (List.mem_of_getElem? (i := 44) rfl)
theorem fwX1_25 : Cond.fieldLink RX1 25 (pm_T 1 13).1 (pm_T 1 13).2.1 (pm_T 1 13).2.2.1 ∈ lw_tbl := pm_tin2 _ (List.mem_of_getElem? (i := 46) rfl)
theorem fwX1_28 : Cond.fieldLink RX1 28 (pm_T 1 15).1 (pm_T 1 15).2.1 (pm_T 1 15).2.2.1 ∈ lw_tbl := pm_tin2 _ (List.mem_of_getElem? (i := 48) rfl)
theorem fwX2_31 : Cond.fieldLink RX2 31 (pm_T 2 10).1 (pm_T 2 10).2.1 (pm_T 2 10).2.2.1 ∈ lw_tbl := pm_tin3 _ (List.mem_of_getElem? (i := 80) rfl)
theorem fwX4_7 : Cond.fieldLink RX4 7 (pm_T 4 0).1 (pm_T 4 0).2.1 (pm_T 4 0).2.2.1 ∈ lw_tbl := pm_tin2 _ (List.mem_of_getElem? (i := 185) rfl)
theorem fwX4_19 : Cond.fieldLink RX4 19 (pm_T 4 1).1 (pm_T 4 1).2.1 (pm_T 4 1).2.2.1 ∈ lw_tbl := pm_tin2 _ (List.mem_of_getElem? (i := 188) rfl)
theorem fwX4_23 : Cond.fieldLink RX4 23 (pm_T 4 2).1 (pm_T 4 2).2.1 (pm_T 4 2).2.2.1 ∈ lw_tbl := pm_tin2 _ (List.mem_of_getElem? (i := 192) rfl)
theorem fwX4_26 : Cond.fieldLink RX4 26 (pm_T 4 3).1 (pm_T 4 3).2.1 (pm_T 4 3).2.2.1 ∈ lw_tbl := pm_tin2 _ (List.mem_of_getElem? (i := 195) rfl)
theorem fwX4_29 : Cond.fieldLink RX4 29 (pm_T 4 4).1 (pm_T 4 4).2.1 (pm_T 4 4).2.2.1 ∈ lw_tbl := pm_tin2 _ (List.mem_of_getElem? (i := 197) rfl)
theorem fwX5_9 : Cond.fieldLink RX5 9 (pm_T 5 6).1 (pm_T 5 6).2.1 (pm_T 5 6).2.2.1 ∈ lw_tbl := pm_tin3 _ (List.mem_of_getElem? (i := 159) rfl)
theorem fwX5_15 : Cond.fieldLink RX5 15 (pm_T 5 10).1 (pm_T 5 10).2.1 (pm_T 5 10).2.2.1 ∈ lw_tbl := pm_tin3 _ (List.mem_of_getElem? (i := 165) rfl)
theorem fwX5_20 : Cond.fieldLink RX5 20 (pm_T 5 11).1 (pm_T 5 11).2.1 (pm_T 5 11).2.2.1 ∈ lw_tbl := pm_tin3 _ (List.mem_of_getElem? (i := 166) rfl)
theorem fwX5_24 : Cond.fieldLink RX5 24 (pm_T 5 8).1 (pm_T 5 8).2.1 (pm_T 5 8).2.2.1 ∈ lw_tbl := pm_tin3 _ (List.mem_of_getElem? (i := 163) rfl)
theorem fwX5_38 : Cond.fieldLink RX5 38 (pm_T 5 9).1 (pm_T 5 9).2.1 (pm_T 5 9).2.2.1 ∈ lw_tbl := pm_tin3 _ (List.mem_of_getElem? (i := 164) rfl)
theorem fwX6_15 : Cond.fieldLink RX6 15 (pm_T 6 2).1 (pm_T 6 2).2.1 (pm_T 6 2).2.2.1 ∈ lw_tbl := pm_tin2 _ (List.mem_of_getElem? (i := 140) rfl)
theorem fwX6_19 : Cond.fieldLink RX6 19 (pm_T 6 3).1 (pm_T 6 3).2.1 (pm_T 6 3).2.2.1 ∈ lw_tbl := pm_tin2 _ (List.mem_of_getElem? (i := 143) rfl)
theorem fwX7_7 : Cond.fieldLink RX7 7 (pm_T 7 1).1 (pm_T 7 1).2.1 (pm_T 7 1).2.2.1 ∈ lw_tbl := pm_tin1 _ (List.mem_of_getElem? (i := 56) rfl)
theorem fwX9_9 : Cond.fieldLink RX9 9 (pm_T 9 17).1 (pm_T 9 17).2.1 (pm_T 9 17).2.2.1 ∈ lw_tbl := pm_tin1 _ (List.mem_of_getElem? (i := 168) rfl)
theorem fwX9_15 : Cond.fieldLink RX9 15 (pm_T 9 18).1 (pm_T 9 18).2.1 (pm_T 9 18).2.2.1 ∈ lw_tbl := pm_tin1 _ (List.mem_of_getElem? (i := 169) rfl)
theorem fwX11_13 : Cond.fieldLink RX11 13 (pm_T 11 2).1 (pm_T 11 2).2.1 (pm_T 11 2).2.2.1 ∈ lw_tbl := pm_tin2 _ (List.mem_of_getElem? (i := 106) rfl)
theorem fwX11_17 : Cond.fieldLink RX11 17 (pm_T 11 3).1 (pm_T 11 3).2.1 (pm_T 11 3).2.2.1 ∈ lw_tbl := pm_tin2 _ (List.mem_of_getElem? (i := 108) rfl)
theorem fwX11_20 : Cond.fieldLink RX11 20 (pm_T 11 4).1 (pm_T 11 4).2.1 (pm_T 11 4).2.2.1 ∈ lw_tbl := pm_tin2 _ (List.mem_of_getElem? (i := 111) rfl)
theorem fwX14_9 : Cond.fieldLink RX14 9 (pm_T 14 2).1 (pm_T 14 2).2.1 (pm_T 14 2).2.2.1 ∈ lw_tbl := pm_tin11 _ (List.mem_of_getElem? (i := 31) rfl)
theorem fwX14_19 : Cond.fieldLink RX14 19 (pm_T 14 5).1 (pm_T 14 5).2.1 (pm_T 14 5).2.2.1 ∈ lw_tbl := pm_tin11 _ (List.mem_of_getElem? (i := 37) rfl)
theorem fwX14_22 : Cond.fieldLink RX14 22 (pm_T 14 6).1 (pm_T 14 6).2.1 (pm_T 14 6).2.2.1 ∈ lw_tbl := pm_tin11 _ (List.mem_of_getElem? (i := 39) rfl)
theorem fwX14_25 : Cond.fieldLink RX14 25 (pm_T 14 7).1 (pm_T 14 7).2.1 (pm_T 14 7).2.2.1 ∈ lw_tbl := pm_tin11 _ (List.mem_of_getElem? (i := 41) rfl)
theorem fwX14_28 : Cond.fieldLink RX14 28 (pm_T 14 9).1 (pm_T 14 9).2.1 (pm_T 14 9).2.2.1 ∈ lw_tbl := pm_tin11 _ (List.mem_of_getElem? (i := 45) rfl)
theorem fwX14_31 : Cond.fieldLink RX14 31 (pm_T 14 10).1 (pm_T 14 10).2.1 (pm_T 14 10).2.2.1 ∈ lw_tbl := pm_tin11 _ (List.mem_of_getElem? (i := 47) rfl)
theorem fwX14_35 : Cond.fieldLink RX14 35 (pm_T 14 11).1 (pm_T 14 11).2.1 (pm_T 14 11).2.2.1 ∈ lw_tbl := pm_tin11 _ (List.mem_of_getElem? (i := 49) rfl)
theorem fwX14_38 : Cond.fieldLink RX14 38 (pm_T 14 12).1 (pm_T 14 12).2.1 (pm_T 14 12).2.2.1 ∈ lw_tbl := pm_tin11 _ (List.mem_of_getElem? (i := 51) rfl)
theorem fwX14_41 : Cond.fieldLink RX14 41 (pm_T 14 13).1 (pm_T 14 13).2.1 (pm_T 14 13).2.2.1 ∈ lw_tbl := pm_tin11 _ (List.mem_of_getElem? (i := 53) rfl)
theorem fwX14_45 : Cond.fieldLink RX14 45 (pm_T 14 16).1 (pm_T 14 16).2.1 (pm_T 14 16).2.2.1 ∈ lw_tbl := pm_tin11 _ (List.mem_of_getElem? (i := 59) rfl)
theorem fwX14_48 : Cond.fieldLink RX14 48 (pm_T 14 18).1 (pm_T 14 18).2.1 (pm_T 14 18).2.2.1 ∈ lw_tbl := pm_tin11 _ (List.mem_of_getElem? (i := 63) rfl)
theorem fwX14_51 : Cond.fieldLink RX14 51 (pm_T 14 19).1 (pm_T 14 19).2.1 (pm_T 14 19).2.2.1 ∈ lw_tbl := pm_tin11 _ (List.mem_of_getElem? (i := 65) rfl)
theorem fwX14_54 : Cond.fieldLink RX14 54 (pm_T 14 20).1 (pm_T 14 20).2.1 (pm_T 14 20).2.2.1 ∈ lw_tbl := pm_tin11 _ (List.mem_of_getElem? (i := 67) rfl)
theorem fwX14_57 : Cond.fieldLink RX14 57 (pm_T 14 22).1 (pm_T 14 22).2.1 (pm_T 14 22).2.2.1 ∈ lw_tbl := pm_tin11 _ (List.mem_of_getElem? (i := 71) rfl)
theorem fwX14_60 : Cond.fieldLink RX14 60 (pm_T 14 23).1 (pm_T 14 23).2.1 (pm_T 14 23).2.2.1 ∈ lw_tbl := pm_tin11 _ (List.mem_of_getElem? (i := 73) rfl)
theorem fwX14_63 : Cond.fieldLink RX14 63 (pm_T 14 25).1 (pm_T 14 25).2.1 (pm_T 14 25).2.2.1 ∈ lw_tbl := pm_tin11 _ (List.mem_of_getElem? (i := 77) rfl)
theorem fwX14_66 : Cond.fieldLink RX14 66 (pm_T 14 26).1 (pm_T 14 26).2.1 (pm_T 14 26).2.2.1 ∈ lw_tbl := pm_tin11 _ (List.mem_of_getElem? (i := 79) rfl)
theorem fwX14_69 : Cond.fieldLink RX14 69 (pm_T 14 27).1 (pm_T 14 27).2.1 (pm_T 14 27).2.2.1 ∈ lw_tbl := pm_tin11 _ (List.mem_of_getElem? (i := 81) rfl)
theorem fwX14_72 : Cond.fieldLink RX14 72 (pm_T 14 29).1 (pm_T 14 29).2.1 (pm_T 14 29).2.2.1 ∈ lw_tbl := pm_tin11 _ (List.mem_of_getElem? (i := 85) rfl)
theorem fwX14_75 : Cond.fieldLink RX14 75 (pm_T 14 30).1 (pm_T 14 30).2.1 (pm_T 14 30).2.2.1 ∈ lw_tbl := pm_tin11 _ (List.mem_of_getElem? (i := 87) rfl)
theorem fwX14_78 : Cond.fieldLink RX14 78 (pm_T 14 31).1 (pm_T 14 31).2.1 (pm_T 14 31).2.2.1 ∈ lw_tbl := pm_tin11 _ (List.mem_of_getElem? (i := 89) rfl)
theorem fwX14_81 : Cond.fieldLink RX14 81 (pm_T 14 32).1 (pm_T 14 32).2.1 (pm_T 14 32).2.2.1 ∈ lw_tbl := pm_tin11 _ (List.mem_of_getElem? (i := 91) rfl)
theorem fwX14_90 : Cond.fieldLink RX14 90 (pm_T 14 35).1 (pm_T 14 35).2.1 (pm_T 14 35).2.2.1 ∈ lw_tbl := pm_tin11 _ (List.mem_of_getElem? (i := 97) rfl)
theorem fwX14_93 : Cond.fieldLink RX14 93 (pm_T 14 36).1 (pm_T 14 36).2.1 (pm_T 14 36).2.2.1 ∈ lw_tbl := pm_tin11 _ (List.mem_of_getElem? (i := 99) rfl)
theorem fwX14_96 : Cond.fieldLink RX14 96 (pm_T 14 37).1 (pm_T 14 37).2.1 (pm_T 14 37).2.2.1 ∈ lw_tbl := pm_tin11 _ (List.mem_of_getElem? (i := 101) rfl)
theorem fwX14_99 : Cond.fieldLink RX14 99 (pm_T 14 38).1 (pm_T 14 38).2.1 (pm_T 14 38).2.2.1 ∈ lw_tbl := pm_tin11 _ (List.mem_of_getElem? (i := 103) rfl)
theorem fwX14_102 : Cond.fieldLink RX14 102 (pm_T 14 39).1 (pm_T 14 39).2.1 (pm_T 14 39).2.2.1 ∈ lw_tbl := pm_tin11 _ (List.mem_of_getElem? (i := 105) rfl)
theorem fwX14_105 : Cond.fieldLink RX14 105 (pm_T 14 40).1 (pm_T 14 40).2.1 (pm_T 14 40).2.2.1 ∈ lw_tbl := pm_tin11 _ (List.mem_of_getElem? (i := 107) rfl)
theorem fwX14_108 : Cond.fieldLink RX14 108 (pm_T 14 41).1 (pm_T 14 41).2.1 (pm_T 14 41).2.2.1 ∈ lw_tbl := pm_tin11 _ (List.mem_of_getElem? (i := 109) rfl)
theorem fwX14_114 : Cond.fieldLink RX14 114 (pm_T 14 45).1 (pm_T 14 45).2.1 (pm_T 14 45).2.2.1 ∈ lw_tbl := pm_tin11 _ (List.mem_of_getElem? (i := 117) rfl)
theorem fwX14_117 : Cond.fieldLink RX14 117 (pm_T 14 46).1 (pm_T 14 46).2.1 (pm_T 14 46).2.2.1 ∈ lw_tbl := pm_tin11 _ (List.mem_of_getElem? (i := 119) rfl)
theorem fwX14_120 : Cond.fieldLink RX14 120 (pm_T 14 47).1 (pm_T 14 47).2.1 (pm_T 14 47).2.2.1 ∈ lw_tbl := pm_tin11 _ (List.mem_of_getElem? (i := 121) rfl)
theorem fwX14_123 : Cond.fieldLink RX14 123 (pm_T 14 48).1 (pm_T 14 48).2.1 (pm_T 14 48).2.2.1 ∈ lw_tbl := pm_tin11 _ (List.mem_of_getElem? (i := 123) rfl)
theorem fwX14_126 : Cond.fieldLink RX14 126 (pm_T 14 49).1 (pm_T 14 49).2.1 (pm_T 14 49).2.2.1 ∈ lw_tbl := pm_tin11 _ (List.mem_of_getElem? (i := 125) rfl)
theorem fwX14_129 : Cond.fieldLink RX14 129 (pm_T 14 51).1 (pm_T 14 51).2.1 (pm_T 14 51).2.2.1 ∈ lw_tbl := pm_tin11 _ (List.mem_of_getElem? (i := 129) rfl)
theorem fwX14_132 : Cond.fieldLink RX14 132 (pm_T 14 52).1 (pm_T 14 52).2.1 (pm_T 14 52).2.2.1 ∈ lw_tbl := pm_tin11 _ (List.mem_of_getElem? (i := 131) rfl)
theorem fwX14_135 : Cond.fieldLink RX14 135 (pm_T 14 53).1 (pm_T 14 53).2.1 (pm_T 14 53).2.2.1 ∈ lw_tbl := pm_tin11 _ (List.mem_of_getElem? (i := 133) rfl)
theorem fwX14_138 : Cond.fieldLink RX14 138 (pm_T 14 54).1 (pm_T 14 54).2.1 (pm_T 14 54).2.2.1 ∈ lw_tbl := pm_tin11 _ (List.mem_of_getElem? (i := 135) rfl)
theorem fwX14_141 : Cond.fieldLink RX14 141 (pm_T 14 55).1 (pm_T 14 55).2.1 (pm_T 14 55).2.2.1 ∈ lw_tbl := pm_tin11 _ (List.mem_of_getElem? (i := 137) rfl)
theorem obI : Cond.instanceMethod objectInit ∈ lw_tbl := pm_tin1 _ (List.mem_of_getElem? (i := 37) rfl)
theorem obC : Cond.code objectInit ⟨#[0xb1]⟩ 1 none ∈ lw_tbl := pm_tin1 _ (List.mem_of_getElem? (i := 38) rfl)
theorem al0 : Cond.arrayClass (pm_aty 0) ∈ lw_tbl := pm_tin1 _ (List.mem_of_getElem? (i := 209) rfl)
theorem al1 : Cond.arrayClass (pm_aty 1) ∈ lw_tbl := pm_tin1 _ (List.mem_of_getElem? (i := 131) rfl)
theorem al2 : Cond.arrayClass (pm_aty 2) ∈ lw_tbl := pm_tin1 _ (List.mem_of_getElem? (i := 132) rfl)
theorem al3 : Cond.arrayClass (pm_aty 3) ∈ lw_tbl := pm_tin1 _ (List.mem_of_getElem? (i := 133) rfl)
theorem pm_S3I {h hb : pm_H} {a k : Nat} {v : Int32} (K : pm_S3 h hb) : pm_S3 (pm_setI h a k v) hb := K
theorem pm_S3L {h hb : pm_H} {a k : Nat} {v : Int64} (K : pm_S3 h hb) : pm_S3 (pm_setL h a k v) hb := K
theorem pm_S3R {h hb : pm_H} {a k : Nat} {v : Option Nat} (K : pm_S3 h hb) : pm_S3 (pm_setR h a k v) hb := K
theorem pm_S3CI {h hb : pm_H} {a0 sp a dp n : Nat} (K : pm_S3 h hb) : pm_S3 (pm_cpI h a0 sp a dp n) hb := K
theorem pm_S3CL {h hb : pm_H} {a0 sp a dp n : Nat} (K : pm_S3 h hb) : pm_S3 (pm_cpL h a0 sp a dp n) hb := K
theorem pa_join {g : pm_Gm} {pc : Nat} {lv : List (Nat × Value)} {st : List Value} {h hb h0 : pm_H} (K : pm_S3 h hb) (k : pm_G g pc lv st h (pm_sz h - pm_sz h0) (pm_us h - pm_us h0)) : pm_G g pc lv st h (pm_sz hb - pm_sz h0) (pm_us hb - pm_us h0) := pm_eq k rfl rfl rfl (by rw [K.1]) (by rw [K.us])
