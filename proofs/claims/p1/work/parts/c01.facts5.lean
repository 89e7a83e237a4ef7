theorem pd108 : (parseMethodDescriptor "(LModuleEngine$Reader;LModuleEngine$Module;)V").map (fun d => d.parameters.length) = some 2 := by decide +kernel
theorem pd109 : (parseMethodDescriptor "([B)V").map (fun d => d.parameters.length) = some 1 := by decide +kernel
theorem pd110 : (parseMethodDescriptor "(LModuleEngine$Module;[II)LModuleEngine$Instance;").map (fun d => d.parameters.length) = some 3 := by decide +kernel
abbrev mX1_init : pm_M := (yX1_init, cX1_init, 4, none, 2, 45)
abbrev mX4_init : pm_M := (yX4_init, cX4_init, 2, none, 2, 42)
abbrev mX6_init : pm_M := (yX6_init, cX6_init, 1, none, 1, 20)
abbrev mX7_init : pm_M := (yX7_init, cX7_init, 3, none, 1, 20)
abbrev mX9_makeRoom : pm_M := (yX9_makeRoom, cX9_makeRoom, 5, none, 2, 82)
abbrev mX9_openSection : pm_M := (yX9_openSection, cX9_openSection, 8, none, 3, 106)
abbrev mX10_create : pm_M := (yX10_create, cX10_create, 10, (some (.object "ModuleEngine$Instance")), 6, 146)
abbrev mX11_init : pm_M := (yX11_init, cX11_init, 1, none, 1, 20)
abbrev mX9_advance : pm_M := (yX9_advance, cX9_advance, 1, none, 6, 147)
abbrev mX10_init : pm_M := (yX10_init, cX10_init, 5, none, 3, 63)
abbrev mX12_init : pm_M := (yX12_init, cX12_init, 3, none, 4, 87)
theorem myX1_init : pm_My mX1_init 2 := ⟨pm_tin1 _ (List.mem_of_getElem? (i := 214) rfl), pm_tin1 _ (List.mem_of_getElem? (i := 4) rfl), nhX1.1, nhX1.2, pd108⟩
theorem iiX1_init : pm_Ii mX1_init := ⟨rfl, pm_tin1 _ (List.mem_of_getElem? (i := 213) rfl), rfl⟩
theorem myX4_init : pm_My mX4_init 1 := ⟨pm_tin2 _ (List.mem_of_getElem? (i := 174) rfl), pm_tin1 _ (List.mem_of_getElem? (i := 11) rfl), nhX4.1, nhX4.2, pd95⟩
theorem iiX4_init : pm_Ii mX4_init := ⟨rfl, pm_tin2 _ (List.mem_of_getElem? (i := 173) rfl), rfl⟩
theorem myX6_init : pm_My mX6_init 0 := ⟨pm_tin2 _ (List.mem_of_getElem? (i := 131) rfl), pm_tin1 _ (List.mem_of_getElem? (i := 9) rfl), nhX6.1, nhX6.2, pd10⟩
theorem iiX6_init : pm_Ii mX6_init := ⟨rfl, pm_tin2 _ (List.mem_of_getElem? (i := 130) rfl), rfl⟩
theorem myX7_init : pm_My mX7_init 1 := ⟨pm_tin1 _ (List.mem_of_getElem? (i := 45) rfl), pm_tin1 _ (List.mem_of_getElem? (i := 2) rfl), nhX7.1, nhX7.2, pd109⟩
theorem iiX7_init : pm_Ii mX7_init := ⟨rfl, pm_tin1 _ (List.mem_of_getElem? (i := 44) rfl), rfl⟩
theorem myX9_makeRoom : pm_My mX9_makeRoom 2 := ⟨pm_tin4 _ (List.mem_of_getElem? (i := 106) rfl), pm_tin1 _ (List.mem_of_getElem? (i := 3) rfl), nhX9.1, nhX9.2, pd33⟩
theorem viX9_makeRoom : pm_Vi mX9_makeRoom 9 := ⟨pm_Cl9, rfl, pm_tin4 _ (List.mem_of_getElem? (i := 105) rfl), List.mem_append_left _ (List.mem_of_getElem? (i := 6) rfl)⟩
theorem myX9_openSection : pm_My mX9_openSection 0 := ⟨pm_tin4 _ (List.mem_of_getElem? (i := 68) rfl), pm_tin1 _ (List.mem_of_getElem? (i := 3) rfl), nhX9.1, nhX9.2, pd10⟩
theorem viX9_openSection : pm_Vi mX9_openSection 9 := ⟨pm_Cl9, rfl, pm_tin4 _ (List.mem_of_getElem? (i := 67) rfl), List.mem_append_left _ (List.mem_of_getElem? (i := 2) rfl)⟩
theorem myX10_create : pm_My mX10_create 3 := ⟨pm_tin6 _ (List.mem_of_getElem? (i := 221) rfl), pm_tin1 _ (List.mem_of_getElem? (i := 7) rfl), nhX10.1, nhX10.2, pd110⟩
theorem viX10_create : pm_Vi mX10_create 10 := ⟨pm_Cl10, rfl, pm_tin6 _ (List.mem_of_getElem? (i := 219) rfl), pm_tin6 _ (List.mem_of_getElem? (i := 220) rfl)⟩
theorem myX11_init : pm_My mX11_init 0 := ⟨pm_tin2 _ (List.mem_of_getElem? (i := 98) rfl), pm_tin1 _ (List.mem_of_getElem? (i := 8) rfl), nhX11.1, nhX11.2, pd10⟩
theorem iiX11_init : pm_Ii mX11_init := ⟨rfl, pm_tin2 _ (List.mem_of_getElem? (i := 97) rfl), rfl⟩
theorem myX9_advance : pm_My mX9_advance 0 := ⟨pm_tin4 _ (List.mem_of_getElem? (i := 64) rfl), pm_tin1 _ (List.mem_of_getElem? (i := 3) rfl), nhX9.1, nhX9.2, pd10⟩
theorem viX9_advance : pm_Vi mX9_advance 9 := ⟨pm_Cl9, rfl, pm_tin4 _ (List.mem_of_getElem? (i := 62) rfl), pm_tin4 _ (List.mem_of_getElem? (i := 63) rfl)⟩
theorem myX10_init : pm_My mX10_init 2 := ⟨pm_tin2 _ (List.mem_of_getElem? (i := 92) rfl), pm_tin1 _ (List.mem_of_getElem? (i := 7) rfl), nhX10.1, nhX10.2, pd108⟩
theorem iiX10_init : pm_Ii mX10_init := ⟨rfl, pm_tin2 _ (List.mem_of_getElem? (i := 91) rfl), rfl⟩
theorem myX12_init : pm_My mX12_init 0 := ⟨pm_tin1 _ (List.mem_of_getElem? (i := 35) rfl), pm_tin1 _ (List.mem_of_getElem? (i := 1) rfl), nhX12.1, nhX12.2, pd10⟩
theorem iiX12_init : pm_Ii mX12_init := ⟨rfl, pm_tin1 _ (List.mem_of_getElem? (i := 34) rfl), rfl⟩
theorem lnX12_28 : pm_Ln RX12 28 mX7_init := Or.inl (pm_tin1 _ (List.mem_of_getElem? (i := 43) rfl))
theorem lnX12_33 : pm_Ln RX12 33 mX9_init := Or.inl (pm_tin1 _ (List.mem_of_getElem? (i := 136) rfl))
theorem lnX12_42 : pm_Ln RX12 42 mX1_init := Or.inl (pm_tin1 _ (List.mem_of_getElem? (i := 212) rfl))
theorem lnX12_51 : pm_Ln RX12 51 mX10_init := Or.inl (pm_tin2 _ (List.mem_of_getElem? (i := 90) rfl))
theorem lnX12_58 : pm_Ln RX12 58 mX5_init := Or.inl (pm_tin3 _ (List.mem_of_getElem? (i := 55) rfl))
theorem lnX9_108 : pm_Ln RX9 108 mX9_openSection := Or.inl (pm_tin4 _ (List.mem_of_getElem? (i := 65) rfl))
theorem lnX9_129 : pm_Ln RX9 129 mX9_own := Or.inl (pm_tin4 _ (List.mem_of_getElem? (i := 239) rfl))
theorem lnX9_139 : pm_Ln RX9 139 mX9_closeSection := Or.inl (pm_tin5 _ (List.mem_of_getElem? (i := 3) rfl))
theorem lnX9_166 : pm_Ln RX9 166 mX9_makeRoom := Or.inl (pm_tin4 _ (List.mem_of_getElem? (i := 103) rfl))
theorem lnX9_198 : pm_Ln RX9 198 mX7_setSpace := Or.inl (pm_tin4 _ (List.mem_of_getElem? (i := 128) rfl))
theorem lnX10_11 : pm_Ln RX10 11 mX11_init := Or.inr ⟨"ModuleEngine", pm_tin2 _ (List.mem_of_getElem? (i := 96) rfl)⟩
theorem lnX10_20 : pm_Ln RX10 20 mX6_init := Or.inr ⟨"ModuleEngine", pm_tin2 _ (List.mem_of_getElem? (i := 129) rfl)⟩
theorem lnX10_67 : pm_Ln RX10 67 mX8_init := Or.inr ⟨"ModuleEngine", pm_tin2 _ (List.mem_of_getElem? (i := 162) rfl)⟩
theorem lnX10_76 : pm_Ln RX10 76 mX4_init := Or.inl (pm_tin2 _ (List.mem_of_getElem? (i := 172) rfl))
theorem lnX10_83 : pm_Ln RX10 83 mX0_init := Or.inl (pm_tin2 _ (List.mem_of_getElem? (i := 222) rfl))
theorem lnX10_178 : pm_Ln RX10 178 mX10_addFunction := Or.inl (pm_tin6 _ (List.mem_of_getElem? (i := 222) rfl))
theorem lnX10_182 : pm_Ln RX10 182 mX4_numbers := Or.inl (pm_tin6 _ (List.mem_of_getElem? (i := 226) rfl))
theorem lnX10_193 : pm_Ln RX10 193 mX11_create := Or.inl (pm_tin6 _ (List.mem_of_getElem? (i := 228) rfl))
theorem lnX10_199 : pm_Ln RX10 199 mX6_create := Or.inl (pm_tin7 _ (List.mem_of_getElem? (i := 14) rfl))
theorem lnX10_205 : pm_Ln RX10 205 mX10_addGlobal := Or.inl (pm_tin7 _ (List.mem_of_getElem? (i := 28) rfl))
theorem lnX10_212 : pm_Ln RX10 212 mX10_fillElement := Or.inl (pm_tin7 _ (List.mem_of_getElem? (i := 40) rfl))
theorem flX12_36 : pm_F RX12 36 12 8 := ⟨pm_Cl12, by decide, Or.inl (pm_tin3 _ (List.mem_of_getElem? (i := 209) rfl))⟩
theorem flX12_45 : pm_F RX12 45 12 9 := ⟨pm_Cl12, by decide, Or.inl (pm_tin3 _ (List.mem_of_getElem? (i := 210) rfl))⟩
theorem flX4_37 : pm_F RX4 37 4 5 := ⟨pm_Cl4, by decide, Or.inl (pm_tin2 _ (List.mem_of_getElem? (i := 199) rfl))⟩
theorem flX4_39 : pm_F RX4 39 4 6 := ⟨pm_Cl4, by decide, Or.inl (pm_tin2 _ (List.mem_of_getElem? (i := 201) rfl))⟩
theorem flX4_42 : pm_F RX4 42 7 10 := ⟨pm_Cl7, by decide, Or.inl (pm_tin1 _ (List.mem_of_getElem? (i := 83) rfl))⟩
theorem flX4_45 : pm_F RX4 45 4 7 := ⟨pm_Cl4, by decide, Or.inl (pm_tin2 _ (List.mem_of_getElem? (i := 203) rfl))⟩
theorem flX7_34 : pm_F RX7 34 7 8 := ⟨pm_Cl7, by decide, Or.inl (pm_tin1 _ (List.mem_of_getElem? (i := 73) rfl))⟩
theorem flX7_37 : pm_F RX7 37 7 9 := ⟨pm_Cl7, by decide, Or.inl (pm_tin1 _ (List.mem_of_getElem? (i := 78) rfl))⟩
theorem flX7_40 : pm_F RX7 40 7 10 := ⟨pm_Cl7, by decide, Or.inl (pm_tin1 _ (List.mem_of_getElem? (i := 82) rfl))⟩
theorem flX7_43 : pm_F RX7 43 7 11 := ⟨pm_Cl7, by decide, Or.inl (pm_tin1 _ (List.mem_of_getElem? (i := 87) rfl))⟩
theorem flX7_48 : pm_F RX7 48 7 12 := ⟨pm_Cl7, by decide, Or.inl (pm_tin1 _ (List.mem_of_getElem? (i := 90) rfl))⟩
theorem flX7_54 : pm_F RX7 54 7 13 := ⟨pm_Cl7, by decide, Or.inl (pm_tin1 _ (List.mem_of_getElem? (i := 94) rfl))⟩
theorem flX7_58 : pm_F RX7 58 7 14 := ⟨pm_Cl7, by decide, Or.inl (pm_tin1 _ (List.mem_of_getElem? (i := 98) rfl))⟩
theorem flX7_61 : pm_F RX7 61 7 0 := ⟨pm_Cl7, by decide, Or.inl (pm_tin1 _ (List.mem_of_getElem? (i := 52) rfl))⟩
theorem flX9_163 : pm_F RX9 163 7 13 := ⟨pm_Cl7, by decide, Or.inl (pm_tin1 _ (List.mem_of_getElem? (i := 97) rfl))⟩
theorem flX10_68 : pm_F RX10 68 10 19 := ⟨pm_Cl10, by decide, Or.inl (pm_tin3 _ (List.mem_of_getElem? (i := 11) rfl))⟩
theorem cnX7_52 : Cond.constantLong RX7 52 (-1) ∈ lw_tbl := pm_tin1 _ (List.mem_of_getElem? (i := 51) rfl)
theorem ckX12_31 : Cond.classLink RX12 31 (pm_Rn 9) ∈ lw_tbl := pm_tin1 _ (List.mem_of_getElem? (i := 134) rfl)
theorem ckX12_40 : Cond.classLink RX12 40 (pm_Rn 1) ∈ lw_tbl := pm_tin1 _ (List.mem_of_getElem? (i := 210) rfl)
theorem ckX12_49 : Cond.classLink RX12 49 (pm_Rn 10) ∈ lw_tbl := pm_tin2 _ (List.mem_of_getElem? (i := 88) rfl)
theorem ckX12_56 : Cond.classLink RX12 56 (pm_Rn 5) ∈ lw_tbl := pm_tin3 _ (List.mem_of_getElem? (i := 53) rfl)
theorem ckX7_46 : Cond.classLink RX7 46 (pm_Rn 0) ∈ lw_tbl := pm_tin1 _ (List.mem_of_getElem? (i := 49) rfl)
theorem ckX10_18 : Cond.classLink RX10 18 (pm_Rn 6) ∈ lw_tbl := pm_tin2 _ (List.mem_of_getElem? (i := 127) rfl)
theorem ckX10_37 : Cond.classLink RX10 37 (pm_Rn 0) ∈ lw_tbl := pm_tin2 _ (List.mem_of_getElem? (i := 157) rfl)
theorem ckX10_65 : Cond.classLink RX10 65 (pm_Rn 8) ∈ lw_tbl := pm_tin2 _ (List.mem_of_getElem? (i := 160) rfl)
theorem cc1 : Cond.instantiable (pm_Rn 1) (pm_fN 1) ∈ lw_tbl ∧ Cond.initialized (pm_Rn 1) ∈ lw_tbl := ⟨pm_tin1 _ (List.mem_of_getElem? (i := 211) rfl), pm_tin1 _ (List.mem_of_getElem? (i := 4) rfl)⟩
theorem cc5 : Cond.instantiable (pm_Rn 5) (pm_fN 5) ∈ lw_tbl ∧ Cond.initialized (pm_Rn 5) ∈ lw_tbl := ⟨pm_tin3 _ (List.mem_of_getElem? (i := 54) rfl), pm_tin1 _ (List.mem_of_getElem? (i := 12) rfl)⟩
theorem cc6 : Cond.instantiable (pm_Rn 6) (pm_fN 6) ∈ lw_tbl ∧ Cond.initialized (pm_Rn 6) ∈ lw_tbl := ⟨pm_tin2 _ (List.mem_of_getElem? (i := 128) rfl), pm_tin1 _ (List.mem_of_getElem? (i := 9) rfl)⟩
theorem cc8 : Cond.instantiable (pm_Rn 8) (pm_fN 8) ∈ lw_tbl ∧ Cond.initialized (pm_Rn 8) ∈ lw_tbl := ⟨pm_tin2 _ (List.mem_of_getElem? (i := 161) rfl), pm_tin1 _ (List.mem_of_getElem? (i := 10) rfl)⟩
theorem cc9 : Cond.instantiable (pm_Rn 9) (pm_fN 9) ∈ lw_tbl ∧ Cond.initialized (pm_Rn 9) ∈ lw_tbl := ⟨pm_tin1 _ (List.mem_of_getElem? (i := 135) rfl), pm_tin1 _ (List.mem_of_getElem? (i := 3) rfl)⟩
theorem cc10 : Cond.instantiable (pm_Rn 10) (pm_fN 10) ∈ lw_tbl ∧ Cond.initialized (pm_Rn 10) ∈ lw_tbl := ⟨pm_tin2 _ (List.mem_of_getElem? (i := 89) rfl), pm_tin1 _ (List.mem_of_getElem? (i := 7) rfl)⟩
theorem fwX12_36 : Cond.fieldLink RX12 36 (pm_T 12 8).1 (pm_T 12 8).2.1 (pm_T 12 8).2.2.1 ∈ lw_tbl := pm_tin3 _ (List.mem_of_getElem? (i := 209) rfl)
theorem fwX12_45 : Cond.fieldLink RX12 45 (pm_T 12 9).1 (pm_T 12 9).2.1 (pm_T 12 9).2.2.1 ∈ lw_tbl := pm_tin3 _ (List.mem_of_getElem? (i := 210) rfl)
theorem fwX12_52 : Cond.fieldLink RX12 52 (pm_T 12 10).1 (pm_T 12 10).2.1 (pm_T 12 10).2.2.1 ∈ lw_tbl := pm_tin3 _ (List.mem_of_getElem? (i := 211) rfl)
theorem fwX12_61 : Cond.fieldLink RX12 61 (pm_T 12 11).1 (pm_T 12 11).2.1 (pm_T 12 11).2.2.1 ∈ lw_tbl := pm_tin3 _ (List.mem_of_getElem? (i := 212) rfl)
theorem fwX1_33 : Cond.fieldLink RX1 33 (pm_T 1 16).1 (pm_T 1 16).2.1 (pm_T 1 16).2.2.1 ∈ lw_tbl := pm_tin2 _ (List.mem_of_getElem? (i := 49) rfl)
theorem fwX1_36 : Cond.fieldLink RX1 36 (pm_T 1 3).1 (pm_T 1 3).2.1 (pm_T 1 3).2.2.1 ∈ lw_tbl := pm_tin2 _ (List.mem_of_getElem? (i := 36) rfl)
theorem fwX4_37 : Cond.fieldLink RX4 37 (pm_T 4 5).1 (pm_T 4 5).2.1 (pm_T 4 5).2.2.1 ∈ lw_tbl := pm_tin2 _ (List.mem_of_getElem? (i := 199) rfl)
theorem fwX4_39 : Cond.fieldLink RX4 39 (pm_T 4 6).1 (pm_T 4 6).2.1 (pm_T 4 6).2.2.1 ∈ lw_tbl := pm_tin2 _ (List.mem_of_getElem? (i := 201) rfl)
theorem fwX4_45 : Cond.fieldLink RX4 45 (pm_T 4 7).1 (pm_T 4 7).2.1 (pm_T 4 7).2.2.1 ∈ lw_tbl := pm_tin2 _ (List.mem_of_getElem? (i := 203) rfl)
theorem fwX6_25 : Cond.fieldLink RX6 25 (pm_T 6 4).1 (pm_T 6 4).2.1 (pm_T 6 4).2.2.1 ∈ lw_tbl := pm_tin2 _ (List.mem_of_getElem? (i := 145) rfl)
theorem fwX7_61 : Cond.fieldLink RX7 61 (pm_T 7 0).1 (pm_T 7 0).2.1 (pm_T 7 0).2.2.1 ∈ lw_tbl := pm_tin1 _ (List.mem_of_getElem? (i := 52) rfl)
theorem fwX10_12 : Cond.fieldLink RX10 12 (pm_T 10 4).1 (pm_T 10 4).2.1 (pm_T 10 4).2.2.1 ∈ lw_tbl := pm_tin2 _ (List.mem_of_getElem? (i := 231) rfl)
theorem fwX10_21 : Cond.fieldLink RX10 21 (pm_T 10 5).1 (pm_T 10 5).2.1 (pm_T 10 5).2.2.1 ∈ lw_tbl := pm_tin2 _ (List.mem_of_getElem? (i := 234) rfl)
theorem fwX10_25 : Cond.fieldLink RX10 25 (pm_T 10 6).1 (pm_T 10 6).2.1 (pm_T 10 6).2.2.1 ∈ lw_tbl := pm_tin2 _ (List.mem_of_getElem? (i := 236) rfl)
theorem fwX10_29 : Cond.fieldLink RX10 29 (pm_T 10 7).1 (pm_T 10 7).2.1 (pm_T 10 7).2.2.1 ∈ lw_tbl := pm_tin2 _ (List.mem_of_getElem? (i := 238) rfl)
theorem fwX10_33 : Cond.fieldLink RX10 33 (pm_T 10 8).1 (pm_T 10 8).2.1 (pm_T 10 8).2.2.1 ∈ lw_tbl := pm_tin3 _ (List.mem_of_getElem? (i := 0) rfl)
theorem fwX10_39 : Cond.fieldLink RX10 39 (pm_T 10 10).1 (pm_T 10 10).2.1 (pm_T 10 10).2.2.1 ∈ lw_tbl := pm_tin3 _ (List.mem_of_getElem? (i := 2) rfl)
theorem fwX10_45 : Cond.fieldLink RX10 45 (pm_T 10 11).1 (pm_T 10 11).2.1 (pm_T 10 11).2.2.1 ∈ lw_tbl := pm_tin3 _ (List.mem_of_getElem? (i := 3) rfl)
theorem fwX10_49 : Cond.fieldLink RX10 49 (pm_T 10 12).1 (pm_T 10 12).2.1 (pm_T 10 12).2.2.1 ∈ lw_tbl := pm_tin3 _ (List.mem_of_getElem? (i := 4) rfl)
theorem fwX10_52 : Cond.fieldLink RX10 52 (pm_T 10 13).1 (pm_T 10 13).2.1 (pm_T 10 13).2.2.1 ∈ lw_tbl := pm_tin3 _ (List.mem_of_getElem? (i := 5) rfl)
theorem fwX10_55 : Cond.fieldLink RX10 55 (pm_T 10 14).1 (pm_T 10 14).2.1 (pm_T 10 14).2.2.1 ∈ lw_tbl := pm_tin3 _ (List.mem_of_getElem? (i := 6) rfl)
theorem fwX10_58 : Cond.fieldLink RX10 58 (pm_T 10 15).1 (pm_T 10 15).2.1 (pm_T 10 15).2.2.1 ∈ lw_tbl := pm_tin3 _ (List.mem_of_getElem? (i := 7) rfl)
theorem fwX10_68 : Cond.fieldLink RX10 68 (pm_T 10 19).1 (pm_T 10 19).2.1 (pm_T 10 19).2.2.1 ∈ lw_tbl := pm_tin3 _ (List.mem_of_getElem? (i := 11) rfl)
theorem fwX10_72 : Cond.fieldLink RX10 72 (pm_T 10 18).1 (pm_T 10 18).2.1 (pm_T 10 18).2.2.1 ∈ lw_tbl := pm_tin3 _ (List.mem_of_getElem? (i := 10) rfl)
theorem fwX10_79 : Cond.fieldLink RX10 79 (pm_T 10 16).1 (pm_T 10 16).2.1 (pm_T 10 16).2.2.1 ∈ lw_tbl := pm_tin3 _ (List.mem_of_getElem? (i := 8) rfl)
theorem fwX11_26 : Cond.fieldLink RX11 26 (pm_T 11 5).1 (pm_T 11 5).2.1 (pm_T 11 5).2.2.1 ∈ lw_tbl := pm_tin2 _ (List.mem_of_getElem? (i := 113) rfl)
theorem cmX1_31 : Cond.classLink RX1 31 (pm_ad2 4) ∈ lw_tbl := pm_tin1 _ (List.mem_of_getElem? (i := 216) rfl)
theorem cmX4_35 : Cond.classLink RX4 35 (pm_ad2 4) ∈ lw_tbl := pm_tin2 _ (List.mem_of_getElem? (i := 184) rfl)
theorem cmX6_23 : Cond.classLink RX6 23 (pm_ad2 5) ∈ lw_tbl := pm_tin2 _ (List.mem_of_getElem? (i := 133) rfl)
theorem cmX7_13 : Cond.classLink RX7 13 (pm_ad2 4) ∈ lw_tbl := pm_tin1 _ (List.mem_of_getElem? (i := 47) rfl)
theorem cmX9_202 : Cond.classLink RX9 202 (pm_ad2 4) ∈ lw_tbl := pm_tin4 _ (List.mem_of_getElem? (i := 132) rfl)
theorem cmX11_24 : Cond.classLink RX11 24 (pm_ad2 4) ∈ lw_tbl := pm_tin2 _ (List.mem_of_getElem? (i := 100) rfl)
