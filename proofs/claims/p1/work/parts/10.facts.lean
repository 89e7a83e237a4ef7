theorem pm_tin1 : ∀ w ∈ tables_1_1, w ∈ lw_tbl := fun w h => List.mem_append_right _ (show w ∈ tables_1 from List.mem_append_left _ h)
theorem pm_tin2 : ∀ w ∈ tables_1_2, w ∈ lw_tbl := fun w h => List.mem_append_right _ (show w ∈ tables_1 from List.mem_append_right _ (List.mem_append_left _ h))
theorem pm_tin3 : ∀ w ∈ tables_1_3, w ∈ lw_tbl := fun w h => List.mem_append_right _ (show w ∈ tables_1 from List.mem_append_right _ (List.mem_append_right _ (List.mem_append_left _ h)))
theorem pm_tin4 : ∀ w ∈ tables_1_4, w ∈ lw_tbl := fun w h => List.mem_append_right _ (show w ∈ tables_1 from List.mem_append_right _ (List.mem_append_right _ (List.mem_append_right _ (List.mem_append_left _ h))))
theorem pm_tin5 : ∀ w ∈ tables_1_5, w ∈ lw_tbl := fun w h => List.mem_append_right _ (show w ∈ tables_1 from List.mem_append_right _ (List.mem_append_right _ (List.mem_append_right _ (List.mem_append_right _ (List.mem_append_left _ h)))))
theorem pm_tin6 : ∀ w ∈ tables_1_6, w ∈ lw_tbl := fun w h => List.mem_append_right _ (show w ∈ tables_1 from List.mem_append_right _ (List.mem_append_right _ (List.mem_append_right _ (List.mem_append_right _ (List.mem_append_right _ (List.mem_append_left _ h))))))
theorem pm_tin7 : ∀ w ∈ tables_1_7, w ∈ lw_tbl := fun w h => List.mem_append_right _ (show w ∈ tables_1 from List.mem_append_right _ (List.mem_append_right _ (List.mem_append_right _ (List.mem_append_right _ (List.mem_append_right _ (List.mem_append_right _ (List.mem_append_left _ h)))))))
theorem pm_tin8 : ∀ w ∈ tables_1_8, w ∈ lw_tbl := fun w h => List.mem_append_right _ (show w ∈ tables_1 from List.mem_append_right _ (List.mem_append_right _ (List.mem_append_right _ (List.mem_append_right _ (List.mem_append_right _ (List.mem_append_right _ (List.mem_append_right _ (List.mem_append_left _ h))))))))
theorem pm_tin9 : ∀ w ∈ tables_1_9, w ∈ lw_tbl := fun w h => List.mem_append_right _ (show w ∈ tables_1 from List.mem_append_right _ (List.mem_append_right _ (List.mem_append_right _ (List.mem_append_right _ (List.mem_append_right _ (List.mem_append_right _ (List.mem_append_right _ (List.mem_append_right _ (List.mem_append_left _ h)))))))))
theorem pm_tin10 : ∀ w ∈ tables_1_10, w ∈ lw_tbl := fun w h => List.mem_append_right _ (show w ∈ tables_1 from List.mem_append_right _ (List.mem_append_right _ (List.mem_append_right _ (List.mem_append_right _ (List.mem_append_right _ (List.mem_append_right _ (List.mem_append_right _ (List.mem_append_right _ (List.mem_append_right _ (List.mem_append_left _ h))))))))))
theorem pm_tin11 : ∀ w ∈ tables_1_11, w ∈ lw_tbl := fun w h => List.mem_append_right _ (show w ∈ tables_1 from List.mem_append_right _ (List.mem_append_right _ (List.mem_append_right _ (List.mem_append_right _ (List.mem_append_right _ (List.mem_append_right _ (List.mem_append_right _ (List.mem_append_right _ (List.mem_append_right _ (List.mem_append_right _ (List.mem_append_left _ h)))))))))))
theorem pm_tin12 : ∀ w ∈ tables_1_12, w ∈ lw_tbl := fun w h => List.mem_append_right _ (show w ∈ tables_1 from List.mem_append_right _ (List.mem_append_right _ (List.mem_append_right _ (List.mem_append_right _ (List.mem_append_right _ (List.mem_append_right _ (List.mem_append_right _ (List.mem_append_right _ (List.mem_append_right _ (List.mem_append_right _ (List.mem_append_right _ (List.mem_append_left _ h))))))))))))
theorem pm_tin13 : ∀ w ∈ tables_1_13, w ∈ lw_tbl := fun w h => List.mem_append_right _ (show w ∈ tables_1 from List.mem_append_right _ (List.mem_append_right _ (List.mem_append_right _ (List.mem_append_right _ (List.mem_append_right _ (List.mem_append_right _ (List.mem_append_right _ (List.mem_append_right _ (List.mem_append_right _ (List.mem_append_right _ (List.mem_append_right _ (List.mem_append_right _ (List.mem_append_left _ h)))))))))))))
theorem pm_tin14 : ∀ w ∈ tables_1_14, w ∈ lw_tbl := fun w h => List.mem_append_right _ (show w ∈ tables_1 from List.mem_append_right _ (List.mem_append_right _ (List.mem_append_right _ (List.mem_append_right _ (List.mem_append_right _ (List.mem_append_right _ (List.mem_append_right _ (List.mem_append_right _ (List.mem_append_right _ (List.mem_append_right _ (List.mem_append_right _ (List.mem_append_right _ (List.mem_append_right _ (List.mem_append_left _ h))))))))))))))
theorem pm_tin15 : ∀ w ∈ tables_1_15, w ∈ lw_tbl := fun w h => List.mem_append_right _ (show w ∈ tables_1 from List.mem_append_right _ (List.mem_append_right _ (List.mem_append_right _ (List.mem_append_right _ (List.mem_append_right _ (List.mem_append_right _ (List.mem_append_right _ (List.mem_append_right _ (List.mem_append_right _ (List.mem_append_right _ (List.mem_append_right _ (List.mem_append_right _ (List.mem_append_right _ (List.mem_append_right _ (h)))))))))))))))
theorem nhJ13 : RJ13 ≠ "java/lang/invoke/MethodHandle" ∧ RJ13 ≠ "java/lang/invoke/VarHandle" := ⟨by decide, by decide⟩
theorem pnJ13 : plainName RJ13 = true := by decide +kernel
theorem nhJ6 : RJ6 ≠ "java/lang/invoke/MethodHandle" ∧ RJ6 ≠ "java/lang/invoke/VarHandle" := ⟨by decide, by decide⟩
theorem pnJ6 : plainName RJ6 = true := by decide +kernel
theorem nhX0 : RX0 ≠ "java/lang/invoke/MethodHandle" ∧ RX0 ≠ "java/lang/invoke/VarHandle" := ⟨by decide, by decide⟩
theorem pnX0 : plainName RX0 = true := by decide +kernel
theorem nhX1 : RX1 ≠ "java/lang/invoke/MethodHandle" ∧ RX1 ≠ "java/lang/invoke/VarHandle" := ⟨by decide, by decide⟩
theorem pnX1 : plainName RX1 = true := by decide +kernel
theorem nhX10 : RX10 ≠ "java/lang/invoke/MethodHandle" ∧ RX10 ≠ "java/lang/invoke/VarHandle" := ⟨by decide, by decide⟩
theorem pnX10 : plainName RX10 = true := by decide +kernel
theorem nhX11 : RX11 ≠ "java/lang/invoke/MethodHandle" ∧ RX11 ≠ "java/lang/invoke/VarHandle" := ⟨by decide, by decide⟩
theorem pnX11 : plainName RX11 = true := by decide +kernel
theorem nhX12 : RX12 ≠ "java/lang/invoke/MethodHandle" ∧ RX12 ≠ "java/lang/invoke/VarHandle" := ⟨by decide, by decide⟩
theorem pnX12 : plainName RX12 = true := by decide +kernel
theorem nhX14 : RX14 ≠ "java/lang/invoke/MethodHandle" ∧ RX14 ≠ "java/lang/invoke/VarHandle" := ⟨by decide, by decide⟩
theorem pnX14 : plainName RX14 = true := by decide +kernel
theorem nhX15 : RX15 ≠ "java/lang/invoke/MethodHandle" ∧ RX15 ≠ "java/lang/invoke/VarHandle" := ⟨by decide, by decide⟩
theorem pnX15 : plainName RX15 = true := by decide +kernel
theorem nhX16 : RX16 ≠ "java/lang/invoke/MethodHandle" ∧ RX16 ≠ "java/lang/invoke/VarHandle" := ⟨by decide, by decide⟩
theorem pnX16 : plainName RX16 = true := by decide +kernel
theorem nhX2 : RX2 ≠ "java/lang/invoke/MethodHandle" ∧ RX2 ≠ "java/lang/invoke/VarHandle" := ⟨by decide, by decide⟩
theorem pnX2 : plainName RX2 = true := by decide +kernel
theorem nhX4 : RX4 ≠ "java/lang/invoke/MethodHandle" ∧ RX4 ≠ "java/lang/invoke/VarHandle" := ⟨by decide, by decide⟩
theorem pnX4 : plainName RX4 = true := by decide +kernel
theorem nhX5 : RX5 ≠ "java/lang/invoke/MethodHandle" ∧ RX5 ≠ "java/lang/invoke/VarHandle" := ⟨by decide, by decide⟩
theorem pnX5 : plainName RX5 = true := by decide +kernel
theorem nhX6 : RX6 ≠ "java/lang/invoke/MethodHandle" ∧ RX6 ≠ "java/lang/invoke/VarHandle" := ⟨by decide, by decide⟩
theorem pnX6 : plainName RX6 = true := by decide +kernel
theorem nhX7 : RX7 ≠ "java/lang/invoke/MethodHandle" ∧ RX7 ≠ "java/lang/invoke/VarHandle" := ⟨by decide, by decide⟩
theorem pnX7 : plainName RX7 = true := by decide +kernel
theorem nhX8 : RX8 ≠ "java/lang/invoke/MethodHandle" ∧ RX8 ≠ "java/lang/invoke/VarHandle" := ⟨by decide, by decide⟩
theorem pnX8 : plainName RX8 = true := by decide +kernel
theorem nhX9 : RX9 ≠ "java/lang/invoke/MethodHandle" ∧ RX9 ≠ "java/lang/invoke/VarHandle" := ⟨by decide, by decide⟩
theorem pnX9 : plainName RX9 = true := by decide +kernel
theorem pd0 : (parseMethodDescriptor "(I)I").map (fun d => d.parameters.length) = some 1 := by decide +kernel
theorem pd1 : (parseMethodDescriptor "(J)I").map (fun d => d.parameters.length) = some 1 := by decide +kernel
theorem pd2 : (parseMethodDescriptor "(JJ)I").map (fun d => d.parameters.length) = some 2 := by decide +kernel
theorem pd3 : (parseMethodDescriptor "(JJ)J").map (fun d => d.parameters.length) = some 2 := by decide +kernel
theorem pd4 : (parseMethodDescriptor "(IIIII)I").map (fun d => d.parameters.length) = some 5 := by decide +kernel
theorem pd5 : (parseMethodDescriptor "(II)I").map (fun d => d.parameters.length) = some 2 := by decide +kernel
theorem pd6 : (parseMethodDescriptor "(J)V").map (fun d => d.parameters.length) = some 1 := by decide +kernel
theorem pd7 : (parseMethodDescriptor "(I)V").map (fun d => d.parameters.length) = some 1 := by decide +kernel
theorem pd8 : (parseMethodDescriptor "(II)V").map (fun d => d.parameters.length) = some 2 := by decide +kernel
theorem pd9 : (parseMethodDescriptor "(I)Z").map (fun d => d.parameters.length) = some 1 := by decide +kernel
theorem pd10 : (parseMethodDescriptor "()V").map (fun d => d.parameters.length) = some 0 := by decide +kernel
theorem pd11 : (parseMethodDescriptor "(I)[I").map (fun d => d.parameters.length) = some 1 := by decide +kernel
theorem pd12 : (parseMethodDescriptor "()Z").map (fun d => d.parameters.length) = some 0 := by decide +kernel
theorem pd13 : (parseMethodDescriptor "(IJ)J").map (fun d => d.parameters.length) = some 2 := by decide +kernel
theorem pd14 : (parseMethodDescriptor "(IJ)I").map (fun d => d.parameters.length) = some 2 := by decide +kernel
theorem pd15 : (parseMethodDescriptor "(IJI)V").map (fun d => d.parameters.length) = some 3 := by decide +kernel
theorem pd16 : (parseMethodDescriptor "(I[J)V").map (fun d => d.parameters.length) = some 2 := by decide +kernel
theorem pd17 : (parseMethodDescriptor "(I)[J").map (fun d => d.parameters.length) = some 1 := by decide +kernel
theorem pd18 : (parseMethodDescriptor "(IJJI)J").map (fun d => d.parameters.length) = some 4 := by decide +kernel
theorem pd19 : (parseMethodDescriptor "(III)J").map (fun d => d.parameters.length) = some 3 := by decide +kernel
theorem pd20 : (parseMethodDescriptor "(I)J").map (fun d => d.parameters.length) = some 1 := by decide +kernel
theorem pd21 : (parseMethodDescriptor "(IJ)Z").map (fun d => d.parameters.length) = some 2 := by decide +kernel
theorem pd22 : (parseMethodDescriptor "(IIZ)Z").map (fun d => d.parameters.length) = some 3 := by decide +kernel
theorem pd23 : (parseMethodDescriptor "()I").map (fun d => d.parameters.length) = some 0 := by decide +kernel
theorem pd24 : (parseMethodDescriptor "(LModuleEngine$Module;I)V").map (fun d => d.parameters.length) = some 2 := by decide +kernel
theorem pd25 : (parseMethodDescriptor "(I)LModuleEngine$Body;").map (fun d => d.parameters.length) = some 1 := by decide +kernel
theorem pd26 : (parseMethodDescriptor "(II)Z").map (fun d => d.parameters.length) = some 2 := by decide +kernel
theorem pd27 : (parseMethodDescriptor "(I)LModuleEngine$Instance;").map (fun d => d.parameters.length) = some 1 := by decide +kernel
theorem pd28 : (parseMethodDescriptor "([I[I)Z").map (fun d => d.parameters.length) = some 2 := by decide +kernel
theorem pd29 : (parseMethodDescriptor "([II)I").map (fun d => d.parameters.length) = some 2 := by decide +kernel
theorem pd30 : (parseMethodDescriptor "([JI)J").map (fun d => d.parameters.length) = some 2 := by decide +kernel
theorem pd31 : (parseMethodDescriptor "([III)V").map (fun d => d.parameters.length) = some 3 := by decide +kernel
theorem pd32 : (parseMethodDescriptor "([JIJ)V").map (fun d => d.parameters.length) = some 3 := by decide +kernel
theorem pd33 : (parseMethodDescriptor "(IJ)V").map (fun d => d.parameters.length) = some 2 := by decide +kernel
theorem pd34 : (parseMethodDescriptor "(JJZ)Z").map (fun d => d.parameters.length) = some 3 := by decide +kernel
theorem pd35 : (parseMethodDescriptor "(IIIJJJ)Z").map (fun d => d.parameters.length) = some 6 := by decide +kernel
theorem pd36 : (parseMethodDescriptor "(IZ)V").map (fun d => d.parameters.length) = some 2 := by decide +kernel
theorem pd37 : (parseMethodDescriptor "(Z)V").map (fun d => d.parameters.length) = some 1 := by decide +kernel
theorem pd38 : (parseMethodDescriptor "(III)V").map (fun d => d.parameters.length) = some 3 := by decide +kernel
theorem pd39 : (parseMethodDescriptor "(IIII)V").map (fun d => d.parameters.length) = some 4 := by decide +kernel
theorem pd40 : (parseMethodDescriptor "(LModuleEngineModel$Plan;I)Z").map (fun d => d.parameters.length) = some 2 := by decide +kernel
theorem pd41 : (parseMethodDescriptor "(IIII)Z").map (fun d => d.parameters.length) = some 4 := by decide +kernel
theorem pd42 : (parseMethodDescriptor "(JJ)Z").map (fun d => d.parameters.length) = some 2 := by decide +kernel
theorem pd43 : (parseMethodDescriptor "(IJJJJ)Z").map (fun d => d.parameters.length) = some 5 := by decide +kernel
theorem pd44 : (parseMethodDescriptor "(IIIZ)V").map (fun d => d.parameters.length) = some 4 := by decide +kernel
theorem pd45 : (parseMethodDescriptor "(JI)I").map (fun d => d.parameters.length) = some 2 := by decide +kernel
theorem pd46 : (parseMethodDescriptor "(IJJ)J").map (fun d => d.parameters.length) = some 3 := by decide +kernel
theorem pd47 : (parseMethodDescriptor "(I)LModuleEngineModel$Plan;").map (fun d => d.parameters.length) = some 1 := by decide +kernel
theorem pd48 : (parseMethodDescriptor "()J").map (fun d => d.parameters.length) = some 0 := by decide +kernel
theorem pd49 : (parseMethodDescriptor "(IJB)V").map (fun d => d.parameters.length) = some 3 := by decide +kernel
theorem pd50 : (parseMethodDescriptor "(III)I").map (fun d => d.parameters.length) = some 3 := by decide +kernel
theorem pd51 : (parseMethodDescriptor "(IZJ)J").map (fun d => d.parameters.length) = some 3 := by decide +kernel
theorem pd52 : (parseMethodDescriptor "(JIZ)I").map (fun d => d.parameters.length) = some 3 := by decide +kernel
theorem pd53 : (parseMethodDescriptor "([JI)Z").map (fun d => d.parameters.length) = some 2 := by decide +kernel
theorem pd54 : (parseMethodDescriptor "([I)Z").map (fun d => d.parameters.length) = some 1 := by decide +kernel
theorem pd55 : (parseMethodDescriptor "(LModuleEngine$Body;I)V").map (fun d => d.parameters.length) = some 2 := by decide +kernel
theorem pd56 : (parseMethodDescriptor "(IJJ)Z").map (fun d => d.parameters.length) = some 3 := by decide +kernel
theorem pd57 : (parseMethodDescriptor "(IIJJ)J").map (fun d => d.parameters.length) = some 4 := by decide +kernel
theorem pd58 : (parseMethodDescriptor "([JIIJ)Z").map (fun d => d.parameters.length) = some 4 := by decide +kernel
theorem pd59 : (parseMethodDescriptor "(LModuleEngine$Module;I)J").map (fun d => d.parameters.length) = some 2 := by decide +kernel
theorem pd60 : (parseMethodDescriptor "(IIJJJ)V").map (fun d => d.parameters.length) = some 5 := by decide +kernel
theorem pd61 : (parseMethodDescriptor "([IIJJJ)V").map (fun d => d.parameters.length) = some 5 := by decide +kernel
theorem pd62 : (parseMethodDescriptor "([III)Z").map (fun d => d.parameters.length) = some 3 := by decide +kernel
theorem pd63 : (parseMethodDescriptor "(II)J").map (fun d => d.parameters.length) = some 2 := by decide +kernel
theorem pd64 : (parseMethodDescriptor "(IJJJ)J").map (fun d => d.parameters.length) = some 4 := by decide +kernel
theorem pd65 : (parseMethodDescriptor "(IIJ)I").map (fun d => d.parameters.length) = some 3 := by decide +kernel
theorem pd66 : (parseMethodDescriptor "(IZJJIZ)J").map (fun d => d.parameters.length) = some 6 := by decide +kernel
theorem pd67 : (parseMethodDescriptor "(IJJJJ)J").map (fun d => d.parameters.length) = some 5 := by decide +kernel
theorem pd68 : (parseMethodDescriptor "(ILModuleEngineModel$Real;LModuleEngineModel$Real;)J").map (fun d => d.parameters.length) = some 3 := by decide +kernel
theorem pd69 : (parseMethodDescriptor "(IJIZZ)J").map (fun d => d.parameters.length) = some 5 := by decide +kernel
theorem pd70 : (parseMethodDescriptor "(IIJ)J").map (fun d => d.parameters.length) = some 3 := by decide +kernel
theorem pd71 : (parseMethodDescriptor "(IIII)I").map (fun d => d.parameters.length) = some 4 := by decide +kernel
theorem pd72 : (parseMethodDescriptor "(IIZI)V").map (fun d => d.parameters.length) = some 4 := by decide +kernel
theorem pd73 : (parseMethodDescriptor "([I)V").map (fun d => d.parameters.length) = some 1 := by decide +kernel
theorem pd74 : (parseMethodDescriptor "(LModuleEngine$Module;[II)Z").map (fun d => d.parameters.length) = some 3 := by decide +kernel
theorem pd75 : (parseMethodDescriptor "(IJJZ)J").map (fun d => d.parameters.length) = some 4 := by decide +kernel
theorem pd76 : (parseMethodDescriptor "(IIJJ)Z").map (fun d => d.parameters.length) = some 4 := by decide +kernel
theorem pd77 : (parseMethodDescriptor "(IJZ)J").map (fun d => d.parameters.length) = some 3 := by decide +kernel
abbrev mJ6_bitCount_0f7a4 : pm_M := (yJ6_bitCount_0f7a4, cJ6_bitCount_0f7a4, 1, (some .int), 0, 0)
abbrev mJ6_numberOfLeadingZeros_0f7a4 : pm_M := (yJ6_numberOfLeadingZeros_0f7a4, cJ6_numberOfLeadingZeros_0f7a4, 2, (some .int), 0, 0)
abbrev mJ6_numberOfTrailingZeros_0f7a4 : pm_M := (yJ6_numberOfTrailingZeros_0f7a4, cJ6_numberOfTrailingZeros_0f7a4, 2, (some .int), 0, 0)
abbrev mJ13_bitCount_95d88 : pm_M := (yJ13_bitCount_95d88, cJ13_bitCount_95d88, 2, (some .int), 0, 0)
abbrev mJ13_compare_74951 : pm_M := (yJ13_compare_74951, cJ13_compare_74951, 4, (some .int), 0, 0)
abbrev mJ13_divideUnsigned_f86c9 : pm_M := (yJ13_divideUnsigned_f86c9, cJ13_divideUnsigned_f86c9, 8, (some .long), 0, 0)
abbrev mJ13_numberOfLeadingZeros_95d88 : pm_M := (yJ13_numberOfLeadingZeros_95d88, cJ13_numberOfLeadingZeros_95d88, 3, (some .int), 1, 21)
abbrev mJ13_numberOfTrailingZeros_95d88 : pm_M := (yJ13_numberOfTrailingZeros_95d88, cJ13_numberOfTrailingZeros_95d88, 3, (some .int), 1, 21)
abbrev mJ13_remainderUnsigned_f86c9 : pm_M := (yJ13_remainderUnsigned_f86c9, cJ13_remainderUnsigned_f86c9, 8, (some .long), 0, 0)
abbrev mX0_emit : pm_M := (yX0_emit, cX0_emit, 7, (some .int), 0, 0)
abbrev mX0_of : pm_M := (yX0_of, cX0_of, 4, (some .int), 0, 0)
abbrev mX1_declare : pm_M := (yX1_declare, cX1_declare, 3, none, 0, 0)
abbrev mX1_fail : pm_M := (yX1_fail, cX1_fail, 2, none, 0, 0)
abbrev mX1_failAt : pm_M := (yX1_failAt, cX1_failAt, 3, none, 0, 0)
abbrev mX1_isNumber : pm_M := (yX1_isNumber, cX1_isNumber, 1, (some .boolean), 0, 0)
abbrev mX1_label : pm_M := (yX1_label, cX1_label, 4, (some .int), 0, 0)
abbrev mX2_emit : pm_M := (yX2_emit, cX2_emit, 4, (some .int), 0, 0)
abbrev mX2_isBranch : pm_M := (yX2_isBranch, cX2_isBranch, 1, (some .boolean), 0, 0)
abbrev mX2_markTargets : pm_M := (yX2_markTargets, cX2_markTargets, 3, none, 1, 23)
abbrev mX2_ownUnseen : pm_M := (yX2_ownUnseen, cX2_ownUnseen, 3, none, 0, 0)
abbrev mX2_ownedFor : pm_M := (yX2_ownedFor, cX2_ownedFor, 2, (some .int), 0, 0)
abbrev mX4_numbers : pm_M := (yX4_numbers, cX4_numbers, 2, (some (.array .int)), 0, 0)
abbrev mX5_chooseCode : pm_M := (yX5_chooseCode, cX5_chooseCode, 1, none, 0, 0)
abbrev mX5_clearFrames : pm_M := (yX5_clearFrames, cX5_clearFrames, 1, none, 0, 0)
abbrev mX5_isBusy : pm_M := (yX5_isBusy, cX5_isBusy, 1, (some .boolean), 0, 0)
abbrev mX5_stop : pm_M := (yX5_stop, cX5_stop, 2, none, 1, 20)
abbrev mX5_toldBits : pm_M := (yX5_toldBits, cX5_toldBits, 3, (some .long), 0, 0)
abbrev mX6_pageOf : pm_M := (yX6_pageOf, cX6_pageOf, 6, (some .int), 0, 0)
abbrev mX6_setByte : pm_M := (yX6_setByte, cX6_setByte, 7, none, 1, 25)
abbrev mX7_imported : pm_M := (yX7_imported, cX7_imported, 4, (some .int), 0, 0)
abbrev mX7_setSpace : pm_M := (yX7_setSpace, cX7_setSpace, 3, none, 0, 0)
abbrev mX7_space : pm_M := (yX7_space, cX7_space, 2, (some (.array .long)), 0, 0)
abbrev mX8_compareWhole : pm_M := (yX8_compareWhole, cX8_compareWhole, 7, (some .long), 0, 0)
abbrev mX8_compareWithoutSign : pm_M := (yX8_compareWithoutSign, cX8_compareWithoutSign, 4, (some .int), 1, 23)
abbrev mX8_divide32 : pm_M := (yX8_divide32, cX8_divide32, 8, (some .long), 0, 0)
abbrev mX8_infinite : pm_M := (yX8_infinite, cX8_infinite, 1, (some .long), 0, 0)
abbrev mX8_isBinary : pm_M := (yX8_isBinary, cX8_isBinary, 1, (some .boolean), 0, 0)
abbrev mX8_isInfinite : pm_M := (yX8_isInfinite, cX8_isInfinite, 3, (some .boolean), 0, 0)
abbrev mX8_isMinus : pm_M := (yX8_isMinus, cX8_isMinus, 3, (some .boolean), 0, 0)
abbrev mX8_isNone : pm_M := (yX8_isNone, cX8_isNone, 3, (some .boolean), 0, 0)
abbrev mX8_isZero : pm_M := (yX8_isZero, cX8_isZero, 3, (some .boolean), 0, 0)
abbrev mX8_none : pm_M := (yX8_none, cX8_none, 1, (some .long), 0, 0)
abbrev mX8_order : pm_M := (yX8_order, cX8_order, 5, (some .long), 0, 0)
abbrev mX8_quotientWithoutSign : pm_M := (yX8_quotientWithoutSign, cX8_quotientWithoutSign, 8, (some .long), 0, 0)
abbrev mX8_sign : pm_M := (yX8_sign, cX8_sign, 1, (some .long), 0, 0)
abbrev mX8_whole32 : pm_M := (yX8_whole32, cX8_whole32, 4, (some .long), 1, 27)
abbrev mX9_characterLength : pm_M := (yX9_characterLength, cX9_characterLength, 7, (some .int), 0, 0)
abbrev mX9_endsNumber : pm_M := (yX9_endsNumber, cX9_endsNumber, 4, (some .boolean), 0, 0)
abbrev mX9_exceedLimit : pm_M := (yX9_exceedLimit, cX9_exceedLimit, 1, none, 0, 0)
abbrev mX9_fail : pm_M := (yX9_fail, cX9_fail, 3, none, 0, 0)
abbrev mX9_goesOn : pm_M := (yX9_goesOn, cX9_goesOn, 1, (some .boolean), 0, 0)
abbrev mX9_isReference : pm_M := (yX9_isReference, cX9_isReference, 1, (some .boolean), 0, 0)
abbrev mX9_isValue : pm_M := (yX9_isValue, cX9_isValue, 1, (some .boolean), 0, 0)
abbrev mX9_next : pm_M := (yX9_next, cX9_next, 1, (some .int), 0, 0)
abbrev mX9_nextUpTo : pm_M := (yX9_nextUpTo, cX9_nextUpTo, 3, (some .int), 1, 22)
abbrev mX9_open : pm_M := (yX9_open, cX9_open, 3, none, 0, 0)
abbrev mX9_rank : pm_M := (yX9_rank, cX9_rank, 1, (some .int), 0, 0)
abbrev mX9_referenceType : pm_M := (yX9_referenceType, cX9_referenceType, 2, (some .int), 1, 22)
abbrev mX9_skip : pm_M := (yX9_skip, cX9_skip, 3, none, 1, 22)
abbrev mX9_valueType : pm_M := (yX9_valueType, cX9_valueType, 2, (some .int), 1, 22)
abbrev mX10_bodyOf : pm_M := (yX10_bodyOf, cX10_bodyOf, 2, (some (.object "ModuleEngine$Body")), 0, 0)
abbrev mX10_countFrame : pm_M := (yX10_countFrame, cX10_countFrame, 3, (some .boolean), 0, 0)
abbrev mX10_homeOf : pm_M := (yX10_homeOf, cX10_homeOf, 2, (some (.object "ModuleEngine$Instance")), 0, 0)
abbrev mX10_hostNumber : pm_M := (yX10_hostNumber, cX10_hostNumber, 2, (some .int), 0, 0)
abbrev mX10_instanceAt : pm_M := (yX10_instanceAt, cX10_instanceAt, 2, (some (.object "ModuleEngine$Instance")), 0, 0)
abbrev mX10_isSameShape : pm_M := (yX10_isSameShape, cX10_isSameShape, 3, (some .boolean), 0, 0)
abbrev mX10_shapeOf : pm_M := (yX10_shapeOf, cX10_shapeOf, 2, (some (.array .int)), 1, 21)
abbrev mX11_entry : pm_M := (yX11_entry, cX11_entry, 5, (some .int), 0, 0)
abbrev mX11_setEntry : pm_M := (yX11_setEntry, cX11_setEntry, 6, none, 0, 0)
abbrev mX12_argument : pm_M := (yX12_argument, cX12_argument, 3, (some .int), 0, 0)
abbrev mX12_fault : pm_M := (yX12_fault, cX12_fault, 2, (some .int), 0, 0)
abbrev mX12_give : pm_M := (yX12_give, cX12_give, 1, (some .boolean), 2, 41)
abbrev mX12_index : pm_M := (yX12_index, cX12_index, 2, (some .int), 0, 0)
abbrev mX12_item : pm_M := (yX12_item, cX12_item, 2, (some .int), 0, 0)
abbrev mX12_item_ : pm_M := (yX12_item_, cX12_item_, 2, (some .long), 0, 0)
abbrev mX12_setItem : pm_M := (yX12_setItem, cX12_setItem, 3, none, 0, 0)
abbrev mX12_setItem_ : pm_M := (yX12_setItem_, cX12_setItem_, 4, none, 0, 0)
abbrev mX12_state : pm_M := (yX12_state, cX12_state, 2, (some .int), 1, 21)
abbrev mX12_tier : pm_M := (yX12_tier, cX12_tier, 3, (some .int), 0, 0)
abbrev mX12_value : pm_M := (yX12_value, cX12_value, 3, (some .long), 1, 21)
abbrev mX12_write : pm_M := (yX12_write, cX12_write, 4, none, 0, 0)
abbrev mX14_at : pm_M := (yX14_at, cX14_at, 2, (some .int), 0, 0)
abbrev mX14_importOf : pm_M := (yX14_importOf, cX14_importOf, 5, (some .int), 0, 0)
abbrev mX14_imported : pm_M := (yX14_imported, cX14_imported, 4, (some .int), 0, 0)
abbrev mX14_typeOfFunction : pm_M := (yX14_typeOfFunction, cX14_typeOfFunction, 3, (some .int), 1, 24)
abbrev mX14_typeOfGlobal : pm_M := (yX14_typeOfGlobal, cX14_typeOfGlobal, 3, (some .int), 1, 24)
abbrev mX14_typeOfTable : pm_M := (yX14_typeOfTable, cX14_typeOfTable, 3, (some .int), 1, 24)
abbrev mX15_read : pm_M := (yX15_read, cX15_read, 9, none, 0, 0)
abbrev mX16_accessType : pm_M := (yX16_accessType, cX16_accessType, 1, (some .int), 0, 0)
abbrev mX16_areLimits : pm_M := (yX16_areLimits, cX16_areLimits, 5, (some .boolean), 0, 0)
abbrev mX16_argument : pm_M := (yX16_argument, cX16_argument, 3, (some .int), 0, 0)
abbrev mX16_branches : pm_M := (yX16_branches, cX16_branches, 6, none, 0, 0)
abbrev mX16_bytesAt : pm_M := (yX16_bytesAt, cX16_bytesAt, 5, (some .long), 1, 21)
abbrev mX16_copiesElement : pm_M := (yX16_copiesElement, cX16_copiesElement, 11, (some .boolean), 0, 0)
abbrev mX16_counts : pm_M := (yX16_counts, cX16_counts, 2, none, 0, 0)
abbrev mX16_declare : pm_M := (yX16_declare, cX16_declare, 3, none, 0, 0)
abbrev mX16_dies : pm_M := (yX16_dies, cX16_dies, 1, none, 0, 0)
abbrev mX16_dropped : pm_M := (yX16_dropped, cX16_dropped, 3, none, 0, 0)
abbrev mX16_endsBy : pm_M := (yX16_endsBy, cX16_endsBy, 3, none, 0, 0)
abbrev mX16_exceeds : pm_M := (yX16_exceeds, cX16_exceeds, 2, none, 0, 0)
abbrev mX16_exportKind : pm_M := (yX16_exportKind, cX16_exportKind, 3, (some .int), 0, 0)
abbrev mX16_failsAtOnce : pm_M := (yX16_failsAtOnce, cX16_failsAtOnce, 2, none, 0, 0)
abbrev mX16_fault : pm_M := (yX16_fault, cX16_fault, 2, (some .int), 0, 0)
abbrev mX16_grows : pm_M := (yX16_grows, cX16_grows, 5, none, 0, 0)
abbrev mX16_growsPages : pm_M := (yX16_growsPages, cX16_growsPages, 4, none, 0, 0)
abbrev mX16_has : pm_M := (yX16_has, cX16_has, 6, none, 0, 0)
abbrev mX16_hasNumber : pm_M := (yX16_hasNumber, cX16_hasNumber, 1, (some .boolean), 0, 0)
abbrev mX16_hasRoom : pm_M := (yX16_hasRoom, cX16_hasRoom, 10, (some .boolean), 0, 0)
abbrev mX16_hasTwo : pm_M := (yX16_hasTwo, cX16_hasTwo, 1, (some .boolean), 0, 0)
abbrev mX16_haveSameRows : pm_M := (yX16_haveSameRows, cX16_haveSameRows, 9, (some .boolean), 0, 0)
abbrev mX16_held : pm_M := (yX16_held, cX16_held, 3, (some .long), 0, 0)
abbrev mX16_infinite : pm_M := (yX16_infinite, cX16_infinite, 1, (some .long), 0, 0)
abbrev mX16_isAccess : pm_M := (yX16_isAccess, cX16_isAccess, 1, (some .boolean), 0, 0)
abbrev mX16_isAlone : pm_M := (yX16_isAlone, cX16_isAlone, 1, (some .boolean), 0, 0)
abbrev mX16_isBelow : pm_M := (yX16_isBelow, cX16_isBelow, 4, (some .boolean), 0, 0)
abbrev mX16_isInstance : pm_M := (yX16_isInstance, cX16_isInstance, 2, (some .boolean), 0, 0)
abbrev mX16_isReference : pm_M := (yX16_isReference, cX16_isReference, 1, (some .boolean), 0, 0)
abbrev mX16_isSameName : pm_M := (yX16_isSameName, cX16_isSameName, 6, (some .boolean), 1, 21)
abbrev mX16_isType : pm_M := (yX16_isType, cX16_isType, 1, (some .boolean), 1, 20)
abbrev mX16_isWhole : pm_M := (yX16_isWhole, cX16_isWhole, 9, (some .boolean), 1, 23)
abbrev mX16_kept : pm_M := (yX16_kept, cX16_kept, 3, (some .int), 1, 21)
abbrev mX16_length : pm_M := (yX16_length, cX16_length, 7, (some .int), 0, 0)
abbrev mX16_newFunction : pm_M := (yX16_newFunction, cX16_newFunction, 6, (some .int), 0, 0)
abbrev mX16_noneOf : pm_M := (yX16_noneOf, cX16_noneOf, 1, (some .long), 0, 0)
abbrev mX16_ones : pm_M := (yX16_ones, cX16_ones, 4, (some .int), 0, 0)
abbrev mX16_opens : pm_M := (yX16_opens, cX16_opens, 5, none, 0, 0)
abbrev mX16_operandOf : pm_M := (yX16_operandOf, cX16_operandOf, 1, (some .int), 0, 0)
abbrev mX16_parameterAt : pm_M := (yX16_parameterAt, cX16_parameterAt, 4, (some .int), 0, 0)
abbrev mX16_parametersOf : pm_M := (yX16_parametersOf, cX16_parametersOf, 3, (some .int), 0, 0)
abbrev mX16_placeOf : pm_M := (yX16_placeOf, cX16_placeOf, 4, (some .int), 0, 0)
abbrev mX16_plain : pm_M := (yX16_plain, cX16_plain, 5, (some .long), 0, 0)
abbrev mX16_planOf : pm_M := (yX16_planOf, cX16_planOf, 2, (some (.object "ModuleEngineModel$Plan")), 0, 0)
abbrev mX16_pop : pm_M := (yX16_pop, cX16_pop, 1, (some .long), 0, 0)
abbrev mX16_push : pm_M := (yX16_push, cX16_push, 3, none, 0, 0)
abbrev mX16_puts : pm_M := (yX16_puts, cX16_puts, 3, none, 0, 0)
abbrev mX16_rank : pm_M := (yX16_rank, cX16_rank, 1, (some .int), 0, 0)
abbrev mX16_resultAt : pm_M := (yX16_resultAt, cX16_resultAt, 4, (some .int), 0, 0)
abbrev mX16_resultOf : pm_M := (yX16_resultOf, cX16_resultOf, 1, (some .int), 1, 20)
abbrev mX16_resultsIn : pm_M := (yX16_resultsIn, cX16_resultsIn, 2, (some .int), 1, 21)
abbrev mX16_resultsOf : pm_M := (yX16_resultsOf, cX16_resultsOf, 3, (some .int), 0, 0)
abbrev mX16_runs : pm_M := (yX16_runs, cX16_runs, 1, (some .boolean), 0, 0)
abbrev mX16_sets : pm_M := (yX16_sets, cX16_sets, 5, none, 1, 23)
abbrev mX16_signOf : pm_M := (yX16_signOf, cX16_signOf, 1, (some .long), 0, 0)
abbrev mX16_signedWord : pm_M := (yX16_signedWord, cX16_signedWord, 5, (some .long), 1, 21)
abbrev mX16_state : pm_M := (yX16_state, cX16_state, 2, (some .int), 1, 20)
abbrev mX16_tablesStep : pm_M := (yX16_tablesStep, cX16_tablesStep, 16, none, 1, 30)
abbrev mX16_thing : pm_M := (yX16_thing, cX16_thing, 5, (some .int), 0, 0)
abbrev mX16_tier : pm_M := (yX16_tier, cX16_tier, 3, (some .int), 0, 0)
abbrev mX16_traps : pm_M := (yX16_traps, cX16_traps, 2, none, 0, 0)
abbrev mX16_value : pm_M := (yX16_value, cX16_value, 2, (some .long), 0, 0)
abbrev mX16_wantedAt : pm_M := (yX16_wantedAt, cX16_wantedAt, 4, (some .int), 1, 23)
abbrev mX16_wantedBy : pm_M := (yX16_wantedBy, cX16_wantedBy, 3, (some .int), 1, 22)
abbrev mX16_widthOf : pm_M := (yX16_widthOf, cX16_widthOf, 1, (some .int), 0, 0)
abbrev mX16_withSign : pm_M := (yX16_withSign, cX16_withSign, 4, (some .long), 1, 20)
abbrev mX16_word : pm_M := (yX16_word, cX16_word, 5, (some .long), 1, 21)
abbrev mX16_zeros : pm_M := (yX16_zeros, cX16_zeros, 5, (some .int), 0, 0)
abbrev mX0_aim : pm_M := (yX0_aim, cX0_aim, 3, none, 1, 22)
abbrev mX1_aimCondition : pm_M := (yX1_aimCondition, cX1_aimCondition, 3, none, 2, 44)
abbrev mX1_failSection : pm_M := (yX1_failSection, cX1_failSection, 3, none, 1, 22)
abbrev mX1_isEmitting : pm_M := (yX1_isEmitting, cX1_isEmitting, 2, (some .boolean), 1, 23)
abbrev mX1_isLimited : pm_M := (yX1_isLimited, cX1_isLimited, 7, (some .boolean), 1, 21)
abbrev mX1_isLoop : pm_M := (yX1_isLoop, cX1_isLoop, 2, (some .boolean), 1, 23)
abbrev mX1_isSameName : pm_M := (yX1_isSameName, cX1_isSameName, 8, (some .boolean), 1, 21)
abbrev mX1_put : pm_M := (yX1_put, cX1_put, 2, none, 1, 22)
abbrev mX1_putTypes : pm_M := (yX1_putTypes, cX1_putTypes, 5, none, 2, 43)
abbrev mX1_resultsAreParameters : pm_M := (yX1_resultsAreParameters, cX1_resultsAreParameters, 3, (some .boolean), 1, 21)
abbrev mX1_setLabel : pm_M := (yX1_setLabel, cX1_setLabel, 4, none, 1, 22)
abbrev mX1_take : pm_M := (yX1_take, cX1_take, 4, (some .int), 1, 23)
abbrev mX1_takeTypes : pm_M := (yX1_takeTypes, cX1_takeTypes, 5, none, 2, 46)
abbrev mX2_aimBranches : pm_M := (yX2_aimBranches, cX2_aimBranches, 2, none, 1, 22)
abbrev mX2_branch : pm_M := (yX2_branch, cX2_branch, 6, (some .int), 1, 23)
abbrev mX2_emitMove : pm_M := (yX2_emitMove, cX2_emitMove, 5, none, 1, 23)
abbrev mX2_heldAt : pm_M := (yX2_heldAt, cX2_heldAt, 2, (some .int), 1, 21)
abbrev mX2_hold : pm_M := (yX2_hold, cX2_hold, 3, none, 1, 22)
abbrev mX2_holdConstant : pm_M := (yX2_holdConstant, cX2_holdConstant, 3, none, 2, 44)
abbrev mX2_own : pm_M := (yX2_own, cX2_own, 3, none, 2, 47)
abbrev mX2_plain : pm_M := (yX2_plain, cX2_plain, 9, none, 2, 42)
abbrev mX2_setLocal : pm_M := (yX2_setLocal, cX2_setLocal, 5, none, 2, 47)
abbrev mX4_exportKind : pm_M := (yX4_exportKind, cX4_exportKind, 2, (some .int), 1, 21)
abbrev mX4_exportNumber : pm_M := (yX4_exportNumber, cX4_exportNumber, 3, (some .int), 1, 21)
abbrev mX5_clearLocals : pm_M := (yX5_clearLocals, cX5_clearLocals, 6, none, 1, 23)
abbrev mX5_fail : pm_M := (yX5_fail, cX5_fail, 2, none, 2, 41)
abbrev mX5_failAtMaking : pm_M := (yX5_failAtMaking, cX5_failAtMaking, 2, none, 3, 62)
abbrev mX5_pop : pm_M := (yX5_pop, cX5_pop, 1, (some .long), 1, 21)
abbrev mX5_push : pm_M := (yX5_push, cX5_push, 3, none, 1, 23)
abbrev mX5_register : pm_M := (yX5_register, cX5_register, 2, (some .long), 1, 21)
abbrev mX5_tell : pm_M := (yX5_tell, cX5_tell, 4, none, 1, 23)
abbrev mX6_byteAt : pm_M := (yX6_byteAt, cX6_byteAt, 6, (some .int), 1, 25)
abbrev mX6_leftOfPage : pm_M := (yX6_leftOfPage, cX6_leftOfPage, 4, (some .int), 1, 25)
abbrev mX6_reaches : pm_M := (yX6_reaches, cX6_reaches, 6, (some .boolean), 1, 21)
abbrev mX7_count : pm_M := (yX7_count, cX7_count, 2, (some .int), 1, 21)
abbrev mX7_has : pm_M := (yX7_has, cX7_has, 4, (some .boolean), 2, 42)
abbrev mX7_of : pm_M := (yX7_of, cX7_of, 4, (some .long), 1, 21)
abbrev mX8_compareFloating : pm_M := (yX8_compareFloating, cX8_compareFloating, 11, (some .long), 1, 24)
abbrev mX8_divide64 : pm_M := (yX8_divide64, cX8_divide64, 7, (some .long), 1, 27)
abbrev mX8_whole64 : pm_M := (yX8_whole64, cX8_whole64, 7, (some .long), 2, 53)
abbrev mX9_finish : pm_M := (yX9_finish, cX9_finish, 2, none, 2, 42)
abbrev mX9_lowestFirst : pm_M := (yX9_lowestFirst, cX9_lowestFirst, 5, (some .long), 1, 20)
abbrev mX10_isLimited : pm_M := (yX10_isLimited, cX10_isLimited, 7, (some .boolean), 1, 21)
abbrev mX10_leastInAll : pm_M := (yX10_leastInAll, cX10_leastInAll, 5, (some .long), 2, 44)
abbrev mX11_copy : pm_M := (yX11_copy, cX11_copy, 14, none, 1, 25)
abbrev mX11_copyFrom : pm_M := (yX11_copyFrom, cX11_copyFrom, 11, none, 1, 25)
abbrev mX11_reaches : pm_M := (yX11_reaches, cX11_reaches, 6, (some .boolean), 1, 21)
abbrev mX12_argumentsAre : pm_M := (yX12_argumentsAre, cX12_argumentsAre, 9, (some .boolean), 1, 21)
abbrev mX12_export : pm_M := (yX12_export, cX12_export, 7, (some .int), 2, 43)
abbrev mX12_feed : pm_M := (yX12_feed, cX12_feed, 6, (some .int), 1, 23)
abbrev mX12_global : pm_M := (yX12_global, cX12_global, 4, (some .long), 2, 43)
abbrev mX12_memory : pm_M := (yX12_memory, cX12_memory, 8, (some .int), 2, 50)
abbrev mX12_offerOf : pm_M := (yX12_offerOf, cX12_offerOf, 3, (some .int), 1, 22)
abbrev mX12_poke : pm_M := (yX12_poke, cX12_poke, 9, (some .boolean), 2, 51)
abbrev mX12_table : pm_M := (yX12_table, cX12_table, 6, (some .int), 2, 46)
abbrev mX14_all : pm_M := (yX14_all, cX14_all, 2, (some .int), 1, 23)
abbrev mX14_globalMoves : pm_M := (yX14_globalMoves, cX14_globalMoves, 3, (some .boolean), 1, 24)
abbrev mX16_areSuch : pm_M := (yX16_areSuch, cX16_areSuch, 8, (some .boolean), 1, 21)
abbrev mX16_blockWord : pm_M := (yX16_blockWord, cX16_blockWord, 2, (some .long), 2, 45)
abbrev mX16_closes : pm_M := (yX16_closes, cX16_closes, 5, none, 2, 42)
abbrev mX16_constant : pm_M := (yX16_constant, cX16_constant, 7, (some .long), 2, 45)
abbrev mX16_constantType : pm_M := (yX16_constantType, cX16_constantType, 5, (some .int), 2, 46)
abbrev mX16_copiesData : pm_M := (yX16_copiesData, cX16_copiesData, 13, (some .boolean), 2, 47)
abbrev mX16_divided : pm_M := (yX16_divided, cX16_divided, 8, (some .long), 1, 27)
abbrev mX16_entry : pm_M := (yX16_entry, cX16_entry, 7, none, 1, 22)
abbrev mX16_exported : pm_M := (yX16_exported, cX16_exported, 3, (some .int), 1, 24)
abbrev mX16_feed : pm_M := (yX16_feed, cX16_feed, 6, (some .int), 1, 22)
abbrev mX16_fits : pm_M := (yX16_fits, cX16_fits, 10, (some .boolean), 1, 28)
abbrev mX16_gets : pm_M := (yX16_gets, cX16_gets, 4, (some .long), 1, 23)
abbrev mX16_give : pm_M := (yX16_give, cX16_give, 1, (some .boolean), 1, 20)
abbrev mX16_isExport : pm_M := (yX16_isExport, cX16_isExport, 3, (some .boolean), 1, 21)
abbrev mX16_isNamedFurther : pm_M := (yX16_isNamedFurther, cX16_isNamedFurther, 6, (some .boolean), 2, 46)
abbrev mX16_localType : pm_M := (yX16_localType, cX16_localType, 15, (some .int), 2, 45)
abbrev mX16_long64 : pm_M := (yX16_long64, cX16_long64, 7, (some .long), 2, 54)
abbrev mX16_moves : pm_M := (yX16_moves, cX16_moves, 4, none, 2, 48)
abbrev mX16_offer : pm_M := (yX16_offer, cX16_offer, 4, (some .int), 2, 46)
abbrev mX16_opensBlock : pm_M := (yX16_opensBlock, cX16_opensBlock, 5, none, 3, 66)
abbrev mX16_opensIf : pm_M := (yX16_opensIf, cX16_opensIf, 5, none, 3, 66)
abbrev mX16_order : pm_M := (yX16_order, cX16_order, 5, (some .long), 1, 20)
abbrev mX16_others : pm_M := (yX16_others, cX16_others, 9, none, 2, 45)
abbrev mX16_parametersIn : pm_M := (yX16_parametersIn, cX16_parametersIn, 2, (some .int), 1, 21)
abbrev mX16_passesFurther : pm_M := (yX16_passesFurther, cX16_passesFurther, 5, none, 2, 45)
abbrev mX16_rounded : pm_M := (yX16_rounded, cX16_rounded, 19, (some .long), 2, 43)
abbrev mX16_short32 : pm_M := (yX16_short32, cX16_short32, 11, (some .long), 2, 54)
abbrev mX16_stretches : pm_M := (yX16_stretches, cX16_stretches, 17, none, 3, 79)
abbrev mX16_sumOf : pm_M := (yX16_sumOf, cX16_sumOf, 13, (some .long), 3, 81)
abbrev mX16_takesElement : pm_M := (yX16_takesElement, cX16_takesElement, 4, none, 3, 71)
abbrev mX16_takesOwn : pm_M := (yX16_takesOwn, cX16_takesOwn, 4, none, 4, 94)
abbrev mX16_towards : pm_M := (yX16_towards, cX16_towards, 16, (some .long), 1, 28)
abbrev mX16_wholeOf : pm_M := (yX16_wholeOf, cX16_wholeOf, 13, (some .long), 3, 81)
abbrev mX1_constantType : pm_M := (yX1_constantType, cX1_constantType, 3, (some .int), 2, 44)
abbrev mX1_die : pm_M := (yX1_die, cX1_die, 2, none, 2, 45)
abbrev mX1_emit : pm_M := (yX1_emit, cX1_emit, 5, (some .int), 2, 44)
abbrev mX1_emitPlain : pm_M := (yX1_emitPlain, cX1_emitPlain, 3, none, 3, 68)
abbrev mX1_exportsAreRight : pm_M := (yX1_exportsAreRight, cX1_exportsAreRight, 5, none, 3, 65)
abbrev mX1_limitsAreRight : pm_M := (yX1_limitsAreRight, cX1_limitsAreRight, 2, none, 2, 47)
abbrev mX1_memoryIsOne : pm_M := (yX1_memoryIsOne, cX1_memoryIsOne, 1, none, 2, 44)
abbrev mX1_openLabel : pm_M := (yX1_openLabel, cX1_openLabel, 6, none, 2, 45)
abbrev mX1_plain : pm_M := (yX1_plain, cX1_plain, 6, none, 3, 68)
abbrev mX1_putParameters : pm_M := (yX1_putParameters, cX1_putParameters, 2, none, 3, 67)
abbrev mX1_putResults : pm_M := (yX1_putResults, cX1_putResults, 2, none, 3, 67)
abbrev mX1_stretch : pm_M := (yX1_stretch, cX1_stretch, 4, none, 4, 93)
abbrev mX1_tableAccess : pm_M := (yX1_tableAccess, cX1_tableAccess, 8, none, 4, 93)
abbrev mX1_takeParameters : pm_M := (yX1_takeParameters, cX1_takeParameters, 2, none, 3, 70)
abbrev mX1_typesAreThere : pm_M := (yX1_typesAreThere, cX1_typesAreThere, 3, none, 2, 44)
abbrev mX1_variable : pm_M := (yX1_variable, cX1_variable, 7, none, 4, 90)
abbrev mX2_branchByTable : pm_M := (yX2_branchByTable, cX2_branchByTable, 6, none, 2, 48)
abbrev mX2_calling : pm_M := (yX2_calling, cX2_calling, 9, none, 2, 42)
abbrev mX2_condition : pm_M := (yX2_condition, cX2_condition, 4, none, 2, 42)
abbrev mX2_translate : pm_M := (yX2_translate, cX2_translate, 5, (some .int), 3, 73)
abbrev mX10_atTable : pm_M := (yX10_atTable, cX10_atTable, 7, (some .long), 2, 46)
abbrev mX10_hasRoom : pm_M := (yX10_hasRoom, cX10_hasRoom, 11, (some .boolean), 3, 68)
abbrev mX12_offer : pm_M := (yX12_offer, cX12_offer, 5, (some .int), 2, 44)
abbrev mX16_accesses1 : pm_M := (yX16_accesses1, cX16_accesses1, 13, none, 2, 47)
abbrev mX16_behind : pm_M := (yX16_behind, cX16_behind, 9, (some .int), 3, 69)
abbrev mX16_declaresIn : pm_M := (yX16_declaresIn, cX16_declaresIn, 4, none, 4, 97)
abbrev mX16_enters : pm_M := (yX16_enters, cX16_enters, 13, none, 2, 45)
abbrev mX16_export : pm_M := (yX16_export, cX16_export, 6, (some .int), 2, 46)
abbrev mX16_exportedAs : pm_M := (yX16_exportedAs, cX16_exportedAs, 4, (some .int), 2, 46)
abbrev mX16_extreme : pm_M := (yX16_extreme, cX16_extreme, 7, (some .long), 2, 44)
abbrev mX16_global : pm_M := (yX16_global, cX16_global, 4, (some .long), 3, 69)
abbrev mX16_goesOn : pm_M := (yX16_goesOn, cX16_goesOn, 2, none, 4, 90)
abbrev mX16_invokes : pm_M := (yX16_invokes, cX16_invokes, 4, none, 3, 77)
abbrev mX16_invokesEntry : pm_M := (yX16_invokesEntry, cX16_invokesEntry, 6, none, 4, 100)
abbrev mX16_isNamed : pm_M := (yX16_isNamed, cX16_isNamed, 9, (some .boolean), 3, 71)
abbrev mX16_isReal : pm_M := (yX16_isReal, cX16_isReal, 11, (some .boolean), 2, 44)
abbrev mX16_memory : pm_M := (yX16_memory, cX16_memory, 7, (some .int), 3, 69)
abbrev mX16_moved : pm_M := (yX16_moved, cX16_moved, 5, (some .long), 3, 81)
abbrev mX16_ofWhole : pm_M := (yX16_ofWhole, cX16_ofWhole, 4, (some .long), 3, 81)
abbrev mX16_poke : pm_M := (yX16_poke, cX16_poke, 8, (some .boolean), 3, 69)
abbrev mX16_product : pm_M := (yX16_product, cX16_product, 23, (some .long), 3, 81)
abbrev mX16_quotient : pm_M := (yX16_quotient, cX16_quotient, 15, (some .long), 3, 81)
abbrev mX16_root : pm_M := (yX16_root, cX16_root, 14, (some .long), 3, 81)
abbrev mX16_sum : pm_M := (yX16_sum, cX16_sum, 7, (some .long), 4, 113)
abbrev mX16_table : pm_M := (yX16_table, cX16_table, 5, (some .int), 3, 69)
abbrev mX16_turned : pm_M := (yX16_turned, cX16_turned, 5, (some .long), 4, 105)
abbrev mX16_turns : pm_M := (yX16_turns, cX16_turns, 20, none, 5, 125)
abbrev mX1_choice : pm_M := (yX1_choice, cX1_choice, 4, none, 4, 93)
abbrev mX1_constantIn : pm_M := (yX1_constantIn, cX1_constantIn, 4, none, 3, 68)
abbrev mX1_reference : pm_M := (yX1_reference, cX1_reference, 3, none, 4, 93)
abbrev mX16_answer : pm_M := (yX16_answer, cX16_answer, 6, (some .boolean), 5, 111)
abbrev mX16_calls : pm_M := (yX16_calls, cX16_calls, 2, none, 5, 111)
abbrev mX16_declares : pm_M := (yX16_declares, cX16_declares, 3, none, 5, 120)
abbrev mX16_real : pm_M := (yX16_real, cX16_real, 7, (some .long), 5, 139)
abbrev mX16_reckons : pm_M := (yX16_reckons, cX16_reckons, 7, (some .long), 6, 165)
abbrev mX16_startsUp : pm_M := (yX16_startsUp, cX16_startsUp, 5, none, 6, 132)
abbrev mX16_call : pm_M := (yX16_call, cX16_call, 5, (some .boolean), 6, 132)
abbrev mX16_operator : pm_M := (yX16_operator, cX16_operator, 8, none, 7, 191)
abbrev mX16_furtherStep : pm_M := (yX16_furtherStep, cX16_furtherStep, 4, none, 8, 218)
abbrev mX16_step : pm_M := (yX16_step, cX16_step, 3, none, 9, 241)
abbrev mX16_run : pm_M := (yX16_run, cX16_run, 3, (some .int), 10, 263)
theorem myJ6_bitCount_0f7a4 : pm_My mJ6_bitCount_0f7a4 1 := ⟨pm_tin7 _ (List.mem_of_getElem? (i := 104) rfl), pm_tin1 _ (List.mem_of_getElem? (i := 30) rfl), nhJ6.1, nhJ6.2, pd0⟩
theorem stJ6_bitCount_0f7a4 : pm_St mJ6_bitCount_0f7a4 := pm_tin7 _ (List.mem_of_getElem? (i := 103) rfl)
theorem myJ6_numberOfLeadingZeros_0f7a4 : pm_My mJ6_numberOfLeadingZeros_0f7a4 1 := ⟨pm_tin7 _ (List.mem_of_getElem? (i := 97) rfl), pm_tin1 _ (List.mem_of_getElem? (i := 30) rfl), nhJ6.1, nhJ6.2, pd0⟩
theorem stJ6_numberOfLeadingZeros_0f7a4 : pm_St mJ6_numberOfLeadingZeros_0f7a4 := pm_tin7 _ (List.mem_of_getElem? (i := 96) rfl)
theorem myJ6_numberOfTrailingZeros_0f7a4 : pm_My mJ6_numberOfTrailingZeros_0f7a4 1 := ⟨pm_tin7 _ (List.mem_of_getElem? (i := 101) rfl), pm_tin1 _ (List.mem_of_getElem? (i := 30) rfl), nhJ6.1, nhJ6.2, pd0⟩
theorem stJ6_numberOfTrailingZeros_0f7a4 : pm_St mJ6_numberOfTrailingZeros_0f7a4 := pm_tin7 _ (List.mem_of_getElem? (i := 100) rfl)
theorem myJ13_bitCount_95d88 : pm_My mJ13_bitCount_95d88 1 := ⟨pm_tin7 _ (List.mem_of_getElem? (i := 129) rfl), pm_tin1 _ (List.mem_of_getElem? (i := 29) rfl), nhJ13.1, nhJ13.2, pd1⟩
theorem stJ13_bitCount_95d88 : pm_St mJ13_bitCount_95d88 := pm_tin7 _ (List.mem_of_getElem? (i := 128) rfl)
theorem myJ13_compare_74951 : pm_My mJ13_compare_74951 2 := ⟨pm_tin7 _ (List.mem_of_getElem? (i := 59) rfl), pm_tin1 _ (List.mem_of_getElem? (i := 29) rfl), nhJ13.1, nhJ13.2, pd2⟩
theorem stJ13_compare_74951 : pm_St mJ13_compare_74951 := pm_tin7 _ (List.mem_of_getElem? (i := 58) rfl)
theorem myJ13_divideUnsigned_f86c9 : pm_My mJ13_divideUnsigned_f86c9 2 := ⟨pm_tin14 _ (List.mem_of_getElem? (i := 178) rfl), pm_tin1 _ (List.mem_of_getElem? (i := 29) rfl), nhJ13.1, nhJ13.2, pd3⟩
theorem stJ13_divideUnsigned_f86c9 : pm_St mJ13_divideUnsigned_f86c9 := pm_tin14 _ (List.mem_of_getElem? (i := 177) rfl)
theorem myJ13_numberOfLeadingZeros_95d88 : pm_My mJ13_numberOfLeadingZeros_95d88 1 := ⟨pm_tin7 _ (List.mem_of_getElem? (i := 121) rfl), pm_tin1 _ (List.mem_of_getElem? (i := 29) rfl), nhJ13.1, nhJ13.2, pd1⟩
theorem stJ13_numberOfLeadingZeros_95d88 : pm_St mJ13_numberOfLeadingZeros_95d88 := pm_tin7 _ (List.mem_of_getElem? (i := 120) rfl)
theorem myJ13_numberOfTrailingZeros_95d88 : pm_My mJ13_numberOfTrailingZeros_95d88 1 := ⟨pm_tin7 _ (List.mem_of_getElem? (i := 125) rfl), pm_tin1 _ (List.mem_of_getElem? (i := 29) rfl), nhJ13.1, nhJ13.2, pd1⟩
theorem stJ13_numberOfTrailingZeros_95d88 : pm_St mJ13_numberOfTrailingZeros_95d88 := pm_tin7 _ (List.mem_of_getElem? (i := 124) rfl)
theorem myJ13_remainderUnsigned_f86c9 : pm_My mJ13_remainderUnsigned_f86c9 2 := ⟨pm_tin14 _ (List.mem_of_getElem? (i := 182) rfl), pm_tin1 _ (List.mem_of_getElem? (i := 29) rfl), nhJ13.1, nhJ13.2, pd3⟩
theorem stJ13_remainderUnsigned_f86c9 : pm_St mJ13_remainderUnsigned_f86c9 := pm_tin14 _ (List.mem_of_getElem? (i := 181) rfl)
theorem myX0_emit : pm_My mX0_emit 5 := ⟨pm_tin5 _ (List.mem_of_getElem? (i := 168) rfl), pm_tin1 _ (List.mem_of_getElem? (i := 5) rfl), nhX0.1, nhX0.2, pd4⟩
theorem viX0_emit : pm_Vi mX0_emit 0 := ⟨pm_Cl0, rfl, pm_tin5 _ (List.mem_of_getElem? (i := 166) rfl), pm_tin5 _ (List.mem_of_getElem? (i := 167) rfl)⟩
theorem myX0_of : pm_My mX0_of 2 := ⟨pm_tin6 _ (List.mem_of_getElem? (i := 6) rfl), pm_tin1 _ (List.mem_of_getElem? (i := 5) rfl), nhX0.1, nhX0.2, pd5⟩
theorem viX0_of : pm_Vi mX0_of 0 := ⟨pm_Cl0, rfl, pm_tin6 _ (List.mem_of_getElem? (i := 4) rfl), pm_tin6 _ (List.mem_of_getElem? (i := 5) rfl)⟩
theorem myX1_declare : pm_My mX1_declare 1 := ⟨pm_tin5 _ (List.mem_of_getElem? (i := 76) rfl), pm_tin1 _ (List.mem_of_getElem? (i := 4) rfl), nhX1.1, nhX1.2, pd6⟩
theorem viX1_declare : pm_Vi mX1_declare 1 := ⟨pm_Cl1, rfl, pm_tin5 _ (List.mem_of_getElem? (i := 75) rfl), List.mem_append_left _ (List.mem_of_getElem? (i := 32) rfl)⟩
theorem myX1_fail : pm_My mX1_fail 1 := ⟨pm_tin5 _ (List.mem_of_getElem? (i := 111) rfl), pm_tin1 _ (List.mem_of_getElem? (i := 4) rfl), nhX1.1, nhX1.2, pd7⟩
theorem viX1_fail : pm_Vi mX1_fail 1 := ⟨pm_Cl1, rfl, pm_tin5 _ (List.mem_of_getElem? (i := 110) rfl), List.mem_append_left _ (List.mem_of_getElem? (i := 38) rfl)⟩
theorem myX1_failAt : pm_My mX1_failAt 2 := ⟨pm_tin5 _ (List.mem_of_getElem? (i := 30) rfl), pm_tin1 _ (List.mem_of_getElem? (i := 4) rfl), nhX1.1, nhX1.2, pd8⟩
theorem viX1_failAt : pm_Vi mX1_failAt 1 := ⟨pm_Cl1, rfl, pm_tin5 _ (List.mem_of_getElem? (i := 29) rfl), List.mem_append_left _ (List.mem_of_getElem? (i := 26) rfl)⟩
theorem myX1_isNumber : pm_My mX1_isNumber 1 := ⟨pm_tin6 _ (List.mem_of_getElem? (i := 55) rfl), pm_tin1 _ (List.mem_of_getElem? (i := 4) rfl), nhX1.1, nhX1.2, pd9⟩
theorem stX1_isNumber : pm_St mX1_isNumber := pm_tin6 _ (List.mem_of_getElem? (i := 54) rfl)
theorem myX1_label : pm_My mX1_label 2 := ⟨pm_tin5 _ (List.mem_of_getElem? (i := 164) rfl), pm_tin1 _ (List.mem_of_getElem? (i := 4) rfl), nhX1.1, nhX1.2, pd5⟩
theorem viX1_label : pm_Vi mX1_label 1 := ⟨pm_Cl1, rfl, pm_tin5 _ (List.mem_of_getElem? (i := 163) rfl), List.mem_append_left _ (List.mem_of_getElem? (i := 49) rfl)⟩
theorem myX2_emit : pm_My mX2_emit 2 := ⟨pm_tin8 _ (List.mem_of_getElem? (i := 150) rfl), pm_tin1 _ (List.mem_of_getElem? (i := 13) rfl), nhX2.1, nhX2.2, pd5⟩
theorem viX2_emit : pm_Vi mX2_emit 2 := ⟨pm_Cl2, rfl, pm_tin8 _ (List.mem_of_getElem? (i := 149) rfl), List.mem_append_left _ (List.mem_of_getElem? (i := 114) rfl)⟩
theorem myX2_isBranch : pm_My mX2_isBranch 1 := ⟨pm_tin8 _ (List.mem_of_getElem? (i := 130) rfl), pm_tin1 _ (List.mem_of_getElem? (i := 13) rfl), nhX2.1, nhX2.2, pd9⟩
theorem stX2_isBranch : pm_St mX2_isBranch := pm_tin8 _ (List.mem_of_getElem? (i := 129) rfl)
theorem myX2_markTargets : pm_My mX2_markTargets 0 := ⟨pm_tin8 _ (List.mem_of_getElem? (i := 126) rfl), pm_tin1 _ (List.mem_of_getElem? (i := 13) rfl), nhX2.1, nhX2.2, pd10⟩
theorem viX2_markTargets : pm_Vi mX2_markTargets 2 := ⟨pm_Cl2, rfl, pm_tin8 _ (List.mem_of_getElem? (i := 125) rfl), List.mem_append_left _ (List.mem_of_getElem? (i := 109) rfl)⟩
theorem myX2_ownUnseen : pm_My mX2_ownUnseen 1 := ⟨pm_tin8 _ (List.mem_of_getElem? (i := 138) rfl), pm_tin1 _ (List.mem_of_getElem? (i := 13) rfl), nhX2.1, nhX2.2, pd7⟩
theorem viX2_ownUnseen : pm_Vi mX2_ownUnseen 2 := ⟨pm_Cl2, rfl, pm_tin8 _ (List.mem_of_getElem? (i := 137) rfl), List.mem_append_left _ (List.mem_of_getElem? (i := 111) rfl)⟩
theorem myX2_ownedFor : pm_My mX2_ownedFor 2 := ⟨pm_tin8 _ (List.mem_of_getElem? (i := 154) rfl), pm_tin1 _ (List.mem_of_getElem? (i := 13) rfl), nhX2.1, nhX2.2, pd5⟩
theorem stX2_ownedFor : pm_St mX2_ownedFor := pm_tin8 _ (List.mem_of_getElem? (i := 153) rfl)
theorem myX4_numbers : pm_My mX4_numbers 1 := ⟨pm_tin6 _ (List.mem_of_getElem? (i := 174) rfl), pm_tin1 _ (List.mem_of_getElem? (i := 11) rfl), nhX4.1, nhX4.2, pd11⟩
theorem viX4_numbers : pm_Vi mX4_numbers 4 := ⟨pm_Cl4, rfl, pm_tin6 _ (List.mem_of_getElem? (i := 172) rfl), pm_tin6 _ (List.mem_of_getElem? (i := 173) rfl)⟩
theorem myX5_chooseCode : pm_My mX5_chooseCode 0 := ⟨pm_tin8 _ (List.mem_of_getElem? (i := 203) rfl), pm_tin1 _ (List.mem_of_getElem? (i := 12) rfl), nhX5.1, nhX5.2, pd10⟩
theorem viX5_chooseCode : pm_Vi mX5_chooseCode 5 := ⟨pm_Cl5, rfl, pm_tin8 _ (List.mem_of_getElem? (i := 202) rfl), List.mem_append_left _ (List.mem_of_getElem? (i := 125) rfl)⟩
theorem myX5_clearFrames : pm_My mX5_clearFrames 0 := ⟨pm_tin8 _ (List.mem_of_getElem? (i := 70) rfl), pm_tin1 _ (List.mem_of_getElem? (i := 12) rfl), nhX5.1, nhX5.2, pd10⟩
theorem viX5_clearFrames : pm_Vi mX5_clearFrames 5 := ⟨pm_Cl5, rfl, pm_tin8 _ (List.mem_of_getElem? (i := 69) rfl), List.mem_append_left _ (List.mem_of_getElem? (i := 104) rfl)⟩
theorem myX5_isBusy : pm_My mX5_isBusy 0 := ⟨pm_tin6 _ (List.mem_of_getElem? (i := 182) rfl), pm_tin1 _ (List.mem_of_getElem? (i := 12) rfl), nhX5.1, nhX5.2, pd12⟩
theorem viX5_isBusy : pm_Vi mX5_isBusy 5 := ⟨pm_Cl5, rfl, pm_tin6 _ (List.mem_of_getElem? (i := 180) rfl), pm_tin6 _ (List.mem_of_getElem? (i := 181) rfl)⟩
theorem myX5_stop : pm_My mX5_stop 1 := ⟨pm_tin8 _ (List.mem_of_getElem? (i := 66) rfl), pm_tin1 _ (List.mem_of_getElem? (i := 12) rfl), nhX5.1, nhX5.2, pd7⟩
theorem viX5_stop : pm_Vi mX5_stop 5 := ⟨pm_Cl5, rfl, pm_tin8 _ (List.mem_of_getElem? (i := 64) rfl), pm_tin8 _ (List.mem_of_getElem? (i := 65) rfl)⟩
theorem myX5_toldBits : pm_My mX5_toldBits 2 := ⟨pm_tin8 _ (List.mem_of_getElem? (i := 81) rfl), pm_tin1 _ (List.mem_of_getElem? (i := 12) rfl), nhX5.1, nhX5.2, pd13⟩
theorem stX5_toldBits : pm_St mX5_toldBits := pm_tin8 _ (List.mem_of_getElem? (i := 80) rfl)
theorem myX6_pageOf : pm_My mX6_pageOf 2 := ⟨pm_tin7 _ (List.mem_of_getElem? (i := 227) rfl), pm_tin1 _ (List.mem_of_getElem? (i := 9) rfl), nhX6.1, nhX6.2, pd14⟩
theorem viX6_pageOf : pm_Vi mX6_pageOf 6 := ⟨pm_Cl6, rfl, pm_tin7 _ (List.mem_of_getElem? (i := 226) rfl), List.mem_append_left _ (List.mem_of_getElem? (i := 98) rfl)⟩
theorem myX6_setByte : pm_My mX6_setByte 3 := ⟨pm_tin7 _ (List.mem_of_getElem? (i := 238) rfl), pm_tin1 _ (List.mem_of_getElem? (i := 9) rfl), nhX6.1, nhX6.2, pd15⟩
theorem viX6_setByte : pm_Vi mX6_setByte 6 := ⟨pm_Cl6, rfl, pm_tin7 _ (List.mem_of_getElem? (i := 236) rfl), pm_tin7 _ (List.mem_of_getElem? (i := 237) rfl)⟩
theorem myX7_imported : pm_My mX7_imported 1 := ⟨pm_tin5 _ (List.mem_of_getElem? (i := 14) rfl), pm_tin1 _ (List.mem_of_getElem? (i := 2) rfl), nhX7.1, nhX7.2, pd0⟩
theorem viX7_imported : pm_Vi mX7_imported 7 := ⟨pm_Cl7, rfl, pm_tin5 _ (List.mem_of_getElem? (i := 12) rfl), pm_tin5 _ (List.mem_of_getElem? (i := 13) rfl)⟩
theorem myX7_setSpace : pm_My mX7_setSpace 2 := ⟨pm_tin4 _ (List.mem_of_getElem? (i := 131) rfl), pm_tin1 _ (List.mem_of_getElem? (i := 2) rfl), nhX7.1, nhX7.2, pd16⟩
theorem viX7_setSpace : pm_Vi mX7_setSpace 7 := ⟨pm_Cl7, rfl, pm_tin4 _ (List.mem_of_getElem? (i := 129) rfl), pm_tin4 _ (List.mem_of_getElem? (i := 130) rfl)⟩
theorem myX7_space : pm_My mX7_space 1 := ⟨pm_tin2 _ (List.mem_of_getElem? (i := 183) rfl), pm_tin1 _ (List.mem_of_getElem? (i := 2) rfl), nhX7.1, nhX7.2, pd17⟩
theorem viX7_space : pm_Vi mX7_space 7 := ⟨pm_Cl7, rfl, pm_tin2 _ (List.mem_of_getElem? (i := 181) rfl), pm_tin2 _ (List.mem_of_getElem? (i := 182) rfl)⟩
theorem myX8_compareWhole : pm_My mX8_compareWhole 4 := ⟨pm_tin7 _ (List.mem_of_getElem? (i := 62) rfl), pm_tin1 _ (List.mem_of_getElem? (i := 10) rfl), nhX8.1, nhX8.2, pd18⟩
theorem stX8_compareWhole : pm_St mX8_compareWhole := pm_tin7 _ (List.mem_of_getElem? (i := 61) rfl)
theorem myX8_compareWithoutSign : pm_My mX8_compareWithoutSign 2 := ⟨pm_tin7 _ (List.mem_of_getElem? (i := 65) rfl), pm_tin1 _ (List.mem_of_getElem? (i := 10) rfl), nhX8.1, nhX8.2, pd2⟩
theorem stX8_compareWithoutSign : pm_St mX8_compareWithoutSign := pm_tin7 _ (List.mem_of_getElem? (i := 64) rfl)
theorem myX8_divide32 : pm_My mX8_divide32 3 := ⟨pm_tin7 _ (List.mem_of_getElem? (i := 92) rfl), pm_tin1 _ (List.mem_of_getElem? (i := 10) rfl), nhX8.1, nhX8.2, pd19⟩
theorem viX8_divide32 : pm_Vi mX8_divide32 8 := ⟨pm_Cl8, rfl, pm_tin7 _ (List.mem_of_getElem? (i := 91) rfl), List.mem_append_left _ (List.mem_of_getElem? (i := 92) rfl)⟩
theorem myX8_infinite : pm_My mX8_infinite 1 := ⟨pm_tin7 _ (List.mem_of_getElem? (i := 178) rfl), pm_tin1 _ (List.mem_of_getElem? (i := 10) rfl), nhX8.1, nhX8.2, pd20⟩
theorem stX8_infinite : pm_St mX8_infinite := pm_tin7 _ (List.mem_of_getElem? (i := 177) rfl)
theorem myX8_isBinary : pm_My mX8_isBinary 1 := ⟨pm_tin6 _ (List.mem_of_getElem? (i := 124) rfl), pm_tin1 _ (List.mem_of_getElem? (i := 10) rfl), nhX8.1, nhX8.2, pd9⟩
theorem stX8_isBinary : pm_St mX8_isBinary := pm_tin6 _ (List.mem_of_getElem? (i := 123) rfl)
theorem myX8_isInfinite : pm_My mX8_isInfinite 2 := ⟨pm_tin7 _ (List.mem_of_getElem? (i := 149) rfl), pm_tin1 _ (List.mem_of_getElem? (i := 10) rfl), nhX8.1, nhX8.2, pd21⟩
theorem stX8_isInfinite : pm_St mX8_isInfinite := pm_tin7 _ (List.mem_of_getElem? (i := 148) rfl)
theorem myX8_isMinus : pm_My mX8_isMinus 2 := ⟨pm_tin7 _ (List.mem_of_getElem? (i := 156) rfl), pm_tin1 _ (List.mem_of_getElem? (i := 10) rfl), nhX8.1, nhX8.2, pd21⟩
theorem stX8_isMinus : pm_St mX8_isMinus := pm_tin7 _ (List.mem_of_getElem? (i := 155) rfl)
theorem myX8_isNone : pm_My mX8_isNone 2 := ⟨pm_tin7 _ (List.mem_of_getElem? (i := 72) rfl), pm_tin1 _ (List.mem_of_getElem? (i := 10) rfl), nhX8.1, nhX8.2, pd21⟩
theorem stX8_isNone : pm_St mX8_isNone := pm_tin7 _ (List.mem_of_getElem? (i := 71) rfl)
theorem myX8_isZero : pm_My mX8_isZero 2 := ⟨pm_tin7 _ (List.mem_of_getElem? (i := 79) rfl), pm_tin1 _ (List.mem_of_getElem? (i := 10) rfl), nhX8.1, nhX8.2, pd21⟩
theorem stX8_isZero : pm_St mX8_isZero := pm_tin7 _ (List.mem_of_getElem? (i := 78) rfl)
theorem myX8_none : pm_My mX8_none 1 := ⟨pm_tin7 _ (List.mem_of_getElem? (i := 141) rfl), pm_tin1 _ (List.mem_of_getElem? (i := 10) rfl), nhX8.1, nhX8.2, pd20⟩
theorem stX8_none : pm_St mX8_none := pm_tin7 _ (List.mem_of_getElem? (i := 140) rfl)
theorem myX8_order : pm_My mX8_order 2 := ⟨pm_tin7 _ (List.mem_of_getElem? (i := 82) rfl), pm_tin1 _ (List.mem_of_getElem? (i := 10) rfl), nhX8.1, nhX8.2, pd13⟩
theorem stX8_order : pm_St mX8_order := pm_tin7 _ (List.mem_of_getElem? (i := 81) rfl)
theorem myX8_quotientWithoutSign : pm_My mX8_quotientWithoutSign 2 := ⟨pm_tin7 _ (List.mem_of_getElem? (i := 118) rfl), pm_tin1 _ (List.mem_of_getElem? (i := 10) rfl), nhX8.1, nhX8.2, pd3⟩
theorem stX8_quotientWithoutSign : pm_St mX8_quotientWithoutSign := pm_tin7 _ (List.mem_of_getElem? (i := 117) rfl)
theorem myX8_sign : pm_My mX8_sign 1 := ⟨pm_tin7 _ (List.mem_of_getElem? (i := 138) rfl), pm_tin1 _ (List.mem_of_getElem? (i := 10) rfl), nhX8.1, nhX8.2, pd20⟩
theorem stX8_sign : pm_St mX8_sign := pm_tin7 _ (List.mem_of_getElem? (i := 137) rfl)
theorem myX8_whole32 : pm_My mX8_whole32 3 := ⟨pm_tin7 _ (List.mem_of_getElem? (i := 88) rfl), pm_tin1 _ (List.mem_of_getElem? (i := 10) rfl), nhX8.1, nhX8.2, pd19⟩
theorem viX8_whole32 : pm_Vi mX8_whole32 8 := ⟨pm_Cl8, rfl, pm_tin7 _ (List.mem_of_getElem? (i := 87) rfl), List.mem_append_left _ (List.mem_of_getElem? (i := 91) rfl)⟩
theorem myX9_characterLength : pm_My mX9_characterLength 1 := ⟨pm_tin4 _ (List.mem_of_getElem? (i := 97) rfl), pm_tin1 _ (List.mem_of_getElem? (i := 3) rfl), nhX9.1, nhX9.2, pd0⟩
theorem viX9_characterLength : pm_Vi mX9_characterLength 9 := ⟨pm_Cl9, rfl, pm_tin4 _ (List.mem_of_getElem? (i := 96) rfl), List.mem_append_left _ (List.mem_of_getElem? (i := 5) rfl)⟩
theorem myX9_endsNumber : pm_My mX9_endsNumber 3 := ⟨pm_tin4 _ (List.mem_of_getElem? (i := 81) rfl), pm_tin1 _ (List.mem_of_getElem? (i := 3) rfl), nhX9.1, nhX9.2, pd22⟩
theorem stX9_endsNumber : pm_St mX9_endsNumber := pm_tin4 _ (List.mem_of_getElem? (i := 80) rfl)
theorem myX9_exceedLimit : pm_My mX9_exceedLimit 0 := ⟨pm_tin4 _ (List.mem_of_getElem? (i := 111) rfl), pm_tin1 _ (List.mem_of_getElem? (i := 3) rfl), nhX9.1, nhX9.2, pd10⟩
theorem viX9_exceedLimit : pm_Vi mX9_exceedLimit 9 := ⟨pm_Cl9, rfl, pm_tin4 _ (List.mem_of_getElem? (i := 110) rfl), List.mem_append_left _ (List.mem_of_getElem? (i := 7) rfl)⟩
theorem myX9_fail : pm_My mX9_fail 2 := ⟨pm_tin4 _ (List.mem_of_getElem? (i := 56) rfl), pm_tin1 _ (List.mem_of_getElem? (i := 3) rfl), nhX9.1, nhX9.2, pd8⟩
theorem viX9_fail : pm_Vi mX9_fail 9 := ⟨pm_Cl9, rfl, pm_tin4 _ (List.mem_of_getElem? (i := 55) rfl), List.mem_append_left _ (List.mem_of_getElem? (i := 1) rfl)⟩
theorem myX9_goesOn : pm_My mX9_goesOn 0 := ⟨pm_tin4 _ (List.mem_of_getElem? (i := 60) rfl), pm_tin1 _ (List.mem_of_getElem? (i := 3) rfl), nhX9.1, nhX9.2, pd12⟩
theorem viX9_goesOn : pm_Vi mX9_goesOn 9 := ⟨pm_Cl9, rfl, pm_tin4 _ (List.mem_of_getElem? (i := 58) rfl), pm_tin4 _ (List.mem_of_getElem? (i := 59) rfl)⟩
theorem myX9_isReference : pm_My mX9_isReference 1 := ⟨pm_tin4 _ (List.mem_of_getElem? (i := 175) rfl), pm_tin1 _ (List.mem_of_getElem? (i := 3) rfl), nhX9.1, nhX9.2, pd9⟩
theorem stX9_isReference : pm_St mX9_isReference := pm_tin4 _ (List.mem_of_getElem? (i := 174) rfl)
theorem myX9_isValue : pm_My mX9_isValue 1 := ⟨pm_tin4 _ (List.mem_of_getElem? (i := 144) rfl), pm_tin1 _ (List.mem_of_getElem? (i := 3) rfl), nhX9.1, nhX9.2, pd9⟩
theorem stX9_isValue : pm_St mX9_isValue := pm_tin4 _ (List.mem_of_getElem? (i := 143) rfl)
theorem myX9_next : pm_My mX9_next 0 := ⟨pm_tin4 _ (List.mem_of_getElem? (i := 52) rfl), pm_tin1 _ (List.mem_of_getElem? (i := 3) rfl), nhX9.1, nhX9.2, pd23⟩
theorem viX9_next : pm_Vi mX9_next 9 := ⟨pm_Cl9, rfl, pm_tin4 _ (List.mem_of_getElem? (i := 50) rfl), pm_tin4 _ (List.mem_of_getElem? (i := 51) rfl)⟩
theorem myX9_nextUpTo : pm_My mX9_nextUpTo 1 := ⟨pm_tin4 _ (List.mem_of_getElem? (i := 161) rfl), pm_tin1 _ (List.mem_of_getElem? (i := 3) rfl), nhX9.1, nhX9.2, pd0⟩
theorem viX9_nextUpTo : pm_Vi mX9_nextUpTo 9 := ⟨pm_Cl9, rfl, pm_tin4 _ (List.mem_of_getElem? (i := 160) rfl), List.mem_append_left _ (List.mem_of_getElem? (i := 11) rfl)⟩
theorem myX9_open : pm_My mX9_open 2 := ⟨pm_tin4 _ (List.mem_of_getElem? (i := 46) rfl), pm_tin1 _ (List.mem_of_getElem? (i := 3) rfl), nhX9.1, nhX9.2, pd24⟩
theorem viX9_open : pm_Vi mX9_open 9 := ⟨pm_Cl9, rfl, pm_tin4 _ (List.mem_of_getElem? (i := 44) rfl), pm_tin4 _ (List.mem_of_getElem? (i := 45) rfl)⟩
theorem myX9_rank : pm_My mX9_rank 1 := ⟨pm_tin4 _ (List.mem_of_getElem? (i := 71) rfl), pm_tin1 _ (List.mem_of_getElem? (i := 3) rfl), nhX9.1, nhX9.2, pd0⟩
theorem stX9_rank : pm_St mX9_rank := pm_tin4 _ (List.mem_of_getElem? (i := 70) rfl)
theorem myX9_referenceType : pm_My mX9_referenceType 0 := ⟨pm_tin4 _ (List.mem_of_getElem? (i := 172) rfl), pm_tin1 _ (List.mem_of_getElem? (i := 3) rfl), nhX9.1, nhX9.2, pd23⟩
theorem viX9_referenceType : pm_Vi mX9_referenceType 9 := ⟨pm_Cl9, rfl, pm_tin4 _ (List.mem_of_getElem? (i := 171) rfl), List.mem_append_left _ (List.mem_of_getElem? (i := 13) rfl)⟩
theorem myX9_skip : pm_My mX9_skip 1 := ⟨pm_tin4 _ (List.mem_of_getElem? (i := 93) rfl), pm_tin1 _ (List.mem_of_getElem? (i := 3) rfl), nhX9.1, nhX9.2, pd6⟩
theorem viX9_skip : pm_Vi mX9_skip 9 := ⟨pm_Cl9, rfl, pm_tin4 _ (List.mem_of_getElem? (i := 92) rfl), List.mem_append_left _ (List.mem_of_getElem? (i := 4) rfl)⟩
theorem myX9_valueType : pm_My mX9_valueType 0 := ⟨pm_tin4 _ (List.mem_of_getElem? (i := 141) rfl), pm_tin1 _ (List.mem_of_getElem? (i := 3) rfl), nhX9.1, nhX9.2, pd23⟩
theorem viX9_valueType : pm_Vi mX9_valueType 9 := ⟨pm_Cl9, rfl, pm_tin4 _ (List.mem_of_getElem? (i := 140) rfl), List.mem_append_left _ (List.mem_of_getElem? (i := 9) rfl)⟩
theorem myX10_bodyOf : pm_My mX10_bodyOf 1 := ⟨pm_tin6 _ (List.mem_of_getElem? (i := 200) rfl), pm_tin1 _ (List.mem_of_getElem? (i := 7) rfl), nhX10.1, nhX10.2, pd25⟩
theorem viX10_bodyOf : pm_Vi mX10_bodyOf 10 := ⟨pm_Cl10, rfl, pm_tin6 _ (List.mem_of_getElem? (i := 198) rfl), pm_tin6 _ (List.mem_of_getElem? (i := 199) rfl)⟩
theorem myX10_countFrame : pm_My mX10_countFrame 2 := ⟨pm_tin8 _ (List.mem_of_getElem? (i := 104) rfl), pm_tin1 _ (List.mem_of_getElem? (i := 7) rfl), nhX10.1, nhX10.2, pd26⟩
theorem viX10_countFrame : pm_Vi mX10_countFrame 10 := ⟨pm_Cl10, rfl, pm_tin8 _ (List.mem_of_getElem? (i := 102) rfl), pm_tin8 _ (List.mem_of_getElem? (i := 103) rfl)⟩
theorem myX10_homeOf : pm_My mX10_homeOf 1 := ⟨pm_tin8 _ (List.mem_of_getElem? (i := 100) rfl), pm_tin1 _ (List.mem_of_getElem? (i := 7) rfl), nhX10.1, nhX10.2, pd27⟩
theorem viX10_homeOf : pm_Vi mX10_homeOf 10 := ⟨pm_Cl10, rfl, pm_tin8 _ (List.mem_of_getElem? (i := 98) rfl), pm_tin8 _ (List.mem_of_getElem? (i := 99) rfl)⟩
theorem myX10_hostNumber : pm_My mX10_hostNumber 1 := ⟨pm_tin8 _ (List.mem_of_getElem? (i := 92) rfl), pm_tin1 _ (List.mem_of_getElem? (i := 7) rfl), nhX10.1, nhX10.2, pd0⟩
theorem viX10_hostNumber : pm_Vi mX10_hostNumber 10 := ⟨pm_Cl10, rfl, pm_tin8 _ (List.mem_of_getElem? (i := 90) rfl), pm_tin8 _ (List.mem_of_getElem? (i := 91) rfl)⟩
theorem myX10_instanceAt : pm_My mX10_instanceAt 1 := ⟨pm_tin3 _ (List.mem_of_getElem? (i := 114) rfl), pm_tin1 _ (List.mem_of_getElem? (i := 7) rfl), nhX10.1, nhX10.2, pd27⟩
theorem viX10_instanceAt : pm_Vi mX10_instanceAt 10 := ⟨pm_Cl10, rfl, pm_tin3 _ (List.mem_of_getElem? (i := 112) rfl), pm_tin3 _ (List.mem_of_getElem? (i := 113) rfl)⟩
theorem myX10_isSameShape : pm_My mX10_isSameShape 2 := ⟨pm_tin6 _ (List.mem_of_getElem? (i := 204) rfl), pm_tin1 _ (List.mem_of_getElem? (i := 7) rfl), nhX10.1, nhX10.2, pd28⟩
theorem stX10_isSameShape : pm_St mX10_isSameShape := pm_tin6 _ (List.mem_of_getElem? (i := 203) rfl)
theorem myX10_shapeOf : pm_My mX10_shapeOf 1 := ⟨pm_tin6 _ (List.mem_of_getElem? (i := 196) rfl), pm_tin1 _ (List.mem_of_getElem? (i := 7) rfl), nhX10.1, nhX10.2, pd11⟩
theorem viX10_shapeOf : pm_Vi mX10_shapeOf 10 := ⟨pm_Cl10, rfl, pm_tin6 _ (List.mem_of_getElem? (i := 194) rfl), pm_tin6 _ (List.mem_of_getElem? (i := 195) rfl)⟩
theorem myX11_entry : pm_My mX11_entry 2 := ⟨pm_tin8 _ (List.mem_of_getElem? (i := 46) rfl), pm_tin1 _ (List.mem_of_getElem? (i := 8) rfl), nhX11.1, nhX11.2, pd14⟩
theorem viX11_entry : pm_Vi mX11_entry 11 := ⟨pm_Cl11, rfl, pm_tin8 _ (List.mem_of_getElem? (i := 44) rfl), pm_tin8 _ (List.mem_of_getElem? (i := 45) rfl)⟩
theorem myX11_setEntry : pm_My mX11_setEntry 3 := ⟨pm_tin8 _ (List.mem_of_getElem? (i := 38) rfl), pm_tin1 _ (List.mem_of_getElem? (i := 8) rfl), nhX11.1, nhX11.2, pd15⟩
theorem viX11_setEntry : pm_Vi mX11_setEntry 11 := ⟨pm_Cl11, rfl, pm_tin8 _ (List.mem_of_getElem? (i := 36) rfl), pm_tin8 _ (List.mem_of_getElem? (i := 37) rfl)⟩
theorem myX12_argument : pm_My mX12_argument 1 := ⟨pm_tin8 _ (List.mem_of_getElem? (i := 219) rfl), pm_tin1 _ (List.mem_of_getElem? (i := 1) rfl), nhX12.1, nhX12.2, pd1⟩
theorem viX12_argument : pm_Vi mX12_argument 12 := ⟨pm_Cl12, rfl, pm_tin8 _ (List.mem_of_getElem? (i := 217) rfl), pm_tin8 _ (List.mem_of_getElem? (i := 218) rfl)⟩
theorem myX12_fault : pm_My mX12_fault 1 := ⟨pm_tin6 _ (List.mem_of_getElem? (i := 151) rfl), pm_tin1 _ (List.mem_of_getElem? (i := 1) rfl), nhX12.1, nhX12.2, pd0⟩
theorem viX12_fault : pm_Vi mX12_fault 12 := ⟨pm_Cl12, rfl, pm_tin6 _ (List.mem_of_getElem? (i := 149) rfl), pm_tin6 _ (List.mem_of_getElem? (i := 150) rfl)⟩
theorem myX12_give : pm_My mX12_give 0 := ⟨pm_tin9 _ (List.mem_of_getElem? (i := 37) rfl), pm_tin1 _ (List.mem_of_getElem? (i := 1) rfl), nhX12.1, nhX12.2, pd12⟩
theorem viX12_give : pm_Vi mX12_give 12 := ⟨pm_Cl12, rfl, pm_tin9 _ (List.mem_of_getElem? (i := 35) rfl), pm_tin9 _ (List.mem_of_getElem? (i := 36) rfl)⟩
theorem myX12_index : pm_My mX12_index 1 := ⟨pm_tin4 _ (List.mem_of_getElem? (i := 182) rfl), pm_tin1 _ (List.mem_of_getElem? (i := 1) rfl), nhX12.1, nhX12.2, pd1⟩
theorem stX12_index : pm_St mX12_index := pm_tin4 _ (List.mem_of_getElem? (i := 181) rfl)
theorem myX12_item : pm_My mX12_item 2 := ⟨pm_tin5 _ (List.mem_of_getElem? (i := 44) rfl), pm_tin1 _ (List.mem_of_getElem? (i := 1) rfl), nhX12.1, nhX12.2, pd29⟩
theorem stX12_item : pm_St mX12_item := pm_tin5 _ (List.mem_of_getElem? (i := 43) rfl)
theorem myX12_item_ : pm_My mX12_item_ 2 := ⟨pm_tin5 _ (List.mem_of_getElem? (i := 37) rfl), pm_tin1 _ (List.mem_of_getElem? (i := 1) rfl), nhX12.1, nhX12.2, pd30⟩
theorem stX12_item_ : pm_St mX12_item_ := pm_tin5 _ (List.mem_of_getElem? (i := 36) rfl)
theorem myX12_setItem : pm_My mX12_setItem 3 := ⟨pm_tin4 _ (List.mem_of_getElem? (i := 85) rfl), pm_tin1 _ (List.mem_of_getElem? (i := 1) rfl), nhX12.1, nhX12.2, pd31⟩
theorem stX12_setItem : pm_St mX12_setItem := pm_tin4 _ (List.mem_of_getElem? (i := 84) rfl)
theorem myX12_setItem_ : pm_My mX12_setItem_ 3 := ⟨pm_tin4 _ (List.mem_of_getElem? (i := 168) rfl), pm_tin1 _ (List.mem_of_getElem? (i := 1) rfl), nhX12.1, nhX12.2, pd32⟩
theorem stX12_setItem_ : pm_St mX12_setItem_ := pm_tin4 _ (List.mem_of_getElem? (i := 167) rfl)
theorem myX12_state : pm_My mX12_state 1 := ⟨pm_tin9 _ (List.mem_of_getElem? (i := 50) rfl), pm_tin1 _ (List.mem_of_getElem? (i := 1) rfl), nhX12.1, nhX12.2, pd0⟩
theorem viX12_state : pm_Vi mX12_state 12 := ⟨pm_Cl12, rfl, pm_tin9 _ (List.mem_of_getElem? (i := 48) rfl), pm_tin9 _ (List.mem_of_getElem? (i := 49) rfl)⟩
theorem myX12_tier : pm_My mX12_tier 1 := ⟨pm_tin9 _ (List.mem_of_getElem? (i := 60) rfl), pm_tin1 _ (List.mem_of_getElem? (i := 1) rfl), nhX12.1, nhX12.2, pd0⟩
theorem viX12_tier : pm_Vi mX12_tier 12 := ⟨pm_Cl12, rfl, pm_tin9 _ (List.mem_of_getElem? (i := 58) rfl), pm_tin9 _ (List.mem_of_getElem? (i := 59) rfl)⟩
theorem myX12_value : pm_My mX12_value 1 := ⟨pm_tin9 _ (List.mem_of_getElem? (i := 55) rfl), pm_tin1 _ (List.mem_of_getElem? (i := 1) rfl), nhX12.1, nhX12.2, pd20⟩
theorem viX12_value : pm_Vi mX12_value 12 := ⟨pm_Cl12, rfl, pm_tin9 _ (List.mem_of_getElem? (i := 53) rfl), pm_tin9 _ (List.mem_of_getElem? (i := 54) rfl)⟩
theorem myX12_write : pm_My mX12_write 2 := ⟨pm_tin4 _ (List.mem_of_getElem? (i := 18) rfl), pm_tin1 _ (List.mem_of_getElem? (i := 1) rfl), nhX12.1, nhX12.2, pd8⟩
theorem viX12_write : pm_Vi mX12_write 12 := ⟨pm_Cl12, rfl, pm_tin4 _ (List.mem_of_getElem? (i := 17) rfl), List.mem_append_left _ (List.mem_of_getElem? (i := 0) rfl)⟩
theorem myX14_at : pm_My mX14_at 1 := ⟨pm_tin12 _ (List.mem_of_getElem? (i := 39) rfl), pm_tin1 _ (List.mem_of_getElem? (i := 27) rfl), nhX14.1, nhX14.2, pd0⟩
theorem viX14_at : pm_Vi mX14_at 14 := ⟨pm_Cl14, rfl, pm_tin12 _ (List.mem_of_getElem? (i := 37) rfl), pm_tin12 _ (List.mem_of_getElem? (i := 38) rfl)⟩
theorem myX14_importOf : pm_My mX14_importOf 2 := ⟨pm_tin12 _ (List.mem_of_getElem? (i := 230) rfl), pm_tin1 _ (List.mem_of_getElem? (i := 27) rfl), nhX14.1, nhX14.2, pd5⟩
theorem viX14_importOf : pm_Vi mX14_importOf 14 := ⟨pm_Cl14, rfl, pm_tin12 _ (List.mem_of_getElem? (i := 228) rfl), pm_tin12 _ (List.mem_of_getElem? (i := 229) rfl)⟩
theorem myX14_imported : pm_My mX14_imported 1 := ⟨pm_tin12 _ (List.mem_of_getElem? (i := 214) rfl), pm_tin1 _ (List.mem_of_getElem? (i := 27) rfl), nhX14.1, nhX14.2, pd0⟩
theorem viX14_imported : pm_Vi mX14_imported 14 := ⟨pm_Cl14, rfl, pm_tin12 _ (List.mem_of_getElem? (i := 212) rfl), pm_tin12 _ (List.mem_of_getElem? (i := 213) rfl)⟩
theorem myX14_typeOfFunction : pm_My mX14_typeOfFunction 1 := ⟨pm_tin12 _ (List.mem_of_getElem? (i := 226) rfl), pm_tin1 _ (List.mem_of_getElem? (i := 27) rfl), nhX14.1, nhX14.2, pd0⟩
theorem viX14_typeOfFunction : pm_Vi mX14_typeOfFunction 14 := ⟨pm_Cl14, rfl, pm_tin12 _ (List.mem_of_getElem? (i := 224) rfl), pm_tin12 _ (List.mem_of_getElem? (i := 225) rfl)⟩
theorem myX14_typeOfGlobal : pm_My mX14_typeOfGlobal 1 := ⟨pm_tin13 _ (List.mem_of_getElem? (i := 40) rfl), pm_tin1 _ (List.mem_of_getElem? (i := 27) rfl), nhX14.1, nhX14.2, pd0⟩
theorem viX14_typeOfGlobal : pm_Vi mX14_typeOfGlobal 14 := ⟨pm_Cl14, rfl, pm_tin13 _ (List.mem_of_getElem? (i := 38) rfl), pm_tin13 _ (List.mem_of_getElem? (i := 39) rfl)⟩
theorem myX14_typeOfTable : pm_My mX14_typeOfTable 1 := ⟨pm_tin13 _ (List.mem_of_getElem? (i := 48) rfl), pm_tin1 _ (List.mem_of_getElem? (i := 27) rfl), nhX14.1, nhX14.2, pd0⟩
theorem viX14_typeOfTable : pm_Vi mX14_typeOfTable 14 := ⟨pm_Cl14, rfl, pm_tin13 _ (List.mem_of_getElem? (i := 46) rfl), pm_tin13 _ (List.mem_of_getElem? (i := 47) rfl)⟩
theorem myX15_read : pm_My mX15_read 2 := ⟨pm_tin14 _ (List.mem_of_getElem? (i := 150) rfl), pm_tin1 _ (List.mem_of_getElem? (i := 20) rfl), nhX15.1, nhX15.2, pd33⟩
theorem viX15_read : pm_Vi mX15_read 15 := ⟨pm_Cl15, rfl, pm_tin14 _ (List.mem_of_getElem? (i := 148) rfl), pm_tin14 _ (List.mem_of_getElem? (i := 149) rfl)⟩
theorem myX16_accessType : pm_My mX16_accessType 1 := ⟨pm_tin13 _ (List.mem_of_getElem? (i := 176) rfl), pm_tin1 _ (List.mem_of_getElem? (i := 15) rfl), nhX16.1, nhX16.2, pd0⟩
theorem stX16_accessType : pm_St mX16_accessType := pm_tin13 _ (List.mem_of_getElem? (i := 175) rfl)
theorem myX16_areLimits : pm_My mX16_areLimits 3 := ⟨pm_tin12 _ (List.mem_of_getElem? (i := 205) rfl), pm_tin1 _ (List.mem_of_getElem? (i := 15) rfl), nhX16.1, nhX16.2, pd34⟩
theorem stX16_areLimits : pm_St mX16_areLimits := pm_tin12 _ (List.mem_of_getElem? (i := 204) rfl)
theorem myX16_argument : pm_My mX16_argument 1 := ⟨pm_tin14 _ (List.mem_of_getElem? (i := 98) rfl), pm_tin1 _ (List.mem_of_getElem? (i := 15) rfl), nhX16.1, nhX16.2, pd1⟩
theorem viX16_argument : pm_Vi mX16_argument 16 := ⟨pm_Cl16, rfl, pm_tin14 _ (List.mem_of_getElem? (i := 96) rfl), pm_tin14 _ (List.mem_of_getElem? (i := 97) rfl)⟩
theorem myX16_branches : pm_My mX16_branches 1 := ⟨pm_tin15 _ (List.mem_of_getElem? (i := 39) rfl), pm_tin1 _ (List.mem_of_getElem? (i := 15) rfl), nhX16.1, nhX16.2, pd7⟩
theorem viX16_branches : pm_Vi mX16_branches 16 := ⟨pm_Cl16, rfl, pm_tin15 _ (List.mem_of_getElem? (i := 38) rfl), List.mem_append_left _ (List.mem_of_getElem? (i := 275) rfl)⟩
theorem myX16_bytesAt : pm_My mX16_bytesAt 1 := ⟨pm_tin14 _ (List.mem_of_getElem? (i := 21) rfl), pm_tin1 _ (List.mem_of_getElem? (i := 15) rfl), nhX16.1, nhX16.2, pd20⟩
theorem viX16_bytesAt : pm_Vi mX16_bytesAt 16 := ⟨pm_Cl16, rfl, pm_tin14 _ (List.mem_of_getElem? (i := 20) rfl), List.mem_append_left _ (List.mem_of_getElem? (i := 231) rfl)⟩
theorem myX16_copiesElement : pm_My mX16_copiesElement 6 := ⟨pm_tin14 _ (List.mem_of_getElem? (i := 33) rfl), pm_tin1 _ (List.mem_of_getElem? (i := 15) rfl), nhX16.1, nhX16.2, pd35⟩
theorem viX16_copiesElement : pm_Vi mX16_copiesElement 16 := ⟨pm_Cl16, rfl, pm_tin14 _ (List.mem_of_getElem? (i := 32) rfl), List.mem_append_left _ (List.mem_of_getElem? (i := 234) rfl)⟩
theorem myX16_counts : pm_My mX16_counts 1 := ⟨pm_tin14 _ (List.mem_of_getElem? (i := 74) rfl), pm_tin1 _ (List.mem_of_getElem? (i := 15) rfl), nhX16.1, nhX16.2, pd7⟩
theorem viX16_counts : pm_Vi mX16_counts 16 := ⟨pm_Cl16, rfl, pm_tin14 _ (List.mem_of_getElem? (i := 73) rfl), List.mem_append_left _ (List.mem_of_getElem? (i := 244) rfl)⟩
theorem myX16_declare : pm_My mX16_declare 1 := ⟨pm_tin13 _ (List.mem_of_getElem? (i := 6) rfl), pm_tin1 _ (List.mem_of_getElem? (i := 15) rfl), nhX16.1, nhX16.2, pd6⟩
theorem viX16_declare : pm_Vi mX16_declare 16 := ⟨pm_Cl16, rfl, pm_tin13 _ (List.mem_of_getElem? (i := 5) rfl), List.mem_append_left _ (List.mem_of_getElem? (i := 178) rfl)⟩
theorem myX16_dies : pm_My mX16_dies 0 := ⟨pm_tin13 _ (List.mem_of_getElem? (i := 104) rfl), pm_tin1 _ (List.mem_of_getElem? (i := 15) rfl), nhX16.1, nhX16.2, pd10⟩
theorem viX16_dies : pm_Vi mX16_dies 16 := ⟨pm_Cl16, rfl, pm_tin13 _ (List.mem_of_getElem? (i := 103) rfl), List.mem_append_left _ (List.mem_of_getElem? (i := 196) rfl)⟩
theorem myX16_dropped : pm_My mX16_dropped 2 := ⟨pm_tin14 _ (List.mem_of_getElem? (i := 41) rfl), pm_tin1 _ (List.mem_of_getElem? (i := 15) rfl), nhX16.1, nhX16.2, pd8⟩
theorem viX16_dropped : pm_Vi mX16_dropped 16 := ⟨pm_Cl16, rfl, pm_tin14 _ (List.mem_of_getElem? (i := 40) rfl), List.mem_append_left _ (List.mem_of_getElem? (i := 236) rfl)⟩
theorem myX16_endsBy : pm_My mX16_endsBy 2 := ⟨pm_tin15 _ (List.mem_of_getElem? (i := 23) rfl), pm_tin1 _ (List.mem_of_getElem? (i := 15) rfl), nhX16.1, nhX16.2, pd36⟩
theorem viX16_endsBy : pm_Vi mX16_endsBy 16 := ⟨pm_Cl16, rfl, pm_tin15 _ (List.mem_of_getElem? (i := 22) rfl), List.mem_append_left _ (List.mem_of_getElem? (i := 271) rfl)⟩
theorem myX16_exceeds : pm_My mX16_exceeds 1 := ⟨pm_tin12 _ (List.mem_of_getElem? (i := 77) rfl), pm_tin1 _ (List.mem_of_getElem? (i := 15) rfl), nhX16.1, nhX16.2, pd37⟩
theorem viX16_exceeds : pm_Vi mX16_exceeds 16 := ⟨pm_Cl16, rfl, pm_tin12 _ (List.mem_of_getElem? (i := 76) rfl), List.mem_append_left _ (List.mem_of_getElem? (i := 148) rfl)⟩
theorem myX16_exportKind : pm_My mX16_exportKind 2 := ⟨pm_tin13 _ (List.mem_of_getElem? (i := 200) rfl), pm_tin1 _ (List.mem_of_getElem? (i := 15) rfl), nhX16.1, nhX16.2, pd5⟩
theorem viX16_exportKind : pm_Vi mX16_exportKind 16 := ⟨pm_Cl16, rfl, pm_tin13 _ (List.mem_of_getElem? (i := 199) rfl), List.mem_append_left _ (List.mem_of_getElem? (i := 217) rfl)⟩
theorem myX16_failsAtOnce : pm_My mX16_failsAtOnce 1 := ⟨pm_tin14 _ (List.mem_of_getElem? (i := 37) rfl), pm_tin1 _ (List.mem_of_getElem? (i := 15) rfl), nhX16.1, nhX16.2, pd7⟩
theorem viX16_failsAtOnce : pm_Vi mX16_failsAtOnce 16 := ⟨pm_Cl16, rfl, pm_tin14 _ (List.mem_of_getElem? (i := 36) rfl), List.mem_append_left _ (List.mem_of_getElem? (i := 235) rfl)⟩
theorem myX16_fault : pm_My mX16_fault 1 := ⟨pm_tin13 _ (List.mem_of_getElem? (i := 184) rfl), pm_tin1 _ (List.mem_of_getElem? (i := 15) rfl), nhX16.1, nhX16.2, pd0⟩
theorem viX16_fault : pm_Vi mX16_fault 16 := ⟨pm_Cl16, rfl, pm_tin13 _ (List.mem_of_getElem? (i := 182) rfl), pm_tin13 _ (List.mem_of_getElem? (i := 183) rfl)⟩
theorem myX16_grows : pm_My mX16_grows 3 := ⟨pm_tin14 _ (List.mem_of_getElem? (i := 9) rfl), pm_tin1 _ (List.mem_of_getElem? (i := 15) rfl), nhX16.1, nhX16.2, pd38⟩
theorem viX16_grows : pm_Vi mX16_grows 16 := ⟨pm_Cl16, rfl, pm_tin14 _ (List.mem_of_getElem? (i := 8) rfl), List.mem_append_left _ (List.mem_of_getElem? (i := 228) rfl)⟩
theorem myX16_growsPages : pm_My mX16_growsPages 2 := ⟨pm_tin14 _ (List.mem_of_getElem? (i := 13) rfl), pm_tin1 _ (List.mem_of_getElem? (i := 15) rfl), nhX16.1, nhX16.2, pd8⟩
theorem viX16_growsPages : pm_Vi mX16_growsPages 16 := ⟨pm_Cl16, rfl, pm_tin14 _ (List.mem_of_getElem? (i := 12) rfl), List.mem_append_left _ (List.mem_of_getElem? (i := 229) rfl)⟩
theorem myX16_has : pm_My mX16_has 4 := ⟨pm_tin14 _ (List.mem_of_getElem? (i := 1) rfl), pm_tin1 _ (List.mem_of_getElem? (i := 15) rfl), nhX16.1, nhX16.2, pd39⟩
theorem viX16_has : pm_Vi mX16_has 16 := ⟨pm_Cl16, rfl, pm_tin14 _ (List.mem_of_getElem? (i := 0) rfl), List.mem_append_left _ (List.mem_of_getElem? (i := 226) rfl)⟩
theorem myX16_hasNumber : pm_My mX16_hasNumber 1 := ⟨pm_tin12 _ (List.mem_of_getElem? (i := 147) rfl), pm_tin1 _ (List.mem_of_getElem? (i := 15) rfl), nhX16.1, nhX16.2, pd9⟩
theorem stX16_hasNumber : pm_St mX16_hasNumber := pm_tin12 _ (List.mem_of_getElem? (i := 146) rfl)
theorem myX16_hasRoom : pm_My mX16_hasRoom 2 := ⟨pm_tin13 _ (List.mem_of_getElem? (i := 228) rfl), pm_tin1 _ (List.mem_of_getElem? (i := 15) rfl), nhX16.1, nhX16.2, pd40⟩
theorem viX16_hasRoom : pm_Vi mX16_hasRoom 16 := ⟨pm_Cl16, rfl, pm_tin13 _ (List.mem_of_getElem? (i := 227) rfl), List.mem_append_left _ (List.mem_of_getElem? (i := 223) rfl)⟩
theorem myX16_hasTwo : pm_My mX16_hasTwo 1 := ⟨pm_tin13 _ (List.mem_of_getElem? (i := 81) rfl), pm_tin1 _ (List.mem_of_getElem? (i := 15) rfl), nhX16.1, nhX16.2, pd9⟩
theorem stX16_hasTwo : pm_St mX16_hasTwo := pm_tin13 _ (List.mem_of_getElem? (i := 80) rfl)
theorem myX16_haveSameRows : pm_My mX16_haveSameRows 4 := ⟨pm_tin13 _ (List.mem_of_getElem? (i := 224) rfl), pm_tin1 _ (List.mem_of_getElem? (i := 15) rfl), nhX16.1, nhX16.2, pd41⟩
theorem viX16_haveSameRows : pm_Vi mX16_haveSameRows 16 := ⟨pm_Cl16, rfl, pm_tin13 _ (List.mem_of_getElem? (i := 223) rfl), List.mem_append_left _ (List.mem_of_getElem? (i := 222) rfl)⟩
theorem myX16_held : pm_My mX16_held 2 := ⟨pm_tin14 _ (List.mem_of_getElem? (i := 114) rfl), pm_tin1 _ (List.mem_of_getElem? (i := 15) rfl), nhX16.1, nhX16.2, pd13⟩
theorem stX16_held : pm_St mX16_held := pm_tin14 _ (List.mem_of_getElem? (i := 113) rfl)
theorem myX16_infinite : pm_My mX16_infinite 1 := ⟨pm_tin14 _ (List.mem_of_getElem? (i := 216) rfl), pm_tin1 _ (List.mem_of_getElem? (i := 15) rfl), nhX16.1, nhX16.2, pd20⟩
theorem stX16_infinite : pm_St mX16_infinite := pm_tin14 _ (List.mem_of_getElem? (i := 215) rfl)
theorem myX16_isAccess : pm_My mX16_isAccess 1 := ⟨pm_tin12 _ (List.mem_of_getElem? (i := 150) rfl), pm_tin1 _ (List.mem_of_getElem? (i := 15) rfl), nhX16.1, nhX16.2, pd9⟩
theorem stX16_isAccess : pm_St mX16_isAccess := pm_tin12 _ (List.mem_of_getElem? (i := 149) rfl)
theorem myX16_isAlone : pm_My mX16_isAlone 1 := ⟨pm_tin12 _ (List.mem_of_getElem? (i := 144) rfl), pm_tin1 _ (List.mem_of_getElem? (i := 15) rfl), nhX16.1, nhX16.2, pd9⟩
theorem stX16_isAlone : pm_St mX16_isAlone := pm_tin12 _ (List.mem_of_getElem? (i := 143) rfl)
theorem myX16_isBelow : pm_My mX16_isBelow 2 := ⟨pm_tin14 _ (List.mem_of_getElem? (i := 141) rfl), pm_tin1 _ (List.mem_of_getElem? (i := 15) rfl), nhX16.1, nhX16.2, pd42⟩
theorem stX16_isBelow : pm_St mX16_isBelow := pm_tin14 _ (List.mem_of_getElem? (i := 140) rfl)
theorem myX16_isInstance : pm_My mX16_isInstance 1 := ⟨pm_tin13 _ (List.mem_of_getElem? (i := 196) rfl), pm_tin1 _ (List.mem_of_getElem? (i := 15) rfl), nhX16.1, nhX16.2, pd9⟩
theorem viX16_isInstance : pm_Vi mX16_isInstance 16 := ⟨pm_Cl16, rfl, pm_tin13 _ (List.mem_of_getElem? (i := 195) rfl), List.mem_append_left _ (List.mem_of_getElem? (i := 216) rfl)⟩
theorem myX16_isReference : pm_My mX16_isReference 1 := ⟨pm_tin12 _ (List.mem_of_getElem? (i := 92) rfl), pm_tin1 _ (List.mem_of_getElem? (i := 15) rfl), nhX16.1, nhX16.2, pd9⟩
theorem stX16_isReference : pm_St mX16_isReference := pm_tin12 _ (List.mem_of_getElem? (i := 91) rfl)
theorem myX16_isSameName : pm_My mX16_isSameName 2 := ⟨pm_tin12 _ (List.mem_of_getElem? (i := 222) rfl), pm_tin1 _ (List.mem_of_getElem? (i := 15) rfl), nhX16.1, nhX16.2, pd26⟩
theorem viX16_isSameName : pm_Vi mX16_isSameName 16 := ⟨pm_Cl16, rfl, pm_tin12 _ (List.mem_of_getElem? (i := 221) rfl), List.mem_append_left _ (List.mem_of_getElem? (i := 174) rfl)⟩
theorem myX16_isType : pm_My mX16_isType 1 := ⟨pm_tin12 _ (List.mem_of_getElem? (i := 89) rfl), pm_tin1 _ (List.mem_of_getElem? (i := 15) rfl), nhX16.1, nhX16.2, pd9⟩
theorem stX16_isType : pm_St mX16_isType := pm_tin12 _ (List.mem_of_getElem? (i := 88) rfl)
theorem myX16_isWhole : pm_My mX16_isWhole 5 := ⟨pm_tin14 _ (List.mem_of_getElem? (i := 138) rfl), pm_tin1 _ (List.mem_of_getElem? (i := 15) rfl), nhX16.1, nhX16.2, pd43⟩
theorem stX16_isWhole : pm_St mX16_isWhole := pm_tin14 _ (List.mem_of_getElem? (i := 137) rfl)
theorem myX16_kept : pm_My mX16_kept 1 := ⟨pm_tin12 _ (List.mem_of_getElem? (i := 72) rfl), pm_tin1 _ (List.mem_of_getElem? (i := 15) rfl), nhX16.1, nhX16.2, pd1⟩
theorem viX16_kept : pm_Vi mX16_kept 16 := ⟨pm_Cl16, rfl, pm_tin12 _ (List.mem_of_getElem? (i := 71) rfl), List.mem_append_left _ (List.mem_of_getElem? (i := 147) rfl)⟩
theorem myX16_length : pm_My mX16_length 2 := ⟨pm_tin14 _ (List.mem_of_getElem? (i := 212) rfl), pm_tin1 _ (List.mem_of_getElem? (i := 15) rfl), nhX16.1, nhX16.2, pd2⟩
theorem stX16_length : pm_St mX16_length := pm_tin14 _ (List.mem_of_getElem? (i := 211) rfl)
theorem myX16_newFunction : pm_My mX16_newFunction 5 := ⟨pm_tin13 _ (List.mem_of_getElem? (i := 237) rfl), pm_tin1 _ (List.mem_of_getElem? (i := 15) rfl), nhX16.1, nhX16.2, pd4⟩
theorem viX16_newFunction : pm_Vi mX16_newFunction 16 := ⟨pm_Cl16, rfl, pm_tin13 _ (List.mem_of_getElem? (i := 236) rfl), List.mem_append_left _ (List.mem_of_getElem? (i := 225) rfl)⟩
theorem myX16_noneOf : pm_My mX16_noneOf 1 := ⟨pm_tin14 _ (List.mem_of_getElem? (i := 200) rfl), pm_tin1 _ (List.mem_of_getElem? (i := 15) rfl), nhX16.1, nhX16.2, pd20⟩
theorem stX16_noneOf : pm_St mX16_noneOf := pm_tin14 _ (List.mem_of_getElem? (i := 199) rfl)
theorem myX16_ones : pm_My mX16_ones 1 := ⟨pm_tin14 _ (List.mem_of_getElem? (i := 166) rfl), pm_tin1 _ (List.mem_of_getElem? (i := 15) rfl), nhX16.1, nhX16.2, pd1⟩
theorem stX16_ones : pm_St mX16_ones := pm_tin14 _ (List.mem_of_getElem? (i := 165) rfl)
theorem myX16_opens : pm_My mX16_opens 4 := ⟨pm_tin14 _ (List.mem_of_getElem? (i := 78) rfl), pm_tin1 _ (List.mem_of_getElem? (i := 15) rfl), nhX16.1, nhX16.2, pd44⟩
theorem viX16_opens : pm_Vi mX16_opens 16 := ⟨pm_Cl16, rfl, pm_tin14 _ (List.mem_of_getElem? (i := 77) rfl), List.mem_append_left _ (List.mem_of_getElem? (i := 245) rfl)⟩
theorem myX16_operandOf : pm_My mX16_operandOf 1 := ⟨pm_tin13 _ (List.mem_of_getElem? (i := 78) rfl), pm_tin1 _ (List.mem_of_getElem? (i := 15) rfl), nhX16.1, nhX16.2, pd0⟩
theorem stX16_operandOf : pm_St mX16_operandOf := pm_tin13 _ (List.mem_of_getElem? (i := 77) rfl)
theorem myX16_parameterAt : pm_My mX16_parameterAt 2 := ⟨pm_tin13 _ (List.mem_of_getElem? (i := 116) rfl), pm_tin1 _ (List.mem_of_getElem? (i := 15) rfl), nhX16.1, nhX16.2, pd45⟩
theorem viX16_parameterAt : pm_Vi mX16_parameterAt 16 := ⟨pm_Cl16, rfl, pm_tin13 _ (List.mem_of_getElem? (i := 115) rfl), List.mem_append_left _ (List.mem_of_getElem? (i := 199) rfl)⟩
theorem myX16_parametersOf : pm_My mX16_parametersOf 1 := ⟨pm_tin13 _ (List.mem_of_getElem? (i := 112) rfl), pm_tin1 _ (List.mem_of_getElem? (i := 15) rfl), nhX16.1, nhX16.2, pd1⟩
theorem viX16_parametersOf : pm_Vi mX16_parametersOf 16 := ⟨pm_Cl16, rfl, pm_tin13 _ (List.mem_of_getElem? (i := 111) rfl), List.mem_append_left _ (List.mem_of_getElem? (i := 198) rfl)⟩
theorem myX16_placeOf : pm_My mX16_placeOf 2 := ⟨pm_tin14 _ (List.mem_of_getElem? (i := 53) rfl), pm_tin1 _ (List.mem_of_getElem? (i := 15) rfl), nhX16.1, nhX16.2, pd14⟩
theorem viX16_placeOf : pm_Vi mX16_placeOf 16 := ⟨pm_Cl16, rfl, pm_tin14 _ (List.mem_of_getElem? (i := 52) rfl), List.mem_append_left _ (List.mem_of_getElem? (i := 239) rfl)⟩
theorem myX16_plain : pm_My mX16_plain 3 := ⟨pm_tin14 _ (List.mem_of_getElem? (i := 185) rfl), pm_tin1 _ (List.mem_of_getElem? (i := 15) rfl), nhX16.1, nhX16.2, pd46⟩
theorem stX16_plain : pm_St mX16_plain := pm_tin14 _ (List.mem_of_getElem? (i := 184) rfl)
theorem myX16_planOf : pm_My mX16_planOf 1 := ⟨pm_tin14 _ (List.mem_of_getElem? (i := 70) rfl), pm_tin1 _ (List.mem_of_getElem? (i := 15) rfl), nhX16.1, nhX16.2, pd47⟩
theorem viX16_planOf : pm_Vi mX16_planOf 16 := ⟨pm_Cl16, rfl, pm_tin14 _ (List.mem_of_getElem? (i := 69) rfl), List.mem_append_left _ (List.mem_of_getElem? (i := 243) rfl)⟩
theorem myX16_pop : pm_My mX16_pop 0 := ⟨pm_tin14 _ (List.mem_of_getElem? (i := 131) rfl), pm_tin1 _ (List.mem_of_getElem? (i := 15) rfl), nhX16.1, nhX16.2, pd48⟩
theorem viX16_pop : pm_Vi mX16_pop 16 := ⟨pm_Cl16, rfl, pm_tin14 _ (List.mem_of_getElem? (i := 130) rfl), List.mem_append_left _ (List.mem_of_getElem? (i := 254) rfl)⟩
theorem myX16_push : pm_My mX16_push 1 := ⟨pm_tin15 _ (List.mem_of_getElem? (i := 27) rfl), pm_tin1 _ (List.mem_of_getElem? (i := 15) rfl), nhX16.1, nhX16.2, pd6⟩
theorem viX16_push : pm_Vi mX16_push 16 := ⟨pm_Cl16, rfl, pm_tin15 _ (List.mem_of_getElem? (i := 26) rfl), List.mem_append_left _ (List.mem_of_getElem? (i := 272) rfl)⟩
theorem myX16_puts : pm_My mX16_puts 1 := ⟨pm_tin11 _ (List.mem_of_getElem? (i := 16) rfl), pm_tin1 _ (List.mem_of_getElem? (i := 15) rfl), nhX16.1, nhX16.2, pd7⟩
theorem viX16_puts : pm_Vi mX16_puts 16 := ⟨pm_Cl16, rfl, pm_tin11 _ (List.mem_of_getElem? (i := 15) rfl), List.mem_append_left _ (List.mem_of_getElem? (i := 138) rfl)⟩
theorem myX16_rank : pm_My mX16_rank 1 := ⟨pm_tin12 _ (List.mem_of_getElem? (i := 44) rfl), pm_tin1 _ (List.mem_of_getElem? (i := 15) rfl), nhX16.1, nhX16.2, pd0⟩
theorem stX16_rank : pm_St mX16_rank := pm_tin12 _ (List.mem_of_getElem? (i := 43) rfl)
theorem myX16_resultAt : pm_My mX16_resultAt 2 := ⟨pm_tin13 _ (List.mem_of_getElem? (i := 137) rfl), pm_tin1 _ (List.mem_of_getElem? (i := 15) rfl), nhX16.1, nhX16.2, pd45⟩
theorem viX16_resultAt : pm_Vi mX16_resultAt 16 := ⟨pm_Cl16, rfl, pm_tin13 _ (List.mem_of_getElem? (i := 136) rfl), List.mem_append_left _ (List.mem_of_getElem? (i := 204) rfl)⟩
theorem myX16_resultOf : pm_My mX16_resultOf 1 := ⟨pm_tin13 _ (List.mem_of_getElem? (i := 92) rfl), pm_tin1 _ (List.mem_of_getElem? (i := 15) rfl), nhX16.1, nhX16.2, pd0⟩
theorem stX16_resultOf : pm_St mX16_resultOf := pm_tin13 _ (List.mem_of_getElem? (i := 91) rfl)
theorem myX16_resultsIn : pm_My mX16_resultsIn 1 := ⟨pm_tin14 _ (List.mem_of_getElem? (i := 94) rfl), pm_tin1 _ (List.mem_of_getElem? (i := 15) rfl), nhX16.1, nhX16.2, pd0⟩
theorem viX16_resultsIn : pm_Vi mX16_resultsIn 16 := ⟨pm_Cl16, rfl, pm_tin14 _ (List.mem_of_getElem? (i := 93) rfl), List.mem_append_left _ (List.mem_of_getElem? (i := 249) rfl)⟩
theorem myX16_resultsOf : pm_My mX16_resultsOf 1 := ⟨pm_tin13 _ (List.mem_of_getElem? (i := 132) rfl), pm_tin1 _ (List.mem_of_getElem? (i := 15) rfl), nhX16.1, nhX16.2, pd1⟩
theorem viX16_resultsOf : pm_Vi mX16_resultsOf 16 := ⟨pm_Cl16, rfl, pm_tin13 _ (List.mem_of_getElem? (i := 131) rfl), List.mem_append_left _ (List.mem_of_getElem? (i := 203) rfl)⟩
theorem myX16_runs : pm_My mX16_runs 0 := ⟨pm_tin13 _ (List.mem_of_getElem? (i := 216) rfl), pm_tin1 _ (List.mem_of_getElem? (i := 15) rfl), nhX16.1, nhX16.2, pd12⟩
theorem viX16_runs : pm_Vi mX16_runs 16 := ⟨pm_Cl16, rfl, pm_tin13 _ (List.mem_of_getElem? (i := 215) rfl), List.mem_append_left _ (List.mem_of_getElem? (i := 220) rfl)⟩
theorem myX16_sets : pm_My mX16_sets 3 := ⟨pm_tin14 _ (List.mem_of_getElem? (i := 49) rfl), pm_tin1 _ (List.mem_of_getElem? (i := 15) rfl), nhX16.1, nhX16.2, pd49⟩
theorem viX16_sets : pm_Vi mX16_sets 16 := ⟨pm_Cl16, rfl, pm_tin14 _ (List.mem_of_getElem? (i := 48) rfl), List.mem_append_left _ (List.mem_of_getElem? (i := 238) rfl)⟩
theorem myX16_signOf : pm_My mX16_signOf 1 := ⟨pm_tin14 _ (List.mem_of_getElem? (i := 156) rfl), pm_tin1 _ (List.mem_of_getElem? (i := 15) rfl), nhX16.1, nhX16.2, pd20⟩
theorem stX16_signOf : pm_St mX16_signOf := pm_tin14 _ (List.mem_of_getElem? (i := 155) rfl)
theorem myX16_signedWord : pm_My mX16_signedWord 0 := ⟨pm_tin13 _ (List.mem_of_getElem? (i := 19) rfl), pm_tin1 _ (List.mem_of_getElem? (i := 15) rfl), nhX16.1, nhX16.2, pd48⟩
theorem viX16_signedWord : pm_Vi mX16_signedWord 16 := ⟨pm_Cl16, rfl, pm_tin13 _ (List.mem_of_getElem? (i := 18) rfl), List.mem_append_left _ (List.mem_of_getElem? (i := 181) rfl)⟩
theorem myX16_state : pm_My mX16_state 1 := ⟨pm_tin15 _ (List.mem_of_getElem? (i := 91) rfl), pm_tin1 _ (List.mem_of_getElem? (i := 15) rfl), nhX16.1, nhX16.2, pd0⟩
theorem viX16_state : pm_Vi mX16_state 16 := ⟨pm_Cl16, rfl, pm_tin15 _ (List.mem_of_getElem? (i := 89) rfl), pm_tin15 _ (List.mem_of_getElem? (i := 90) rfl)⟩
theorem myX16_tablesStep : pm_My mX16_tablesStep 3 := ⟨pm_tin15 _ (List.mem_of_getElem? (i := 75) rfl), pm_tin1 _ (List.mem_of_getElem? (i := 15) rfl), nhX16.1, nhX16.2, pd38⟩
theorem viX16_tablesStep : pm_Vi mX16_tablesStep 16 := ⟨pm_Cl16, rfl, pm_tin15 _ (List.mem_of_getElem? (i := 74) rfl), List.mem_append_left _ (List.mem_of_getElem? (i := 284) rfl)⟩
theorem myX16_thing : pm_My mX16_thing 3 := ⟨pm_tin13 _ (List.mem_of_getElem? (i := 208) rfl), pm_tin1 _ (List.mem_of_getElem? (i := 15) rfl), nhX16.1, nhX16.2, pd50⟩
theorem viX16_thing : pm_Vi mX16_thing 16 := ⟨pm_Cl16, rfl, pm_tin13 _ (List.mem_of_getElem? (i := 207) rfl), List.mem_append_left _ (List.mem_of_getElem? (i := 219) rfl)⟩
theorem myX16_tier : pm_My mX16_tier 1 := ⟨pm_tin15 _ (List.mem_of_getElem? (i := 99) rfl), pm_tin1 _ (List.mem_of_getElem? (i := 15) rfl), nhX16.1, nhX16.2, pd0⟩
theorem viX16_tier : pm_Vi mX16_tier 16 := ⟨pm_Cl16, rfl, pm_tin15 _ (List.mem_of_getElem? (i := 97) rfl), pm_tin15 _ (List.mem_of_getElem? (i := 98) rfl)⟩
theorem myX16_traps : pm_My mX16_traps 1 := ⟨pm_tin14 _ (List.mem_of_getElem? (i := 175) rfl), pm_tin1 _ (List.mem_of_getElem? (i := 15) rfl), nhX16.1, nhX16.2, pd7⟩
theorem viX16_traps : pm_Vi mX16_traps 16 := ⟨pm_Cl16, rfl, pm_tin14 _ (List.mem_of_getElem? (i := 174) rfl), List.mem_append_left _ (List.mem_of_getElem? (i := 259) rfl)⟩
theorem myX16_value : pm_My mX16_value 1 := ⟨pm_tin15 _ (List.mem_of_getElem? (i := 95) rfl), pm_tin1 _ (List.mem_of_getElem? (i := 15) rfl), nhX16.1, nhX16.2, pd20⟩
theorem viX16_value : pm_Vi mX16_value 16 := ⟨pm_Cl16, rfl, pm_tin15 _ (List.mem_of_getElem? (i := 93) rfl), pm_tin15 _ (List.mem_of_getElem? (i := 94) rfl)⟩
theorem myX16_wantedAt : pm_My mX16_wantedAt 2 := ⟨pm_tin13 _ (List.mem_of_getElem? (i := 153) rfl), pm_tin1 _ (List.mem_of_getElem? (i := 15) rfl), nhX16.1, nhX16.2, pd5⟩
theorem viX16_wantedAt : pm_Vi mX16_wantedAt 16 := ⟨pm_Cl16, rfl, pm_tin13 _ (List.mem_of_getElem? (i := 152) rfl), List.mem_append_left _ (List.mem_of_getElem? (i := 208) rfl)⟩
theorem myX16_wantedBy : pm_My mX16_wantedBy 1 := ⟨pm_tin13 _ (List.mem_of_getElem? (i := 149) rfl), pm_tin1 _ (List.mem_of_getElem? (i := 15) rfl), nhX16.1, nhX16.2, pd0⟩
theorem viX16_wantedBy : pm_Vi mX16_wantedBy 16 := ⟨pm_Cl16, rfl, pm_tin13 _ (List.mem_of_getElem? (i := 148) rfl), List.mem_append_left _ (List.mem_of_getElem? (i := 207) rfl)⟩
theorem myX16_widthOf : pm_My mX16_widthOf 1 := ⟨pm_tin13 _ (List.mem_of_getElem? (i := 63) rfl), pm_tin1 _ (List.mem_of_getElem? (i := 15) rfl), nhX16.1, nhX16.2, pd0⟩
theorem stX16_widthOf : pm_St mX16_widthOf := pm_tin13 _ (List.mem_of_getElem? (i := 62) rfl)
theorem myX16_withSign : pm_My mX16_withSign 3 := ⟨pm_tin14 _ (List.mem_of_getElem? (i := 206) rfl), pm_tin1 _ (List.mem_of_getElem? (i := 15) rfl), nhX16.1, nhX16.2, pd51⟩
theorem stX16_withSign : pm_St mX16_withSign := pm_tin14 _ (List.mem_of_getElem? (i := 205) rfl)
theorem myX16_word : pm_My mX16_word 0 := ⟨pm_tin13 _ (List.mem_of_getElem? (i := 2) rfl), pm_tin1 _ (List.mem_of_getElem? (i := 15) rfl), nhX16.1, nhX16.2, pd48⟩
theorem viX16_word : pm_Vi mX16_word 16 := ⟨pm_Cl16, rfl, pm_tin13 _ (List.mem_of_getElem? (i := 1) rfl), List.mem_append_left _ (List.mem_of_getElem? (i := 177) rfl)⟩
theorem myX16_zeros : pm_My mX16_zeros 3 := ⟨pm_tin14 _ (List.mem_of_getElem? (i := 163) rfl), pm_tin1 _ (List.mem_of_getElem? (i := 15) rfl), nhX16.1, nhX16.2, pd52⟩
theorem stX16_zeros : pm_St mX16_zeros := pm_tin14 _ (List.mem_of_getElem? (i := 162) rfl)
theorem myX0_aim : pm_My mX0_aim 2 := ⟨pm_tin5 _ (List.mem_of_getElem? (i := 234) rfl), pm_tin1 _ (List.mem_of_getElem? (i := 5) rfl), nhX0.1, nhX0.2, pd8⟩
theorem viX0_aim : pm_Vi mX0_aim 0 := ⟨pm_Cl0, rfl, pm_tin5 _ (List.mem_of_getElem? (i := 232) rfl), pm_tin5 _ (List.mem_of_getElem? (i := 233) rfl)⟩
theorem myX1_aimCondition : pm_My mX1_aimCondition 1 := ⟨pm_tin5 _ (List.mem_of_getElem? (i := 230) rfl), pm_tin1 _ (List.mem_of_getElem? (i := 4) rfl), nhX1.1, nhX1.2, pd7⟩
theorem viX1_aimCondition : pm_Vi mX1_aimCondition 1 := ⟨pm_Cl1, rfl, pm_tin5 _ (List.mem_of_getElem? (i := 229) rfl), List.mem_append_left _ (List.mem_of_getElem? (i := 64) rfl)⟩
theorem myX1_failSection : pm_My mX1_failSection 2 := ⟨pm_tin5 _ (List.mem_of_getElem? (i := 41) rfl), pm_tin1 _ (List.mem_of_getElem? (i := 4) rfl), nhX1.1, nhX1.2, pd8⟩
theorem viX1_failSection : pm_Vi mX1_failSection 1 := ⟨pm_Cl1, rfl, pm_tin5 _ (List.mem_of_getElem? (i := 40) rfl), List.mem_append_left _ (List.mem_of_getElem? (i := 28) rfl)⟩
theorem myX1_isEmitting : pm_My mX1_isEmitting 0 := ⟨pm_tin5 _ (List.mem_of_getElem? (i := 160) rfl), pm_tin1 _ (List.mem_of_getElem? (i := 4) rfl), nhX1.1, nhX1.2, pd12⟩
theorem viX1_isEmitting : pm_Vi mX1_isEmitting 1 := ⟨pm_Cl1, rfl, pm_tin5 _ (List.mem_of_getElem? (i := 159) rfl), List.mem_append_left _ (List.mem_of_getElem? (i := 48) rfl)⟩
theorem myX1_isLimited : pm_My mX1_isLimited 2 := ⟨pm_tin5 _ (List.mem_of_getElem? (i := 56) rfl), pm_tin1 _ (List.mem_of_getElem? (i := 4) rfl), nhX1.1, nhX1.2, pd53⟩
theorem stX1_isLimited : pm_St mX1_isLimited := pm_tin5 _ (List.mem_of_getElem? (i := 55) rfl)
theorem myX1_isLoop : pm_My mX1_isLoop 1 := ⟨pm_tin5 _ (List.mem_of_getElem? (i := 222) rfl), pm_tin1 _ (List.mem_of_getElem? (i := 4) rfl), nhX1.1, nhX1.2, pd9⟩
theorem viX1_isLoop : pm_Vi mX1_isLoop 1 := ⟨pm_Cl1, rfl, pm_tin5 _ (List.mem_of_getElem? (i := 221) rfl), List.mem_append_left _ (List.mem_of_getElem? (i := 62) rfl)⟩
theorem myX1_isSameName : pm_My mX1_isSameName 2 := ⟨pm_tin5 _ (List.mem_of_getElem? (i := 80) rfl), pm_tin1 _ (List.mem_of_getElem? (i := 4) rfl), nhX1.1, nhX1.2, pd26⟩
theorem viX1_isSameName : pm_Vi mX1_isSameName 1 := ⟨pm_Cl1, rfl, pm_tin5 _ (List.mem_of_getElem? (i := 79) rfl), List.mem_append_left _ (List.mem_of_getElem? (i := 33) rfl)⟩
theorem myX1_put : pm_My mX1_put 1 := ⟨pm_tin5 _ (List.mem_of_getElem? (i := 202) rfl), pm_tin1 _ (List.mem_of_getElem? (i := 4) rfl), nhX1.1, nhX1.2, pd7⟩
theorem viX1_put : pm_Vi mX1_put 1 := ⟨pm_Cl1, rfl, pm_tin5 _ (List.mem_of_getElem? (i := 201) rfl), List.mem_append_left _ (List.mem_of_getElem? (i := 57) rfl)⟩
theorem myX1_putTypes : pm_My mX1_putTypes 3 := ⟨pm_tin5 _ (List.mem_of_getElem? (i := 198) rfl), pm_tin1 _ (List.mem_of_getElem? (i := 4) rfl), nhX1.1, nhX1.2, pd31⟩
theorem viX1_putTypes : pm_Vi mX1_putTypes 1 := ⟨pm_Cl1, rfl, pm_tin5 _ (List.mem_of_getElem? (i := 197) rfl), List.mem_append_left _ (List.mem_of_getElem? (i := 56) rfl)⟩
theorem myX1_resultsAreParameters : pm_My mX1_resultsAreParameters 1 := ⟨pm_tin6 _ (List.mem_of_getElem? (i := 2) rfl), pm_tin1 _ (List.mem_of_getElem? (i := 4) rfl), nhX1.1, nhX1.2, pd54⟩
theorem stX1_resultsAreParameters : pm_St mX1_resultsAreParameters := pm_tin6 _ (List.mem_of_getElem? (i := 1) rfl)
theorem myX1_setLabel : pm_My mX1_setLabel 3 := ⟨pm_tin5 _ (List.mem_of_getElem? (i := 144) rfl), pm_tin1 _ (List.mem_of_getElem? (i := 4) rfl), nhX1.1, nhX1.2, pd38⟩
theorem viX1_setLabel : pm_Vi mX1_setLabel 1 := ⟨pm_Cl1, rfl, pm_tin5 _ (List.mem_of_getElem? (i := 143) rfl), List.mem_append_left _ (List.mem_of_getElem? (i := 44) rfl)⟩
theorem myX1_take : pm_My mX1_take 1 := ⟨pm_tin5 _ (List.mem_of_getElem? (i := 182) rfl), pm_tin1 _ (List.mem_of_getElem? (i := 4) rfl), nhX1.1, nhX1.2, pd0⟩
theorem viX1_take : pm_Vi mX1_take 1 := ⟨pm_Cl1, rfl, pm_tin5 _ (List.mem_of_getElem? (i := 181) rfl), List.mem_append_left _ (List.mem_of_getElem? (i := 52) rfl)⟩
theorem myX1_takeTypes : pm_My mX1_takeTypes 3 := ⟨pm_tin5 _ (List.mem_of_getElem? (i := 190) rfl), pm_tin1 _ (List.mem_of_getElem? (i := 4) rfl), nhX1.1, nhX1.2, pd31⟩
theorem viX1_takeTypes : pm_Vi mX1_takeTypes 1 := ⟨pm_Cl1, rfl, pm_tin5 _ (List.mem_of_getElem? (i := 189) rfl), List.mem_append_left _ (List.mem_of_getElem? (i := 54) rfl)⟩
theorem myX2_aimBranches : pm_My mX2_aimBranches 0 := ⟨pm_tin8 _ (List.mem_of_getElem? (i := 197) rfl), pm_tin1 _ (List.mem_of_getElem? (i := 13) rfl), nhX2.1, nhX2.2, pd10⟩
theorem viX2_aimBranches : pm_Vi mX2_aimBranches 2 := ⟨pm_Cl2, rfl, pm_tin8 _ (List.mem_of_getElem? (i := 196) rfl), List.mem_append_left _ (List.mem_of_getElem? (i := 124) rfl)⟩
theorem myX2_branch : pm_My mX2_branch 3 := ⟨pm_tin8 _ (List.mem_of_getElem? (i := 167) rfl), pm_tin1 _ (List.mem_of_getElem? (i := 13) rfl), nhX2.1, nhX2.2, pd50⟩
theorem viX2_branch : pm_Vi mX2_branch 2 := ⟨pm_Cl2, rfl, pm_tin8 _ (List.mem_of_getElem? (i := 166) rfl), List.mem_append_left _ (List.mem_of_getElem? (i := 117) rfl)⟩
theorem myX2_emitMove : pm_My mX2_emitMove 3 := ⟨pm_tin8 _ (List.mem_of_getElem? (i := 146) rfl), pm_tin1 _ (List.mem_of_getElem? (i := 13) rfl), nhX2.1, nhX2.2, pd38⟩
theorem viX2_emitMove : pm_Vi mX2_emitMove 2 := ⟨pm_Cl2, rfl, pm_tin8 _ (List.mem_of_getElem? (i := 145) rfl), List.mem_append_left _ (List.mem_of_getElem? (i := 113) rfl)⟩
theorem myX2_heldAt : pm_My mX2_heldAt 1 := ⟨pm_tin8 _ (List.mem_of_getElem? (i := 162) rfl), pm_tin1 _ (List.mem_of_getElem? (i := 13) rfl), nhX2.1, nhX2.2, pd0⟩
theorem viX2_heldAt : pm_Vi mX2_heldAt 2 := ⟨pm_Cl2, rfl, pm_tin8 _ (List.mem_of_getElem? (i := 161) rfl), List.mem_append_left _ (List.mem_of_getElem? (i := 116) rfl)⟩
theorem myX2_hold : pm_My mX2_hold 2 := ⟨pm_tin8 _ (List.mem_of_getElem? (i := 179) rfl), pm_tin1 _ (List.mem_of_getElem? (i := 13) rfl), nhX2.1, nhX2.2, pd8⟩
theorem viX2_hold : pm_Vi mX2_hold 2 := ⟨pm_Cl2, rfl, pm_tin8 _ (List.mem_of_getElem? (i := 178) rfl), List.mem_append_left _ (List.mem_of_getElem? (i := 120) rfl)⟩
theorem myX2_holdConstant : pm_My mX2_holdConstant 2 := ⟨pm_tin8 _ (List.mem_of_getElem? (i := 187) rfl), pm_tin1 _ (List.mem_of_getElem? (i := 13) rfl), nhX2.1, nhX2.2, pd8⟩
theorem viX2_holdConstant : pm_Vi mX2_holdConstant 2 := ⟨pm_Cl2, rfl, pm_tin8 _ (List.mem_of_getElem? (i := 186) rfl), List.mem_append_left _ (List.mem_of_getElem? (i := 122) rfl)⟩
theorem myX2_own : pm_My mX2_own 1 := ⟨pm_tin8 _ (List.mem_of_getElem? (i := 142) rfl), pm_tin1 _ (List.mem_of_getElem? (i := 13) rfl), nhX2.1, nhX2.2, pd7⟩
theorem viX2_own : pm_Vi mX2_own 2 := ⟨pm_Cl2, rfl, pm_tin8 _ (List.mem_of_getElem? (i := 141) rfl), List.mem_append_left _ (List.mem_of_getElem? (i := 112) rfl)⟩
theorem myX2_plain : pm_My mX2_plain 3 := ⟨pm_tin8 _ (List.mem_of_getElem? (i := 193) rfl), pm_tin1 _ (List.mem_of_getElem? (i := 13) rfl), nhX2.1, nhX2.2, pd38⟩
theorem viX2_plain : pm_Vi mX2_plain 2 := ⟨pm_Cl2, rfl, pm_tin8 _ (List.mem_of_getElem? (i := 192) rfl), List.mem_append_left _ (List.mem_of_getElem? (i := 123) rfl)⟩
theorem myX2_setLocal : pm_My mX2_setLocal 2 := ⟨pm_tin8 _ (List.mem_of_getElem? (i := 183) rfl), pm_tin1 _ (List.mem_of_getElem? (i := 13) rfl), nhX2.1, nhX2.2, pd8⟩
theorem viX2_setLocal : pm_Vi mX2_setLocal 2 := ⟨pm_Cl2, rfl, pm_tin8 _ (List.mem_of_getElem? (i := 182) rfl), List.mem_append_left _ (List.mem_of_getElem? (i := 121) rfl)⟩
theorem myX4_exportKind : pm_My mX4_exportKind 1 := ⟨pm_tin6 _ (List.mem_of_getElem? (i := 165) rfl), pm_tin1 _ (List.mem_of_getElem? (i := 11) rfl), nhX4.1, nhX4.2, pd0⟩
theorem viX4_exportKind : pm_Vi mX4_exportKind 4 := ⟨pm_Cl4, rfl, pm_tin6 _ (List.mem_of_getElem? (i := 163) rfl), pm_tin6 _ (List.mem_of_getElem? (i := 164) rfl)⟩
theorem myX4_exportNumber : pm_My mX4_exportNumber 1 := ⟨pm_tin6 _ (List.mem_of_getElem? (i := 170) rfl), pm_tin1 _ (List.mem_of_getElem? (i := 11) rfl), nhX4.1, nhX4.2, pd0⟩
theorem viX4_exportNumber : pm_Vi mX4_exportNumber 4 := ⟨pm_Cl4, rfl, pm_tin6 _ (List.mem_of_getElem? (i := 168) rfl), pm_tin6 _ (List.mem_of_getElem? (i := 169) rfl)⟩
theorem myX5_clearLocals : pm_My mX5_clearLocals 2 := ⟨pm_tin8 _ (List.mem_of_getElem? (i := 112) rfl), pm_tin1 _ (List.mem_of_getElem? (i := 12) rfl), nhX5.1, nhX5.2, pd55⟩
theorem viX5_clearLocals : pm_Vi mX5_clearLocals 5 := ⟨pm_Cl5, rfl, pm_tin8 _ (List.mem_of_getElem? (i := 111) rfl), List.mem_append_left _ (List.mem_of_getElem? (i := 107) rfl)⟩
theorem myX5_fail : pm_My mX5_fail 1 := ⟨pm_tin8 _ (List.mem_of_getElem? (i := 62) rfl), pm_tin1 _ (List.mem_of_getElem? (i := 12) rfl), nhX5.1, nhX5.2, pd7⟩
theorem viX5_fail : pm_Vi mX5_fail 5 := ⟨pm_Cl5, rfl, pm_tin8 _ (List.mem_of_getElem? (i := 61) rfl), List.mem_append_left _ (List.mem_of_getElem? (i := 103) rfl)⟩
theorem myX5_failAtMaking : pm_My mX5_failAtMaking 1 := ⟨pm_tin8 _ (List.mem_of_getElem? (i := 58) rfl), pm_tin1 _ (List.mem_of_getElem? (i := 12) rfl), nhX5.1, nhX5.2, pd7⟩
theorem viX5_failAtMaking : pm_Vi mX5_failAtMaking 5 := ⟨pm_Cl5, rfl, pm_tin8 _ (List.mem_of_getElem? (i := 56) rfl), pm_tin8 _ (List.mem_of_getElem? (i := 57) rfl)⟩
theorem myX5_pop : pm_My mX5_pop 0 := ⟨pm_tin9 _ (List.mem_of_getElem? (i := 6) rfl), pm_tin1 _ (List.mem_of_getElem? (i := 12) rfl), nhX5.1, nhX5.2, pd48⟩
theorem viX5_pop : pm_Vi mX5_pop 5 := ⟨pm_Cl5, rfl, pm_tin9 _ (List.mem_of_getElem? (i := 5) rfl), List.mem_append_left _ (List.mem_of_getElem? (i := 131) rfl)⟩
theorem myX5_push : pm_My mX5_push 1 := ⟨pm_tin9 _ (List.mem_of_getElem? (i := 23) rfl), pm_tin1 _ (List.mem_of_getElem? (i := 12) rfl), nhX5.1, nhX5.2, pd6⟩
theorem viX5_push : pm_Vi mX5_push 5 := ⟨pm_Cl5, rfl, pm_tin9 _ (List.mem_of_getElem? (i := 22) rfl), List.mem_append_left _ (List.mem_of_getElem? (i := 134) rfl)⟩
theorem myX5_register : pm_My mX5_register 1 := ⟨pm_tin8 _ (List.mem_of_getElem? (i := 215) rfl), pm_tin1 _ (List.mem_of_getElem? (i := 12) rfl), nhX5.1, nhX5.2, pd20⟩
theorem viX5_register : pm_Vi mX5_register 5 := ⟨pm_Cl5, rfl, pm_tin8 _ (List.mem_of_getElem? (i := 214) rfl), List.mem_append_left _ (List.mem_of_getElem? (i := 128) rfl)⟩
theorem myX5_tell : pm_My mX5_tell 2 := ⟨pm_tin8 _ (List.mem_of_getElem? (i := 96) rfl), pm_tin1 _ (List.mem_of_getElem? (i := 12) rfl), nhX5.1, nhX5.2, pd8⟩
theorem viX5_tell : pm_Vi mX5_tell 5 := ⟨pm_Cl5, rfl, pm_tin8 _ (List.mem_of_getElem? (i := 95) rfl), List.mem_append_left _ (List.mem_of_getElem? (i := 106) rfl)⟩
theorem myX6_byteAt : pm_My mX6_byteAt 2 := ⟨pm_tin7 _ (List.mem_of_getElem? (i := 223) rfl), pm_tin1 _ (List.mem_of_getElem? (i := 9) rfl), nhX6.1, nhX6.2, pd14⟩
theorem viX6_byteAt : pm_Vi mX6_byteAt 6 := ⟨pm_Cl6, rfl, pm_tin7 _ (List.mem_of_getElem? (i := 221) rfl), pm_tin7 _ (List.mem_of_getElem? (i := 222) rfl)⟩
theorem myX6_leftOfPage : pm_My mX6_leftOfPage 2 := ⟨pm_tin8 _ (List.mem_of_getElem? (i := 10) rfl), pm_tin1 _ (List.mem_of_getElem? (i := 9) rfl), nhX6.1, nhX6.2, pd14⟩
theorem viX6_leftOfPage : pm_Vi mX6_leftOfPage 6 := ⟨pm_Cl6, rfl, pm_tin8 _ (List.mem_of_getElem? (i := 9) rfl), List.mem_append_left _ (List.mem_of_getElem? (i := 100) rfl)⟩
theorem myX6_reaches : pm_My mX6_reaches 3 := ⟨pm_tin7 _ (List.mem_of_getElem? (i := 214) rfl), pm_tin1 _ (List.mem_of_getElem? (i := 9) rfl), nhX6.1, nhX6.2, pd56⟩
theorem viX6_reaches : pm_Vi mX6_reaches 6 := ⟨pm_Cl6, rfl, pm_tin7 _ (List.mem_of_getElem? (i := 212) rfl), pm_tin7 _ (List.mem_of_getElem? (i := 213) rfl)⟩
theorem myX7_count : pm_My mX7_count 1 := ⟨pm_tin2 _ (List.mem_of_getElem? (i := 179) rfl), pm_tin1 _ (List.mem_of_getElem? (i := 2) rfl), nhX7.1, nhX7.2, pd0⟩
theorem viX7_count : pm_Vi mX7_count 7 := ⟨pm_Cl7, rfl, pm_tin2 _ (List.mem_of_getElem? (i := 177) rfl), pm_tin2 _ (List.mem_of_getElem? (i := 178) rfl)⟩
theorem myX7_has : pm_My mX7_has 2 := ⟨pm_tin5 _ (List.mem_of_getElem? (i := 71) rfl), pm_tin1 _ (List.mem_of_getElem? (i := 2) rfl), nhX7.1, nhX7.2, pd21⟩
theorem viX7_has : pm_Vi mX7_has 7 := ⟨pm_Cl7, rfl, pm_tin5 _ (List.mem_of_getElem? (i := 69) rfl), pm_tin5 _ (List.mem_of_getElem? (i := 70) rfl)⟩
theorem myX7_of : pm_My mX7_of 3 := ⟨pm_tin5 _ (List.mem_of_getElem? (i := 48) rfl), pm_tin1 _ (List.mem_of_getElem? (i := 2) rfl), nhX7.1, nhX7.2, pd19⟩
theorem viX7_of : pm_Vi mX7_of 7 := ⟨pm_Cl7, rfl, pm_tin5 _ (List.mem_of_getElem? (i := 46) rfl), pm_tin5 _ (List.mem_of_getElem? (i := 47) rfl)⟩
theorem myX8_compareFloating : pm_My mX8_compareFloating 4 := ⟨pm_tin7 _ (List.mem_of_getElem? (i := 69) rfl), pm_tin1 _ (List.mem_of_getElem? (i := 10) rfl), nhX8.1, nhX8.2, pd57⟩
theorem stX8_compareFloating : pm_St mX8_compareFloating := pm_tin7 _ (List.mem_of_getElem? (i := 68) rfl)
theorem myX8_divide64 : pm_My mX8_divide64 3 := ⟨pm_tin7 _ (List.mem_of_getElem? (i := 115) rfl), pm_tin1 _ (List.mem_of_getElem? (i := 10) rfl), nhX8.1, nhX8.2, pd46⟩
theorem viX8_divide64 : pm_Vi mX8_divide64 8 := ⟨pm_Cl8, rfl, pm_tin7 _ (List.mem_of_getElem? (i := 114) rfl), List.mem_append_left _ (List.mem_of_getElem? (i := 94) rfl)⟩
theorem myX8_whole64 : pm_My mX8_whole64 3 := ⟨pm_tin7 _ (List.mem_of_getElem? (i := 111) rfl), pm_tin1 _ (List.mem_of_getElem? (i := 10) rfl), nhX8.1, nhX8.2, pd46⟩
theorem viX8_whole64 : pm_Vi mX8_whole64 8 := ⟨pm_Cl8, rfl, pm_tin7 _ (List.mem_of_getElem? (i := 110) rfl), List.mem_append_left _ (List.mem_of_getElem? (i := 93) rfl)⟩
theorem myX9_finish : pm_My mX9_finish 0 := ⟨pm_tin5 _ (List.mem_of_getElem? (i := 20) rfl), pm_tin1 _ (List.mem_of_getElem? (i := 3) rfl), nhX9.1, nhX9.2, pd10⟩
theorem viX9_finish : pm_Vi mX9_finish 9 := ⟨pm_Cl9, rfl, pm_tin5 _ (List.mem_of_getElem? (i := 18) rfl), pm_tin5 _ (List.mem_of_getElem? (i := 19) rfl)⟩
theorem myX9_lowestFirst : pm_My mX9_lowestFirst 1 := ⟨pm_tin4 _ (List.mem_of_getElem? (i := 218) rfl), pm_tin1 _ (List.mem_of_getElem? (i := 3) rfl), nhX9.1, nhX9.2, pd20⟩
theorem viX9_lowestFirst : pm_Vi mX9_lowestFirst 9 := ⟨pm_Cl9, rfl, pm_tin4 _ (List.mem_of_getElem? (i := 217) rfl), List.mem_append_left _ (List.mem_of_getElem? (i := 20) rfl)⟩
theorem myX10_isLimited : pm_My mX10_isLimited 4 := ⟨pm_tin6 _ (List.mem_of_getElem? (i := 207) rfl), pm_tin1 _ (List.mem_of_getElem? (i := 7) rfl), nhX10.1, nhX10.2, pd58⟩
theorem stX10_isLimited : pm_St mX10_isLimited := pm_tin6 _ (List.mem_of_getElem? (i := 206) rfl)
theorem myX10_leastInAll : pm_My mX10_leastInAll 2 := ⟨pm_tin6 _ (List.mem_of_getElem? (i := 216) rfl), pm_tin1 _ (List.mem_of_getElem? (i := 7) rfl), nhX10.1, nhX10.2, pd59⟩
theorem stX10_leastInAll : pm_St mX10_leastInAll := pm_tin6 _ (List.mem_of_getElem? (i := 215) rfl)
theorem myX11_copy : pm_My mX11_copy 5 := ⟨pm_tin8 _ (List.mem_of_getElem? (i := 42) rfl), pm_tin1 _ (List.mem_of_getElem? (i := 8) rfl), nhX11.1, nhX11.2, pd60⟩
theorem viX11_copy : pm_Vi mX11_copy 11 := ⟨pm_Cl11, rfl, pm_tin8 _ (List.mem_of_getElem? (i := 40) rfl), pm_tin8 _ (List.mem_of_getElem? (i := 41) rfl)⟩
theorem myX11_copyFrom : pm_My mX11_copyFrom 5 := ⟨pm_tin8 _ (List.mem_of_getElem? (i := 34) rfl), pm_tin1 _ (List.mem_of_getElem? (i := 8) rfl), nhX11.1, nhX11.2, pd61⟩
theorem viX11_copyFrom : pm_Vi mX11_copyFrom 11 := ⟨pm_Cl11, rfl, pm_tin8 _ (List.mem_of_getElem? (i := 32) rfl), pm_tin8 _ (List.mem_of_getElem? (i := 33) rfl)⟩
theorem myX11_reaches : pm_My mX11_reaches 3 := ⟨pm_tin8 _ (List.mem_of_getElem? (i := 30) rfl), pm_tin1 _ (List.mem_of_getElem? (i := 8) rfl), nhX11.1, nhX11.2, pd56⟩
theorem viX11_reaches : pm_Vi mX11_reaches 11 := ⟨pm_Cl11, rfl, pm_tin8 _ (List.mem_of_getElem? (i := 28) rfl), pm_tin8 _ (List.mem_of_getElem? (i := 29) rfl)⟩
theorem myX12_argumentsAre : pm_My mX12_argumentsAre 3 := ⟨pm_tin8 _ (List.mem_of_getElem? (i := 228) rfl), pm_tin1 _ (List.mem_of_getElem? (i := 1) rfl), nhX12.1, nhX12.2, pd62⟩
theorem viX12_argumentsAre : pm_Vi mX12_argumentsAre 12 := ⟨pm_Cl12, rfl, pm_tin8 _ (List.mem_of_getElem? (i := 227) rfl), List.mem_append_left _ (List.mem_of_getElem? (i := 129) rfl)⟩
theorem myX12_export : pm_My mX12_export 3 := ⟨pm_tin9 _ (List.mem_of_getElem? (i := 64) rfl), pm_tin1 _ (List.mem_of_getElem? (i := 1) rfl), nhX12.1, nhX12.2, pd50⟩
theorem viX12_export : pm_Vi mX12_export 12 := ⟨pm_Cl12, rfl, pm_tin9 _ (List.mem_of_getElem? (i := 62) rfl), pm_tin9 _ (List.mem_of_getElem? (i := 63) rfl)⟩
theorem myX12_feed : pm_My mX12_feed 5 := ⟨pm_tin4 _ (List.mem_of_getElem? (i := 13) rfl), pm_tin1 _ (List.mem_of_getElem? (i := 1) rfl), nhX12.1, nhX12.2, pd4⟩
theorem viX12_feed : pm_Vi mX12_feed 12 := ⟨pm_Cl12, rfl, pm_tin4 _ (List.mem_of_getElem? (i := 11) rfl), pm_tin4 _ (List.mem_of_getElem? (i := 12) rfl)⟩
theorem myX12_global : pm_My mX12_global 2 := ⟨pm_tin9 _ (List.mem_of_getElem? (i := 86) rfl), pm_tin1 _ (List.mem_of_getElem? (i := 1) rfl), nhX12.1, nhX12.2, pd63⟩
theorem viX12_global : pm_Vi mX12_global 12 := ⟨pm_Cl12, rfl, pm_tin9 _ (List.mem_of_getElem? (i := 84) rfl), pm_tin9 _ (List.mem_of_getElem? (i := 85) rfl)⟩
theorem myX12_memory : pm_My mX12_memory 3 := ⟨pm_tin9 _ (List.mem_of_getElem? (i := 68) rfl), pm_tin1 _ (List.mem_of_getElem? (i := 1) rfl), nhX12.1, nhX12.2, pd50⟩
theorem viX12_memory : pm_Vi mX12_memory 12 := ⟨pm_Cl12, rfl, pm_tin9 _ (List.mem_of_getElem? (i := 66) rfl), pm_tin9 _ (List.mem_of_getElem? (i := 67) rfl)⟩
theorem myX12_offerOf : pm_My mX12_offerOf 2 := ⟨pm_tin6 _ (List.mem_of_getElem? (i := 159) rfl), pm_tin1 _ (List.mem_of_getElem? (i := 1) rfl), nhX12.1, nhX12.2, pd5⟩
theorem viX12_offerOf : pm_Vi mX12_offerOf 12 := ⟨pm_Cl12, rfl, pm_tin6 _ (List.mem_of_getElem? (i := 158) rfl), List.mem_append_left _ (List.mem_of_getElem? (i := 84) rfl)⟩
theorem myX12_poke : pm_My mX12_poke 4 := ⟨pm_tin9 _ (List.mem_of_getElem? (i := 75) rfl), pm_tin1 _ (List.mem_of_getElem? (i := 1) rfl), nhX12.1, nhX12.2, pd41⟩
theorem viX12_poke : pm_Vi mX12_poke 12 := ⟨pm_Cl12, rfl, pm_tin9 _ (List.mem_of_getElem? (i := 73) rfl), pm_tin9 _ (List.mem_of_getElem? (i := 74) rfl)⟩
theorem myX12_table : pm_My mX12_table 3 := ⟨pm_tin9 _ (List.mem_of_getElem? (i := 80) rfl), pm_tin1 _ (List.mem_of_getElem? (i := 1) rfl), nhX12.1, nhX12.2, pd50⟩
theorem viX12_table : pm_Vi mX12_table 12 := ⟨pm_Cl12, rfl, pm_tin9 _ (List.mem_of_getElem? (i := 78) rfl), pm_tin9 _ (List.mem_of_getElem? (i := 79) rfl)⟩
theorem myX14_all : pm_My mX14_all 1 := ⟨pm_tin12 _ (List.mem_of_getElem? (i := 210) rfl), pm_tin1 _ (List.mem_of_getElem? (i := 27) rfl), nhX14.1, nhX14.2, pd0⟩
theorem viX14_all : pm_Vi mX14_all 14 := ⟨pm_Cl14, rfl, pm_tin12 _ (List.mem_of_getElem? (i := 208) rfl), pm_tin12 _ (List.mem_of_getElem? (i := 209) rfl)⟩
theorem myX14_globalMoves : pm_My mX14_globalMoves 1 := ⟨pm_tin13 _ (List.mem_of_getElem? (i := 36) rfl), pm_tin1 _ (List.mem_of_getElem? (i := 27) rfl), nhX14.1, nhX14.2, pd9⟩
theorem viX14_globalMoves : pm_Vi mX14_globalMoves 14 := ⟨pm_Cl14, rfl, pm_tin13 _ (List.mem_of_getElem? (i := 34) rfl), pm_tin13 _ (List.mem_of_getElem? (i := 35) rfl)⟩
theorem myX16_areSuch : pm_My mX16_areSuch 2 := ⟨pm_tin14 _ (List.mem_of_getElem? (i := 110) rfl), pm_tin1 _ (List.mem_of_getElem? (i := 15) rfl), nhX16.1, nhX16.2, pd26⟩
theorem viX16_areSuch : pm_Vi mX16_areSuch 16 := ⟨pm_Cl16, rfl, pm_tin14 _ (List.mem_of_getElem? (i := 109) rfl), List.mem_append_left _ (List.mem_of_getElem? (i := 251) rfl)⟩
theorem myX16_blockWord : pm_My mX16_blockWord 0 := ⟨pm_tin13 _ (List.mem_of_getElem? (i := 15) rfl), pm_tin1 _ (List.mem_of_getElem? (i := 15) rfl), nhX16.1, nhX16.2, pd48⟩
theorem viX16_blockWord : pm_Vi mX16_blockWord 16 := ⟨pm_Cl16, rfl, pm_tin13 _ (List.mem_of_getElem? (i := 14) rfl), List.mem_append_left _ (List.mem_of_getElem? (i := 180) rfl)⟩
theorem myX16_closes : pm_My mX16_closes 0 := ⟨pm_tin14 _ (List.mem_of_getElem? (i := 90) rfl), pm_tin1 _ (List.mem_of_getElem? (i := 15) rfl), nhX16.1, nhX16.2, pd10⟩
theorem viX16_closes : pm_Vi mX16_closes 16 := ⟨pm_Cl16, rfl, pm_tin14 _ (List.mem_of_getElem? (i := 89) rfl), List.mem_append_left _ (List.mem_of_getElem? (i := 248) rfl)⟩
theorem myX16_constant : pm_My mX16_constant 2 := ⟨pm_tin14 _ (List.mem_of_getElem? (i := 17) rfl), pm_tin1 _ (List.mem_of_getElem? (i := 15) rfl), nhX16.1, nhX16.2, pd63⟩
theorem viX16_constant : pm_Vi mX16_constant 16 := ⟨pm_Cl16, rfl, pm_tin14 _ (List.mem_of_getElem? (i := 16) rfl), List.mem_append_left _ (List.mem_of_getElem? (i := 230) rfl)⟩
theorem myX16_constantType : pm_My mX16_constantType 1 := ⟨pm_tin13 _ (List.mem_of_getElem? (i := 31) rfl), pm_tin1 _ (List.mem_of_getElem? (i := 15) rfl), nhX16.1, nhX16.2, pd0⟩
theorem viX16_constantType : pm_Vi mX16_constantType 16 := ⟨pm_Cl16, rfl, pm_tin13 _ (List.mem_of_getElem? (i := 30) rfl), List.mem_append_left _ (List.mem_of_getElem? (i := 184) rfl)⟩
theorem myX16_copiesData : pm_My mX16_copiesData 6 := ⟨pm_tin14 _ (List.mem_of_getElem? (i := 45) rfl), pm_tin1 _ (List.mem_of_getElem? (i := 15) rfl), nhX16.1, nhX16.2, pd35⟩
theorem viX16_copiesData : pm_Vi mX16_copiesData 16 := ⟨pm_Cl16, rfl, pm_tin14 _ (List.mem_of_getElem? (i := 44) rfl), List.mem_append_left _ (List.mem_of_getElem? (i := 237) rfl)⟩
theorem myX16_divided : pm_My mX16_divided 4 := ⟨pm_tin14 _ (List.mem_of_getElem? (i := 171) rfl), pm_tin1 _ (List.mem_of_getElem? (i := 15) rfl), nhX16.1, nhX16.2, pd64⟩
theorem viX16_divided : pm_Vi mX16_divided 16 := ⟨pm_Cl16, rfl, pm_tin14 _ (List.mem_of_getElem? (i := 170) rfl), List.mem_append_left _ (List.mem_of_getElem? (i := 258) rfl)⟩
theorem myX16_entry : pm_My mX16_entry 2 := ⟨pm_tin15 _ (List.mem_of_getElem? (i := 55) rfl), pm_tin1 _ (List.mem_of_getElem? (i := 15) rfl), nhX16.1, nhX16.2, pd8⟩
theorem viX16_entry : pm_Vi mX16_entry 16 := ⟨pm_Cl16, rfl, pm_tin15 _ (List.mem_of_getElem? (i := 54) rfl), List.mem_append_left _ (List.mem_of_getElem? (i := 279) rfl)⟩
theorem myX16_exported : pm_My mX16_exported 2 := ⟨pm_tin13 _ (List.mem_of_getElem? (i := 204) rfl), pm_tin1 _ (List.mem_of_getElem? (i := 15) rfl), nhX16.1, nhX16.2, pd5⟩
theorem viX16_exported : pm_Vi mX16_exported 16 := ⟨pm_Cl16, rfl, pm_tin13 _ (List.mem_of_getElem? (i := 203) rfl), List.mem_append_left _ (List.mem_of_getElem? (i := 218) rfl)⟩
theorem myX16_feed : pm_My mX16_feed 5 := ⟨pm_tin11 _ (List.mem_of_getElem? (i := 11) rfl), pm_tin1 _ (List.mem_of_getElem? (i := 15) rfl), nhX16.1, nhX16.2, pd4⟩
theorem viX16_feed : pm_Vi mX16_feed 16 := ⟨pm_Cl16, rfl, pm_tin11 _ (List.mem_of_getElem? (i := 9) rfl), pm_tin11 _ (List.mem_of_getElem? (i := 10) rfl)⟩
theorem myX16_fits : pm_My mX16_fits 2 := ⟨pm_tin13 _ (List.mem_of_getElem? (i := 220) rfl), pm_tin1 _ (List.mem_of_getElem? (i := 15) rfl), nhX16.1, nhX16.2, pd26⟩
theorem viX16_fits : pm_Vi mX16_fits 16 := ⟨pm_Cl16, rfl, pm_tin13 _ (List.mem_of_getElem? (i := 219) rfl), List.mem_append_left _ (List.mem_of_getElem? (i := 221) rfl)⟩
theorem myX16_gets : pm_My mX16_gets 2 := ⟨pm_tin15 _ (List.mem_of_getElem? (i := 63) rfl), pm_tin1 _ (List.mem_of_getElem? (i := 15) rfl), nhX16.1, nhX16.2, pd13⟩
theorem viX16_gets : pm_Vi mX16_gets 16 := ⟨pm_Cl16, rfl, pm_tin15 _ (List.mem_of_getElem? (i := 62) rfl), List.mem_append_left _ (List.mem_of_getElem? (i := 281) rfl)⟩
theorem myX16_give : pm_My mX16_give 0 := ⟨pm_tin15 _ (List.mem_of_getElem? (i := 83) rfl), pm_tin1 _ (List.mem_of_getElem? (i := 15) rfl), nhX16.1, nhX16.2, pd12⟩
theorem viX16_give : pm_Vi mX16_give 16 := ⟨pm_Cl16, rfl, pm_tin15 _ (List.mem_of_getElem? (i := 81) rfl), pm_tin15 _ (List.mem_of_getElem? (i := 82) rfl)⟩
theorem myX16_isExport : pm_My mX16_isExport 2 := ⟨pm_tin13 _ (List.mem_of_getElem? (i := 192) rfl), pm_tin1 _ (List.mem_of_getElem? (i := 15) rfl), nhX16.1, nhX16.2, pd26⟩
theorem viX16_isExport : pm_Vi mX16_isExport 16 := ⟨pm_Cl16, rfl, pm_tin13 _ (List.mem_of_getElem? (i := 191) rfl), List.mem_append_left _ (List.mem_of_getElem? (i := 215) rfl)⟩
theorem myX16_isNamedFurther : pm_My mX16_isNamedFurther 0 := ⟨pm_tin13 _ (List.mem_of_getElem? (i := 67) rfl), pm_tin1 _ (List.mem_of_getElem? (i := 15) rfl), nhX16.1, nhX16.2, pd12⟩
theorem viX16_isNamedFurther : pm_Vi mX16_isNamedFurther 16 := ⟨pm_Cl16, rfl, pm_tin13 _ (List.mem_of_getElem? (i := 66) rfl), List.mem_append_left _ (List.mem_of_getElem? (i := 189) rfl)⟩
theorem myX16_localType : pm_My mX16_localType 3 := ⟨pm_tin13 _ (List.mem_of_getElem? (i := 169) rfl), pm_tin1 _ (List.mem_of_getElem? (i := 15) rfl), nhX16.1, nhX16.2, pd65⟩
theorem viX16_localType : pm_Vi mX16_localType 16 := ⟨pm_Cl16, rfl, pm_tin13 _ (List.mem_of_getElem? (i := 168) rfl), List.mem_append_left _ (List.mem_of_getElem? (i := 212) rfl)⟩
theorem myX16_long64 : pm_My mX16_long64 3 := ⟨pm_tin14 _ (List.mem_of_getElem? (i := 189) rfl), pm_tin1 _ (List.mem_of_getElem? (i := 15) rfl), nhX16.1, nhX16.2, pd46⟩
theorem viX16_long64 : pm_Vi mX16_long64 16 := ⟨pm_Cl16, rfl, pm_tin14 _ (List.mem_of_getElem? (i := 188) rfl), List.mem_append_left _ (List.mem_of_getElem? (i := 260) rfl)⟩
theorem myX16_moves : pm_My mX16_moves 1 := ⟨pm_tin15 _ (List.mem_of_getElem? (i := 51) rfl), pm_tin1 _ (List.mem_of_getElem? (i := 15) rfl), nhX16.1, nhX16.2, pd7⟩
theorem viX16_moves : pm_Vi mX16_moves 16 := ⟨pm_Cl16, rfl, pm_tin15 _ (List.mem_of_getElem? (i := 50) rfl), List.mem_append_left _ (List.mem_of_getElem? (i := 278) rfl)⟩
theorem myX16_offer : pm_My mX16_offer 2 := ⟨pm_tin13 _ (List.mem_of_getElem? (i := 188) rfl), pm_tin1 _ (List.mem_of_getElem? (i := 15) rfl), nhX16.1, nhX16.2, pd5⟩
theorem viX16_offer : pm_Vi mX16_offer 16 := ⟨pm_Cl16, rfl, pm_tin13 _ (List.mem_of_getElem? (i := 186) rfl), pm_tin13 _ (List.mem_of_getElem? (i := 187) rfl)⟩
theorem myX16_opensBlock : pm_My mX16_opensBlock 1 := ⟨pm_tin14 _ (List.mem_of_getElem? (i := 86) rfl), pm_tin1 _ (List.mem_of_getElem? (i := 15) rfl), nhX16.1, nhX16.2, pd7⟩
theorem viX16_opensBlock : pm_Vi mX16_opensBlock 16 := ⟨pm_Cl16, rfl, pm_tin14 _ (List.mem_of_getElem? (i := 85) rfl), List.mem_append_left _ (List.mem_of_getElem? (i := 247) rfl)⟩
theorem myX16_opensIf : pm_My mX16_opensIf 1 := ⟨pm_tin15 _ (List.mem_of_getElem? (i := 35) rfl), pm_tin1 _ (List.mem_of_getElem? (i := 15) rfl), nhX16.1, nhX16.2, pd7⟩
theorem viX16_opensIf : pm_Vi mX16_opensIf 16 := ⟨pm_Cl16, rfl, pm_tin15 _ (List.mem_of_getElem? (i := 34) rfl), List.mem_append_left _ (List.mem_of_getElem? (i := 274) rfl)⟩
theorem myX16_order : pm_My mX16_order 2 := ⟨pm_tin14 _ (List.mem_of_getElem? (i := 153) rfl), pm_tin1 _ (List.mem_of_getElem? (i := 15) rfl), nhX16.1, nhX16.2, pd13⟩
theorem stX16_order : pm_St mX16_order := pm_tin14 _ (List.mem_of_getElem? (i := 152) rfl)
theorem myX16_others : pm_My mX16_others 1 := ⟨pm_tin15 _ (List.mem_of_getElem? (i := 79) rfl), pm_tin1 _ (List.mem_of_getElem? (i := 15) rfl), nhX16.1, nhX16.2, pd7⟩
theorem viX16_others : pm_Vi mX16_others 16 := ⟨pm_Cl16, rfl, pm_tin15 _ (List.mem_of_getElem? (i := 78) rfl), List.mem_append_left _ (List.mem_of_getElem? (i := 285) rfl)⟩
theorem myX16_parametersIn : pm_My mX16_parametersIn 1 := ⟨pm_tin14 _ (List.mem_of_getElem? (i := 66) rfl), pm_tin1 _ (List.mem_of_getElem? (i := 15) rfl), nhX16.1, nhX16.2, pd0⟩
theorem viX16_parametersIn : pm_Vi mX16_parametersIn 16 := ⟨pm_Cl16, rfl, pm_tin14 _ (List.mem_of_getElem? (i := 65) rfl), List.mem_append_left _ (List.mem_of_getElem? (i := 242) rfl)⟩
theorem myX16_passesFurther : pm_My mX16_passesFurther 0 := ⟨pm_tin13 _ (List.mem_of_getElem? (i := 23) rfl), pm_tin1 _ (List.mem_of_getElem? (i := 15) rfl), nhX16.1, nhX16.2, pd10⟩
theorem viX16_passesFurther : pm_Vi mX16_passesFurther 16 := ⟨pm_Cl16, rfl, pm_tin13 _ (List.mem_of_getElem? (i := 22) rfl), List.mem_append_left _ (List.mem_of_getElem? (i := 182) rfl)⟩
theorem myX16_rounded : pm_My mX16_rounded 6 := ⟨pm_tin14 _ (List.mem_of_getElem? (i := 209) rfl), pm_tin1 _ (List.mem_of_getElem? (i := 15) rfl), nhX16.1, nhX16.2, pd66⟩
theorem stX16_rounded : pm_St mX16_rounded := pm_tin14 _ (List.mem_of_getElem? (i := 208) rfl)
theorem myX16_short32 : pm_My mX16_short32 5 := ⟨pm_tin14 _ (List.mem_of_getElem? (i := 160) rfl), pm_tin1 _ (List.mem_of_getElem? (i := 15) rfl), nhX16.1, nhX16.2, pd67⟩
theorem viX16_short32 : pm_Vi mX16_short32 16 := ⟨pm_Cl16, rfl, pm_tin14 _ (List.mem_of_getElem? (i := 159) rfl), List.mem_append_left _ (List.mem_of_getElem? (i := 257) rfl)⟩
theorem myX16_stretches : pm_My mX16_stretches 2 := ⟨pm_tin15 _ (List.mem_of_getElem? (i := 71) rfl), pm_tin1 _ (List.mem_of_getElem? (i := 15) rfl), nhX16.1, nhX16.2, pd8⟩
theorem viX16_stretches : pm_Vi mX16_stretches 16 := ⟨pm_Cl16, rfl, pm_tin15 _ (List.mem_of_getElem? (i := 70) rfl), List.mem_append_left _ (List.mem_of_getElem? (i := 283) rfl)⟩
theorem myX16_sumOf : pm_My mX16_sumOf 3 := ⟨pm_tin14 _ (List.mem_of_getElem? (i := 231) rfl), pm_tin1 _ (List.mem_of_getElem? (i := 15) rfl), nhX16.1, nhX16.2, pd68⟩
theorem stX16_sumOf : pm_St mX16_sumOf := pm_tin14 _ (List.mem_of_getElem? (i := 230) rfl)
theorem myX16_takesElement : pm_My mX16_takesElement 2 := ⟨pm_tin14 _ (List.mem_of_getElem? (i := 25) rfl), pm_tin1 _ (List.mem_of_getElem? (i := 15) rfl), nhX16.1, nhX16.2, pd8⟩
theorem viX16_takesElement : pm_Vi mX16_takesElement 16 := ⟨pm_Cl16, rfl, pm_tin14 _ (List.mem_of_getElem? (i := 24) rfl), List.mem_append_left _ (List.mem_of_getElem? (i := 232) rfl)⟩
theorem myX16_takesOwn : pm_My mX16_takesOwn 2 := ⟨pm_tin14 _ (List.mem_of_getElem? (i := 5) rfl), pm_tin1 _ (List.mem_of_getElem? (i := 15) rfl), nhX16.1, nhX16.2, pd8⟩
theorem viX16_takesOwn : pm_Vi mX16_takesOwn 16 := ⟨pm_Cl16, rfl, pm_tin14 _ (List.mem_of_getElem? (i := 4) rfl), List.mem_append_left _ (List.mem_of_getElem? (i := 227) rfl)⟩
theorem myX16_towards : pm_My mX16_towards 5 := ⟨pm_tin15 _ (List.mem_of_getElem? (i := 12) rfl), pm_tin1 _ (List.mem_of_getElem? (i := 15) rfl), nhX16.1, nhX16.2, pd69⟩
theorem viX16_towards : pm_Vi mX16_towards 16 := ⟨pm_Cl16, rfl, pm_tin15 _ (List.mem_of_getElem? (i := 11) rfl), List.mem_append_left _ (List.mem_of_getElem? (i := 269) rfl)⟩
theorem myX16_wholeOf : pm_My mX16_wholeOf 3 := ⟨pm_tin14 _ (List.mem_of_getElem? (i := 197) rfl), pm_tin1 _ (List.mem_of_getElem? (i := 15) rfl), nhX16.1, nhX16.2, pd70⟩
theorem viX16_wholeOf : pm_Vi mX16_wholeOf 16 := ⟨pm_Cl16, rfl, pm_tin14 _ (List.mem_of_getElem? (i := 196) rfl), List.mem_append_left _ (List.mem_of_getElem? (i := 262) rfl)⟩
theorem myX1_constantType : pm_My mX1_constantType 0 := ⟨pm_tin5 _ (List.mem_of_getElem? (i := 107) rfl), pm_tin1 _ (List.mem_of_getElem? (i := 4) rfl), nhX1.1, nhX1.2, pd23⟩
theorem viX1_constantType : pm_Vi mX1_constantType 1 := ⟨pm_Cl1, rfl, pm_tin5 _ (List.mem_of_getElem? (i := 106) rfl), List.mem_append_left _ (List.mem_of_getElem? (i := 37) rfl)⟩
theorem myX1_die : pm_My mX1_die 0 := ⟨pm_tin5 _ (List.mem_of_getElem? (i := 172) rfl), pm_tin1 _ (List.mem_of_getElem? (i := 4) rfl), nhX1.1, nhX1.2, pd10⟩
theorem viX1_die : pm_Vi mX1_die 1 := ⟨pm_Cl1, rfl, pm_tin5 _ (List.mem_of_getElem? (i := 171) rfl), List.mem_append_left _ (List.mem_of_getElem? (i := 50) rfl)⟩
theorem myX1_emit : pm_My mX1_emit 4 := ⟨pm_tin5 _ (List.mem_of_getElem? (i := 156) rfl), pm_tin1 _ (List.mem_of_getElem? (i := 4) rfl), nhX1.1, nhX1.2, pd71⟩
theorem viX1_emit : pm_Vi mX1_emit 1 := ⟨pm_Cl1, rfl, pm_tin5 _ (List.mem_of_getElem? (i := 155) rfl), List.mem_append_left _ (List.mem_of_getElem? (i := 47) rfl)⟩
theorem myX1_emitPlain : pm_My mX1_emitPlain 2 := ⟨pm_tin5 _ (List.mem_of_getElem? (i := 152) rfl), pm_tin1 _ (List.mem_of_getElem? (i := 4) rfl), nhX1.1, nhX1.2, pd36⟩
theorem viX1_emitPlain : pm_Vi mX1_emitPlain 1 := ⟨pm_Cl1, rfl, pm_tin5 _ (List.mem_of_getElem? (i := 151) rfl), List.mem_append_left _ (List.mem_of_getElem? (i := 46) rfl)⟩
theorem myX1_exportsAreRight : pm_My mX1_exportsAreRight 0 := ⟨pm_tin5 _ (List.mem_of_getElem? (i := 67) rfl), pm_tin1 _ (List.mem_of_getElem? (i := 4) rfl), nhX1.1, nhX1.2, pd10⟩
theorem viX1_exportsAreRight : pm_Vi mX1_exportsAreRight 1 := ⟨pm_Cl1, rfl, pm_tin5 _ (List.mem_of_getElem? (i := 66) rfl), List.mem_append_left _ (List.mem_of_getElem? (i := 31) rfl)⟩
theorem myX1_limitsAreRight : pm_My mX1_limitsAreRight 0 := ⟨pm_tin5 _ (List.mem_of_getElem? (i := 53) rfl), pm_tin1 _ (List.mem_of_getElem? (i := 4) rfl), nhX1.1, nhX1.2, pd10⟩
theorem viX1_limitsAreRight : pm_Vi mX1_limitsAreRight 1 := ⟨pm_Cl1, rfl, pm_tin5 _ (List.mem_of_getElem? (i := 52) rfl), List.mem_append_left _ (List.mem_of_getElem? (i := 29) rfl)⟩
theorem myX1_memoryIsOne : pm_My mX1_memoryIsOne 0 := ⟨pm_tin5 _ (List.mem_of_getElem? (i := 63) rfl), pm_tin1 _ (List.mem_of_getElem? (i := 4) rfl), nhX1.1, nhX1.2, pd10⟩
theorem viX1_memoryIsOne : pm_Vi mX1_memoryIsOne 1 := ⟨pm_Cl1, rfl, pm_tin5 _ (List.mem_of_getElem? (i := 62) rfl), List.mem_append_left _ (List.mem_of_getElem? (i := 30) rfl)⟩
theorem myX1_openLabel : pm_My mX1_openLabel 4 := ⟨pm_tin5 _ (List.mem_of_getElem? (i := 140) rfl), pm_tin1 _ (List.mem_of_getElem? (i := 4) rfl), nhX1.1, nhX1.2, pd72⟩
theorem viX1_openLabel : pm_Vi mX1_openLabel 1 := ⟨pm_Cl1, rfl, pm_tin5 _ (List.mem_of_getElem? (i := 139) rfl), List.mem_append_left _ (List.mem_of_getElem? (i := 43) rfl)⟩
theorem myX1_plain : pm_My mX1_plain 4 := ⟨pm_tin6 _ (List.mem_of_getElem? (i := 52) rfl), pm_tin1 _ (List.mem_of_getElem? (i := 4) rfl), nhX1.1, nhX1.2, pd39⟩
theorem viX1_plain : pm_Vi mX1_plain 1 := ⟨pm_Cl1, rfl, pm_tin6 _ (List.mem_of_getElem? (i := 51) rfl), List.mem_append_left _ (List.mem_of_getElem? (i := 76) rfl)⟩
theorem myX1_putParameters : pm_My mX1_putParameters 1 := ⟨pm_tin5 _ (List.mem_of_getElem? (i := 194) rfl), pm_tin1 _ (List.mem_of_getElem? (i := 4) rfl), nhX1.1, nhX1.2, pd73⟩
theorem viX1_putParameters : pm_Vi mX1_putParameters 1 := ⟨pm_Cl1, rfl, pm_tin5 _ (List.mem_of_getElem? (i := 193) rfl), List.mem_append_left _ (List.mem_of_getElem? (i := 55) rfl)⟩
theorem myX1_putResults : pm_My mX1_putResults 1 := ⟨pm_tin6 _ (List.mem_of_getElem? (i := 10) rfl), pm_tin1 _ (List.mem_of_getElem? (i := 4) rfl), nhX1.1, nhX1.2, pd73⟩
theorem viX1_putResults : pm_Vi mX1_putResults 1 := ⟨pm_Cl1, rfl, pm_tin6 _ (List.mem_of_getElem? (i := 9) rfl), List.mem_append_left _ (List.mem_of_getElem? (i := 66) rfl)⟩
theorem myX1_stretch : pm_My mX1_stretch 1 := ⟨pm_tin6 _ (List.mem_of_getElem? (i := 146) rfl), pm_tin1 _ (List.mem_of_getElem? (i := 4) rfl), nhX1.1, nhX1.2, pd7⟩
theorem viX1_stretch : pm_Vi mX1_stretch 1 := ⟨pm_Cl1, rfl, pm_tin6 _ (List.mem_of_getElem? (i := 145) rfl), List.mem_append_left _ (List.mem_of_getElem? (i := 83) rfl)⟩
theorem myX1_tableAccess : pm_My mX1_tableAccess 1 := ⟨pm_tin6 _ (List.mem_of_getElem? (i := 142) rfl), pm_tin1 _ (List.mem_of_getElem? (i := 4) rfl), nhX1.1, nhX1.2, pd7⟩
theorem viX1_tableAccess : pm_Vi mX1_tableAccess 1 := ⟨pm_Cl1, rfl, pm_tin6 _ (List.mem_of_getElem? (i := 141) rfl), List.mem_append_left _ (List.mem_of_getElem? (i := 82) rfl)⟩
theorem myX1_takeParameters : pm_My mX1_takeParameters 1 := ⟨pm_tin5 _ (List.mem_of_getElem? (i := 186) rfl), pm_tin1 _ (List.mem_of_getElem? (i := 4) rfl), nhX1.1, nhX1.2, pd73⟩
theorem viX1_takeParameters : pm_Vi mX1_takeParameters 1 := ⟨pm_Cl1, rfl, pm_tin5 _ (List.mem_of_getElem? (i := 185) rfl), List.mem_append_left _ (List.mem_of_getElem? (i := 53) rfl)⟩
theorem myX1_typesAreThere : pm_My mX1_typesAreThere 0 := ⟨pm_tin5 _ (List.mem_of_getElem? (i := 34) rfl), pm_tin1 _ (List.mem_of_getElem? (i := 4) rfl), nhX1.1, nhX1.2, pd10⟩
theorem viX1_typesAreThere : pm_Vi mX1_typesAreThere 1 := ⟨pm_Cl1, rfl, pm_tin5 _ (List.mem_of_getElem? (i := 33) rfl), List.mem_append_left _ (List.mem_of_getElem? (i := 27) rfl)⟩
theorem myX1_variable : pm_My mX1_variable 1 := ⟨pm_tin6 _ (List.mem_of_getElem? (i := 59) rfl), pm_tin1 _ (List.mem_of_getElem? (i := 4) rfl), nhX1.1, nhX1.2, pd7⟩
theorem viX1_variable : pm_Vi mX1_variable 1 := ⟨pm_Cl1, rfl, pm_tin6 _ (List.mem_of_getElem? (i := 58) rfl), List.mem_append_left _ (List.mem_of_getElem? (i := 77) rfl)⟩
theorem myX2_branchByTable : pm_My mX2_branchByTable 3 := ⟨pm_tin8 _ (List.mem_of_getElem? (i := 171) rfl), pm_tin1 _ (List.mem_of_getElem? (i := 13) rfl), nhX2.1, nhX2.2, pd38⟩
theorem viX2_branchByTable : pm_Vi mX2_branchByTable 2 := ⟨pm_Cl2, rfl, pm_tin8 _ (List.mem_of_getElem? (i := 170) rfl), List.mem_append_left _ (List.mem_of_getElem? (i := 118) rfl)⟩
theorem myX2_calling : pm_My mX2_calling 3 := ⟨pm_tin8 _ (List.mem_of_getElem? (i := 175) rfl), pm_tin1 _ (List.mem_of_getElem? (i := 13) rfl), nhX2.1, nhX2.2, pd38⟩
theorem viX2_calling : pm_Vi mX2_calling 2 := ⟨pm_Cl2, rfl, pm_tin8 _ (List.mem_of_getElem? (i := 174) rfl), List.mem_append_left _ (List.mem_of_getElem? (i := 119) rfl)⟩
theorem myX2_condition : pm_My mX2_condition 2 := ⟨pm_tin8 _ (List.mem_of_getElem? (i := 158) rfl), pm_tin1 _ (List.mem_of_getElem? (i := 13) rfl), nhX2.1, nhX2.2, pd8⟩
theorem viX2_condition : pm_Vi mX2_condition 2 := ⟨pm_Cl2, rfl, pm_tin8 _ (List.mem_of_getElem? (i := 157) rfl), List.mem_append_left _ (List.mem_of_getElem? (i := 115) rfl)⟩
theorem myX2_translate : pm_My mX2_translate 1 := ⟨pm_tin8 _ (List.mem_of_getElem? (i := 134) rfl), pm_tin1 _ (List.mem_of_getElem? (i := 13) rfl), nhX2.1, nhX2.2, pd0⟩
theorem viX2_translate : pm_Vi mX2_translate 2 := ⟨pm_Cl2, rfl, pm_tin8 _ (List.mem_of_getElem? (i := 133) rfl), List.mem_append_left _ (List.mem_of_getElem? (i := 110) rfl)⟩
theorem myX10_atTable : pm_My mX10_atTable 4 := ⟨pm_tin8 _ (List.mem_of_getElem? (i := 52) rfl), pm_tin1 _ (List.mem_of_getElem? (i := 7) rfl), nhX10.1, nhX10.2, pd57⟩
theorem viX10_atTable : pm_Vi mX10_atTable 10 := ⟨pm_Cl10, rfl, pm_tin8 _ (List.mem_of_getElem? (i := 51) rfl), List.mem_append_left _ (List.mem_of_getElem? (i := 102) rfl)⟩
theorem myX10_hasRoom : pm_My mX10_hasRoom 3 := ⟨pm_tin6 _ (List.mem_of_getElem? (i := 211) rfl), pm_tin1 _ (List.mem_of_getElem? (i := 7) rfl), nhX10.1, nhX10.2, pd74⟩
theorem viX10_hasRoom : pm_Vi mX10_hasRoom 10 := ⟨pm_Cl10, rfl, pm_tin6 _ (List.mem_of_getElem? (i := 210) rfl), List.mem_append_left _ (List.mem_of_getElem? (i := 86) rfl)⟩
theorem myX12_offer : pm_My mX12_offer 2 := ⟨pm_tin6 _ (List.mem_of_getElem? (i := 155) rfl), pm_tin1 _ (List.mem_of_getElem? (i := 1) rfl), nhX12.1, nhX12.2, pd5⟩
theorem viX12_offer : pm_Vi mX12_offer 12 := ⟨pm_Cl12, rfl, pm_tin6 _ (List.mem_of_getElem? (i := 153) rfl), pm_tin6 _ (List.mem_of_getElem? (i := 154) rfl)⟩
theorem myX16_accesses1 : pm_My mX16_accesses1 1 := ⟨pm_tin15 _ (List.mem_of_getElem? (i := 59) rfl), pm_tin1 _ (List.mem_of_getElem? (i := 15) rfl), nhX16.1, nhX16.2, pd7⟩
theorem viX16_accesses1 : pm_Vi mX16_accesses1 16 := ⟨pm_Cl16, rfl, pm_tin15 _ (List.mem_of_getElem? (i := 58) rfl), List.mem_append_left _ (List.mem_of_getElem? (i := 280) rfl)⟩
theorem myX16_behind : pm_My mX16_behind 1 := ⟨pm_tin13 _ (List.mem_of_getElem? (i := 11) rfl), pm_tin1 _ (List.mem_of_getElem? (i := 15) rfl), nhX16.1, nhX16.2, pd0⟩
theorem viX16_behind : pm_Vi mX16_behind 16 := ⟨pm_Cl16, rfl, pm_tin13 _ (List.mem_of_getElem? (i := 10) rfl), List.mem_append_left _ (List.mem_of_getElem? (i := 179) rfl)⟩
theorem myX16_declaresIn : pm_My mX16_declaresIn 1 := ⟨pm_tin12 _ (List.mem_of_getElem? (i := 238) rfl), pm_tin1 _ (List.mem_of_getElem? (i := 15) rfl), nhX16.1, nhX16.2, pd7⟩
theorem viX16_declaresIn : pm_Vi mX16_declaresIn 16 := ⟨pm_Cl16, rfl, pm_tin12 _ (List.mem_of_getElem? (i := 237) rfl), List.mem_append_left _ (List.mem_of_getElem? (i := 176) rfl)⟩
theorem myX16_enters : pm_My mX16_enters 1 := ⟨pm_tin14 _ (List.mem_of_getElem? (i := 62) rfl), pm_tin1 _ (List.mem_of_getElem? (i := 15) rfl), nhX16.1, nhX16.2, pd7⟩
theorem viX16_enters : pm_Vi mX16_enters 16 := ⟨pm_Cl16, rfl, pm_tin14 _ (List.mem_of_getElem? (i := 61) rfl), List.mem_append_left _ (List.mem_of_getElem? (i := 241) rfl)⟩
theorem myX16_export : pm_My mX16_export 3 := ⟨pm_tin15 _ (List.mem_of_getElem? (i := 103) rfl), pm_tin1 _ (List.mem_of_getElem? (i := 15) rfl), nhX16.1, nhX16.2, pd50⟩
theorem viX16_export : pm_Vi mX16_export 16 := ⟨pm_Cl16, rfl, pm_tin15 _ (List.mem_of_getElem? (i := 101) rfl), pm_tin15 _ (List.mem_of_getElem? (i := 102) rfl)⟩
theorem myX16_exportedAs : pm_My mX16_exportedAs 3 := ⟨pm_tin14 _ (List.mem_of_getElem? (i := 106) rfl), pm_tin1 _ (List.mem_of_getElem? (i := 15) rfl), nhX16.1, nhX16.2, pd50⟩
theorem viX16_exportedAs : pm_Vi mX16_exportedAs 16 := ⟨pm_Cl16, rfl, pm_tin14 _ (List.mem_of_getElem? (i := 105) rfl), List.mem_append_left _ (List.mem_of_getElem? (i := 250) rfl)⟩
theorem myX16_extreme : pm_My mX16_extreme 4 := ⟨pm_tin15 _ (List.mem_of_getElem? (i := 4) rfl), pm_tin1 _ (List.mem_of_getElem? (i := 15) rfl), nhX16.1, nhX16.2, pd75⟩
theorem viX16_extreme : pm_Vi mX16_extreme 16 := ⟨pm_Cl16, rfl, pm_tin15 _ (List.mem_of_getElem? (i := 3) rfl), List.mem_append_left _ (List.mem_of_getElem? (i := 267) rfl)⟩
theorem myX16_global : pm_My mX16_global 2 := ⟨pm_tin15 _ (List.mem_of_getElem? (i := 119) rfl), pm_tin1 _ (List.mem_of_getElem? (i := 15) rfl), nhX16.1, nhX16.2, pd63⟩
theorem viX16_global : pm_Vi mX16_global 16 := ⟨pm_Cl16, rfl, pm_tin15 _ (List.mem_of_getElem? (i := 117) rfl), pm_tin15 _ (List.mem_of_getElem? (i := 118) rfl)⟩
theorem myX16_goesOn : pm_My mX16_goesOn 0 := ⟨pm_tin14 _ (List.mem_of_getElem? (i := 82) rfl), pm_tin1 _ (List.mem_of_getElem? (i := 15) rfl), nhX16.1, nhX16.2, pd10⟩
theorem viX16_goesOn : pm_Vi mX16_goesOn 16 := ⟨pm_Cl16, rfl, pm_tin14 _ (List.mem_of_getElem? (i := 81) rfl), List.mem_append_left _ (List.mem_of_getElem? (i := 246) rfl)⟩
theorem myX16_invokes : pm_My mX16_invokes 1 := ⟨pm_tin15 _ (List.mem_of_getElem? (i := 43) rfl), pm_tin1 _ (List.mem_of_getElem? (i := 15) rfl), nhX16.1, nhX16.2, pd7⟩
theorem viX16_invokes : pm_Vi mX16_invokes 16 := ⟨pm_Cl16, rfl, pm_tin15 _ (List.mem_of_getElem? (i := 42) rfl), List.mem_append_left _ (List.mem_of_getElem? (i := 276) rfl)⟩
theorem myX16_invokesEntry : pm_My mX16_invokesEntry 0 := ⟨pm_tin15 _ (List.mem_of_getElem? (i := 47) rfl), pm_tin1 _ (List.mem_of_getElem? (i := 15) rfl), nhX16.1, nhX16.2, pd10⟩
theorem viX16_invokesEntry : pm_Vi mX16_invokesEntry 16 := ⟨pm_Cl16, rfl, pm_tin15 _ (List.mem_of_getElem? (i := 46) rfl), List.mem_append_left _ (List.mem_of_getElem? (i := 277) rfl)⟩
theorem myX16_isNamed : pm_My mX16_isNamed 2 := ⟨pm_tin13 _ (List.mem_of_getElem? (i := 60) rfl), pm_tin1 _ (List.mem_of_getElem? (i := 15) rfl), nhX16.1, nhX16.2, pd26⟩
theorem viX16_isNamed : pm_Vi mX16_isNamed 16 := ⟨pm_Cl16, rfl, pm_tin13 _ (List.mem_of_getElem? (i := 59) rfl), List.mem_append_left _ (List.mem_of_getElem? (i := 188) rfl)⟩
theorem myX16_isReal : pm_My mX16_isReal 4 := ⟨pm_tin14 _ (List.mem_of_getElem? (i := 146) rfl), pm_tin1 _ (List.mem_of_getElem? (i := 15) rfl), nhX16.1, nhX16.2, pd76⟩
theorem viX16_isReal : pm_Vi mX16_isReal 16 := ⟨pm_Cl16, rfl, pm_tin14 _ (List.mem_of_getElem? (i := 145) rfl), List.mem_append_left _ (List.mem_of_getElem? (i := 256) rfl)⟩
theorem myX16_memory : pm_My mX16_memory 3 := ⟨pm_tin15 _ (List.mem_of_getElem? (i := 107) rfl), pm_tin1 _ (List.mem_of_getElem? (i := 15) rfl), nhX16.1, nhX16.2, pd50⟩
theorem viX16_memory : pm_Vi mX16_memory 16 := ⟨pm_Cl16, rfl, pm_tin15 _ (List.mem_of_getElem? (i := 105) rfl), pm_tin15 _ (List.mem_of_getElem? (i := 106) rfl)⟩
theorem myX16_moved : pm_My mX16_moved 3 := ⟨pm_tin15 _ (List.mem_of_getElem? (i := 19) rfl), pm_tin1 _ (List.mem_of_getElem? (i := 15) rfl), nhX16.1, nhX16.2, pd70⟩
theorem viX16_moved : pm_Vi mX16_moved 16 := ⟨pm_Cl16, rfl, pm_tin15 _ (List.mem_of_getElem? (i := 18) rfl), List.mem_append_left _ (List.mem_of_getElem? (i := 270) rfl)⟩
theorem myX16_ofWhole : pm_My mX16_ofWhole 3 := ⟨pm_tin15 _ (List.mem_of_getElem? (i := 15) rfl), pm_tin1 _ (List.mem_of_getElem? (i := 15) rfl), nhX16.1, nhX16.2, pd77⟩
theorem stX16_ofWhole : pm_St mX16_ofWhole := pm_tin15 _ (List.mem_of_getElem? (i := 14) rfl)
theorem myX16_poke : pm_My mX16_poke 4 := ⟨pm_tin15 _ (List.mem_of_getElem? (i := 111) rfl), pm_tin1 _ (List.mem_of_getElem? (i := 15) rfl), nhX16.1, nhX16.2, pd41⟩
theorem viX16_poke : pm_Vi mX16_poke 16 := ⟨pm_Cl16, rfl, pm_tin15 _ (List.mem_of_getElem? (i := 109) rfl), pm_tin15 _ (List.mem_of_getElem? (i := 110) rfl)⟩
theorem myX16_product : pm_My mX16_product 3 := ⟨pm_tin14 _ (List.mem_of_getElem? (i := 235) rfl), pm_tin1 _ (List.mem_of_getElem? (i := 15) rfl), nhX16.1, nhX16.2, pd46⟩
theorem viX16_product : pm_Vi mX16_product 16 := ⟨pm_Cl16, rfl, pm_tin14 _ (List.mem_of_getElem? (i := 234) rfl), List.mem_append_left _ (List.mem_of_getElem? (i := 265) rfl)⟩
theorem myX16_quotient : pm_My mX16_quotient 3 := ⟨pm_tin15 _ (List.mem_of_getElem? (i := 0) rfl), pm_tin1 _ (List.mem_of_getElem? (i := 15) rfl), nhX16.1, nhX16.2, pd46⟩
theorem viX16_quotient : pm_Vi mX16_quotient 16 := ⟨pm_Cl16, rfl, pm_tin14 _ (List.mem_of_getElem? (i := 239) rfl), List.mem_append_left _ (List.mem_of_getElem? (i := 266) rfl)⟩
theorem myX16_root : pm_My mX16_root 2 := ⟨pm_tin14 _ (List.mem_of_getElem? (i := 222) rfl), pm_tin1 _ (List.mem_of_getElem? (i := 15) rfl), nhX16.1, nhX16.2, pd13⟩
theorem viX16_root : pm_Vi mX16_root 16 := ⟨pm_Cl16, rfl, pm_tin14 _ (List.mem_of_getElem? (i := 221) rfl), List.mem_append_left _ (List.mem_of_getElem? (i := 263) rfl)⟩
theorem myX16_sum : pm_My mX16_sum 4 := ⟨pm_tin14 _ (List.mem_of_getElem? (i := 228) rfl), pm_tin1 _ (List.mem_of_getElem? (i := 15) rfl), nhX16.1, nhX16.2, pd75⟩
theorem viX16_sum : pm_Vi mX16_sum 16 := ⟨pm_Cl16, rfl, pm_tin14 _ (List.mem_of_getElem? (i := 227) rfl), List.mem_append_left _ (List.mem_of_getElem? (i := 264) rfl)⟩
theorem myX16_table : pm_My mX16_table 3 := ⟨pm_tin15 _ (List.mem_of_getElem? (i := 115) rfl), pm_tin1 _ (List.mem_of_getElem? (i := 15) rfl), nhX16.1, nhX16.2, pd50⟩
theorem viX16_table : pm_Vi mX16_table 16 := ⟨pm_Cl16, rfl, pm_tin15 _ (List.mem_of_getElem? (i := 113) rfl), pm_tin15 _ (List.mem_of_getElem? (i := 114) rfl)⟩
theorem myX16_turned : pm_My mX16_turned 3 := ⟨pm_tin15 _ (List.mem_of_getElem? (i := 8) rfl), pm_tin1 _ (List.mem_of_getElem? (i := 15) rfl), nhX16.1, nhX16.2, pd70⟩
theorem viX16_turned : pm_Vi mX16_turned 16 := ⟨pm_Cl16, rfl, pm_tin15 _ (List.mem_of_getElem? (i := 7) rfl), List.mem_append_left _ (List.mem_of_getElem? (i := 268) rfl)⟩
theorem myX16_turns : pm_My mX16_turns 2 := ⟨pm_tin15 _ (List.mem_of_getElem? (i := 31) rfl), pm_tin1 _ (List.mem_of_getElem? (i := 15) rfl), nhX16.1, nhX16.2, pd8⟩
theorem viX16_turns : pm_Vi mX16_turns 16 := ⟨pm_Cl16, rfl, pm_tin15 _ (List.mem_of_getElem? (i := 30) rfl), List.mem_append_left _ (List.mem_of_getElem? (i := 273) rfl)⟩
theorem myX1_choice : pm_My mX1_choice 1 := ⟨pm_tin6 _ (List.mem_of_getElem? (i := 48) rfl), pm_tin1 _ (List.mem_of_getElem? (i := 4) rfl), nhX1.1, nhX1.2, pd7⟩
theorem viX1_choice : pm_Vi mX1_choice 1 := ⟨pm_Cl1, rfl, pm_tin6 _ (List.mem_of_getElem? (i := 47) rfl), List.mem_append_left _ (List.mem_of_getElem? (i := 75) rfl)⟩
theorem myX1_constantIn : pm_My mX1_constantIn 2 := ⟨pm_tin6 _ (List.mem_of_getElem? (i := 133) rfl), pm_tin1 _ (List.mem_of_getElem? (i := 4) rfl), nhX1.1, nhX1.2, pd33⟩
theorem viX1_constantIn : pm_Vi mX1_constantIn 1 := ⟨pm_Cl1, rfl, pm_tin6 _ (List.mem_of_getElem? (i := 132) rfl), List.mem_append_left _ (List.mem_of_getElem? (i := 80) rfl)⟩
theorem myX1_reference : pm_My mX1_reference 1 := ⟨pm_tin6 _ (List.mem_of_getElem? (i := 137) rfl), pm_tin1 _ (List.mem_of_getElem? (i := 4) rfl), nhX1.1, nhX1.2, pd7⟩
theorem viX1_reference : pm_Vi mX1_reference 1 := ⟨pm_Cl1, rfl, pm_tin6 _ (List.mem_of_getElem? (i := 136) rfl), List.mem_append_left _ (List.mem_of_getElem? (i := 81) rfl)⟩
theorem myX16_answer : pm_My mX16_answer 0 := ⟨pm_tin15 _ (List.mem_of_getElem? (i := 87) rfl), pm_tin1 _ (List.mem_of_getElem? (i := 15) rfl), nhX16.1, nhX16.2, pd12⟩
theorem viX16_answer : pm_Vi mX16_answer 16 := ⟨pm_Cl16, rfl, pm_tin15 _ (List.mem_of_getElem? (i := 85) rfl), pm_tin15 _ (List.mem_of_getElem? (i := 86) rfl)⟩
theorem myX16_calls : pm_My mX16_calls 1 := ⟨pm_tin14 _ (List.mem_of_getElem? (i := 58) rfl), pm_tin1 _ (List.mem_of_getElem? (i := 15) rfl), nhX16.1, nhX16.2, pd7⟩
theorem viX16_calls : pm_Vi mX16_calls 16 := ⟨pm_Cl16, rfl, pm_tin14 _ (List.mem_of_getElem? (i := 57) rfl), List.mem_append_left _ (List.mem_of_getElem? (i := 240) rfl)⟩
theorem myX16_declares : pm_My mX16_declares 0 := ⟨pm_tin12 _ (List.mem_of_getElem? (i := 234) rfl), pm_tin1 _ (List.mem_of_getElem? (i := 15) rfl), nhX16.1, nhX16.2, pd10⟩
theorem viX16_declares : pm_Vi mX16_declares 16 := ⟨pm_Cl16, rfl, pm_tin12 _ (List.mem_of_getElem? (i := 233) rfl), List.mem_append_left _ (List.mem_of_getElem? (i := 175) rfl)⟩
theorem myX16_real : pm_My mX16_real 4 := ⟨pm_tin14 _ (List.mem_of_getElem? (i := 193) rfl), pm_tin1 _ (List.mem_of_getElem? (i := 15) rfl), nhX16.1, nhX16.2, pd57⟩
theorem viX16_real : pm_Vi mX16_real 16 := ⟨pm_Cl16, rfl, pm_tin14 _ (List.mem_of_getElem? (i := 192) rfl), List.mem_append_left _ (List.mem_of_getElem? (i := 261) rfl)⟩
theorem myX16_reckons : pm_My mX16_reckons 3 := ⟨pm_tin14 _ (List.mem_of_getElem? (i := 135) rfl), pm_tin1 _ (List.mem_of_getElem? (i := 15) rfl), nhX16.1, nhX16.2, pd46⟩
theorem viX16_reckons : pm_Vi mX16_reckons 16 := ⟨pm_Cl16, rfl, pm_tin14 _ (List.mem_of_getElem? (i := 134) rfl), List.mem_append_left _ (List.mem_of_getElem? (i := 255) rfl)⟩
theorem myX16_startsUp : pm_My mX16_startsUp 1 := ⟨pm_tin14 _ (List.mem_of_getElem? (i := 29) rfl), pm_tin1 _ (List.mem_of_getElem? (i := 15) rfl), nhX16.1, nhX16.2, pd7⟩
theorem viX16_startsUp : pm_Vi mX16_startsUp 16 := ⟨pm_Cl16, rfl, pm_tin14 _ (List.mem_of_getElem? (i := 28) rfl), List.mem_append_left _ (List.mem_of_getElem? (i := 233) rfl)⟩
theorem myX16_call : pm_My mX16_call 2 := ⟨pm_tin14 _ (List.mem_of_getElem? (i := 102) rfl), pm_tin1 _ (List.mem_of_getElem? (i := 15) rfl), nhX16.1, nhX16.2, pd26⟩
theorem viX16_call : pm_Vi mX16_call 16 := ⟨pm_Cl16, rfl, pm_tin14 _ (List.mem_of_getElem? (i := 100) rfl), pm_tin14 _ (List.mem_of_getElem? (i := 101) rfl)⟩
theorem myX16_operator : pm_My mX16_operator 1 := ⟨pm_tin14 _ (List.mem_of_getElem? (i := 127) rfl), pm_tin1 _ (List.mem_of_getElem? (i := 15) rfl), nhX16.1, nhX16.2, pd7⟩
theorem viX16_operator : pm_Vi mX16_operator 16 := ⟨pm_Cl16, rfl, pm_tin14 _ (List.mem_of_getElem? (i := 126) rfl), List.mem_append_left _ (List.mem_of_getElem? (i := 253) rfl)⟩
theorem myX16_furtherStep : pm_My mX16_furtherStep 0 := ⟨pm_tin15 _ (List.mem_of_getElem? (i := 67) rfl), pm_tin1 _ (List.mem_of_getElem? (i := 15) rfl), nhX16.1, nhX16.2, pd10⟩
theorem viX16_furtherStep : pm_Vi mX16_furtherStep 16 := ⟨pm_Cl16, rfl, pm_tin15 _ (List.mem_of_getElem? (i := 66) rfl), List.mem_append_left _ (List.mem_of_getElem? (i := 282) rfl)⟩
theorem myX16_step : pm_My mX16_step 0 := ⟨pm_tin14 _ (List.mem_of_getElem? (i := 123) rfl), pm_tin1 _ (List.mem_of_getElem? (i := 15) rfl), nhX16.1, nhX16.2, pd10⟩
theorem viX16_step : pm_Vi mX16_step 16 := ⟨pm_Cl16, rfl, pm_tin14 _ (List.mem_of_getElem? (i := 122) rfl), List.mem_append_left _ (List.mem_of_getElem? (i := 252) rfl)⟩
theorem myX16_run : pm_My mX16_run 1 := ⟨pm_tin14 _ (List.mem_of_getElem? (i := 118) rfl), pm_tin1 _ (List.mem_of_getElem? (i := 15) rfl), nhX16.1, nhX16.2, pd0⟩
theorem viX16_run : pm_Vi mX16_run 16 := ⟨pm_Cl16, rfl, pm_tin14 _ (List.mem_of_getElem? (i := 116) rfl), pm_tin14 _ (List.mem_of_getElem? (i := 117) rfl)⟩
theorem lnX12_73 : pm_Ln RX12 73 mX12_write := Or.inl (pm_tin4 _ (List.mem_of_getElem? (i := 15) rfl))
theorem lnX12_135 : pm_Ln RX12 135 mX12_offerOf := Or.inl (pm_tin6 _ (List.mem_of_getElem? (i := 156) rfl))
theorem lnX12_139 : pm_Ln RX12 139 mX10_instanceAt := Or.inl (pm_tin6 _ (List.mem_of_getElem? (i := 161) rfl))
theorem lnX12_143 : pm_Ln RX12 143 mX4_exportKind := Or.inl (pm_tin6 _ (List.mem_of_getElem? (i := 162) rfl))
theorem lnX12_149 : pm_Ln RX12 149 mX4_exportNumber := Or.inl (pm_tin6 _ (List.mem_of_getElem? (i := 167) rfl))
theorem lnX12_152 : pm_Ln RX12 152 mX12_setItem := Or.inl (pm_tin6 _ (List.mem_of_getElem? (i := 160) rfl))
theorem lnX12_156 : pm_Ln RX12 156 mX5_isBusy := Or.inl (pm_tin6 _ (List.mem_of_getElem? (i := 179) rfl))
theorem lnX12_181 : pm_Ln RX12 181 mX12_item := Or.inl (pm_tin8 _ (List.mem_of_getElem? (i := 71) rfl))
theorem lnX12_194 : pm_Ln RX12 194 mX10_shapeOf := Or.inl (pm_tin8 _ (List.mem_of_getElem? (i := 224) rfl))
theorem lnX12_205 : pm_Ln RX12 205 mX5_stop := Or.inl (pm_tin9 _ (List.mem_of_getElem? (i := 38) rfl))
theorem lnX12_236 : pm_Ln RX12 236 mX10_hostNumber := Or.inl (pm_tin9 _ (List.mem_of_getElem? (i := 51) rfl))
theorem lnX12_264 : pm_Ln RX12 264 mX12_item_ := Or.inl (pm_tin9 _ (List.mem_of_getElem? (i := 56) rfl))
theorem lnX12_279 : pm_Ln RX12 279 mX6_reaches := Or.inl (pm_tin9 _ (List.mem_of_getElem? (i := 70) rfl))
theorem lnX12_283 : pm_Ln RX12 283 mX6_byteAt := Or.inl (pm_tin9 _ (List.mem_of_getElem? (i := 71) rfl))
theorem lnX12_287 : pm_Ln RX12 287 mX6_setByte := Or.inl (pm_tin9 _ (List.mem_of_getElem? (i := 76) rfl))
theorem lnX12_291 : pm_Ln RX12 291 mX11_reaches := Or.inl (pm_tin9 _ (List.mem_of_getElem? (i := 81) rfl))
theorem lnX12_292 : pm_Ln RX12 292 mX11_entry := Or.inl (pm_tin9 _ (List.mem_of_getElem? (i := 82) rfl))
theorem lnX0_36 : pm_Ln RX0 36 mX12_setItem := Or.inr ⟨"ModuleEngine", pm_tin5 _ (List.mem_of_getElem? (i := 235) rfl)⟩
theorem lnX1_60 : pm_Ln RX1 60 mX7_count := Or.inl (pm_tin5 _ (List.mem_of_getElem? (i := 26) rfl))
theorem lnX1_66 : pm_Ln RX1 66 mX1_failAt := Or.inl (pm_tin5 _ (List.mem_of_getElem? (i := 27) rfl))
theorem lnX1_105 : pm_Ln RX1 105 mX12_item := Or.inr ⟨"ModuleEngine", pm_tin5 _ (List.mem_of_getElem? (i := 42) rfl)⟩
theorem lnX1_113 : pm_Ln RX1 113 mX12_item_ := Or.inr ⟨"ModuleEngine", pm_tin5 _ (List.mem_of_getElem? (i := 35) rfl)⟩
theorem lnX1_119 : pm_Ln RX1 119 mX1_failSection := Or.inl (pm_tin5 _ (List.mem_of_getElem? (i := 38) rfl))
theorem lnX1_122 : pm_Ln RX1 122 mX7_of := Or.inl (pm_tin5 _ (List.mem_of_getElem? (i := 45) rfl))
theorem lnX1_126 : pm_Ln RX1 126 mX1_isLimited := Or.inl (pm_tin5 _ (List.mem_of_getElem? (i := 54) rfl))
theorem lnX1_130 : pm_Ln RX1 130 mX7_imported := Or.inl (pm_tin5 _ (List.mem_of_getElem? (i := 59) rfl))
theorem lnX1_146 : pm_Ln RX1 146 mX7_has := Or.inl (pm_tin5 _ (List.mem_of_getElem? (i := 68) rfl))
theorem lnX1_150 : pm_Ln RX1 150 mX1_declare := Or.inl (pm_tin5 _ (List.mem_of_getElem? (i := 73) rfl))
theorem lnX1_154 : pm_Ln RX1 154 mX1_isSameName := Or.inl (pm_tin5 _ (List.mem_of_getElem? (i := 77) rfl))
theorem lnX1_198 : pm_Ln RX1 198 mX1_fail := Or.inl (pm_tin5 _ (List.mem_of_getElem? (i := 108) rfl))
theorem lnX1_266 : pm_Ln RX1 266 mX12_setItem := Or.inr ⟨"ModuleEngine", pm_tin5 _ (List.mem_of_getElem? (i := 133) rfl)⟩
theorem lnX1_280 : pm_Ln RX1 280 mX1_setLabel := Or.inl (pm_tin5 _ (List.mem_of_getElem? (i := 141) rfl))
theorem lnX1_284 : pm_Ln RX1 284 mX1_label := Or.inl (pm_tin5 _ (List.mem_of_getElem? (i := 161) rfl))
theorem lnX1_289 : pm_Ln RX1 289 mX1_take := Or.inl (pm_tin5 _ (List.mem_of_getElem? (i := 179) rfl))
theorem lnX1_292 : pm_Ln RX1 292 mX1_put := Or.inl (pm_tin5 _ (List.mem_of_getElem? (i := 199) rfl))
theorem lnX1_295 : pm_Ln RX1 295 mX1_takeTypes := Or.inl (pm_tin5 _ (List.mem_of_getElem? (i := 187) rfl))
theorem lnX1_298 : pm_Ln RX1 298 mX1_putTypes := Or.inl (pm_tin5 _ (List.mem_of_getElem? (i := 195) rfl))
theorem lnX1_314 : pm_Ln RX1 314 mX1_isEmitting := Or.inl (pm_tin5 _ (List.mem_of_getElem? (i := 157) rfl))
theorem lnX1_318 : pm_Ln RX1 318 mX0_emit := Or.inl (pm_tin5 _ (List.mem_of_getElem? (i := 165) rfl))
theorem lnX1_322 : pm_Ln RX1 322 mX1_emit := Or.inl (pm_tin5 _ (List.mem_of_getElem? (i := 153) rfl))
theorem lnX1_340 : pm_Ln RX1 340 mX1_constantIn := Or.inl (pm_tin6 _ (List.mem_of_getElem? (i := 130) rfl))
theorem lnX1_353 : pm_Ln RX1 353 mX1_emitPlain := Or.inl (pm_tin5 _ (List.mem_of_getElem? (i := 149) rfl))
theorem lnX1_403 : pm_Ln RX1 403 mX0_aim := Or.inl (pm_tin5 _ (List.mem_of_getElem? (i := 231) rfl))
theorem lnX1_418 : pm_Ln RX1 418 mX12_index := Or.inr ⟨"ModuleEngine", pm_tin6 _ (List.mem_of_getElem? (i := 27) rfl)⟩
theorem lnX1_427 : pm_Ln RX1 427 mX1_plain := Or.inl (pm_tin6 _ (List.mem_of_getElem? (i := 49) rfl))
theorem lnX1_431 : pm_Ln RX1 431 mX1_isNumber := Or.inl (pm_tin6 _ (List.mem_of_getElem? (i := 53) rfl))
theorem lnX2_89 : pm_Ln RX2 89 mX0_of := Or.inl (pm_tin8 _ (List.mem_of_getElem? (i := 127) rfl))
theorem lnX2_93 : pm_Ln RX2 93 mX2_isBranch := Or.inl (pm_tin8 _ (List.mem_of_getElem? (i := 128) rfl))
theorem lnX2_97 : pm_Ln RX2 97 mX12_item := Or.inr ⟨"ModuleEngine", pm_tin8 _ (List.mem_of_getElem? (i := 163) rfl)⟩
theorem lnX2_101 : pm_Ln RX2 101 mX12_setItem := Or.inr ⟨"ModuleEngine", pm_tin8 _ (List.mem_of_getElem? (i := 151) rfl)⟩
theorem lnX2_105 : pm_Ln RX2 105 mX2_emit := Or.inl (pm_tin8 _ (List.mem_of_getElem? (i := 147) rfl))
theorem lnX2_108 : pm_Ln RX2 108 mX2_emitMove := Or.inl (pm_tin8 _ (List.mem_of_getElem? (i := 143) rfl))
theorem lnX2_112 : pm_Ln RX2 112 mX2_ownUnseen := Or.inl (pm_tin8 _ (List.mem_of_getElem? (i := 135) rfl))
theorem lnX2_116 : pm_Ln RX2 116 mX2_own := Or.inl (pm_tin8 _ (List.mem_of_getElem? (i := 139) rfl))
theorem lnX2_119 : pm_Ln RX2 119 mX2_ownedFor := Or.inl (pm_tin8 _ (List.mem_of_getElem? (i := 152) rfl))
theorem lnX2_122 : pm_Ln RX2 122 mX2_condition := Or.inl (pm_tin8 _ (List.mem_of_getElem? (i := 155) rfl))
theorem lnX2_126 : pm_Ln RX2 126 mX2_branch := Or.inl (pm_tin8 _ (List.mem_of_getElem? (i := 164) rfl))
theorem lnX2_130 : pm_Ln RX2 130 mX2_heldAt := Or.inl (pm_tin8 _ (List.mem_of_getElem? (i := 159) rfl))
theorem lnX2_133 : pm_Ln RX2 133 mX2_branchByTable := Or.inl (pm_tin8 _ (List.mem_of_getElem? (i := 168) rfl))
theorem lnX2_136 : pm_Ln RX2 136 mX2_calling := Or.inl (pm_tin8 _ (List.mem_of_getElem? (i := 172) rfl))
theorem lnX2_139 : pm_Ln RX2 139 mX2_hold := Or.inl (pm_tin8 _ (List.mem_of_getElem? (i := 176) rfl))
theorem lnX2_142 : pm_Ln RX2 142 mX2_setLocal := Or.inl (pm_tin8 _ (List.mem_of_getElem? (i := 180) rfl))
theorem lnX2_145 : pm_Ln RX2 145 mX2_holdConstant := Or.inl (pm_tin8 _ (List.mem_of_getElem? (i := 184) rfl))
theorem lnX2_148 : pm_Ln RX2 148 mX2_plain := Or.inl (pm_tin8 _ (List.mem_of_getElem? (i := 190) rfl))
theorem lnX2_153 : pm_Ln RX2 153 mX12_setItem_ := Or.inr ⟨"ModuleEngine", pm_tin8 _ (List.mem_of_getElem? (i := 189) rfl)⟩
theorem lnX4_51 : pm_Ln RX4 51 mX12_item := Or.inr ⟨"ModuleEngine", pm_tin6 _ (List.mem_of_getElem? (i := 166) rfl)⟩
theorem lnX4_57 : pm_Ln RX4 57 mX4_numbers := Or.inl (pm_tin6 _ (List.mem_of_getElem? (i := 171) rfl))
theorem lnX5_68 : pm_Ln RX5 68 mX5_clearFrames := Or.inl (pm_tin8 _ (List.mem_of_getElem? (i := 67) rfl))
theorem lnX5_74 : pm_Ln RX5 74 mX5_stop := Or.inl (pm_tin8 _ (List.mem_of_getElem? (i := 63) rfl))
theorem lnX5_81 : pm_Ln RX5 81 mX5_fail := Or.inl (pm_tin8 _ (List.mem_of_getElem? (i := 59) rfl))
theorem lnX5_92 : pm_Ln RX5 92 mX12_item_ := Or.inr ⟨"ModuleEngine", pm_tin8 _ (List.mem_of_getElem? (i := 78) rfl)⟩
theorem lnX5_99 : pm_Ln RX5 99 mX12_setItem_ := Or.inr ⟨"ModuleEngine", pm_tin8 _ (List.mem_of_getElem? (i := 83) rfl)⟩
theorem lnX6_52 : pm_Ln RX6 52 mX12_item := Or.inr ⟨"ModuleEngine", pm_tin7 _ (List.mem_of_getElem? (i := 24) rfl)⟩
theorem lnX6_62 : pm_Ln RX6 62 mX6_pageOf := Or.inl (pm_tin7 _ (List.mem_of_getElem? (i := 224) rfl))
theorem lnX7_65 : pm_Ln RX7 65 mX7_space := Or.inl (pm_tin2 _ (List.mem_of_getElem? (i := 180) rfl))
theorem lnX7_69 : pm_Ln RX7 69 mX7_count := Or.inl (pm_tin5 _ (List.mem_of_getElem? (i := 72) rfl))
theorem lnX7_73 : pm_Ln RX7 73 mX12_item_ := Or.inr ⟨"ModuleEngine", pm_tin5 _ (List.mem_of_getElem? (i := 49) rfl)⟩
theorem lnX8_35 : pm_Ln RX8 35 mJ13_compare_74951 := Or.inl (pm_tin7 _ (List.mem_of_getElem? (i := 57) rfl))
theorem lnX8_74 : pm_Ln RX8 74 mX8_isNone := Or.inl (pm_tin7 _ (List.mem_of_getElem? (i := 70) rfl))
theorem lnX8_78 : pm_Ln RX8 78 mX8_isZero := Or.inl (pm_tin7 _ (List.mem_of_getElem? (i := 77) rfl))
theorem lnX8_81 : pm_Ln RX8 81 mX8_order := Or.inl (pm_tin7 _ (List.mem_of_getElem? (i := 80) rfl))
theorem lnX8_84 : pm_Ln RX8 84 mX8_divide32 := Or.inl (pm_tin7 _ (List.mem_of_getElem? (i := 89) rfl))
theorem lnX8_87 : pm_Ln RX8 87 mJ6_numberOfLeadingZeros_0f7a4 := Or.inl (pm_tin7 _ (List.mem_of_getElem? (i := 95) rfl))
theorem lnX8_92 : pm_Ln RX8 92 mJ6_numberOfTrailingZeros_0f7a4 := Or.inl (pm_tin7 _ (List.mem_of_getElem? (i := 99) rfl))
theorem lnX8_95 : pm_Ln RX8 95 mJ6_bitCount_0f7a4 := Or.inl (pm_tin7 _ (List.mem_of_getElem? (i := 102) rfl))
theorem lnX8_99 : pm_Ln RX8 99 mX8_divide64 := Or.inl (pm_tin7 _ (List.mem_of_getElem? (i := 112) rfl))
theorem lnX8_102 : pm_Ln RX8 102 mJ13_numberOfLeadingZeros_95d88 := Or.inl (pm_tin7 _ (List.mem_of_getElem? (i := 119) rfl))
theorem lnX8_105 : pm_Ln RX8 105 mJ13_numberOfTrailingZeros_95d88 := Or.inl (pm_tin7 _ (List.mem_of_getElem? (i := 123) rfl))
theorem lnX8_107 : pm_Ln RX8 107 mJ13_bitCount_95d88 := Or.inl (pm_tin7 _ (List.mem_of_getElem? (i := 127) rfl))
theorem lnX8_109 : pm_Ln RX8 109 mX8_quotientWithoutSign := Or.inl (pm_tin7 _ (List.mem_of_getElem? (i := 116) rfl))
theorem lnX9_23 : pm_Ln RX9 23 mX9_open := Or.inl (pm_tin4 _ (List.mem_of_getElem? (i := 43) rfl))
theorem lnX9_43 : pm_Ln RX9 43 mX9_next := Or.inl (pm_tin4 _ (List.mem_of_getElem? (i := 49) rfl))
theorem lnX9_47 : pm_Ln RX9 47 mX9_fail := Or.inl (pm_tin4 _ (List.mem_of_getElem? (i := 53) rfl))
theorem lnX9_70 : pm_Ln RX9 70 mX7_count := Or.inl (pm_tin4 _ (List.mem_of_getElem? (i := 118) rfl))
theorem lnX9_74 : pm_Ln RX9 74 mX7_imported := Or.inl (pm_tin5 _ (List.mem_of_getElem? (i := 21) rfl))
theorem lnX9_101 : pm_Ln RX9 101 mX9_isValue := Or.inl (pm_tin4 _ (List.mem_of_getElem? (i := 142) rfl))
theorem lnX9_105 : pm_Ln RX9 105 mX9_isReference := Or.inl (pm_tin4 _ (List.mem_of_getElem? (i := 173) rfl))
theorem lnX10_89 : pm_Ln RX10 89 mX10_bodyOf := Or.inl (pm_tin6 _ (List.mem_of_getElem? (i := 197) rfl))
theorem lnX10_104 : pm_Ln RX10 104 mX12_item := Or.inr ⟨"ModuleEngine", pm_tin6 _ (List.mem_of_getElem? (i := 187) rfl)⟩
theorem lnX10_112 : pm_Ln RX10 112 mX12_item_ := Or.inr ⟨"ModuleEngine", pm_tin6 _ (List.mem_of_getElem? (i := 192) rfl)⟩
theorem lnX10_147 : pm_Ln RX10 147 mX7_count := Or.inl (pm_tin6 _ (List.mem_of_getElem? (i := 212) rfl))
theorem lnX10_151 : pm_Ln RX10 151 mX7_imported := Or.inl (pm_tin6 _ (List.mem_of_getElem? (i := 213) rfl))
theorem lnX10_162 : pm_Ln RX10 162 mX10_leastInAll := Or.inl (pm_tin6 _ (List.mem_of_getElem? (i := 214) rfl))
theorem lnX10_174 : pm_Ln RX10 174 mX7_of := Or.inl (pm_tin6 _ (List.mem_of_getElem? (i := 217) rfl))
theorem lnX10_326 : pm_Ln RX10 326 mX11_reaches := Or.inl (pm_tin8 _ (List.mem_of_getElem? (i := 27) rfl))
theorem lnX10_327 : pm_Ln RX10 327 mX11_entry := Or.inl (pm_tin8 _ (List.mem_of_getElem? (i := 53) rfl))
theorem lnX10_330 : pm_Ln RX10 330 mX11_setEntry := Or.inl (pm_tin8 _ (List.mem_of_getElem? (i := 54) rfl))
theorem lnX11_45 : pm_Ln RX11 45 mX12_item := Or.inr ⟨"ModuleEngine", pm_tin6 _ (List.mem_of_getElem? (i := 238) rfl)⟩
theorem lnX11_76 : pm_Ln RX11 76 mX11_setEntry := Or.inl (pm_tin8 _ (List.mem_of_getElem? (i := 35) rfl))
theorem lnX11_80 : pm_Ln RX11 80 mX11_entry := Or.inl (pm_tin8 _ (List.mem_of_getElem? (i := 43) rfl))
theorem lnX16_211 : pm_Ln RX16 211 mX16_puts := Or.inl (pm_tin11 _ (List.mem_of_getElem? (i := 13) rfl))
theorem lnX16_261 : pm_Ln RX16 261 mX14_at := Or.inl (pm_tin12 _ (List.mem_of_getElem? (i := 36) rfl))
theorem lnX16_270 : pm_Ln RX16 270 mX16_isReference := Or.inl (pm_tin12 _ (List.mem_of_getElem? (i := 90) rfl))
theorem lnX16_274 : pm_Ln RX16 274 mX16_isType := Or.inl (pm_tin12 _ (List.mem_of_getElem? (i := 87) rfl))
theorem lnX16_365 : pm_Ln RX16 365 mX16_exceeds := Or.inl (pm_tin12 _ (List.mem_of_getElem? (i := 74) rfl))
theorem lnX16_569 : pm_Ln RX16 569 mX16_hasNumber := Or.inl (pm_tin12 _ (List.mem_of_getElem? (i := 145) rfl))
theorem lnX16_572 : pm_Ln RX16 572 mX16_isAccess := Or.inl (pm_tin12 _ (List.mem_of_getElem? (i := 148) rfl))
theorem lnX16_597 : pm_Ln RX16 597 mX16_signedWord := Or.inl (pm_tin13 _ (List.mem_of_getElem? (i := 16) rfl))
theorem lnX16_600 : pm_Ln RX16 600 mX16_blockWord := Or.inl (pm_tin13 _ (List.mem_of_getElem? (i := 12) rfl))
theorem lnX16_603 : pm_Ln RX16 603 mX16_word := Or.inl (pm_tin12 _ (List.mem_of_getElem? (i := 239) rfl))
theorem lnX16_606 : pm_Ln RX16 606 mX16_passesFurther := Or.inl (pm_tin13 _ (List.mem_of_getElem? (i := 20) rfl))
theorem lnX16_615 : pm_Ln RX16 615 mX14_all := Or.inl (pm_tin12 _ (List.mem_of_getElem? (i := 207) rfl))
theorem lnX16_651 : pm_Ln RX16 651 mX16_declare := Or.inl (pm_tin13 _ (List.mem_of_getElem? (i := 3) rfl))
theorem lnX16_655 : pm_Ln RX16 655 mX16_behind := Or.inl (pm_tin13 _ (List.mem_of_getElem? (i := 8) rfl))
theorem lnX16_658 : pm_Ln RX16 658 mX16_declaresIn := Or.inl (pm_tin12 _ (List.mem_of_getElem? (i := 235) rfl))
theorem lnX16_661 : pm_Ln RX16 661 mX14_typeOfTable := Or.inl (pm_tin13 _ (List.mem_of_getElem? (i := 45) rfl))
theorem lnX16_664 : pm_Ln RX16 664 mX14_imported := Or.inl (pm_tin13 _ (List.mem_of_getElem? (i := 32) rfl))
theorem lnX16_667 : pm_Ln RX16 667 mX14_globalMoves := Or.inl (pm_tin13 _ (List.mem_of_getElem? (i := 33) rfl))
theorem lnX16_670 : pm_Ln RX16 670 mX14_typeOfGlobal := Or.inl (pm_tin13 _ (List.mem_of_getElem? (i := 37) rfl))
theorem lnX16_678 : pm_Ln RX16 678 mX16_parameterAt := Or.inl (pm_tin13 _ (List.mem_of_getElem? (i := 113) rfl))
theorem lnX16_689 : pm_Ln RX16 689 mX16_parametersOf := Or.inl (pm_tin13 _ (List.mem_of_getElem? (i := 109) rfl))
theorem lnX16_698 : pm_Ln RX16 698 mX16_resultsOf := Or.inl (pm_tin13 _ (List.mem_of_getElem? (i := 129) rfl))
theorem lnX16_701 : pm_Ln RX16 701 mX16_resultAt := Or.inl (pm_tin13 _ (List.mem_of_getElem? (i := 134) rfl))
theorem lnX16_728 : pm_Ln RX16 728 mX16_widthOf := Or.inl (pm_tin13 _ (List.mem_of_getElem? (i := 61) rfl))
theorem lnX16_731 : pm_Ln RX16 731 mX16_isNamedFurther := Or.inl (pm_tin13 _ (List.mem_of_getElem? (i := 64) rfl))
theorem lnX16_753 : pm_Ln RX16 753 mX16_operandOf := Or.inl (pm_tin13 _ (List.mem_of_getElem? (i := 76) rfl))
theorem lnX16_756 : pm_Ln RX16 756 mX16_hasTwo := Or.inl (pm_tin13 _ (List.mem_of_getElem? (i := 79) rfl))
theorem lnX16_759 : pm_Ln RX16 759 mX16_resultOf := Or.inl (pm_tin13 _ (List.mem_of_getElem? (i := 90) rfl))
theorem lnX16_793 : pm_Ln RX16 793 mX16_accessType := Or.inl (pm_tin13 _ (List.mem_of_getElem? (i := 174) rfl))
theorem lnX16_803 : pm_Ln RX16 803 mX16_isWhole := Or.inl (pm_tin14 _ (List.mem_of_getElem? (i := 136) rfl))
theorem lnX16_807 : pm_Ln RX16 807 mX16_isReal := Or.inl (pm_tin14 _ (List.mem_of_getElem? (i := 143) rfl))
theorem lnX16_811 : pm_Ln RX16 811 mX16_short32 := Or.inl (pm_tin14 _ (List.mem_of_getElem? (i := 157) rfl))
theorem lnX16_815 : pm_Ln RX16 815 mX16_long64 := Or.inl (pm_tin14 _ (List.mem_of_getElem? (i := 186) rfl))
theorem lnX16_819 : pm_Ln RX16 819 mX16_real := Or.inl (pm_tin14 _ (List.mem_of_getElem? (i := 190) rfl))
theorem lnX16_823 : pm_Ln RX16 823 mX16_turned := Or.inl (pm_tin15 _ (List.mem_of_getElem? (i := 5) rfl))
theorem lnX16_827 : pm_Ln RX16 827 mX16_isBelow := Or.inl (pm_tin14 _ (List.mem_of_getElem? (i := 139) rfl))
theorem lnX16_831 : pm_Ln RX16 831 mX16_zeros := Or.inl (pm_tin14 _ (List.mem_of_getElem? (i := 161) rfl))
theorem lnX16_835 : pm_Ln RX16 835 mX16_ones := Or.inl (pm_tin14 _ (List.mem_of_getElem? (i := 164) rfl))
theorem lnX16_840 : pm_Ln RX16 840 mX16_divided := Or.inl (pm_tin14 _ (List.mem_of_getElem? (i := 168) rfl))
theorem lnX16_844 : pm_Ln RX16 844 mX16_plain := Or.inl (pm_tin14 _ (List.mem_of_getElem? (i := 183) rfl))
theorem lnX16_847 : pm_Ln RX16 847 mX16_traps := Or.inl (pm_tin14 _ (List.mem_of_getElem? (i := 172) rfl))
theorem lnX16_850 : pm_Ln RX16 850 mJ13_divideUnsigned_f86c9 := Or.inl (pm_tin14 _ (List.mem_of_getElem? (i := 176) rfl))
theorem lnX16_854 : pm_Ln RX16 854 mJ13_remainderUnsigned_f86c9 := Or.inl (pm_tin14 _ (List.mem_of_getElem? (i := 180) rfl))
theorem lnX16_865 : pm_Ln RX16 865 mX16_signOf := Or.inl (pm_tin14 _ (List.mem_of_getElem? (i := 154) rfl))
theorem lnX16_868 : pm_Ln RX16 868 mX15_read := Or.inl (pm_tin14 _ (List.mem_of_getElem? (i := 147) rfl))
theorem lnX16_874 : pm_Ln RX16 874 mX16_order := Or.inl (pm_tin14 _ (List.mem_of_getElem? (i := 151) rfl))
theorem lnX16_878 : pm_Ln RX16 878 mX16_length := Or.inl (pm_tin14 _ (List.mem_of_getElem? (i := 210) rfl))
theorem lnX16_882 : pm_Ln RX16 882 mX16_withSign := Or.inl (pm_tin14 _ (List.mem_of_getElem? (i := 204) rfl))
theorem lnX16_888 : pm_Ln RX16 888 mX16_infinite := Or.inl (pm_tin14 _ (List.mem_of_getElem? (i := 214) rfl))
theorem lnX16_891 : pm_Ln RX16 891 mX16_wholeOf := Or.inl (pm_tin14 _ (List.mem_of_getElem? (i := 194) rfl))
theorem lnX16_894 : pm_Ln RX16 894 mX16_root := Or.inl (pm_tin14 _ (List.mem_of_getElem? (i := 219) rfl))
theorem lnX16_897 : pm_Ln RX16 897 mX16_sum := Or.inl (pm_tin14 _ (List.mem_of_getElem? (i := 225) rfl))
theorem lnX16_901 : pm_Ln RX16 901 mX16_product := Or.inl (pm_tin14 _ (List.mem_of_getElem? (i := 232) rfl))
theorem lnX16_904 : pm_Ln RX16 904 mX16_quotient := Or.inl (pm_tin14 _ (List.mem_of_getElem? (i := 237) rfl))
theorem lnX16_907 : pm_Ln RX16 907 mX16_extreme := Or.inl (pm_tin15 _ (List.mem_of_getElem? (i := 1) rfl))
theorem lnX16_910 : pm_Ln RX16 910 mX16_noneOf := Or.inl (pm_tin14 _ (List.mem_of_getElem? (i := 198) rfl))
theorem lnX16_924 : pm_Ln RX16 924 mX16_rounded := Or.inl (pm_tin14 _ (List.mem_of_getElem? (i := 207) rfl))
theorem lnX16_932 : pm_Ln RX16 932 mX16_sumOf := Or.inl (pm_tin14 _ (List.mem_of_getElem? (i := 229) rfl))
theorem lnX16_938 : pm_Ln RX16 938 mX16_towards := Or.inl (pm_tin15 _ (List.mem_of_getElem? (i := 9) rfl))
theorem lnX16_942 : pm_Ln RX16 942 mX16_ofWhole := Or.inl (pm_tin15 _ (List.mem_of_getElem? (i := 13) rfl))
theorem lnX16_946 : pm_Ln RX16 946 mX16_moved := Or.inl (pm_tin15 _ (List.mem_of_getElem? (i := 16) rfl))
theorem lnX16_952 : pm_Ln RX16 952 mX16_isInstance := Or.inl (pm_tin13 _ (List.mem_of_getElem? (i := 193) rfl))
theorem lnX16_955 : pm_Ln RX16 955 mX16_exportKind := Or.inl (pm_tin13 _ (List.mem_of_getElem? (i := 197) rfl))
theorem lnX16_957 : pm_Ln RX16 957 mX16_thing := Or.inl (pm_tin13 _ (List.mem_of_getElem? (i := 205) rfl))
theorem lnX16_961 : pm_Ln RX16 961 mX16_isExport := Or.inl (pm_tin13 _ (List.mem_of_getElem? (i := 189) rfl))
theorem lnX16_964 : pm_Ln RX16 964 mX16_exported := Or.inl (pm_tin13 _ (List.mem_of_getElem? (i := 201) rfl))
theorem lnX16_973 : pm_Ln RX16 973 mX16_haveSameRows := Or.inl (pm_tin13 _ (List.mem_of_getElem? (i := 221) rfl))
theorem lnX16_986 : pm_Ln RX16 986 mX16_runs := Or.inl (pm_tin13 _ (List.mem_of_getElem? (i := 213) rfl))
theorem lnX16_1005 : pm_Ln RX16 1005 mX16_newFunction := Or.inl (pm_tin13 _ (List.mem_of_getElem? (i := 234) rfl))
theorem lnX16_1009 : pm_Ln RX16 1009 mX16_has := Or.inl (pm_tin13 _ (List.mem_of_getElem? (i := 238) rfl))
theorem lnX16_1013 : pm_Ln RX16 1013 mX16_grows := Or.inl (pm_tin14 _ (List.mem_of_getElem? (i := 6) rfl))
theorem lnX16_1017 : pm_Ln RX16 1017 mX16_growsPages := Or.inl (pm_tin14 _ (List.mem_of_getElem? (i := 10) rfl))
theorem lnX16_1020 : pm_Ln RX16 1020 mX16_constant := Or.inl (pm_tin14 _ (List.mem_of_getElem? (i := 14) rfl))
theorem lnX16_1024 : pm_Ln RX16 1024 mX16_takesElement := Or.inl (pm_tin14 _ (List.mem_of_getElem? (i := 22) rfl))
theorem lnX16_1027 : pm_Ln RX16 1027 mX16_bytesAt := Or.inl (pm_tin14 _ (List.mem_of_getElem? (i := 18) rfl))
theorem lnX16_1030 : pm_Ln RX16 1030 mX16_copiesElement := Or.inl (pm_tin14 _ (List.mem_of_getElem? (i := 30) rfl))
theorem lnX16_1034 : pm_Ln RX16 1034 mX16_failsAtOnce := Or.inl (pm_tin14 _ (List.mem_of_getElem? (i := 34) rfl))
theorem lnX16_1037 : pm_Ln RX16 1037 mX16_dropped := Or.inl (pm_tin14 _ (List.mem_of_getElem? (i := 38) rfl))
theorem lnX16_1040 : pm_Ln RX16 1040 mX16_copiesData := Or.inl (pm_tin14 _ (List.mem_of_getElem? (i := 42) rfl))
theorem lnX16_1043 : pm_Ln RX16 1043 mX16_calls := Or.inl (pm_tin14 _ (List.mem_of_getElem? (i := 55) rfl))
theorem lnX16_1055 : pm_Ln RX16 1055 mX16_sets := Or.inl (pm_tin14 _ (List.mem_of_getElem? (i := 46) rfl))
theorem lnX16_1061 : pm_Ln RX16 1061 mX16_placeOf := Or.inl (pm_tin14 _ (List.mem_of_getElem? (i := 50) rfl))
theorem lnX16_1065 : pm_Ln RX16 1065 mX16_planOf := Or.inl (pm_tin14 _ (List.mem_of_getElem? (i := 67) rfl))
theorem lnX16_1074 : pm_Ln RX16 1074 mX16_exportedAs := Or.inl (pm_tin14 _ (List.mem_of_getElem? (i := 103) rfl))
theorem lnX16_1077 : pm_Ln RX16 1077 mX16_parametersIn := Or.inl (pm_tin14 _ (List.mem_of_getElem? (i := 63) rfl))
theorem lnX16_1080 : pm_Ln RX16 1080 mX16_areSuch := Or.inl (pm_tin14 _ (List.mem_of_getElem? (i := 107) rfl))
theorem lnX16_1083 : pm_Ln RX16 1083 mX16_held := Or.inl (pm_tin14 _ (List.mem_of_getElem? (i := 112) rfl))
theorem lnX16_1089 : pm_Ln RX16 1089 mX16_enters := Or.inl (pm_tin14 _ (List.mem_of_getElem? (i := 59) rfl))
theorem lnX16_1092 : pm_Ln RX16 1092 mX16_goesOn := Or.inl (pm_tin14 _ (List.mem_of_getElem? (i := 79) rfl))
theorem lnX16_1101 : pm_Ln RX16 1101 mX16_counts := Or.inl (pm_tin14 _ (List.mem_of_getElem? (i := 71) rfl))
theorem lnX16_1113 : pm_Ln RX16 1113 mX16_opens := Or.inl (pm_tin14 _ (List.mem_of_getElem? (i := 75) rfl))
theorem lnX16_1123 : pm_Ln RX16 1123 mX16_opensBlock := Or.inl (pm_tin14 _ (List.mem_of_getElem? (i := 83) rfl))
theorem lnX16_1126 : pm_Ln RX16 1126 mX16_closes := Or.inl (pm_tin14 _ (List.mem_of_getElem? (i := 87) rfl))
theorem lnX16_1129 : pm_Ln RX16 1129 mX16_resultsIn := Or.inl (pm_tin14 _ (List.mem_of_getElem? (i := 91) rfl))
theorem lnX16_1133 : pm_Ln RX16 1133 mX16_step := Or.inl (pm_tin14 _ (List.mem_of_getElem? (i := 120) rfl))
theorem lnX16_1136 : pm_Ln RX16 1136 mX16_push := Or.inl (pm_tin15 _ (List.mem_of_getElem? (i := 24) rfl))
theorem lnX16_1139 : pm_Ln RX16 1139 mX16_operator := Or.inl (pm_tin14 _ (List.mem_of_getElem? (i := 124) rfl))
theorem lnX16_1142 : pm_Ln RX16 1142 mX16_turns := Or.inl (pm_tin15 _ (List.mem_of_getElem? (i := 28) rfl))
theorem lnX16_1145 : pm_Ln RX16 1145 mX16_moves := Or.inl (pm_tin15 _ (List.mem_of_getElem? (i := 48) rfl))
theorem lnX16_1148 : pm_Ln RX16 1148 mX16_accesses1 := Or.inl (pm_tin15 _ (List.mem_of_getElem? (i := 56) rfl))
theorem lnX16_1151 : pm_Ln RX16 1151 mX16_furtherStep := Or.inl (pm_tin15 _ (List.mem_of_getElem? (i := 64) rfl))
theorem lnX16_1154 : pm_Ln RX16 1154 mX16_others := Or.inl (pm_tin15 _ (List.mem_of_getElem? (i := 76) rfl))
theorem lnX16_1157 : pm_Ln RX16 1157 mX16_pop := Or.inl (pm_tin14 _ (List.mem_of_getElem? (i := 128) rfl))
theorem lnX16_1160 : pm_Ln RX16 1160 mX16_reckons := Or.inl (pm_tin14 _ (List.mem_of_getElem? (i := 132) rfl))
theorem lnX16_1163 : pm_Ln RX16 1163 mX16_endsBy := Or.inl (pm_tin15 _ (List.mem_of_getElem? (i := 20) rfl))
theorem lnX16_1167 : pm_Ln RX16 1167 mX16_opensIf := Or.inl (pm_tin15 _ (List.mem_of_getElem? (i := 32) rfl))
theorem lnX16_1170 : pm_Ln RX16 1170 mX16_branches := Or.inl (pm_tin15 _ (List.mem_of_getElem? (i := 36) rfl))
theorem lnX16_1173 : pm_Ln RX16 1173 mX16_invokes := Or.inl (pm_tin15 _ (List.mem_of_getElem? (i := 40) rfl))
theorem lnX16_1176 : pm_Ln RX16 1176 mX16_invokesEntry := Or.inl (pm_tin15 _ (List.mem_of_getElem? (i := 44) rfl))
theorem lnX16_1179 : pm_Ln RX16 1179 mX16_entry := Or.inl (pm_tin15 _ (List.mem_of_getElem? (i := 52) rfl))
theorem lnX16_1182 : pm_Ln RX16 1182 mX16_gets := Or.inl (pm_tin15 _ (List.mem_of_getElem? (i := 60) rfl))
theorem lnX16_1185 : pm_Ln RX16 1185 mX16_stretches := Or.inl (pm_tin15 _ (List.mem_of_getElem? (i := 68) rfl))
theorem lnX16_1188 : pm_Ln RX16 1188 mX16_tablesStep := Or.inl (pm_tin15 _ (List.mem_of_getElem? (i := 72) rfl))
theorem lnX14_193 : pm_Ln RX14 193 mX14_imported := Or.inl (pm_tin12 _ (List.mem_of_getElem? (i := 211) rfl))
theorem lnX14_197 : pm_Ln RX14 197 mX14_importOf := Or.inl (pm_tin12 _ (List.mem_of_getElem? (i := 227) rfl))
theorem lnJ13_308 : pm_Ln RJ13 308 mJ6_numberOfLeadingZeros_0f7a4 := Or.inl (pm_tin7 _ (List.mem_of_getElem? (i := 122) rfl))
theorem lnJ13_311 : pm_Ln RJ13 311 mJ6_numberOfTrailingZeros_0f7a4 := Or.inl (pm_tin7 _ (List.mem_of_getElem? (i := 126) rfl))
theorem flX12_10 : pm_F RX12 10 12 0 := ⟨pm_Cl12, by decide, Or.inl (pm_tin3 _ (List.mem_of_getElem? (i := 201) rfl))⟩
theorem flX12_20 : pm_F RX12 20 12 12 := ⟨pm_Cl12, by decide, Or.inl (pm_tin3 _ (List.mem_of_getElem? (i := 213) rfl))⟩
theorem flX12_24 : pm_F RX12 24 12 14 := ⟨pm_Cl12, by decide, Or.inl (pm_tin3 _ (List.mem_of_getElem? (i := 215) rfl))⟩
theorem flX12_52 : pm_F RX12 52 12 10 := ⟨pm_Cl12, by decide, Or.inl (pm_tin3 _ (List.mem_of_getElem? (i := 211) rfl))⟩
theorem flX12_61 : pm_F RX12 61 12 11 := ⟨pm_Cl12, by decide, Or.inl (pm_tin3 _ (List.mem_of_getElem? (i := 212) rfl))⟩
theorem flX12_65 : pm_F RX12 65 12 2 := ⟨pm_Cl12, by decide, Or.inl (pm_tin3 _ (List.mem_of_getElem? (i := 203) rfl))⟩
theorem flX12_70 : pm_F RX12 70 12 1 := ⟨pm_Cl12, by decide, Or.inl (pm_tin3 _ (List.mem_of_getElem? (i := 202) rfl))⟩
theorem flX12_77 : pm_F RX12 77 12 4 := ⟨pm_Cl12, by decide, Or.inl (pm_tin3 _ (List.mem_of_getElem? (i := 205) rfl))⟩
theorem flX12_86 : pm_F RX12 86 12 5 := ⟨pm_Cl12, by decide, Or.inl (pm_tin3 _ (List.mem_of_getElem? (i := 206) rfl))⟩
theorem flX12_106 : pm_F RX12 106 12 6 := ⟨pm_Cl12, by decide, Or.inl (pm_tin3 _ (List.mem_of_getElem? (i := 207) rfl))⟩
theorem flX12_112 : pm_F RX12 112 12 7 := ⟨pm_Cl12, by decide, Or.inl (pm_tin3 _ (List.mem_of_getElem? (i := 208) rfl))⟩
theorem flX12_132 : pm_F RX12 132 12 13 := ⟨pm_Cl12, by decide, Or.inl (pm_tin3 _ (List.mem_of_getElem? (i := 214) rfl))⟩
theorem flX12_188 : pm_F RX12 188 10 3 := ⟨pm_Cl10, by decide, Or.inl (pm_tin2 _ (List.mem_of_getElem? (i := 230) rfl))⟩
theorem flX12_191 : pm_F RX12 191 12 15 := ⟨pm_Cl12, by decide, Or.inl (pm_tin3 _ (List.mem_of_getElem? (i := 216) rfl))⟩
theorem flX12_208 : pm_F RX12 208 5 0 := ⟨pm_Cl5, by decide, Or.inl (pm_tin3 _ (List.mem_of_getElem? (i := 148) rfl))⟩
theorem flX12_211 : pm_F RX12 211 5 4 := ⟨pm_Cl5, by decide, Or.inl (pm_tin3 _ (List.mem_of_getElem? (i := 156) rfl))⟩
theorem flX12_218 : pm_F RX12 218 10 1 := ⟨pm_Cl10, by decide, Or.inl (pm_tin2 _ (List.mem_of_getElem? (i := 226) rfl))⟩
theorem flX12_227 : pm_F RX12 227 5 1 := ⟨pm_Cl5, by decide, Or.inl (pm_tin3 _ (List.mem_of_getElem? (i := 150) rfl))⟩
theorem flX12_230 : pm_F RX12 230 5 2 := ⟨pm_Cl5, by decide, Or.inl (pm_tin3 _ (List.mem_of_getElem? (i := 152) rfl))⟩
theorem flX12_233 : pm_F RX12 233 5 3 := ⟨pm_Cl5, by decide, Or.inl (pm_tin3 _ (List.mem_of_getElem? (i := 154) rfl))⟩
theorem flX12_239 : pm_F RX12 239 10 5 := ⟨pm_Cl10, by decide, Or.inl (pm_tin2 _ (List.mem_of_getElem? (i := 235) rfl))⟩
theorem flX12_243 : pm_F RX12 243 6 1 := ⟨pm_Cl6, by decide, Or.inl (pm_tin2 _ (List.mem_of_getElem? (i := 139) rfl))⟩
theorem flX12_248 : pm_F RX12 248 10 4 := ⟨pm_Cl10, by decide, Or.inl (pm_tin2 _ (List.mem_of_getElem? (i := 232) rfl))⟩
theorem flX12_252 : pm_F RX12 252 11 1 := ⟨pm_Cl11, by decide, Or.inl (pm_tin2 _ (List.mem_of_getElem? (i := 105) rfl))⟩
theorem flX12_255 : pm_F RX12 255 10 2 := ⟨pm_Cl10, by decide, Or.inl (pm_tin2 _ (List.mem_of_getElem? (i := 228) rfl))⟩
theorem flX12_258 : pm_F RX12 258 5 7 := ⟨pm_Cl5, by decide, Or.inl (pm_tin3 _ (List.mem_of_getElem? (i := 162) rfl))⟩
theorem flX12_261 : pm_F RX12 261 5 6 := ⟨pm_Cl5, by decide, Or.inl (pm_tin3 _ (List.mem_of_getElem? (i := 160) rfl))⟩
theorem flX12_267 : pm_F RX12 267 5 5 := ⟨pm_Cl5, by decide, Or.inl (pm_tin3 _ (List.mem_of_getElem? (i := 158) rfl))⟩
theorem flX12_270 : pm_F RX12 270 11 3 := ⟨pm_Cl11, by decide, Or.inl (pm_tin2 _ (List.mem_of_getElem? (i := 110) rfl))⟩
theorem flX12_273 : pm_F RX12 273 6 2 := ⟨pm_Cl6, by decide, Or.inl (pm_tin2 _ (List.mem_of_getElem? (i := 142) rfl))⟩
theorem flX12_274 : pm_F RX12 274 10 6 := ⟨pm_Cl10, by decide, Or.inl (pm_tin2 _ (List.mem_of_getElem? (i := 237) rfl))⟩
theorem flX12_295 : pm_F RX12 295 10 7 := ⟨pm_Cl10, by decide, Or.inl (pm_tin2 _ (List.mem_of_getElem? (i := 239) rfl))⟩
theorem flX0_29 : pm_F RX0 29 0 1 := ⟨pm_Cl0, by decide, Or.inl (pm_tin1 _ (List.mem_of_getElem? (i := 231) rfl))⟩
theorem flX0_32 : pm_F RX0 32 0 2 := ⟨pm_Cl0, by decide, Or.inl (pm_tin1 _ (List.mem_of_getElem? (i := 233) rfl))⟩
theorem flX1_9 : pm_F RX1 9 1 4 := ⟨pm_Cl1, by decide, Or.inl (pm_tin2 _ (List.mem_of_getElem? (i := 37) rfl))⟩
theorem flX1_15 : pm_F RX1 15 1 5 := ⟨pm_Cl1, by decide, Or.inl (pm_tin2 _ (List.mem_of_getElem? (i := 38) rfl))⟩
theorem flX1_19 : pm_F RX1 19 1 9 := ⟨pm_Cl1, by decide, Or.inl (pm_tin2 _ (List.mem_of_getElem? (i := 42) rfl))⟩
theorem flX1_22 : pm_F RX1 22 1 11 := ⟨pm_Cl1, by decide, Or.inl (pm_tin2 _ (List.mem_of_getElem? (i := 44) rfl))⟩
theorem flX1_36 : pm_F RX1 36 1 3 := ⟨pm_Cl1, by decide, Or.inl (pm_tin2 _ (List.mem_of_getElem? (i := 36) rfl))⟩
theorem flX1_40 : pm_F RX1 40 1 2 := ⟨pm_Cl1, by decide, Or.inl (pm_tin2 _ (List.mem_of_getElem? (i := 35) rfl))⟩
theorem flX1_49 : pm_F RX1 49 1 17 := ⟨pm_Cl1, by decide, Or.inl (pm_tin2 _ (List.mem_of_getElem? (i := 50) rfl))⟩
theorem flX1_53 : pm_F RX1 53 1 0 := ⟨pm_Cl1, by decide, Or.inl (pm_tin2 _ (List.mem_of_getElem? (i := 31) rfl))⟩
theorem flX1_57 : pm_F RX1 57 1 1 := ⟨pm_Cl1, by decide, Or.inl (pm_tin2 _ (List.mem_of_getElem? (i := 33) rfl))⟩
theorem flX1_97 : pm_F RX1 97 9 7 := ⟨pm_Cl9, by decide, Or.inl (pm_tin1 _ (List.mem_of_getElem? (i := 154) rfl))⟩
theorem flX1_102 : pm_F RX1 102 7 1 := ⟨pm_Cl7, by decide, Or.inl (pm_tin1 _ (List.mem_of_getElem? (i := 57) rfl))⟩
theorem flX1_109 : pm_F RX1 109 7 3 := ⟨pm_Cl7, by decide, Or.inl (pm_tin1 _ (List.mem_of_getElem? (i := 63) rfl))⟩
theorem flX1_116 : pm_F RX1 116 7 2 := ⟨pm_Cl7, by decide, Or.inl (pm_tin1 _ (List.mem_of_getElem? (i := 60) rfl))⟩
theorem flX1_133 : pm_F RX1 133 7 5 := ⟨pm_Cl7, by decide, Or.inl (pm_tin1 _ (List.mem_of_getElem? (i := 68) rfl))⟩
theorem flX1_136 : pm_F RX1 136 7 6 := ⟨pm_Cl7, by decide, Or.inl (pm_tin1 _ (List.mem_of_getElem? (i := 70) rfl))⟩
theorem flX1_143 : pm_F RX1 143 7 8 := ⟨pm_Cl7, by decide, Or.inl (pm_tin1 _ (List.mem_of_getElem? (i := 75) rfl))⟩
theorem flX1_158 : pm_F RX1 158 7 0 := ⟨pm_Cl7, by decide, Or.inl (pm_tin1 _ (List.mem_of_getElem? (i := 54) rfl))⟩
theorem flX1_178 : pm_F RX1 178 7 9 := ⟨pm_Cl7, by decide, Or.inl (pm_tin1 _ (List.mem_of_getElem? (i := 80) rfl))⟩
theorem flX1_185 : pm_F RX1 185 7 10 := ⟨pm_Cl7, by decide, Or.inl (pm_tin1 _ (List.mem_of_getElem? (i := 86) rfl))⟩
theorem flX1_191 : pm_F RX1 191 9 6 := ⟨pm_Cl9, by decide, Or.inl (pm_tin1 _ (List.mem_of_getElem? (i := 151) rfl))⟩
theorem flX1_201 : pm_F RX1 201 9 8 := ⟨pm_Cl9, by decide, Or.inl (pm_tin1 _ (List.mem_of_getElem? (i := 156) rfl))⟩
theorem flX1_214 : pm_F RX1 214 1 6 := ⟨pm_Cl1, by decide, Or.inl (pm_tin2 _ (List.mem_of_getElem? (i := 39) rfl))⟩
theorem flX1_220 : pm_F RX1 220 1 10 := ⟨pm_Cl1, by decide, Or.inl (pm_tin2 _ (List.mem_of_getElem? (i := 43) rfl))⟩
theorem flX1_227 : pm_F RX1 227 1 7 := ⟨pm_Cl1, by decide, Or.inl (pm_tin2 _ (List.mem_of_getElem? (i := 40) rfl))⟩
theorem flX1_242 : pm_F RX1 242 1 12 := ⟨pm_Cl1, by decide, Or.inl (pm_tin2 _ (List.mem_of_getElem? (i := 45) rfl))⟩
theorem flX1_325 : pm_F RX1 325 9 9 := ⟨pm_Cl9, by decide, Or.inl (pm_tin1 _ (List.mem_of_getElem? (i := 160) rfl))⟩
theorem flX1_391 : pm_F RX1 391 0 2 := ⟨pm_Cl0, by decide, Or.inl (pm_tin1 _ (List.mem_of_getElem? (i := 235) rfl))⟩
theorem flX2_16 : pm_F RX2 16 2 3 := ⟨pm_Cl2, by decide, Or.inl (pm_tin3 _ (List.mem_of_getElem? (i := 73) rfl))⟩
theorem flX2_20 : pm_F RX2 20 2 6 := ⟨pm_Cl2, by decide, Or.inl (pm_tin3 _ (List.mem_of_getElem? (i := 76) rfl))⟩
theorem flX2_24 : pm_F RX2 24 2 8 := ⟨pm_Cl2, by decide, Or.inl (pm_tin3 _ (List.mem_of_getElem? (i := 78) rfl))⟩
theorem flX2_27 : pm_F RX2 27 2 9 := ⟨pm_Cl2, by decide, Or.inl (pm_tin3 _ (List.mem_of_getElem? (i := 79) rfl))⟩
theorem flX2_31 : pm_F RX2 31 2 10 := ⟨pm_Cl2, by decide, Or.inl (pm_tin3 _ (List.mem_of_getElem? (i := 80) rfl))⟩
theorem flX2_34 : pm_F RX2 34 2 1 := ⟨pm_Cl2, by decide, Or.inl (pm_tin3 _ (List.mem_of_getElem? (i := 71) rfl))⟩
theorem flX2_44 : pm_F RX2 44 0 2 := ⟨pm_Cl0, by decide, Or.inl (pm_tin1 _ (List.mem_of_getElem? (i := 234) rfl))⟩
theorem flX2_50 : pm_F RX2 50 2 2 := ⟨pm_Cl2, by decide, Or.inl (pm_tin3 _ (List.mem_of_getElem? (i := 72) rfl))⟩
theorem flX2_51 : pm_F RX2 51 2 4 := ⟨pm_Cl2, by decide, Or.inl (pm_tin3 _ (List.mem_of_getElem? (i := 74) rfl))⟩
theorem flX2_54 : pm_F RX2 54 2 7 := ⟨pm_Cl2, by decide, Or.inl (pm_tin3 _ (List.mem_of_getElem? (i := 77) rfl))⟩
theorem flX2_57 : pm_F RX2 57 2 11 := ⟨pm_Cl2, by decide, Or.inl (pm_tin3 _ (List.mem_of_getElem? (i := 81) rfl))⟩
theorem flX2_60 : pm_F RX2 60 2 5 := ⟨pm_Cl2, by decide, Or.inl (pm_tin3 _ (List.mem_of_getElem? (i := 75) rfl))⟩
theorem flX2_63 : pm_F RX2 63 2 12 := ⟨pm_Cl2, by decide, Or.inl (pm_tin3 _ (List.mem_of_getElem? (i := 82) rfl))⟩
theorem flX4_7 : pm_F RX4 7 4 0 := ⟨pm_Cl4, by decide, Or.inl (pm_tin2 _ (List.mem_of_getElem? (i := 185) rfl))⟩
theorem flX4_19 : pm_F RX4 19 4 1 := ⟨pm_Cl4, by decide, Or.inl (pm_tin2 _ (List.mem_of_getElem? (i := 188) rfl))⟩
theorem flX4_23 : pm_F RX4 23 4 2 := ⟨pm_Cl4, by decide, Or.inl (pm_tin2 _ (List.mem_of_getElem? (i := 192) rfl))⟩
theorem flX4_26 : pm_F RX4 26 4 3 := ⟨pm_Cl4, by decide, Or.inl (pm_tin2 _ (List.mem_of_getElem? (i := 195) rfl))⟩
theorem flX4_29 : pm_F RX4 29 4 4 := ⟨pm_Cl4, by decide, Or.inl (pm_tin2 _ (List.mem_of_getElem? (i := 197) rfl))⟩
theorem flX4_48 : pm_F RX4 48 7 8 := ⟨pm_Cl7, by decide, Or.inl (pm_tin1 _ (List.mem_of_getElem? (i := 74) rfl))⟩
theorem flX5_9 : pm_F RX5 9 5 6 := ⟨pm_Cl5, by decide, Or.inl (pm_tin3 _ (List.mem_of_getElem? (i := 159) rfl))⟩
theorem flX5_15 : pm_F RX5 15 5 10 := ⟨pm_Cl5, by decide, Or.inl (pm_tin3 _ (List.mem_of_getElem? (i := 165) rfl))⟩
theorem flX5_51 : pm_F RX5 51 5 12 := ⟨pm_Cl5, by decide, Or.inl (pm_tin3 _ (List.mem_of_getElem? (i := 167) rfl))⟩
theorem flX5_55 : pm_F RX5 55 5 0 := ⟨pm_Cl5, by decide, Or.inl (pm_tin3 _ (List.mem_of_getElem? (i := 147) rfl))⟩
theorem flX5_59 : pm_F RX5 59 5 3 := ⟨pm_Cl5, by decide, Or.inl (pm_tin3 _ (List.mem_of_getElem? (i := 153) rfl))⟩
theorem flX5_62 : pm_F RX5 62 5 13 := ⟨pm_Cl5, by decide, Or.inl (pm_tin3 _ (List.mem_of_getElem? (i := 168) rfl))⟩
theorem flX5_65 : pm_F RX5 65 5 14 := ⟨pm_Cl5, by decide, Or.inl (pm_tin3 _ (List.mem_of_getElem? (i := 169) rfl))⟩
theorem flX5_71 : pm_F RX5 71 5 1 := ⟨pm_Cl5, by decide, Or.inl (pm_tin3 _ (List.mem_of_getElem? (i := 149) rfl))⟩
theorem flX5_78 : pm_F RX5 78 5 2 := ⟨pm_Cl5, by decide, Or.inl (pm_tin3 _ (List.mem_of_getElem? (i := 151) rfl))⟩
theorem flX5_115 : pm_F RX5 115 5 7 := ⟨pm_Cl5, by decide, Or.inl (pm_tin3 _ (List.mem_of_getElem? (i := 161) rfl))⟩
theorem flX5_118 : pm_F RX5 118 3 5 := ⟨pm_Cl3, by decide, Or.inl (pm_tin3 _ (List.mem_of_getElem? (i := 127) rfl))⟩
theorem flX5_121 : pm_F RX5 121 3 7 := ⟨pm_Cl3, by decide, Or.inl (pm_tin3 _ (List.mem_of_getElem? (i := 129) rfl))⟩
theorem flX5_131 : pm_F RX5 131 3 2 := ⟨pm_Cl3, by decide, Or.inl (pm_tin3 _ (List.mem_of_getElem? (i := 124) rfl))⟩
theorem flX5_145 : pm_F RX5 145 3 6 := ⟨pm_Cl3, by decide, Or.inl (pm_tin3 _ (List.mem_of_getElem? (i := 128) rfl))⟩
theorem flX5_148 : pm_F RX5 148 3 1 := ⟨pm_Cl3, by decide, Or.inl (pm_tin3 _ (List.mem_of_getElem? (i := 122) rfl))⟩
theorem flX5_167 : pm_F RX5 167 0 7 := ⟨pm_Cl0, by decide, Or.inl (pm_tin2 _ (List.mem_of_getElem? (i := 8) rfl))⟩
theorem flX5_198 : pm_F RX5 198 3 4 := ⟨pm_Cl3, by decide, Or.inl (pm_tin3 _ (List.mem_of_getElem? (i := 126) rfl))⟩
theorem flX5_216 : pm_F RX5 216 0 5 := ⟨pm_Cl0, by decide, Or.inl (pm_tin2 _ (List.mem_of_getElem? (i := 2) rfl))⟩
theorem flX5_277 : pm_F RX5 277 0 8 := ⟨pm_Cl0, by decide, Or.inl (pm_tin2 _ (List.mem_of_getElem? (i := 11) rfl))⟩
theorem flX6_15 : pm_F RX6 15 6 2 := ⟨pm_Cl6, by decide, Or.inl (pm_tin2 _ (List.mem_of_getElem? (i := 140) rfl))⟩
theorem flX6_25 : pm_F RX6 25 6 4 := ⟨pm_Cl6, by decide, Or.inl (pm_tin2 _ (List.mem_of_getElem? (i := 145) rfl))⟩
theorem flX7_18 : pm_F RX7 18 7 3 := ⟨pm_Cl7, by decide, Or.inl (pm_tin1 _ (List.mem_of_getElem? (i := 62) rfl))⟩
theorem flX7_22 : pm_F RX7 22 7 4 := ⟨pm_Cl7, by decide, Or.inl (pm_tin1 _ (List.mem_of_getElem? (i := 66) rfl))⟩
theorem flX7_25 : pm_F RX7 25 7 5 := ⟨pm_Cl7, by decide, Or.inl (pm_tin1 _ (List.mem_of_getElem? (i := 67) rfl))⟩
theorem flX7_28 : pm_F RX7 28 7 6 := ⟨pm_Cl7, by decide, Or.inl (pm_tin1 _ (List.mem_of_getElem? (i := 69) rfl))⟩
theorem flX7_31 : pm_F RX7 31 7 7 := ⟨pm_Cl7, by decide, Or.inl (pm_tin1 _ (List.mem_of_getElem? (i := 71) rfl))⟩
theorem flX8_31 : pm_F RX8 31 8 0 := ⟨pm_Cl8, by decide, Or.inl (pm_tin2 _ (List.mem_of_getElem? (i := 166) rfl))⟩
theorem flX9_19 : pm_F RX9 19 9 0 := ⟨pm_Cl9, by decide, Or.inl (pm_tin1 _ (List.mem_of_getElem? (i := 140) rfl))⟩
theorem flX9_27 : pm_F RX9 27 9 5 := ⟨pm_Cl9, by decide, Or.inl (pm_tin1 _ (List.mem_of_getElem? (i := 149) rfl))⟩
theorem flX9_31 : pm_F RX9 31 9 12 := ⟨pm_Cl9, by decide, Or.inl (pm_tin1 _ (List.mem_of_getElem? (i := 163) rfl))⟩
theorem flX9_34 : pm_F RX9 34 9 10 := ⟨pm_Cl9, by decide, Or.inl (pm_tin1 _ (List.mem_of_getElem? (i := 161) rfl))⟩
theorem flX9_40 : pm_F RX9 40 9 3 := ⟨pm_Cl9, by decide, Or.inl (pm_tin1 _ (List.mem_of_getElem? (i := 144) rfl))⟩
theorem flX9_51 : pm_F RX9 51 9 1 := ⟨pm_Cl9, by decide, Or.inl (pm_tin1 _ (List.mem_of_getElem? (i := 141) rfl))⟩
theorem flX9_54 : pm_F RX9 54 7 0 := ⟨pm_Cl7, by decide, Or.inl (pm_tin1 _ (List.mem_of_getElem? (i := 53) rfl))⟩
theorem flX9_60 : pm_F RX9 60 9 2 := ⟨pm_Cl9, by decide, Or.inl (pm_tin1 _ (List.mem_of_getElem? (i := 143) rfl))⟩
theorem flX9_63 : pm_F RX9 63 9 4 := ⟨pm_Cl9, by decide, Or.inl (pm_tin1 _ (List.mem_of_getElem? (i := 147) rfl))⟩
theorem flX9_66 : pm_F RX9 66 9 16 := ⟨pm_Cl9, by decide, Or.inl (pm_tin1 _ (List.mem_of_getElem? (i := 167) rfl))⟩
theorem flX9_77 : pm_F RX9 77 7 11 := ⟨pm_Cl7, by decide, Or.inl (pm_tin1 _ (List.mem_of_getElem? (i := 88) rfl))⟩
theorem flX9_80 : pm_F RX9 80 7 14 := ⟨pm_Cl7, by decide, Or.inl (pm_tin1 _ (List.mem_of_getElem? (i := 99) rfl))⟩
theorem flX9_84 : pm_F RX9 84 7 10 := ⟨pm_Cl7, by decide, Or.inl (pm_tin1 _ (List.mem_of_getElem? (i := 84) rfl))⟩
theorem flX9_87 : pm_F RX9 87 9 11 := ⟨pm_Cl9, by decide, Or.inl (pm_tin1 _ (List.mem_of_getElem? (i := 162) rfl))⟩
theorem flX10_12 : pm_F RX10 12 10 4 := ⟨pm_Cl10, by decide, Or.inl (pm_tin2 _ (List.mem_of_getElem? (i := 231) rfl))⟩
theorem flX10_21 : pm_F RX10 21 10 5 := ⟨pm_Cl10, by decide, Or.inl (pm_tin2 _ (List.mem_of_getElem? (i := 234) rfl))⟩
theorem flX10_39 : pm_F RX10 39 10 10 := ⟨pm_Cl10, by decide, Or.inl (pm_tin3 _ (List.mem_of_getElem? (i := 2) rfl))⟩
theorem flX10_45 : pm_F RX10 45 10 11 := ⟨pm_Cl10, by decide, Or.inl (pm_tin3 _ (List.mem_of_getElem? (i := 3) rfl))⟩
theorem flX10_49 : pm_F RX10 49 10 12 := ⟨pm_Cl10, by decide, Or.inl (pm_tin3 _ (List.mem_of_getElem? (i := 4) rfl))⟩
theorem flX10_52 : pm_F RX10 52 10 13 := ⟨pm_Cl10, by decide, Or.inl (pm_tin3 _ (List.mem_of_getElem? (i := 5) rfl))⟩
theorem flX10_55 : pm_F RX10 55 10 14 := ⟨pm_Cl10, by decide, Or.inl (pm_tin3 _ (List.mem_of_getElem? (i := 6) rfl))⟩
theorem flX10_58 : pm_F RX10 58 10 15 := ⟨pm_Cl10, by decide, Or.inl (pm_tin3 _ (List.mem_of_getElem? (i := 7) rfl))⟩
theorem flX10_61 : pm_F RX10 61 10 17 := ⟨pm_Cl10, by decide, Or.inl (pm_tin3 _ (List.mem_of_getElem? (i := 9) rfl))⟩
theorem flX10_79 : pm_F RX10 79 10 16 := ⟨pm_Cl10, by decide, Or.inl (pm_tin3 _ (List.mem_of_getElem? (i := 8) rfl))⟩
theorem flX10_86 : pm_F RX10 86 10 3 := ⟨pm_Cl10, by decide, Or.inl (pm_tin2 _ (List.mem_of_getElem? (i := 229) rfl))⟩
theorem flX10_93 : pm_F RX10 93 0 0 := ⟨pm_Cl0, by decide, Or.inl (pm_tin1 _ (List.mem_of_getElem? (i := 227) rfl))⟩
theorem flX10_96 : pm_F RX10 96 10 2 := ⟨pm_Cl10, by decide, Or.inl (pm_tin2 _ (List.mem_of_getElem? (i := 227) rfl))⟩
theorem flX10_144 : pm_F RX10 144 7 12 := ⟨pm_Cl7, by decide, Or.inl (pm_tin1 _ (List.mem_of_getElem? (i := 92) rfl))⟩
theorem flX10_154 : pm_F RX10 154 7 9 := ⟨pm_Cl7, by decide, Or.inl (pm_tin1 _ (List.mem_of_getElem? (i := 79) rfl))⟩
theorem flX10_157 : pm_F RX10 157 10 1 := ⟨pm_Cl10, by decide, Or.inl (pm_tin2 _ (List.mem_of_getElem? (i := 225) rfl))⟩
theorem flX10_160 : pm_F RX10 160 11 0 := ⟨pm_Cl11, by decide, Or.inl (pm_tin2 _ (List.mem_of_getElem? (i := 102) rfl))⟩
theorem flX10_166 : pm_F RX10 166 11 1 := ⟨pm_Cl11, by decide, Or.inl (pm_tin2 _ (List.mem_of_getElem? (i := 104) rfl))⟩
theorem flX10_169 : pm_F RX10 169 6 0 := ⟨pm_Cl6, by decide, Or.inl (pm_tin2 _ (List.mem_of_getElem? (i := 136) rfl))⟩
theorem flX10_170 : pm_F RX10 170 6 1 := ⟨pm_Cl6, by decide, Or.inl (pm_tin2 _ (List.mem_of_getElem? (i := 138) rfl))⟩
theorem flX10_171 : pm_F RX10 171 10 9 := ⟨pm_Cl10, by decide, Or.inl (pm_tin3 _ (List.mem_of_getElem? (i := 1) rfl))⟩
theorem flX10_263 : pm_F RX10 263 10 0 := ⟨pm_Cl10, by decide, Or.inl (pm_tin2 _ (List.mem_of_getElem? (i := 223) rfl))⟩
theorem flX11_17 : pm_F RX11 17 11 3 := ⟨pm_Cl11, by decide, Or.inl (pm_tin2 _ (List.mem_of_getElem? (i := 108) rfl))⟩
theorem flX11_26 : pm_F RX11 26 11 5 := ⟨pm_Cl11, by decide, Or.inl (pm_tin2 _ (List.mem_of_getElem? (i := 113) rfl))⟩
theorem flX16_10 : pm_F RX16 10 16 0 := ⟨pm_Cl16, by decide, Or.inl (pm_tin9 _ (List.mem_of_getElem? (i := 184) rfl))⟩
theorem flX16_16 : pm_F RX16 16 16 4 := ⟨pm_Cl16, by decide, Or.inl (pm_tin9 _ (List.mem_of_getElem? (i := 188) rfl))⟩
theorem flX16_35 : pm_F RX16 35 16 20 := ⟨pm_Cl16, by decide, Or.inl (pm_tin9 _ (List.mem_of_getElem? (i := 204) rfl))⟩
theorem flX16_42 : pm_F RX16 42 16 25 := ⟨pm_Cl16, by decide, Or.inl (pm_tin9 _ (List.mem_of_getElem? (i := 209) rfl))⟩
theorem flX16_45 : pm_F RX16 45 16 26 := ⟨pm_Cl16, by decide, Or.inl (pm_tin9 _ (List.mem_of_getElem? (i := 210) rfl))⟩
theorem flX16_49 : pm_F RX16 49 16 27 := ⟨pm_Cl16, by decide, Or.inl (pm_tin9 _ (List.mem_of_getElem? (i := 211) rfl))⟩
theorem flX16_52 : pm_F RX16 52 16 28 := ⟨pm_Cl16, by decide, Or.inl (pm_tin9 _ (List.mem_of_getElem? (i := 212) rfl))⟩
theorem flX16_61 : pm_F RX16 61 16 34 := ⟨pm_Cl16, by decide, Or.inl (pm_tin9 _ (List.mem_of_getElem? (i := 218) rfl))⟩
theorem flX16_65 : pm_F RX16 65 16 35 := ⟨pm_Cl16, by decide, Or.inl (pm_tin9 _ (List.mem_of_getElem? (i := 219) rfl))⟩
theorem flX16_68 : pm_F RX16 68 16 37 := ⟨pm_Cl16, by decide, Or.inl (pm_tin9 _ (List.mem_of_getElem? (i := 221) rfl))⟩
theorem flX16_71 : pm_F RX16 71 16 38 := ⟨pm_Cl16, by decide, Or.inl (pm_tin9 _ (List.mem_of_getElem? (i := 222) rfl))⟩
theorem flX16_74 : pm_F RX16 74 16 39 := ⟨pm_Cl16, by decide, Or.inl (pm_tin9 _ (List.mem_of_getElem? (i := 223) rfl))⟩
theorem flX16_77 : pm_F RX16 77 16 40 := ⟨pm_Cl16, by decide, Or.inl (pm_tin9 _ (List.mem_of_getElem? (i := 224) rfl))⟩
theorem flX16_80 : pm_F RX16 80 16 41 := ⟨pm_Cl16, by decide, Or.inl (pm_tin9 _ (List.mem_of_getElem? (i := 225) rfl))⟩
theorem flX16_83 : pm_F RX16 83 16 42 := ⟨pm_Cl16, by decide, Or.inl (pm_tin9 _ (List.mem_of_getElem? (i := 226) rfl))⟩
theorem flX16_86 : pm_F RX16 86 16 43 := ⟨pm_Cl16, by decide, Or.inl (pm_tin9 _ (List.mem_of_getElem? (i := 227) rfl))⟩
theorem flX16_89 : pm_F RX16 89 16 47 := ⟨pm_Cl16, by decide, Or.inl (pm_tin9 _ (List.mem_of_getElem? (i := 231) rfl))⟩
theorem flX16_93 : pm_F RX16 93 16 48 := ⟨pm_Cl16, by decide, Or.inl (pm_tin9 _ (List.mem_of_getElem? (i := 232) rfl))⟩
theorem flX16_96 : pm_F RX16 96 16 49 := ⟨pm_Cl16, by decide, Or.inl (pm_tin9 _ (List.mem_of_getElem? (i := 233) rfl))⟩
theorem flX16_99 : pm_F RX16 99 16 50 := ⟨pm_Cl16, by decide, Or.inl (pm_tin9 _ (List.mem_of_getElem? (i := 234) rfl))⟩
theorem flX16_103 : pm_F RX16 103 16 51 := ⟨pm_Cl16, by decide, Or.inl (pm_tin9 _ (List.mem_of_getElem? (i := 235) rfl))⟩
theorem flX16_106 : pm_F RX16 106 16 53 := ⟨pm_Cl16, by decide, Or.inl (pm_tin9 _ (List.mem_of_getElem? (i := 237) rfl))⟩
theorem flX16_109 : pm_F RX16 109 16 54 := ⟨pm_Cl16, by decide, Or.inl (pm_tin9 _ (List.mem_of_getElem? (i := 238) rfl))⟩
theorem flX16_112 : pm_F RX16 112 16 55 := ⟨pm_Cl16, by decide, Or.inl (pm_tin9 _ (List.mem_of_getElem? (i := 239) rfl))⟩
theorem flX16_115 : pm_F RX16 115 16 56 := ⟨pm_Cl16, by decide, Or.inl (pm_tin10 _ (List.mem_of_getElem? (i := 0) rfl))⟩
theorem flX16_119 : pm_F RX16 119 16 57 := ⟨pm_Cl16, by decide, Or.inl (pm_tin10 _ (List.mem_of_getElem? (i := 1) rfl))⟩
theorem flX16_122 : pm_F RX16 122 16 59 := ⟨pm_Cl16, by decide, Or.inl (pm_tin10 _ (List.mem_of_getElem? (i := 3) rfl))⟩
theorem flX16_125 : pm_F RX16 125 16 60 := ⟨pm_Cl16, by decide, Or.inl (pm_tin10 _ (List.mem_of_getElem? (i := 4) rfl))⟩
theorem flX16_128 : pm_F RX16 128 16 61 := ⟨pm_Cl16, by decide, Or.inl (pm_tin10 _ (List.mem_of_getElem? (i := 5) rfl))⟩
theorem flX16_131 : pm_F RX16 131 16 63 := ⟨pm_Cl16, by decide, Or.inl (pm_tin10 _ (List.mem_of_getElem? (i := 7) rfl))⟩
theorem flX16_134 : pm_F RX16 134 16 64 := ⟨pm_Cl16, by decide, Or.inl (pm_tin10 _ (List.mem_of_getElem? (i := 8) rfl))⟩
theorem flX16_137 : pm_F RX16 137 16 65 := ⟨pm_Cl16, by decide, Or.inl (pm_tin10 _ (List.mem_of_getElem? (i := 9) rfl))⟩
theorem flX16_140 : pm_F RX16 140 16 66 := ⟨pm_Cl16, by decide, Or.inl (pm_tin10 _ (List.mem_of_getElem? (i := 10) rfl))⟩
theorem flX16_143 : pm_F RX16 143 16 67 := ⟨pm_Cl16, by decide, Or.inl (pm_tin10 _ (List.mem_of_getElem? (i := 11) rfl))⟩
theorem flX16_146 : pm_F RX16 146 16 68 := ⟨pm_Cl16, by decide, Or.inl (pm_tin10 _ (List.mem_of_getElem? (i := 12) rfl))⟩
theorem flX16_149 : pm_F RX16 149 16 69 := ⟨pm_Cl16, by decide, Or.inl (pm_tin10 _ (List.mem_of_getElem? (i := 13) rfl))⟩
theorem flX16_152 : pm_F RX16 152 16 70 := ⟨pm_Cl16, by decide, Or.inl (pm_tin10 _ (List.mem_of_getElem? (i := 14) rfl))⟩
theorem flX16_155 : pm_F RX16 155 16 72 := ⟨pm_Cl16, by decide, Or.inl (pm_tin10 _ (List.mem_of_getElem? (i := 16) rfl))⟩
theorem flX16_158 : pm_F RX16 158 16 74 := ⟨pm_Cl16, by decide, Or.inl (pm_tin10 _ (List.mem_of_getElem? (i := 18) rfl))⟩
theorem flX16_161 : pm_F RX16 161 16 75 := ⟨pm_Cl16, by decide, Or.inl (pm_tin10 _ (List.mem_of_getElem? (i := 19) rfl))⟩
theorem flX16_164 : pm_F RX16 164 16 79 := ⟨pm_Cl16, by decide, Or.inl (pm_tin10 _ (List.mem_of_getElem? (i := 23) rfl))⟩
theorem flX16_167 : pm_F RX16 167 16 82 := ⟨pm_Cl16, by decide, Or.inl (pm_tin10 _ (List.mem_of_getElem? (i := 26) rfl))⟩
theorem flX16_170 : pm_F RX16 170 16 84 := ⟨pm_Cl16, by decide, Or.inl (pm_tin10 _ (List.mem_of_getElem? (i := 28) rfl))⟩
theorem flX16_173 : pm_F RX16 173 16 86 := ⟨pm_Cl16, by decide, Or.inl (pm_tin10 _ (List.mem_of_getElem? (i := 30) rfl))⟩
theorem flX16_176 : pm_F RX16 176 16 87 := ⟨pm_Cl16, by decide, Or.inl (pm_tin10 _ (List.mem_of_getElem? (i := 31) rfl))⟩
theorem flX16_179 : pm_F RX16 179 16 88 := ⟨pm_Cl16, by decide, Or.inl (pm_tin10 _ (List.mem_of_getElem? (i := 32) rfl))⟩
theorem flX16_182 : pm_F RX16 182 16 89 := ⟨pm_Cl16, by decide, Or.inl (pm_tin10 _ (List.mem_of_getElem? (i := 33) rfl))⟩
theorem flX16_185 : pm_F RX16 185 16 90 := ⟨pm_Cl16, by decide, Or.inl (pm_tin10 _ (List.mem_of_getElem? (i := 34) rfl))⟩
theorem flX16_188 : pm_F RX16 188 16 91 := ⟨pm_Cl16, by decide, Or.inl (pm_tin10 _ (List.mem_of_getElem? (i := 35) rfl))⟩
theorem flX16_191 : pm_F RX16 191 16 92 := ⟨pm_Cl16, by decide, Or.inl (pm_tin10 _ (List.mem_of_getElem? (i := 36) rfl))⟩
theorem flX16_195 : pm_F RX16 195 16 97 := ⟨pm_Cl16, by decide, Or.inl (pm_tin10 _ (List.mem_of_getElem? (i := 41) rfl))⟩
theorem flX16_198 : pm_F RX16 198 16 98 := ⟨pm_Cl16, by decide, Or.inl (pm_tin10 _ (List.mem_of_getElem? (i := 42) rfl))⟩
theorem flX16_201 : pm_F RX16 201 16 99 := ⟨pm_Cl16, by decide, Or.inl (pm_tin10 _ (List.mem_of_getElem? (i := 43) rfl))⟩
theorem flX16_204 : pm_F RX16 204 16 100 := ⟨pm_Cl16, by decide, Or.inl (pm_tin10 _ (List.mem_of_getElem? (i := 44) rfl))⟩
theorem flX16_207 : pm_F RX16 207 16 2 := ⟨pm_Cl16, by decide, Or.inl (pm_tin9 _ (List.mem_of_getElem? (i := 186) rfl))⟩
theorem flX16_215 : pm_F RX16 215 16 1 := ⟨pm_Cl16, by decide, Or.inl (pm_tin9 _ (List.mem_of_getElem? (i := 185) rfl))⟩
theorem flX16_218 : pm_F RX16 218 16 3 := ⟨pm_Cl16, by decide, Or.inl (pm_tin9 _ (List.mem_of_getElem? (i := 187) rfl))⟩
theorem flX16_221 : pm_F RX16 221 16 10 := ⟨pm_Cl16, by decide, Or.inl (pm_tin9 _ (List.mem_of_getElem? (i := 194) rfl))⟩
theorem flX16_232 : pm_F RX16 232 14 0 := ⟨pm_Cl14, by decide, Or.inr ⟨"ModuleEngineModel", pm_tin11 _ (List.mem_of_getElem? (i := 28) rfl)⟩⟩
theorem flX16_235 : pm_F RX16 235 16 6 := ⟨pm_Cl16, by decide, Or.inl (pm_tin9 _ (List.mem_of_getElem? (i := 190) rfl))⟩
theorem flX16_239 : pm_F RX16 239 16 7 := ⟨pm_Cl16, by decide, Or.inl (pm_tin9 _ (List.mem_of_getElem? (i := 191) rfl))⟩
theorem flX16_242 : pm_F RX16 242 16 8 := ⟨pm_Cl16, by decide, Or.inl (pm_tin9 _ (List.mem_of_getElem? (i := 192) rfl))⟩
theorem flX16_305 : pm_F RX16 305 16 13 := ⟨pm_Cl16, by decide, Or.inl (pm_tin9 _ (List.mem_of_getElem? (i := 197) rfl))⟩
theorem flX16_348 : pm_F RX16 348 14 33 := ⟨pm_Cl14, by decide, Or.inr ⟨"ModuleEngineModel", pm_tin11 _ (List.mem_of_getElem? (i := 94) rfl)⟩⟩
theorem flX16_360 : pm_F RX16 360 14 3 := ⟨pm_Cl14, by decide, Or.inr ⟨"ModuleEngineModel", pm_tin11 _ (List.mem_of_getElem? (i := 34) rfl)⟩⟩
theorem flX16_374 : pm_F RX16 374 14 7 := ⟨pm_Cl14, by decide, Or.inr ⟨"ModuleEngineModel", pm_tin11 _ (List.mem_of_getElem? (i := 42) rfl)⟩⟩
theorem flX16_381 : pm_F RX16 381 14 4 := ⟨pm_Cl14, by decide, Or.inr ⟨"ModuleEngineModel", pm_tin11 _ (List.mem_of_getElem? (i := 36) rfl)⟩⟩
theorem flX16_387 : pm_F RX16 387 14 5 := ⟨pm_Cl14, by decide, Or.inr ⟨"ModuleEngineModel", pm_tin11 _ (List.mem_of_getElem? (i := 38) rfl)⟩⟩
theorem flX16_390 : pm_F RX16 390 14 6 := ⟨pm_Cl14, by decide, Or.inr ⟨"ModuleEngineModel", pm_tin11 _ (List.mem_of_getElem? (i := 40) rfl)⟩⟩
theorem flX16_411 : pm_F RX16 411 14 9 := ⟨pm_Cl14, by decide, Or.inr ⟨"ModuleEngineModel", pm_tin11 _ (List.mem_of_getElem? (i := 46) rfl)⟩⟩
theorem flX16_414 : pm_F RX16 414 14 10 := ⟨pm_Cl14, by decide, Or.inr ⟨"ModuleEngineModel", pm_tin11 _ (List.mem_of_getElem? (i := 48) rfl)⟩⟩
theorem flX16_417 : pm_F RX16 417 14 11 := ⟨pm_Cl14, by decide, Or.inr ⟨"ModuleEngineModel", pm_tin11 _ (List.mem_of_getElem? (i := 50) rfl)⟩⟩
theorem flX16_420 : pm_F RX16 420 14 12 := ⟨pm_Cl14, by decide, Or.inr ⟨"ModuleEngineModel", pm_tin11 _ (List.mem_of_getElem? (i := 52) rfl)⟩⟩
theorem flX16_423 : pm_F RX16 423 14 13 := ⟨pm_Cl14, by decide, Or.inr ⟨"ModuleEngineModel", pm_tin11 _ (List.mem_of_getElem? (i := 54) rfl)⟩⟩
theorem flX16_426 : pm_F RX16 426 14 15 := ⟨pm_Cl14, by decide, Or.inr ⟨"ModuleEngineModel", pm_tin11 _ (List.mem_of_getElem? (i := 58) rfl)⟩⟩
theorem flX16_429 : pm_F RX16 429 14 16 := ⟨pm_Cl14, by decide, Or.inr ⟨"ModuleEngineModel", pm_tin11 _ (List.mem_of_getElem? (i := 60) rfl)⟩⟩
theorem flX16_432 : pm_F RX16 432 14 17 := ⟨pm_Cl14, by decide, Or.inr ⟨"ModuleEngineModel", pm_tin11 _ (List.mem_of_getElem? (i := 62) rfl)⟩⟩
theorem flX16_435 : pm_F RX16 435 14 18 := ⟨pm_Cl14, by decide, Or.inr ⟨"ModuleEngineModel", pm_tin11 _ (List.mem_of_getElem? (i := 64) rfl)⟩⟩
theorem flX16_438 : pm_F RX16 438 14 19 := ⟨pm_Cl14, by decide, Or.inr ⟨"ModuleEngineModel", pm_tin11 _ (List.mem_of_getElem? (i := 66) rfl)⟩⟩
theorem flX16_441 : pm_F RX16 441 14 20 := ⟨pm_Cl14, by decide, Or.inr ⟨"ModuleEngineModel", pm_tin11 _ (List.mem_of_getElem? (i := 68) rfl)⟩⟩
theorem flX16_444 : pm_F RX16 444 14 21 := ⟨pm_Cl14, by decide, Or.inr ⟨"ModuleEngineModel", pm_tin11 _ (List.mem_of_getElem? (i := 70) rfl)⟩⟩
theorem flX16_447 : pm_F RX16 447 14 22 := ⟨pm_Cl14, by decide, Or.inr ⟨"ModuleEngineModel", pm_tin11 _ (List.mem_of_getElem? (i := 72) rfl)⟩⟩
theorem flX16_450 : pm_F RX16 450 14 23 := ⟨pm_Cl14, by decide, Or.inr ⟨"ModuleEngineModel", pm_tin11 _ (List.mem_of_getElem? (i := 74) rfl)⟩⟩
theorem flX16_453 : pm_F RX16 453 14 24 := ⟨pm_Cl14, by decide, Or.inr ⟨"ModuleEngineModel", pm_tin11 _ (List.mem_of_getElem? (i := 76) rfl)⟩⟩
theorem flX16_459 : pm_F RX16 459 14 25 := ⟨pm_Cl14, by decide, Or.inr ⟨"ModuleEngineModel", pm_tin11 _ (List.mem_of_getElem? (i := 78) rfl)⟩⟩
theorem flX16_462 : pm_F RX16 462 14 26 := ⟨pm_Cl14, by decide, Or.inr ⟨"ModuleEngineModel", pm_tin11 _ (List.mem_of_getElem? (i := 80) rfl)⟩⟩
theorem flX16_463 : pm_F RX16 463 14 27 := ⟨pm_Cl14, by decide, Or.inr ⟨"ModuleEngineModel", pm_tin11 _ (List.mem_of_getElem? (i := 82) rfl)⟩⟩
theorem flX16_466 : pm_F RX16 466 14 28 := ⟨pm_Cl14, by decide, Or.inr ⟨"ModuleEngineModel", pm_tin11 _ (List.mem_of_getElem? (i := 84) rfl)⟩⟩
theorem flX16_469 : pm_F RX16 469 14 29 := ⟨pm_Cl14, by decide, Or.inr ⟨"ModuleEngineModel", pm_tin11 _ (List.mem_of_getElem? (i := 86) rfl)⟩⟩
theorem flX16_472 : pm_F RX16 472 14 30 := ⟨pm_Cl14, by decide, Or.inr ⟨"ModuleEngineModel", pm_tin11 _ (List.mem_of_getElem? (i := 88) rfl)⟩⟩
theorem flX16_475 : pm_F RX16 475 14 31 := ⟨pm_Cl14, by decide, Or.inr ⟨"ModuleEngineModel", pm_tin11 _ (List.mem_of_getElem? (i := 90) rfl)⟩⟩
theorem flX16_478 : pm_F RX16 478 14 32 := ⟨pm_Cl14, by decide, Or.inr ⟨"ModuleEngineModel", pm_tin11 _ (List.mem_of_getElem? (i := 92) rfl)⟩⟩
theorem flX16_481 : pm_F RX16 481 14 34 := ⟨pm_Cl14, by decide, Or.inr ⟨"ModuleEngineModel", pm_tin11 _ (List.mem_of_getElem? (i := 96) rfl)⟩⟩
theorem flX16_489 : pm_F RX16 489 14 35 := ⟨pm_Cl14, by decide, Or.inr ⟨"ModuleEngineModel", pm_tin11 _ (List.mem_of_getElem? (i := 98) rfl)⟩⟩
theorem flX16_492 : pm_F RX16 492 14 36 := ⟨pm_Cl14, by decide, Or.inr ⟨"ModuleEngineModel", pm_tin11 _ (List.mem_of_getElem? (i := 100) rfl)⟩⟩
theorem flX16_495 : pm_F RX16 495 14 37 := ⟨pm_Cl14, by decide, Or.inr ⟨"ModuleEngineModel", pm_tin11 _ (List.mem_of_getElem? (i := 102) rfl)⟩⟩
theorem flX16_498 : pm_F RX16 498 14 39 := ⟨pm_Cl14, by decide, Or.inr ⟨"ModuleEngineModel", pm_tin11 _ (List.mem_of_getElem? (i := 106) rfl)⟩⟩
theorem flX16_501 : pm_F RX16 501 14 38 := ⟨pm_Cl14, by decide, Or.inr ⟨"ModuleEngineModel", pm_tin11 _ (List.mem_of_getElem? (i := 104) rfl)⟩⟩
theorem flX16_504 : pm_F RX16 504 14 41 := ⟨pm_Cl14, by decide, Or.inr ⟨"ModuleEngineModel", pm_tin11 _ (List.mem_of_getElem? (i := 110) rfl)⟩⟩
theorem flX16_507 : pm_F RX16 507 14 40 := ⟨pm_Cl14, by decide, Or.inr ⟨"ModuleEngineModel", pm_tin11 _ (List.mem_of_getElem? (i := 108) rfl)⟩⟩
theorem flX16_517 : pm_F RX16 517 14 51 := ⟨pm_Cl14, by decide, Or.inr ⟨"ModuleEngineModel", pm_tin11 _ (List.mem_of_getElem? (i := 130) rfl)⟩⟩
theorem flX16_520 : pm_F RX16 520 14 52 := ⟨pm_Cl14, by decide, Or.inr ⟨"ModuleEngineModel", pm_tin11 _ (List.mem_of_getElem? (i := 132) rfl)⟩⟩
theorem flX16_523 : pm_F RX16 523 14 53 := ⟨pm_Cl14, by decide, Or.inr ⟨"ModuleEngineModel", pm_tin11 _ (List.mem_of_getElem? (i := 134) rfl)⟩⟩
theorem flX16_526 : pm_F RX16 526 14 54 := ⟨pm_Cl14, by decide, Or.inr ⟨"ModuleEngineModel", pm_tin11 _ (List.mem_of_getElem? (i := 136) rfl)⟩⟩
theorem flX16_529 : pm_F RX16 529 14 44 := ⟨pm_Cl14, by decide, Or.inr ⟨"ModuleEngineModel", pm_tin11 _ (List.mem_of_getElem? (i := 116) rfl)⟩⟩
theorem flX16_534 : pm_F RX16 534 14 45 := ⟨pm_Cl14, by decide, Or.inr ⟨"ModuleEngineModel", pm_tin11 _ (List.mem_of_getElem? (i := 118) rfl)⟩⟩
theorem flX16_540 : pm_F RX16 540 14 47 := ⟨pm_Cl14, by decide, Or.inr ⟨"ModuleEngineModel", pm_tin11 _ (List.mem_of_getElem? (i := 122) rfl)⟩⟩
theorem flX16_543 : pm_F RX16 543 14 48 := ⟨pm_Cl14, by decide, Or.inr ⟨"ModuleEngineModel", pm_tin11 _ (List.mem_of_getElem? (i := 124) rfl)⟩⟩
theorem flX16_546 : pm_F RX16 546 14 49 := ⟨pm_Cl14, by decide, Or.inr ⟨"ModuleEngineModel", pm_tin11 _ (List.mem_of_getElem? (i := 126) rfl)⟩⟩
theorem flX16_549 : pm_F RX16 549 14 56 := ⟨pm_Cl14, by decide, Or.inr ⟨"ModuleEngineModel", pm_tin11 _ (List.mem_of_getElem? (i := 140) rfl)⟩⟩
theorem flX16_552 : pm_F RX16 552 14 57 := ⟨pm_Cl14, by decide, Or.inr ⟨"ModuleEngineModel", pm_tin11 _ (List.mem_of_getElem? (i := 142) rfl)⟩⟩
theorem flX16_594 : pm_F RX16 594 16 19 := ⟨pm_Cl16, by decide, Or.inl (pm_tin9 _ (List.mem_of_getElem? (i := 203) rfl))⟩
theorem flX16_648 : pm_F RX16 648 16 21 := ⟨pm_Cl16, by decide, Or.inl (pm_tin9 _ (List.mem_of_getElem? (i := 205) rfl))⟩
theorem flX16_682 : pm_F RX16 682 16 24 := ⟨pm_Cl16, by decide, Or.inl (pm_tin9 _ (List.mem_of_getElem? (i := 208) rfl))⟩
theorem flX16_685 : pm_F RX16 685 16 23 := ⟨pm_Cl16, by decide, Or.inl (pm_tin9 _ (List.mem_of_getElem? (i := 207) rfl))⟩
theorem flX16_710 : pm_F RX16 710 16 29 := ⟨pm_Cl16, by decide, Or.inl (pm_tin9 _ (List.mem_of_getElem? (i := 213) rfl))⟩
theorem flX16_713 : pm_F RX16 713 16 30 := ⟨pm_Cl16, by decide, Or.inl (pm_tin9 _ (List.mem_of_getElem? (i := 214) rfl))⟩
theorem flX16_726 : pm_F RX16 726 14 55 := ⟨pm_Cl14, by decide, Or.inr ⟨"ModuleEngineModel", pm_tin11 _ (List.mem_of_getElem? (i := 138) rfl)⟩⟩
theorem flX16_800 : pm_F RX16 800 16 33 := ⟨pm_Cl16, by decide, Or.inl (pm_tin9 _ (List.mem_of_getElem? (i := 217) rfl))⟩
theorem flX16_871 : pm_F RX16 871 15 1 := ⟨pm_Cl15, by decide, Or.inr ⟨"ModuleEngineModel", pm_tin9 _ (List.mem_of_getElem? (i := 167) rfl)⟩⟩
theorem flX16_913 : pm_F RX16 913 15 3 := ⟨pm_Cl15, by decide, Or.inr ⟨"ModuleEngineModel", pm_tin9 _ (List.mem_of_getElem? (i := 171) rfl)⟩⟩
theorem flX16_916 : pm_F RX16 916 15 2 := ⟨pm_Cl15, by decide, Or.inr ⟨"ModuleEngineModel", pm_tin9 _ (List.mem_of_getElem? (i := 169) rfl)⟩⟩
theorem flX16_921 : pm_F RX16 921 15 0 := ⟨pm_Cl15, by decide, Or.inr ⟨"ModuleEngineModel", pm_tin9 _ (List.mem_of_getElem? (i := 165) rfl)⟩⟩
theorem flX16_949 : pm_F RX16 949 16 62 := ⟨pm_Cl16, by decide, Or.inl (pm_tin10 _ (List.mem_of_getElem? (i := 6) rfl))⟩
theorem flX16_967 : pm_F RX16 967 16 73 := ⟨pm_Cl16, by decide, Or.inl (pm_tin10 _ (List.mem_of_getElem? (i := 17) rfl))⟩
theorem flX16_970 : pm_F RX16 970 16 76 := ⟨pm_Cl16, by decide, Or.inl (pm_tin10 _ (List.mem_of_getElem? (i := 20) rfl))⟩
theorem flX16_977 : pm_F RX16 977 16 36 := ⟨pm_Cl16, by decide, Or.inl (pm_tin9 _ (List.mem_of_getElem? (i := 220) rfl))⟩
theorem flX16_978 : pm_F RX16 978 16 46 := ⟨pm_Cl16, by decide, Or.inl (pm_tin9 _ (List.mem_of_getElem? (i := 230) rfl))⟩
theorem flX16_979 : pm_F RX16 979 16 52 := ⟨pm_Cl16, by decide, Or.inl (pm_tin9 _ (List.mem_of_getElem? (i := 236) rfl))⟩
theorem flX16_980 : pm_F RX16 980 16 58 := ⟨pm_Cl16, by decide, Or.inl (pm_tin10 _ (List.mem_of_getElem? (i := 2) rfl))⟩
theorem flX16_981 : pm_F RX16 981 16 71 := ⟨pm_Cl16, by decide, Or.inl (pm_tin10 _ (List.mem_of_getElem? (i := 15) rfl))⟩
theorem flX16_1046 : pm_F RX16 1046 16 77 := ⟨pm_Cl16, by decide, Or.inl (pm_tin10 _ (List.mem_of_getElem? (i := 21) rfl))⟩
theorem flX16_1049 : pm_F RX16 1049 16 78 := ⟨pm_Cl16, by decide, Or.inl (pm_tin10 _ (List.mem_of_getElem? (i := 22) rfl))⟩
theorem flX16_1052 : pm_F RX16 1052 16 85 := ⟨pm_Cl16, by decide, Or.inl (pm_tin10 _ (List.mem_of_getElem? (i := 29) rfl))⟩
theorem flX16_1069 : pm_F RX16 1069 16 81 := ⟨pm_Cl16, by decide, Or.inl (pm_tin10 _ (List.mem_of_getElem? (i := 25) rfl))⟩
theorem flX16_1086 : pm_F RX16 1086 16 96 := ⟨pm_Cl16, by decide, Or.inl (pm_tin10 _ (List.mem_of_getElem? (i := 40) rfl))⟩
theorem flX16_1095 : pm_F RX16 1095 16 80 := ⟨pm_Cl16, by decide, Or.inl (pm_tin10 _ (List.mem_of_getElem? (i := 24) rfl))⟩
theorem flX16_1098 : pm_F RX16 1098 16 83 := ⟨pm_Cl16, by decide, Or.inl (pm_tin10 _ (List.mem_of_getElem? (i := 27) rfl))⟩
theorem flX16_1104 : pm_F RX16 1104 16 93 := ⟨pm_Cl16, by decide, Or.inl (pm_tin10 _ (List.mem_of_getElem? (i := 37) rfl))⟩
theorem flX16_1107 : pm_F RX16 1107 16 94 := ⟨pm_Cl16, by decide, Or.inl (pm_tin10 _ (List.mem_of_getElem? (i := 38) rfl))⟩
theorem flX16_1110 : pm_F RX16 1110 16 95 := ⟨pm_Cl16, by decide, Or.inl (pm_tin10 _ (List.mem_of_getElem? (i := 39) rfl))⟩
theorem flX16_1117 : pm_F RX16 1117 16 44 := ⟨pm_Cl16, by decide, Or.inl (pm_tin9 _ (List.mem_of_getElem? (i := 228) rfl))⟩
theorem flX16_1120 : pm_F RX16 1120 16 45 := ⟨pm_Cl16, by decide, Or.inl (pm_tin9 _ (List.mem_of_getElem? (i := 229) rfl))⟩
theorem flX14_28 : pm_F RX14 28 14 9 := ⟨pm_Cl14, by decide, Or.inl (pm_tin11 _ (List.mem_of_getElem? (i := 45) rfl))⟩
theorem flX14_31 : pm_F RX14 31 14 10 := ⟨pm_Cl14, by decide, Or.inl (pm_tin11 _ (List.mem_of_getElem? (i := 47) rfl))⟩
theorem flX14_41 : pm_F RX14 41 14 13 := ⟨pm_Cl14, by decide, Or.inl (pm_tin11 _ (List.mem_of_getElem? (i := 53) rfl))⟩
theorem flX14_45 : pm_F RX14 45 14 16 := ⟨pm_Cl14, by decide, Or.inl (pm_tin11 _ (List.mem_of_getElem? (i := 59) rfl))⟩
theorem flX14_48 : pm_F RX14 48 14 18 := ⟨pm_Cl14, by decide, Or.inl (pm_tin11 _ (List.mem_of_getElem? (i := 63) rfl))⟩
theorem flX14_63 : pm_F RX14 63 14 25 := ⟨pm_Cl14, by decide, Or.inl (pm_tin11 _ (List.mem_of_getElem? (i := 77) rfl))⟩
theorem flX14_66 : pm_F RX14 66 14 26 := ⟨pm_Cl14, by decide, Or.inl (pm_tin11 _ (List.mem_of_getElem? (i := 79) rfl))⟩
theorem flX14_147 : pm_F RX14 147 14 0 := ⟨pm_Cl14, by decide, Or.inl (pm_tin11 _ (List.mem_of_getElem? (i := 27) rfl))⟩
theorem flX14_160 : pm_F RX14 160 14 8 := ⟨pm_Cl14, by decide, Or.inl (pm_tin11 _ (List.mem_of_getElem? (i := 43) rfl))⟩
theorem flX14_166 : pm_F RX14 166 14 15 := ⟨pm_Cl14, by decide, Or.inl (pm_tin11 _ (List.mem_of_getElem? (i := 57) rfl))⟩
theorem flX14_169 : pm_F RX14 169 14 17 := ⟨pm_Cl14, by decide, Or.inl (pm_tin11 _ (List.mem_of_getElem? (i := 61) rfl))⟩
theorem flX14_172 : pm_F RX14 172 14 21 := ⟨pm_Cl14, by decide, Or.inl (pm_tin11 _ (List.mem_of_getElem? (i := 69) rfl))⟩
theorem flX14_175 : pm_F RX14 175 14 24 := ⟨pm_Cl14, by decide, Or.inl (pm_tin11 _ (List.mem_of_getElem? (i := 75) rfl))⟩
theorem flX15_7 : pm_F RX15 7 15 0 := ⟨pm_Cl15, by decide, Or.inl (pm_tin9 _ (List.mem_of_getElem? (i := 164) rfl))⟩
theorem flX15_13 : pm_F RX15 13 15 1 := ⟨pm_Cl15, by decide, Or.inl (pm_tin9 _ (List.mem_of_getElem? (i := 166) rfl))⟩
theorem flX15_17 : pm_F RX15 17 15 2 := ⟨pm_Cl15, by decide, Or.inl (pm_tin9 _ (List.mem_of_getElem? (i := 168) rfl))⟩
theorem flX15_21 : pm_F RX15 21 15 3 := ⟨pm_Cl15, by decide, Or.inl (pm_tin9 _ (List.mem_of_getElem? (i := 170) rfl))⟩
theorem cnX12_69 : Cond.constant RX12 69 40940 ∈ lw_tbl := pm_tin4 _ (List.mem_of_getElem? (i := 14) rfl)
theorem cnX12_223 : Cond.constantLong RX12 223 2147483647 ∈ lw_tbl := pm_tin4 _ (List.mem_of_getElem? (i := 183) rfl)
theorem cnX12_225 : Cond.constantLong RX12 225 (-1) ∈ lw_tbl := pm_tin8 _ (List.mem_of_getElem? (i := 229) rfl)
theorem cnX12_277 : Cond.constantLong RX12 277 4294967295 ∈ lw_tbl := pm_tin9 _ (List.mem_of_getElem? (i := 69) rfl)
theorem cnX12_304 : Cond.constant RX12 304 2147483647 ∈ lw_tbl := pm_tin4 _ (List.mem_of_getElem? (i := 184) rfl)
theorem cnX1_139 : Cond.constantLong RX1 139 2 ∈ lw_tbl := pm_tin5 _ (List.mem_of_getElem? (i := 57) rfl)
theorem cnX1_141 : Cond.constantLong RX1 141 65536 ∈ lw_tbl := pm_tin5 _ (List.mem_of_getElem? (i := 58) rfl)
theorem cnX1_453 : Cond.constantLong RX1 453 (-1) ∈ lw_tbl := pm_tin6 _ (List.mem_of_getElem? (i := 138) rfl)
theorem cnX2_151 : Cond.constantLong RX2 151 4294967295 ∈ lw_tbl := pm_tin8 _ (List.mem_of_getElem? (i := 188) rfl)
theorem cnX5_110 : Cond.constantLong RX5 110 4294967295 ∈ lw_tbl := pm_tin8 _ (List.mem_of_getElem? (i := 82) rfl)
theorem cnX5_219 : Cond.constantLong RX5 219 (-1) ∈ lw_tbl := pm_tin8 _ (List.mem_of_getElem? (i := 113) rfl)
theorem cnX6_59 : Cond.constantLong RX6 59 65536 ∈ lw_tbl := pm_tin7 _ (List.mem_of_getElem? (i := 26) rfl)
theorem cnX6_61 : Cond.constant RX6 61 65536 ∈ lw_tbl := pm_tin7 _ (List.mem_of_getElem? (i := 27) rfl)
theorem cnX6_65 : Cond.constantLong RX6 65 65535 ∈ lw_tbl := pm_tin7 _ (List.mem_of_getElem? (i := 229) rfl)
theorem cnX6_67 : Cond.constantLong RX6 67 8 ∈ lw_tbl := pm_tin7 _ (List.mem_of_getElem? (i := 228) rfl)
theorem cnX8_56 : Cond.constantLong RX8 56 4294967295 ∈ lw_tbl := pm_tin7 _ (List.mem_of_getElem? (i := 94) rfl)
theorem cnX8_72 : Cond.constantLong RX8 72 (-9223372036854775808) ∈ lw_tbl := pm_tin7 _ (List.mem_of_getElem? (i := 66) rfl)
theorem cnX8_98 : Cond.constant RX8 98 (-2147483648) ∈ lw_tbl := pm_tin7 _ (List.mem_of_getElem? (i := 93) rfl)
theorem cnX8_113 : Cond.constantLong RX8 113 (-1) ∈ lw_tbl := pm_tin7 _ (List.mem_of_getElem? (i := 84) rfl)
theorem cnX8_115 : Cond.constantLong RX8 115 2147483648 ∈ lw_tbl := pm_tin7 _ (List.mem_of_getElem? (i := 83) rfl)
theorem cnX8_117 : Cond.constantLong RX8 117 2139095040 ∈ lw_tbl := pm_tin7 _ (List.mem_of_getElem? (i := 74) rfl)
theorem cnX8_119 : Cond.constantLong RX8 119 9218868437227405312 ∈ lw_tbl := pm_tin7 _ (List.mem_of_getElem? (i := 76) rfl)
theorem cnX8_121 : Cond.constantLong RX8 121 2143289344 ∈ lw_tbl := pm_tin7 _ (List.mem_of_getElem? (i := 142) rfl)
theorem cnX8_123 : Cond.constantLong RX8 123 9221120237041090560 ∈ lw_tbl := pm_tin7 _ (List.mem_of_getElem? (i := 143) rfl)
theorem cnX8_125 : Cond.constantLong RX8 125 (-2147483649) ∈ lw_tbl := pm_tin7 _ (List.mem_of_getElem? (i := 73) rfl)
theorem cnX8_127 : Cond.constantLong RX8 127 9223372036854775807 ∈ lw_tbl := pm_tin7 _ (List.mem_of_getElem? (i := 75) rfl)
theorem cnX9_266 : Cond.constant RX9 266 65536 ∈ lw_tbl := pm_tin4 _ (List.mem_of_getElem? (i := 98) rfl)
theorem cnX9_267 : Cond.constant RX9 267 55296 ∈ lw_tbl := pm_tin4 _ (List.mem_of_getElem? (i := 99) rfl)
theorem cnX9_268 : Cond.constant RX9 268 57343 ∈ lw_tbl := pm_tin4 _ (List.mem_of_getElem? (i := 100) rfl)
theorem cnX9_269 : Cond.constant RX9 269 1114111 ∈ lw_tbl := pm_tin4 _ (List.mem_of_getElem? (i := 101) rfl)
theorem cnX16_210 : Cond.constant RX16 210 40960 ∈ lw_tbl := pm_tin11 _ (List.mem_of_getElem? (i := 12) rfl)
theorem cnX16_268 : Cond.constantLong RX16 268 (-1) ∈ lw_tbl := pm_tin12 _ (List.mem_of_getElem? (i := 101) rfl)
theorem cnX16_290 : Cond.constant RX16 290 65536 ∈ lw_tbl := pm_tin12 _ (List.mem_of_getElem? (i := 63) rfl)
theorem cnX16_297 : Cond.constantLong RX16 297 255 ∈ lw_tbl := pm_tin12 _ (List.mem_of_getElem? (i := 41) rfl)
theorem cnX16_363 : Cond.constantLong RX16 363 64 ∈ lw_tbl := pm_tin12 _ (List.mem_of_getElem? (i := 73) rfl)
theorem cnX16_513 : Cond.constantLong RX16 513 4294967295 ∈ lw_tbl := pm_tin12 _ (List.mem_of_getElem? (i := 184) rfl)
theorem cnX16_582 : Cond.constantLong RX16 582 8 ∈ lw_tbl := pm_tin12 _ (List.mem_of_getElem? (i := 157) rfl)
theorem cnX16_584 : Cond.constantLong RX16 584 9 ∈ lw_tbl := pm_tin12 _ (List.mem_of_getElem? (i := 158) rfl)
theorem cnX16_586 : Cond.constantLong RX16 586 10 ∈ lw_tbl := pm_tin12 _ (List.mem_of_getElem? (i := 159) rfl)
theorem cnX16_588 : Cond.constantLong RX16 588 12 ∈ lw_tbl := pm_tin12 _ (List.mem_of_getElem? (i := 160) rfl)
theorem cnX16_590 : Cond.constantLong RX16 590 14 ∈ lw_tbl := pm_tin12 _ (List.mem_of_getElem? (i := 161) rfl)
theorem cnX16_592 : Cond.constantLong RX16 592 11 ∈ lw_tbl := pm_tin12 _ (List.mem_of_getElem? (i := 162) rfl)
theorem cnX16_636 : Cond.constantLong RX16 636 65536 ∈ lw_tbl := pm_tin12 _ (List.mem_of_getElem? (i := 206) rfl)
theorem cnX16_646 : Cond.constantLong RX16 646 128 ∈ lw_tbl := pm_tin13 _ (List.mem_of_getElem? (i := 7) rfl)
theorem cnX16_676 : Cond.constantLong RX16 676 (-64) ∈ lw_tbl := pm_tin13 _ (List.mem_of_getElem? (i := 133) rfl)
theorem cnX16_798 : Cond.constantLong RX16 798 (-9223372036854775808) ∈ lw_tbl := pm_tin14 _ (List.mem_of_getElem? (i := 142) rfl)
theorem cnX16_838 : Cond.constantLong RX16 838 (-2147483648) ∈ lw_tbl := pm_tin14 _ (List.mem_of_getElem? (i := 167) rfl)
theorem cnX16_857 : Cond.constantLong RX16 857 2139095040 ∈ lw_tbl := pm_tin14 _ (List.mem_of_getElem? (i := 217) rfl)
theorem cnX16_859 : Cond.constantLong RX16 859 9218868437227405312 ∈ lw_tbl := pm_tin14 _ (List.mem_of_getElem? (i := 218) rfl)
theorem cnX16_861 : Cond.constantLong RX16 861 2143289344 ∈ lw_tbl := pm_tin14 _ (List.mem_of_getElem? (i := 201) rfl)
theorem cnX16_863 : Cond.constantLong RX16 863 9221120237041090560 ∈ lw_tbl := pm_tin14 _ (List.mem_of_getElem? (i := 202) rfl)
theorem cnX16_886 : Cond.constantLong RX16 886 2047 ∈ lw_tbl := pm_tin14 _ (List.mem_of_getElem? (i := 213) rfl)
theorem cnX16_919 : Cond.constantLong RX16 919 9223372036854775807 ∈ lw_tbl := pm_tin14 _ (List.mem_of_getElem? (i := 203) rfl)
theorem cnX16_928 : Cond.constantLong RX16 928 4503599627370496 ∈ lw_tbl := pm_tin14 _ (List.mem_of_getElem? (i := 223) rfl)
theorem cnX16_930 : Cond.constantLong RX16 930 3 ∈ lw_tbl := pm_tin14 _ (List.mem_of_getElem? (i := 224) rfl)
theorem cnX16_936 : Cond.constantLong RX16 936 134217727 ∈ lw_tbl := pm_tin14 _ (List.mem_of_getElem? (i := 236) rfl)
theorem cnX16_984 : Cond.constantLong RX16 984 2048 ∈ lw_tbl := pm_tin13 _ (List.mem_of_getElem? (i := 229) rfl)
theorem cnX16_1059 : Cond.constantLong RX16 1059 65535 ∈ lw_tbl := pm_tin14 _ (List.mem_of_getElem? (i := 54) rfl)
theorem cnX16_1072 : Cond.constantLong RX16 1072 2147483647 ∈ lw_tbl := pm_tin14 _ (List.mem_of_getElem? (i := 111) rfl)
theorem cnX16_1132 : Cond.constant RX16 1132 100000 ∈ lw_tbl := pm_tin14 _ (List.mem_of_getElem? (i := 119) rfl)
theorem cnJ6_264 : Cond.constant RJ6 264 65536 ∈ lw_tbl := pm_tin7 _ (List.mem_of_getElem? (i := 98) rfl)
theorem cnJ6_265 : Cond.constant RJ6 265 1431655765 ∈ lw_tbl := pm_tin7 _ (List.mem_of_getElem? (i := 105) rfl)
theorem cnJ6_266 : Cond.constant RJ6 266 858993459 ∈ lw_tbl := pm_tin7 _ (List.mem_of_getElem? (i := 106) rfl)
theorem cnJ6_267 : Cond.constant RJ6 267 252645135 ∈ lw_tbl := pm_tin7 _ (List.mem_of_getElem? (i := 107) rfl)
theorem cnJ13_306 : Cond.constantLong RJ13 306 (-1) ∈ lw_tbl := pm_tin14 _ (List.mem_of_getElem? (i := 179) rfl)
theorem cnJ13_314 : Cond.constantLong RJ13 314 6148914691236517205 ∈ lw_tbl := pm_tin7 _ (List.mem_of_getElem? (i := 130) rfl)
theorem cnJ13_316 : Cond.constantLong RJ13 316 3689348814741910323 ∈ lw_tbl := pm_tin7 _ (List.mem_of_getElem? (i := 131) rfl)
theorem cnJ13_318 : Cond.constantLong RJ13 318 1085102592571150095 ∈ lw_tbl := pm_tin7 _ (List.mem_of_getElem? (i := 132) rfl)
