/-! LOOPS, state by state -/
theorem aX2_markTargets_0 : ∀ x0 x1 h, sX2_markTargets (x0, x1, h) = tX2_markTargets_2 x0 x1 h := fun _ _ _ => rfl
theorem aX2_ownUnseen_0 : ∀ x0 x1 x2 h, sX2_ownUnseen (x0, x1, x2, h) = tX2_ownUnseen_2 x0 x1 x2 h := fun _ _ _ _ => rfl
theorem aX7_imported_0 : ∀ h x0 x1 x2 x3, sX7_imported h (x0, x1, x2, x3) = tX7_imported_4 h x0 x1 x2 x3 := fun _ _ _ _ _ => rfl
theorem aX9_characterLength_0 : ∀ h x0 x1 x2 s0, sX9_characterLength h (.inl (x0, x1, x2, s0)) = tX9_characterLength_97 h x0 x1 x2 s0 := fun _ _ _ _ _ => rfl
theorem aX9_characterLength_1 : ∀ h x0 x1 x3 x4 x5, sX9_characterLength h (.inr (.inl (x0, x1, x3, x4, x5))) = tX9_characterLength_125 h x0 x1 x3 x4 x5 := fun _ _ _ _ _ _ => rfl
theorem aX9_characterLength_2 : ∀ h x3 x4 s0, sX9_characterLength h (.inr (.inr (x3, x4, s0))) = tX9_characterLength_204 h x3 x4 s0 := fun _ _ _ _ => rfl
theorem aX10_isSameShape_0 : ∀ h x0 x1 x2, sX10_isSameShape h (x0, x1, x2) = tX10_isSameShape_11 h x0 x1 x2 := fun _ _ _ _ => rfl
theorem aX12_write_0 : ∀ x0 x1 x2 x3 h, sX12_write (x0, x1, x2, x3, h) = tX12_write_18 x0 x1 x2 x3 h := fun _ _ _ _ _ => rfl
theorem aX14_importOf_0 : ∀ h x0 x1 x3 x4, sX14_importOf h (.inl (x0, x1, x3, x4)) = tX14_importOf_5 h x0 x1 x3 x4 := fun _ _ _ _ _ => rfl
theorem aX14_importOf_1 : ∀ h x0 x1 x3 x4, sX14_importOf h (.inr (x0, x1, x3, x4)) = tX14_importOf_32 h x0 x1 x3 x4 := fun _ _ _ _ _ => rfl
theorem aX14_imported_0 : ∀ h x0 x1 x2 x3, sX14_imported h (x0, x1, x2, x3) = tX14_imported_4 h x0 x1 x2 x3 := fun _ _ _ _ _ => rfl
theorem aX16_branches_0 : ∀ x0 x2 x3 x4 x5 h, sX16_branches (x0, x2, x3, x4, x5, h) = tX16_branches_27 x0 x2 x3 x4 x5 h := fun _ _ _ _ _ _ => rfl
theorem aX16_bytesAt_0 : ∀ x0 x1 x2 x4 h, sX16_bytesAt (x0, x1, x2, x4, h) = tX16_bytesAt_5 x0 x1 x2 x4 h := fun _ _ _ _ _ => rfl
theorem aX16_copiesElement_0 : ∀ x0 x1 x2 x3 x4 x6 x8 x10 h, sX16_copiesElement (x0, x1, x2, x3, x4, x6, x8, x10, h) = tX16_copiesElement_42 x0 x1 x2 x3 x4 x6 x8 x10 h := fun _ _ _ _ _ _ _ _ _ => rfl
theorem aX16_grows_0 : ∀ x0 x1 x2 x3 x4 h, sX16_grows (x0, x1, x2, x3, x4, h) = tX16_grows_3 x0 x1 x2 x3 x4 h := fun _ _ _ _ _ _ => rfl
theorem aX16_growsPages_0 : ∀ x0 x1 x2 x3 h, sX16_growsPages (x0, x1, x2, x3, h) = tX16_growsPages_2 x0 x1 x2 x3 h := fun _ _ _ _ _ => rfl
theorem aX16_hasRoom_0 : ∀ h x0 x1 x2 x3 x5, sX16_hasRoom h (.inl (x0, x1, x2, x3, x5)) = tX16_hasRoom_5 h x0 x1 x2 x3 x5 := fun _ _ _ _ _ _ => rfl
theorem aX16_hasRoom_1 : ∀ h x0 x1 x2 x3 x5 x7, sX16_hasRoom h (.inr (.inl (x0, x1, x2, x3, x5, x7))) = tX16_hasRoom_36 h x0 x1 x2 x3 x5 x7 := fun _ _ _ _ _ _ _ => rfl
theorem aX16_hasRoom_2 : ∀ h x0 x1 x2 x3 x5 x7 x9, sX16_hasRoom h (.inr (.inr (.inl (x0, x1, x2, x3, x5, x7, x9)))) = tX16_hasRoom_69 h x0 x1 x2 x3 x5 x7 x9 := fun _ _ _ _ _ _ _ _ => rfl
theorem aX16_hasRoom_3 : ∀ h x0 x3 x5 x7, sX16_hasRoom h (.inr (.inr (.inr (x0, x3, x5, x7)))) = tX16_hasRoom_161 h x0 x3 x5 x7 := fun _ _ _ _ _ => rfl
theorem aX16_haveSameRows_0 : ∀ h x2 x4 x5 x6 x7 x8, sX16_haveSameRows h (.inl (x2, x4, x5, x6, x7, x8)) = tX16_haveSameRows_62 h x2 x4 x5 x6 x7 x8 := fun _ _ _ _ _ _ _ => rfl
theorem aX16_haveSameRows_1 : ∀ h x2 x4 x5 x6 x7 x8, sX16_haveSameRows h (.inr (x2, x4, x5, x6, x7, x8)) = tX16_haveSameRows_125 h x2 x4 x5 x6 x7 x8 := fun _ _ _ _ _ _ _ => rfl
theorem aX16_isSameName_0 : ∀ h x0 x1 x2 x3 x4 x5, sX16_isSameName h (x0, x1, x2, x3, x4, x5) = tX16_isSameName_33 h x0 x1 x2 x3 x4 x5 := fun _ _ _ _ _ _ _ => rfl
theorem aX16_length_0 : ∀ x0 x4 x5, sX16_length (x0, x4, x5) = tX16_length_16 x0 x4 x5 := fun _ _ _ => rfl
theorem aX16_ones_0 : ∀ x0 x2 x3, sX16_ones (x0, x2, x3) = tX16_ones_4 x0 x2 x3 := fun _ _ _ => rfl
theorem aX16_puts_0 : ∀ x0 x1 x2 h, sX16_puts (x0, x1, x2, h) = tX16_puts_3 x0 x1 x2 h := fun _ _ _ _ => rfl
theorem aX16_signedWord_0 : ∀ x0 x1 x3 x4 h, sX16_signedWord (x0, x1, x3, x4, h) = tX16_signedWord_9 x0 x1 x3 x4 h := fun _ _ _ _ _ => rfl
theorem aX16_tablesStep_0 : ∀ x0 x1 x2 x3 s0 s1 s2 h, sX16_tablesStep (.inl (x0, x1, x2, x3, s0, s1, s2, h)) = tX16_tablesStep_23 x0 x1 x2 x3 s0 s1 s2 h := fun _ _ _ _ _ _ _ _ => rfl
theorem aX16_tablesStep_1 : ∀ x0 x1 x4 x5 x7 x9 x11 x12 x13 h, sX16_tablesStep (.inr (.inl (x0, x1, x4, x5, x7, x9, x11, x12, x13, h))) = tX16_tablesStep_286 x0 x1 x4 x5 x7 x9 x11 x12 x13 h := fun _ _ _ _ _ _ _ _ _ _ => rfl
theorem aX16_tablesStep_2 : ∀ x0 x4 x5 x7 s0 h, sX16_tablesStep (.inr (.inr (.inl (x0, x4, x5, x7, s0, h)))) = tX16_tablesStep_89 x0 x4 x5 x7 s0 h := fun _ _ _ _ _ _ => rfl
theorem aX16_tablesStep_3 : ∀ x0 x1 x4 x5 x7 x9 x11 x12 x13 h, sX16_tablesStep (.inr (.inr (.inr (.inl (x0, x1, x4, x5, x7, x9, x11, x12, x13, h))))) = tX16_tablesStep_323 x0 x1 x4 x5 x7 x9 x11 x12 x13 h := fun _ _ _ _ _ _ _ _ _ _ => rfl
theorem aX16_tablesStep_4 : ∀ x0 x1 x4 x5 x7 x9 x11 x12 x13 s0 h, sX16_tablesStep (.inr (.inr (.inr (.inr (.inl (x0, x1, x4, x5, x7, x9, x11, x12, x13, s0, h)))))) = tX16_tablesStep_325 x0 x1 x4 x5 x7 x9 x11 x12 x13 s0 h := fun _ _ _ _ _ _ _ _ _ _ _ => rfl
theorem aX16_tablesStep_5 : ∀ x0 x4 x5 x7 h, sX16_tablesStep (.inr (.inr (.inr (.inr (.inr (x0, x4, x5, x7, h)))))) = tX16_tablesStep_123 x0 x4 x5 x7 h := fun _ _ _ _ _ => rfl
theorem aX16_word_0 : ∀ x0 x1 x3 x4 h, sX16_word (x0, x1, x3, x4, h) = tX16_word_9 x0 x1 x3 x4 h := fun _ _ _ _ _ => rfl
theorem aX16_zeros_0 : ∀ x0 x2 x3 x4, sX16_zeros (x0, x2, x3, x4) = tX16_zeros_3 x0 x2 x3 x4 := fun _ _ _ _ => rfl
theorem aX1_isSameName_0 : ∀ h x0 x3 x4 x5 x7, sX1_isSameName h (x0, x3, x4, x5, x7) = tX1_isSameName_106 h x0 x3 x4 x5 x7 := fun _ _ _ _ _ _ => rfl
theorem aX1_putTypes_0 : ∀ x0 x1 x2 x3 x4 h, sX1_putTypes (x0, x1, x2, x3, x4, h) = tX1_putTypes_3 x0 x1 x2 x3 x4 h := fun _ _ _ _ _ _ => rfl
theorem aX1_resultsAreParameters_0 : ∀ h x0 x1 x2, sX1_resultsAreParameters h (x0, x1, x2) = tX1_resultsAreParameters_19 h x0 x1 x2 := fun _ _ _ _ => rfl
theorem aX1_takeTypes_0 : ∀ x0 x1 x2 x4 h, sX1_takeTypes (x0, x1, x2, x4, h) = tX1_takeTypes_5 x0 x1 x2 x4 h := fun _ _ _ _ _ => rfl
theorem aX2_aimBranches_0 : ∀ x0 x1 h, sX2_aimBranches (x0, x1, h) = tX2_aimBranches_2 x0 x1 h := fun _ _ _ => rfl
theorem aX2_own_0 : ∀ x0 x1 x2 h, sX2_own (x0, x1, x2, h) = tX2_own_2 x0 x1 x2 h := fun _ _ _ _ => rfl
theorem aX2_plain_0 : ∀ x0 x1 x2 x4 x5 x6 x7 x8 h, sX2_plain (x0, x1, x2, x4, x5, x6, x7, x8, h) = tX2_plain_71 x0 x1 x2 x4 x5 x6 x7 x8 h := fun _ _ _ _ _ _ _ _ _ => rfl
theorem aX2_setLocal_0 : ∀ x0 x1 x2 x3 x4 h, sX2_setLocal (x0, x1, x2, x3, x4, h) = tX2_setLocal_11 x0 x1 x2 x3 x4 h := fun _ _ _ _ _ _ => rfl
theorem aX5_clearLocals_0 : ∀ x0 x1 x4 h, sX5_clearLocals (.inl (x0, x1, x4, h)) = tX5_clearLocals_13 x0 x1 x4 h := fun _ _ _ _ => rfl
theorem aX5_clearLocals_1 : ∀ x0 x1 x4 h, sX5_clearLocals (.inr (.inl (x0, x1, x4, h))) = tX5_clearLocals_44 x0 x1 x4 h := fun _ _ _ _ => rfl
theorem aX5_clearLocals_2 : ∀ x0 x1 x4 x5 h, sX5_clearLocals (.inr (.inr (x0, x1, x4, x5, h))) = tX5_clearLocals_65 x0 x1 x4 x5 h := fun _ _ _ _ _ => rfl
theorem aX5_tell_0 : ∀ x0 x1 x2 x3 h, sX5_tell (x0, x1, x2, x3, h) = tX5_tell_7 x0 x1 x2 x3 h := fun _ _ _ _ _ => rfl
theorem aX9_lowestFirst_0 : ∀ x0 x1 x2 x4 h, sX9_lowestFirst (x0, x1, x2, x4, h) = tX9_lowestFirst_5 x0 x1 x2 x4 h := fun _ _ _ _ _ => rfl
theorem aX10_leastInAll_0 : ∀ h x0 x1 x2 x4, sX10_leastInAll h (x0, x1, x2, x4) = tX10_leastInAll_9 h x0 x1 x2 x4 := fun _ _ _ _ _ => rfl
theorem aX11_copy_0 : ∀ x0 x1 x2 x3 x5 x7 x9 x10 h, sX11_copy (x0, x1, x2, x3, x5, x7, x9, x10, h) = tX11_copy_17 x0 x1 x2 x3 x5 x7 x9 x10 h := fun _ _ _ _ _ _ _ _ _ => rfl
theorem aX11_copyFrom_0 : ∀ x0 x1 x2 x3 x5 x7 x9 h, sX11_copyFrom (x0, x1, x2, x3, x5, x7, x9, h) = tX11_copyFrom_3 x0 x1 x2 x3 x5 x7 x9 h := fun _ _ _ _ _ _ _ _ => rfl
theorem aX12_argumentsAre_0 : ∀ h x0 x1 x2 x3 x4, sX12_argumentsAre h (.inl (x0, x1, x2, x3, x4)) = tX12_argumentsAre_22 h x0 x1 x2 x3 x4 := fun _ _ _ _ _ _ => rfl
theorem aX12_argumentsAre_1 : ∀ h x0 x1 x2 x3 x4 x5 s0, sX12_argumentsAre h (.inr (.inl (x0, x1, x2, x3, x4, x5, s0))) = tX12_argumentsAre_61 h x0 x1 x2 x3 x4 x5 s0 := fun _ _ _ _ _ _ _ _ => rfl
theorem aX12_argumentsAre_2 : ∀ h x0 x1 x2 x3 x4 x6, sX12_argumentsAre h (.inr (.inr (.inl (x0, x1, x2, x3, x4, x6)))) = tX12_argumentsAre_77 h x0 x1 x2 x3 x4 x6 := fun _ _ _ _ _ _ _ => rfl
theorem aX12_argumentsAre_3 : ∀ h x0 x1 x2 x3 x4 x6 s0, sX12_argumentsAre h (.inr (.inr (.inr (x0, x1, x2, x3, x4, x6, s0)))) = tX12_argumentsAre_82 h x0 x1 x2 x3 x4 x6 s0 := fun _ _ _ _ _ _ _ _ => rfl
theorem aX16_areSuch_0 : ∀ h x0 x1 x2 x3 x4, sX16_areSuch h (x0, x1, x2, x3, x4) = tX16_areSuch_5 h x0 x1 x2 x3 x4 := fun _ _ _ _ _ _ => rfl
theorem aX16_closes_0 : ∀ x0 x2 x3 x4 h, sX16_closes (.inl (x0, x2, x3, x4, h)) = tX16_closes_142 x0 x2 x3 x4 h := fun _ _ _ _ _ => rfl
theorem aX16_closes_1 : ∀ x0 x2 x3 h, sX16_closes (.inr (x0, x2, x3, h)) = tX16_closes_86 x0 x2 x3 h := fun _ _ _ _ => rfl
theorem aX16_constant_0 : ∀ x0 x1 x3 h, sX16_constant (x0, x1, x3, h) = tX16_constant_7 x0 x1 x3 h := fun _ _ _ _ => rfl
theorem aX16_copiesData_0 : ∀ x0 x2 x3 x4 x6 x8 x10 x12 h, sX16_copiesData (x0, x2, x3, x4, x6, x8, x10, x12, h) = tX16_copiesData_77 x0 x2 x3 x4 x6 x8 x10 x12 h := fun _ _ _ _ _ _ _ _ _ => rfl
theorem aX16_localType_0 : ∀ x0 x3 x6 x8 x10 h, sX16_localType (x0, x3, x6, x8, x10, h) = tX16_localType_55 x0 x3 x6 x8 x10 h := fun _ _ _ _ _ _ => rfl
theorem aX16_rounded_0 : ∀ x0 x1 x2 x4 x6 x7 s0, sX16_rounded (.inl (x0, x1, x2, x4, x6, x7, s0)) = tX16_rounded_12 x0 x1 x2 x4 x6 x7 s0 := fun _ _ _ _ _ _ _ => rfl
theorem aX16_rounded_1 : ∀ x0 x1 x2 x4 x6 x7 x8 s0, sX16_rounded (.inr (.inl (x0, x1, x2, x4, x6, x7, x8, s0))) = tX16_rounded_28 x0 x1 x2 x4 x6 x7 x8 s0 := fun _ _ _ _ _ _ _ _ => rfl
theorem aX16_rounded_2 : ∀ x0 x1 x2 x4 x6 x7 x8 x9 s0, sX16_rounded (.inr (.inr (.inl (x0, x1, x2, x4, x6, x7, x8, x9, s0)))) = tX16_rounded_58 x0 x1 x2 x4 x6 x7 x8 x9 s0 := fun _ _ _ _ _ _ _ _ _ => rfl
theorem aX16_rounded_3 : ∀ x0 x1 x8 x9 x10 x11 x13 x15 x16 x17, sX16_rounded (.inr (.inr (.inr (.inl (x0, x1, x8, x9, x10, x11, x13, x15, x16, x17))))) = tX16_rounded_96 x0 x1 x8 x9 x10 x11 x13 x15 x16 x17 := fun _ _ _ _ _ _ _ _ _ _ => rfl
theorem aX16_rounded_4 : ∀ x0 x1 x8 x9 x10 x13 x15 x16, sX16_rounded (.inr (.inr (.inr (.inr (.inl (x0, x1, x8, x9, x10, x13, x15, x16)))))) = tX16_rounded_179 x0 x1 x8 x9 x10 x13 x15 x16 := fun _ _ _ _ _ _ _ _ => rfl
theorem aX16_rounded_5 : ∀ x0 x1 x8 x9 x10 x11 x13 x15 x16 x17, sX16_rounded (.inr (.inr (.inr (.inr (.inr (.inl (x0, x1, x8, x9, x10, x11, x13, x15, x16, x17))))))) = tX16_rounded_122 x0 x1 x8 x9 x10 x11 x13 x15 x16 x17 := fun _ _ _ _ _ _ _ _ _ _ => rfl
theorem aX16_rounded_6 : ∀ x0 x1 x8 x9 x10 x13, sX16_rounded (.inr (.inr (.inr (.inr (.inr (.inr (.inl (x0, x1, x8, x9, x10, x13)))))))) = tX16_rounded_204 x0 x1 x8 x9 x10 x13 := fun _ _ _ _ _ _ => rfl
theorem aX16_rounded_7 : ∀ x0 x1 x8 x9 x10 x11 x13 x17, sX16_rounded (.inr (.inr (.inr (.inr (.inr (.inr (.inr (.inl (x0, x1, x8, x9, x10, x11, x13, x17))))))))) = tX16_rounded_132 x0 x1 x8 x9 x10 x11 x13 x17 := fun _ _ _ _ _ _ _ _ => rfl
theorem aX16_rounded_8 : ∀ x0 x1 x8 x9 x10 x11 x13 x17 s0, sX16_rounded (.inr (.inr (.inr (.inr (.inr (.inr (.inr (.inr (.inl (x0, x1, x8, x9, x10, x11, x13, x17, s0)))))))))) = tX16_rounded_137 x0 x1 x8 x9 x10 x11 x13 x17 s0 := fun _ _ _ _ _ _ _ _ _ => rfl
theorem aX16_rounded_9 : ∀ x0 x1 x8 x9 x10 x13, sX16_rounded (.inr (.inr (.inr (.inr (.inr (.inr (.inr (.inr (.inr (x0, x1, x8, x9, x10, x13)))))))))) = tX16_rounded_223 x0 x1 x8 x9 x10 x13 := fun _ _ _ _ _ _ => rfl
theorem aX16_stretches_0 : ∀ x0 x1 x3 x4 x6 x8 x12 x13 h, sX16_stretches (.inl (x0, x1, x3, x4, x6, x8, x12, x13, h)) = tX16_stretches_126 x0 x1 x3 x4 x6 x8 x12 x13 h := fun _ _ _ _ _ _ _ _ _ => rfl
theorem aX16_stretches_1 : ∀ x0 x1 x3 x4 x6 x8 x12 x13 h, sX16_stretches (.inr (.inl (x0, x1, x3, x4, x6, x8, x12, x13, h))) = tX16_stretches_163 x0 x1 x3 x4 x6 x8 x12 x13 h := fun _ _ _ _ _ _ _ _ _ => rfl
theorem aX16_stretches_2 : ∀ x0 x1 x3 x4 x6 x8 x12 x13 s0 h, sX16_stretches (.inr (.inr (x0, x1, x3, x4, x6, x8, x12, x13, s0, h))) = tX16_stretches_165 x0 x1 x3 x4 x6 x8 x12 x13 s0 h := fun _ _ _ _ _ _ _ _ _ _ => rfl
theorem aX16_sumOf_0 : ∀ h x0 x1 x2 x3 s0, sX16_sumOf h (.inl (x0, x1, x2, x3, s0)) = tX16_sumOf_30 h x0 x1 x2 x3 s0 := fun _ _ _ _ _ _ => rfl
theorem aX16_sumOf_1 : ∀ h x0 x1 x2 x3 x4 s0, sX16_sumOf h (.inr (.inl (x0, x1, x2, x3, x4, s0))) = tX16_sumOf_62 h x0 x1 x2 x3 x4 s0 := fun _ _ _ _ _ _ _ => rfl
theorem aX16_sumOf_2 : ∀ h x0 x1 x2 x3 x4 x5 x7 x9 x11, sX16_sumOf h (.inr (.inr (.inl (x0, x1, x2, x3, x4, x5, x7, x9, x11)))) = tX16_sumOf_92 h x0 x1 x2 x3 x4 x5 x7 x9 x11 := fun _ _ _ _ _ _ _ _ _ _ => rfl
theorem aX16_sumOf_3 : ∀ h x0 x1 x2 x4 x5 x7 x9, sX16_sumOf h (.inr (.inr (.inr (.inl (x0, x1, x2, x4, x5, x7, x9))))) = tX16_sumOf_122 h x0 x1 x2 x4 x5 x7 x9 := fun _ _ _ _ _ _ _ _ => rfl
theorem aX16_sumOf_4 : ∀ h x0 x1 x2 x4 x5 x7 x9, sX16_sumOf h (.inr (.inr (.inr (.inr (x0, x1, x2, x4, x5, x7, x9))))) = tX16_sumOf_190 h x0 x1 x2 x4 x5 x7 x9 := fun _ _ _ _ _ _ _ _ => rfl
theorem aX16_takesElement_0 : ∀ x0 x1 x2 x3 h, sX16_takesElement (x0, x1, x2, x3, h) = tX16_takesElement_50 x0 x1 x2 x3 h := fun _ _ _ _ _ => rfl
theorem aX16_takesOwn_0 : ∀ x0 x1 x2 x3 h, sX16_takesOwn (.inl (x0, x1, x2, x3, h)) = tX16_takesOwn_2 x0 x1 x2 x3 h := fun _ _ _ _ _ => rfl
theorem aX16_takesOwn_1 : ∀ x0 x1 x3 h, sX16_takesOwn (.inr (.inl (x0, x1, x3, h))) = tX16_takesOwn_55 x0 x1 x3 h := fun _ _ _ _ => rfl
theorem aX16_takesOwn_2 : ∀ x0 x1 x3 h, sX16_takesOwn (.inr (.inr (.inl (x0, x1, x3, h)))) = tX16_takesOwn_169 x0 x1 x3 h := fun _ _ _ _ => rfl
theorem aX16_takesOwn_3 : ∀ x0 x1 x3 h, sX16_takesOwn (.inr (.inr (.inr (.inl (x0, x1, x3, h))))) = tX16_takesOwn_264 x0 x1 x3 h := fun _ _ _ _ => rfl
theorem aX16_takesOwn_4 : ∀ x0 x1 x3 h, sX16_takesOwn (.inr (.inr (.inr (.inr (.inl (x0, x1, x3, h)))))) = tX16_takesOwn_372 x0 x1 x3 h := fun _ _ _ _ => rfl
theorem aX16_takesOwn_5 : ∀ x0 x1 x3 h, sX16_takesOwn (.inr (.inr (.inr (.inr (.inr (x0, x1, x3, h)))))) = tX16_takesOwn_397 x0 x1 x3 h := fun _ _ _ _ => rfl
theorem aX1_exportsAreRight_0 : ∀ x0 x1 h, sX1_exportsAreRight (.inl (x0, x1, h)) = tX1_exportsAreRight_2 x0 x1 h := fun _ _ _ => rfl
theorem aX1_exportsAreRight_1 : ∀ x0 x1 x4 h, sX1_exportsAreRight (.inr (x0, x1, x4, h)) = tX1_exportsAreRight_76 x0 x1 x4 h := fun _ _ _ _ => rfl
theorem aX1_limitsAreRight_0 : ∀ x0 x1 h, sX1_limitsAreRight (.inl (x0, x1, h)) = tX1_limitsAreRight_2 x0 x1 h := fun _ _ _ => rfl
theorem aX1_limitsAreRight_1 : ∀ x0 x1 h, sX1_limitsAreRight (.inr (.inl (x0, x1, h))) = tX1_limitsAreRight_50 x0 x1 h := fun _ _ _ => rfl
theorem aX1_limitsAreRight_2 : ∀ x0 x1 h, sX1_limitsAreRight (.inr (.inr (x0, x1, h))) = tX1_limitsAreRight_101 x0 x1 h := fun _ _ _ => rfl
theorem aX1_typesAreThere_0 : ∀ x0 x1 x2 h, sX1_typesAreThere (.inl (x0, x1, x2, h)) = tX1_typesAreThere_4 x0 x1 x2 h := fun _ _ _ _ => rfl
theorem aX1_typesAreThere_1 : ∀ x0 x2 h, sX1_typesAreThere (.inr (x0, x2, h)) = tX1_typesAreThere_81 x0 x2 h := fun _ _ _ => rfl
theorem aX2_branchByTable_0 : ∀ x0 x1 x2 x3 x5 h, sX2_branchByTable (x0, x1, x2, x3, x5, h) = tX2_branchByTable_43 x0 x1 x2 x3 x5 h := fun _ _ _ _ _ _ => rfl
theorem aX2_calling_0 : ∀ x0 x1 x2 x3 s0 h, sX2_calling (.inl (x0, x1, x2, x3, s0, h)) = tX2_calling_13 x0 x1 x2 x3 s0 h := fun _ _ _ _ _ _ => rfl
theorem aX2_calling_1 : ∀ x0 x7 x8 h, sX2_calling (.inr (x0, x7, x8, h)) = tX2_calling_132 x0 x7 x8 h := fun _ _ _ _ => rfl
theorem aX10_hasRoom_0 : ∀ h x0 x1 x2 x3 x4 x5, sX10_hasRoom h (.inl (x0, x1, x2, x3, x4, x5)) = tX10_hasRoom_10 h x0 x1 x2 x3 x4 x5 := fun _ _ _ _ _ _ _ => rfl
theorem aX10_hasRoom_1 : ∀ h x0 x1 x4 x5 x6 x7 x8 x10, sX10_hasRoom h (.inr (x0, x1, x4, x5, x6, x7, x8, x10)) = tX10_hasRoom_82 h x0 x1 x4 x5 x6 x7 x8 x10 := fun _ _ _ _ _ _ _ _ _ => rfl
theorem aX16_accesses1_0 : ∀ x0 x1 x6 x7 x8 x10 x12 h, sX16_accesses1 (.inl (x0, x1, x6, x7, x8, x10, x12, h)) = tX16_accesses1_136 x0 x1 x6 x7 x8 x10 x12 h := fun _ _ _ _ _ _ _ _ => rfl
theorem aX16_accesses1_1 : ∀ x0 x6 x7 x8 x10 x12 h, sX16_accesses1 (.inr (x0, x6, x7, x8, x10, x12, h)) = tX16_accesses1_97 x0 x6 x7 x8 x10 x12 h := fun _ _ _ _ _ _ _ => rfl
theorem aX16_behind_0 : ∀ x0 x2 h, sX16_behind (.inl (x0, x2, h)) = tX16_behind_34 x0 x2 h := fun _ _ _ => rfl
theorem aX16_behind_1 : ∀ x0 x2 h, sX16_behind (.inr (.inl (x0, x2, h))) = tX16_behind_204 x0 x2 h := fun _ _ _ => rfl
theorem aX16_behind_2 : ∀ x0 x3 x5 h, sX16_behind (.inr (.inr (x0, x3, x5, h))) = tX16_behind_90 x0 x3 x5 h := fun _ _ _ _ => rfl
theorem aX16_declaresIn_0 : ∀ x0 x2 h, sX16_declaresIn (.inl (x0, x2, h)) = tX16_declaresIn_2 x0 x2 h := fun _ _ _ => rfl
theorem aX16_declaresIn_1 : ∀ x0 x2 h, sX16_declaresIn (.inr (.inl (x0, x2, h))) = tX16_declaresIn_22 x0 x2 h := fun _ _ _ => rfl
theorem aX16_declaresIn_2 : ∀ x0 x2 x3 s0 s1 h, sX16_declaresIn (.inr (.inr (.inl (x0, x2, x3, s0, s1, h)))) = tX16_declaresIn_50 x0 x2 x3 s0 s1 h := fun _ _ _ _ _ _ => rfl
theorem aX16_declaresIn_3 : ∀ x0 x2 x3 s0 s1 s2 h, sX16_declaresIn (.inr (.inr (.inr (x0, x2, x3, s0, s1, s2, h)))) = tX16_declaresIn_61 x0 x2 x3 s0 s1 s2 h := fun _ _ _ _ _ _ _ => rfl
theorem aX16_enters_0 : ∀ x0 x1 x2 x3 x4 x5 s0 h, sX16_enters (.inl (x0, x1, x2, x3, x4, x5, s0, h)) = tX16_enters_111 x0 x1 x2 x3 x4 x5 s0 h := fun _ _ _ _ _ _ _ _ => rfl
theorem aX16_enters_1 : ∀ x0 x1 x2 x3 x4 x6 x7 h, sX16_enters (.inr (.inl (x0, x1, x2, x3, x4, x6, x7, h))) = tX16_enters_267 x0 x1 x2 x3 x4 x6 x7 h := fun _ _ _ _ _ _ _ _ => rfl
theorem aX16_enters_2 : ∀ x0 x1 x2 x3 x7 h, sX16_enters (.inr (.inr (.inl (x0, x1, x2, x3, x7, h)))) = tX16_enters_322 x0 x1 x2 x3 x7 h := fun _ _ _ _ _ _ => rfl
theorem aX16_enters_3 : ∀ x0 x1 x2 x3 x7 x9 x11 h, sX16_enters (.inr (.inr (.inr (x0, x1, x2, x3, x7, x9, x11, h)))) = tX16_enters_368 x0 x1 x2 x3 x7 x9 x11 h := fun _ _ _ _ _ _ _ _ => rfl
theorem aX16_goesOn_0 : ∀ x0 h, sX16_goesOn (x0, h) = tX16_goesOn_0 x0 h := fun _ _ => rfl
theorem aX16_invokes_0 : ∀ x0 x1 x2 x3 h, sX16_invokes (x0, x1, x2, x3, h) = tX16_invokes_18 x0 x1 x2 x3 h := fun _ _ _ _ _ => rfl
theorem aX16_isNamed_0 : ∀ x0 x2 h, sX16_isNamed (.inl (x0, x2, h)) = tX16_isNamed_39 x0 x2 h := fun _ _ _ => rfl
theorem aX16_isNamed_1 : ∀ x0 x2 h, sX16_isNamed (.inr (.inl (x0, x2, h))) = tX16_isNamed_290 x0 x2 h := fun _ _ _ => rfl
theorem aX16_isNamed_2 : ∀ x0 x3 x5 x6 h, sX16_isNamed (.inr (.inr (x0, x3, x5, x6, h))) = tX16_isNamed_87 x0 x3 x5 x6 h := fun _ _ _ _ _ => rfl
theorem aX16_quotient_0 : ∀ x0 x1 s0 h, sX16_quotient (.inl (x0, x1, s0, h)) = tX16_quotient_41 x0 x1 s0 h := fun _ _ _ _ => rfl
theorem aX16_quotient_1 : ∀ x1 x6 x7 x9 x11 h, sX16_quotient (.inr (.inl (x1, x6, x7, x9, x11, h))) = tX16_quotient_195 x1 x6 x7 x9 x11 h := fun _ _ _ _ _ _ => rfl
theorem aX16_quotient_2 : ∀ x1 x6 x7 x9 x11 h, sX16_quotient (.inr (.inr (.inl (x1, x6, x7, x9, x11, h)))) = tX16_quotient_216 x1 x6 x7 x9 x11 h := fun _ _ _ _ _ _ => rfl
theorem aX16_quotient_3 : ∀ x1 x6 x7 x9 x11 x12 x14 h, sX16_quotient (.inr (.inr (.inr (x1, x6, x7, x9, x11, x12, x14, h)))) = tX16_quotient_243 x1 x6 x7 x9 x11 x12 x14 h := fun _ _ _ _ _ _ _ _ => rfl
theorem aX16_root_0 : ∀ x1 x4 x6 h, sX16_root (.inl (x1, x4, x6, h)) = tX16_root_79 x1 x4 x6 h := fun _ _ _ _ => rfl
theorem aX16_root_1 : ∀ x1 x4 x6 x7 x9 x11 h, sX16_root (.inr (x1, x4, x6, x7, x9, x11, h)) = tX16_root_117 x1 x4 x6 x7 x9 x11 h := fun _ _ _ _ _ _ _ => rfl
theorem aX16_turns_0 : ∀ x0 x8 x10 x12 h, sX16_turns (x0, x8, x10, x12, h) = tX16_turns_222 x0 x8 x10 x12 h := fun _ _ _ _ _ => rfl
theorem aX16_answer_0 : ∀ x0 x1 x2 x3 h, sX16_answer (x0, x1, x2, x3, h) = tX16_answer_64 x0 x1 x2 x3 h := fun _ _ _ _ _ => rfl
theorem aX16_declares_0 : ∀ x0 x1 h, sX16_declares (.inl (x0, x1, h)) = tX16_declares_2 x0 x1 h := fun _ _ _ => rfl
theorem aX16_declares_1 : ∀ x0 x1 h, sX16_declares (.inr (.inl (x0, x1, h))) = tX16_declares_29 x0 x1 h := fun _ _ _ => rfl
theorem aX16_declares_2 : ∀ x0 x1 h, sX16_declares (.inr (.inr (.inl (x0, x1, h)))) = tX16_declares_61 x0 x1 h := fun _ _ _ => rfl
theorem aX16_declares_3 : ∀ x0 x1 h, sX16_declares (.inr (.inr (.inr (.inl (x0, x1, h))))) = tX16_declares_170 x0 x1 h := fun _ _ _ => rfl
theorem aX16_declares_4 : ∀ x0 x1 x2 h, sX16_declares (.inr (.inr (.inr (.inr (x0, x1, x2, h))))) = tX16_declares_112 x0 x1 x2 h := fun _ _ _ _ => rfl
theorem aX16_startsUp_0 : ∀ x0 x1 x2 h, sX16_startsUp (.inl (x0, x1, x2, h)) = tX16_startsUp_2 x0 x1 x2 h := fun _ _ _ _ => rfl
theorem aX16_startsUp_1 : ∀ x0 x1 x2 h, sX16_startsUp (.inr (x0, x1, x2, h)) = tX16_startsUp_116 x0 x1 x2 h := fun _ _ _ _ => rfl
theorem aX16_call_0 : ∀ x0 x3 x4 h, sX16_call (x0, x3, x4, h) = tX16_call_49 x0 x3 x4 h := fun _ _ _ _ => rfl
theorem aX16_run_0 : ∀ x0 x1 x2 h, sX16_run (x0, x1, x2, h) = tX16_run_15 x0 x1 x2 h := fun _ _ _ _ => rfl
theorem aX16_takeParameters_0 : ∀ x0 x1 x3 h, sX16_takeParameters (x0, x1, x3, h) = tX16_takeParameters_8 x0 x1 x3 h := fun _ _ _ _ => rfl
theorem aX16_takeResults_0 : ∀ x0 x1 x3 h, sX16_takeResults (x0, x1, x3, h) = tX16_takeResults_8 x0 x1 x3 h := fun _ _ _ _ => rfl
theorem aX16_takeWanted_0 : ∀ x0 x1 x2 h, sX16_takeWanted (x0, x1, x2, h) = tX16_takeWanted_8 x0 x1 x2 h := fun _ _ _ _ => rfl
theorem aX16_takes_0 : ∀ x0 x1 x2 x3 h, sX16_takes (x0, x1, x2, x3, h) = tX16_takes_2 x0 x1 x2 x3 h := fun _ _ _ _ _ => rfl
theorem aX16_character_0 : ∀ x0 x1 x2 x3 h, sX16_character (.inl (x0, x1, x2, x3, h)) = tX16_character_38 x0 x1 x2 x3 h := fun _ _ _ _ _ => rfl
theorem aX16_character_1 : ∀ x0 x1 x2 x3 s0 h, sX16_character (.inr (.inl (x0, x1, x2, x3, s0, h))) = tX16_character_76 x0 x1 x2 x3 s0 h := fun _ _ _ _ _ _ => rfl
theorem aX16_character_2 : ∀ x0 x1 x3 x4 h, sX16_character (.inr (.inr (.inl (x0, x1, x3, x4, h)))) = tX16_character_93 x0 x1 x3 x4 h := fun _ _ _ _ _ => rfl
theorem aX16_character_3 : ∀ x0 x1 x4 x5 x6 h, sX16_character (.inr (.inr (.inr (.inl (x0, x1, x4, x5, x6, h))))) = tX16_character_137 x0 x1 x4 x5 x6 h := fun _ _ _ _ _ _ => rfl
theorem aX16_character_4 : ∀ x0 x1 x4 h, sX16_character (.inr (.inr (.inr (.inr (.inl (x0, x1, x4, h)))))) = tX16_character_263 x0 x1 x4 h := fun _ _ _ _ => rfl
theorem aX16_character_5 : ∀ x0 x1 x4 x5 h, sX16_character (.inr (.inr (.inr (.inr (.inr (.inl (x0, x1, x4, x5, h))))))) = tX16_character_211 x0 x1 x4 x5 h := fun _ _ _ _ _ => rfl
theorem aX16_character_6 : ∀ x0 x1 x4 x5 h, sX16_character (.inr (.inr (.inr (.inr (.inr (.inr (.inl (x0, x1, x4, x5, h)))))))) = tX16_character_241 x0 x1 x4 x5 h := fun _ _ _ _ _ => rfl
theorem aX16_character_7 : ∀ x0 x1 x4 h, sX16_character (.inr (.inr (.inr (.inr (.inr (.inr (.inr (x0, x1, x4, h)))))))) = tX16_character_267 x0 x1 x4 h := fun _ _ _ _ => rfl
theorem aX16_checksExports_0 : ∀ x0 x1 h, sX16_checksExports (.inl (x0, x1, h)) = tX16_checksExports_2 x0 x1 h := fun _ _ _ => rfl
theorem aX16_checksExports_1 : ∀ x0 x1 x2 h, sX16_checksExports (.inr (x0, x1, x2, h)) = tX16_checksExports_61 x0 x1 x2 h := fun _ _ _ _ => rfl
theorem aX16_checksLimits_0 : ∀ x0 x1 h, sX16_checksLimits (.inl (x0, x1, h)) = tX16_checksLimits_2 x0 x1 h := fun _ _ _ => rfl
theorem aX16_checksLimits_1 : ∀ x0 x1 h, sX16_checksLimits (.inr (.inl (x0, x1, h))) = tX16_checksLimits_90 x0 x1 h := fun _ _ _ => rfl
theorem aX16_checksLimits_2 : ∀ x0 x1 x2 h, sX16_checksLimits (.inr (.inr (.inl (x0, x1, x2, h)))) = tX16_checksLimits_33 x0 x1 x2 h := fun _ _ _ _ => rfl
theorem aX16_checksLimits_3 : ∀ x0 x1 h, sX16_checksLimits (.inr (.inr (.inr (x0, x1, h)))) = tX16_checksLimits_149 x0 x1 h := fun _ _ _ => rfl
theorem aX16_checksTypes_0 : ∀ x0 x1 h, sX16_checksTypes (.inl (x0, x1, h)) = tX16_checksTypes_2 x0 x1 h := fun _ _ _ => rfl
theorem aX16_checksTypes_1 : ∀ x0 x1 h, sX16_checksTypes (.inr (x0, x1, h)) = tX16_checksTypes_69 x0 x1 h := fun _ _ _ => rfl
theorem aX16_constantly_0 : ∀ x0 x1 x2 x3 x4 x5 h, sX16_constantly (.inl (x0, x1, x2, x3, x4, x5, h)) = tX16_constantly_8 x0 x1 x2 x3 x4 x5 h := fun _ _ _ _ _ _ _ => rfl
theorem aX16_constantly_1 : ∀ x0 x2 x3 x4 x5 x6 h, sX16_constantly (.inr (x0, x2, x3, x4, x5, x6, h)) = tX16_constantly_57 x0 x2 x3 x4 x5 x6 h := fun _ _ _ _ _ _ _ => rfl
theorem aX16_number_0 : ∀ x0 x1 x3 h, sX16_number (.inl (x0, x1, x3, h)) = tX16_number_4 x0 x1 x3 h := fun _ _ _ _ => rfl
theorem aX16_number_1 : ∀ x0 x1 x3 x4 h, sX16_number (.inr (x0, x1, x3, x4, h)) = tX16_number_38 x0 x1 x3 x4 h := fun _ _ _ _ _ => rfl
theorem aX16_putParameters_0 : ∀ x0 x1 x3 h, sX16_putParameters (x0, x1, x3, h) = tX16_putParameters_2 x0 x1 x3 h := fun _ _ _ _ => rfl
theorem aX16_putResults_0 : ∀ x0 x1 x3 h, sX16_putResults (x0, x1, x3, h) = tX16_putResults_2 x0 x1 x3 h := fun _ _ _ _ => rfl
theorem aX16_readsFunctions_0 : ∀ x0 x1 x3 h, sX16_readsFunctions (x0, x1, x3, h) = tX16_readsFunctions_27 x0 x1 x3 h := fun _ _ _ _ => rfl
theorem aX16_signed_0 : ∀ x0 x1 x2 x3 x5 h, sX16_signed (.inl (x0, x1, x2, x3, x5, h)) = tX16_signed_18 x0 x1 x2 x3 x5 h := fun _ _ _ _ _ _ => rfl
theorem aX16_signed_1 : ∀ x0 x1 x2 x3 x5 x6 h, sX16_signed (.inr (.inl (x0, x1, x2, x3, x5, x6, h))) = tX16_signed_110 x0 x1 x2 x3 x5 x6 h := fun _ _ _ _ _ _ _ => rfl
theorem aX16_signed_2 : ∀ x0 x1 x2 x3 x5 x6 s0 s1 h, sX16_signed (.inr (.inr (x0, x1, x2, x3, x5, x6, s0, s1, h))) = tX16_signed_96 x0 x1 x2 x3 x5 x6 s0 s1 h := fun _ _ _ _ _ _ _ _ _ => rfl
theorem aX16_typeRow_0 : ∀ x0 x1 x2 x4 h, sX16_typeRow (x0, x1, x2, x4, h) = tX16_typeRow_25 x0 x1 x2 x4 h := fun _ _ _ _ _ => rfl
theorem aX16_checksElement_0 : ∀ x0 x1 x2 h, sX16_checksElement (.inl (x0, x1, x2, h)) = tX16_checksElement_81 x0 x1 x2 h := fun _ _ _ _ => rfl
theorem aX16_checksElement_1 : ∀ x0 x1 x2 x3 h, sX16_checksElement (.inr (.inl (x0, x1, x2, x3, h))) = tX16_checksElement_38 x0 x1 x2 x3 h := fun _ _ _ _ _ => rfl
theorem aX16_checksElement_2 : ∀ x0 x1 x3 h, sX16_checksElement (.inr (.inr (x0, x1, x3, h))) = tX16_checksElement_175 x0 x1 x3 h := fun _ _ _ _ => rfl
theorem aX16_chooses_0 : ∀ x0 x1 x2 x3 x4 h, sX16_chooses (.inl (x0, x1, x2, x3, x4, h)) = tX16_chooses_16 x0 x1 x2 x3 x4 h := fun _ _ _ _ _ _ => rfl
theorem aX16_chooses_1 : ∀ x0 x1 x3 x4 x5 h, sX16_chooses (.inr (.inl (x0, x1, x3, x4, x5, h))) = tX16_chooses_56 x0 x1 x3 x4 x5 h := fun _ _ _ _ _ _ => rfl
theorem aX16_chooses_2 : ∀ x0 x1 x3 x4 x5 x6 x7 h, sX16_chooses (.inr (.inr (.inl (x0, x1, x3, x4, x5, x6, x7, h)))) = tX16_chooses_96 x0 x1 x3 x4 x5 x6 x7 h := fun _ _ _ _ _ _ _ _ => rfl
theorem aX16_chooses_3 : ∀ x0 x1 x3 x4 x5 x7 h, sX16_chooses (.inr (.inr (.inr (x0, x1, x3, x4, x5, x7, h)))) = tX16_chooses_129 x0 x1 x3 x4 x5 x7 h := fun _ _ _ _ _ _ _ => rfl
theorem aX16_ends_0 : ∀ x0 x1 x2 x3 h, sX16_ends (.inl (x0, x1, x2, x3, h)) = tX16_ends_42 x0 x1 x2 x3 h := fun _ _ _ _ _ => rfl
theorem aX16_ends_1 : ∀ x0 x2 x3 x5 x6 h, sX16_ends (.inr (.inl (x0, x2, x3, x5, x6, h))) = tX16_ends_100 x0 x2 x3 x5 x6 h := fun _ _ _ _ _ _ => rfl
theorem aX16_ends_2 : ∀ x0 x3 x5 h, sX16_ends (.inr (.inr (x0, x3, x5, h))) = tX16_ends_155 x0 x3 x5 h := fun _ _ _ _ => rfl
theorem aX16_name_0 : ∀ x0 x1 x3 h, sX16_name (.inl (x0, x1, x3, h)) = tX16_name_15 x0 x1 x3 h := fun _ _ _ _ => rfl
theorem aX16_name_1 : ∀ x0 x3 h, sX16_name (.inr (x0, x3, h)) = tX16_name_39 x0 x3 h := fun _ _ _ => rfl
theorem aX16_operands_0 : ∀ x0 x1 x4 h, sX16_operands (.inl (x0, x1, x4, h)) = tX16_operands_247 x0 x1 x4 h := fun _ _ _ _ => rfl
theorem aX16_operands_1 : ∀ x0 x4 x6 h, sX16_operands (.inr (.inl (x0, x4, x6, h))) = tX16_operands_150 x0 x4 x6 h := fun _ _ _ _ => rfl
theorem aX16_operands_2 : ∀ x0 x4 x6 h, sX16_operands (.inr (.inr (x0, x4, x6, h))) = tX16_operands_89 x0 x4 x6 h := fun _ _ _ _ => rfl
theorem aX16_readsExports_0 : ∀ x0 x1 x3 h, sX16_readsExports (x0, x1, x3, h) = tX16_readsExports_19 x0 x1 x3 h := fun _ _ _ _ => rfl
theorem aX16_readsImports_0 : ∀ x0 x1 x3 h, sX16_readsImports (.inl (x0, x1, x3, h)) = tX16_readsImports_19 x0 x1 x3 h := fun _ _ _ _ => rfl
theorem aX16_readsImports_1 : ∀ x0 x1 x3 x5 x6 x8 h, sX16_readsImports (.inr (x0, x1, x3, x5, x6, x8, h)) = tX16_readsImports_125 x0 x1 x3 x5 x6 x8 h := fun _ _ _ _ _ _ _ => rfl
theorem aX16_readsMemories_0 : ∀ x0 x1 x3 h, sX16_readsMemories (x0, x1, x3, h) = tX16_readsMemories_19 x0 x1 x3 h := fun _ _ _ _ => rfl
theorem aX16_readsTables_0 : ∀ x0 x1 x3 h, sX16_readsTables (x0, x1, x3, h) = tX16_readsTables_19 x0 x1 x3 h := fun _ _ _ _ => rfl
theorem aX16_readsTypes_0 : ∀ x0 x1 x3 h, sX16_readsTypes (.inl (x0, x1, x3, h)) = tX16_readsTypes_19 x0 x1 x3 h := fun _ _ _ _ => rfl
theorem aX16_readsTypes_1 : ∀ x0 x1 x3 h, sX16_readsTypes (.inr (.inl (x0, x1, x3, h))) = tX16_readsTypes_50 x0 x1 x3 h := fun _ _ _ _ => rfl
theorem aX16_readsTypes_2 : ∀ x0 x1 x3 s0 h, sX16_readsTypes (.inr (.inr (.inl (x0, x1, x3, s0, h)))) = tX16_readsTypes_64 x0 x1 x3 s0 h := fun _ _ _ _ _ => rfl
theorem aX16_readsTypes_3 : ∀ x0 x1 x3 x6 s0 s1 h, sX16_readsTypes (.inr (.inr (.inr (x0, x1, x3, x6, s0, s1, h)))) = tX16_readsTypes_81 x0 x1 x3 x6 s0 s1 h := fun _ _ _ _ _ _ _ => rfl
theorem aX16_controls_0 : ∀ x0 x4 x5 h, sX16_controls (x0, x4, x5, h) = tX16_controls_222 x0 x4 x5 h := fun _ _ _ _ => rfl
theorem aX16_expression_0 : ∀ x0 x1 x2 h, sX16_expression (.inl (x0, x1, x2, h)) = tX16_expression_9 x0 x1 x2 h := fun _ _ _ _ => rfl
theorem aX16_expression_1 : ∀ x0 x1 x2 x3 x4 h, sX16_expression (.inr (x0, x1, x2, x3, x4, h)) = tX16_expression_137 x0 x1 x2 x3 x4 h := fun _ _ _ _ _ _ => rfl
theorem aX16_readsBody_0 : ∀ x0 x1 x2 x3 x5 x7 h, sX16_readsBody (.inl (x0, x1, x2, x3, x5, x7, h)) = tX16_readsBody_16 x0 x1 x2 x3 x5 x7 h := fun _ _ _ _ _ _ _ => rfl
theorem aX16_readsBody_1 : ∀ x0 x1 x2 x5 h, sX16_readsBody (.inr (x0, x1, x2, x5, h)) = tX16_readsBody_63 x0 x1 x2 x5 h := fun _ _ _ _ _ => rfl
theorem aX16_readsDatas_0 : ∀ x0 x1 x3 h, sX16_readsDatas (.inl (x0, x1, x3, h)) = tX16_readsDatas_27 x0 x1 x3 h := fun _ _ _ _ => rfl
theorem aX16_readsDatas_1 : ∀ x0 x1 x3 x6 h, sX16_readsDatas (.inr (.inl (x0, x1, x3, x6, h))) = tX16_readsDatas_62 x0 x1 x3 x6 h := fun _ _ _ _ _ => rfl
theorem aX16_readsDatas_2 : ∀ x0 x1 x3 x6 s0 h, sX16_readsDatas (.inr (.inr (.inl (x0, x1, x3, x6, s0, h)))) = tX16_readsDatas_77 x0 x1 x3 x6 s0 h := fun _ _ _ _ _ _ => rfl
theorem aX16_readsDatas_3 : ∀ x0 x1 x3 x6 x8 s0 s1 s2 h, sX16_readsDatas (.inr (.inr (.inr (.inl (x0, x1, x3, x6, x8, s0, s1, s2, h))))) = tX16_readsDatas_100 x0 x1 x3 x6 x8 s0 s1 s2 h := fun _ _ _ _ _ _ _ _ _ => rfl
theorem aX16_readsDatas_4 : ∀ x0 x1 x3 x8 x9 x11 h, sX16_readsDatas (.inr (.inr (.inr (.inr (x0, x1, x3, x8, x9, x11, h))))) = tX16_readsDatas_177 x0 x1 x3 x8 x9 x11 h := fun _ _ _ _ _ _ _ => rfl
theorem aX16_readsElement_0 : ∀ x0 x1 x2 s0 h, sX16_readsElement (.inl (x0, x1, x2, s0, h)) = tX16_readsElement_11 x0 x1 x2 s0 h := fun _ _ _ _ _ => rfl
theorem aX16_readsElement_1 : ∀ x0 x1 x2 x3 s0 s1 s2 h, sX16_readsElement (.inr (.inl (x0, x1, x2, x3, s0, s1, s2, h))) = tX16_readsElement_39 x0 x1 x2 x3 s0 s1 s2 h := fun _ _ _ _ _ _ _ _ => rfl
theorem aX16_readsElement_2 : ∀ x0 x1 x2 x3 s0 s1 h, sX16_readsElement (.inr (.inr (.inl (x0, x1, x2, x3, s0, s1, h)))) = tX16_readsElement_65 x0 x1 x2 x3 s0 s1 h := fun _ _ _ _ _ _ _ => rfl
theorem aX16_readsElement_3 : ∀ x0 x1 x2 x3 s0 s1 s2 h, sX16_readsElement (.inr (.inr (.inr (.inl (x0, x1, x2, x3, s0, s1, s2, h))))) = tX16_readsElement_66 x0 x1 x2 x3 s0 s1 s2 h := fun _ _ _ _ _ _ _ _ => rfl
theorem aX16_readsElement_4 : ∀ x0 x1 x2 h, sX16_readsElement (.inr (.inr (.inr (.inr (.inl (x0, x1, x2, h)))))) = tX16_readsElement_89 x0 x1 x2 h := fun _ _ _ _ => rfl
theorem aX16_readsElement_5 : ∀ x0 x1 x2 s0 s1 s2 h, sX16_readsElement (.inr (.inr (.inr (.inr (.inr (.inl (x0, x1, x2, s0, s1, s2, h))))))) = tX16_readsElement_108 x0 x1 x2 s0 s1 s2 h := fun _ _ _ _ _ _ _ => rfl
theorem aX16_readsElement_6 : ∀ x0 x1 x2 x4 x6 h, sX16_readsElement (.inr (.inr (.inr (.inr (.inr (.inr (x0, x1, x2, x4, x6, h))))))) = tX16_readsElement_180 x0 x1 x2 x4 x6 h := fun _ _ _ _ _ _ => rfl
theorem aX16_readsElements_0 : ∀ x0 x1 x3 h, sX16_readsElements (.inl (x0, x1, x3, h)) = tX16_readsElements_19 x0 x1 x3 h := fun _ _ _ _ => rfl
theorem aX16_readsElements_1 : ∀ x0 x1 x3 x6 h, sX16_readsElements (.inr (x0, x1, x3, x6, h)) = tX16_readsElements_54 x0 x1 x3 x6 h := fun _ _ _ _ _ => rfl
theorem aX16_readsGlobals_0 : ∀ x0 x1 x3 h, sX16_readsGlobals (.inl (x0, x1, x3, h)) = tX16_readsGlobals_19 x0 x1 x3 h := fun _ _ _ _ => rfl
theorem aX16_readsGlobals_1 : ∀ x0 x1 x3 x5 s0 h, sX16_readsGlobals (.inr (x0, x1, x3, x5, s0, h)) = tX16_readsGlobals_45 x0 x1 x3 x5 s0 h := fun _ _ _ _ _ _ => rfl
theorem aX16_checksBody_0 : ∀ x0 x1 x2 x3 h, sX16_checksBody (x0, x1, x2, x3, h) = tX16_checksBody_58 x0 x1 x2 x3 h := fun _ _ _ _ _ => rfl
theorem aX16_readsBodies_0 : ∀ x0 x1 x3 h, sX16_readsBodies (.inl (x0, x1, x3, h)) = tX16_readsBodies_15 x0 x1 x3 h := fun _ _ _ _ => rfl
theorem aX16_readsBodies_1 : ∀ x0 x1 x3 x6 h, sX16_readsBodies (.inr (x0, x1, x3, x6, h)) = tX16_readsBodies_56 x0 x1 x3 x6 h := fun _ _ _ _ _ => rfl
theorem aX16_checksAll_0 : ∀ x0 h, sX16_checksAll (.inl (x0, h)) = tX16_checksAll_23 x0 h := fun _ _ => rfl
theorem aX16_checksAll_1 : ∀ x0 h, sX16_checksAll (.inr (.inl (x0, h))) = tX16_checksAll_82 x0 h := fun _ _ => rfl
theorem aX16_checksAll_2 : ∀ x0 s0 s1 s2 h, sX16_checksAll (.inr (.inr (.inl (x0, s0, s1, s2, h)))) = tX16_checksAll_79 x0 s0 s1 s2 h := fun _ _ _ _ _ => rfl
theorem aX16_checksAll_3 : ∀ x0 x1 h, sX16_checksAll (.inr (.inr (.inr (.inl (x0, x1, h))))) = tX16_checksAll_196 x0 x1 h := fun _ _ _ => rfl
theorem aX16_checksAll_4 : ∀ x0 s0 h, sX16_checksAll (.inr (.inr (.inr (.inr (.inl (x0, s0, h)))))) = tX16_checksAll_123 x0 s0 h := fun _ _ _ => rfl
theorem aX16_checksAll_5 : ∀ x0 x1 h, sX16_checksAll (.inr (.inr (.inr (.inr (.inr (.inl (x0, x1, h))))))) = tX16_checksAll_237 x0 x1 h := fun _ _ _ => rfl
theorem aX16_checksAll_6 : ∀ x0 x1 s0 h, sX16_checksAll (.inr (.inr (.inr (.inr (.inr (.inr (.inl (x0, x1, s0, h)))))))) = tX16_checksAll_147 x0 x1 s0 h := fun _ _ _ _ => rfl
theorem aX16_checksAll_7 : ∀ x0 x1 h, sX16_checksAll (.inr (.inr (.inr (.inr (.inr (.inr (.inr (.inl (x0, x1, h))))))))) = tX16_checksAll_261 x0 x1 h := fun _ _ _ => rfl
theorem aX16_checksAll_8 : ∀ x0 x1 h, sX16_checksAll (.inr (.inr (.inr (.inr (.inr (.inr (.inr (.inr (x0, x1, h))))))))) = tX16_checksAll_357 x0 x1 h := fun _ _ _ => rfl
theorem aX16_readsAll_0 : ∀ x0 x1 h, sX16_readsAll (.inl (x0, x1, h)) = tX16_readsAll_19 x0 x1 h := fun _ _ _ => rfl
theorem aX16_readsAll_1 : ∀ x0 x1 h, sX16_readsAll (.inr (.inl (x0, x1, h))) = tX16_readsAll_61 x0 x1 h := fun _ _ _ => rfl
theorem aX16_readsAll_2 : ∀ x0 x1 x2 x3 h, sX16_readsAll (.inr (.inr (.inl (x0, x1, x2, x3, h)))) = tX16_readsAll_110 x0 x1 x2 x3 h := fun _ _ _ _ _ => rfl
theorem aX16_readsAll_3 : ∀ x0 x1 x2 x3 h, sX16_readsAll (.inr (.inr (.inr (x0, x1, x2, x3, h)))) = tX16_readsAll_129 x0 x1 x2 x3 h := fun _ _ _ _ _ => rfl
theorem aX6_copy_0 : ∀ x0 x1 x2 x4 x6 x8 x10 h, sX6_copy (.inl (x0, x1, x2, x4, x6, x8, x10, h)) = tX6_copy_6 x0 x1 x2 x4 x6 x8 x10 h := fun _ _ _ _ _ _ _ _ => rfl
theorem aX6_copy_1 : ∀ x0 x1 x2 x4 x6 x8 x10 x11 s0 h, sX6_copy (.inr (.inl (x0, x1, x2, x4, x6, x8, x10, x11, s0, h))) = tX6_copy_40 x0 x1 x2 x4 x6 x8 x10 x11 s0 h := fun _ _ _ _ _ _ _ _ _ _ => rfl
theorem aX6_copy_2 : ∀ x0 x1 x2 x4 x6 x8 x10 x11 x13 s0 h, sX6_copy (.inr (.inr (.inl (x0, x1, x2, x4, x6, x8, x10, x11, x13, s0, h)))) = tX6_copy_60 x0 x1 x2 x4 x6 x8 x10 x11 x13 s0 h := fun _ _ _ _ _ _ _ _ _ _ _ => rfl
theorem aX6_copy_3 : ∀ x0 x1 x2 x4 x6 x8 x10 x11 x13 x14 s0 h, sX6_copy (.inr (.inr (.inr (.inl (x0, x1, x2, x4, x6, x8, x10, x11, x13, x14, s0, h))))) = tX6_copy_82 x0 x1 x2 x4 x6 x8 x10 x11 x13 x14 s0 h := fun _ _ _ _ _ _ _ _ _ _ _ _ => rfl
theorem aX6_copy_4 : ∀ x0 x1 x2 x4 x6 x8 x10 x11 x13 x14 x16 s0 h, sX6_copy (.inr (.inr (.inr (.inr (.inl (x0, x1, x2, x4, x6, x8, x10, x11, x13, x14, x16, s0, h)))))) = tX6_copy_108 x0 x1 x2 x4 x6 x8 x10 x11 x13 x14 x16 s0 h := fun _ _ _ _ _ _ _ _ _ _ _ _ _ => rfl
theorem aX6_copy_5 : ∀ x0 x1 x2 x4 x6 x8 x10 x11 x13 x14 x16 x18 s0 h, sX6_copy (.inr (.inr (.inr (.inr (.inr (x0, x1, x2, x4, x6, x8, x10, x11, x13, x14, x16, x18, s0, h)))))) = tX6_copy_134 x0 x1 x2 x4 x6 x8 x10 x11 x13 x14 x16 x18 s0 h := fun _ _ _ _ _ _ _ _ _ _ _ _ _ _ => rfl
theorem aX9_number_0 : ∀ x0 x1 x2 x3 x5 h, sX9_number (.inl (x0, x1, x2, x3, x5, h)) = tX9_number_10 x0 x1 x2 x3 x5 h := fun _ _ _ _ _ _ => rfl
theorem aX9_number_1 : ∀ x0 x1 x2 x3 x5 x7 h, sX9_number (.inr (.inl (x0, x1, x2, x3, x5, x7, h))) = tX9_number_83 x0 x1 x2 x3 x5 x7 h := fun _ _ _ _ _ _ _ => rfl
theorem aX9_number_2 : ∀ x0 x1 x2 x3 x5 x6 x7 s0 s1 s2 h, sX9_number (.inr (.inr (x0, x1, x2, x3, x5, x6, x7, s0, s1, s2, h))) = tX9_number_68 x0 x1 x2 x3 x5 x6 x7 s0 s1 s2 h := fun _ _ _ _ _ _ _ _ _ _ _ => rfl
theorem aX9_selected_0 : ∀ x0 x1 h, sX9_selected (x0, x1, h) = tX9_selected_32 x0 x1 h := fun _ _ _ => rfl
theorem aX1_readLocals_0 : ∀ x0 x1 h, sX1_readLocals (.inl (x0, x1, h)) = tX1_readLocals_17 x0 x1 h := fun _ _ _ => rfl
theorem aX1_readLocals_1 : ∀ x0 x1 x3 h, sX1_readLocals (.inr (.inl (x0, x1, x3, h))) = tX1_readLocals_69 x0 x1 x3 h := fun _ _ _ _ => rfl
theorem aX1_readLocals_2 : ∀ x0 x1 x3 x5 x6 x7 h, sX1_readLocals (.inr (.inr (x0, x1, x3, x5, x6, x7, h))) = tX1_readLocals_195 x0 x1 x3 x5 x6 x7 h := fun _ _ _ _ _ _ _ => rfl
theorem aX6_fill_0 : ∀ x0 x1 x2 x4 x5 x7 x9 h, sX6_fill (x0, x1, x2, x4, x5, x7, x9, h) = tX6_fill_6 x0 x1 x2 x4 x5 x7 x9 h := fun _ _ _ _ _ _ _ _ => rfl
theorem aX8_divide_0 : ∀ x0 x1 x3 s0, sX8_divide (.inl (x0, x1, x3, s0)) = tX8_divide_18 x0 x1 x3 s0 := fun _ _ _ _ => rfl
theorem aX8_divide_1 : ∀ x0 x1 x3 x5 s0, sX8_divide (.inr (.inl (x0, x1, x3, x5, s0))) = tX8_divide_33 x0 x1 x3 x5 s0 := fun _ _ _ _ _ => rfl
theorem aX8_divide_2 : ∀ x0 x1 x3 x5 x8 x10 x12 x14, sX8_divide (.inr (.inr (x0, x1, x3, x5, x8, x10, x12, x14))) = tX8_divide_154 x0 x1 x3 x5 x8 x10 x12 x14 := fun _ _ _ _ _ _ _ _ => rfl
theorem aX8_root_0 : ∀ x0 x3 x4 x6 x8 x10, sX8_root (x0, x3, x4, x6, x8, x10) = tX8_root_71 x0 x3 x4 x6 x8 x10 := fun _ _ _ _ _ _ => rfl
theorem aX9_labels_0 : ∀ x0 x1 h, sX9_labels (x0, x1, h) = tX9_labels_43 x0 x1 h := fun _ _ _ => rfl
theorem aX9_name_0 : ∀ x0 x1 x3 h, sX9_name (x0, x1, x3, h) = tX9_name_17 x0 x1 x3 h := fun _ _ _ _ => rfl
theorem aX10_alongMemory_0 : ∀ x0 x1 x2 x3 x4 x6 x8 x10 x11 h, sX10_alongMemory (.inl (x0, x1, x2, x3, x4, x6, x8, x10, x11, h)) = tX10_alongMemory_71 x0 x1 x2 x3 x4 x6 x8 x10 x11 h := fun _ _ _ _ _ _ _ _ _ _ => rfl
theorem aX10_alongMemory_1 : ∀ x0 x1 x2 x3 x4 x6 x8 x10 x11 h, sX10_alongMemory (.inr (.inl (x0, x1, x2, x3, x4, x6, x8, x10, x11, h))) = tX10_alongMemory_97 x0 x1 x2 x3 x4 x6 x8 x10 x11 h := fun _ _ _ _ _ _ _ _ _ _ => rfl
theorem aX10_alongMemory_2 : ∀ x0 x1 x2 x3 x4 x6 x8 x10 h, sX10_alongMemory (.inr (.inr (.inl (x0, x1, x2, x3, x4, x6, x8, x10, h)))) = tX10_alongMemory_131 x0 x1 x2 x3 x4 x6 x8 x10 h := fun _ _ _ _ _ _ _ _ _ => rfl
theorem aX10_alongMemory_3 : ∀ x0 x4 x8 x10 x12 x13 x15 h, sX10_alongMemory (.inr (.inr (.inr (x0, x4, x8, x10, x12, x13, x15, h)))) = tX10_alongMemory_195 x0 x4 x8 x10 x12 x13 x15 h := fun _ _ _ _ _ _ _ _ => rfl
theorem aX1_constant_0 : ∀ x0 x1 x2 x3 x4 x5 h, sX1_constant (.inl (x0, x1, x2, x3, x4, x5, h)) = tX1_constant_10 x0 x1 x2 x3 x4 x5 h := fun _ _ _ _ _ _ _ => rfl
theorem aX1_constant_1 : ∀ x0 x1 x2 x3 x4 h, sX1_constant (.inr (.inl (x0, x1, x2, x3, x4, h))) = tX1_constant_145 x0 x1 x2 x3 x4 h := fun _ _ _ _ _ _ => rfl
theorem aX1_constant_2 : ∀ x0 x1 x2 x3 x4 x5 h, sX1_constant (.inr (.inr (.inl (x0, x1, x2, x3, x4, x5, h)))) = tX1_constant_67 x0 x1 x2 x3 x4 x5 h := fun _ _ _ _ _ _ _ => rfl
theorem aX1_constant_3 : ∀ x0 x1 x2 x3 x4 x5 h, sX1_constant (.inr (.inr (.inr (x0, x1, x2, x3, x4, x5, h)))) = tX1_constant_112 x0 x1 x2 x3 x4 x5 h := fun _ _ _ _ _ _ _ => rfl
theorem aX1_dataAreRight_0 : ∀ x0 x1 h, sX1_dataAreRight (x0, x1, h) = tX1_dataAreRight_2 x0 x1 h := fun _ _ _ => rfl
theorem aX1_elementsAreRight_0 : ∀ x0 x1 h, sX1_elementsAreRight (.inl (x0, x1, h)) = tX1_elementsAreRight_2 x0 x1 h := fun _ _ _ => rfl
theorem aX1_elementsAreRight_1 : ∀ x0 x1 x2 x3 x4 s0 h, sX1_elementsAreRight (.inr (.inl (x0, x1, x2, x3, x4, s0, h))) = tX1_elementsAreRight_86 x0 x1 x2 x3 x4 s0 h := fun _ _ _ _ _ _ _ => rfl
theorem aX1_elementsAreRight_2 : ∀ x0 x1 x2 x3 x4 x5 x6 x7 h, sX1_elementsAreRight (.inr (.inr (.inl (x0, x1, x2, x3, x4, x5, x6, x7, h)))) = tX1_elementsAreRight_138 x0 x1 x2 x3 x4 x5 x6 x7 h := fun _ _ _ _ _ _ _ _ _ => rfl
theorem aX1_elementsAreRight_3 : ∀ x0 x1 x2 x3 x4 x5 x6 h, sX1_elementsAreRight (.inr (.inr (.inr (.inl (x0, x1, x2, x3, x4, x5, x6, h))))) = tX1_elementsAreRight_193 x0 x1 x2 x3 x4 x5 x6 h := fun _ _ _ _ _ _ _ _ => rfl
theorem aX1_elementsAreRight_4 : ∀ x0 x1 x2 x3 x5 x6 h, sX1_elementsAreRight (.inr (.inr (.inr (.inr (.inl (x0, x1, x2, x3, x5, x6, h)))))) = tX1_elementsAreRight_237 x0 x1 x2 x3 x5 x6 h := fun _ _ _ _ _ _ _ => rfl
theorem aX1_elementsAreRight_5 : ∀ x0 x1 x2 x3 x5 x7 h, sX1_elementsAreRight (.inr (.inr (.inr (.inr (.inr (x0, x1, x2, x3, x5, x7, h)))))) = tX1_elementsAreRight_299 x0 x1 x2 x3 x5 x7 h := fun _ _ _ _ _ _ _ => rfl
theorem aX1_globalsAreRight_0 : ∀ x0 x1 h, sX1_globalsAreRight (x0, x1, h) = tX1_globalsAreRight_9 x0 x1 h := fun _ _ _ => rfl
theorem aX9_expression_0 : ∀ x0 x1 x2 h, sX9_expression (.inl (x0, x1, x2, h)) = tX9_expression_11 x0 x1 x2 h := fun _ _ _ _ => rfl
theorem aX9_expression_1 : ∀ x0 x1 x2 h, sX9_expression (.inr (.inl (x0, x1, x2, h))) = tX9_expression_50 x0 x1 x2 h := fun _ _ _ _ => rfl
theorem aX9_expression_2 : ∀ x0 x1 x2 h, sX9_expression (.inr (.inr (x0, x1, x2, h))) = tX9_expression_97 x0 x1 x2 h := fun _ _ _ _ => rfl
theorem aX9_body_0 : ∀ x0 x2 h, sX9_body (.inl (x0, x2, h)) = tX9_body_33 x0 x2 h := fun _ _ _ => rfl
theorem aX9_body_1 : ∀ x0 x4 x5 x6 x8 x10 h, sX9_body (.inr (.inl (x0, x4, x5, x6, x8, x10, h))) = tX9_body_118 x0 x4 x5 x6 x8 x10 h := fun _ _ _ _ _ _ _ => rfl
theorem aX9_body_2 : ∀ x0 x4 x5 x8 h, sX9_body (.inr (.inr (.inl (x0, x4, x5, x8, h)))) = tX9_body_158 x0 x4 x5 x8 h := fun _ _ _ _ _ => rfl
theorem aX9_body_3 : ∀ x0 x4 x8 h, sX9_body (.inr (.inr (.inr (x0, x4, x8, h)))) = tX9_body_175 x0 x4 x8 h := fun _ _ _ _ => rfl
theorem aX9_element_0 : ∀ x0 x1 x3 h, sX9_element (.inl (x0, x1, x3, h)) = tX9_element_35 x0 x1 x3 h := fun _ _ _ _ => rfl
theorem aX9_element_1 : ∀ x0 x1 x3 s0 h, sX9_element (.inr (.inl (x0, x1, x3, s0, h))) = tX9_element_48 x0 x1 x3 s0 h := fun _ _ _ _ _ => rfl
theorem aX9_element_2 : ∀ x0 x1 x3 x5 s0 h, sX9_element (.inr (.inr (.inl (x0, x1, x3, x5, s0, h)))) = tX9_element_65 x0 x1 x3 x5 s0 h := fun _ _ _ _ _ _ => rfl
theorem aX9_element_3 : ∀ x0 x1 x3 x5 x6 s0 s1 s2 h, sX9_element (.inr (.inr (.inr (.inl (x0, x1, x3, x5, x6, s0, s1, s2, h))))) = tX9_element_101 x0 x1 x3 x5 x6 s0 s1 s2 h := fun _ _ _ _ _ _ _ _ _ => rfl
theorem aX9_element_4 : ∀ x0 x1 x3 x5 x6 h, sX9_element (.inr (.inr (.inr (.inr (.inl (x0, x1, x3, x5, x6, h)))))) = tX9_element_141 x0 x1 x3 x5 x6 h := fun _ _ _ _ _ _ => rfl
theorem aX9_element_5 : ∀ x0 x1 x3 x6 h, sX9_element (.inr (.inr (.inr (.inr (.inr (.inl (x0, x1, x3, x6, h))))))) = tX9_element_167 x0 x1 x3 x6 h := fun _ _ _ _ _ => rfl
theorem aX9_element_6 : ∀ x0 x1 x6 x7 h, sX9_element (.inr (.inr (.inr (.inr (.inr (.inr (.inl (x0, x1, x6, x7, h)))))))) = tX9_element_205 x0 x1 x6 x7 h := fun _ _ _ _ _ => rfl
theorem aX9_element_7 : ∀ x0 x6 x8 x10 h, sX9_element (.inr (.inr (.inr (.inr (.inr (.inr (.inr (x0, x6, x8, x10, h)))))))) = tX9_element_290 x0 x6 x8 x10 h := fun _ _ _ _ _ => rfl
theorem aX5_init_0 : ∀ x0 x1 h, sX5_init (.inl (x0, x1, h)) = tX5_init_0 x0 x1 h := fun _ _ _ => rfl
theorem aX5_init_1 : ∀ x0 x1 s0 s1 h, sX5_init (.inr (.inl (x0, x1, s0, s1, h))) = tX5_init_9 x0 x1 s0 s1 h := fun _ _ _ _ _ => rfl
theorem aX5_init_2 : ∀ x0 x1 s0 s1 h, sX5_init (.inr (.inr (.inl (x0, x1, s0, s1, h)))) = tX5_init_18 x0 x1 s0 s1 h := fun _ _ _ _ _ => rfl
theorem aX5_init_3 : ∀ x0 x1 s0 s1 h, sX5_init (.inr (.inr (.inr (.inl (x0, x1, s0, s1, h))))) = tX5_init_28 x0 x1 s0 s1 h := fun _ _ _ _ _ => rfl
theorem aX5_init_4 : ∀ x0 x1 s0 h, sX5_init (.inr (.inr (.inr (.inr (.inl (x0, x1, s0, h)))))) = tX5_init_39 x0 x1 s0 h := fun _ _ _ _ => rfl
theorem aX5_init_5 : ∀ x0 x1 s0 s1 s2 h, sX5_init (.inr (.inr (.inr (.inr (.inr (.inl (x0, x1, s0, s1, s2, h))))))) = tX5_init_43 x0 x1 s0 s1 s2 h := fun _ _ _ _ _ _ => rfl
theorem aX5_init_6 : ∀ x0 x1 s0 h, sX5_init (.inr (.inr (.inr (.inr (.inr (.inr (.inl (x0, x1, s0, h)))))))) = tX5_init_47 x0 x1 s0 h := fun _ _ _ _ => rfl
theorem aX5_init_7 : ∀ x0 x1 x2 s0 s1 h, sX5_init (.inr (.inr (.inr (.inr (.inr (.inr (.inr (.inl (x0, x1, x2, s0, s1, h))))))))) = tX5_init_52 x0 x1 x2 s0 s1 h := fun _ _ _ _ _ _ => rfl
theorem aX5_init_8 : ∀ x0 x1 x2 s0 s1 h, sX5_init (.inr (.inr (.inr (.inr (.inr (.inr (.inr (.inr (.inl (x0, x1, x2, s0, s1, h)))))))))) = tX5_init_57 x0 x1 x2 s0 s1 h := fun _ _ _ _ _ _ => rfl
theorem aX5_init_9 : ∀ x0 x1 x2 x3 h, sX5_init (.inr (.inr (.inr (.inr (.inr (.inr (.inr (.inr (.inr (.inl (x0, x1, x2, x3, h))))))))))) = tX5_init_62 x0 x1 x2 x3 h := fun _ _ _ _ _ => rfl
theorem aX5_init_10 : ∀ x0 x1 x2 x3 s0 s1 s2 h, sX5_init (.inr (.inr (.inr (.inr (.inr (.inr (.inr (.inr (.inr (.inr (x0, x1, x2, x3, s0, s1, s2, h))))))))))) = tX5_init_79 x0 x1 x2 x3 s0 s1 s2 h := fun _ _ _ _ _ _ _ _ => rfl
theorem aX6_grow_0 : ∀ x0 x1 x2 h, sX6_grow (.inl (x0, x1, x2, h)) = tX6_grow_0 x0 x1 x2 h := fun _ _ _ _ => rfl
theorem aX6_grow_1 : ∀ x0 x1 x2 x4 s0 h, sX6_grow (.inr (.inl (x0, x1, x2, x4, s0, h))) = tX6_grow_37 x0 x1 x2 x4 s0 h := fun _ _ _ _ _ _ => rfl
theorem aX6_grow_2 : ∀ x0 x1 x2 x4 x7 h, sX6_grow (.inr (.inr (.inl (x0, x1, x2, x4, x7, h)))) = tX6_grow_69 x0 x1 x2 x4 x7 h := fun _ _ _ _ _ _ => rfl
theorem aX6_grow_3 : ∀ x0 x1 x2 x4 x7 s0 s1 s2 h, sX6_grow (.inr (.inr (.inr (x0, x1, x2, x4, x7, s0, s1, s2, h)))) = tX6_grow_109 x0 x1 x2 x4 x7 s0 s1 s2 h := fun _ _ _ _ _ _ _ _ _ => rfl
theorem aX7_shareImports_0 : ∀ x0 h, sX7_shareImports (.inl (x0, h)) = tX7_shareImports_0 x0 h := fun _ _ => rfl
theorem aX7_shareImports_1 : ∀ x0 x1 h, sX7_shareImports (.inr (.inl (x0, x1, h))) = tX7_shareImports_2 x0 x1 h := fun _ _ _ => rfl
theorem aX7_shareImports_2 : ∀ x0 x1 s0 h, sX7_shareImports (.inr (.inr (.inl (x0, x1, s0, h)))) = tX7_shareImports_17 x0 x1 s0 h := fun _ _ _ _ => rfl
theorem aX7_shareImports_3 : ∀ x0 x1 x2 x3 x4 h, sX7_shareImports (.inr (.inr (.inr (x0, x1, x2, x3, x4, h)))) = tX7_shareImports_23 x0 x1 x2 x3 x4 h := fun _ _ _ _ _ _ => rfl
theorem aX10_fillElement_0 : ∀ x0 x1 x2 h, sX10_fillElement (.inl (x0, x1, x2, h)) = tX10_fillElement_0 x0 x1 x2 h := fun _ _ _ _ => rfl
theorem aX10_fillElement_1 : ∀ x0 x1 x2 x3 x4 s0 h, sX10_fillElement (.inr (.inl (x0, x1, x2, x3, x4, s0, h))) = tX10_fillElement_42 x0 x1 x2 x3 x4 s0 h := fun _ _ _ _ _ _ _ => rfl
theorem aX10_fillElement_2 : ∀ x0 x1 x2 x3 x4 x5 s0 h, sX10_fillElement (.inr (.inr (.inl (x0, x1, x2, x3, x4, x5, s0, h)))) = tX10_fillElement_76 x0 x1 x2 x3 x4 x5 s0 h := fun _ _ _ _ _ _ _ _ => rfl
theorem aX10_fillElement_3 : ∀ x0 x1 x2 x4 x5 x6 x7 h, sX10_fillElement (.inr (.inr (.inr (x0, x1, x2, x4, x5, x6, x7, h)))) = tX10_fillElement_105 x0 x1 x2 x4 x5 x6 x7 h := fun _ _ _ _ _ _ _ _ => rfl
theorem aX10_refusal_0 : ∀ x0 x1 x2 x3 h, sX10_refusal (.inl (x0, x1, x2, x3, h)) = tX10_refusal_0 x0 x1 x2 x3 h := fun _ _ _ _ _ => rfl
theorem aX10_refusal_1 : ∀ x0 x1 x2 x3 x4 h, sX10_refusal (.inr (.inl (x0, x1, x2, x3, x4, h))) = tX10_refusal_18 x0 x1 x2 x3 x4 h := fun _ _ _ _ _ _ => rfl
theorem aX10_refusal_2 : ∀ x0 x1 x2 x3 x4 s0 h, sX10_refusal (.inr (.inr (x0, x1, x2, x3, x4, s0, h))) = tX10_refusal_52 x0 x1 x2 x3 x4 s0 h := fun _ _ _ _ _ _ _ => rfl
theorem aX14_begin_0 : ∀ x0 x1 h, sX14_begin (.inl (x0, x1, h)) = tX14_begin_0 x0 x1 h := fun _ _ _ => rfl
theorem aX14_begin_1 : ∀ x0 x1 s0 s1 h, sX14_begin (.inr (.inl (x0, x1, s0, s1, h))) = tX14_begin_9 x0 x1 s0 s1 h := fun _ _ _ _ _ => rfl
theorem aX14_begin_2 : ∀ x0 x1 s0 s1 h, sX14_begin (.inr (.inr (.inl (x0, x1, s0, s1, h)))) = tX14_begin_16 x0 x1 s0 s1 h := fun _ _ _ _ _ => rfl
theorem aX14_begin_3 : ∀ x0 s0 s1 h, sX14_begin (.inr (.inr (.inr (.inl (x0, s0, s1, h))))) = tX14_begin_23 x0 s0 s1 h := fun _ _ _ _ => rfl
theorem aX14_begin_4 : ∀ x0 x2 h, sX14_begin (.inr (.inr (.inr (.inr (x0, x2, h))))) = tX14_begin_28 x0 x2 h := fun _ _ _ => rfl
theorem aX16_takesImports_0 : ∀ x0 x1 x2 h, sX16_takesImports (.inl (x0, x1, x2, h)) = tX16_takesImports_0 x0 x1 x2 h := fun _ _ _ _ => rfl
theorem aX16_takesImports_1 : ∀ x0 x1 x2 s0 h, sX16_takesImports (.inr (.inl (x0, x1, x2, s0, h))) = tX16_takesImports_3 x0 x1 x2 s0 h := fun _ _ _ _ _ => rfl
theorem aX16_takesImports_2 : ∀ x0 x1 x2 x3 x4 h, sX16_takesImports (.inr (.inr (x0, x1, x2, x3, x4, h))) = tX16_takesImports_23 x0 x1 x2 x3 x4 h := fun _ _ _ _ _ _ => rfl
theorem aX1_makeBodies_0 : ∀ x0 h, sX1_makeBodies (.inl (x0, h)) = tX1_makeBodies_0 x0 h := fun _ _ => rfl
theorem aX1_makeBodies_1 : ∀ x0 x1 s0 s1 h, sX1_makeBodies (.inr (.inl (x0, x1, s0, s1, h))) = tX1_makeBodies_26 x0 x1 s0 s1 h := fun _ _ _ _ _ => rfl
theorem aX1_makeBodies_2 : ∀ x0 x1 x2 h, sX1_makeBodies (.inr (.inr (.inl (x0, x1, x2, h)))) = tX1_makeBodies_31 x0 x1 x2 h := fun _ _ _ _ => rfl
theorem aX1_makeBodies_3 : ∀ x0 x1 x2 x3 s0 s1 s2 h, sX1_makeBodies (.inr (.inr (.inr (.inl (x0, x1, x2, x3, s0, s1, s2, h))))) = tX1_makeBodies_84 x0 x1 x2 x3 s0 s1 s2 h := fun _ _ _ _ _ _ _ _ => rfl
theorem aX1_makeBodies_4 : ∀ x0 x1 x2 x3 s0 s1 s2 s3 s4 h, sX1_makeBodies (.inr (.inr (.inr (.inr (.inl (x0, x1, x2, x3, s0, s1, s2, s3, s4, h)))))) = tX1_makeBodies_95 x0 x1 x2 x3 s0 s1 s2 s3 s4 h := fun _ _ _ _ _ _ _ _ _ _ => rfl
theorem aX1_makeBodies_5 : ∀ x0 x1 x2 s0 s1 s2 h, sX1_makeBodies (.inr (.inr (.inr (.inr (.inr (x0, x1, x2, s0, s1, s2, h)))))) = tX1_makeBodies_99 x0 x1 x2 s0 s1 s2 h := fun _ _ _ _ _ _ _ => rfl
theorem aX16_make_0 : ∀ x0 x1 h, sX16_make (.inl (x0, x1, h)) = tX16_make_0 x0 x1 h := fun _ _ _ => rfl
theorem aX16_make_1 : ∀ x0 x1 x2 x4 x5 h, sX16_make (.inr (.inl (x0, x1, x2, x4, x5, h))) = tX16_make_58 x0 x1 x2 x4 x5 h := fun _ _ _ _ _ _ => rfl
theorem aX16_make_2 : ∀ x0 x1 x5 h, sX16_make (.inr (.inr (x0, x1, x5, h))) = tX16_make_164 x0 x1 x5 h := fun _ _ _ _ => rfl
theorem aX1_endBlock_0 : ∀ x0 h, sX1_endBlock (.inl (x0, h)) = tX1_endBlock_0 x0 h := fun _ _ => rfl
theorem aX1_endBlock_1 : ∀ x0 x1 s0 h, sX1_endBlock (.inr (.inl (x0, x1, s0, h))) = tX1_endBlock_12 x0 x1 s0 h := fun _ _ _ _ => rfl
theorem aX1_endBlock_2 : ∀ x0 x1 x2 h, sX1_endBlock (.inr (.inr (.inl (x0, x1, x2, h)))) = tX1_endBlock_18 x0 x1 x2 h := fun _ _ _ _ => rfl
theorem aX1_endBlock_3 : ∀ x0 x1 x2 h, sX1_endBlock (.inr (.inr (.inr (.inl (x0, x1, x2, h))))) = tX1_endBlock_41 x0 x1 x2 h := fun _ _ _ _ => rfl
theorem aX1_endBlock_4 : ∀ x0 x2 x3 x4 h, sX1_endBlock (.inr (.inr (.inr (.inr (x0, x2, x3, x4, h))))) = tX1_endBlock_64 x0 x2 x3 x4 h := fun _ _ _ _ _ => rfl
theorem aX1_takeAndPutAgain_0 : ∀ x0 x1 h, sX1_takeAndPutAgain (.inl (x0, x1, h)) = tX1_takeAndPutAgain_0 x0 x1 h := fun _ _ _ => rfl
theorem aX1_takeAndPutAgain_1 : ∀ x0 x1 s0 s1 h, sX1_takeAndPutAgain (.inr (.inl (x0, x1, s0, s1, h))) = tX1_takeAndPutAgain_10 x0 x1 s0 s1 h := fun _ _ _ _ _ => rfl
theorem aX1_takeAndPutAgain_2 : ∀ x0 x1 x2 s0 h, sX1_takeAndPutAgain (.inr (.inr (.inl (x0, x1, x2, s0, h)))) = tX1_takeAndPutAgain_19 x0 x1 x2 s0 h := fun _ _ _ _ _ => rfl
theorem aX1_takeAndPutAgain_3 : ∀ x0 x2 x3 s0 h, sX1_takeAndPutAgain (.inr (.inr (.inr (.inl (x0, x2, x3, s0, h))))) = tX1_takeAndPutAgain_25 x0 x2 x3 s0 h := fun _ _ _ _ _ => rfl
theorem aX1_takeAndPutAgain_4 : ∀ x0 x2 x3 x4 x5 h, sX1_takeAndPutAgain (.inr (.inr (.inr (.inr (.inl (x0, x2, x3, x4, x5, h)))))) = tX1_takeAndPutAgain_32 x0 x2 x3 x4 x5 h := fun _ _ _ _ _ _ => rfl
theorem aX1_takeAndPutAgain_5 : ∀ x0 x2 x5 h, sX1_takeAndPutAgain (.inr (.inr (.inr (.inr (.inr (x0, x2, x5, h)))))) = tX1_takeAndPutAgain_66 x0 x2 x5 h := fun _ _ _ _ => rfl
theorem aX1_branchByTable_0 : ∀ x0 h, sX1_branchByTable (.inl (x0, h)) = tX1_branchByTable_0 x0 h := fun _ _ => rfl
theorem aX1_branchByTable_1 : ∀ x0 x1 x2 x3 h, sX1_branchByTable (.inr (.inl (x0, x1, x2, x3, h))) = tX1_branchByTable_28 x0 x1 x2 x3 h := fun _ _ _ _ _ => rfl
theorem aX1_branchByTable_2 : ∀ x0 x1 x2 x3 h, sX1_branchByTable (.inr (.inr (.inl (x0, x1, x2, x3, h)))) = tX1_branchByTable_122 x0 x1 x2 x3 h := fun _ _ _ _ _ => rfl
theorem aX1_branchByTable_3 : ∀ x0 x1 x2 x3 x4 s0 h, sX1_branchByTable (.inr (.inr (.inr (.inl (x0, x1, x2, x3, x4, s0, h))))) = tX1_branchByTable_159 x0 x1 x2 x3 x4 s0 h := fun _ _ _ _ _ _ _ => rfl
theorem aX1_branchByTable_4 : ∀ x0 x1 x2 x3 x4 s0 s1 h, sX1_branchByTable (.inr (.inr (.inr (.inr (.inl (x0, x1, x2, x3, x4, s0, s1, h)))))) = tX1_branchByTable_164 x0 x1 x2 x3 x4 s0 s1 h := fun _ _ _ _ _ _ _ _ => rfl
theorem aX1_branchByTable_5 : ∀ x0 x1 x2 x3 x4 h, sX1_branchByTable (.inr (.inr (.inr (.inr (.inr (.inl (x0, x1, x2, x3, x4, h))))))) = tX1_branchByTable_196 x0 x1 x2 x3 x4 h := fun _ _ _ _ _ _ => rfl
theorem aX1_branchByTable_6 : ∀ x0 x1 x2 x3 x4 h, sX1_branchByTable (.inr (.inr (.inr (.inr (.inr (.inr (.inl (x0, x1, x2, x3, x4, h)))))))) = tX1_branchByTable_187 x0 x1 x2 x3 x4 h := fun _ _ _ _ _ _ => rfl
theorem aX1_branchByTable_7 : ∀ x0 x1 x2 x3 h, sX1_branchByTable (.inr (.inr (.inr (.inr (.inr (.inr (.inr (x0, x1, x2, x3, h)))))))) = tX1_branchByTable_204 x0 x1 x2 x3 h := fun _ _ _ _ _ => rfl
theorem aX2_compile_0 : ∀ x0 x1 h, sX2_compile (.inl (x0, x1, h)) = tX2_compile_0 x0 x1 h := fun _ _ _ => rfl
theorem aX2_compile_1 : ∀ x0 x1 s0 s1 h, sX2_compile (.inr (.inl (x0, x1, s0, s1, h))) = tX2_compile_43 x0 x1 s0 s1 h := fun _ _ _ _ _ => rfl
theorem aX2_compile_2 : ∀ x0 x1 s0 s1 h, sX2_compile (.inr (.inr (.inl (x0, x1, s0, s1, h)))) = tX2_compile_53 x0 x1 s0 s1 h := fun _ _ _ _ _ => rfl
theorem aX2_compile_3 : ∀ x0 x1 s0 s1 h, sX2_compile (.inr (.inr (.inr (.inl (x0, x1, s0, s1, h))))) = tX2_compile_63 x0 x1 s0 s1 h := fun _ _ _ _ _ => rfl
theorem aX2_compile_4 : ∀ x0 x1 s0 s1 h, sX2_compile (.inr (.inr (.inr (.inr (.inl (x0, x1, s0, s1, h)))))) = tX2_compile_73 x0 x1 s0 s1 h := fun _ _ _ _ _ => rfl
theorem aX2_compile_5 : ∀ x0 x1 x3 h, sX2_compile (.inr (.inr (.inr (.inr (.inr (.inl (x0, x1, x3, h))))))) = tX2_compile_107 x0 x1 x3 h := fun _ _ _ _ => rfl
theorem aX2_compile_6 : ∀ x0 x1 s0 s1 h, sX2_compile (.inr (.inr (.inr (.inr (.inr (.inr (.inl (x0, x1, s0, s1, h)))))))) = tX2_compile_169 x0 x1 s0 s1 h := fun _ _ _ _ _ => rfl
theorem aX2_compile_7 : ∀ s0 s1 h, sX2_compile (.inr (.inr (.inr (.inr (.inr (.inr (.inr (s0, s1, h)))))))) = tX2_compile_184 s0 s1 h := fun _ _ _ => rfl
theorem aX5_settle_0 : ∀ x0 h, sX5_settle (.inl (x0, h)) = tX5_settle_0 x0 h := fun _ _ => rfl
theorem aX5_settle_1 : ∀ x0 x1 h, sX5_settle (.inr (.inl (x0, x1, h))) = tX5_settle_2 x0 x1 h := fun _ _ _ => rfl
theorem aX5_settle_2 : ∀ x0 x1 h, sX5_settle (.inr (.inr (.inl (x0, x1, h)))) = tX5_settle_67 x0 x1 h := fun _ _ _ => rfl
theorem aX5_settle_3 : ∀ x0 x1 h, sX5_settle (.inr (.inr (.inr (x0, x1, h)))) = tX5_settle_63 x0 x1 h := fun _ _ _ => rfl
theorem aX9_functionType_0 : ∀ x0 h, sX9_functionType (.inl (x0, h)) = tX9_functionType_0 x0 h := fun _ _ => rfl
theorem aX9_functionType_1 : ∀ x0 x1 x2 h, sX9_functionType (.inr (.inl (x0, x1, x2, h))) = tX9_functionType_25 x0 x1 x2 h := fun _ _ _ _ => rfl
theorem aX9_functionType_2 : ∀ s0 s1 s2 h, sX9_functionType (.inr (.inr (.inl (s0, s1, s2, h)))) = tX9_functionType_164 s0 s1 s2 h := fun _ _ _ _ => rfl
theorem aX9_functionType_3 : ∀ x0 x1 x2 x3 x5 h, sX9_functionType (.inr (.inr (.inr (x0, x1, x2, x3, x5, h)))) = tX9_functionType_52 x0 x1 x2 x3 x5 h := fun _ _ _ _ _ _ => rfl
theorem aX5_begin_0 : ∀ x0 x1 x2 x3 h, sX5_begin (.inl (x0, x1, x2, x3, h)) = tX5_begin_0 x0 x1 x2 x3 h := fun _ _ _ _ _ => rfl
theorem aX5_begin_1 : ∀ x0 x1 x2 x3 x4 x5 h, sX5_begin (.inr (.inl (x0, x1, x2, x3, x4, x5, h))) = tX5_begin_27 x0 x1 x2 x3 x4 x5 h := fun _ _ _ _ _ _ _ => rfl
theorem aX5_begin_2 : ∀ h, sX5_begin (.inr (.inr h)) = tX5_begin_76 h := fun _ => rfl
theorem aX5_goOn_0 : ∀ x0 x1 x2 h, sX5_goOn (.inl (x0, x1, x2, h)) = tX5_goOn_0 x0 x1 x2 h := fun _ _ _ _ => rfl
theorem aX5_goOn_1 : ∀ x0 x1 x2 x3 x4 x5 h, sX5_goOn (.inr (.inl (x0, x1, x2, x3, x4, x5, h))) = tX5_goOn_24 x0 x1 x2 x3 x4 x5 h := fun _ _ _ _ _ _ _ => rfl
theorem aX5_goOn_2 : ∀ x0 x2 x5 h, sX5_goOn (.inr (.inr (.inl (x0, x2, x5, h)))) = tX5_goOn_84 x0 x2 x5 h := fun _ _ _ _ => rfl
theorem aX5_goOn_3 : ∀ h, sX5_goOn (.inr (.inr (.inr h))) = tX5_goOn_144 h := fun _ => rfl
theorem aX1_init_0 : ∀ x0 x1 x2 h, sX1_init (.inl (x0, x1, x2, h)) = tX1_init_0 x0 x1 x2 h := fun _ _ _ _ => rfl
theorem aX1_init_1 : ∀ x0 x1 x2 s0 s1 h, sX1_init (.inr (.inl (x0, x1, x2, s0, s1, h))) = tX1_init_8 x0 x1 x2 s0 s1 h := fun _ _ _ _ _ _ => rfl
theorem aX1_init_2 : ∀ x0 x1 x2 s0 s1 h, sX1_init (.inr (.inr (.inl (x0, x1, x2, s0, s1, h)))) = tX1_init_17 x0 x1 x2 s0 s1 h := fun _ _ _ _ _ _ => rfl
theorem aX1_init_3 : ∀ x0 x1 x2 s0 s1 h, sX1_init (.inr (.inr (.inr (.inl (x0, x1, x2, s0, s1, h))))) = tX1_init_26 x0 x1 x2 s0 s1 h := fun _ _ _ _ _ _ => rfl
theorem aX1_init_4 : ∀ x0 x1 x2 s0 s1 h, sX1_init (.inr (.inr (.inr (.inr (.inl (x0, x1, x2, s0, s1, h)))))) = tX1_init_35 x0 x1 x2 s0 s1 h := fun _ _ _ _ _ _ => rfl
theorem aX1_init_5 : ∀ x0 x1 x2 s0 s1 h, sX1_init (.inr (.inr (.inr (.inr (.inr (.inl (x0, x1, x2, s0, s1, h))))))) = tX1_init_44 x0 x1 x2 s0 s1 h := fun _ _ _ _ _ _ => rfl
theorem aX1_init_6 : ∀ x0 x1 x2 s0 s1 h, sX1_init (.inr (.inr (.inr (.inr (.inr (.inr (.inl (x0, x1, x2, s0, s1, h)))))))) = tX1_init_52 x0 x1 x2 s0 s1 h := fun _ _ _ _ _ _ => rfl
theorem aX1_init_7 : ∀ x0 x1 x2 s0 s1 h, sX1_init (.inr (.inr (.inr (.inr (.inr (.inr (.inr (.inl (x0, x1, x2, s0, s1, h))))))))) = tX1_init_64 x0 x1 x2 s0 s1 h := fun _ _ _ _ _ _ => rfl
theorem aX1_init_8 : ∀ x0 s0 s1 h, sX1_init (.inr (.inr (.inr (.inr (.inr (.inr (.inr (.inr (.inl (x0, s0, s1, h)))))))))) = tX1_init_81 x0 s0 s1 h := fun _ _ _ _ => rfl
theorem aX1_init_9 : ∀ x0 s0 s1 s2 s3 h, sX1_init (.inr (.inr (.inr (.inr (.inr (.inr (.inr (.inr (.inr (.inl (x0, s0, s1, s2, s3, h))))))))))) = tX1_init_85 x0 s0 s1 s2 s3 h := fun _ _ _ _ _ _ => rfl
theorem aX1_init_10 : ∀ x0 s0 s1 h, sX1_init (.inr (.inr (.inr (.inr (.inr (.inr (.inr (.inr (.inr (.inr (.inl (x0, s0, s1, h)))))))))))) = tX1_init_89 x0 s0 s1 h := fun _ _ _ _ => rfl
theorem aX1_init_11 : ∀ x0 s0 s1 s2 h, sX1_init (.inr (.inr (.inr (.inr (.inr (.inr (.inr (.inr (.inr (.inr (.inr (.inl (x0, s0, s1, s2, h))))))))))))) = tX1_init_101 x0 s0 s1 s2 h := fun _ _ _ _ _ => rfl
theorem aX1_init_12 : ∀ x0 x3 h, sX1_init (.inr (.inr (.inr (.inr (.inr (.inr (.inr (.inr (.inr (.inr (.inr (.inr (.inl (x0, x3, h)))))))))))))) = tX1_init_105 x0 x3 h := fun _ _ _ => rfl
theorem aX1_init_13 : ∀ x0 x3 s0 s1 s2 h, sX1_init (.inr (.inr (.inr (.inr (.inr (.inr (.inr (.inr (.inr (.inr (.inr (.inr (.inr (x0, x3, s0, s1, s2, h)))))))))))))) = tX1_init_119 x0 x3 s0 s1 s2 h := fun _ _ _ _ _ _ => rfl
theorem aX7_init_0 : ∀ x0 x1 h, sX7_init (.inl (x0, x1, h)) = tX7_init_0 x0 x1 h := fun _ _ _ => rfl
theorem aX7_init_1 : ∀ x0 x1 s0 s1 h, sX7_init (.inr (.inl (x0, x1, s0, s1, h))) = tX7_init_9 x0 x1 s0 s1 h := fun _ _ _ _ _ => rfl
theorem aX7_init_2 : ∀ x0 x1 s0 s1 h, sX7_init (.inr (.inr (.inl (x0, x1, s0, s1, h)))) = tX7_init_19 x0 x1 s0 s1 h := fun _ _ _ _ _ => rfl
theorem aX7_init_3 : ∀ x0 x1 s0 s1 h, sX7_init (.inr (.inr (.inr (.inl (x0, x1, s0, s1, h))))) = tX7_init_26 x0 x1 s0 s1 h := fun _ _ _ _ _ => rfl
theorem aX7_init_4 : ∀ x0 x1 s0 s1 h, sX7_init (.inr (.inr (.inr (.inr (.inl (x0, x1, s0, s1, h)))))) = tX7_init_33 x0 x1 s0 s1 h := fun _ _ _ _ _ => rfl
theorem aX7_init_5 : ∀ x0 x1 s0 s1 h, sX7_init (.inr (.inr (.inr (.inr (.inr (.inl (x0, x1, s0, s1, h))))))) = tX7_init_40 x0 x1 s0 s1 h := fun _ _ _ _ _ => rfl
theorem aX7_init_6 : ∀ x0 x1 s0 s1 h, sX7_init (.inr (.inr (.inr (.inr (.inr (.inr (.inl (x0, x1, s0, s1, h)))))))) = tX7_init_47 x0 x1 s0 s1 h := fun _ _ _ _ _ => rfl
theorem aX7_init_7 : ∀ x0 x1 s0 s1 h, sX7_init (.inr (.inr (.inr (.inr (.inr (.inr (.inr (.inl (x0, x1, s0, s1, h))))))))) = tX7_init_54 x0 x1 s0 s1 h := fun _ _ _ _ _ => rfl
theorem aX7_init_8 : ∀ x0 x1 s0 s1 h, sX7_init (.inr (.inr (.inr (.inr (.inr (.inr (.inr (.inr (.inl (x0, x1, s0, s1, h)))))))))) = tX7_init_61 x0 x1 s0 s1 h := fun _ _ _ _ _ => rfl
theorem aX7_init_9 : ∀ x0 x1 s0 s1 h, sX7_init (.inr (.inr (.inr (.inr (.inr (.inr (.inr (.inr (.inr (.inl (x0, x1, s0, s1, h))))))))))) = tX7_init_68 x0 x1 s0 s1 h := fun _ _ _ _ _ => rfl
theorem aX7_init_10 : ∀ x0 x1 s0 s1 h, sX7_init (.inr (.inr (.inr (.inr (.inr (.inr (.inr (.inr (.inr (.inr (.inl (x0, x1, s0, s1, h)))))))))))) = tX7_init_75 x0 x1 s0 s1 h := fun _ _ _ _ _ => rfl
theorem aX7_init_11 : ∀ x0 x1 s0 s1 h, sX7_init (.inr (.inr (.inr (.inr (.inr (.inr (.inr (.inr (.inr (.inr (.inr (.inl (x0, x1, s0, s1, h))))))))))))) = tX7_init_82 x0 x1 s0 s1 h := fun _ _ _ _ _ => rfl
theorem aX7_init_12 : ∀ x0 x1 s0 s1 h, sX7_init (.inr (.inr (.inr (.inr (.inr (.inr (.inr (.inr (.inr (.inr (.inr (.inr (.inl (x0, x1, s0, s1, h)))))))))))))) = tX7_init_90 x0 x1 s0 s1 h := fun _ _ _ _ _ => rfl
theorem aX7_init_13 : ∀ x0 x2 h, sX7_init (.inr (.inr (.inr (.inr (.inr (.inr (.inr (.inr (.inr (.inr (.inr (.inr (.inr (x0, x2, h)))))))))))))) = tX7_init_114 x0 x2 h := fun _ _ _ => rfl
theorem aX10_create_0 : ∀ x0 x1 x2 x3 h, sX10_create (.inl (x0, x1, x2, x3, h)) = tX10_create_0 x0 x1 x2 x3 h := fun _ _ _ _ _ => rfl
theorem aX10_create_1 : ∀ x0 x1 x2 x3 s0 h, sX10_create (.inr (.inl (x0, x1, x2, x3, s0, h))) = tX10_create_3 x0 x1 x2 x3 s0 h := fun _ _ _ _ _ _ => rfl
theorem aX10_create_2 : ∀ x0 x1 x2 x3 s0 h, sX10_create (.inr (.inr (.inl (x0, x1, x2, x3, s0, h)))) = tX10_create_8 x0 x1 x2 x3 s0 h := fun _ _ _ _ _ _ => rfl
theorem aX10_create_3 : ∀ x0 x1 x2 x3 x4 s0 h, sX10_create (.inr (.inr (.inr (.inl (x0, x1, x2, x3, x4, s0, h))))) = tX10_create_46 x0 x1 x2 x3 x4 s0 h := fun _ _ _ _ _ _ _ => rfl
theorem aX10_create_4 : ∀ x0 x1 x2 x3 x4 x5 x6 h, sX10_create (.inr (.inr (.inr (.inr (.inl (x0, x1, x2, x3, x4, x5, x6, h)))))) = tX10_create_51 x0 x1 x2 x3 x4 x5 x6 h := fun _ _ _ _ _ _ _ _ => rfl
theorem aX10_create_5 : ∀ x0 x1 x4 x5 x6 h, sX10_create (.inr (.inr (.inr (.inr (.inr (.inl (x0, x1, x4, x5, x6, h))))))) = tX10_create_185 x0 x1 x4 x5 x6 h := fun _ _ _ _ _ _ => rfl
theorem aX10_create_6 : ∀ x0 x1 x2 x3 x4 x5 x6 x7 x8 x9 s0 s1 s2 h, sX10_create (.inr (.inr (.inr (.inr (.inr (.inr (.inl (x0, x1, x2, x3, x4, x5, x6, x7, x8, x9, s0, s1, s2, h)))))))) = tX10_create_123 x0 x1 x2 x3 x4 x5 x6 x7 x8 x9 s0 s1 s2 h := fun _ _ _ _ _ _ _ _ _ _ _ _ _ _ => rfl
theorem aX10_create_7 : ∀ x0 x1 x4 x5 x6 h, sX10_create (.inr (.inr (.inr (.inr (.inr (.inr (.inr (.inl (x0, x1, x4, x5, x6, h))))))))) = tX10_create_236 x0 x1 x4 x5 x6 h := fun _ _ _ _ _ _ => rfl
theorem aX10_create_8 : ∀ x0 x1 x2 x3 x4 x5 x6 x7 x9 s0 s1 s2 s3 s4 h, sX10_create (.inr (.inr (.inr (.inr (.inr (.inr (.inr (.inr (.inl (x0, x1, x2, x3, x4, x5, x6, x7, x9, s0, s1, s2, s3, s4, h)))))))))) = tX10_create_130 x0 x1 x2 x3 x4 x5 x6 x7 x9 s0 s1 s2 s3 s4 h := fun _ _ _ _ _ _ _ _ _ _ _ _ _ _ _ => rfl
theorem aX10_create_9 : ∀ x0 x1 x4 x5 x6 h, sX10_create (.inr (.inr (.inr (.inr (.inr (.inr (.inr (.inr (.inr (.inl (x0, x1, x4, x5, x6, h))))))))))) = tX10_create_303 x0 x1 x4 x5 x6 h := fun _ _ _ _ _ _ => rfl
theorem aX10_create_10 : ∀ x0 x1 x4 x5 x6 s0 s1 s2 h, sX10_create (.inr (.inr (.inr (.inr (.inr (.inr (.inr (.inr (.inr (.inr (.inl (x0, x1, x4, x5, x6, s0, s1, s2, h)))))))))))) = tX10_create_290 x0 x1 x4 x5 x6 s0 s1 s2 h := fun _ _ _ _ _ _ _ _ _ => rfl
theorem aX10_create_11 : ∀ x0 x1 x2 x3 x4 x5 x6 x7 x9 s0 s1 s2 h, sX10_create (.inr (.inr (.inr (.inr (.inr (.inr (.inr (.inr (.inr (.inr (.inr (.inl (x0, x1, x2, x3, x4, x5, x6, x7, x9, s0, s1, s2, h))))))))))))) = tX10_create_134 x0 x1 x2 x3 x4 x5 x6 x7 x9 s0 s1 s2 h := fun _ _ _ _ _ _ _ _ _ _ _ _ _ => rfl
theorem aX10_create_12 : ∀ x0 x1 x4 x6 h, sX10_create (.inr (.inr (.inr (.inr (.inr (.inr (.inr (.inr (.inr (.inr (.inr (.inr (.inl (x0, x1, x4, x6, h)))))))))))))) = tX10_create_357 x0 x1 x4 x6 h := fun _ _ _ _ _ => rfl
theorem aX10_create_13 : ∀ x0 x1 x4 x5 x6 s0 s1 s2 h, sX10_create (.inr (.inr (.inr (.inr (.inr (.inr (.inr (.inr (.inr (.inr (.inr (.inr (.inr (.inl (x0, x1, x4, x5, x6, s0, s1, s2, h))))))))))))))) = tX10_create_344 x0 x1 x4 x5 x6 s0 s1 s2 h := fun _ _ _ _ _ _ _ _ _ => rfl
theorem aX10_create_14 : ∀ x0 x1 x4 x6 h, sX10_create (.inr (.inr (.inr (.inr (.inr (.inr (.inr (.inr (.inr (.inr (.inr (.inr (.inr (.inr (.inl (x0, x1, x4, x6, h)))))))))))))))) = tX10_create_393 x0 x1 x4 x6 h := fun _ _ _ _ _ => rfl
theorem aX10_create_15 : ∀ x1 x4 x6 h, sX10_create (.inr (.inr (.inr (.inr (.inr (.inr (.inr (.inr (.inr (.inr (.inr (.inr (.inr (.inr (.inr (.inl (x1, x4, x6, h))))))))))))))))) = tX10_create_421 x1 x4 x6 h := fun _ _ _ _ => rfl
theorem aX10_create_16 : ∀ x0 x1 x4 x6 h, sX10_create (.inr (.inr (.inr (.inr (.inr (.inr (.inr (.inr (.inr (.inr (.inr (.inr (.inr (.inr (.inr (.inr (x0, x1, x4, x6, h))))))))))))))))) = tX10_create_412 x0 x1 x4 x6 h := fun _ _ _ _ _ => rfl
theorem aX10_init_0 : ∀ x0 x1 x2 h, sX10_init (.inl (x0, x1, x2, h)) = tX10_init_0 x0 x1 x2 h := fun _ _ _ _ => rfl
theorem aX10_init_1 : ∀ x0 x1 x2 s0 s1 h, sX10_init (.inr (.inl (x0, x1, x2, s0, s1, h))) = tX10_init_8 x0 x1 x2 s0 s1 h := fun _ _ _ _ _ _ => rfl
theorem aX10_init_2 : ∀ x0 x1 x2 s0 s1 h, sX10_init (.inr (.inr (.inl (x0, x1, x2, s0, s1, h)))) = tX10_init_12 x0 x1 x2 s0 s1 h := fun _ _ _ _ _ _ => rfl
theorem aX10_init_3 : ∀ x0 x1 x2 s0 s1 h, sX10_init (.inr (.inr (.inr (.inl (x0, x1, x2, s0, s1, h))))) = tX10_init_19 x0 x1 x2 s0 s1 h := fun _ _ _ _ _ _ => rfl
theorem aX10_init_4 : ∀ x0 x1 x2 s0 s1 h, sX10_init (.inr (.inr (.inr (.inr (.inl (x0, x1, x2, s0, s1, h)))))) = tX10_init_23 x0 x1 x2 s0 s1 h := fun _ _ _ _ _ _ => rfl
theorem aX10_init_5 : ∀ x0 x1 x2 s0 s1 h, sX10_init (.inr (.inr (.inr (.inr (.inr (.inl (x0, x1, x2, s0, s1, h))))))) = tX10_init_32 x0 x1 x2 s0 s1 h := fun _ _ _ _ _ _ => rfl
theorem aX10_init_6 : ∀ x0 x1 x2 s0 s1 h, sX10_init (.inr (.inr (.inr (.inr (.inr (.inr (.inl (x0, x1, x2, s0, s1, h)))))))) = tX10_init_41 x0 x1 x2 s0 s1 h := fun _ _ _ _ _ _ => rfl
theorem aX10_init_7 : ∀ x0 x1 x2 s0 s1 h, sX10_init (.inr (.inr (.inr (.inr (.inr (.inr (.inr (.inl (x0, x1, x2, s0, s1, h))))))))) = tX10_init_50 x0 x1 x2 s0 s1 h := fun _ _ _ _ _ _ => rfl
theorem aX10_init_8 : ∀ x0 x1 x2 s0 s1 h, sX10_init (.inr (.inr (.inr (.inr (.inr (.inr (.inr (.inr (.inl (x0, x1, x2, s0, s1, h)))))))))) = tX10_init_60 x0 x1 x2 s0 s1 h := fun _ _ _ _ _ _ => rfl
theorem aX10_init_9 : ∀ x0 x1 x2 s0 s1 h, sX10_init (.inr (.inr (.inr (.inr (.inr (.inr (.inr (.inr (.inr (.inl (x0, x1, x2, s0, s1, h))))))))))) = tX10_init_70 x0 x1 x2 s0 s1 h := fun _ _ _ _ _ _ => rfl
theorem aX10_init_10 : ∀ x0 x1 x2 s0 s1 h, sX10_init (.inr (.inr (.inr (.inr (.inr (.inr (.inr (.inr (.inr (.inr (.inl (x0, x1, x2, s0, s1, h)))))))))))) = tX10_init_79 x0 x1 x2 s0 s1 h := fun _ _ _ _ _ _ => rfl
theorem aX10_init_11 : ∀ x0 x1 x2 s0 s1 h, sX10_init (.inr (.inr (.inr (.inr (.inr (.inr (.inr (.inr (.inr (.inr (.inr (.inl (x0, x1, x2, s0, s1, h))))))))))))) = tX10_init_88 x0 x1 x2 s0 s1 h := fun _ _ _ _ _ _ => rfl
theorem aX10_init_12 : ∀ x0 x1 x2 s0 s1 h, sX10_init (.inr (.inr (.inr (.inr (.inr (.inr (.inr (.inr (.inr (.inr (.inr (.inr (.inl (x0, x1, x2, s0, s1, h)))))))))))))) = tX10_init_97 x0 x1 x2 s0 s1 h := fun _ _ _ _ _ _ => rfl
theorem aX10_init_13 : ∀ x0 x1 x2 s0 s1 h, sX10_init (.inr (.inr (.inr (.inr (.inr (.inr (.inr (.inr (.inr (.inr (.inr (.inr (.inr (.inl (x0, x1, x2, s0, s1, h))))))))))))))) = tX10_init_106 x0 x1 x2 s0 s1 h := fun _ _ _ _ _ _ => rfl
theorem aX10_init_14 : ∀ x0 x1 x2 s0 s1 h, sX10_init (.inr (.inr (.inr (.inr (.inr (.inr (.inr (.inr (.inr (.inr (.inr (.inr (.inr (.inr (.inl (x0, x1, x2, s0, s1, h)))))))))))))))) = tX10_init_120 x0 x1 x2 s0 s1 h := fun _ _ _ _ _ _ => rfl
theorem aX10_init_15 : ∀ x0 x2 s0 s1 h, sX10_init (.inr (.inr (.inr (.inr (.inr (.inr (.inr (.inr (.inr (.inr (.inr (.inr (.inr (.inr (.inr (.inl (x0, x2, s0, s1, h))))))))))))))))) = tX10_init_136 x0 x2 s0 s1 h := fun _ _ _ _ _ => rfl
theorem aX10_init_16 : ∀ x0 s0 s1 h, sX10_init (.inr (.inr (.inr (.inr (.inr (.inr (.inr (.inr (.inr (.inr (.inr (.inr (.inr (.inr (.inr (.inr (.inl (x0, s0, s1, h)))))))))))))))))) = tX10_init_141 x0 s0 s1 h := fun _ _ _ _ => rfl
theorem aX10_init_17 : ∀ x0 s0 h, sX10_init (.inr (.inr (.inr (.inr (.inr (.inr (.inr (.inr (.inr (.inr (.inr (.inr (.inr (.inr (.inr (.inr (.inr (.inl (x0, s0, h))))))))))))))))))) = tX10_init_147 x0 s0 h := fun _ _ _ => rfl
theorem aX10_init_18 : ∀ x0 s0 s1 s2 h, sX10_init (.inr (.inr (.inr (.inr (.inr (.inr (.inr (.inr (.inr (.inr (.inr (.inr (.inr (.inr (.inr (.inr (.inr (.inr (.inl (x0, s0, s1, s2, h)))))))))))))))))))) = tX10_init_151 x0 s0 s1 s2 h := fun _ _ _ _ _ => rfl
theorem aX10_init_19 : ∀ x0 s0 h, sX10_init (.inr (.inr (.inr (.inr (.inr (.inr (.inr (.inr (.inr (.inr (.inr (.inr (.inr (.inr (.inr (.inr (.inr (.inr (.inr (.inl (x0, s0, h))))))))))))))))))))) = tX10_init_155 x0 s0 h := fun _ _ _ => rfl
theorem aX10_init_20 : ∀ x0 x3 x4 h, sX10_init (.inr (.inr (.inr (.inr (.inr (.inr (.inr (.inr (.inr (.inr (.inr (.inr (.inr (.inr (.inr (.inr (.inr (.inr (.inr (.inr (.inl (x0, x3, x4, h)))))))))))))))))))))) = tX10_init_159 x0 x3 x4 h := fun _ _ _ _ => rfl
theorem aX10_init_21 : ∀ x0 x4 h, sX10_init (.inr (.inr (.inr (.inr (.inr (.inr (.inr (.inr (.inr (.inr (.inr (.inr (.inr (.inr (.inr (.inr (.inr (.inr (.inr (.inr (.inr (.inl (x0, x4, h))))))))))))))))))))))) = tX10_init_186 x0 x4 h := fun _ _ _ => rfl
theorem aX10_init_22 : ∀ x0 x4 h, sX10_init (.inr (.inr (.inr (.inr (.inr (.inr (.inr (.inr (.inr (.inr (.inr (.inr (.inr (.inr (.inr (.inr (.inr (.inr (.inr (.inr (.inr (.inr (x0, x4, h))))))))))))))))))))))) = tX10_init_216 x0 x4 h := fun _ _ _ => rfl
theorem aX12_init_0 : ∀ x0 h, sX12_init (.inl (x0, h)) = tX12_init_0 x0 h := fun _ _ => rfl
theorem aX12_init_1 : ∀ x0 s0 s1 h, sX12_init (.inr (.inl (x0, s0, s1, h))) = tX12_init_9 x0 s0 s1 h := fun _ _ _ _ => rfl
theorem aX12_init_2 : ∀ x0 s0 s1 h, sX12_init (.inr (.inr (.inl (x0, s0, s1, h)))) = tX12_init_18 x0 s0 s1 h := fun _ _ _ _ => rfl
theorem aX12_init_3 : ∀ x0 s0 s1 h, sX12_init (.inr (.inr (.inr (.inl (x0, s0, s1, h))))) = tX12_init_27 x0 s0 s1 h := fun _ _ _ _ => rfl
theorem aX12_init_4 : ∀ x0 s0 s1 h, sX12_init (.inr (.inr (.inr (.inr (.inl (x0, s0, s1, h)))))) = tX12_init_35 x0 s0 s1 h := fun _ _ _ _ => rfl
theorem aX12_init_5 : ∀ x0 s0 h, sX12_init (.inr (.inr (.inr (.inr (.inr (.inl (x0, s0, h))))))) = tX12_init_41 x0 s0 h := fun _ _ _ => rfl
theorem aX12_init_6 : ∀ x0 s0 s1 s2 h, sX12_init (.inr (.inr (.inr (.inr (.inr (.inr (.inl (x0, s0, s1, s2, h)))))))) = tX12_init_45 x0 s0 s1 s2 h := fun _ _ _ _ _ => rfl
theorem aX12_init_7 : ∀ x0 s0 h, sX12_init (.inr (.inr (.inr (.inr (.inr (.inr (.inr (.inl (x0, s0, h))))))))) = tX12_init_48 x0 s0 h := fun _ _ _ => rfl
theorem aX12_init_8 : ∀ x0 x1 x2 h, sX12_init (.inr (.inr (.inr (.inr (.inr (.inr (.inr (.inr (.inl (x0, x1, x2, h)))))))))) = tX12_init_51 x0 x1 x2 h := fun _ _ _ _ => rfl
theorem aX12_init_9 : ∀ x0 x1 s0 s1 h, sX12_init (.inr (.inr (.inr (.inr (.inr (.inr (.inr (.inr (.inr (.inl (x0, x1, s0, s1, h))))))))))) = tX12_init_77 x0 x1 s0 s1 h := fun _ _ _ _ _ => rfl
theorem aX12_init_10 : ∀ x0 x1 s0 s1 h, sX12_init (.inr (.inr (.inr (.inr (.inr (.inr (.inr (.inr (.inr (.inr (.inl (x0, x1, s0, s1, h)))))))))))) = tX12_init_82 x0 x1 s0 s1 h := fun _ _ _ _ _ => rfl
theorem aX12_init_11 : ∀ x0 x1 s0 s1 h, sX12_init (.inr (.inr (.inr (.inr (.inr (.inr (.inr (.inr (.inr (.inr (.inr (.inl (x0, x1, s0, s1, h))))))))))))) = tX12_init_89 x0 x1 s0 s1 h := fun _ _ _ _ _ => rfl
theorem aX12_init_12 : ∀ x0 x1 s0 s1 h, sX12_init (.inr (.inr (.inr (.inr (.inr (.inr (.inr (.inr (.inr (.inr (.inr (.inr (.inl (x0, x1, s0, s1, h)))))))))))))) = tX12_init_98 x0 x1 s0 s1 h := fun _ _ _ _ _ => rfl
theorem aX12_init_13 : ∀ x0 x1 s0 s1 h, sX12_init (.inr (.inr (.inr (.inr (.inr (.inr (.inr (.inr (.inr (.inr (.inr (.inr (.inr (.inl (x0, x1, s0, s1, h))))))))))))))) = tX12_init_105 x0 x1 s0 s1 h := fun _ _ _ _ _ => rfl
theorem aX12_init_14 : ∀ x0 s0 s1 h, sX12_init (.inr (.inr (.inr (.inr (.inr (.inr (.inr (.inr (.inr (.inr (.inr (.inr (.inr (.inr (.inl (x0, s0, s1, h)))))))))))))))) = tX12_init_114 x0 s0 s1 h := fun _ _ _ _ => rfl
theorem aX12_init_15 : ∀ x0 s0 s1 h, sX12_init (.inr (.inr (.inr (.inr (.inr (.inr (.inr (.inr (.inr (.inr (.inr (.inr (.inr (.inr (.inr (.inl (x0, s0, s1, h))))))))))))))))) = tX12_init_121 x0 s0 s1 h := fun _ _ _ _ => rfl
theorem aX12_init_16 : ∀ s0 s1 h, sX12_init (.inr (.inr (.inr (.inr (.inr (.inr (.inr (.inr (.inr (.inr (.inr (.inr (.inr (.inr (.inr (.inr (s0, s1, h))))))))))))))))) = tX12_init_129 s0 s1 h := fun _ _ _ => rfl
theorem aX6_save_0 : ∀ x0 x1 x3 x5 x7 x8 h, sX6_save (x0, x1, x3, x5, x7, x8, h) = tX6_save_11 x0 x1 x3 x5 x7 x8 h := fun _ _ _ _ _ _ _ => rfl
theorem aX9_begin_0 : ∀ x0 x2 h, sX9_begin (x0, x2, h) = tX9_begin_23 x0 x2 h := fun _ _ _ => rfl
theorem aX6_load_0 : ∀ h x0 x1 x2 x3 x5 x6 x8, sX6_load h (.inl (x0, x1, x2, x3, x5, x6, x8)) = tX6_load_17 h x0 x1 x2 x3 x5 x6 x8 := fun _ _ _ _ _ _ _ _ => rfl
theorem aX6_load_1 : ∀ h x2 x5 x6, sX6_load h (.inr (x2, x5, x6)) = tX6_load_63 h x2 x5 x6 := fun _ _ _ _ => rfl
theorem aX1_body_0 : ∀ x0 x1 h, sX1_body (.inl (x0, x1, h)) = tX1_body_0 x0 x1 h := fun _ _ _ => rfl
theorem aX1_body_1 : ∀ x0 x2 h, sX1_body (.inr (.inl (x0, x2, h))) = tX1_body_102 x0 x2 h := fun _ _ _ => rfl
theorem aX1_body_2 : ∀ x0 h, sX1_body (.inr (.inr (.inl (x0, h)))) = tX1_body_208 x0 h := fun _ _ => rfl
theorem aX1_body_3 : ∀ x0 x2 h, sX1_body (.inr (.inr (.inr (.inl (x0, x2, h))))) = tX1_body_180 x0 x2 h := fun _ _ _ => rfl
theorem aX1_body_4 : ∀ x0 x2 h, sX1_body (.inr (.inr (.inr (.inr (.inl (x0, x2, h)))))) = tX1_body_166 x0 x2 h := fun _ _ _ => rfl
theorem aX1_body_5 : ∀ s0 s1 h, sX1_body (.inr (.inr (.inr (.inr (.inr (s0, s1, h)))))) = tX1_body_245 s0 s1 h := fun _ _ _ => rfl
theorem aX10_fillSegments_0 : ∀ x0 x1 h, sX10_fillSegments (.inl (x0, x1, h)) = tX10_fillSegments_0 x0 x1 h := fun _ _ _ => rfl
theorem aX10_fillSegments_1 : ∀ x0 x1 x2 x3 h, sX10_fillSegments (.inr (.inl (x0, x1, x2, x3, h))) = tX10_fillSegments_7 x0 x1 x2 x3 h := fun _ _ _ _ _ => rfl
theorem aX10_fillSegments_2 : ∀ x0 x1 x2 x3 h, sX10_fillSegments (.inr (.inr (.inl (x0, x1, x2, x3, h)))) = tX10_fillSegments_134 x0 x1 x2 x3 h := fun _ _ _ _ _ => rfl
theorem aX10_fillSegments_3 : ∀ x0 x1 x2 x3 x5 s0 h, sX10_fillSegments (.inr (.inr (.inr (.inl (x0, x1, x2, x3, x5, s0, h))))) = tX10_fillSegments_98 x0 x1 x2 x3 x5 s0 h := fun _ _ _ _ _ _ _ => rfl
theorem aX10_fillSegments_4 : ∀ x0 x1 x2 x3 s0 h, sX10_fillSegments (.inr (.inr (.inr (.inr (x0, x1, x2, x3, s0, h))))) = tX10_fillSegments_210 x0 x1 x2 x3 s0 h := fun _ _ _ _ _ _ => rfl
theorem aX12_module_0 : ∀ x0 x1 h, sX12_module (.inl (x0, x1, h)) = tX12_module_0 x0 x1 h := fun _ _ _ => rfl
theorem aX12_module_1 : ∀ x0 x1 s0 h, sX12_module (.inr (.inl (x0, x1, s0, h))) = tX12_module_36 x0 x1 s0 h := fun _ _ _ _ => rfl
theorem aX12_module_2 : ∀ x0 x1 s0 s1 s2 h, sX12_module (.inr (.inr (.inl (x0, x1, s0, s1, s2, h)))) = tX12_module_45 x0 x1 s0 s1 s2 h := fun _ _ _ _ _ _ => rfl
theorem aX12_module_3 : ∀ x0 x1 s0 h, sX12_module (.inr (.inr (.inr (.inl (x0, x1, s0, h))))) = tX12_module_48 x0 x1 s0 h := fun _ _ _ _ => rfl
theorem aX12_module_4 : ∀ x0 x1 x2 x3 h, sX12_module (.inr (.inr (.inr (.inr (.inl (x0, x1, x2, x3, h)))))) = tX12_module_69 x0 x1 x2 x3 h := fun _ _ _ _ _ => rfl
theorem aX12_module_5 : ∀ x0 x2 h, sX12_module (.inr (.inr (.inr (.inr (.inr (.inl (x0, x2, h))))))) = tX12_module_97 x0 x2 h := fun _ _ _ => rfl
theorem aX12_module_6 : ∀ x0 x1 x2 x3 h, sX12_module (.inr (.inr (.inr (.inr (.inr (.inr (.inl (x0, x1, x2, x3, h)))))))) = tX12_module_91 x0 x1 x2 x3 h := fun _ _ _ _ _ => rfl
theorem aX12_module_7 : ∀ x0 x2 h, sX12_module (.inr (.inr (.inr (.inr (.inr (.inr (.inr (.inl (x0, x2, h))))))))) = tX12_module_148 x0 x2 h := fun _ _ _ => rfl
theorem aX12_module_8 : ∀ x0 x2 x3 h, sX12_module (.inr (.inr (.inr (.inr (.inr (.inr (.inr (.inr (.inl (x0, x2, x3, h)))))))))) = tX12_module_150 x0 x2 x3 h := fun _ _ _ _ => rfl
theorem aX12_module_9 : ∀ x0 x2 h, sX12_module (.inr (.inr (.inr (.inr (.inr (.inr (.inr (.inr (.inr (.inl (x0, x2, h))))))))))) = tX12_module_183 x0 x2 h := fun _ _ _ => rfl
theorem aX12_module_10 : ∀ x0 x2 x3 h, sX12_module (.inr (.inr (.inr (.inr (.inr (.inr (.inr (.inr (.inr (.inr (x0, x2, x3, h))))))))))) = tX12_module_177 x0 x2 x3 h := fun _ _ _ _ => rfl
theorem aX5_advance_0 : ∀ x0 x1 h, sX5_advance (.inl (x0, x1, h)) = tX5_advance_0 x0 x1 h := fun _ _ _ => rfl
theorem aX5_advance_1 : ∀ x0 x1 x2 x3 h, sX5_advance (.inr (.inl (x0, x1, x2, x3, h))) = tX5_advance_4 x0 x1 x2 x3 h := fun _ _ _ _ _ => rfl
theorem aX5_advance_2 : ∀ x0 x1 x2 x3 x6 h, sX5_advance (.inr (.inr (.inl (x0, x1, x2, x3, x6, h)))) = tX5_advance_120 x0 x1 x2 x3 x6 h := fun _ _ _ _ _ _ => rfl
theorem aX5_advance_3 : ∀ x0 x1 x2 x3 h, sX5_advance (.inr (.inr (.inr (.inl (x0, x1, x2, x3, h))))) = tX5_advance_36 x0 x1 x2 x3 h := fun _ _ _ _ _ => rfl
theorem aX5_advance_4 : ∀ x0 x1 x2 x3 h, sX5_advance (.inr (.inr (.inr (.inr (x0, x1, x2, x3, h))))) = tX5_advance_129 x0 x1 x2 x3 h := fun _ _ _ _ _ => rfl
theorem aX16_init_0 : ∀ x0 h, sX16_init (.inl (x0, h)) = tX16_init_0 x0 h := fun _ _ => rfl
theorem aX16_init_1 : ∀ x0 s0 s1 h, sX16_init (.inr (.inl (x0, s0, s1, h))) = tX16_init_9 x0 s0 s1 h := fun _ _ _ _ => rfl
theorem aX16_init_2 : ∀ x0 s0 s1 h, sX16_init (.inr (.inr (.inl (x0, s0, s1, h)))) = tX16_init_18 x0 s0 s1 h := fun _ _ _ _ => rfl
theorem aX16_init_3 : ∀ x0 s0 s1 h, sX16_init (.inr (.inr (.inr (.inl (x0, s0, s1, h))))) = tX16_init_29 x0 s0 s1 h := fun _ _ _ _ => rfl
theorem aX16_init_4 : ∀ x0 s0 s1 h, sX16_init (.inr (.inr (.inr (.inr (.inl (x0, s0, s1, h)))))) = tX16_init_37 x0 s0 s1 h := fun _ _ _ _ => rfl
theorem aX16_init_5 : ∀ x0 s0 s1 h, sX16_init (.inr (.inr (.inr (.inr (.inr (.inl (x0, s0, s1, h))))))) = tX16_init_45 x0 s0 s1 h := fun _ _ _ _ => rfl
theorem aX16_init_6 : ∀ x0 s0 s1 h, sX16_init (.inr (.inr (.inr (.inr (.inr (.inr (.inl (x0, s0, s1, h)))))))) = tX16_init_54 x0 s0 s1 h := fun _ _ _ _ => rfl
theorem aX16_init_7 : ∀ x0 s0 s1 h, sX16_init (.inr (.inr (.inr (.inr (.inr (.inr (.inr (.inl (x0, s0, s1, h))))))))) = tX16_init_63 x0 s0 s1 h := fun _ _ _ _ => rfl
theorem aX16_init_8 : ∀ x0 s0 s1 h, sX16_init (.inr (.inr (.inr (.inr (.inr (.inr (.inr (.inr (.inl (x0, s0, s1, h)))))))))) = tX16_init_72 x0 s0 s1 h := fun _ _ _ _ => rfl
theorem aX16_init_9 : ∀ x0 s0 s1 h, sX16_init (.inr (.inr (.inr (.inr (.inr (.inr (.inr (.inr (.inr (.inl (x0, s0, s1, h))))))))))) = tX16_init_81 x0 s0 s1 h := fun _ _ _ _ => rfl
theorem aX16_init_10 : ∀ x0 s0 s1 h, sX16_init (.inr (.inr (.inr (.inr (.inr (.inr (.inr (.inr (.inr (.inr (.inl (x0, s0, s1, h)))))))))))) = tX16_init_90 x0 s0 s1 h := fun _ _ _ _ => rfl
theorem aX16_init_11 : ∀ x0 s0 s1 h, sX16_init (.inr (.inr (.inr (.inr (.inr (.inr (.inr (.inr (.inr (.inr (.inr (.inl (x0, s0, s1, h))))))))))))) = tX16_init_99 x0 s0 s1 h := fun _ _ _ _ => rfl
theorem aX16_init_12 : ∀ x0 s0 s1 h, sX16_init (.inr (.inr (.inr (.inr (.inr (.inr (.inr (.inr (.inr (.inr (.inr (.inr (.inl (x0, s0, s1, h)))))))))))))) = tX16_init_107 x0 s0 s1 h := fun _ _ _ _ => rfl
theorem aX16_init_13 : ∀ x0 s0 s1 h, sX16_init (.inr (.inr (.inr (.inr (.inr (.inr (.inr (.inr (.inr (.inr (.inr (.inr (.inr (.inl (x0, s0, s1, h))))))))))))))) = tX16_init_114 x0 s0 s1 h := fun _ _ _ _ => rfl
theorem aX16_init_14 : ∀ x0 s0 s1 h, sX16_init (.inr (.inr (.inr (.inr (.inr (.inr (.inr (.inr (.inr (.inr (.inr (.inr (.inr (.inr (.inl (x0, s0, s1, h)))))))))))))))) = tX16_init_125 x0 s0 s1 h := fun _ _ _ _ => rfl
theorem aX16_init_15 : ∀ x0 s0 s1 h, sX16_init (.inr (.inr (.inr (.inr (.inr (.inr (.inr (.inr (.inr (.inr (.inr (.inr (.inr (.inr (.inr (.inl (x0, s0, s1, h))))))))))))))))) = tX16_init_138 x0 s0 s1 h := fun _ _ _ _ => rfl
theorem aX16_init_16 : ∀ x0 s0 s1 h, sX16_init (.inr (.inr (.inr (.inr (.inr (.inr (.inr (.inr (.inr (.inr (.inr (.inr (.inr (.inr (.inr (.inr (.inl (x0, s0, s1, h)))))))))))))))))) = tX16_init_147 x0 s0 s1 h := fun _ _ _ _ => rfl
theorem aX16_init_17 : ∀ x0 s0 s1 h, sX16_init (.inr (.inr (.inr (.inr (.inr (.inr (.inr (.inr (.inr (.inr (.inr (.inr (.inr (.inr (.inr (.inr (.inr (.inl (x0, s0, s1, h))))))))))))))))))) = tX16_init_156 x0 s0 s1 h := fun _ _ _ _ => rfl
theorem aX16_init_18 : ∀ x0 s0 s1 h, sX16_init (.inr (.inr (.inr (.inr (.inr (.inr (.inr (.inr (.inr (.inr (.inr (.inr (.inr (.inr (.inr (.inr (.inr (.inr (.inl (x0, s0, s1, h)))))))))))))))))))) = tX16_init_165 x0 s0 s1 h := fun _ _ _ _ => rfl
theorem aX16_init_19 : ∀ x0 s0 s1 h, sX16_init (.inr (.inr (.inr (.inr (.inr (.inr (.inr (.inr (.inr (.inr (.inr (.inr (.inr (.inr (.inr (.inr (.inr (.inr (.inr (.inl (x0, s0, s1, h))))))))))))))))))))) = tX16_init_174 x0 s0 s1 h := fun _ _ _ _ => rfl
theorem aX16_init_20 : ∀ x0 s0 s1 h, sX16_init (.inr (.inr (.inr (.inr (.inr (.inr (.inr (.inr (.inr (.inr (.inr (.inr (.inr (.inr (.inr (.inr (.inr (.inr (.inr (.inr (.inl (x0, s0, s1, h)))))))))))))))))))))) = tX16_init_183 x0 s0 s1 h := fun _ _ _ _ => rfl
theorem aX16_init_21 : ∀ x0 s0 s1 h, sX16_init (.inr (.inr (.inr (.inr (.inr (.inr (.inr (.inr (.inr (.inr (.inr (.inr (.inr (.inr (.inr (.inr (.inr (.inr (.inr (.inr (.inr (.inl (x0, s0, s1, h))))))))))))))))))))))) = tX16_init_192 x0 s0 s1 h := fun _ _ _ _ => rfl
theorem aX16_init_22 : ∀ x0 s0 s1 h, sX16_init (.inr (.inr (.inr (.inr (.inr (.inr (.inr (.inr (.inr (.inr (.inr (.inr (.inr (.inr (.inr (.inr (.inr (.inr (.inr (.inr (.inr (.inr (.inl (x0, s0, s1, h)))))))))))))))))))))))) = tX16_init_207 x0 s0 s1 h := fun _ _ _ _ => rfl
theorem aX16_init_23 : ∀ x0 s0 s1 h, sX16_init (.inr (.inr (.inr (.inr (.inr (.inr (.inr (.inr (.inr (.inr (.inr (.inr (.inr (.inr (.inr (.inr (.inr (.inr (.inr (.inr (.inr (.inr (.inr (.inl (x0, s0, s1, h))))))))))))))))))))))))) = tX16_init_215 x0 s0 s1 h := fun _ _ _ _ => rfl
theorem aX16_init_24 : ∀ x0 s0 s1 h, sX16_init (.inr (.inr (.inr (.inr (.inr (.inr (.inr (.inr (.inr (.inr (.inr (.inr (.inr (.inr (.inr (.inr (.inr (.inr (.inr (.inr (.inr (.inr (.inr (.inr (.inl (x0, s0, s1, h)))))))))))))))))))))))))) = tX16_init_223 x0 s0 s1 h := fun _ _ _ _ => rfl
theorem aX16_init_25 : ∀ x0 s0 s1 h, sX16_init (.inr (.inr (.inr (.inr (.inr (.inr (.inr (.inr (.inr (.inr (.inr (.inr (.inr (.inr (.inr (.inr (.inr (.inr (.inr (.inr (.inr (.inr (.inr (.inr (.inr (.inl (x0, s0, s1, h))))))))))))))))))))))))))) = tX16_init_231 x0 s0 s1 h := fun _ _ _ _ => rfl
theorem aX16_init_26 : ∀ x0 s0 s1 h, sX16_init (.inr (.inr (.inr (.inr (.inr (.inr (.inr (.inr (.inr (.inr (.inr (.inr (.inr (.inr (.inr (.inr (.inr (.inr (.inr (.inr (.inr (.inr (.inr (.inr (.inr (.inr (.inl (x0, s0, s1, h)))))))))))))))))))))))))))) = tX16_init_245 x0 s0 s1 h := fun _ _ _ _ => rfl
theorem aX16_init_27 : ∀ x0 s0 s1 h, sX16_init (.inr (.inr (.inr (.inr (.inr (.inr (.inr (.inr (.inr (.inr (.inr (.inr (.inr (.inr (.inr (.inr (.inr (.inr (.inr (.inr (.inr (.inr (.inr (.inr (.inr (.inr (.inr (.inl (x0, s0, s1, h))))))))))))))))))))))))))))) = tX16_init_253 x0 s0 s1 h := fun _ _ _ _ => rfl
theorem aX16_init_28 : ∀ x0 s0 s1 h, sX16_init (.inr (.inr (.inr (.inr (.inr (.inr (.inr (.inr (.inr (.inr (.inr (.inr (.inr (.inr (.inr (.inr (.inr (.inr (.inr (.inr (.inr (.inr (.inr (.inr (.inr (.inr (.inr (.inr (.inl (x0, s0, s1, h)))))))))))))))))))))))))))))) = tX16_init_262 x0 s0 s1 h := fun _ _ _ _ => rfl
theorem aX16_init_29 : ∀ x0 s0 s1 h, sX16_init (.inr (.inr (.inr (.inr (.inr (.inr (.inr (.inr (.inr (.inr (.inr (.inr (.inr (.inr (.inr (.inr (.inr (.inr (.inr (.inr (.inr (.inr (.inr (.inr (.inr (.inr (.inr (.inr (.inr (.inl (x0, s0, s1, h))))))))))))))))))))))))))))))) = tX16_init_270 x0 s0 s1 h := fun _ _ _ _ => rfl
theorem aX16_init_30 : ∀ x0 s0 s1 h, sX16_init (.inr (.inr (.inr (.inr (.inr (.inr (.inr (.inr (.inr (.inr (.inr (.inr (.inr (.inr (.inr (.inr (.inr (.inr (.inr (.inr (.inr (.inr (.inr (.inr (.inr (.inr (.inr (.inr (.inr (.inr (.inl (x0, s0, s1, h)))))))))))))))))))))))))))))))) = tX16_init_279 x0 s0 s1 h := fun _ _ _ _ => rfl
theorem aX16_init_31 : ∀ x0 s0 s1 h, sX16_init (.inr (.inr (.inr (.inr (.inr (.inr (.inr (.inr (.inr (.inr (.inr (.inr (.inr (.inr (.inr (.inr (.inr (.inr (.inr (.inr (.inr (.inr (.inr (.inr (.inr (.inr (.inr (.inr (.inr (.inr (.inr (.inl (x0, s0, s1, h))))))))))))))))))))))))))))))))) = tX16_init_288 x0 s0 s1 h := fun _ _ _ _ => rfl
theorem aX16_init_32 : ∀ x0 s0 s1 h, sX16_init (.inr (.inr (.inr (.inr (.inr (.inr (.inr (.inr (.inr (.inr (.inr (.inr (.inr (.inr (.inr (.inr (.inr (.inr (.inr (.inr (.inr (.inr (.inr (.inr (.inr (.inr (.inr (.inr (.inr (.inr (.inr (.inr (.inl (x0, s0, s1, h)))))))))))))))))))))))))))))))))) = tX16_init_297 x0 s0 s1 h := fun _ _ _ _ => rfl
theorem aX16_init_33 : ∀ x0 s0 s1 h, sX16_init (.inr (.inr (.inr (.inr (.inr (.inr (.inr (.inr (.inr (.inr (.inr (.inr (.inr (.inr (.inr (.inr (.inr (.inr (.inr (.inr (.inr (.inr (.inr (.inr (.inr (.inr (.inr (.inr (.inr (.inr (.inr (.inr (.inr (.inl (x0, s0, s1, h))))))))))))))))))))))))))))))))))) = tX16_init_305 x0 s0 s1 h := fun _ _ _ _ => rfl
theorem aX16_init_34 : ∀ x0 s0 s1 h, sX16_init (.inr (.inr (.inr (.inr (.inr (.inr (.inr (.inr (.inr (.inr (.inr (.inr (.inr (.inr (.inr (.inr (.inr (.inr (.inr (.inr (.inr (.inr (.inr (.inr (.inr (.inr (.inr (.inr (.inr (.inr (.inr (.inr (.inr (.inr (.inl (x0, s0, s1, h)))))))))))))))))))))))))))))))))))) = tX16_init_314 x0 s0 s1 h := fun _ _ _ _ => rfl
theorem aX16_init_35 : ∀ x0 s0 s1 h, sX16_init (.inr (.inr (.inr (.inr (.inr (.inr (.inr (.inr (.inr (.inr (.inr (.inr (.inr (.inr (.inr (.inr (.inr (.inr (.inr (.inr (.inr (.inr (.inr (.inr (.inr (.inr (.inr (.inr (.inr (.inr (.inr (.inr (.inr (.inr (.inr (.inl (x0, s0, s1, h))))))))))))))))))))))))))))))))))))) = tX16_init_323 x0 s0 s1 h := fun _ _ _ _ => rfl
theorem aX16_init_36 : ∀ x0 s0 s1 h, sX16_init (.inr (.inr (.inr (.inr (.inr (.inr (.inr (.inr (.inr (.inr (.inr (.inr (.inr (.inr (.inr (.inr (.inr (.inr (.inr (.inr (.inr (.inr (.inr (.inr (.inr (.inr (.inr (.inr (.inr (.inr (.inr (.inr (.inr (.inr (.inr (.inr (.inl (x0, s0, s1, h)))))))))))))))))))))))))))))))))))))) = tX16_init_332 x0 s0 s1 h := fun _ _ _ _ => rfl
theorem aX16_init_37 : ∀ x0 s0 s1 h, sX16_init (.inr (.inr (.inr (.inr (.inr (.inr (.inr (.inr (.inr (.inr (.inr (.inr (.inr (.inr (.inr (.inr (.inr (.inr (.inr (.inr (.inr (.inr (.inr (.inr (.inr (.inr (.inr (.inr (.inr (.inr (.inr (.inr (.inr (.inr (.inr (.inr (.inr (.inl (x0, s0, s1, h))))))))))))))))))))))))))))))))))))))) = tX16_init_341 x0 s0 s1 h := fun _ _ _ _ => rfl
theorem aX16_init_38 : ∀ x0 s0 s1 h, sX16_init (.inr (.inr (.inr (.inr (.inr (.inr (.inr (.inr (.inr (.inr (.inr (.inr (.inr (.inr (.inr (.inr (.inr (.inr (.inr (.inr (.inr (.inr (.inr (.inr (.inr (.inr (.inr (.inr (.inr (.inr (.inr (.inr (.inr (.inr (.inr (.inr (.inr (.inr (.inl (x0, s0, s1, h)))))))))))))))))))))))))))))))))))))))) = tX16_init_350 x0 s0 s1 h := fun _ _ _ _ => rfl
theorem aX16_init_39 : ∀ x0 s0 s1 h, sX16_init (.inr (.inr (.inr (.inr (.inr (.inr (.inr (.inr (.inr (.inr (.inr (.inr (.inr (.inr (.inr (.inr (.inr (.inr (.inr (.inr (.inr (.inr (.inr (.inr (.inr (.inr (.inr (.inr (.inr (.inr (.inr (.inr (.inr (.inr (.inr (.inr (.inr (.inr (.inr (.inl (x0, s0, s1, h))))))))))))))))))))))))))))))))))))))))) = tX16_init_359 x0 s0 s1 h := fun _ _ _ _ => rfl
theorem aX16_init_40 : ∀ x0 s0 s1 h, sX16_init (.inr (.inr (.inr (.inr (.inr (.inr (.inr (.inr (.inr (.inr (.inr (.inr (.inr (.inr (.inr (.inr (.inr (.inr (.inr (.inr (.inr (.inr (.inr (.inr (.inr (.inr (.inr (.inr (.inr (.inr (.inr (.inr (.inr (.inr (.inr (.inr (.inr (.inr (.inr (.inr (.inl (x0, s0, s1, h)))))))))))))))))))))))))))))))))))))))))) = tX16_init_368 x0 s0 s1 h := fun _ _ _ _ => rfl
theorem aX16_init_41 : ∀ x0 s0 s1 h, sX16_init (.inr (.inr (.inr (.inr (.inr (.inr (.inr (.inr (.inr (.inr (.inr (.inr (.inr (.inr (.inr (.inr (.inr (.inr (.inr (.inr (.inr (.inr (.inr (.inr (.inr (.inr (.inr (.inr (.inr (.inr (.inr (.inr (.inr (.inr (.inr (.inr (.inr (.inr (.inr (.inr (.inr (.inl (x0, s0, s1, h))))))))))))))))))))))))))))))))))))))))))) = tX16_init_377 x0 s0 s1 h := fun _ _ _ _ => rfl
theorem aX16_init_42 : ∀ x0 s0 s1 h, sX16_init (.inr (.inr (.inr (.inr (.inr (.inr (.inr (.inr (.inr (.inr (.inr (.inr (.inr (.inr (.inr (.inr (.inr (.inr (.inr (.inr (.inr (.inr (.inr (.inr (.inr (.inr (.inr (.inr (.inr (.inr (.inr (.inr (.inr (.inr (.inr (.inr (.inr (.inr (.inr (.inr (.inr (.inr (.inl (x0, s0, s1, h)))))))))))))))))))))))))))))))))))))))))))) = tX16_init_385 x0 s0 s1 h := fun _ _ _ _ => rfl
theorem aX16_init_43 : ∀ x0 s0 s1 h, sX16_init (.inr (.inr (.inr (.inr (.inr (.inr (.inr (.inr (.inr (.inr (.inr (.inr (.inr (.inr (.inr (.inr (.inr (.inr (.inr (.inr (.inr (.inr (.inr (.inr (.inr (.inr (.inr (.inr (.inr (.inr (.inr (.inr (.inr (.inr (.inr (.inr (.inr (.inr (.inr (.inr (.inr (.inr (.inr (.inl (x0, s0, s1, h))))))))))))))))))))))))))))))))))))))))))))) = tX16_init_393 x0 s0 s1 h := fun _ _ _ _ => rfl
theorem aX16_init_44 : ∀ x0 s0 s1 h, sX16_init (.inr (.inr (.inr (.inr (.inr (.inr (.inr (.inr (.inr (.inr (.inr (.inr (.inr (.inr (.inr (.inr (.inr (.inr (.inr (.inr (.inr (.inr (.inr (.inr (.inr (.inr (.inr (.inr (.inr (.inr (.inr (.inr (.inr (.inr (.inr (.inr (.inr (.inr (.inr (.inr (.inr (.inr (.inr (.inr (.inl (x0, s0, s1, h)))))))))))))))))))))))))))))))))))))))))))))) = tX16_init_406 x0 s0 s1 h := fun _ _ _ _ => rfl
theorem aX16_init_45 : ∀ x0 s0 s1 h, sX16_init (.inr (.inr (.inr (.inr (.inr (.inr (.inr (.inr (.inr (.inr (.inr (.inr (.inr (.inr (.inr (.inr (.inr (.inr (.inr (.inr (.inr (.inr (.inr (.inr (.inr (.inr (.inr (.inr (.inr (.inr (.inr (.inr (.inr (.inr (.inr (.inr (.inr (.inr (.inr (.inr (.inr (.inr (.inr (.inr (.inr (.inl (x0, s0, s1, h))))))))))))))))))))))))))))))))))))))))))))))) = tX16_init_414 x0 s0 s1 h := fun _ _ _ _ => rfl
theorem aX16_init_46 : ∀ x0 s0 s1 h, sX16_init (.inr (.inr (.inr (.inr (.inr (.inr (.inr (.inr (.inr (.inr (.inr (.inr (.inr (.inr (.inr (.inr (.inr (.inr (.inr (.inr (.inr (.inr (.inr (.inr (.inr (.inr (.inr (.inr (.inr (.inr (.inr (.inr (.inr (.inr (.inr (.inr (.inr (.inr (.inr (.inr (.inr (.inr (.inr (.inr (.inr (.inr (.inl (x0, s0, s1, h)))))))))))))))))))))))))))))))))))))))))))))))) = tX16_init_423 x0 s0 s1 h := fun _ _ _ _ => rfl
theorem aX16_init_47 : ∀ x0 s0 s1 h, sX16_init (.inr (.inr (.inr (.inr (.inr (.inr (.inr (.inr (.inr (.inr (.inr (.inr (.inr (.inr (.inr (.inr (.inr (.inr (.inr (.inr (.inr (.inr (.inr (.inr (.inr (.inr (.inr (.inr (.inr (.inr (.inr (.inr (.inr (.inr (.inr (.inr (.inr (.inr (.inr (.inr (.inr (.inr (.inr (.inr (.inr (.inr (.inr (.inl (x0, s0, s1, h))))))))))))))))))))))))))))))))))))))))))))))))) = tX16_init_432 x0 s0 s1 h := fun _ _ _ _ => rfl
theorem aX16_init_48 : ∀ x0 s0 s1 h, sX16_init (.inr (.inr (.inr (.inr (.inr (.inr (.inr (.inr (.inr (.inr (.inr (.inr (.inr (.inr (.inr (.inr (.inr (.inr (.inr (.inr (.inr (.inr (.inr (.inr (.inr (.inr (.inr (.inr (.inr (.inr (.inr (.inr (.inr (.inr (.inr (.inr (.inr (.inr (.inr (.inr (.inr (.inr (.inr (.inr (.inr (.inr (.inr (.inr (.inl (x0, s0, s1, h)))))))))))))))))))))))))))))))))))))))))))))))))) = tX16_init_441 x0 s0 s1 h := fun _ _ _ _ => rfl
theorem aX16_init_49 : ∀ x0 s0 s1 h, sX16_init (.inr (.inr (.inr (.inr (.inr (.inr (.inr (.inr (.inr (.inr (.inr (.inr (.inr (.inr (.inr (.inr (.inr (.inr (.inr (.inr (.inr (.inr (.inr (.inr (.inr (.inr (.inr (.inr (.inr (.inr (.inr (.inr (.inr (.inr (.inr (.inr (.inr (.inr (.inr (.inr (.inr (.inr (.inr (.inr (.inr (.inr (.inr (.inr (.inr (.inl (x0, s0, s1, h))))))))))))))))))))))))))))))))))))))))))))))))))) = tX16_init_450 x0 s0 s1 h := fun _ _ _ _ => rfl
theorem aX16_init_50 : ∀ x0 s0 s1 h, sX16_init (.inr (.inr (.inr (.inr (.inr (.inr (.inr (.inr (.inr (.inr (.inr (.inr (.inr (.inr (.inr (.inr (.inr (.inr (.inr (.inr (.inr (.inr (.inr (.inr (.inr (.inr (.inr (.inr (.inr (.inr (.inr (.inr (.inr (.inr (.inr (.inr (.inr (.inr (.inr (.inr (.inr (.inr (.inr (.inr (.inr (.inr (.inr (.inr (.inr (.inr (.inl (x0, s0, s1, h)))))))))))))))))))))))))))))))))))))))))))))))))))) = tX16_init_459 x0 s0 s1 h := fun _ _ _ _ => rfl
theorem aX16_init_51 : ∀ x0 s0 s1 h, sX16_init (.inr (.inr (.inr (.inr (.inr (.inr (.inr (.inr (.inr (.inr (.inr (.inr (.inr (.inr (.inr (.inr (.inr (.inr (.inr (.inr (.inr (.inr (.inr (.inr (.inr (.inr (.inr (.inr (.inr (.inr (.inr (.inr (.inr (.inr (.inr (.inr (.inr (.inr (.inr (.inr (.inr (.inr (.inr (.inr (.inr (.inr (.inr (.inr (.inr (.inr (.inr (.inl (x0, s0, s1, h))))))))))))))))))))))))))))))))))))))))))))))))))))) = tX16_init_468 x0 s0 s1 h := fun _ _ _ _ => rfl
theorem aX16_init_52 : ∀ x0 s0 s1 h, sX16_init (.inr (.inr (.inr (.inr (.inr (.inr (.inr (.inr (.inr (.inr (.inr (.inr (.inr (.inr (.inr (.inr (.inr (.inr (.inr (.inr (.inr (.inr (.inr (.inr (.inr (.inr (.inr (.inr (.inr (.inr (.inr (.inr (.inr (.inr (.inr (.inr (.inr (.inr (.inr (.inr (.inr (.inr (.inr (.inr (.inr (.inr (.inr (.inr (.inr (.inr (.inr (.inr (.inl (x0, s0, s1, h)))))))))))))))))))))))))))))))))))))))))))))))))))))) = tX16_init_477 x0 s0 s1 h := fun _ _ _ _ => rfl
theorem aX16_init_53 : ∀ x0 s0 s1 h, sX16_init (.inr (.inr (.inr (.inr (.inr (.inr (.inr (.inr (.inr (.inr (.inr (.inr (.inr (.inr (.inr (.inr (.inr (.inr (.inr (.inr (.inr (.inr (.inr (.inr (.inr (.inr (.inr (.inr (.inr (.inr (.inr (.inr (.inr (.inr (.inr (.inr (.inr (.inr (.inr (.inr (.inr (.inr (.inr (.inr (.inr (.inr (.inr (.inr (.inr (.inr (.inr (.inr (.inr (.inl (x0, s0, s1, h))))))))))))))))))))))))))))))))))))))))))))))))))))))) = tX16_init_485 x0 s0 s1 h := fun _ _ _ _ => rfl
theorem aX16_init_54 : ∀ x0 s0 s1 h, sX16_init (.inr (.inr (.inr (.inr (.inr (.inr (.inr (.inr (.inr (.inr (.inr (.inr (.inr (.inr (.inr (.inr (.inr (.inr (.inr (.inr (.inr (.inr (.inr (.inr (.inr (.inr (.inr (.inr (.inr (.inr (.inr (.inr (.inr (.inr (.inr (.inr (.inr (.inr (.inr (.inr (.inr (.inr (.inr (.inr (.inr (.inr (.inr (.inr (.inr (.inr (.inr (.inr (.inr (.inr (.inl (x0, s0, s1, h)))))))))))))))))))))))))))))))))))))))))))))))))))))))) = tX16_init_493 x0 s0 s1 h := fun _ _ _ _ => rfl
theorem aX16_init_55 : ∀ x0 s0 s1 h, sX16_init (.inr (.inr (.inr (.inr (.inr (.inr (.inr (.inr (.inr (.inr (.inr (.inr (.inr (.inr (.inr (.inr (.inr (.inr (.inr (.inr (.inr (.inr (.inr (.inr (.inr (.inr (.inr (.inr (.inr (.inr (.inr (.inr (.inr (.inr (.inr (.inr (.inr (.inr (.inr (.inr (.inr (.inr (.inr (.inr (.inr (.inr (.inr (.inr (.inr (.inr (.inr (.inr (.inr (.inr (.inr (.inl (x0, s0, s1, h))))))))))))))))))))))))))))))))))))))))))))))))))))))))) = tX16_init_501 x0 s0 s1 h := fun _ _ _ _ => rfl
theorem aX16_init_56 : ∀ x0 s0 s1 h, sX16_init (.inr (.inr (.inr (.inr (.inr (.inr (.inr (.inr (.inr (.inr (.inr (.inr (.inr (.inr (.inr (.inr (.inr (.inr (.inr (.inr (.inr (.inr (.inr (.inr (.inr (.inr (.inr (.inr (.inr (.inr (.inr (.inr (.inr (.inr (.inr (.inr (.inr (.inr (.inr (.inr (.inr (.inr (.inr (.inr (.inr (.inr (.inr (.inr (.inr (.inr (.inr (.inr (.inr (.inr (.inr (.inr (.inl (x0, s0, s1, h)))))))))))))))))))))))))))))))))))))))))))))))))))))))))) = tX16_init_509 x0 s0 s1 h := fun _ _ _ _ => rfl
theorem aX16_init_57 : ∀ x0 x1 h, sX16_init (.inr (.inr (.inr (.inr (.inr (.inr (.inr (.inr (.inr (.inr (.inr (.inr (.inr (.inr (.inr (.inr (.inr (.inr (.inr (.inr (.inr (.inr (.inr (.inr (.inr (.inr (.inr (.inr (.inr (.inr (.inr (.inr (.inr (.inr (.inr (.inr (.inr (.inr (.inr (.inr (.inr (.inr (.inr (.inr (.inr (.inr (.inr (.inr (.inr (.inr (.inr (.inr (.inr (.inr (.inr (.inr (.inr (x0, x1, h)))))))))))))))))))))))))))))))))))))))))))))))))))))))))) = tX16_init_514 x0 x1 h := fun _ _ _ => rfl
theorem aX16_module_0 : ∀ x0 x1 h, sX16_module (.inl (x0, x1, h)) = tX16_module_0 x0 x1 h := fun _ _ _ => rfl
theorem aX16_module_1 : ∀ x0 x1 x2 s0 s1 h, sX16_module (.inr (.inl (x0, x1, x2, s0, s1, h))) = tX16_module_40 x0 x1 x2 s0 s1 h := fun _ _ _ _ _ _ => rfl
theorem aX16_module_2 : ∀ x0 x1 x2 h, sX16_module (.inr (.inr (.inl (x0, x1, x2, h)))) = tX16_module_63 x0 x1 x2 h := fun _ _ _ _ => rfl
theorem aX16_module_3 : ∀ x0 x1 x2 s0 s1 h, sX16_module (.inr (.inr (.inr (.inl (x0, x1, x2, s0, s1, h))))) = tX16_module_44 x0 x1 x2 s0 s1 h := fun _ _ _ _ _ _ => rfl
theorem aX16_module_4 : ∀ x0 x1 x2 x3 h, sX16_module (.inr (.inr (.inr (.inr (.inl (x0, x1, x2, x3, h)))))) = tX16_module_65 x0 x1 x2 x3 h := fun _ _ _ _ _ => rfl
theorem aX16_module_5 : ∀ x0 x2 s0 h, sX16_module (.inr (.inr (.inr (.inr (.inr (x0, x2, s0, h)))))) = tX16_module_150 x0 x2 s0 h := fun _ _ _ _ => rfl
