/-! THE START: what the premises give of the classes, of the arrays and of what lies below the base -/
abbrev st_pre : Cond := Jvm.Cond.and given_1 narrow_1
theorem st_fl {args : Array Value} {s : State} (h : st_pre.before args s = true) {c : Cond} (i : Nat) (hc : (flatC st_pre)[i]? = some c) : c.before args s = true := flat_of_before _ h c (List.mem_of_getElem? hc)
theorem st_A (s : State) : ∀ a : Nat, a < s.heap.size → ¬ s.heap.size ≤ a := fun a h1 h2 => absurd h1 (Nat.not_lt.mpr h2)
abbrev st_tm (i : Nat) : Term := .string (pm_sow i).1 (pm_sow i).2.1
abbrev st_va (i : Nat) : Term := .field (st_tm i) "java/lang/String" "value" "[B"
theorem st_ex0 : (flatC st_pre)[128]? = some (Cond.exactly (st_tm 0) "java/lang/String") := by decide +kernel
theorem st_co0 : (flatC st_pre)[129]? = some (Cond.eq (.field (st_tm 0) "java/lang/String" "coder" "B") (.int 0)) := by decide +kernel
theorem st_ar0 : (flatC st_pre)[130]? = some (Cond.arrayOf (st_va 0) .byte) := by decide +kernel
theorem st_le0 : (flatC st_pre)[131]? = some (Cond.eq (.length (st_va 0)) (.int (Int32.ofNat (pm_sln.getD 0 0)))) := by decide +kernel
theorem st_el0 : ∀ j, j < pm_sln.getD 0 0 → (flatC st_pre)[132 + j]? = some (Cond.eq (.elem (st_va 0) (.int (Int32.ofNat j))) (.int ((pm_sby.getD 0 []).getD j 0))) := by decide +kernel
theorem st_ex1 : (flatC st_pre)[155]? = some (Cond.exactly (st_tm 1) "java/lang/String") := by decide +kernel
theorem st_co1 : (flatC st_pre)[156]? = some (Cond.eq (.field (st_tm 1) "java/lang/String" "coder" "B") (.int 0)) := by decide +kernel
theorem st_ar1 : (flatC st_pre)[157]? = some (Cond.arrayOf (st_va 1) .byte) := by decide +kernel
theorem st_le1 : (flatC st_pre)[158]? = some (Cond.eq (.length (st_va 1)) (.int (Int32.ofNat (pm_sln.getD 1 0)))) := by decide +kernel
theorem st_el1 : ∀ j, j < pm_sln.getD 1 0 → (flatC st_pre)[159 + j]? = some (Cond.eq (.elem (st_va 1) (.int (Int32.ofNat j))) (.int ((pm_sby.getD 1 []).getD j 0))) := by decide +kernel
theorem st_ex2 : (flatC st_pre)[183]? = some (Cond.exactly (st_tm 2) "java/lang/String") := by decide +kernel
theorem st_co2 : (flatC st_pre)[184]? = some (Cond.eq (.field (st_tm 2) "java/lang/String" "coder" "B") (.int 0)) := by decide +kernel
theorem st_ar2 : (flatC st_pre)[185]? = some (Cond.arrayOf (st_va 2) .byte) := by decide +kernel
theorem st_le2 : (flatC st_pre)[186]? = some (Cond.eq (.length (st_va 2)) (.int (Int32.ofNat (pm_sln.getD 2 0)))) := by decide +kernel
theorem st_el2 : ∀ j, j < pm_sln.getD 2 0 → (flatC st_pre)[187 + j]? = some (Cond.eq (.elem (st_va 2) (.int (Int32.ofNat j))) (.int ((pm_sby.getD 2 []).getD j 0))) := by decide +kernel
theorem st_ex3 : (flatC st_pre)[219]? = some (Cond.exactly (st_tm 3) "java/lang/String") := by decide +kernel
theorem st_co3 : (flatC st_pre)[220]? = some (Cond.eq (.field (st_tm 3) "java/lang/String" "coder" "B") (.int 0)) := by decide +kernel
theorem st_ar3 : (flatC st_pre)[221]? = some (Cond.arrayOf (st_va 3) .byte) := by decide +kernel
theorem st_le3 : (flatC st_pre)[222]? = some (Cond.eq (.length (st_va 3)) (.int (Int32.ofNat (pm_sln.getD 3 0)))) := by decide +kernel
theorem st_el3 : ∀ j, j < pm_sln.getD 3 0 → (flatC st_pre)[223 + j]? = some (Cond.eq (.elem (st_va 3) (.int (Int32.ofNat j))) (.int ((pm_sby.getD 3 []).getD j 0))) := by decide +kernel
theorem st_ne01 : (flatC st_pre)[182]? = some (Cond.not (Cond.eq (st_tm 0) (st_tm 1))) := by decide +kernel
theorem st_ne02 : (flatC st_pre)[217]? = some (Cond.not (Cond.eq (st_tm 0) (st_tm 2))) := by decide +kernel
theorem st_ne03 : (flatC st_pre)[253]? = some (Cond.not (Cond.eq (st_tm 0) (st_tm 3))) := by decide +kernel
theorem st_ne12 : (flatC st_pre)[218]? = some (Cond.not (Cond.eq (st_tm 1) (st_tm 2))) := by decide +kernel
theorem st_ne13 : (flatC st_pre)[254]? = some (Cond.not (Cond.eq (st_tm 1) (st_tm 3))) := by decide +kernel
theorem st_ne23 : (flatC st_pre)[255]? = some (Cond.not (Cond.eq (st_tm 2) (st_tm 3))) := by decide +kernel
theorem st_vk {args : Array Value} {s : State} (h : st_pre.before args s = true) : ∃ adK adV : Nat → Nat, vk_S 4 pm_sln pm_sby adK adV (fun q => s.heap.size ≤ q) s s.heap ∧ ∀ i : Nat, i < 4 → (st_tm i).eval args s none [] s = some (.ref (adK i)) := by
  refine vk_Sof (tm := st_tm) (by decide) ?_ ?_ ?_ ?_ ?_ ?_ (st_A s)
  · intro i hi
    have hi4 : i = 0 ∨ i = 1 ∨ i = 2 ∨ i = 3 := by omega
    rcases hi4 with rfl | rfl | rfl | rfl
    · exact st_fl h _ st_ex0
    · exact st_fl h _ st_ex1
    · exact st_fl h _ st_ex2
    · exact st_fl h _ st_ex3
  · intro i hi
    have hi4 : i = 0 ∨ i = 1 ∨ i = 2 ∨ i = 3 := by omega
    rcases hi4 with rfl | rfl | rfl | rfl
    · exact st_fl h _ st_co0
    · exact st_fl h _ st_co1
    · exact st_fl h _ st_co2
    · exact st_fl h _ st_co3
  · intro i hi
    have hi4 : i = 0 ∨ i = 1 ∨ i = 2 ∨ i = 3 := by omega
    rcases hi4 with rfl | rfl | rfl | rfl
    · exact st_fl h _ st_ar0
    · exact st_fl h _ st_ar1
    · exact st_fl h _ st_ar2
    · exact st_fl h _ st_ar3
  · intro i hi
    have hi4 : i = 0 ∨ i = 1 ∨ i = 2 ∨ i = 3 := by omega
    rcases hi4 with rfl | rfl | rfl | rfl
    · exact st_fl h _ st_le0
    · exact st_fl h _ st_le1
    · exact st_fl h _ st_le2
    · exact st_fl h _ st_le3
  · intro i hi j hj
    have hi4 : i = 0 ∨ i = 1 ∨ i = 2 ∨ i = 3 := by omega
    rcases hi4 with rfl | rfl | rfl | rfl
    · exact st_fl h _ (st_el0 j hj)
    · exact st_fl h _ (st_el1 j hj)
    · exact st_fl h _ (st_el2 j hj)
    · exact st_fl h _ (st_el3 j hj)
  · intro i j hi hj hn
    have hi4 : i = 0 ∨ i = 1 ∨ i = 2 ∨ i = 3 := by omega
    rcases hi4 with rfl | rfl | rfl | rfl
    · have hj4 : j = 0 ∨ j = 1 ∨ j = 2 ∨ j = 3 := by omega
      rcases hj4 with rfl | rfl | rfl | rfl
      · exact absurd rfl hn
      · exact Or.inl (st_fl h _ st_ne01)
      · exact Or.inl (st_fl h _ st_ne02)
      · exact Or.inl (st_fl h _ st_ne03)
    · have hj4 : j = 0 ∨ j = 1 ∨ j = 2 ∨ j = 3 := by omega
      rcases hj4 with rfl | rfl | rfl | rfl
      · exact Or.inr (st_fl h _ st_ne01)
      · exact absurd rfl hn
      · exact Or.inl (st_fl h _ st_ne12)
      · exact Or.inl (st_fl h _ st_ne13)
    · have hj4 : j = 0 ∨ j = 1 ∨ j = 2 ∨ j = 3 := by omega
      rcases hj4 with rfl | rfl | rfl | rfl
      · exact Or.inr (st_fl h _ st_ne02)
      · exact Or.inr (st_fl h _ st_ne12)
      · exact absurd rfl hn
      · exact Or.inl (st_fl h _ st_ne23)
    · have hj4 : j = 0 ∨ j = 1 ∨ j = 2 ∨ j = 3 := by omega
      rcases hj4 with rfl | rfl | rfl | rfl
      · exact Or.inr (st_fl h _ st_ne03)
      · exact Or.inr (st_fl h _ st_ne13)
      · exact Or.inr (st_fl h _ st_ne23)
      · exact absurd rfl hn
abbrev st_bt : Term := .static RX9 "BEGINNING" "[I"
theorem st_ba : (flatC st_pre)[5]? = some (Cond.arrayOf st_bt .int) := by decide +kernel
theorem st_bl : (flatC st_pre)[6]? = some (Cond.eq (.length st_bt) (.int (Int32.ofNat 8))) := by decide +kernel
theorem st_be : ∀ j, j < 8 → (flatC st_pre)[7 + j]? = some (Cond.eq (.elem st_bt (.int (Int32.ofNat j))) (.int (pm_beg.getD j 0))) := by decide +kernel
theorem st_cs : (flatC st_pre)[15]? = some (Cond.eq (.static "java/lang/String" "COMPACT_STRINGS" "Z") (.int 1)) := by decide +kernel
theorem st_si : (flatC st_pre)[16]? = some (Cond.isRef (.static "jdk/internal/util/Preconditions" "SIOOBE_FORMATTER" "Ljava/util/function/BiFunction;")) := by decide +kernel
theorem st_us : (flatC st_pre)[20]? = some (Cond.isRef (.static "java/lang/Throwable" "UNASSIGNED_STACK" "[Ljava/lang/StackTraceElement;")) := by decide +kernel
theorem st_ss : (flatC st_pre)[21]? = some (Cond.isRef (.static "java/lang/Throwable" "SUPPRESSED_SENTINEL" "Ljava/util/List;")) := by decide +kernel
theorem st_ls0 : Cond.laysStatic RX9 "BEGINNING" "[I" ∈ lw_tbl ∧ Cond.initialized RX9 ∈ lw_tbl := ⟨pm_tin4 _ (List.mem_of_getElem? (i := 48) rfl), pm_tin1 _ (List.mem_of_getElem? (i := 3) rfl)⟩
theorem st_ls1 : Cond.laysStatic "java/lang/String" "COMPACT_STRINGS" "Z" ∈ lw_tbl ∧ Cond.initialized "java/lang/String" ∈ lw_tbl := ⟨pm_tin6 _ (List.mem_of_getElem? (i := 77) rfl), pm_tin1 _ (List.mem_of_getElem? (i := 23) rfl)⟩
theorem st_ls2 : Cond.laysStatic "jdk/internal/util/Preconditions" "SIOOBE_FORMATTER" "Ljava/util/function/BiFunction;" ∈ lw_tbl ∧ Cond.initialized "jdk/internal/util/Preconditions" ∈ lw_tbl := ⟨pm_tin6 _ (List.mem_of_getElem? (i := 85) rfl), pm_tin1 _ (List.mem_of_getElem? (i := 25) rfl)⟩
theorem st_ls3 : Cond.laysStatic "java/lang/Throwable" "UNASSIGNED_STACK" "[Ljava/lang/StackTraceElement;" ∈ lw_tbl ∧ Cond.initialized "java/lang/Throwable" ∈ lw_tbl := ⟨pm_tin9 _ (List.mem_of_getElem? (i := 123) rfl), pm_tin1 _ (List.mem_of_getElem? (i := 16) rfl)⟩
theorem st_ls4 : Cond.laysStatic "java/lang/Throwable" "SUPPRESSED_SENTINEL" "Ljava/util/List;" ∈ lw_tbl ∧ Cond.initialized "java/lang/Throwable" ∈ lw_tbl := ⟨pm_tin9 _ (List.mem_of_getElem? (i := 125) rfl), pm_tin1 _ (List.mem_of_getElem? (i := 16) rfl)⟩
theorem st_sr0 : Cond.stringRef (pm_sow 0).1 (pm_sow 0).2.1 (pm_sow 0).2.2 ∈ lw_tbl := pm_tin6 _ (List.mem_of_getElem? (i := 67) rfl)
theorem st_sr1 : Cond.stringRef (pm_sow 1).1 (pm_sow 1).2.1 (pm_sow 1).2.2 ∈ lw_tbl := pm_tin6 _ (List.mem_of_getElem? (i := 111) rfl)
theorem st_sr2 : Cond.stringRef (pm_sow 2).1 (pm_sow 2).2.1 (pm_sow 2).2.2 ∈ lw_tbl := pm_tin6 _ (List.mem_of_getElem? (i := 119) rfl)
theorem st_sr3 : Cond.stringRef (pm_sow 3).1 (pm_sow 3).2.1 (pm_sow 3).2.2 ∈ lw_tbl := pm_tin6 _ (List.mem_of_getElem? (i := 128) rfl)
theorem st_in0 : Cond.instantiable (pm_Rn 0) (pm_fN 0) ∈ lw_tbl := pm_tin1 _ (List.mem_of_getElem? (i := 218) rfl)
theorem st_in1 : Cond.instantiable (pm_Rn 1) (pm_fN 1) ∈ lw_tbl := pm_tin1 _ (List.mem_of_getElem? (i := 211) rfl)
theorem st_in2 : Cond.instantiable (pm_Rn 2) (pm_fN 2) ∈ lw_tbl := pm_tin3 _ (List.mem_of_getElem? (i := 64) rfl)
theorem st_in3 : Cond.instantiable (pm_Rn 3) (pm_fN 3) ∈ lw_tbl := pm_tin3 _ (List.mem_of_getElem? (i := 110) rfl)
theorem st_in4 : Cond.instantiable (pm_Rn 4) (pm_fN 4) ∈ lw_tbl := pm_tin2 _ (List.mem_of_getElem? (i := 171) rfl)
theorem st_in5 : Cond.instantiable (pm_Rn 5) (pm_fN 5) ∈ lw_tbl := pm_tin3 _ (List.mem_of_getElem? (i := 54) rfl)
theorem st_in6 : Cond.instantiable (pm_Rn 6) (pm_fN 6) ∈ lw_tbl := pm_tin2 _ (List.mem_of_getElem? (i := 128) rfl)
theorem st_in7 : Cond.instantiable (pm_Rn 7) (pm_fN 7) ∈ lw_tbl := pm_tin1 _ (List.mem_of_getElem? (i := 42) rfl)
theorem st_in8 : Cond.instantiable (pm_Rn 8) (pm_fN 8) ∈ lw_tbl := pm_tin2 _ (List.mem_of_getElem? (i := 161) rfl)
theorem st_in9 : Cond.instantiable (pm_Rn 9) (pm_fN 9) ∈ lw_tbl := pm_tin1 _ (List.mem_of_getElem? (i := 135) rfl)
theorem st_in10 : Cond.instantiable (pm_Rn 10) (pm_fN 10) ∈ lw_tbl := pm_tin2 _ (List.mem_of_getElem? (i := 89) rfl)
theorem st_in11 : Cond.instantiable (pm_Rn 11) (pm_fN 11) ∈ lw_tbl := pm_tin2 _ (List.mem_of_getElem? (i := 95) rfl)
theorem st_in12 : Cond.instantiable (pm_Rn 12) (pm_fN 12) ∈ lw_tbl := pm_tin1 _ (List.mem_of_getElem? (i := 32) rfl)
theorem st_in13 : Cond.instantiable (pm_Rn 13) (pm_fN 13) ∈ lw_tbl := pm_tin9 _ (List.mem_of_getElem? (i := 97) rfl)
theorem st_in14 : Cond.instantiable (pm_Rn 14) (pm_fN 14) ∈ lw_tbl := pm_tin11 _ (List.mem_of_getElem? (i := 21) rfl)
theorem st_in15 : Cond.instantiable (pm_Rn 15) (pm_fN 15) ∈ lw_tbl := pm_tin9 _ (List.mem_of_getElem? (i := 159) rfl)
theorem st_in16 : Cond.instantiable (pm_Rn 16) (pm_fN 16) ∈ lw_tbl := pm_tin9 _ (List.mem_of_getElem? (i := 88) rfl)
theorem st_cls {args : Array Value} {s : State} (hts : ∀ w ∈ lw_tbl, w.before args s = true) {c : Nat} (hc : pm_Cl c) (hi : Cond.instantiable (pm_Rn c) (pm_fN c) ∈ lw_tbl) : ∃ q : ClassId × (Nat → Nat), u_Kn s (pm_Rn c) (pm_T c) (pm_fN c) q.1 q.2 := by
  obtain ⟨cC, iS, h⟩ := u_known (ws := lw_tbl) (T := pm_T c) (N := pm_fN c) hts hc.2.2.1 (hts _ hi)
  exact ⟨(cC, iS), h⟩
theorem st_D {args : Array Value} {s : State} (hts : ∀ w ∈ lw_tbl, w.before args s = true) : ∃ D : va_G, ∀ (c : Nat) (q : vw_C), vwCl[c]? = some q → u_Kn s q.1 q.2.1 q.2.2 (D.1 c) (D.2 c) := by
  have h0 : ∀ c : Nat, ∃ z : ClassId × (Nat → Nat), ∀ q : vw_C, vwCl[c]? = some q → u_Kn s q.1 q.2.1 q.2.2 z.1 z.2 := by
    intro c
    by_cases hc : c < 17
    · have h17 : c = 0 ∨ c = 1 ∨ c = 2 ∨ c = 3 ∨ c = 4 ∨ c = 5 ∨ c = 6 ∨ c = 7 ∨ c = 8 ∨ c = 9 ∨ c = 10 ∨ c = 11 ∨ c = 12 ∨ c = 13 ∨ c = 14 ∨ c = 15 ∨ c = 16 := by omega
      rcases h17 with rfl | rfl | rfl | rfl | rfl | rfl | rfl | rfl | rfl | rfl | rfl | rfl | rfl | rfl | rfl | rfl | rfl
      · obtain ⟨z, hz⟩ := st_cls hts pm_Cl0 st_in0
        exact ⟨z, fun q hq => by cases Option.some.inj (hq.symm.trans pm_Cl0.2.1); exact hz⟩
      · obtain ⟨z, hz⟩ := st_cls hts pm_Cl1 st_in1
        exact ⟨z, fun q hq => by cases Option.some.inj (hq.symm.trans pm_Cl1.2.1); exact hz⟩
      · obtain ⟨z, hz⟩ := st_cls hts pm_Cl2 st_in2
        exact ⟨z, fun q hq => by cases Option.some.inj (hq.symm.trans pm_Cl2.2.1); exact hz⟩
      · obtain ⟨z, hz⟩ := st_cls hts pm_Cl3 st_in3
        exact ⟨z, fun q hq => by cases Option.some.inj (hq.symm.trans pm_Cl3.2.1); exact hz⟩
      · obtain ⟨z, hz⟩ := st_cls hts pm_Cl4 st_in4
        exact ⟨z, fun q hq => by cases Option.some.inj (hq.symm.trans pm_Cl4.2.1); exact hz⟩
      · obtain ⟨z, hz⟩ := st_cls hts pm_Cl5 st_in5
        exact ⟨z, fun q hq => by cases Option.some.inj (hq.symm.trans pm_Cl5.2.1); exact hz⟩
      · obtain ⟨z, hz⟩ := st_cls hts pm_Cl6 st_in6
        exact ⟨z, fun q hq => by cases Option.some.inj (hq.symm.trans pm_Cl6.2.1); exact hz⟩
      · obtain ⟨z, hz⟩ := st_cls hts pm_Cl7 st_in7
        exact ⟨z, fun q hq => by cases Option.some.inj (hq.symm.trans pm_Cl7.2.1); exact hz⟩
      · obtain ⟨z, hz⟩ := st_cls hts pm_Cl8 st_in8
        exact ⟨z, fun q hq => by cases Option.some.inj (hq.symm.trans pm_Cl8.2.1); exact hz⟩
      · obtain ⟨z, hz⟩ := st_cls hts pm_Cl9 st_in9
        exact ⟨z, fun q hq => by cases Option.some.inj (hq.symm.trans pm_Cl9.2.1); exact hz⟩
      · obtain ⟨z, hz⟩ := st_cls hts pm_Cl10 st_in10
        exact ⟨z, fun q hq => by cases Option.some.inj (hq.symm.trans pm_Cl10.2.1); exact hz⟩
      · obtain ⟨z, hz⟩ := st_cls hts pm_Cl11 st_in11
        exact ⟨z, fun q hq => by cases Option.some.inj (hq.symm.trans pm_Cl11.2.1); exact hz⟩
      · obtain ⟨z, hz⟩ := st_cls hts pm_Cl12 st_in12
        exact ⟨z, fun q hq => by cases Option.some.inj (hq.symm.trans pm_Cl12.2.1); exact hz⟩
      · obtain ⟨z, hz⟩ := st_cls hts pm_Cl13 st_in13
        exact ⟨z, fun q hq => by cases Option.some.inj (hq.symm.trans pm_Cl13.2.1); exact hz⟩
      · obtain ⟨z, hz⟩ := st_cls hts pm_Cl14 st_in14
        exact ⟨z, fun q hq => by cases Option.some.inj (hq.symm.trans pm_Cl14.2.1); exact hz⟩
      · obtain ⟨z, hz⟩ := st_cls hts pm_Cl15 st_in15
        exact ⟨z, fun q hq => by cases Option.some.inj (hq.symm.trans pm_Cl15.2.1); exact hz⟩
      · obtain ⟨z, hz⟩ := st_cls hts pm_Cl16 st_in16
        exact ⟨z, fun q hq => by cases Option.some.inj (hq.symm.trans pm_Cl16.2.1); exact hz⟩
    · refine ⟨(0, fun _ => 0), fun q hq => ?_⟩
      have := (List.getElem?_eq_some_iff.mp hq).1
      exact absurd this hc
  obtain ⟨f, hf⟩ := Classical.axiomOfChoice h0
  exact ⟨(fun c => (f c).1, fun c => (f c).2), fun c q hq => hf c q hq⟩
theorem st_a0 : Cond.arrayClass (pm_aty 0) ∈ lw_tbl := pm_tin1 _ (List.mem_of_getElem? (i := 209) rfl)
theorem st_a1 : Cond.arrayClass (pm_aty 1) ∈ lw_tbl := pm_tin1 _ (List.mem_of_getElem? (i := 131) rfl)
theorem st_a2 : Cond.arrayClass (pm_aty 2) ∈ lw_tbl := pm_tin1 _ (List.mem_of_getElem? (i := 132) rfl)
theorem st_a3 : Cond.arrayClass (pm_aty 3) ∈ lw_tbl := pm_tin1 _ (List.mem_of_getElem? (i := 133) rfl)
theorem st_a4 : Cond.arrayOver (.array .int) ∈ lw_tbl := pm_tin1 _ (List.mem_of_getElem? (i := 48) rfl)
theorem st_a5 : Cond.arrayOver (.array .byte) ∈ lw_tbl := pm_tin2 _ (List.mem_of_getElem? (i := 134) rfl)
theorem st_a6 : Cond.arrayOver (.object RX0) ∈ lw_tbl := pm_tin1 _ (List.mem_of_getElem? (i := 50) rfl)
theorem st_a7 : Cond.arrayOver (.object RX3) ∈ lw_tbl := pm_tin3 _ (List.mem_of_getElem? (i := 60) rfl)
theorem st_a8 : Cond.arrayOver (.object RX4) ∈ lw_tbl := pm_tin2 _ (List.mem_of_getElem? (i := 159) rfl)
theorem st_a9 : Cond.arrayOver (.object RX7) ∈ lw_tbl := pm_tin1 _ (List.mem_of_getElem? (i := 41) rfl)
theorem st_a10 : Cond.arrayOver (.object RX14) ∈ lw_tbl := pm_tin9 _ (List.mem_of_getElem? (i := 95) rfl)
theorem st_arr {s : State} {ty : FieldType} {cA : ClassId} {kA : Class} {comp : ClassId} (h2 : s.vm.classes[cA]? = some kA) (h3 : kA.kind = .array comp ty) : ArrOfT s cA ty := fun n z => ⟨fun k h => (by cases h), kA, h2, comp, h3⟩
theorem st_p {args : Array Value} {s : State} {ty : FieldType} (h : (Cond.arrayClass ty).before args s = true) (hn : ∀ C, ty ≠ .object C) : ∃ cA : ClassId, ArrOfT s cA ty ∧ va_RA s cA ty := by
  obtain ⟨c, k, comp, h1, h2, h3⟩ := Cond.arrayClass_spec h
  refine ⟨c, st_arr h2 h3, ?_⟩
  cases ty <;> first | exact h1 | exact absurd rfl (hn _)
theorem st_o {args : Array Value} {s : State} {C : String} (h : (Cond.arrayOver (.object C)).before args s = true) : ∃ cA : ClassId, ArrOfT s cA (.object C) ∧ va_RA s cA (.object C) := by
  obtain ⟨comp, c, k, h1, -, h3, h4, h5⟩ := Cond.arrayOver_spec h
  exact ⟨c, st_arr h3 h4, k, comp, h3, h4, h1, h5⟩
theorem st_oa {args : Array Value} {s : State} {t : FieldType} (h : (Cond.arrayOver (.array t)).before args s = true) : ∃ cA : ClassId, ArrOfT s cA (.array t) ∧ va_RA s cA (.array t) := by
  obtain ⟨comp, c, k, h1, -, h3, h4, h5⟩ := arrayOverA_spec h
  exact ⟨c, st_arr h3 h4, h5⟩
theorem st_cy {args : Array Value} {s : State} (hts : ∀ w ∈ lw_tbl, w.before args s = true) : ∃ cy : Nat → ClassId, ∀ t, t < 11 → ArrOfT s (cy t) (pm_aty t) ∧ va_RA s (cy t) (pm_aty t) := by
  have h0 : ∀ t : Nat, ∃ z : ClassId, t < 11 → ArrOfT s z (pm_aty t) ∧ va_RA s z (pm_aty t) := by
    intro t
    by_cases ht : t < 11
    · have h11 : t = 0 ∨ t = 1 ∨ t = 2 ∨ t = 3 ∨ t = 4 ∨ t = 5 ∨ t = 6 ∨ t = 7 ∨ t = 8 ∨ t = 9 ∨ t = 10 := by omega
      rcases h11 with rfl | rfl | rfl | rfl | rfl | rfl | rfl | rfl | rfl | rfl | rfl
      · obtain ⟨z, hz⟩ := st_p (hts _ st_a0) (by intro C h; cases h)
        exact ⟨z, fun _ => hz⟩
      · obtain ⟨z, hz⟩ := st_p (hts _ st_a1) (by intro C h; cases h)
        exact ⟨z, fun _ => hz⟩
      · obtain ⟨z, hz⟩ := st_p (hts _ st_a2) (by intro C h; cases h)
        exact ⟨z, fun _ => hz⟩
      · obtain ⟨z, hz⟩ := st_p (hts _ st_a3) (by intro C h; cases h)
        exact ⟨z, fun _ => hz⟩
      · obtain ⟨z, hz⟩ := st_oa (hts _ st_a4)
        exact ⟨z, fun _ => hz⟩
      · obtain ⟨z, hz⟩ := st_oa (hts _ st_a5)
        exact ⟨z, fun _ => hz⟩
      · obtain ⟨z, hz⟩ := st_o (hts _ st_a6)
        exact ⟨z, fun _ => hz⟩
      · obtain ⟨z, hz⟩ := st_o (hts _ st_a7)
        exact ⟨z, fun _ => hz⟩
      · obtain ⟨z, hz⟩ := st_o (hts _ st_a8)
        exact ⟨z, fun _ => hz⟩
      · obtain ⟨z, hz⟩ := st_o (hts _ st_a9)
        exact ⟨z, fun _ => hz⟩
      · obtain ⟨z, hz⟩ := st_o (hts _ st_a10)
        exact ⟨z, fun _ => hz⟩
    · exact ⟨0, fun h => absurd h ht⟩
  exact Classical.axiomOfChoice h0
theorem st_Z {args : Array Value} {s : State} {n d : String} (hl : (Cond.laysStatic "java/lang/Throwable" n d).before args s = true) (hini : (Cond.initialized "java/lang/Throwable").before args s = true) (h : (Cond.isRef (.static "java/lang/Throwable" n d)).before args s = true) : ∃ z : Nat, va_Z "java/lang/Throwable" n d (va_rf (pm_un z)) (fun q => s.heap.size ≤ q) s s.heap := by
  rcases va_Zqof hl hini h (st_A s) with q | ⟨t, q⟩
  · exact ⟨0, q⟩
  · exact ⟨t + 1, q⟩
/-- the base, the classes' numbers, the array classes, and what lies below the base -/
theorem st_G {b : Nat} {s : State} (hts : ∀ w ∈ lw_tbl, w.before #[Value.ref b] s = true) (h : st_pre.before #[Value.ref b] s = true) : ∃ G : pm_Gl, G.1 = s.heap.size ∧ va_K G.2.1 vwCl (pm_tys G.2.2) s ∧ pm_Nw G s := by
  obtain ⟨D, hD⟩ := st_D hts
  obtain ⟨cy, hcy⟩ := st_cy hts
  obtain ⟨adK, adV, hvk, hev⟩ := st_vk h
  obtain ⟨bt, hbt, hT⟩ := va_Tof (tm := st_bt) (ty := .int) (N := 8) (f := fun j => .int (pm_beg.getD j 0)) (A := fun q => s.heap.size ≤ q) (by decide) (st_fl h _ st_ba) (va_eqt (st_fl h _ st_bl)) (fun j hj => va_eqt (st_fl h _ (st_be j hj))) (st_A s)
  obtain ⟨z0, hz0⟩ := st_Z (hts _ st_ls3.1) (hts _ st_ls3.2) (st_fl h _ st_us)
  obtain ⟨z1, hz1⟩ := st_Z (hts _ st_ls4.1) (hts _ st_ls4.2) (st_fl h _ st_ss)
  let f : Nat → Nat := fun k => if k < 11 then cy k else if k < 110 then adK (k - 100) else if k < 120 then adV (k - 110) else if k = 120 then bt else if k = 130 then z0 else z1
  have f1 : ∀ t, t < 11 → f t = cy t := fun t ht => if_pos ht
  have f2 : ∀ i, i < 4 → f (100 + i) = adK i := fun i hi => by
    show (if 100 + i < 11 then _ else _) = _
    rw [if_neg (by omega), if_pos (by omega), Nat.add_sub_cancel_left]
  have f3 : ∀ i, i < 4 → f (110 + i) = adV i := fun i hi => by
    show (if 110 + i < 11 then _ else _) = _
    rw [if_neg (by omega), if_neg (by omega), if_pos (by omega), Nat.add_sub_cancel_left]
  have f4 : f 120 = bt := rfl
  have f5 : f 130 = z0 := rfl
  have f6 : f 131 = z1 := rfl
  refine ⟨(s.heap.size, D, f), rfl, ⟨hD, fun k q hk => ?_⟩, fun w hw hn => ?_, fun C hC => ?_, hts _ st_a4, hts _ st_a5, ⟨fun i hi => ?_, ?_, ?_, ?_⟩, ⟨?_, ?_⟩, ⟨?_, ?_, ?_, ?_⟩⟩
  · have hk11 : k < 11 := by
      have := (List.getElem?_eq_some_iff.mp hk).1
      simpa [pm_tys] using this
    rw [pm_tys_at _ hk11] at hk
    cases Option.some.inj hk
    show ArrOfT s (f k) (pm_aty k) ∧ va_RA s (f k) (pm_aty k)
    rw [f1 k hk11]
    exact hcy k hk11
  · have h0 := hts w hw
    match w, hn, h0 with
    | .fieldLinkNest .., _, h0 => exact va_Nw.of rfl h0
    | .methodLinkNest .., _, h0 => exact va_Nw.of rfl h0
    | .castable .., _, h0 => exact va_Nw.of rfl h0
    | .declares _, _, h0 => exact va_Nw.of rfl h0
  · simp only [List.mem_cons, List.not_mem_nil, or_false] at hC
    rcases hC with rfl | rfl | rfl | rfl | rfl
    · exact hts _ st_a6
    · exact hts _ st_a7
    · exact hts _ st_a8
    · exact hts _ st_a9
    · exact hts _ st_a10
  · show vk_R _ _ _ (f (100 + i)) s
    rw [f2 i hi]
    have he := hev i hi
    have hi4 : i = 0 ∨ i = 1 ∨ i = 2 ∨ i = 3 := by omega
    rcases hi4 with rfl | rfl | rfl | rfl
    · exact vk_R.of (hts _ st_sr0) he
    · exact vk_R.of (hts _ st_sr1) he
    · exact vk_R.of (hts _ st_sr2) he
    · exact vk_R.of (hts _ st_sr3) he
  · refine ⟨fun i hi => ?_, fun i j hi hj e => ?_⟩
    · have q := hvk.1 i hi
      show va_O _ (f (100 + i)) _ s s.heap ∧ va_OF _ _ _ _ (f (100 + i)) _ s s.heap ∧ va_OF _ _ _ (.ref (f (110 + i))) (f (100 + i)) _ s s.heap ∧ va_T _ (f (110 + i)) _ _ _ s s.heap
      rw [f2 i hi, f3 i hi]
      exact q
    · have e' : f (100 + i) = f (100 + j) := e
      rw [f2 i hi, f2 j hj] at e'
      exact hvk.2 i j hi hj e'
  · exact va_Zof (hts _ st_ls1.1) (hts _ st_ls1.2) (va_eqt (st_fl h _ st_cs)) (st_A s)
  · exact va_Zqof (hts _ st_ls2.1) (hts _ st_ls2.2) (st_fl h _ st_si) (st_A s)
  · exact va_Zof (hts _ st_ls0.1) (hts _ st_ls0.2) hbt (st_A s)
  · exact hT
  · exact hz0
  · exact hz1
  · exact pm_LS.of (hts _ st_ls3.1) (st_A s)
  · exact pm_LS.of (hts _ st_ls4.1) (st_A s)
