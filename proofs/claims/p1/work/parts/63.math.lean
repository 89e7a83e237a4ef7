/-! MATH of ints and longs, by the library's contracts -/
theorem mwmaxI : Cond.code Lib.Math.max.name Lib.Math.max.code 2 (some .int) ∈ lw_tbl ∧ Cond.static Lib.Math.max.name ∈ lw_tbl ∧ Cond.initialized "java/lang/Math" ∈ lw_tbl := ⟨pm_tin1 _ (List.mem_of_getElem? (i := 225) rfl), pm_tin1 _ (List.mem_of_getElem? (i := 224) rfl), pm_tin1 _ (List.mem_of_getElem? (i := 6) rfl)⟩
theorem mwminI : Cond.code Lib.Math.min.name Lib.Math.min.code 2 (some .int) ∈ lw_tbl ∧ Cond.static Lib.Math.min.name ∈ lw_tbl ∧ Cond.initialized "java/lang/Math" ∈ lw_tbl := ⟨pm_tin4 _ (List.mem_of_getElem? (i := 35) rfl), pm_tin4 _ (List.mem_of_getElem? (i := 34) rfl), pm_tin1 _ (List.mem_of_getElem? (i := 6) rfl)⟩
theorem mwabsI : Cond.code Lib.Math.abs.name Lib.Math.abs.code 1 (some .int) ∈ lw_tbl ∧ Cond.static Lib.Math.abs.name ∈ lw_tbl ∧ Cond.initialized "java/lang/Math" ∈ lw_tbl := ⟨pm_tin4 _ (List.mem_of_getElem? (i := 78) rfl), pm_tin4 _ (List.mem_of_getElem? (i := 77) rfl), pm_tin1 _ (List.mem_of_getElem? (i := 6) rfl)⟩
theorem mwmaxJ : Cond.code Lib.MathLoose.max_long.x Lib.MathLoose.max_long.code 4 (some .long) ∈ lw_tbl ∧ Cond.static Lib.MathLoose.max_long.x ∈ lw_tbl ∧ Cond.initialized "java/lang/Math" ∈ lw_tbl := ⟨pm_tin4 _ (List.mem_of_getElem? (i := 117) rfl), pm_tin4 _ (List.mem_of_getElem? (i := 116) rfl), pm_tin1 _ (List.mem_of_getElem? (i := 6) rfl)⟩
theorem mwminJ : Cond.code Lib.MathLoose.min_long.x Lib.MathLoose.min_long.code 4 (some .long) ∈ lw_tbl ∧ Cond.static Lib.MathLoose.min_long.x ∈ lw_tbl ∧ Cond.initialized "java/lang/Math" ∈ lw_tbl := ⟨pm_tin4 _ (List.mem_of_getElem? (i := 114) rfl), pm_tin4 _ (List.mem_of_getElem? (i := 113) rfl), pm_tin1 _ (List.mem_of_getElem? (i := 6) rfl)⟩
theorem mwabsJ : Cond.code Lib.MathLoose.abs_long.x Lib.MathLoose.abs_long.code 2 (some .long) ∈ lw_tbl ∧ Cond.static Lib.MathLoose.abs_long.x ∈ lw_tbl ∧ Cond.initialized "java/lang/Math" ∈ lw_tbl := ⟨pm_tin7 _ (List.mem_of_getElem? (i := 172) rfl), pm_tin7 _ (List.mem_of_getElem? (i := 171) rfl), pm_tin1 _ (List.mem_of_getElem? (i := 6) rfl)⟩
section PMM
variable {g : pm_Gm} {cc : ByteArray} {own : String} {pc : Nat} {lv : List (Nat × Value)} {st : List Value} {h : pm_H} {kc ks : Nat}
theorem pm_mmaxI (C : pm_C g cc own) {M : pm_M} {mc ms : Nat} (XR : g.2.2.2.1 = pm_rm M mc ms) {i : Nat} {x y : Int32} (hd : decode cc pc = .ok (.invokestatic i, 3)) (w : Cond.methodLink own i Lib.Math.max.name ∈ lw_tbl) (hF : 1 ≤ M.2.2.2.2.1) (hL : 23 ≤ M.2.2.2.2.2) (hcat : (st.map fun v => v.category).sum ≤ 8) (h1 : kc ≤ mc) (h2 : ks ≤ ms) (kk : pm_G g (pc + 3) lv (.int (if x < y then y else x) :: st) h kc ks) : pm_G g pc lv (.int y :: .int x :: st) h kc ks := by
  obtain ⟨p, l, e, R, s, m, args, below, meth, c', Q, G, nL⟩ := g
  obtain ⟨hx, hb, hts, hown, hml, hlocks, hK, hbs, hN⟩ := C
  intro H locs ls hR hS hl
  have hsum : ((st.map (pm_v G.1)).map fun v => v.category).sum ≤ 8 := by rw [pm_catsum]; exact hcat
  have hR1 : R = pm_rm M mc ms := XR
  subst hR1
  exact va_mmax hx hb (hml.trans hl.1.symm) hown (hts _ w rfl) (hts _ mwmaxI.2.1 rfl) (hts _ mwmaxI.2.2 rfl) (hts _ mwmaxI.1 rfl) hF (by show _ ≤ M.2.2.2.2.2; omega) h1 h2 hd (kk H locs ls hR hS hl)
theorem pm_mminI (C : pm_C g cc own) {M : pm_M} {mc ms : Nat} (XR : g.2.2.2.1 = pm_rm M mc ms) {i : Nat} {x y : Int32} (hd : decode cc pc = .ok (.invokestatic i, 3)) (w : Cond.methodLink own i Lib.Math.min.name ∈ lw_tbl) (hF : 1 ≤ M.2.2.2.2.1) (hL : 23 ≤ M.2.2.2.2.2) (hcat : (st.map fun v => v.category).sum ≤ 8) (h1 : kc ≤ mc) (h2 : ks ≤ ms) (kk : pm_G g (pc + 3) lv (.int (if y < x then y else x) :: st) h kc ks) : pm_G g pc lv (.int y :: .int x :: st) h kc ks := by
  obtain ⟨p, l, e, R, s, m, args, below, meth, c', Q, G, nL⟩ := g
  obtain ⟨hx, hb, hts, hown, hml, hlocks, hK, hbs, hN⟩ := C
  intro H locs ls hR hS hl
  have hsum : ((st.map (pm_v G.1)).map fun v => v.category).sum ≤ 8 := by rw [pm_catsum]; exact hcat
  have hR1 : R = pm_rm M mc ms := XR
  subst hR1
  exact va_mmin hx hb (hml.trans hl.1.symm) hown (hts _ w rfl) (hts _ mwminI.2.1 rfl) (hts _ mwminI.2.2 rfl) (hts _ mwminI.1 rfl) hF (by show _ ≤ M.2.2.2.2.2; omega) h1 h2 hd (kk H locs ls hR hS hl)
theorem pm_mabsI (C : pm_C g cc own) {M : pm_M} {mc ms : Nat} (XR : g.2.2.2.1 = pm_rm M mc ms) {i : Nat} {x : Int32} (hd : decode cc pc = .ok (.invokestatic i, 3)) (w : Cond.methodLink own i Lib.Math.abs.name ∈ lw_tbl) (hF : 1 ≤ M.2.2.2.2.1) (hL : 23 ≤ M.2.2.2.2.2) (hcat : (st.map fun v => v.category).sum ≤ 8) (h1 : kc ≤ mc) (h2 : ks ≤ ms) (kk : pm_G g (pc + 3) lv (.int (if 0 ≤ x then x else 0 - x) :: st) h kc ks) : pm_G g pc lv (.int x :: st) h kc ks := by
  obtain ⟨p, l, e, R, s, m, args, below, meth, c', Q, G, nL⟩ := g
  obtain ⟨hx, hb, hts, hown, hml, hlocks, hK, hbs, hN⟩ := C
  intro H locs ls hR hS hl
  have hsum : ((st.map (pm_v G.1)).map fun v => v.category).sum ≤ 8 := by rw [pm_catsum]; exact hcat
  have hR1 : R = pm_rm M mc ms := XR
  subst hR1
  exact va_mabs hx hb (hml.trans hl.1.symm) hown (hts _ w rfl) (hts _ mwabsI.2.1 rfl) (hts _ mwabsI.2.2 rfl) (hts _ mwabsI.1 rfl) hF (by show _ ≤ M.2.2.2.2.2; omega) h1 h2 hd (kk H locs ls hR hS hl)
theorem pm_mmaxJ (C : pm_C g cc own) {M : pm_M} {mc ms : Nat} (XR : g.2.2.2.1 = pm_rm M mc ms) {i : Nat} {x y : Int64} (hd : decode cc pc = .ok (.invokestatic i, 3)) (w : Cond.methodLink own i Lib.MathLoose.max_long.x ∈ lw_tbl) (hF : 1 ≤ M.2.2.2.2.1) (hL : 23 ≤ M.2.2.2.2.2) (hcat : (st.map fun v => v.category).sum ≤ 8) (h1 : kc ≤ mc) (h2 : ks ≤ ms) (kk : pm_G g (pc + 3) lv (.long (if y < x then x else y) :: st) h kc ks) : pm_G g pc lv (.long y :: .long x :: st) h kc ks := by
  obtain ⟨p, l, e, R, s, m, args, below, meth, c', Q, G, nL⟩ := g
  obtain ⟨hx, hb, hts, hown, hml, hlocks, hK, hbs, hN⟩ := C
  intro H locs ls hR hS hl
  have hsum : ((st.map (pm_v G.1)).map fun v => v.category).sum ≤ 8 := by rw [pm_catsum]; exact hcat
  have hR1 : R = pm_rm M mc ms := XR
  subst hR1
  exact va_mmax_long hx hb (hml.trans hl.1.symm) hown (hts _ w rfl) (hts _ mwmaxJ.2.1 rfl) (hts _ mwmaxJ.2.2 rfl) (hts _ mwmaxJ.1 rfl) hF (by show _ ≤ M.2.2.2.2.2; omega) h1 h2 hd (kk H locs ls hR hS hl)
theorem pm_mminJ (C : pm_C g cc own) {M : pm_M} {mc ms : Nat} (XR : g.2.2.2.1 = pm_rm M mc ms) {i : Nat} {x y : Int64} (hd : decode cc pc = .ok (.invokestatic i, 3)) (w : Cond.methodLink own i Lib.MathLoose.min_long.x ∈ lw_tbl) (hF : 1 ≤ M.2.2.2.2.1) (hL : 23 ≤ M.2.2.2.2.2) (hcat : (st.map fun v => v.category).sum ≤ 8) (h1 : kc ≤ mc) (h2 : ks ≤ ms) (kk : pm_G g (pc + 3) lv (.long (if y < x then y else x) :: st) h kc ks) : pm_G g pc lv (.long y :: .long x :: st) h kc ks := by
  obtain ⟨p, l, e, R, s, m, args, below, meth, c', Q, G, nL⟩ := g
  obtain ⟨hx, hb, hts, hown, hml, hlocks, hK, hbs, hN⟩ := C
  intro H locs ls hR hS hl
  have hsum : ((st.map (pm_v G.1)).map fun v => v.category).sum ≤ 8 := by rw [pm_catsum]; exact hcat
  have hR1 : R = pm_rm M mc ms := XR
  subst hR1
  exact va_mmin_long hx hb (hml.trans hl.1.symm) hown (hts _ w rfl) (hts _ mwminJ.2.1 rfl) (hts _ mwminJ.2.2 rfl) (hts _ mwminJ.1 rfl) hF (by show _ ≤ M.2.2.2.2.2; omega) h1 h2 hd (kk H locs ls hR hS hl)
theorem pm_mabsJ (C : pm_C g cc own) {M : pm_M} {mc ms : Nat} (XR : g.2.2.2.1 = pm_rm M mc ms) {i : Nat} {x : Int64} (hd : decode cc pc = .ok (.invokestatic i, 3)) (w : Cond.methodLink own i Lib.MathLoose.abs_long.x ∈ lw_tbl) (hF : 1 ≤ M.2.2.2.2.1) (hL : 23 ≤ M.2.2.2.2.2) (hcat : (st.map fun v => v.category).sum ≤ 8) (h1 : kc ≤ mc) (h2 : ks ≤ ms) (kk : pm_G g (pc + 3) lv (.long (if 0 < x then x else -x) :: st) h kc ks) : pm_G g pc lv (.long x :: st) h kc ks := by
  obtain ⟨p, l, e, R, s, m, args, below, meth, c', Q, G, nL⟩ := g
  obtain ⟨hx, hb, hts, hown, hml, hlocks, hK, hbs, hN⟩ := C
  intro H locs ls hR hS hl
  have hsum : ((st.map (pm_v G.1)).map fun v => v.category).sum ≤ 8 := by rw [pm_catsum]; exact hcat
  have hR1 : R = pm_rm M mc ms := XR
  subst hR1
  exact va_mabs_long hx hb (hml.trans hl.1.symm) hown (hts _ w rfl) (hts _ mwabsJ.2.1 rfl) (hts _ mwabsJ.2.2 rfl) (hts _ mwabsJ.1 rfl) hF (by show _ ≤ M.2.2.2.2.2; omega) h1 h2 hd (kk H locs ls hR hS hl)
end PMM
