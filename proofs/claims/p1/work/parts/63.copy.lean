/-! SYSTEM.ARRAYCOPY between arrays of one type of numbers -/
def pm_cpI (h : pm_H) (a0 sp a dp n : Nat) : pm_H := (pm_sz h, pm_kd h, pm_ln h, pm_row (pm_I h) a (va_cpy (pm_I h a0) (pm_I h a) sp dp n), pm_L h, pm_R h)
def pm_cpL (h : pm_H) (a0 sp a dp n : Nat) : pm_H := (pm_sz h, pm_kd h, pm_ln h, pm_I h, pm_row (pm_L h) a (va_cpy (pm_L h a0) (pm_L h a) sp dp n), pm_R h)
theorem pm_nn (z : Int32) (hz : ¬ z < 0) : z.toInt = (z.toNatClampNeg : Int) := by
  have hz0 : (0 : Int) ≤ z.toInt := by
    have := Int32.not_lt.mp hz
    simpa using Int32.le_iff_toInt_le.mp this
  show z.toInt = ((z.toInt.toNat : Nat) : Int)
  omega
theorem pm_XR {g : pm_Gm} {l : Launch} {G : pm_Gl} {M : pm_M} {mc ms : Nat} {Qr : Option Value → pm_H → Prop} (X : pm_X g l G M mc ms Qr) : g.2.2.2.1 = pm_rm M mc ms := by
  obtain ⟨p, l', e, R, s, m, args, below, meth, c', Q, G', nL⟩ := g
  exact X.2.2.2.2.1
theorem pt_XR {g : pm_Gm} {l : Launch} {G : pm_Gl} {M : pm_M} {mc ms : Nat} {Qr : Option Value → pm_H → Prop} {Qt : Nat → pm_H → Prop} (X : pm_XT g l G M mc ms Qr Qt) : g.2.2.2.1 = pm_rm M mc ms := by
  obtain ⟨p, l', e, R, s, m, args, below, meth, c', Q, G', nL⟩ := g
  exact X.2.2.2.2.1
def pm_AcW (own : String) (i : Nat) : Prop := Cond.methodLink own i arraycopyName ∈ lw_tbl ∧ Cond.native arraycopyName ∈ lw_tbl ∧ Cond.static arraycopyName ∈ lw_tbl ∧ Cond.initialized "java/lang/System" ∈ lw_tbl
section PMY
variable {g : pm_Gm} {cc : ByteArray} {own : String} {pc : Nat} {lv : List (Nat × Value)} {st : List Value} {h : pm_H} {kc ks : Nat}
theorem pm_copyI (C : pm_C g cc own) {M : pm_M} {mc ms : Nat} (XR : g.2.2.2.1 = pm_rm M mc ms) {i t a0 a : Nat} {sp dp n : Int32} (hd : decode cc pc = .ok (.invokestatic i, 3)) (w : pm_AcW own i) (ht : (t = 0 ∨ t = 1 ∨ t = 2)) (hk0 : pm_kd h a0 = t + 32) (hk : pm_kd h a = t + 32) (h1 : ¬ sp < 0) (h2 : ¬ dp < 0) (h3 : ¬ n < 0) (h4 : sp.toNatClampNeg + n.toNatClampNeg ≤ pm_ln h a0) (h5 : dp.toNatClampNeg + n.toNatClampNeg ≤ pm_ln h a)
    (hfit : ∀ j, j < n.toNatClampNeg → fits (pm_aty t) (.int (pm_I h a0 (sp.toNatClampNeg + j))) = true) (hF : 1 ≤ M.2.2.2.2.1) (hL : 26 ≤ M.2.2.2.2.2) (hcat : (st.map fun v => v.category).sum ≤ 8) (kk : pm_G g (pc + 3) lv st (pm_cpI h a0 sp.toNatClampNeg a dp.toNatClampNeg n.toNatClampNeg) kc ks) : pm_G g pc lv (.int n :: .int dp :: .ref a :: .int sp :: .ref a0 :: st) h kc ks := by
  obtain ⟨p, l, e, R, s, m, args, below, meth, c', Q, G, nL⟩ := g
  obtain ⟨hx, hb, hts, hown, hml, hlocks, hK, hbs, hN⟩ := C
  intro H locs ls hR hS hl
  have ht11 : t < 11 := by omega
  have hav : ∀ x, pm_av G.1 h x (pm_aty t) = .inl (pm_I h x) := by intro x; rcases ht with rfl | rfl | rfl <;> rfl
  have hc0 := pm_cell hR ht11 hk0
  have hc1 := pm_cell hR ht11 hk
  rw [hav] at hc0 hc1
  obtain ⟨-, k0, hkk0, cm0, hkd0⟩ := (hK.2 t _ (pm_tys_at G.2.2 ht11)).1 (pm_ln h a0) (fun j => .int (pm_I h a0 j))
  obtain ⟨-, k1, hkk1, cm1, hkd1⟩ := (hK.2 t _ (pm_tys_at G.2.2 ht11)).1 (pm_ln h a) (fun j => .int (pm_I h a j))
  have hprim : refKind (pm_aty t) = false := by rcases ht with rfl | rfl | rfl <;> rfl
  have hsum : ((st.map (pm_v G.1)).map fun v => v.category).sum ≤ 8 := by rw [pm_catsum]; exact hcat
  have hR1 : R = pm_rm M mc ms := XR
  intro T hT X
  obtain ⟨vm', X', step⟩ := X.arraycopy hx hown (hts _ w.1 rfl) (hts _ w.2.1 rfl) (hts _ w.2.2.1 rfl) (hts _ w.2.2.2 rfl) (src := G.1 + a0) (dst := G.1 + a) (cs := vp_cell (G.2.2 t) (pm_ln h a0, .inl (pm_I h a0))) (cd := vp_cell (G.2.2 t) (pm_ln h a, .inl (pm_I h a))) (srcPos := sp) (destPos := dp) (n := n) (by rw [hT]; exact hc0) (by rw [hT]; exact hc1)
    (fun _ h => by cases h) (fun _ h => by cases h) (fun h => by cases h) (fun h => by cases h) hkk0 hkk1 hkd0 hkd1 (by simp [hprim]) h1 h2 h3
    (by rw [pm_nn sp h1, pm_nn n h3]; show ¬ _ > ((arrV (G.2.2 t) (pm_ln h a0) (fun j => .int (pm_I h a0 j))).slots.size : Int); rw [arrV_size]; omega)
    (by rw [pm_nn dp h2, pm_nn n h3]; show ¬ _ > ((arrV (G.2.2 t) (pm_ln h a) (fun j => .int (pm_I h a j))).slots.size : Int); rw [arrV_size]; omega)
    (fun vm₁ _ j hj => by
      have e9 : (vp_cell (G.2.2 t) (pm_ln h a0, .inl (pm_I h a0))).slots.getD (sp.toNatClampNeg + j) .null = .int (pm_I h a0 (sp.toNatClampNeg + j)) := by
        show (arrV (G.2.2 t) (pm_ln h a0) (fun j => .int (pm_I h a0 j))).slots.getD _ _ = _
        rw [Array.getD_eq_getD_getElem?, arrV_read _ _ (by omega)]
        rfl
      refine ⟨?_, ?_⟩
      · rw [e9]
        exact hfit j hj
      · rw [e9]
        exact trivial)
    (g := F0 m pc ls ((.int n :: .int dp :: .ref a :: .int sp :: .ref a0 :: st).map (pm_v G.1))) rfl (by rw [hml]; exact hl.1) (rest := st.map (pm_v G.1)) rfl (by rw [hb]; exact hd) (by rw [hR1]; exact hF) (by show 2 * 0 + _ + (5 + 2 + 11) ≤ R.locals; rw [hR1]; show _ ≤ M.2.2.2.2.2; omega)
  have e1 : copied (vp_cell (G.2.2 t) (pm_ln h a0, .inl (pm_I h a0))) (vp_cell (G.2.2 t) (pm_ln h a, .inl (pm_I h a))) sp dp n = vp_cell (G.2.2 t) (pm_ln h a, .inl (va_cpy (pm_I h a0) (pm_I h a) sp.toNatClampNeg dp.toNatClampNeg n.toNatClampNeg)) := va_copied (fun z => .int z) (G.2.2 t) (G.2.2 t) (pm_I h a0) (pm_I h a) h4
  rw [e1] at X' step
  have hlt : G.1 + a < H.size := (Array.getElem?_eq_some_iff.mp hc1).1
  have hheap : ((T.setVm vm').setCell (G.1 + a) (vp_cell (G.2.2 t) (pm_ln h a, .inl (va_cpy (pm_I h a0) (pm_I h a) sp.toNatClampNeg dp.toNatClampNeg n.toNatClampNeg)))).heap = H.setIfInBounds (G.1 + a) (vp_cell (G.2.2 t) (pm_ln h a, .inl (va_cpy (pm_I h a0) (pm_I h a) sp.toNatClampNeg dp.toNatClampNeg n.toNatClampNeg))) := by rw [← hT]; rfl
  generalize hH1 : H.setIfInBounds (G.1 + a) (vp_cell (G.2.2 t) (pm_ln h a, .inl (va_cpy (pm_I h a0) (pm_I h a) sp.toNatClampNeg dp.toNatClampNeg n.toNatClampNeg))) = H1 at hheap
  have z : H1.size = H.size := by rw [← hH1]; simp
  have oq : ∀ q : Nat, q ≠ G.1 + a → H1[q]? = H[q]? := fun q hq => by rw [← hH1]; simp [Array.getElem?_setIfInBounds, Ne.symm hq]
  have hat : H1[G.1 + a]? = some (vp_cell (G.2.2 t) (pm_ln h a, .inl (va_cpy (pm_I h a0) (pm_I h a) sp.toNatClampNeg dp.toNatClampNeg n.toNatClampNeg))) := by rw [← hH1]; simp [Array.getElem?_setIfInBounds, hlt]
  have hrel : pm_Rel G (pm_cpI h a0 sp.toNatClampNeg a dp.toNatClampNeg n.toNatClampNeg) H1 := by
    refine pm_rel_arr (t := t) hR hk rfl rfl rfl (fun x hx => pm_row_n _ _ hx) (fun _ _ => rfl) (fun _ _ => rfl) ht11 ?_ z oq
    rw [hat]
    have e2 : pm_av G.1 (pm_cpI h a0 sp.toNatClampNeg a dp.toNatClampNeg n.toNatClampNeg) a (pm_aty t) = .inl (pm_I (pm_cpI h a0 sp.toNatClampNeg a dp.toNatClampNeg n.toNatClampNeg) a) := by rcases ht with rfl | rfl | rfl <;> rfl
    rw [e2]
    rw [show pm_I (pm_cpI h a0 sp.toNatClampNeg a dp.toNatClampNeg n.toNatClampNeg) a = va_cpy (pm_I h a0) (pm_I h a) sp.toNatClampNeg dp.toNatClampNeg n.toNatClampNeg from pm_row_s _ _ _]
  obtain ⟨t9, a1, b1⟩ := kk H1 _ ls hrel ⟨by rw [z]; exact hS.1, fun q g1 g2 => by
      rw [oq q (fun e => g2 (by rw [e]; exact Nat.le_add_right _ _))]
      exact hS.2.1 q g1 g2, fun q hq => by
      rcases List.mem_append.mp hq with h | h
      · exact hS.2.2 q h
      · obtain ⟨z, -, hz⟩ := List.mem_map.mp h
        rw [← hz]
        exact Nat.le_add_right _ _⟩ hl _ hheap X'
  exact ⟨t9, step t9 a1, b1⟩
theorem pm_copyL (C : pm_C g cc own) {M : pm_M} {mc ms : Nat} (XR : g.2.2.2.1 = pm_rm M mc ms) {i t a0 a : Nat} {sp dp n : Int32} (hd : decode cc pc = .ok (.invokestatic i, 3)) (w : pm_AcW own i) (ht : t = 3) (hk0 : pm_kd h a0 = t + 32) (hk : pm_kd h a = t + 32) (h1 : ¬ sp < 0) (h2 : ¬ dp < 0) (h3 : ¬ n < 0) (h4 : sp.toNatClampNeg + n.toNatClampNeg ≤ pm_ln h a0) (h5 : dp.toNatClampNeg + n.toNatClampNeg ≤ pm_ln h a)
    (hfit : ∀ j, j < n.toNatClampNeg → fits (pm_aty t) (.long (pm_L h a0 (sp.toNatClampNeg + j))) = true) (hF : 1 ≤ M.2.2.2.2.1) (hL : 26 ≤ M.2.2.2.2.2) (hcat : (st.map fun v => v.category).sum ≤ 8) (kk : pm_G g (pc + 3) lv st (pm_cpL h a0 sp.toNatClampNeg a dp.toNatClampNeg n.toNatClampNeg) kc ks) : pm_G g pc lv (.int n :: .int dp :: .ref a :: .int sp :: .ref a0 :: st) h kc ks := by
  obtain ⟨p, l, e, R, s, m, args, below, meth, c', Q, G, nL⟩ := g
  obtain ⟨hx, hb, hts, hown, hml, hlocks, hK, hbs, hN⟩ := C
  intro H locs ls hR hS hl
  have ht11 : t < 11 := by omega
  have hav : ∀ x, pm_av G.1 h x (pm_aty t) = (.inr (.inl (pm_L h x))) := by intro x; subst ht <;> rfl
  have hc0 := pm_cell hR ht11 hk0
  have hc1 := pm_cell hR ht11 hk
  rw [hav] at hc0 hc1
  obtain ⟨-, k0, hkk0, cm0, hkd0⟩ := (hK.2 t _ (pm_tys_at G.2.2 ht11)).1 (pm_ln h a0) (fun j => .long (pm_L h a0 j))
  obtain ⟨-, k1, hkk1, cm1, hkd1⟩ := (hK.2 t _ (pm_tys_at G.2.2 ht11)).1 (pm_ln h a) (fun j => .long (pm_L h a j))
  have hprim : refKind (pm_aty t) = false := by subst ht <;> rfl
  have hsum : ((st.map (pm_v G.1)).map fun v => v.category).sum ≤ 8 := by rw [pm_catsum]; exact hcat
  have hR1 : R = pm_rm M mc ms := XR
  intro T hT X
  obtain ⟨vm', X', step⟩ := X.arraycopy hx hown (hts _ w.1 rfl) (hts _ w.2.1 rfl) (hts _ w.2.2.1 rfl) (hts _ w.2.2.2 rfl) (src := G.1 + a0) (dst := G.1 + a) (cs := vp_cell (G.2.2 t) (pm_ln h a0, (.inr (.inl (pm_L h a0))))) (cd := vp_cell (G.2.2 t) (pm_ln h a, (.inr (.inl (pm_L h a))))) (srcPos := sp) (destPos := dp) (n := n) (by rw [hT]; exact hc0) (by rw [hT]; exact hc1)
    (fun _ h => by cases h) (fun _ h => by cases h) (fun h => by cases h) (fun h => by cases h) hkk0 hkk1 hkd0 hkd1 (by simp [hprim]) h1 h2 h3
    (by rw [pm_nn sp h1, pm_nn n h3]; show ¬ _ > ((arrV (G.2.2 t) (pm_ln h a0) (fun j => .long (pm_L h a0 j))).slots.size : Int); rw [arrV_size]; omega)
    (by rw [pm_nn dp h2, pm_nn n h3]; show ¬ _ > ((arrV (G.2.2 t) (pm_ln h a) (fun j => .long (pm_L h a j))).slots.size : Int); rw [arrV_size]; omega)
    (fun vm₁ _ j hj => by
      have e9 : (vp_cell (G.2.2 t) (pm_ln h a0, (.inr (.inl (pm_L h a0))))).slots.getD (sp.toNatClampNeg + j) .null = .long (pm_L h a0 (sp.toNatClampNeg + j)) := by
        show (arrV (G.2.2 t) (pm_ln h a0) (fun j => .long (pm_L h a0 j))).slots.getD _ _ = _
        rw [Array.getD_eq_getD_getElem?, arrV_read _ _ (by omega)]
        rfl
      refine ⟨?_, ?_⟩
      · rw [e9]
        exact hfit j hj
      · rw [e9]
        exact trivial)
    (g := F0 m pc ls ((.int n :: .int dp :: .ref a :: .int sp :: .ref a0 :: st).map (pm_v G.1))) rfl (by rw [hml]; exact hl.1) (rest := st.map (pm_v G.1)) rfl (by rw [hb]; exact hd) (by rw [hR1]; exact hF) (by show 2 * 0 + _ + (5 + 2 + 11) ≤ R.locals; rw [hR1]; show _ ≤ M.2.2.2.2.2; omega)
  have e1 : copied (vp_cell (G.2.2 t) (pm_ln h a0, (.inr (.inl (pm_L h a0))))) (vp_cell (G.2.2 t) (pm_ln h a, (.inr (.inl (pm_L h a))))) sp dp n = vp_cell (G.2.2 t) (pm_ln h a, (.inr (.inl (va_cpy (pm_L h a0) (pm_L h a) sp.toNatClampNeg dp.toNatClampNeg n.toNatClampNeg)))) := va_copied (fun z => .long z) (G.2.2 t) (G.2.2 t) (pm_L h a0) (pm_L h a) h4
  rw [e1] at X' step
  have hlt : G.1 + a < H.size := (Array.getElem?_eq_some_iff.mp hc1).1
  have hheap : ((T.setVm vm').setCell (G.1 + a) (vp_cell (G.2.2 t) (pm_ln h a, (.inr (.inl (va_cpy (pm_L h a0) (pm_L h a) sp.toNatClampNeg dp.toNatClampNeg n.toNatClampNeg)))))).heap = H.setIfInBounds (G.1 + a) (vp_cell (G.2.2 t) (pm_ln h a, (.inr (.inl (va_cpy (pm_L h a0) (pm_L h a) sp.toNatClampNeg dp.toNatClampNeg n.toNatClampNeg))))) := by rw [← hT]; rfl
  generalize hH1 : H.setIfInBounds (G.1 + a) (vp_cell (G.2.2 t) (pm_ln h a, (.inr (.inl (va_cpy (pm_L h a0) (pm_L h a) sp.toNatClampNeg dp.toNatClampNeg n.toNatClampNeg))))) = H1 at hheap
  have z : H1.size = H.size := by rw [← hH1]; simp
  have oq : ∀ q : Nat, q ≠ G.1 + a → H1[q]? = H[q]? := fun q hq => by rw [← hH1]; simp [Array.getElem?_setIfInBounds, Ne.symm hq]
  have hat : H1[G.1 + a]? = some (vp_cell (G.2.2 t) (pm_ln h a, (.inr (.inl (va_cpy (pm_L h a0) (pm_L h a) sp.toNatClampNeg dp.toNatClampNeg n.toNatClampNeg))))) := by rw [← hH1]; simp [Array.getElem?_setIfInBounds, hlt]
  have hrel : pm_Rel G (pm_cpL h a0 sp.toNatClampNeg a dp.toNatClampNeg n.toNatClampNeg) H1 := by
    refine pm_rel_arr (t := t) hR hk rfl rfl rfl (fun _ _ => rfl) (fun x hx => pm_row_n _ _ hx) (fun _ _ => rfl) ht11 ?_ z oq
    rw [hat]
    have e2 : pm_av G.1 (pm_cpL h a0 sp.toNatClampNeg a dp.toNatClampNeg n.toNatClampNeg) a (pm_aty t) = (.inr (.inl (pm_L (pm_cpL h a0 sp.toNatClampNeg a dp.toNatClampNeg n.toNatClampNeg) a))) := by subst ht <;> rfl
    rw [e2]
    rw [show pm_L (pm_cpL h a0 sp.toNatClampNeg a dp.toNatClampNeg n.toNatClampNeg) a = va_cpy (pm_L h a0) (pm_L h a) sp.toNatClampNeg dp.toNatClampNeg n.toNatClampNeg from pm_row_s _ _ _]
  obtain ⟨t9, a1, b1⟩ := kk H1 _ ls hrel ⟨by rw [z]; exact hS.1, fun q g1 g2 => by
      rw [oq q (fun e => g2 (by rw [e]; exact Nat.le_add_right _ _))]
      exact hS.2.1 q g1 g2, fun q hq => by
      rcases List.mem_append.mp hq with h | h
      · exact hS.2.2 q h
      · obtain ⟨z, -, hz⟩ := List.mem_map.mp h
        rw [← hz]
        exact Nat.le_add_right _ _⟩ hl _ hheap X'
  exact ⟨t9, step t9 a1, b1⟩
end PMY
