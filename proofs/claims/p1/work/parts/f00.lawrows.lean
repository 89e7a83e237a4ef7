/-! ROWS FOR THE LAW: its script, calls with the room of the whole claim, the call of a method with a handler -/
section PLR
variable {g : pm_Gm} {cc : ByteArray} {own : String} {pc : Nat} {lv : List (Nat × Value)} {st st0 : List Value} {h hv : pm_H} {kc ks : Nat} {l : Launch} {G : pm_Gl} {M M' : pm_M} {mc ms mc' ms' n : Nat} {Qr : Option Value → pm_H → Prop} {as : List Value}
def pl_S (g : pm_Gm) (b L : Nat) (xs : Nat → Int32) : Prop := va_X b L xs g.2.2.2.2.1 g.2.2.2.2.1.heap ∧ b < g.2.2.2.2.1.heap.size ∧ ¬ g.2.2.2.2.2.2.2.2.2.2.2.1.1 ≤ b
theorem pl_sld (C : pm_C g cc own) {b L : Nat} {xs : Nat → Int32} (SX : pl_S g b L xs) {i v : Int32} (hd : decode cc pc = .ok (.iaload, 1)) (hin : pm_in i L) (hv : xs i.toNatClampNeg = v) (kk : pm_G g (pc + 1) lv (.int v :: st) h kc ks) : pm_G g pc lv (.int i :: .retAddr b :: st) h kc ks := by
  obtain ⟨p, l', e, R, s, m, args, below, meth, c', Q, G', nL⟩ := g
  obtain ⟨hx, hb, hts, hown, hml, hlocks, hK, hbs, hN⟩ := C
  obtain ⟨h1, h2, h3⟩ := SX
  intro H locs ls hR hS hl
  subst hv
  exact va_sld (A := fun q => G'.1 ≤ q) hx hb h1 h2 h3 hS hin hd (kk H locs ls hR hS hl)
theorem pl_slen (C : pm_C g cc own) {b L : Nat} {xs : Nat → Int32} (SX : pl_S g b L xs) (hd : decode cc pc = .ok (.arraylength, 1)) (kk : pm_G g (pc + 1) lv (.int (Int32.ofNat L) :: st) h kc ks) : pm_G g pc lv (.retAddr b :: st) h kc ks := by
  obtain ⟨p, l', e, R, s, m, args, below, meth, c', Q, G', nL⟩ := g
  obtain ⟨hx, hb, hts, hown, hml, hlocks, hK, hbs, hN⟩ := C
  obtain ⟨h1, h2, h3⟩ := SX
  intro H locs ls hR hS hl
  exact va_slen (A := fun q => G'.1 ≤ q) hx hb h1 h2 h3 hS hd (kk H locs ls hR hS hl)
set_option maxHeartbeats 1000000 in
theorem pm_callVW (C : pm_C g cc own) (X : pm_X g l G M mc ms Qr) {i r c : Nat} {hh : List (Nat × Nat × Nat × Nat)} (hd : decode cc pc = .ok (.invokevirtual i, 3)) (hw : Cond.methodLink own i M'.1 ∈ lw_tbl) (wc : Cond.codeWith M'.1 M'.2.1 M'.2.2.1 M'.2.2.2.1 hh ∈ lw_tbl) (wi : Cond.initialized M'.1.cls ∈ lw_tbl) (hn1 : M'.1.cls ≠ "java/lang/invoke/MethodHandle" ∧ M'.1.cls ≠ "java/lang/invoke/VarHandle") (hpd : (parseMethodDescriptor M'.1.desc).map (fun d => d.parameters.length) = some n) (vi : pm_Vi M' c) (fit : pm_Fit M M') (hst : st0 = as.reverse ++ .ref r :: st) (hn : as.length = n) (hk : pm_kd h r = c) (hcat : (st.map fun v => v.category).sum ≤ 8) (h1 : kc + mc' ≤ mc) (h2 : ks + ms' ≤ ms)
    (ct : pm_Ctw l G M' hh (.ref r :: as) h mc' ms' (fun v h' => pm_G g (pc + 3) lv (v.toList ++ st) h' (kc + mc') (ks + ms'))) : pm_G g pc lv st0 h kc ks := by
  obtain ⟨p, l', e, R, s, m, args, below, meth, c', Q, G', nL⟩ := g
  obtain ⟨hx, hb, hts, hown, hml, hlocks, hK, hbs, hN⟩ := C
  obtain ⟨rfl, rfl, hQ, hr, rfl, hnL⟩ := X
  intro H locs ls hR hS hl
  have ht : ∀ w ∈ pm_tb, w.before args s = true := fun w hw => hts w (List.mem_filter.mp hw).1 (List.mem_filter.mp hw).2
  have he := pm_ws_at G' h (pm_live hR hk (Nat.ne_of_lt vi.1.1))
  rw [pm_E_obj hk (Nat.lt_succ_of_lt vi.1.1)] at he
  obtain ⟨cellB, hcB, hoB, hclB⟩ := va_recv hK hR.2.1 vi.1.2.1 he
  have hstk : (st0.map (pm_v G'.1)) = (as.map (pm_v G'.1)).reverse ++ .ref (G'.1 + r) :: st.map (pm_v G'.1) := by
    rw [hst, List.map_append, List.map_reverse]
    rfl
  have hlen : (as.map (pm_v G'.1)).length = n := by rw [List.length_map]; exact hn
  have hG : GoodIn pm_tb (pm_wsw M' hh) := by
    intro w hw'
    rcases List.mem_cons.mp hw' with rfl | hw'
    · have h := pm_tb_mem wc rfl
      exact ⟨h, pm_tb_good h⟩
    · exact ⟨hw', pm_tb_good hw'⟩
  have hK9 : Back l' (pm_rm M mc ms) p e below s args M'.1 3 8 (PreOf (pm_rm M mc ms) mc' ms' (pm_Pc G' (.ref r :: as) h)) (PostOf (pm_Qc G' (fun v h' => pm_G (p, l', e, pm_rm M mc ms, s, m, args, below, meth, c', Q, G', nL) (pc + 3) lv (v.toList ++ st) h' (kc + mc') (ks + ms'))) mc' ms' (fun q => G'.1 ≤ q)) :=
    va_backW (hh := hh) (bytes := M'.2.1) (maxL := M'.2.2.1) (ret := M'.2.2.2.1) ct (pm_blind _ _ _) rfl rfl fit.1 fit.2 (pay_in ht hG) List.mem_cons_self (fun a' U hW => word_at hW (Or.inl rfl) (hts _ wi rfl))
  intro T hT X'
  obtain ⟨mk, methM, hnamed, hmethM, hstM, habM⟩ := Cond.instanceMethod_spec (hts _ vi.2.2.1 rfl)
  obtain ⟨m9, methM', cM, hn9, hmethM', -, -, -, -, -, -, hsigM⟩ := Cond.codeWith_spec (hts _ wc rfl)
  cases hnamed.symm.trans hn9
  cases hmethM.symm.trans hmethM'
  obtain ⟨c2, r2, m2, q1, q2, q3, q4, kP, hkP, hkPi⟩ := Cond.selects_spec (hts _ vi.2.2.2 rfl)
  cases hclB.symm.trans q1
  cases (State.methodFound?_of_named hnamed hn1).symm.trans q2
  cases hnamed.symm.trans q3
  have hselP : selectMethod e.platform s.vm cellB.cls mk = .method mk := by rw [Launch.admits_selectMethod X'.admits]; exact q4
  have hsl : (as.map (pm_v G'.1)).length = methM.sig.parameters.length := by
    have h9 := hpd
    rw [hsigM] at h9
    exact hlen.trans (Option.some.inj h9).symm
  obtain ⟨vm₁, X₁, hstep₁⟩ := X'.invokevirtual hx hown (hts _ hw rfl) hnamed hmethM hstM hkP hkPi hn1 (a := G'.1 + r) (cell := cellB) (by rw [hT]; exact hcB)
    (fun z h => by rw [h] at hoB; cases hoB) hselP hmethM habM hkP hkPi (g := F0 m pc ls (st0.map (pm_v G'.1))) rfl (argsL := as.map (pm_v G'.1)) (rest := st.map (pm_v G'.1)) hsl hstk (by rw [hb]; exact hd)
  have hTv : (T.setVm vm₁).heap = H := hT
  obtain ⟨v, ⟨U', l2, c2, s2⟩, X₂, ⟨g', mk', t, L, e1, e2, hq, f1, hL, f2, f3⟩, hsteps⟩ := hK9 m meth c' ⟨T.setVm vm₁, locs, kc, ks⟩ (F0 m pc ls (st.map (pm_v G'.1))) (.invokevirtual i) mk (Value.ref (G'.1 + r) :: as.map (pm_v G'.1)).toArray X₁ rfl (by rw [hml]; exact hl.1) (by rw [hb]; exact hd) (by show 2 * 0 + _ ≤ 8; rw [pm_catsum]; omega) (X₁.named hnamed) ⟨h1, h2, pm_Pc_at (as := .ref r :: as) hR hK hN hS _ hTv X₁.warmed⟩
  dsimp only [Pt.U, Pt.locs, Pt.cells, Pt.slots] at X₂ e1 e2 hq f1 f2 f3 hsteps
  subst f1; subst f2; subst f3
  obtain ⟨⟨v', h', hv, hqr, hrel⟩, hz, hk9⟩ := hq
  cases hv
  have hc0 : (State.calling (T.setVm vm₁) g' mk' (Value.ref (G'.1 + r) :: as.map (pm_v G'.1)).toArray).heap = H := hT
  rw [hc0] at hz hk9
  have hS1 : va_S (fun q => G'.1 ≤ q) s.heap U'.heap (locs ++ L) := ⟨Nat.le_trans hS.1 (by rw [e1]; exact hz), fun q h1 h2 => by rw [e1, hk9 q (Nat.lt_of_lt_of_le h1 hS.1) h2]; exact hS.2.1 q h1 h2, fun q hq => by
      rcases List.mem_append.mp hq with h | h
      · exact hS.2.2 q h
      · exact hL q h⟩
  obtain ⟨t2, a1, b1⟩ := hqr U'.heap (locs ++ L) ls (by rw [e1]; exact hrel) hS1 hl U' rfl X₂
  refine ⟨t2, hstep₁ _ fun acts => ?_, b1⟩
  rw [doInvoke_state]
  refine hsteps.trans ?_
  have es : (v'.map (pm_v G'.1)).toList ++ st.map (pm_v G'.1) = (v'.toList ++ st).map (pm_v G'.1) := by cases v' <;> rfl
  show Steps p.tables e below (U'.setTop (F0 m (pc + 3) ls ((v'.map (pm_v G'.1)).toList ++ st.map (pm_v G'.1)))) t2
  rw [es]
  exact a1
/-- the room that the whole claim has -/
abbrev pl_R (h : pm_H) : Prop := pm_sz h ≤ 600002 ∧ pm_us h ≤ 7302232
theorem pl_k1 {a b : pm_H} (le : pm_Le a b) : pm_sz a + (pm_sz b - pm_sz a) = pm_sz b := Nat.add_sub_cancel' le.1
theorem pl_k2 {a b : pm_H} (le : pm_Le a b) : pm_us a + (pm_us b - pm_us a) = pm_us b := Nat.add_sub_cancel' le.2
theorem pl_1 {a b : pm_H} (le : pm_Le a b) (r : pl_R b) : pm_sz a + (pm_sz b - pm_sz a) ≤ 600002 := by rw [pl_k1 le]; exact r.1
theorem pl_2 {a b : pm_H} (le : pm_Le a b) (r : pl_R b) : pm_us a + (pm_us b - pm_us a) ≤ 7302232 := by rw [pl_k2 le]; exact r.2
theorem pl_go {a b : pm_H} (le : pm_Le a b) (k : pm_G g pc lv st b (pm_sz b) (pm_us b)) : pm_G g pc lv st b (pm_sz a + (pm_sz b - pm_sz a)) (pm_us a + (pm_us b - pm_us a)) := pm_eq k rfl rfl rfl (pl_k1 le).symm (pl_k2 le).symm
theorem pl_goK {a b : pm_H} (K : pm_S3 b a) (k : pm_G g pc lv st b (pm_sz b) (pm_us b)) : pm_G g pc lv st b (pm_sz a + 0) (pm_us a + 0) := pm_eq k rfl rfl rfl K.1 K.us
end PLR
theorem pl_ix {j L : Nat} (k : Nat) (hk : k < 6) (hj : j + 6 ≤ L) (hL : L ≤ 384) : pm_in (Int32.ofNat j + Int32.ofNat k) L ∧ (Int32.ofNat j + Int32.ofNat k).toNatClampNeg = j + k := by
  have e : Int32.ofNat j + Int32.ofNat k = Int32.ofNat (j + k) := (Int32.ofNat_add j k).symm
  have e2 : (Int32.ofNat (j + k)).toNatClampNeg = j + k := Int32.toNatClampNeg_ofNat_of_lt (by omega)
  rw [e]
  refine ⟨fun q => ?_, e2⟩
  rcases q with q | q
  · have := Int32.lt_iff_toInt_lt.mp q
    rw [Int32.toInt_ofNat_of_lt (by omega)] at this
    have h0 : (0 : Int32).toInt = 0 := by decide
    rw [h0] at this
    omega
  · rw [e2] at q; omega
theorem pl_gt {j L : Nat} (hj : j ≤ 384) (hL : L ≤ 384) : (Int32.ofNat L - 6 < Int32.ofNat j) ↔ L < j + 6 := by
  rw [Int32.lt_iff_toInt_lt, Int32.toInt_sub, Int32.toInt_ofNat_of_lt (by omega), Int32.toInt_ofNat_of_lt (by omega)]
  have h6 : (6 : Int32).toInt = 6 := by decide
  rw [h6]
  have hb : ((L : Int) - 6).bmod (2 ^ 32) = (L : Int) - 6 := by
    rw [Int.bmod_eq_of_le] <;> omega
  rw [hb]
  omega
