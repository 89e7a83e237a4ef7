theorem dX13_init_0 : decode cX13_init 0 = .ok (.aload_n 0, 1) := by decide +kernel
theorem dX13_init_1 : decode cX13_init 1 = .ok (.invokespecial 1, 3) := by decide +kernel
theorem dX13_init_4 : decode cX13_init 4 = .ok (.return_, 1) := by decide +kernel
/-! a new Fault, with its constructor -/
def pf_Pc (G : pm_Gl) (x : Nat) : Array Value → State → Prop := fun a U => a = #[.ref x] ∧ (u_Kn U RX13 TX13 6 (G.2.1.1 13) (G.2.1.2 13) ∧ ∃ kX : Class, U.vm.classes[G.2.1.1 13]? = some kX ∧ kX.kind = .ordinary ∧ U.heap[x]? = some (freshCell (G.2.1.1 13) kX)) ∧ pm_bT U G ∧ (∀ w ∈ lw_tbl, pm_isN w = true → va_Nw w U)
def pf_Qc (G : pm_Gl) (x : Nat) : Array Value → State → Outcome → State → Prop := fun _ st o t => o = .returned none ∧ t.heap.size = st.heap.size ∧ (∀ q, q ≠ x → t.heap[q]? = st.heap[q]?) ∧ t_OB x (G.2.1.1 13) 6 (G.2.1.2 13) t.heap (pf_val G x)
theorem pf_blind (G : pm_Gl) (x : Nat) : FrameBlind (pf_Pc G x) := by
  intro a U f mk q
  obtain ⟨q0, q1, q2, q3⟩ := q
  refine ⟨q0, ⟨u_Kn_moved (u := U) (U := U.calling f mk a) (Vm.Alike.refl U.vm) q1.1, q1.2⟩, ?_, fun w hw hn => ?_⟩
  · have ha : U.vm.Alike (U.calling f mk a).vm := Vm.Alike.refl U.vm
    exact ⟨q2.1.moved (U := U.calling f mk a) ha, q2.2.1.moved (U := U.calling f mk a) ha, q2.2.2.1.moved (U := U.calling f mk a) ha, q2.2.2.2.moved (U := U.calling f mk a) ha⟩
  · have h0 := q3 w hw hn
    match w, hn, h0 with
    | .fieldLinkNest .., _, h0 => exact va_Nw.same (U := U.calling f mk a) rfl rfl h0
    | .methodLinkNest .., _, h0 => exact va_Nw.same (U := U.calling f mk a) rfl rfl h0
    | .castable .., _, h0 => exact va_Nw.same (U := U.calling f mk a) rfl rfl h0
    | .declares _, _, h0 => exact va_Nw.same (U := U.calling f mk a) rfl rfl h0
theorem pf_words {args : Array Value} {s : State} {G : pm_Gl} (hts : ∀ w ∈ lw_tbl, goodWord w = true → w.before args s = true) (hN : ∀ w ∈ lw_tbl, pm_isN w = true → va_Nw w s) (hT : pm_bT s G) : ∀ w ∈ pf_ws, w.before args s = true := by
  intro w hw
  have key : (w ∈ lw_tbl ∧ goodWord w = true) ∨ (w ∈ lw_tbl ∧ pm_isN w = true ∧ w.onTables = true) ∨ w = .laysStatic "java/lang/Throwable" "UNASSIGNED_STACK" "[Ljava/lang/StackTraceElement;" ∨ w = .laysStatic "java/lang/Throwable" "SUPPRESSED_SENTINEL" "Ljava/util/List;" := by
    simp only [pf_ws, Bundle.throwableAtoms, Bundle.chain0Atoms, Bundle.passAtoms, List.cons_append, List.nil_append, List.mem_cons, List.not_mem_nil, or_false] at hw
    rcases hw with rfl | rfl | rfl | rfl | rfl | rfl | rfl | rfl | rfl | rfl | rfl | rfl | rfl | rfl | rfl | rfl | rfl | rfl | rfl | rfl | rfl | rfl | rfl | rfl | rfl | rfl | rfl | rfl | rfl | rfl | rfl | rfl | rfl | rfl | rfl | rfl | rfl | rfl | rfl | rfl | rfl | rfl | rfl | rfl | rfl | rfl
    · exact Or.inl ⟨pm_tin1 _ (List.mem_of_getElem? (i := 16) rfl), rfl⟩
    · exact Or.inl ⟨pm_tin9 _ (List.mem_of_getElem? (i := 118) rfl), rfl⟩
    · exact Or.inl ⟨pm_tin9 _ (List.mem_of_getElem? (i := 127) rfl), rfl⟩
    · exact Or.inl ⟨pm_tin9 _ (List.mem_of_getElem? (i := 129) rfl), rfl⟩
    · exact Or.inl ⟨pm_tin9 _ (List.mem_of_getElem? (i := 132) rfl), rfl⟩
    · exact Or.inl ⟨pm_tin9 _ (List.mem_of_getElem? (i := 134) rfl), rfl⟩
    · exact Or.inl ⟨pm_tin9 _ (List.mem_of_getElem? (i := 119) rfl), rfl⟩
    · exact Or.inl ⟨pm_tin9 _ (List.mem_of_getElem? (i := 120) rfl), rfl⟩
    · exact Or.inl ⟨pm_tin1 _ (List.mem_of_getElem? (i := 37) rfl), rfl⟩
    · exact Or.inl ⟨pm_tin1 _ (List.mem_of_getElem? (i := 38) rfl), rfl⟩
    · exact Or.inl ⟨pm_tin9 _ (List.mem_of_getElem? (i := 121) rfl), rfl⟩
    · exact Or.inl ⟨pm_tin9 _ (List.mem_of_getElem? (i := 126) rfl), rfl⟩
    · exact Or.inl ⟨pm_tin9 _ (List.mem_of_getElem? (i := 130) rfl), rfl⟩
    · exact Or.inl ⟨pm_tin9 _ (List.mem_of_getElem? (i := 146) rfl), rfl⟩
    · exact Or.inl ⟨pm_tin9 _ (List.mem_of_getElem? (i := 108) rfl), rfl⟩
    · exact Or.inl ⟨pm_tin9 _ (List.mem_of_getElem? (i := 147) rfl), rfl⟩
    · exact Or.inl ⟨pm_tin9 _ (List.mem_of_getElem? (i := 110) rfl), rfl⟩
    · exact Or.inl ⟨pm_tin9 _ (List.mem_of_getElem? (i := 148) rfl), rfl⟩
    · exact Or.inl ⟨pm_tin9 _ (List.mem_of_getElem? (i := 112) rfl), rfl⟩
    · exact Or.inl ⟨pm_tin9 _ (List.mem_of_getElem? (i := 122) rfl), rfl⟩
    · exact Or.inr (Or.inr (Or.inl rfl))
    · exact Or.inl ⟨pm_tin9 _ (List.mem_of_getElem? (i := 124) rfl), rfl⟩
    · exact Or.inr (Or.inr (Or.inr rfl))
    · exact Or.inl ⟨pm_tin9 _ (List.mem_of_getElem? (i := 114) rfl), rfl⟩
    · exact Or.inl ⟨pm_tin9 _ (List.mem_of_getElem? (i := 139) rfl), rfl⟩
    · exact Or.inl ⟨pm_tin9 _ (List.mem_of_getElem? (i := 140) rfl), rfl⟩
    · exact Or.inl ⟨pm_tin9 _ (List.mem_of_getElem? (i := 141) rfl), rfl⟩
    · exact Or.inl ⟨pm_tin9 _ (List.mem_of_getElem? (i := 142) rfl), rfl⟩
    · exact Or.inr (Or.inl ⟨pm_tin9 _ (List.mem_of_getElem? (i := 101) rfl), rfl, rfl⟩)
    · exact Or.inl ⟨pm_tin9 _ (List.mem_of_getElem? (i := 142) rfl), rfl⟩
    · exact Or.inl ⟨pm_tin9 _ (List.mem_of_getElem? (i := 143) rfl), rfl⟩
    · exact Or.inl ⟨pm_tin9 _ (List.mem_of_getElem? (i := 144) rfl), rfl⟩
    · exact Or.inl ⟨pm_tin9 _ (List.mem_of_getElem? (i := 119) rfl), rfl⟩
    · exact Or.inr (Or.inl ⟨pm_tin9 _ (List.mem_of_getElem? (i := 103) rfl), rfl, rfl⟩)
    · exact Or.inl ⟨pm_tin9 _ (List.mem_of_getElem? (i := 138) rfl), rfl⟩
    · exact Or.inl ⟨pm_tin9 _ (List.mem_of_getElem? (i := 97) rfl), rfl⟩
    · exact Or.inl ⟨pm_tin9 _ (List.mem_of_getElem? (i := 105) rfl), rfl⟩
    · exact Or.inl ⟨pm_tin9 _ (List.mem_of_getElem? (i := 106) rfl), rfl⟩
    · exact Or.inl ⟨pm_tin9 _ (List.mem_of_getElem? (i := 107) rfl), rfl⟩
    · exact Or.inl ⟨pm_tin9 _ (List.mem_of_getElem? (i := 109) rfl), rfl⟩
    · exact Or.inl ⟨pm_tin9 _ (List.mem_of_getElem? (i := 111) rfl), rfl⟩
    · exact Or.inl ⟨pm_tin9 _ (List.mem_of_getElem? (i := 113) rfl), rfl⟩
    · exact Or.inl ⟨pm_tin9 _ (List.mem_of_getElem? (i := 117) rfl), rfl⟩
    · exact Or.inl ⟨pm_tin9 _ (List.mem_of_getElem? (i := 116) rfl), rfl⟩
    · exact Or.inl ⟨pm_tin9 _ (List.mem_of_getElem? (i := 115) rfl), rfl⟩
    · exact Or.inl ⟨pm_tin9 _ (List.mem_of_getElem? (i := 153) rfl), rfl⟩
  rcases key with ⟨h1, h2⟩ | ⟨h1, h2, h3⟩ | rfl | rfl
  · exact hts w h1 h2
  · exact va_Nw.use h3 (hN w h1 h2)
  · exact hT.2.2.1.use
  · exact hT.2.2.2.use
theorem pf_met (l : Launch) (htr : l.stackTraces = false) (G : pm_Gl) (x : Nat) : Met l mX13_init.1 (pm_wsy mX13_init) (pm_rm mX13_init 0 0) (pf_Pc G x) (pf_Qc G x) 0 0 (fun q => q = x) := by
  refine Met.ofW (cc := mX13_init.2.1) (maxL := mX13_init.2.2.1) (ret := mX13_init.2.2.2.1) pnX13 rfl ?_
  intro p e s m args below meth c s₁ B hml hv
  obtain ⟨rfl, ⟨hKn, kX, hk, ho, hc⟩, hT, hN⟩ := hv
  have hf := hKn.2.1
  have hts := atoms_spec (ws := pm_wsy mX13_init) B.pre
  have hts' : ∀ w ∈ lw_tbl, goodWord w = true → w.before #[Value.ref x] s = true := fun w hw hg => hts w (List.mem_cons_of_mem _ (List.mem_filter.mpr ⟨hw, hg⟩))
  have hown : s.vm.findClass RX13 = some m.cls := findClass_of_methodNamed B.named
  have hL := lv_entry [Value.ref x] (n := 1) (Nat.le_refl 1)
  have e0 : entryFrame m #[Value.ref x] mX13_init.2.2.1 = F0 m 0 ((lg_sl [Value.ref x] ++ List.replicate (1 - (lg_sl [Value.ref x]).length) Slot.unset).toArray) [] := lg_entry_eq _ _ _
  rw [e0]
  generalize (lg_sl [Value.ref x] ++ List.replicate (1 - (lg_sl [Value.ref x]).length) Slot.unset).toArray = ls at hL
  have hsz : ls.size = c.maxLocals := hL.1.trans hml.symm
  refine lv_aload_n B.exec B.bytes dX13_init_0 rfl (lv_at hL 0 rfl) ?_
  refine pf_super B.exec B.bytes htr hown (pf_words hts' hN hT) hT hf hk ho hc hsz (by decide) dX13_init_1 (by decide) (by decide) fun H1 L cell c1 c2 c3 c4 c5 c6 c7 => ?_
  exact W.vret B.exec B.bytes B.returns (fun t ht _ => ⟨rfl, by rw [ht]; exact c4, fun q hq => by rw [ht]; exact c5 q hq, cell, by rw [ht]; exact c1, c2, c3, fun k hk6 => c6 k _ hk6 (hKn.1 k hk6)⟩) c7 dX13_init_4 B.notSynchronized
def pm_flt (h : pm_H) : pm_H := pm_setR (pm_setI (pm_setI (pm_new h 13 0) (pm_sz h) 1 1) (pm_sz h) 2 1) (pm_sz h) 0 (some (pm_sz h))
theorem pm_flt_S (h : pm_H) : pm_S3 (pm_flt h) (pm_new h 13 0) := ⟨rfl, rfl, rfl⟩
theorem pm_rel_push {G : pm_Gl} {h h' : pm_H} {H H1 : Heap} (hR : pm_Rel G h H) (hz : pm_sz h' = pm_sz h + 1) (hE : ∀ x, x < pm_sz h → pm_E G h' x = pm_E G h x) (he : va_at G.2.1 vwCl (G.1 + pm_sz h, pm_E G h' (pm_sz h)) H1) (hk : ∀ x, pm_sz h + 1 ≤ x → pm_kd h' x = 31) (z : H1.size = H.size + 1) (oq : ∀ x, x < H.size → H1[x]? = H[x]?) : pm_Rel G h' H1 := by
  have hP0 : va_P G.2.1 vwCl (pm_ws G h) H1 := hR.2.1.kept (fun k x hx => oq x.1 ((hR.2.1 k x hx).lt))
  have hP1 : va_P G.2.1 vwCl (pm_ws G h ++ [(G.1 + pm_sz h, pm_E G h' (pm_sz h))]) H1 := hP0.app (fun k x hx => by
    have hz : k < 1 := (List.getElem?_eq_some_iff.mp hx).1
    rw [show k = 0 by omega] at hx
    cases hx
    exact he)
  rw [pm_ws_push (h' := h') hz hE] at hP1
  exact ⟨by rw [z, hR.1, hz]; rfl, hP1, fun x hx => hk x (by rw [hz] at hx; exact hx)⟩
theorem pm_flt_E {G : pm_Gl} {h : pm_H} {x : Nat} (hx : x < pm_sz h) : pm_E G (pm_flt h) x = pm_E G h x := by
  have hn := Nat.ne_of_lt hx
  exact pm_E_ne (pm_u1_n _ _ hn) (pm_u1_n _ _ hn) ((pm_u2_n _ _ hn).trans ((pm_u2_n _ _ hn).trans (pm_row_n _ _ hn))) (pm_row_n _ _ hn) ((pm_u2_n _ _ hn).trans (pm_row_n _ _ hn))
theorem pm_flt_fs (G : pm_Gl) (h : pm_H) (k : Nat) (hk : k < 6) : vp_V (pm_fs G (pm_flt h) (pm_sz h) 13) k = pf_val G (G.1 + pm_sz h) k := by
  show (pm_fs G (pm_flt h) (pm_sz h) 13).getD k .null = _
  rw [List.getD_eq_getElem?_getD, pm_fs_at G (pm_flt h) (pm_sz h) (c := 13) (k := k) hk]
  show pm_fx G (pm_flt h) (pm_sz h) 13 k = _
  have i1 : pm_I (pm_flt h) (pm_sz h) 1 = 1 := (pm_u2_k _ _ (by decide) _).trans (pm_u2_s _ _ _ _)
  have i2 : pm_I (pm_flt h) (pm_sz h) 2 = 1 := pm_u2_s _ _ _ _
  have i5 : pm_I (pm_flt h) (pm_sz h) 5 = 0 := (pm_u2_k _ _ (by decide) _).trans ((pm_u2_k _ _ (by decide) _).trans (congrFun (pm_row_s (pm_I h) (pm_sz h) (fun _ => (0 : Int32))) 5))
  have r0 : pm_R (pm_flt h) (pm_sz h) 0 = some (pm_sz h) := pm_u2_s _ _ _ _
  have r3 : pm_R (pm_flt h) (pm_sz h) 3 = none := (pm_u2_k _ _ (by decide) _).trans (congrFun (pm_row_s (pm_R h) (pm_sz h) (fun _ => (none : Option Nat))) 3)
  have r4 : pm_R (pm_flt h) (pm_sz h) 4 = none := (pm_u2_k _ _ (by decide) _).trans (congrFun (pm_row_s (pm_R h) (pm_sz h) (fun _ => (none : Option Nat))) 4)
  have hcase : k = 0 ∨ k = 1 ∨ k = 2 ∨ k = 3 ∨ k = 4 ∨ k = 5 := by omega
  unfold pm_fx
  rcases hcase with rfl | rfl | rfl | rfl | rfl | rfl
  · rw [if_neg (by decide)]
    show va_rf (pm_rf G.1 (pm_R (pm_flt h) (pm_sz h) 0)) = _
    rw [r0]; rfl
  · rw [if_pos ⟨rfl, Or.inl rfl⟩, i1, if_neg (by decide)]; rfl
  · rw [if_pos ⟨rfl, Or.inr rfl⟩, i2, if_neg (by decide)]; rfl
  · rw [if_neg (by decide)]
    show va_rf (pm_rf G.1 (pm_R (pm_flt h) (pm_sz h) 3)) = _
    rw [r3]; rfl
  · rw [if_neg (by decide)]
    show va_rf (pm_rf G.1 (pm_R (pm_flt h) (pm_sz h) 4)) = _
    rw [r4]; rfl
  · rw [if_neg (by decide)]
    show Value.int (pm_I (pm_flt h) (pm_sz h) 5) = _
    rw [i5]; rfl
section PFN
variable {g : pm_Gm} {cc : ByteArray} {own : String} {pc : Nat} {lv : List (Nat × Value)} {st : List Value} {h hb h0 r2 : pm_H} {kc ks : Nat} {l : Launch} {G : pm_Gl} {M : pm_M} {mc ms : Nat} {Qr : Option Value → pm_H → Prop}
set_option maxHeartbeats 1000000 in
theorem pm_newF (C : pm_C g cc own) (X : pm_X g l G M mc ms Qr) (htr : l.stackTraces = false) {i j : Nat} {host : String} (hd1 : decode cc pc = .ok (.new i, 3)) (hd2 : decode cc (pc + 3) = .ok (.dup, 1)) (hd3 : decode cc (pc + 4) = .ok (.invokespecial j, 3)) (w1 : Cond.classLink own i (pm_Rn 13) ∈ lw_tbl) (w2 : Cond.instantiable (pm_Rn 13) (pm_fN 13) ∈ lw_tbl) (w3 : Cond.initialized (pm_Rn 13) ∈ lw_tbl) (w4 : Cond.methodLinkNest own j mX13_init.1 host ∈ lw_tbl) (my : pm_My mX13_init 0) (ii : pm_Ii mX13_init) (fit : pm_Fit M mX13_init) (hcat : (st.map fun v => v.category).sum ≤ 7) (h1 : kc + 1 ≤ mc) (h2 : ks + 6 ≤ ms)
    (kk : pm_G g (pc + 7) lv (.ref (pm_sz h) :: st) (pm_flt h) (kc + 1) (ks + 6)) : pm_G g pc lv st h kc ks := by
  obtain ⟨p, l', e, R, s, m, args, below, meth, c', Q, G', nL⟩ := g
  obtain ⟨hx, hb, hts, hown, hml, hlocks, hK, hbs, hN⟩ := C
  obtain ⟨rfl, rfl, hQ, hr, rfl, hnL⟩ := X
  intro H locs ls hR hS hl
  have ht : ∀ w ∈ pm_tb, w.before args s = true := fun w hw => hts w (List.mem_filter.mp hw).1 (List.mem_filter.mp hw).2
  have hKn := hK.1 13 _ pm_Cl13.2.1
  refine W.newcK hx hb hown (hts _ w1 rfl) (hts _ w2 rfl) (hts _ w3 rfl) rfl hd1 h1 h2 hKn.2.1 rfl fun H1 kC hkC e1 z1 o1 => ?_
  refine lv_dup hx hb hd2 rfl ?_
  have hord : kC.kind = .ordinary := by
    obtain ⟨kC', hk', ho'⟩ := hKn.2.2
    cases hkC.symm.trans hk'
    exact ho'
  have hpre : PreS s H1 (pf_Pc G' H.size) [.ref H.size] := ⟨pf_blind _ _, fun U hU hW => by
    have hN' := hN.warm (U := U) hW (fun a h1 h2 => by rw [hU, o1 a (Nat.lt_of_lt_of_le h1 hS.1)]; exact hS.2.1 a h1 h2)
    obtain ⟨k', hk', he⟩ := hW.alike.2.2 _ _ hkC
    refine ⟨rfl, ⟨u_Kn_moved hW.alike hKn, k', hk', by rw [he]; exact hord, ?_⟩, hN'.2.2.2.2.2.2, hN'.1⟩
    rw [hU, e1, he]
    rfl⟩
  have hw0 : pm_wsy mX13_init = Cond.code mX13_init.1 mX13_init.2.1 mX13_init.2.2.1 none :: pm_tb := rfl
  have hrun := va_runIN (R := pm_rm M mc ms) (p := p) (l := l') (e := e) (below := below) (meth := meth) (H := H1) (locs := locs) (cells := kc + 1) (slots := ks + pm_fN 13) (As := []) (rest := .ref H.size :: st.map (pm_v G'.1)) (b := H.size) (g := F0 m (pc + 3 + 1) ls (.ref H.size :: .ref H.size :: st.map (pm_v G'.1))) ⟨hx, hb, hml, hown, ht⟩ (pf_met l' htr G' H.size)
    ⟨va_cnB 0 ht (pm_goodM my) hw0 rfl rfl (hN.1 _ w4 rfl) (hts _ my.2.1 rfl) my.2.2 fit, ii.1, hts _ ii.2.1 rfl⟩ hpre rfl rfl hl.1 rfl (by
      show 2 * 0 + ((Value.ref H.size :: st.map (pm_v G'.1)).map fun v => v.category).sum ≤ 8
      rw [List.map_cons, List.sum_cons, pm_catsum]
      show 2 * 0 + (1 + _) ≤ 8
      omega) hd3 ⟨h1, h2⟩
  intro T hT X'
  obtain ⟨v, st₀, t, T', L, h0, X'', hL, e1', e2', ⟨hv, hz, ho, hOB⟩, stp⟩ := hrun T hT X'
  cases hv
  rw [h0] at hz ho
  have ho' : ∀ q, q ≠ H.size → T'.heap[q]? = H1[q]? := fun q hq => by rw [e1']; exact ho q hq
  have hz' : T'.heap.size = H.size + 1 := by rw [e1', hz, z1]
  have hS1 : va_S (fun q => G'.1 ≤ q) s.heap T'.heap (locs ++ L) := ⟨Nat.le_trans hS.1 (by rw [hz']; exact Nat.le_succ _), fun q q1 q2 => by
      have hlt := Nat.lt_of_lt_of_le q1 hS.1
      rw [ho' q (Nat.ne_of_lt hlt), o1 q hlt]
      exact hS.2.1 q q1 q2, fun q hq => by
      rcases List.mem_append.mp hq with h | h
      · exact hS.2.2 q h
      · show G'.1 ≤ q.base
        rw [hL q h, hR.1]
        exact Nat.le_add_right _ _⟩
  have hrel : pm_Rel G' (pm_flt h) T'.heap := by
    refine pm_rel_push hR rfl (fun x hx => pm_flt_E hx) ?_ (fun x hx => ?_) hz' (fun x hx => (ho' x (Nat.ne_of_lt hx)).trans (o1 x hx))
    · rw [pm_E_obj (h := pm_flt h) (c := 13) (pm_u1_s _ _ _) (by decide)]
      refine ⟨_, pm_Cl13.2.1, ?_⟩
      rw [e1', ← hR.1]
      refine hOB.to (fun k hk => ?_)
      rw [pm_flt_fs G' h k hk, hR.1]
    · show pm_u1 (pm_kd h) (pm_sz h) 13 x = 31
      rw [pm_u1_n _ _ (by omega)]
      exact hR.2.2 x (by omega)
  obtain ⟨t2, a1, b1⟩ := kk T'.heap (locs ++ L) ls hrel hS1 hl T' rfl X''
  refine ⟨t2, stp t2 ?_, b1⟩
  rw [hR.1]
  exact a1
theorem pa_newF (C : pm_C g cc own) (X : pm_X g l G M (pm_sz r2 - pm_sz h0) (pm_us r2 - pm_us h0) Qr) (htr : l.stackTraces = false) (K : pm_S3 h hb) (m : pm_Le h0 hb) {i j : Nat} {host : String} (hd1 : decode cc pc = .ok (.new i, 3)) (hd2 : decode cc (pc + 3) = .ok (.dup, 1)) (hd3 : decode cc (pc + 4) = .ok (.invokespecial j, 3)) (w1 : Cond.classLink own i (pm_Rn 13) ∈ lw_tbl) (w2 : Cond.instantiable (pm_Rn 13) (pm_fN 13) ∈ lw_tbl) (w3 : Cond.initialized (pm_Rn 13) ∈ lw_tbl) (w4 : Cond.methodLinkNest own j mX13_init.1 host ∈ lw_tbl) (my : pm_My mX13_init 0) (ii : pm_Ii mX13_init) (fit : pm_Fit M mX13_init) (hcat : (st.map fun v => v.category).sum ≤ 7) (le : pm_Le (pm_flt h) r2)
    (kk : pm_G g (pc + 7) lv (.ref (pm_sz h) :: st) (pm_flt h) (pm_sz (pm_flt h) - pm_sz h0) (pm_us (pm_flt h) - pm_us h0)) : pm_G g pc lv st h (pm_sz hb - pm_sz h0) (pm_us hb - pm_us h0) := by
  have e1 : pm_sz (pm_flt h) - pm_sz h0 = pm_sz hb - pm_sz h0 + 1 := pa_n1 13 0 K m
  have e2 : pm_us (pm_flt h) - pm_us h0 = pm_us hb - pm_us h0 + 6 := by
    rw [(pm_flt_S h).us]
    exact pa_n2 13 0 6 rfl K m
  exact pm_newF C X htr hd1 hd2 hd3 w1 w2 w3 w4 my ii fit hcat (by rw [← e1]; exact Nat.sub_le_sub_right le.1 _) (by rw [← e2]; exact Nat.sub_le_sub_right le.2 _) (pm_eq kk rfl rfl rfl e1 e2)
theorem pm_Le_flt (h : pm_H) : pm_Le h (pm_flt h) := (pm_Le_new h 13 0).trans (pm_S3.le (pm_flt_S h))
end PFN
