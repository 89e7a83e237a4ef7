/-! A METHOD WITH A HANDLER: references that may be null; a call whose throw is caught -/
def pm_ov (o : Option Nat) : Value := match o with
  | none => .null
  | some x => .ref x
def pc_oc {α : Type} (o : Option Nat) (n s : α) : α := match o with
  | none => n
  | some _ => s
def pt_c {α ρ : Type} (v : (Nat × pm_H) ⊕ α) (kt : Nat × pm_H → ρ) (k : α → ρ) : ρ := match v with
  | .inl z => kt z
  | .inr w => k w
theorem pt_cl {α ρ : Type} {z : Nat × pm_H} {kt : Nat × pm_H → ρ} {k : α → ρ} {r : ρ} (h : pt_c (.inl z) kt k = r) : kt z = r := h
theorem pt_cr {α ρ : Type} {w : α} {kt : Nat × pm_H → ρ} {k : α → ρ} {r : ρ} (h : pt_c (.inr w) kt k = r) : k w = r := h
theorem pm_ov_v (b : Nat) (o : Option Nat) : pm_v b (pm_ov o) = va_rf (pm_rf b o) := by cases o <;> rfl
section PCO
variable {g : pm_Gm} {cc : ByteArray} {own : String} {pc : Nat} {lv : List (Nat × Value)} {st : List Value} {h : pm_H} {kc ks : Nat}
theorem pm_getO (C : pm_C g cc own) {i a c k : Nat} {o : Option Nat} (hd : decode cc pc = .ok (.getfield i, 3)) (f : pm_F own i c k) (hty : pm_sR (pm_fty c k) = true) (hk : pm_kd h a = c) (hv : pm_R h a k = o) (kk : pm_G g (pc + 3) lv (pm_ov o :: st) h kc ks) : pm_G g pc lv (.ref a :: st) h kc ks :=
  pm_get0 C hd f hk (fun b => by rw [pm_fv_R hty, hv, pm_ov_v]) kk
theorem pm_putO (C : pm_C g cc own) {i a c k : Nat} {o : Option Nat} (hd : decode cc pc = .ok (.putfield i, 3)) (f : pm_F own i c k) (hfin : (pm_T c k).2.2.2 = false) (hty : pm_sR (pm_fty c k) = true) (hk : pm_kd h a = c) (kk : pm_G g (pc + 3) lv st (pm_setR h a k o) kc ks) : pm_G g pc lv (pm_ov o :: .ref a :: st) h kc ks := by
  cases o with
  | none => exact pm_putN C hd f hfin hty hk kk
  | some v => exact pm_putR C hd f hfin hty hk kk
theorem pm_aload_nO (C : pm_C g cc own) {q : Fin 4} {i : Nat} {o : Option Nat} (hd : decode cc pc = .ok (.aload_n q, 1)) (hi : (q : Nat) = i) (hv : lv.lookup i = some (pm_ov o)) (k : pm_G g (pc + 1) lv (pm_ov o :: st) h kc ks) : pm_G g pc lv st h kc ks := by
  cases o with
  | none => exact pm_aload_nN C hd hi hv k
  | some x => exact pm_aload_n C hd hi hv k
theorem pm_astore_nN (C : pm_C g cc own) {q : Fin 4} {i : Nat} {lv' : List (Nat × Value)} (hd : decode cc pc = .ok (.astore_n q, 1)) (hi : (q : Nat) = i) (hn : i < g.2.2.2.2.2.2.2.2.2.2.2.2) (hv : (i, Value.null) :: lv.filter (fun q => !(q.1 == i) && !(q.1 + 1 == i && q.2.category == 2)) = lv') (k : pm_G g (pc + 1) lv' st h kc ks) : pm_G g pc lv (.null :: st) h kc ks := by
  obtain ⟨p, l, e, R, s, m, args, below, meth, c, Q, G, nL⟩ := g
  obtain ⟨hx, hb, hts, hown, hml, hlocks, hK, hbs, hN⟩ := C
  intro H locs ls hR hS hl
  refine lv_astore_nN (lv' := pm_lv G.1 lv') hx hb hd hi hl hn ?_ (fun ls' hl' => k H locs ls' hR hS hl')
  rw [← hv]
  show _ = (i, _) :: pm_lv G.1 (lv.filter _)
  rw [pm_lv_filter (fun a c => !(a == i) && !(a + 1 == i && c == 2))]
  rfl
theorem pm_astore_nO (C : pm_C g cc own) {q : Fin 4} {i : Nat} {o : Option Nat} {lv' : List (Nat × Value)} (hd : decode cc pc = .ok (.astore_n q, 1)) (hi : (q : Nat) = i) (hn : i < g.2.2.2.2.2.2.2.2.2.2.2.2) (hv : (i, pm_ov o) :: lv.filter (fun q => !(q.1 == i) && !(q.1 + 1 == i && q.2.category == 2)) = lv') (k : pm_G g (pc + 1) lv' st h kc ks) : pm_G g pc lv (pm_ov o :: st) h kc ks := by
  cases o with
  | none => exact pm_astore_nN C hd hi hn hv k
  | some x => exact pm_astore_n C hd hi hn hv k
end PCO
/-! the search finds the handler, its class resolved or not yet -/
theorem pc_find {e : Env} {S : State} {f : JFrame} {a : Addr} {meth : Method} {code : Code} {x : ExceptionTableEntry} {cT : ClassId} {cell : Cell} (hm : S.vm.method? f.method = some meth) (hc : meth.code = some code) (htab : code.exceptionTable.toList = [x]) (hx : covers x f.pc = true) (h0 : x.catchType ≠ 0)
    (hl : S.vm.ClassLinks e.platform f.method.cls x.catchType cT) (hcell : S.heap[a]? = some cell) (hobj : ∀ k, cell.vm ≠ .statics k) (hk : ∃ k, S.vm.classes[cell.cls]? = some k) (hcl : ∃ k, S.vm.classes[cT]? = some k) (hfit : S.vm.assignable cell.cls cT = true) (Q : Handler → Pre) (E : CtlPost) (d : Bool) (acts : List Action) :
    wp (findHandler f a) Q E e d acts S ↔ Q (.found x.handlerPc) d acts (S.setVm (S.vm.noted f.method.cls x.catchType (.cls cT))) := by
  rw [W.findHandler_eq hm hc, htab]
  have hxx := hx
  simp only [covers] at hxx
  obtain ⟨r1, r2⟩ := (resolveClass_links e.toSetting hl).op (op := VmOp.resolveClass f.method.cls x.catchType) rfl
  have hal : S.vm.Alike (S.vm.noted f.method.cls x.catchType (.cls cT)) := (Vm.Alike.refl S.vm).noted _ _ _
  obtain ⟨k1, hk1⟩ := hk
  obtain ⟨k2, hk2⟩ := hcl
  obtain ⟨k3, hk3, -⟩ := hal.2.2 _ _ hk1
  obtain ⟨k4, hk4, -⟩ := hal.2.2 _ _ hk2
  have hfit2 : (S.vm.noted f.method.cls x.catchType (.cls cT)).assignable cell.cls cT = true := by rw [hal.assignable]; exact hfit
  simp [findHandler.go, hxx, h0, r1, r2, hcell, hobj, hk3, hk4, hfit2, VmOp.dirties, VmOp.acts]
theorem pc_steps {tb : Tables} {e : Env} {S target : State} {f : JFrame} {c : Code} {below : List Frame} {a : Addr} (h : At S f.method c below) {pc : Nat} {vm' : Vm}
    (hfind : ∀ (Q : Handler → Pre) (E : CtlPost) (d : Bool) (acts : List Action), wp (findHandler f a) Q E e d acts ((S.setTop f).pushFrame (.throwing a)) ↔ Q (.found pc) d acts (((S.setTop f).pushFrame (.throwing a)).setVm vm'))
    (hrest : Steps tb e below ((S.setVm vm').setTop { f with pc := pc, stack := [.ref a] }) target) : Steps tb e below ((S.setTop f).pushFrame (.throwing a)) target := by
  obtain ⟨hgo, hw⟩ := h.throwing a
  refine Steps.head hgo hw ?_
  have hst : (stepThrowing e ((S.setTop f).pushFrame (.throwing a)) a (.java f :: S.frames.tail)).Is ((((S.setTop f).pushFrame (.throwing a)).setVm vm').setFrames (.java { f with pc := pc, stack := [.ref a] } :: S.frames.tail)) [] := by
    simp only [stepThrowing, searchFrame, vmDo]
    generalize hr : Sem.go _ e false [] ((S.setTop f).pushFrame (.throwing a)) = res
    obtain ⟨as, rfl, ha⟩ := Sem.eq_ok_of hr (a := Handler.found pc) (s' := ((S.setTop f).pushFrame (.throwing a)).setVm vm') (acts' := []) (by simp [hfind _ _ _ _])
    exact ⟨rfl, ha⟩
  rw [stepThread_throwing (frames_entered h.top _), hst.1]
  obtain ⟨g0, hg0⟩ := Option.isSome_iff_exists.mp h.top
  obtain ⟨r, hr⟩ := State.topJava?_eq_some.mp hg0
  have hr' : (S.setVm vm').frames = .java g0 :: r := hr
  rw [State.setTop_of_frames _ hr'] at hrest
  have e1 : (((S.setTop f).pushFrame (.throwing a)).setVm vm').setFrames (.java { f with pc := pc, stack := [.ref a] } :: S.frames.tail) = (S.setVm vm').setFrames (.java { f with pc := pc, stack := [.ref a] } :: r) := by
    rw [hr, List.tail_cons, State.pushFrame, State.setTop_of_frames _ hr]
    show (((S.setVm vm').setFrames _).setFrames _).setFrames _ = _
    rw [State.setFrames_setFrames, State.setFrames_setFrames]
  rw [e1]
  exact hrest
abbrev pc_tab : List ExceptionTableEntry := tableOf [(111, 147, 150, 20)]
section PCC
variable {g : pm_Gm} {cc : ByteArray} {pc : Nat} {lv : List (Nat × Value)} {st st0 : List Value} {h : pm_H} {kc ks : Nat} {l : Launch} {G : pm_Gl} {M M' : pm_M} {mc ms mc' ms' n : Nat} {Qr : Option Value → pm_H → Prop} {as : List Value}
set_option maxHeartbeats 1000000 in
/-- a call of a method with two ends, in the range of the handler -/
theorem pm_callVC (C : pm_C g cc RX16) (X : pm_X g l G M mc ms Qr) (ET : g.2.2.2.2.2.2.2.2.2.1.exceptionTable.toList = pc_tab) {i r c : Nat} (hd : decode cc pc = .ok (.invokevirtual i, 3)) (hp1 : 111 ≤ pc) (hp2 : pc < 147) (hw : Cond.methodLink RX16 i M'.1 ∈ lw_tbl) (hck : Cond.classLink RX16 20 (pm_Rn 13) ∈ lw_tbl) (hca : Cond.castable RX13 RX13 ∈ lw_tbl) (my : pm_My M' n) (vi : pm_Vi M' c) (fit : pm_Fit M M') (hst : st0 = as.reverse ++ .ref r :: st) (hn : as.length = n) (hk : pm_kd h r = c) (hcat : (st.map fun v => v.category).sum ≤ 8) (h1 : kc + mc' ≤ mc) (h2 : ks + ms' ≤ ms)
    (ct : pm_Ctt l G M' (.ref r :: as) h mc' ms' (fun v h' => pm_G g (pc + 3) lv (v.toList ++ st) h' (kc + mc') (ks + ms')) (fun x h' => pm_kd h' x = 13 ∧ pm_G g 150 lv [.ref x] h' (kc + mc') (ks + ms'))) : pm_G g pc lv st0 h kc ks := by
  obtain ⟨p, l', e, R, s, m, args, below, meth, c', Q, G', nL⟩ := g
  obtain ⟨hx, hb, hts, hown, hml, hlocks, hK, hbs, hN⟩ := C
  obtain ⟨rfl, rfl, hQ, hr, rfl, hnL⟩ := X
  intro H locs ls hR hS hl
  have ht : ∀ w ∈ pm_tb, w.before args s = true := fun w hw => hts w (List.mem_filter.mp hw).1 (List.mem_filter.mp hw).2
  have he := pm_ws_at G' h (pm_live hR hk (Nat.ne_of_lt vi.1.1))
  rw [pm_E_obj hk (Nat.lt_succ_of_lt vi.1.1)] at he
  obtain ⟨cellB, hcB, hoB, hclB⟩ := va_recv hK hR.2.1 vi.1.2.1 he
  have hstk : (st0.map (pm_v G'.1)) = (as.map (pm_v G'.1)).reverse ++ .ref (G'.1 + r) :: st.map (pm_v G'.1) := by
    rw [hst, List.map_append, List.map_reverse]
    rfl
  have hlen : (as.map (pm_v G'.1)).length = n := by rw [List.length_map]; exact hn
  intro T hT X'
  obtain ⟨mk, methM, hnamed, hmethM, hstM, habM⟩ := Cond.instanceMethod_spec (hts _ vi.2.2.1 rfl)
  obtain ⟨methM', cM, hmethM', -, -, -, -, -, -, hsigM⟩ := Cond.code_spec hnamed (hts _ my.1 rfl)
  cases hmethM.symm.trans hmethM'
  obtain ⟨c2, r2, m2, q1, q2, q3, q4, kP, hkP, hkPi⟩ := Cond.selects_spec (hts _ vi.2.2.2 rfl)
  cases hclB.symm.trans q1
  cases (State.methodFound?_of_named hnamed ⟨my.2.2.1, my.2.2.2.1⟩).symm.trans q2
  cases hnamed.symm.trans q3
  have hselP : selectMethod e.platform s.vm cellB.cls mk = .method mk := by rw [Launch.admits_selectMethod X'.admits]; exact q4
  have hsl : (as.map (pm_v G'.1)).length = methM.sig.parameters.length := by
    have h9 := my.2.2.2.2
    rw [hsigM] at h9
    exact hlen.trans (Option.some.inj h9).symm
  obtain ⟨vm₁, X₁, hstep₁⟩ := X'.invokevirtual hx hown (hts _ hw rfl) hnamed hmethM hstM hkP hkPi ⟨my.2.2.1, my.2.2.2.1⟩ (a := G'.1 + r) (cell := cellB) (by rw [hT]; exact hcB)
    (fun z h => by rw [h] at hoB; cases hoB) hselP hmethM habM hkP hkPi (g := F0 m pc ls (st0.map (pm_v G'.1))) rfl (argsL := as.map (pm_v G'.1)) (rest := st.map (pm_v G'.1)) hsl hstk (by rw [hb]; exact hd)
  have hpay : ∀ w ∈ pm_wsy M', ∀ (a' : Array Value) (U : State), s.WarmedH U.vm → w.before a' U = true := fun w hw9 a' U hW9 => word_at hW9 (pm_goodM my w hw9).2 (ht w (pm_goodM my w hw9).1)
  have hTv : (T.setVm vm₁).heap = H := hT
  obtain ⟨o, t, U', L, X₂, hL, e1, ⟨hq, hz, hk9⟩, hret, hthr⟩ := pm_backT (a := (Value.ref (G'.1 + r) :: as.map (pm_v G'.1)).toArray) (f := F0 m pc ls (st.map (pm_v G'.1))) (ig := .invokevirtual i) (mk := mk) ct fit.1 fit.2 hpay (fun a' U hW9 => word_at hW9 (Or.inl rfl) (hts _ my.2.1 rfl)) X₁ rfl (by rw [hml]; exact hl.1) (by rw [hb]; exact hd) (by show 2 * 0 + _ ≤ 8; rw [pm_catsum]; omega) (X₁.named hnamed) h1 h2 (pm_Pc_at (as := .ref r :: as) hR hK hN hS _ hTv X₁.warmed)
  have hc0 : (State.calling (T.setVm vm₁) (F0 m pc ls (st.map (pm_v G'.1))) mk (Value.ref (G'.1 + r) :: as.map (pm_v G'.1)).toArray).heap = H := hT
  rw [hc0] at hz hk9
  have hS1 : va_S (fun q => G'.1 ≤ q) s.heap U'.heap (locs ++ L) := ⟨Nat.le_trans hS.1 (by rw [e1]; exact hz), fun q h1 h2 => by rw [e1, hk9 q (Nat.lt_of_lt_of_le h1 hS.1) h2]; exact hS.2.1 q h1 h2, fun q hq => by
      rcases List.mem_append.mp hq with h | h
      · exact hS.2.2 q h
      · exact hL q h⟩
  rcases hq with ⟨v, h', ho, hqr, hrel⟩ | ⟨x, h', ho, ⟨hkx, hqt⟩, hrel⟩
  · obtain ⟨t2, a1, b1⟩ := hqr U'.heap (locs ++ L) ls (by rw [e1]; exact hrel) hS1 hl U' rfl X₂
    refine ⟨t2, hstep₁ _ fun acts => ?_, b1⟩
    rw [doInvoke_state]
    refine (hret _ ho).trans ?_
    have es : (v.map (pm_v G'.1)).toList ++ st.map (pm_v G'.1) = (v.toList ++ st).map (pm_v G'.1) := by cases v <;> rfl
    show Steps p.tables e below (U'.setTop (F0 m (pc + 3) ls ((v.map (pm_v G'.1)).toList ++ st.map (pm_v G'.1)))) t2
    rw [es]
    exact a1
  · have hrelU : pm_Rel G' h' U'.heap := by rw [e1]; exact hrel
    have he13 := pm_ws_at G' h' (pm_live hrelU hkx (by decide))
    rw [pm_E_obj hkx (by decide)] at he13
    obtain ⟨cellF, hcF, hoF, hclF⟩ := va_recv hK hrelU.2.1 pm_Cl13.2.1 he13
    have hclF' : s.vm.findClass RX13 = some cellF.cls := hclF
    have hpl : e.platform.magicAccessors = ({} : Platform).magicAccessors := by rw [X'.admits.platform]
    obtain ⟨cT, hcT, hcl⟩ := Cond.classLink_spec hown (hts _ hck rfl) e.platform hpl
    have hcT' : s.vm.findClass RX13 = some cT := hcT
    cases hclF'.symm.trans hcT'
    obtain ⟨dk, _, _, kt, hdk, _, _, _, _, hkt, _, hopen⟩ := hcl.here
    have hcl₀ := X₂.warmed.classLinks hcl
    have hW' : s.WarmedH (U'.vm.noted m.cls 20 (.cls cellF.cls)) := X₂.warmed.noted hdk hopen (State.rightAt_cls hcl)
    have hal := X₂.warmed.alike
    obtain ⟨kt', hkt', -⟩ := hal.2.2 _ _ hkt
    obtain ⟨c3, c4, hc3, hc4, hasg⟩ := Cond.castable_spec (va_Nw.use (A := args) rfl (hN.1 _ hca rfl))
    cases hc3.symm.trans hclF'
    cases hc4.symm.trans hclF'
    have hfit' : U'.vm.assignable cellF.cls cellF.cls = true := by rw [hal.assignable]; exact hasg
    have X₃ := X₂.noted hW'
    obtain ⟨t2, a1, b1⟩ := hqt U'.heap (locs ++ L) ls hrelU hS1 hl (U'.setVm (U'.vm.noted m.cls 20 (.cls cellF.cls))) rfl X₃
    refine ⟨t2, hstep₁ _ fun acts => ?_, b1⟩
    rw [doInvoke_state]
    refine (hthr _ ho).trans ?_
    refine pc_steps (f := F0 m pc ls (st.map (pm_v G'.1))) (a := G'.1 + x) (pc := 150) X₂.here (fun Q E d acts => ?_) a1
    exact pc_find (e := e) (S := (U'.setTop (F0 m pc ls (st.map (pm_v G'.1)))).pushFrame (.throwing (G'.1 + x))) (f := F0 m pc ls (st.map (pm_v G'.1))) (x := ⟨111, 147, 150, 20⟩) (meth := meth) (code := c') X₂.method' X₂.code ET (by simp [covers, hp1, hp2]) (by decide) hcl₀ hcF (VmData.ne_statics_of hoF) ⟨kt', hkt'⟩ ⟨kt', hkt'⟩ hfit' Q E d acts
end PCC
/-- the contract of a method with a handler -/
def pm_wsw (M : pm_M) (hh : List (Nat × Nat × Nat × Nat)) : List Cond := .codeWith M.1 M.2.1 M.2.2.1 M.2.2.2.1 hh :: pm_tb
def pm_Ctw (l : Launch) (G : pm_Gl) (M : pm_M) (hh : List (Nat × Nat × Nat × Nat)) (as : List Value) (h : pm_H) (mc ms : Nat) (Qr : Option Value → pm_H → Prop) : Prop :=
  Met l M.1 (pm_wsw M hh) (pm_rm M mc ms) (pm_Pc G as h) (pm_Qc G Qr) mc ms (fun q => G.1 ≤ q)
theorem pm_bodyW {l : Launch} {G : pm_Gl} {M : pm_M} {hh : List (Nat × Nat × Nat × Nat)} {as : List Value} {h : pm_H} {mc ms : Nat} {Qr : Option Value → pm_H → Prop} (hy : plainName M.1.cls = true) (hl : (lg_sl as).length ≤ M.2.2.1)
    (k : ∀ g : pm_Gm, pm_C g M.2.1 M.1.cls → pm_X g l G M mc ms Qr → g.2.2.2.2.2.2.2.2.2.1.exceptionTable.toList = tableOf hh → pm_G g 0 (lv_args 0 as) [] h 0 0) : pm_Ctw l G M hh as h mc ms Qr := by
  refine va_MetW (cc := M.2.1) (maxL := M.2.2.1) (ret := M.2.2.2.1) (hh := hh) hy rfl ?_
  intro p e s m args below meth c s₁ B hml hv
  obtain ⟨rfl, hR, hK, hN⟩ := hv
  have hts := atoms_spec (ws := pm_wsw M hh) B.pre
  have hown : s.vm.findClass M.1.cls = some m.cls := findClass_of_methodNamed B.named
  have hL := lv_entry (as.map (pm_v G.1)) (n := M.2.2.1) (by rw [pm_slots]; exact hl)
  have hb : G.1 ≤ s.heap.size := by rw [hR.1]; exact Nat.le_add_right _ _
  have X₀ : Stand p l e (pm_rm M mc ms) s m _ below meth c s₁ [] 0 0 := Stand.of_body B
  have het : c.exceptionTable.toList = tableOf hh := by
    obtain ⟨m9, meth', c', hn9, q1, q2, -, -, q5, -⟩ := Cond.codeWith_spec (hts _ List.mem_cons_self)
    cases B.named.symm.trans hn9
    cases B.method.symm.trans q1
    cases X₀.code.symm.trans q2
    rw [← q5, table_eq]
  have K := k (p, l, e, pm_rm M mc ms, s, m, (as.map (pm_v G.1)).toArray, below, meth, c, MQ below (pm_Qc G Qr) (as.map (pm_v G.1)).toArray s mc ms (fun q => G.1 ≤ q), G, M.2.2.1)
    ⟨B.exec, B.bytes, fun w hw hg => hts w (List.mem_cons_of_mem _ (List.mem_filter.mpr ⟨hw, hg⟩)), hown, hml, B.notSynchronized, hK, hb, hN⟩ ⟨rfl, rfl, rfl, B.returns, rfl, rfl⟩ het
  rw [lg_entry_eq]
  refine K s.heap [] _ hR va_S.rf ?_
  rw [pm_args]
  exact hL
