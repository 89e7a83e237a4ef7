/-! THE FAULT: its constructor goes up to Throwable's, in a launch without stack traces -/
def pf_ws : List Cond := Bundle.throwableAtoms ++ Bundle.chain0Atoms "java/lang/RuntimeException" ["java/lang/Exception"] ++
  [.methodLink RX13 1 (Bundle.init0 "java/lang/RuntimeException"), .instantiable RX13 6, .selects RX13 Bundle.tFill0 Bundle.tFill0, .selects RX13 Bundle.tFill Bundle.tFill,
   .lays RX13 Bundle.tN "cause" "Ljava/lang/Throwable;", .lays RX13 Bundle.tN "stackTrace" Bundle.steD, .lays RX13 Bundle.tN "suppressedExceptions" Bundle.listD, .lays RX13 Bundle.tN "detailMessage" "Ljava/lang/String;",
   .fieldLink Bundle.tN 198 Bundle.tN "backtrace" "Ljava/lang/Object;", .lays Bundle.tN Bundle.tN "backtrace" "Ljava/lang/Object;", .lays RX13 Bundle.tN "backtrace" "Ljava/lang/Object;", .lays RX13 Bundle.tN "depth" "I"]
def pf_val (G : pm_Gl) (x : Nat) : Nat → Value := fun k => match k with
  | 0 => .ref x
  | 1 => va_rf (pm_un (G.2.2 130))
  | 2 => va_rf (pm_un (G.2.2 131))
  | 3 => .null
  | 4 => .null
  | _ => .int 0
theorem pf_isRef (o : Option Nat) : (va_rf o).isRef = true := by cases o <;> rfl
theorem pf_static {s : State} {n d : String} {v : Value} {A : Nat → Prop} {c : ClassId} {k : Class} {i : Nat} {f : Field} {a : Nat} (hZ : va_Z "java/lang/Throwable" n d v A s s.heap) (hf : s.fieldFound? "java/lang/Throwable" n d = some (c, k, i, f)) (ha : k.statics = some a) : ∃ cell, s.heap[a]? = some cell ∧ cell.vm.isStatics = true ∧ cell.slots[f.slot]? = some v := by
  obtain ⟨cf, kf, fi, f', a', cell, h1, -, -, h4, h5, h6, h7, -⟩ := hZ
  have e := Option.some.inj (h1.symm.trans hf)
  simp only [Prod.mk.injEq] at e
  obtain ⟨-, rfl, -, rfl⟩ := e
  cases h4.symm.trans ha
  exact ⟨cell, h5, h6, h7⟩
section PFS
variable {p : Program} {l : Launch} {e : Env} {R : Room} {s : State} {m : MethodId} {args : Array Value} {below : List Frame} {meth : Method} {c : Code} {cells slots : Nat} {Q : State → Prop}
set_option maxHeartbeats 2000000 in
theorem pf_super {cc : ByteArray} (hx : p.tables.exec = Jvm.exec) (hb : c.code = cc) (htr : l.stackTraces = false) (hown : s.vm.findClass RX13 = some m.cls) (h : ∀ w ∈ pf_ws, w.before args s = true) {G : pm_Gl} (hT : pm_bT s G)
    {a : Addr} {cX : ClassId} {kX : Class} (hfound : s.vm.findClass RX13 = some cX) (hk : s.vm.classes[cX]? = some kX) (hord : kX.kind = .ordinary) (hcell0 : s.heap[a]? = some (freshCell cX kX))
    {pc : Nat} {ls : Array Slot} (hls : ls.size = c.maxLocals) {rest : List Value} (hcat : (rest.map fun v => v.category).sum ≤ 8) (hd : decode cc pc = .ok (.invokespecial 1, 3)) (hRf : 5 ≤ R.frames) (hRl : 75 ≤ R.locals)
    (kk : ∀ (H1 : Heap) (L : List Loc) (cell : Cell), H1[a]? = some cell → cell.cls = cX → cell.vm = .none → H1.size = s.heap.size → (∀ q, q ≠ a → H1[q]? = s.heap[q]?) → (∀ k i, k < 6 → SlotIs s (TX13 k).1 (TX13 k).2.1 (TX13 k).2.2.1 i → cell.slots[i]? = some (pf_val G a k)) → (∀ q ∈ L, q.base = a) → W p l e R s m args below meth c H1 L cells slots Q (F0 m (pc + 3) ls rest)) :
    W p l e R s m args below meth c s.heap [] cells slots Q (F0 m pc ls (.ref a :: rest)) := by
  intro T hTh X
  subst hb
  have howns : e.platform.frameOwnsMonitors = true := by rw [X.admits.platform]
  have hfin : e.platform.finalization = false := by rw [X.admits.platform]
  have hpl : e.platform.magicAccessors = ({} : Platform).magicAccessors := by rw [X.admits.platform]
  have htr' : e.platform.stackTraces = false := by rw [X.admits.platform]; exact htr
  have a' : ∀ x, x ∈ pf_ws → x.holds args s none s [] = true := fun x hx => h x hx
  obtain ⟨T0, Z, L, LZ, Y⟩ := ThrowableC.of_atoms (args := args) howns hfin hpl (fun x hx => h x (by simp [pf_ws, hx]))
  obtain ⟨P1, Ps, hlen, L1, hL, hP1m, hlink1, hlink⟩ := Bundle.chain0 (args := args) hpl Y.init0 ["java/lang/Exception"] "java/lang/RuntimeException" (by decide) (by decide) (fun x hx => h x (by simp [pf_ws, hx]))
  have hsel0 : selectMethod e.platform s.vm cX T0.fill0 = .method T0.fill0 := by
    obtain ⟨c2, r2, m2, q1, q2, q3, q4, -⟩ := Cond.selects_spec (a' (.selects RX13 Bundle.tFill0 Bundle.tFill0) (by simp [pf_ws]))
    cases Option.some.inj (q1.symm.trans hfound)
    cases Option.some.inj (q2.symm.trans (State.methodFound?_of_named Y.fill0 (by decide)))
    cases Option.some.inj (q3.symm.trans Y.fill0)
    rw [Launch.admits_selectMethod X.admits]; exact q4
  have hselF : selectMethod e.platform s.vm cX T0.fill = .method T0.fill := by
    obtain ⟨c2, r2, m2, q1, q2, q3, q4, -⟩ := Cond.selects_spec (a' (.selects RX13 Bundle.tFill Bundle.tFill) (by simp [pf_ws]))
    cases Option.some.inj (q1.symm.trans hfound)
    cases Option.some.inj (q2.symm.trans (State.methodFound?_of_named Y.fill (by decide)))
    cases Option.some.inj (q3.symm.trans Y.fill)
    rw [Launch.admits_selectMethod X.admits]; exact q4
  obtain ⟨cellS, hcS, hiss, hu0⟩ := pf_static hT.1 Y.unassigned L.statics
  obtain ⟨cellS', hcS', -, hsen⟩ := pf_static hT.2.1 Y.sentinel L.statics
  cases Option.some.inj (hcS.symm.trans hcS')
  obtain ⟨ci198, i198, fB, hk198, hg198, ha198, hsB, -, hnB, htB, hffB⟩ := Cond.ownField (t := .object "java/lang/Object") Y.found L.cls (by decide +kernel) (a' (.fieldLink Bundle.tN 198 Bundle.tN "backtrace" "Ljava/lang/Object;") (by simp [pf_ws])) (a' (.lays Bundle.tN Bundle.tN "backtrace" "Ljava/lang/Object;") (by simp [pf_ws])) e.platform hpl
  have hcellS : T.heap[T0.aS]? = some cellS := by rw [hTh]; exact hcS
  have hcell : T.heap[a]? = some (freshCell cX kX) := by rw [hTh]; exact hcell0
  have hknownS : cellS.vm ≠ .unknown := by
    intro hu
    rw [hu] at hiss
    cases hiss
  have hneS : T0.aS ≠ a := by
    intro he
    rw [he] at hcS
    cases Option.some.inj (hcS.symm.trans hcell0)
    cases hiss
  obtain ⟨iM, hffM⟩ := Y.msg
  obtain ⟨tyC, dC, hdC, hdnC⟩ := Cond.laysAt hfound hk Y.cause (a' (.lays RX13 Bundle.tN "cause" "Ljava/lang/Throwable;") (by simp [pf_ws]))
  obtain ⟨tyS, dS, hdS, hdnS⟩ := Cond.laysAt hfound hk Y.stack (a' (.lays RX13 Bundle.tN "stackTrace" Bundle.steD) (by simp [pf_ws]))
  obtain ⟨tyP, dP, hdP, hdnP⟩ := Cond.laysAt hfound hk Y.supp (a' (.lays RX13 Bundle.tN "suppressedExceptions" Bundle.listD) (by simp [pf_ws]))
  obtain ⟨tyM, dM, hdM, hdnM⟩ := Cond.laysAt hfound hk hffM (a' (.lays RX13 Bundle.tN "detailMessage" "Ljava/lang/String;") (by simp [pf_ws]))
  obtain ⟨tyB, dB, hdB, hdnB⟩ := Cond.laysAt hfound hk hffB (a' (.lays RX13 Bundle.tN "backtrace" "Ljava/lang/Object;") (by simp [pf_ws]))
  have bC := Cond.laysApart hdB hdC hdnB hdnC (by rw [hnB, Y.causeName]; decide)
  have bS := Cond.laysApart hdB hdS hdnB hdnS (by rw [hnB, Y.stackName]; decide)
  have bP := Cond.laysApart hdB hdP hdnB hdnP (by rw [hnB, Y.suppName]; decide)
  have hnM : T0.fMsg.name = "detailMessage" := (State.fieldFound?_type hffM (t := .object "java/lang/String") (by decide +kernel)).1
  have nCS := Cond.laysApart hdC hdS hdnC hdnS (by rw [Y.causeName, Y.stackName]; decide)
  have nCP := Cond.laysApart hdC hdP hdnC hdnP (by rw [Y.causeName, Y.suppName]; decide)
  have nCM := Cond.laysApart hdC hdM hdnC hdnM (by rw [Y.causeName, hnM]; decide)
  have nSP := Cond.laysApart hdS hdP hdnS hdnP (by rw [Y.stackName, Y.suppName]; decide)
  have nSM := Cond.laysApart hdS hdM hdnS hdnM (by rw [Y.stackName, hnM]; decide)
  have nPM := Cond.laysApart hdP hdM hdnP hdnM (by rw [Y.suppName, hnM]; decide)
  have lC : T0.fCause.slot < kX.instanceTypes.size := (Array.getElem?_eq_some_iff.mp tyC).1
  have lS : T0.fStack.slot < kX.instanceTypes.size := (Array.getElem?_eq_some_iff.mp tyS).1
  have lP : T0.fSupp.slot < kX.instanceTypes.size := (Array.getElem?_eq_some_iff.mp tyP).1
  let u0 : RefV := ⟨va_rf (pm_un (G.2.2 130)), pf_isRef _⟩
  let sen : RefV := ⟨va_rf (pm_un (G.2.2 131)), pf_isRef _⟩
  have hskip : SkipFacts T0 e.platform s (fun u => u) u0 ((preparedCellV T0.toThrowableT (freshCell cX kX) a u0 sen).withEntry T.cur) :=
    ⟨{ ci198 := ci198, i198 := i198, fBack := fB }, ⟨hk198, hg198, ha198, hsB⟩, by
      have := fresh_default (c := cX) tyB
      rw [htB] at this
      simpa [preparedCellV, Cell.setSlot, Cell.withEntry, Array.getElem?_setIfInBounds, bC, bS, bP, bC.symm, bS.symm, bP.symm, defaultValue] using this, fun _ _ => rfl⟩
  obtain ⟨tm, methC, cdC, kC, vm₁, hnC, -, -, -, -, -, -, -, hW₁, st1⟩ := Steps.initCold (tb := p.tables) (e := e) (below := below) (s := s) (U := T) X.here hx X.warmed hpl hown (t := Bundle.init0 "java/lang/RuntimeException") rfl rfl (by decide)
    (a' (.methodLink RX13 1 (Bundle.init0 "java/lang/RuntimeException")) (by simp [pf_ws])) (h (.instanceMethod (Bundle.init0 "java/lang/RuntimeException")) (by simp [pf_ws, Bundle.chain0Atoms, Bundle.passAtoms])) (bytes := Bundle.five) (maxL := 1) (h (.code (Bundle.init0 "java/lang/RuntimeException") Bundle.five 1 none) (by simp [pf_ws, Bundle.chain0Atoms, Bundle.passAtoms]))
    (f := F0 m pc ls (.ref a :: rest)) rfl (a := a) (rest := rest) rfl hd
  cases Option.some.inj (hnC.symm.trans hP1m)
  have X₁ := X.noted hW₁
  obtain ⟨vm₂, X₂, st2⟩ := X₁.ctorPlainOffV hx (g := F0 m pc ls rest) rfl hls T0 L Z LZ (P1 :: Ps)
    (fun P hP => by rcases List.mem_cons.mp hP with rfl | hP; exact L1; exact hL P hP) ⟨hlink1, hlink⟩ (u0 := u0) (sen := sen) (self := a) (cell := freshCell cX kX) (cellS := cellS)
    hcell (fun _ => by simp) (by simp) rfl rfl hsel0 hselF hcellS hneS hknownS hu0 hsen
    (Takes.of_laid hk hord tyC (by rw [Y.causeType]; rfl)) (Takes.of_laid hk hord tyS (by rw [Y.stackType]; exact fits_refV_array _ u0)) (Takes.of_laid hk hord tyP (by rw [Y.suppType]; exact fits_refV_object _ sen)) Y.objLocals hskip htr' [] hd
    (by simp only [List.length_cons, hlen]; simp; omega) (by simp only [List.length_cons, hlen]; show 2 * 0 + _ + _ ≤ _; simp; omega)
  have hlt : a < ((T.setVm vm₁).setVm vm₂).heap.size := (Array.getElem?_eq_some_iff.mp hcell).1
  have hU := heapAt_setCell_self (s := (T.setVm vm₁).setVm vm₂) ((preparedCellV T0.toThrowableT (freshCell cX kX) a u0 sen).setSlot T0.fStack.slot u0.v) hlt
  have h5 : ∀ k i, k < 6 → SlotIs s (TX13 k).1 (TX13 k).2.1 (TX13 k).2.2.1 i → ((preparedCellV T0.toThrowableT (freshCell cX kX) a u0 sen).setSlot T0.fStack.slot u0.v).slots[i]? = some (pf_val G a k) := by
    intro k i hk6 hi
    obtain ⟨cf, kf, fi, fd, hf, rfl⟩ := hi
    have hcase : k = 0 ∨ k = 1 ∨ k = 2 ∨ k = 3 ∨ k = 4 ∨ k = 5 := by omega
    rcases hcase with rfl | rfl | rfl | rfl | rfl | rfl
    · have e1 := Option.some.inj (hf.symm.trans Y.cause)
      simp only [Prod.mk.injEq] at e1
      obtain ⟨-, -, -, rfl⟩ := e1
      simp [preparedCellV, Cell.setSlot, nCS.symm, nCP.symm, lC, pf_val]
    · have e1 := Option.some.inj (hf.symm.trans Y.stack)
      simp only [Prod.mk.injEq] at e1
      obtain ⟨-, -, -, rfl⟩ := e1
      simp [preparedCellV, Cell.setSlot, lS, pf_val, u0]
    · have e1 := Option.some.inj (hf.symm.trans Y.supp)
      simp only [Prod.mk.injEq] at e1
      obtain ⟨-, -, -, rfl⟩ := e1
      simp [preparedCellV, Cell.setSlot, nSP, lP, pf_val, sen]
    · have e1 := Option.some.inj (hf.symm.trans hffM)
      simp only [Prod.mk.injEq] at e1
      obtain ⟨-, -, -, rfl⟩ := e1
      have := fresh_default (c := cX) tyM
      rw [Y.msgType] at this
      simpa [preparedCellV, Cell.setSlot, Array.getElem?_setIfInBounds, nCM, nSM, nPM, nCM.symm, nSM.symm, nPM.symm, defaultValue, pf_val] using this
    · have e1 := Option.some.inj (hf.symm.trans hffB)
      simp only [Prod.mk.injEq] at e1
      obtain ⟨-, -, -, rfl⟩ := e1
      have := fresh_default (c := cX) tyB
      rw [htB] at this
      simpa [preparedCellV, Cell.setSlot, Array.getElem?_setIfInBounds, bC, bS, bP, bC.symm, bS.symm, bP.symm, defaultValue, pf_val] using this
    · obtain ⟨hnD, htD⟩ := State.fieldFound?_type hf (t := .int) (by decide +kernel)
      have hnD' : fd.name = "depth" := hnD
      obtain ⟨tyD, dD, hdD, hdnD⟩ := Cond.laysAt hfound hk hf (a' (.lays RX13 Bundle.tN "depth" "I") (by simp [pf_ws]))
      have m1 := Cond.laysApart hdD hdC hdnD hdnC (by rw [hnD', Y.causeName]; decide)
      have m2 := Cond.laysApart hdD hdS hdnD hdnS (by rw [hnD', Y.stackName]; decide)
      have m3 := Cond.laysApart hdD hdP hdnD hdnP (by rw [hnD', Y.suppName]; decide)
      have := fresh_default (c := cX) tyD
      rw [htD] at this
      simpa [preparedCellV, Cell.setSlot, Array.getElem?_setIfInBounds, m1, m2, m3, m1.symm, m2.symm, m3.symm, defaultValue, pf_val] using this
  have h6 : ∀ q ∈ ([] ++ [⟨a, T0.fCause.slot⟩, ⟨a, T0.fStack.slot⟩, ⟨a, T0.fSupp.slot⟩, ⟨a, T0.fStack.slot⟩] : List Loc), q.base = a := by
    intro q hq
    simp only [List.nil_append, List.mem_cons, List.not_mem_nil, or_false] at hq
    rcases hq with rfl | rfl | rfl | rfl <;> rfl
  obtain ⟨t, a1, b1⟩ := kk _ _ _ hU rfl rfl (by rw [size_setCell]; show T.heap.size = _; rw [hTh]) (fun q hq => by rw [heapAt_setCell_ne _ (Ne.symm hq)]; show T.heap[q]? = _; rw [hTh]) h5 h6 _ rfl X₂
  refine ⟨t, st1 _ (fun acts => ?_), b1⟩
  rw [doInvoke_state]
  exact st2 _ a1
end PFS
