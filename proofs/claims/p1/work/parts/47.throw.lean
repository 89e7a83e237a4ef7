/-! METHODS THAT MAY THROW: two ends -/
def pm_FE (st t : State) (L : List Loc) (k n : Nat) : Prop := st.WarmedH t.vm ∧ st.sameButNew ({ t with vm := st.vm } : State) L k n
def pm_Qo (G : pm_Gl) (Qr : Option Value → pm_H → Prop) (Qt : Nat → pm_H → Prop) : State → Outcome → State → Prop := fun st o t =>
  ((∃ (v : Option Value) (h' : pm_H), o = .returned (v.map (pm_v G.1)) ∧ Qr v h' ∧ pm_Rel G h' t.heap) ∨ ∃ (x : Nat) (h' : pm_H), o = .threw (G.1 + x) ∧ Qt x h' ∧ pm_Rel G h' t.heap) ∧ va_F (fun q => G.1 ≤ q) st t
def pm_MQ (below : List Frame) (G : pm_Gl) (Qr : Option Value → pm_H → Prop) (Qt : Nat → pm_H → Prop) (s : State) (mc ms : Nat) : State → Prop := fun t =>
  ∃ o, t.status = .running ∧ Ended t below o ∧ pm_Qo G Qr Qt s o t ∧ ∃ L, pm_FE s t L mc ms ∧ ∀ q ∈ L, G.1 ≤ q.base
/-- A CONTRACT WITH TWO ENDS: it returns with Qr, or throws with Qt -/
def pm_Ctt (l : Launch) (G : pm_Gl) (M : pm_M) (as : List Value) (h : pm_H) (mc ms : Nat) (Qr : Option Value → pm_H → Prop) (Qt : Nat → pm_H → Prop) : Prop :=
  MetFree l M.1 (headSpec (pm_wsy M) (pm_rm M mc ms)) (pm_Pc G as h) (fun _ _ _ _ _ => True) (fun _ st o t => pm_Qo G Qr Qt st o t ∧ ∃ L, pm_FE st t L mc ms ∧ ∀ q ∈ L, G.1 ≤ q.base)
def pm_XT (g : pm_Gm) (l : Launch) (G : pm_Gl) (M : pm_M) (mc ms : Nat) (Qr : Option Value → pm_H → Prop) (Qt : Nat → pm_H → Prop) : Prop := match g with
  | (_, l', _, R, s, _, _, below, meth, c, Q, G', nL) => l' = l ∧ G' = G ∧ Q = pm_MQ below G Qr Qt s mc ms ∧ meth.sig.returnType = M.2.2.2.1 ∧ R = pm_rm M mc ms ∧ nL = M.2.2.1 ∧ c.exceptionTable.isEmpty = true
theorem pm_bodyT {l : Launch} {G : pm_Gl} {M : pm_M} {as : List Value} {h : pm_H} {mc ms : Nat} {Qr : Option Value → pm_H → Prop} {Qt : Nat → pm_H → Prop} (hy : plainName M.1.cls = true) (hl : (lg_sl as).length ≤ M.2.2.1)
    (k : ∀ g : pm_Gm, pm_C g M.2.1 M.1.cls → pm_XT g l G M mc ms Qr Qt → pm_G g 0 (lv_args 0 as) [] h 0 0) : pm_Ctt l G M as h mc ms Qr Qt := by
  refine MetFree.of_bodyS (code := M.2.1) (maxLocals := M.2.2.1) (ret := M.2.2.2.1) hy ?_ ?_
  · intro args s m h hn
    obtain ⟨meth, c, h1, h2, h3, h4, h5, h6, -, -⟩ := Cond.code_spec hn (atoms_spec (ws := pm_wsy M) h _ List.mem_cons_self)
    exact ⟨meth, c, h1, h2, h3, h4, h5, h6⟩
  · intro p e s m args below meth c s₁ B hml hv _
    obtain ⟨rfl, hR, hK, hN⟩ := hv
    have hts := atoms_spec (ws := pm_wsy M) B.pre
    have hown : s.vm.findClass M.1.cls = some m.cls := findClass_of_methodNamed B.named
    have hL := lv_entry (as.map (pm_v G.1)) (n := M.2.2.1) (by rw [pm_slots]; exact hl)
    have hb : G.1 ≤ s.heap.size := by rw [hR.1]; exact Nat.le_add_right _ _
    have X₀ : Stand p l e (pm_rm M mc ms) s m _ below meth c s₁ [] 0 0 := Stand.of_body B
    have het : c.exceptionTable.isEmpty = true := by
      obtain ⟨meth', c', q1, q2, -, -, -, -, q7, -⟩ := Cond.code_spec B.named (hts _ List.mem_cons_self)
      cases B.method.symm.trans q1
      cases X₀.code.symm.trans q2
      exact q7
    have hh0 : s₁.heap = s.heap := by rw [B.state]; rfl
    have K := k (p, l, e, pm_rm M mc ms, s, m, (as.map (pm_v G.1)).toArray, below, meth, c, pm_MQ below G Qr Qt s mc ms, G, M.2.2.1)
      ⟨B.exec, B.bytes, fun w hw hg => hts w (List.mem_cons_of_mem _ (List.mem_filter.mpr ⟨hw, hg⟩)), hown, hml, B.notSynchronized, hK, hb, hN⟩ ⟨rfl, rfl, rfl, B.returns, rfl, rfl, het⟩
    have K1 := K s.heap [] _ hR va_S.rf (by rw [pm_args]; exact hL)
    have e1 : entryFrame m (as.map (pm_v G.1)).toArray M.2.2.1 = F0 m 0 ((lg_sl (as.map (pm_v G.1)) ++ List.replicate (M.2.2.1 - (lg_sl (as.map (pm_v G.1))).length) Slot.unset).toArray) [] := lg_entry_eq _ _ _
    rw [e1]
    obtain ⟨t, a1, o, b1, b2, b3⟩ := K1 s₁ hh0 X₀
    exact ⟨t, o, a1, b1, b2, b3⟩
theorem pm_W_mono {p : Program} {l : Launch} {e : Env} {R : Room} {s : State} {m : MethodId} {args : Array Value} {below : List Frame} {meth : Method} {c : Code} {H : Heap} {locs : List Loc} {k n : Nat} {Q Q' : State → Prop} {f : JFrame} (h : W p l e R s m args below meth c H locs k n Q f) (hq : ∀ t, Q t → Q' t) : W p l e R s m args below meth c H locs k n Q' f := fun T hT X => by
  obtain ⟨t, a, b⟩ := h T hT X
  exact ⟨t, a, hq t b⟩
theorem pm_MQ_of {below : List Frame} {G : pm_Gl} {Qr : Option Value → pm_H → Prop} {Qt : Nat → pm_H → Prop} {a : Array Value} {s : State} {mc ms : Nat} : ∀ t, MQ below (pm_Qc G Qr) a s mc ms (fun q => G.1 ≤ q) t → pm_MQ below G Qr Qt s mc ms t := by
  intro t h
  obtain ⟨o, h1, h2, ⟨h3, h4⟩, L, h5, h6⟩ := h
  exact ⟨o, h1, h2, ⟨Or.inl h3, h4⟩, L, ⟨h5.2.1, h5.2.2⟩, h6⟩
section PTE
variable {g : pm_Gm} {cc : ByteArray} {own : String} {pc : Nat} {lv : List (Nat × Value)} {st st0 : List Value} {h : pm_H} {kc ks : Nat} {l : Launch} {G : pm_Gl} {M M' : pm_M} {mc ms mc' ms' n : Nat} {Qr : Option Value → pm_H → Prop} {Qt : Nat → pm_H → Prop} {as : List Value}
theorem pt_nl (X : pm_XT g l G M mc ms Qr Qt) {i : Nat} (q : i < M.2.2.1) : i < g.2.2.2.2.2.2.2.2.2.2.2.2 := by
  obtain ⟨p, l', e, R, s, m, args, below, meth, c', Q, G', nL⟩ := g
  obtain ⟨-, -, -, -, -, hnL, -⟩ := X
  rw [hnL]
  exact q
theorem pt_iret (C : pm_C g cc own) (X : pm_XT g l G M mc ms Qr Qt) {v : Int32} (hd : decode cc pc = .ok (.ireturn, 1)) (hM : M.2.2.2.1 = some .int) (h1 : kc ≤ mc) (h2 : ks ≤ ms) (q : Qr (some (.int v)) h) : pm_G g pc lv [.int v] h kc ks := by
  obtain ⟨p, l', e, R, s, m, args, below, meth, c, Q, G', nL⟩ := g
  obtain ⟨hx, hb, hts, hown, hml, hlocks, hK, hbs, hN⟩ := C
  obtain ⟨rfl, rfl, rfl, hr, hRm, hnL, het⟩ := X
  intro H locs ls hR hS hl
  refine W.widen h1 h2 (pm_W_mono ?_ (pm_MQ_of (a := args)))
  exact W.iret hx hb (hr.trans hM) (fun t ht _ => ⟨⟨some (.int v), h, rfl, q, by rw [ht]; exact hR⟩, hS.F ht⟩) hS.2.2 hd
theorem pt_lret (C : pm_C g cc own) (X : pm_XT g l G M mc ms Qr Qt) {v : Int64} (hd : decode cc pc = .ok (.lreturn, 1)) (hM : M.2.2.2.1 = some .long) (h1 : kc ≤ mc) (h2 : ks ≤ ms) (q : Qr (some (.long v)) h) : pm_G g pc lv [.long v] h kc ks := by
  obtain ⟨p, l', e, R, s, m, args, below, meth, c, Q, G', nL⟩ := g
  obtain ⟨hx, hb, hts, hown, hml, hlocks, hK, hbs, hN⟩ := C
  obtain ⟨rfl, rfl, rfl, hr, hRm, hnL, het⟩ := X
  intro H locs ls hR hS hl
  refine W.widen h1 h2 (pm_W_mono ?_ (pm_MQ_of (a := args)))
  exact W.lret hx hb (hr.trans hM) (fun t ht _ => ⟨⟨some (.long v), h, rfl, q, by rw [ht]; exact hR⟩, hS.F ht⟩) hS.2.2 hd
theorem pt_zret (C : pm_C g cc own) (X : pm_XT g l G M mc ms Qr Qt) {v : Int32} (hd : decode cc pc = .ok (.ireturn, 1)) (hM : M.2.2.2.1 = some .boolean) (hn : narrow .boolean (.int v) = .int v) (h1 : kc ≤ mc) (h2 : ks ≤ ms) (q : Qr (some (.int v)) h) : pm_G g pc lv [.int v] h kc ks := by
  obtain ⟨p, l', e, R, s, m, args, below, meth, c, Q, G', nL⟩ := g
  obtain ⟨hx, hb, hts, hown, hml, hlocks, hK, hbs, hN⟩ := C
  obtain ⟨rfl, rfl, rfl, hr, hRm, hnL, het⟩ := X
  intro H locs ls hR hS hl
  refine W.widen h1 h2 (pm_W_mono ?_ (pm_MQ_of (a := args)))
  exact W.zret hx hb (hr.trans hM) hn (fun t ht _ => ⟨⟨some (.int v), h, rfl, q, by rw [ht]; exact hR⟩, hS.F ht⟩) hS.2.2 hd
theorem pt_vret (C : pm_C g cc own) (X : pm_XT g l G M mc ms Qr Qt) (hd : decode cc pc = .ok (.return_, 1)) (hM : M.2.2.2.1 = none) (h1 : kc ≤ mc) (h2 : ks ≤ ms) (q : Qr none h) : pm_G g pc lv [] h kc ks := by
  obtain ⟨p, l', e, R, s, m, args, below, meth, c, Q, G', nL⟩ := g
  obtain ⟨hx, hb, hts, hown, hml, hlocks, hK, hbs, hN⟩ := C
  obtain ⟨rfl, rfl, rfl, hr, hRm, hnL, het⟩ := X
  intro H locs ls hR hS hl
  refine W.widen h1 h2 (pm_W_mono ?_ (pm_MQ_of (a := args)))
  exact W.vret hx hb (hr.trans hM) (fun t ht _ => ⟨⟨none, h, rfl, q, by rw [ht]; exact hR⟩, hS.F ht⟩) hS.2.2 hd
theorem pt_out {c : Code} (het : c.exceptionTable.isEmpty = true) (pc : Nat) : ∀ x ∈ c.exceptionTable.toList, covers x pc = false := by
  intro x hx
  rw [Array.isEmpty_iff.mp het] at hx
  cases hx
theorem pt_athrow (C : pm_C g cc own) (X : pm_XT g l G M mc ms Qr Qt) {x : Nat} (hd : decode cc pc = .ok (.athrow, 1)) (h1 : kc ≤ mc) (h2 : ks ≤ ms) (q : Qt x h) : pm_G g pc lv (.ref x :: st) h kc ks := by
  obtain ⟨p, l', e, R, s, m, args, below, meth, c, Q, G', nL⟩ := g
  obtain ⟨hx, hb, hts, hown, hml, hlocks, hK, hbs, hN⟩ := C
  obtain ⟨rfl, rfl, rfl, hr, hRm, hnL, het⟩ := X
  intro H locs ls hR hS hl
  refine W.widen h1 h2 ?_
  intro T hT X'
  obtain ⟨s1, run, ended, hW, hfr⟩ := X'.athrowLeaves hx (g := F0 m pc ls ((.ref x :: st).map (pm_v G'.1))) rfl rfl rfl (pt_out het _) (a := G'.1 + x) rfl (by rw [hb]; exact hd) hlocks
  exact ⟨_, s1, .threw (G'.1 + x), run, ended, ⟨Or.inr ⟨x, h, rfl, q, by show pm_Rel G' h T.heap; rw [hT]; exact hR⟩, hS.F (t := T.setFrames (.throwing (G'.1 + x) :: below)) hT⟩, locs, ⟨hW, hfr⟩, hS.2.2⟩
end PTE
/-- a call of a method with two ends: the point behind it -/
theorem pm_backT {l : Launch} {R : Room} {p : Program} {e : Env} {below : List Frame} {s : State} {sargs : Array Value} {G : pm_Gl} {M' : pm_M} {as : List Value} {h : pm_H} {mc' ms' : Nat} {Qr : Option Value → pm_H → Prop} {Qt : Nat → pm_H → Prop} (hM : pm_Ctt l G M' as h mc' ms' Qr Qt)
    (hframes : M'.2.2.2.2.1 + 1 ≤ R.frames) (hlocals : 8 + (M'.2.2.1 + 11) + M'.2.2.2.2.2 ≤ R.locals) (hws : ∀ w ∈ pm_wsy M', ∀ (a' : Array Value) (U : State), s.WarmedH U.vm → w.before a' U = true) (hini : ∀ (a' : Array Value) (U : State), s.WarmedH U.vm → (Cond.initialized M'.1.cls).before a' U = true)
    {m : MethodId} {meth : Method} {c : Code} {U : State} {locs : List Loc} {cells slots : Nat} {f : JFrame} {ig : Instr} {mk : MethodId} {a : Array Value} (X : Stand p l e R s m sargs below meth c U locs cells slots) (hg : f.method = m) (hsize : f.locals.size = c.maxLocals) (hdg : decode c.code f.pc = .ok (ig, 3)) (hW : 2 * f.monitorRoom + (f.stack.map fun v => v.category).sum ≤ 8) (hn : U.methodNamed? M'.1 = some mk) (h4 : cells + mc' ≤ R.cells) (h5 : slots + ms' ≤ R.slots) (hp : pm_Pc G as h a U) :
    ∃ (o : Outcome) (t U' : State) (L : List Loc), Stand p l e R s m sargs below meth c U' (locs ++ L) (cells + mc') (slots + ms') ∧ (∀ q ∈ L, G.1 ≤ q.base) ∧ U'.heap = t.heap ∧ pm_Qo G Qr Qt (U.calling f mk a) o t ∧
      (∀ v, o = .returned v → Steps p.tables e below (doInvoke e (U.setTop f) [] mk a).1 (U'.setTop { f with pc := f.pc + 3, stack := v.toList ++ f.stack })) ∧ (∀ x, o = .threw x → Steps p.tables e below (doInvoke e (U.setTop f) [] mk a).1 ((U'.setTop f).pushFrame (.throwing x))) := by
  have h2 : (Cond.code M'.1 M'.2.1 M'.2.2.1 M'.2.2.2.1).before a U = true := hws _ List.mem_cons_self _ _ X.warmed
  obtain ⟨methY, cY, hmY, hcY, -, hlY, -, -, -, -⟩ := Cond.code_spec hn h2
  obtain ⟨kY, hkY, -⟩ := className_of_methodNamed hn
  have hinitY : kY.init = .initialized := Cond.initialized_spec (findClass_of_methodNamed hn) hkY (hini a U X.warmed)
  have h : At U f.method c below := by rw [hg]; exact X.here
  have happ : (headSpec (pm_wsy M') (pm_rm M' mc' ms')).appliesLoose M'.1 e.platform (U.calling f mk a) = true :=
    Spec.appliesLoose_calling (g := f) h hdg hn hkY hinitY
      (X.room_calling (g := f) (R' := pm_rm M' mc' ms') hsize hmY hcY hframes (by rw [hlY]; show _ + _ + M'.2.2.2.2.2 ≤ _; omega) h4 h5) (atoms_intro fun w hw => hws w hw _ _ X.warmed)
  obtain ⟨mid, hmid⟩ := h.above
  have hfr : (U.setTop f).frames = (.java f :: mid) ++ below := by rw [State.frames_setTop' f h.top, hmid]; rfl
  obtain ⟨o, s₂, hsteps, -, hend, hq, L, ⟨hW₂, hfe⟩, hL⟩ := Steps.callFree hM p X.admits X.cas X.clock (acts := []) hfr happ (pm_blind _ _ _ _ _ f mk hp) trivial
  rw [State.frames_setTop' f h.top] at hend
  have hq' : pm_Qo G Qr Qt (U.calling f mk a) o s₂ := hq
  have hfe' : (U.calling f mk a).sameButNew ({ s₂ with vm := (U.calling f mk a).vm } : State) L mc' ms' := hfe
  obtain ⟨e2, q2, q3, q4, q5, q6⟩ := id hfe'
  have hW' : U.WarmedH s₂.vm := hW₂
  have e3 : s₂ = ({ (U.calling f mk a).setFrames s₂.frames with heap := s₂.heap, slotsUsed := s₂.slotsUsed } : State).setVm s₂.vm := by
    have : s₂ = ({ s₂ with vm := (U.calling f mk a).vm } : State).setVm s₂.vm := rfl
    rw [e2] at this
    exact this
  obtain ⟨g₀, hg0⟩ := Option.isSome_iff_exists.mp h.top
  obtain ⟨r, hr⟩ := State.topJava?_eq_some.mp hg0
  have hr' : (({ U with heap := s₂.heap, slotsUsed := s₂.slotsUsed } : State).setVm s₂.vm).frames = .java g₀ :: r := hr
  have hsame : U.sameButNew ({ U with heap := s₂.heap, slotsUsed := s₂.slotsUsed } : State) L mc' ms' := by
    refine ⟨?_, q2, q3, q4, q5, q6⟩
    obtain ⟨t, ht, -⟩ := State.frames_cons hr
    show ({ U with heap := s₂.heap, slotsUsed := s₂.slotsUsed } : State) = { U.setFrames U.frames with heap := s₂.heap, slotsUsed := s₂.slotsUsed }
    rw [State.setFrames_self ht]
  subst hg
  refine ⟨o, s₂, ({ U with heap := s₂.heap, slotsUsed := s₂.slotsUsed } : State).setVm s₂.vm, L,
    ⟨X.admits, X.cas, X.clock, X.frames, X.room, X.hears, X.method, X.code, (X.here.setHeapUsed s₂.heap s₂.slotsUsed).setVm hW'.alike, X.tail, State.WarmedH.trans X.warmed hW', X.limits, X.bytes, X.same.trans (hsame.setVm s.vm)⟩, hL, rfl, hq', ?_, ?_⟩
  · intro v hv
    subst hv
    obtain ⟨c₂, i₂, len₂, hc₂, hd₂, hf₂⟩ := hend
    have hcc : c₂ = c := by
      have h1 : s₂.code? f.method = U.code? f.method := by
        rw [State.code?_eq, State.code?_eq, hW'.alike.method?]
      exact Option.some.inj (hc₂.symm.trans (h1.trans h.code))
    subst hcc
    have hlen : len₂ = 3 := by rw [hdg] at hd₂; cases hd₂; rfl
    subst hlen
    have hs₂ : s₂ = (({ U with heap := s₂.heap, slotsUsed := s₂.slotsUsed } : State).setVm s₂.vm).setTop { f with pc := f.pc + 3, stack := v.toList ++ f.stack } := by
      refine e3.trans ?_
      rw [hf₂, State.calling_eq h.top, State.setFrames_setFrames, State.setTop_of_frames _ hr', hr]
      rfl
    rw [← hs₂]
    exact hsteps
  · intro x hx
    subst hx
    have hf₂ : s₂.frames = .throwing x :: .java f :: U.frames.tail := hend
    have hs₂ : s₂ = ((({ U with heap := s₂.heap, slotsUsed := s₂.slotsUsed } : State).setVm s₂.vm).setTop f).pushFrame (.throwing x) := by
      refine e3.trans ?_
      rw [hf₂, State.calling_eq h.top, State.setFrames_setFrames, State.pushFrame, State.frames_setTop _ hr', State.setTop_of_frames _ hr', State.setFrames_setFrames, hr]
      rfl
    rw [← hs₂]
    exact hsteps
