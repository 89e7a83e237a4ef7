/-! new T[n][0]: the outer array, then n empty ones, each put into its place -/
def pm_oc (c : ClassId) (N a i : Nat) : Cell := arrV c N (fun j => if j < i then .ref (a + 1 + j) else .null)
def pm_ic (c : ClassId) (dv : Value) : Cell := { cls := c, slots := Array.replicate 0 dv, vm := .none }
def pm_fl (s : State) (c comp : ClassId) (N : Nat) (dv : Value) : Nat → State
  | 0 => s.pushCell (pm_oc c N s.heap.size 0)
  | i + 1 => ((pm_fl s c comp N dv i).pushCell (pm_ic comp dv)).setCell s.heap.size ((pm_oc c N s.heap.size i).setSlot i (.ref (s.heap.size + 1 + i)))
theorem pm_oc_next (c : ClassId) (N a i : Nat) : (pm_oc c N a i).setSlot i (.ref (a + 1 + i)) = pm_oc c N a (i + 1) := by
  unfold pm_oc
  rw [arrV_store]
  congr 1
  funext j
  by_cases e : j = i
  · subst e
    simp [updV]
  · by_cases h : j < i
    · simp [updV, e, h, Nat.lt_succ_of_lt h]
    · simp [updV, e, h, show ¬ j < i + 1 by omega]
theorem pm_fl_f (s : State) (c comp : ClassId) (N : Nat) (dv : Value) : ∀ i, (pm_fl s c comp N dv i).heap.size = s.heap.size + 1 + i ∧ (pm_fl s c comp N dv i).heap[s.heap.size]? = some (pm_oc c N s.heap.size i) ∧ (pm_fl s c comp N dv i).vm = s.vm ∧ (pm_fl s c comp N dv i).slotsUsed = s.slotsUsed + N
  | 0 => by
    refine ⟨size_pushCell _ _, State.heap_pushCell_size _ _, rfl, ?_⟩
    show s.slotsUsed + (pm_oc c N s.heap.size 0).slots.size = _
    rw [pm_oc, arrV_size]
  | i + 1 => by
    obtain ⟨f1, f2, f3, f4⟩ := pm_fl_f s c comp N dv i
    have hlt : s.heap.size < ((pm_fl s c comp N dv i).pushCell (pm_ic comp dv)).heap.size := by rw [size_pushCell, f1]; omega
    refine ⟨?_, ?_, f3, ?_⟩
    · show (((pm_fl s c comp N dv i).pushCell (pm_ic comp dv)).setCell _ _).heap.size = _
      rw [size_setCell, size_pushCell, f1]
      omega
    · show (((pm_fl s c comp N dv i).pushCell (pm_ic comp dv)).setCell _ _).heap[_]? = _
      rw [heapAt_setCell_self _ hlt, pm_oc_next]
    · show (pm_fl s c comp N dv i).slotsUsed + (pm_ic comp dv).slots.size = _
      rw [f4]
      simp [pm_ic]
theorem pm_fl_old (s : State) (c comp : ClassId) (N : Nat) (dv : Value) {a : Nat} (ha : a < s.heap.size) : ∀ i, (pm_fl s c comp N dv i).heap[a]? = s.heap[a]?
  | 0 => State.heap_pushCell_of_lt _ _ ha
  | i + 1 => by
    have hlt : a < (pm_fl s c comp N dv i).heap.size := by rw [(pm_fl_f s c comp N dv i).1]; omega
    show (((pm_fl s c comp N dv i).pushCell (pm_ic comp dv)).setCell _ _).heap[a]? = _
    rw [heapAt_setCell_ne _ (show s.heap.size ≠ a by omega), State.heap_pushCell_of_lt _ _ hlt]
    exact pm_fl_old s c comp N dv ha i
theorem pm_fl_top (s : State) (f : JFrame) (c comp : ClassId) (N : Nat) (dv : Value) : ∀ i, pm_fl (s.setTop f) c comp N dv i = (pm_fl s c comp N dv i).setTop f
  | 0 => rfl
  | i + 1 => by
    show ((pm_fl (s.setTop f) c comp N dv i).pushCell _).setCell _ _ = _
    rw [pm_fl_top s f c comp N dv i]
    rfl
theorem pm_fl_stand {p : Program} {l : Launch} {e : Env} {R : Room} {s : State} {m : MethodId} {args : Array Value} {below : List Frame} {meth : Method} {c : Code} {T : State} {locs : List Loc} {cells slots : Nat} (X : Stand p l e R s m args below meth c T locs cells slots) (cA comp : ClassId) (N : Nat) (dv : Value) :
    ∀ i, Stand p l e R s m args below meth c (pm_fl T cA comp N dv i) (locs ++ (List.range i).map fun j => ⟨T.heap.size, j⟩) (cells + 1 + i) (slots + N)
  | 0 => by
    have h := X.pushed (pm_oc cA N T.heap.size 0)
    rw [show (pm_oc cA N T.heap.size 0).slots.size = N from arrV_size _ _ _] at h
    simpa [pm_fl] using h
  | i + 1 => by
    have Xi := pm_fl_stand X cA comp N dv i
    obtain ⟨f1, f2, f3, f4⟩ := pm_fl_f T cA comp N dv i
    have hlt0 : T.heap.size < (pm_fl T cA comp N dv i).heap.size := by rw [f1]; omega
    have hcell : ((pm_fl T cA comp N dv i).pushCell (pm_ic comp dv)).heap[T.heap.size]? = some (pm_oc cA N T.heap.size i) := by rw [State.heap_pushCell_of_lt (h := hlt0)]; exact f2
    have h := (Xi.pushed (pm_ic comp dv)).stored hcell i (.ref (T.heap.size + 1 + i))
    have e1 : (pm_ic comp dv).slots.size = 0 := by simp [pm_ic]
    rw [e1] at h
    have e2 : (locs ++ (List.range (i + 1)).map fun j => (⟨T.heap.size, j⟩ : Loc)) = (locs ++ (List.range i).map fun j => (⟨T.heap.size, j⟩ : Loc)) ++ [⟨T.heap.size, i⟩] := by simp [List.range_succ, List.append_assoc]
    rw [e2]
    exact h
section PMW
variable {E : CtlPost} {e : Env} {d : Bool} {acts : List Action} {s : State}
theorem pm_wp_arr {c comp : ClassId} {k : Class} {ty : FieldType} {len : Nat} {x : Value} (hk : s.vm.classes[c]? = some k) (hkind : k.kind = .array comp ty) (hlim : ¬ len > e.platform.arrayLengthLimit) (hheap : ¬ len * componentBytes ty > e.platform.maxHeapBytes) (hfit : fits ty x = true) (hdef : x.isDefault = true) {Q : Addr → Pre}
    (h1 : s.heap.size < e.platform.maxCells) (h2 : s.slotsUsed + len ≤ e.platform.maxSlots) (hq : Q s.heap.size d acts (s.pushCell { cls := c, slots := Array.replicate len x, vm := .none })) : wp (Jvm.newArray c len x) Q E e d acts s := by
  have hfits : ∀ i v, (Array.replicate len x)[i]? = some v → s.fitsSlot c .none i v = true := by
    intro i v hv
    simp only [Array.getElem?_replicate] at hv
    split at hv
    · cases hv; simp [State.fitsSlot, State.slotType?, hk, hkind, hfit]
    · cases hv
  have hda : allocActs (Array.replicate len x) s.heap.size acts = acts := by
    unfold allocActs
    rw [if_pos]
    rw [Array.all_replicate]
    split <;> simp [hdef]
  simp only [Jvm.newArray, Jvm.arrayFits, wp_bind', W.ask, W.ite, hlim, if_false, wp_pure', W.theClass, hk, hkind, hheap, W.alloc, W.stop, Option.some.injEq, exists_eq_left', Array.size_replicate, hda]
  rw [if_neg (by omega)]
  exact ⟨h1, h2, hfits, hq⟩
theorem pm_rfit {t : FieldType} (h : t.isReference = true) (x : Nat) : fits t (.ref x) = true ∧ fits t .null = true := by
  cases t <;> first | exact ⟨rfl, rfl⟩ | (cases h)
theorem pm_wp_in {comp cc : ClassId} {kc : Class} {ty : FieldType} (hkc : s.vm.classes[comp]? = some kc) (hkind : kc.kind = .array cc ty) (hdf : fits ty (defaultValue ty) = true) (hdd : (defaultValue ty).isDefault = true) (h1 : s.heap.size < e.platform.maxCells) (h2 : s.slotsUsed ≤ e.platform.maxSlots)
    {Q : Addr → Pre} (hq : Q s.heap.size d acts (s.pushCell (pm_ic comp (defaultValue ty)))) : wp (multianewarray.make comp [0]) Q E e d acts s := by
  rw [multianewarray.make]
  have hm : ¬ (0 : Int32) < 0 := by decide
  simp only [wp_bind', W.ite, hm, if_false, wp_pure', W.theClass, hkc, hkind, Option.some.injEq, exists_eq_left']
  exact pm_wp_arr (len := (0 : Int32).toNatClampNeg) hkc hkind (by show ¬ 0 > _; omega) (by show ¬ 0 * _ > _; omega) hdf hdd h1 (by show s.slotsUsed + 0 ≤ _; omega) hq
theorem pm_wp_mul {c comp cc : ClassId} {k kc : Class} {t0 ty : FieldType} {n : Int32} (hk : s.vm.classes[c]? = some k) (hkind : k.kind = .array comp t0) (href : t0.isReference = true) (hkc : s.vm.classes[comp]? = some kc) (hkindc : kc.kind = .array cc ty) (hn : ¬ n < 0)
    (hl1 : ¬ n.toNatClampNeg > e.platform.arrayLengthLimit) (hh1 : ¬ n.toNatClampNeg * componentBytes t0 > e.platform.maxHeapBytes) (hdf : fits ty (defaultValue ty) = true) (hdd : (defaultValue ty).isDefault = true) (hc : s.heap.size + 1 + n.toNatClampNeg ≤ e.platform.maxCells) (hs : s.slotsUsed + n.toNatClampNeg ≤ e.platform.maxSlots)
    {Q : Addr → Pre} (hq : ∀ d' acts', Q s.heap.size d' acts' (pm_fl s c comp n.toNatClampNeg (defaultValue ty) n.toNatClampNeg)) : wp (multianewarray.make c [n, 0]) Q E e d acts s := by
  have hfind : ([(0 : Int32)].find? (· < 0)) = none := by decide
  rw [multianewarray.make]
  simp only [wp_bind', W.ite, hn, if_false, wp_pure', W.theClass, hk, hkind, Option.some.injEq, exists_eq_left']
  refine pm_wp_arr hk hkind hl1 hh1 (pm_rfit href 0).2 rfl (by omega) hs ?_
  have e0 : s.pushCell { cls := c, slots := Array.replicate n.toNatClampNeg .null, vm := .none } = pm_fl s c comp n.toNatClampNeg (defaultValue ty) 0 := by
    show _ = s.pushCell (pm_oc c n.toNatClampNeg s.heap.size 0)
    congr 1
    rw [arrV_new]
    unfold pm_oc
    congr 1
  simp only [hfind]
  rw [ite_self, wp_bind', Std.Legacy.Range.forIn_eq_forIn_range']
  have hsz : ([:n.toNatClampNeg] : Std.Legacy.Range).size = n.toNatClampNeg := by simp [Std.Legacy.Range.size]
  rw [hsz, e0]
  show wp (forIn (List.range' 0 n.toNatClampNeg 1) PUnit.unit _) _ E e d acts _
  refine wp_forIn_inv (fun rest s' => ∃ i, i ≤ n.toNatClampNeg ∧ rest = List.range' i (n.toNatClampNeg - i) ∧ s' = pm_fl s c comp n.toNatClampNeg (defaultValue ty) i) _ _ ⟨0, Nat.zero_le _, rfl, rfl⟩ ?_ ?_
  · rintro x rest s' d' acts' Q' ⟨i, hi, hl, rfl⟩ hnext
    have hlt : i < n.toNatClampNeg := by
      rcases Nat.lt_or_ge i n.toNatClampNeg with h | h
      · exact h
      · rw [show n.toNatClampNeg - i = 0 from by omega] at hl
        cases hl
    have hl2 : x = i ∧ rest = List.range' (i + 1) (n.toNatClampNeg - (i + 1)) := by
      rw [show n.toNatClampNeg - i = (n.toNatClampNeg - (i + 1)) + 1 from by omega, List.range'_succ] at hl
      exact List.cons.inj hl
    obtain ⟨rfl, hrest⟩ := hl2
    obtain ⟨f1, f2, f3, f4⟩ := pm_fl_f s c comp n.toNatClampNeg (defaultValue ty) x
    have hlt0 : s.heap.size < (pm_fl s c comp n.toNatClampNeg (defaultValue ty) x).heap.size := by rw [f1]; omega
    simp only [wp_bind']
    refine pm_wp_in (by rw [f3]; exact hkc) hkindc hdf hdd (by rw [f1]; omega) (by rw [f4]; omega) ?_
    simp only [wp_bind', W.writeLoc, wp_pure']
    refine ⟨pm_oc c n.toNatClampNeg s.heap.size x, by rw [State.heap_pushCell_of_lt (h := hlt0)]; exact f2, (by intro q; cases q), (by rw [pm_oc, arrV_size]; exact hlt), ?_, hnext _ _ _ ⟨x + 1, hlt, hrest, ?_⟩⟩
    · show State.fitsSlot _ c .none x _ = true
      simp [State.fitsSlot, State.slotType?, f3, hk, hkind, (pm_rfit href _).1]
    · rw [f1]
      rfl
  · rintro s' d' acts' ⟨i, hi, hl, rfl⟩
    have hiN : i = n.toNatClampNeg := by
      rcases Nat.lt_or_ge i n.toNatClampNeg with h | h
      · rw [show n.toNatClampNeg - i = (n.toNatClampNeg - (i + 1)) + 1 from by omega, List.range'_succ] at hl
        cases hl
      · omega
    subst hiN
    simp only [wp_pure']
    exact hq _ _
end PMW
/-- the pure heap behind i rows -/
def pm_ma (h : pm_H) (t u N : Nat) : Nat → pm_H
  | 0 => pm_new h (t + 32) N
  | i + 1 => pm_setR (pm_new (pm_ma h t u N i) (u + 32) 0) (pm_sz h) i (some (pm_sz (pm_ma h t u N i)))
theorem pm_ma_f (h : pm_H) (t u N : Nat) : ∀ i, pm_sz (pm_ma h t u N i) = pm_sz h + 1 + i ∧ pm_us (pm_ma h t u N i) = pm_us h + N ∧ pm_kd (pm_ma h t u N i) (pm_sz h) = t + 32 ∧ pm_ln (pm_ma h t u N i) (pm_sz h) = N ∧ ∀ j, pm_R (pm_ma h t u N i) (pm_sz h) j = if j < i then some (pm_sz h + 1 + j) else none
  | 0 => by
    refine ⟨rfl, ?_, pm_u1_s _ _ _, pm_u1_s _ _ _, fun j => ?_⟩
    · show pm_us (pm_new h (t + 32) N) = _
      rw [pm_us_new, if_neg (by omega)]
    · show pm_row (pm_R h) (pm_sz h) (fun _ => none) (pm_sz h) j = _
      rw [pm_row_s, if_neg (by omega)]
  | i + 1 => by
    obtain ⟨f1, f2, f3, f4, f5⟩ := pm_ma_f h t u N i
    have hne : pm_sz h ≠ pm_sz (pm_ma h t u N i) := by rw [f1]; omega
    refine ⟨?_, ?_, ?_, ?_, fun j => ?_⟩
    · show pm_sz (pm_ma h t u N i) + 1 = _
      rw [f1]; omega
    · show pm_us (pm_new (pm_ma h t u N i) (u + 32) 0) = _
      rw [pm_us_new, if_neg (by omega), f2]
      rfl
    · show pm_u1 (pm_kd (pm_ma h t u N i)) _ _ (pm_sz h) = _
      rw [pm_u1_n _ _ hne]; exact f3
    · show pm_u1 (pm_ln (pm_ma h t u N i)) _ _ (pm_sz h) = _
      rw [pm_u1_n _ _ hne]; exact f4
    · show pm_u2 (pm_R (pm_new (pm_ma h t u N i) (u + 32) 0)) (pm_sz h) i (some (pm_sz (pm_ma h t u N i))) (pm_sz h) j = _
      by_cases e : j = i
      · subst e
        rw [pm_u2_s, if_pos (by omega), f1]
      · rw [pm_u2_k _ _ e]
        have e7 : pm_R (pm_new (pm_ma h t u N i) (u + 32) 0) (pm_sz h) = pm_R (pm_ma h t u N i) (pm_sz h) := pm_row_n _ _ hne
        rw [e7, f5]
        by_cases hj : j < i
        · rw [if_pos hj, if_pos (by omega)]
        · rw [if_neg hj, if_neg (by omega)]
theorem pm_Le_ma (h : pm_H) (t u N i : Nat) : pm_Le h (pm_ma h t u N i) := by
  obtain ⟨f1, f2, -⟩ := pm_ma_f h t u N i
  exact ⟨by rw [f1]; omega, by rw [f2]; omega⟩
theorem pm_ma_rel {G : pm_Gl} {h : pm_H} {T : State} {t u N : Nat} (htu : (t = 4 ∧ u = 2) ∨ (t = 5 ∧ u = 1)) (hR : pm_Rel G h T.heap) : ∀ i, i ≤ N → pm_Rel G (pm_ma h t u N i) (pm_fl T (G.2.2 t) (G.2.2 u) N (defaultValue (pm_aty u)) i).heap
  | 0, _ => by
    show pm_Rel G (pm_new h (t + 32) N) (T.pushCell (pm_oc (G.2.2 t) N T.heap.size 0)).heap
    refine pm_rel_new hR ?_ (size_pushCell _ _) (fun x hx => State.heap_pushCell_of_lt _ _ hx)
    rw [pm_new_arr]
    show (T.pushCell (pm_oc (G.2.2 t) N T.heap.size 0)).heap[G.1 + pm_sz h]? = some (vp_cell _ _)
    rw [pm_new_cell _ _ _ (by rcases htu with ⟨rfl, rfl⟩ | ⟨rfl, rfl⟩ <;> (intro q; cases q)) (by rcases htu with ⟨rfl, rfl⟩ | ⟨rfl, rfl⟩ <;> (intro q; cases q)), ← hR.1, State.heap_pushCell_size]
    rcases htu with ⟨rfl, rfl⟩ | ⟨rfl, rfl⟩ <;> rfl
  | i + 1, hi => by
    have ih := pm_ma_rel (N := N) htu hR i (by omega)
    obtain ⟨f1, f2, f3, f4⟩ := pm_fl_f T (G.2.2 t) (G.2.2 u) N (defaultValue (pm_aty u)) i
    obtain ⟨g1, g2, g3, g4, g5⟩ := pm_ma_f h t u N i
    have hne : pm_sz h ≠ pm_sz (pm_ma h t u N i) := by rw [g1]; omega
    have hlt0 : T.heap.size < (pm_fl T (G.2.2 t) (G.2.2 u) N (defaultValue (pm_aty u)) i).heap.size := by rw [f1]; omega
    have h1 : pm_Rel G (pm_new (pm_ma h t u N i) (u + 32) 0) ((pm_fl T (G.2.2 t) (G.2.2 u) N (defaultValue (pm_aty u)) i).pushCell (pm_ic (G.2.2 u) (defaultValue (pm_aty u)))).heap := by
      refine pm_rel_new ih ?_ (size_pushCell _ _) (fun x hx => State.heap_pushCell_of_lt _ _ hx)
      rw [pm_new_arr]
      show (State.pushCell _ _).heap[G.1 + pm_sz (pm_ma h t u N i)]? = some (vp_cell _ _)
      rw [pm_new_cell _ _ _ (by rcases htu with ⟨rfl, rfl⟩ | ⟨rfl, rfl⟩ <;> (intro q; cases q)) (by rcases htu with ⟨rfl, rfl⟩ | ⟨rfl, rfl⟩ <;> (intro q; cases q)), ← ih.1, State.heap_pushCell_size]
      congr 1
    have hkd : pm_kd (pm_new (pm_ma h t u N i) (u + 32) 0) (pm_sz h) = t + 32 := (pm_u1_n _ _ hne).trans g3
    have hln : pm_ln (pm_new (pm_ma h t u N i) (u + 32) 0) (pm_sz h) = N := (pm_u1_n _ _ hne).trans g4
    have hlt : T.heap.size < ((pm_fl T (G.2.2 t) (G.2.2 u) N (defaultValue (pm_aty u)) i).pushCell (pm_ic (G.2.2 u) (defaultValue (pm_aty u)))).heap.size := by rw [size_pushCell, f1]; omega
    show pm_Rel G (pm_setR (pm_new (pm_ma h t u N i) (u + 32) 0) (pm_sz h) i (some (pm_sz (pm_ma h t u N i)))) (((pm_fl T (G.2.2 t) (G.2.2 u) N (defaultValue (pm_aty u)) i).pushCell (pm_ic (G.2.2 u) (defaultValue (pm_aty u)))).setCell T.heap.size ((pm_oc (G.2.2 t) N T.heap.size i).setSlot i (.ref (T.heap.size + 1 + i)))).heap
    refine pm_rel_arr (t := t) (a := pm_sz h) h1 hkd rfl rfl rfl (fun _ _ => rfl) (fun _ _ => rfl) (fun x hx => pm_u2_n _ _ hx) (by omega) ?_ (size_setCell _ _ _) (fun q hq => heapAt_setCell_ne _ (by rw [hR.1]; exact Ne.symm hq))
    rw [← hR.1, heapAt_setCell_self _ hlt, pm_oc_next, hln, pm_av_R (by rcases htu with ⟨rfl, rfl⟩ | ⟨rfl, rfl⟩ <;> rfl), vp_cell_q]
    congr 1
    unfold pm_oc
    congr 1
    funext j
    have e9 := (pm_ma_f h t u N (i + 1)).2.2.2.2 j
    have e8 : pm_R (pm_setR (pm_new (pm_ma h t u N i) (u + 32) 0) (pm_sz h) i (some (pm_sz (pm_ma h t u N i)))) (pm_sz h) j = if j < i + 1 then some (pm_sz h + 1 + j) else none := e9
    rw [e8]
    by_cases hj : j < i + 1
    · rw [if_pos hj, if_pos hj]
      show Value.ref (T.heap.size + 1 + j) = Value.ref (G.1 + (pm_sz h + 1 + j))
      exact congrArg Value.ref (by rw [hR.1]; simp only [Nat.add_assoc])
    · rw [if_neg hj, if_neg hj]
      rfl
def pm_ad2 : Nat → String := fun t => match t with
  | 4 => "[[I"
  | _ => "[[B"
theorem pa_mna {g : pm_Gm} {cc : ByteArray} {own : String} {pc : Nat} {lv : List (Nat × Value)} {st : List Value} {h hb h0 r2 : pm_H} {l : Launch} {G : pm_Gl} {M : pm_M} {Qr : Option Value → pm_H → Prop} (C : pm_C g cc own) (X : pm_X g l G M (pm_sz r2 - pm_sz h0) (pm_us r2 - pm_us h0) Qr) (K : pm_S3 h hb) (m : pm_Le h0 hb) {i t u : Nat} {n : Int32} {N : Nat} (hd : decode cc pc = .ok (.multianewarray i 2, 4)) (htu : (t = 4 ∧ u = 2) ∨ (t = 5 ∧ u = 1)) (w1 : Cond.classLink own i (pm_ad2 t) ∈ lw_tbl) (w2 : Cond.arrayClass (pm_aty u) ∈ lw_tbl) (hn : ¬ n < 0) (hNn : n.toNatClampNeg = N) (hb1 : N * 4 ≤ 536870912) (le : pm_Le (pm_ma h t u N N) r2)
    (kk : pm_G g (pc + 4) lv (.ref (pm_sz h) :: st) (pm_ma h t u N N) (pm_sz (pm_ma h t u N N) - pm_sz h0) (pm_us (pm_ma h t u N N) - pm_us h0)) : pm_G g pc lv (.int 0 :: .int n :: st) h (pm_sz hb - pm_sz h0) (pm_us hb - pm_us h0) := by
  obtain ⟨a1, a2, -⟩ := pm_ma_f h t u N N
  have e1 : pm_sz (pm_ma h t u N N) - pm_sz h0 = pm_sz hb - pm_sz h0 + 1 + N := by
    have q1 := K.1; have q2 := m.1
    rw [a1]
    omega
  have e2 : pm_us (pm_ma h t u N N) - pm_us h0 = pm_us hb - pm_us h0 + N := by
    have q1 := K.us; have q2 := m.2
    rw [a2]
    omega
  have c1 : pm_sz hb - pm_sz h0 + 1 + N ≤ pm_sz r2 - pm_sz h0 := by rw [← e1]; exact Nat.sub_le_sub_right le.1 _
  have c2 : pm_us hb - pm_us h0 + N ≤ pm_us r2 - pm_us h0 := by rw [← e2]; exact Nat.sub_le_sub_right le.2 _
  rw [e1, e2] at kk
  generalize pm_sz hb - pm_sz h0 = kc at kk c1 ⊢
  generalize pm_us hb - pm_us h0 = ks at kk c2 ⊢
  generalize pm_sz r2 - pm_sz h0 = mc at X c1
  generalize pm_us r2 - pm_us h0 = ms at X c2
  obtain ⟨p, l', e, R, s, m', args, below, meth, c', Q, G', nL⟩ := g
  obtain ⟨hx, hb', hts, hown, hml, hlocks, hK, hbs, hNw⟩ := C
  obtain ⟨rfl, rfl, hQ, hr, rfl, hnL⟩ := X
  intro H locs ls hR hS hl
  subst hNn
  have hover : pm_AO (.array (pm_aty u)) s := by
    rcases htu with ⟨rfl, rfl⟩ | ⟨rfl, rfl⟩
    · exact hNw.2.2.1
    · exact hNw.2.2.2.1
  have hnm : pm_ad2 t = "[" ++ (FieldType.array (pm_aty u)).toString := by
    rcases htu with ⟨rfl, rfl⟩ | ⟨rfl, rfl⟩ <;> decide +kernel
  intro T hT X
  subst hT
  have hpl : e.platform.magicAccessors = ({} : Platform).magicAccessors := by rw [X.admits.platform]
  obtain ⟨comp, cA, kA, hcomp, -, hkA, hkindA, hnameA⟩ := arrayOverA_spec (args := #[]) (first := s) (s := s) (o := none) (idx := []) hover
  obtain ⟨comp', kC, cc', hcomp', hkC, hkindC⟩ := Cond.arrayClass_spec (hts _ w2 rfl)
  have ecomp : comp' = comp := Option.some.inj (hcomp'.symm.trans hcomp)
  subst ecomp
  have eU : comp' = G'.2.2 u := by
    have q := (hK.2 u _ (pm_tys_at G'.2.2 (by omega))).2
    rcases htu with ⟨rfl, rfl⟩ | ⟨rfl, rfl⟩ <;> exact Option.some.inj (hcomp.symm.trans q)
  have eT : cA = G'.2.2 t := by
    have q := (hK.2 t _ (pm_tys_at G'.2.2 (by omega))).2
    rcases htu with ⟨rfl, rfl⟩ | ⟨rfl, rfl⟩ <;> exact Option.some.inj (hnameA.symm.trans q)
  have hclink := hts _ w1 rfl
  rw [hnm] at hclink
  obtain ⟨c0, hfc0, hcl⟩ := Cond.classLink_spec hown hclink e.platform hpl
  cases hnameA.symm.trans hfc0
  obtain ⟨hg₁, hwarm₁, hready₁⟩ := State.classEntry (e := e) X.warmed hcl
  generalize T.vm.noted m'.cls i (.cls cA) = vm₁ at hg₁ hwarm₁ hready₁
  have hal : s.vm.Alike vm₁ := hwarm₁.alike
  obtain ⟨kA₁, hkA₁, heA⟩ := hal.2.2 _ _ hkA
  obtain ⟨kC₁, hkC₁, heC⟩ := hal.2.2 _ _ hkC
  have hkindA₁ : kA₁.kind = .array comp' (.array (pm_aty u)) := by rw [heA]; exact hkindA
  have hkindC₁ : kC₁.kind = .array cc' (pm_aty u) := by rw [heC]; exact hkindC
  have X₁ := X.noted hwarm₁
  obtain ⟨hr1, hr2⟩ := X.roomAbove (a := 1 + n.toNatClampNeg) (b := n.toNatClampNeg) (by show kc + (1 + n.toNatClampNeg) ≤ mc; omega) c2
  have hdv : fits (pm_aty u) (defaultValue (pm_aty u)) = true ∧ (defaultValue (pm_aty u)).isDefault = true := by
    rcases htu with ⟨rfl, rfl⟩ | ⟨rfl, rfl⟩ <;> exact ⟨by decide, by decide⟩
  have XF := pm_fl_stand X₁ cA comp' n.toNatClampNeg (defaultValue (pm_aty u)) n.toNatClampNeg
  have hrel := pm_ma_rel (N := n.toNatClampNeg) (T := T.setVm vm₁) htu hR n.toNatClampNeg (Nat.le_refl _)
  rw [← eU, ← eT] at hrel
  have hl1 : ¬ n.toNatClampNeg > e.platform.arrayLengthLimit := by rw [Launch.admits_arrayLengthLimit X.admits]; omega
  have hh1 : ¬ n.toNatClampNeg * componentBytes (.array (pm_aty u)) > e.platform.maxHeapBytes := by
    rw [Launch.admits_maxHeapBytes X.admits]; show ¬ n.toNatClampNeg * 4 > 536870912; omega
  have hSz : T.heap.size = G'.1 + pm_sz h := hR.1
  have hS1 : va_S (fun q => G'.1 ≤ q) s.heap (pm_fl (T.setVm vm₁) cA comp' n.toNatClampNeg (defaultValue (pm_aty u)) n.toNatClampNeg).heap (locs ++ (List.range n.toNatClampNeg).map fun j => ⟨(T.setVm vm₁).heap.size, j⟩) := by
    refine ⟨Nat.le_trans hS.1 (by rw [(pm_fl_f _ _ _ _ _ _).1]; show T.heap.size ≤ T.heap.size + 1 + _; omega), fun q q1 q2 => ?_, fun q hq => ?_⟩
    · rw [pm_fl_old _ _ _ _ _ (show q < (T.setVm vm₁).heap.size from Nat.lt_of_lt_of_le q1 hS.1)]
      exact hS.2.1 q q1 q2
    · rcases List.mem_append.mp hq with h9 | h9
      · exact hS.2.2 q h9
      · obtain ⟨z, -, hz⟩ := List.mem_map.mp h9
        rw [← hz]
        show G'.1 ≤ T.heap.size
        rw [hSz]
        exact Nat.le_add_right _ _
  obtain ⟨t9, b1, b2⟩ := kk _ _ ls hrel hS1 hl _ rfl XF
  refine ⟨t9, ?_, b2⟩
  have b3 : Steps p.tables e below ((pm_fl (T.setVm vm₁) cA comp' n.toNatClampNeg (defaultValue (pm_aty u)) n.toNatClampNeg).setTop (F0 m' (pc + 4) ls (.ref T.heap.size :: st.map (pm_v G'.1)))) t9 := by
    rw [hSz]
    exact b1
  show Steps p.tables e below (T.setTop (F0 m' pc ls (.int 0 :: .int n :: st.map (pm_v G'.1)))) t9
  jvm_step X.here [hx, hb', hd]
  simp only [multianewarray.sem, wp_bind', W.resolveClassAt_links (State.method?_setTop (F0 m' pc ls (.int 0 :: .int n :: st.map (pm_v G'.1))) X.here.top) hg₁]
  rw [W.popN, if_neg (by decide)]
  refine ⟨F0 m' pc ls (.int 0 :: .int n :: st.map (pm_v G'.1)), State.topJava?_setTop' (s := T.setVm vm₁) _ X.here.top, [.int n, .int 0], st.map (pm_v G'.1), rfl, rfl, ?_⟩
  simp only [List.mapM_cons, List.mapM_nil, wp_bind', wp_pure']
  refine pm_wp_mul (k := kA₁) (kc := kC₁) (comp := comp') (cc := cc') (t0 := .array (pm_aty u)) (ty := pm_aty u) hkA₁ hkindA₁ rfl hkC₁ hkindC₁ hn hl1 hh1 hdv.1 hdv.2 (by show T.heap.size + 1 + _ ≤ _; omega) (by show T.slotsUsed + _ ≤ _; omega) (fun d' acts' => ?_)
  have eS : ((T.setTop (F0 m' pc ls (.int 0 :: .int n :: st.map (pm_v G'.1)))).setVm vm₁).setTop (F0 m' pc ls (st.map (pm_v G'.1))) = (T.setVm vm₁).setTop (F0 m' pc ls (st.map (pm_v G'.1))) := by
    show ((T.setVm vm₁).setTop _).setTop _ = _
    rw [State.setTop_setTop]
  rw [eS, pm_fl_top]
  simp only [wp_bind', W.mark, W.pushRef, State.topJava?_setTop' _ XF.here.top, Option.some.injEq, exists_eq_left', State.setTop_setTop, State.heap_setTop]
  intro acts
  simp [jvm, XF.here.top]
  exact b3
