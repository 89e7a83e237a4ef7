theorem pm_v_cat (b : Nat) (v : Value) : (pm_v b v).category = v.category := by cases v <;> rfl
theorem pm_lv_filter {b : Nat} {lv : List (Nat × Value)} (f : Nat → Nat → Bool) : pm_lv b (lv.filter (fun q => f q.1 q.2.category)) = (pm_lv b lv).filter (fun q => f q.1 q.2.category) := by
  unfold pm_lv
  rw [List.filter_map]
  congr 1
  apply List.filter_congr
  intro q _
  simp only [Function.comp, pm_v_cat]
theorem pm_look {ls : Array Slot} {nL b : Nat} {lv : List (Nat × Value)} (h : lv_has ls nL (pm_lv b lv)) {i : Nat} {v : Value} (hv : lv.lookup i = some v) : ls[i]? = some (.val (pm_v b v)) := by
  have hm : ∀ {l : List (Nat × Value)}, l.lookup i = some v → (i, v) ∈ l := by
    intro l
    induction l with
    | nil => intro h; cases h
    | cons q t ih =>
      intro h
      obtain ⟨j, w⟩ := q
      by_cases e : i = j
      · subst e
        simp [List.lookup] at h
        subst h
        exact List.mem_cons_self
      · have : (i == j) = false := by simpa using e
        simp only [List.lookup, this] at h
        exact List.mem_cons_of_mem _ (ih h)
  exact h.2.2 (i, pm_v b v) (List.mem_map.mpr ⟨(i, v), hm hv, rfl⟩)
theorem pm_mem {lv : List (Nat × Value)} {i : Nat} {v : Value} (hv : lv.lookup i = some v) (b : Nat) : ∃ k : Nat, (pm_lv b lv)[k]? = some (i, pm_v b v) := by
  induction lv with
  | nil => cases hv
  | cons q t ih =>
    obtain ⟨j, w⟩ := q
    by_cases e : i = j
    · subst e
      simp [List.lookup] at hv
      subst hv
      exact ⟨0, rfl⟩
    · have : (i == j) = false := by simpa using e
      simp only [List.lookup, this] at hv
      obtain ⟨k, hk⟩ := ih hv
      exact ⟨k + 1, hk⟩
section PMR
variable {g : pm_Gm} {cc : ByteArray} {own : String} {pc : Nat} {lv : List (Nat × Value)} {st : List Value} {h : pm_H} {kc ks : Nat}
theorem pm_iconst (C : pm_C g cc own) {n : Int} {v : Int32} (hd : decode cc pc = .ok (.iconst n, 1)) (hv : Int32.ofInt n = v) (k : pm_G g (pc + 1) lv (.int v :: st) h kc ks) : pm_G g pc lv (st) h kc ks := by
  obtain ⟨p, l, e, R, s, m, args, below, meth, c, Q, G, nL⟩ := g
  obtain ⟨hx, hb, hts, hown, hml, hlocks, hK, hbs, hN⟩ := C
  intro H locs ls hR hS hl
  exact lv_iconst hx hb hd hv (k H locs ls hR hS hl)
theorem pm_bipush (C : pm_C g cc own) {n : Int} {v : Int32} (hd : decode cc pc = .ok (.bipush n, 2)) (hv : (Int8.ofInt n).toInt32 = v) (k : pm_G g (pc + 2) lv (.int v :: st) h kc ks) : pm_G g pc lv (st) h kc ks := by
  obtain ⟨p, l, e, R, s, m, args, below, meth, c, Q, G, nL⟩ := g
  obtain ⟨hx, hb, hts, hown, hml, hlocks, hK, hbs, hN⟩ := C
  intro H locs ls hR hS hl
  exact lv_bipush hx hb hd hv (k H locs ls hR hS hl)
theorem pm_sipush (C : pm_C g cc own) {n : Int} {v : Int32} (hd : decode cc pc = .ok (.sipush n, 3)) (hv : (Int16.ofInt n).toInt32 = v) (k : pm_G g (pc + 3) lv (.int v :: st) h kc ks) : pm_G g pc lv (st) h kc ks := by
  obtain ⟨p, l, e, R, s, m, args, below, meth, c, Q, G, nL⟩ := g
  obtain ⟨hx, hb, hts, hown, hml, hlocks, hK, hbs, hN⟩ := C
  intro H locs ls hR hS hl
  exact lv_sipush hx hb hd hv (k H locs ls hR hS hl)
theorem pm_lconst (C : pm_C g cc own) {n : Fin 2} {v : Int64} (hd : decode cc pc = .ok (.lconst n, 1)) (hv : Int64.ofNat (n : Nat) = v) (k : pm_G g (pc + 1) lv (.long v :: st) h kc ks) : pm_G g pc lv (st) h kc ks := by
  obtain ⟨p, l, e, R, s, m, args, below, meth, c, Q, G, nL⟩ := g
  obtain ⟨hx, hb, hts, hown, hml, hlocks, hK, hbs, hN⟩ := C
  intro H locs ls hR hS hl
  exact lv_lconst hx hb hd hv (k H locs ls hR hS hl)
theorem pm_null (C : pm_C g cc own) (hd : decode cc pc = .ok (.aconst_null, 1)) (k : pm_G g (pc + 1) lv (.null :: st) h kc ks) : pm_G g pc lv (st) h kc ks := by
  obtain ⟨p, l, e, R, s, m, args, below, meth, c, Q, G, nL⟩ := g
  obtain ⟨hx, hb, hts, hown, hml, hlocks, hK, hbs, hN⟩ := C
  intro H locs ls hR hS hl
  exact lv_null hx hb hd (k H locs ls hR hS hl)
theorem pm_ldc (C : pm_C g cc own) {i : Nat} {v : Int32} (hd : decode cc pc = .ok (.ldc i, 2)) (hw : Cond.constant own i v ∈ lw_tbl) (k : pm_G g (pc + 2) lv (.int v :: st) h kc ks) : pm_G g pc lv (st) h kc ks := by
  obtain ⟨p, l, e, R, s, m, args, below, meth, c, Q, G, nL⟩ := g
  obtain ⟨hx, hb, hts, hown, hml, hlocks, hK, hbs, hN⟩ := C
  intro H locs ls hR hS hl
  exact lv_ldc hx hb hown (hts _ hw rfl) hd (k H locs ls hR hS hl)
theorem pm_ldcw (C : pm_C g cc own) {i : Nat} {v : Int32} (hd : decode cc pc = .ok (.ldc_w i, 3)) (hw : Cond.constant own i v ∈ lw_tbl) (k : pm_G g (pc + 3) lv (.int v :: st) h kc ks) : pm_G g pc lv (st) h kc ks := by
  obtain ⟨p, l, e, R, s, m, args, below, meth, c, Q, G, nL⟩ := g
  obtain ⟨hx, hb, hts, hown, hml, hlocks, hK, hbs, hN⟩ := C
  intro H locs ls hR hS hl
  exact lv_ldcw hx hb hown (hts _ hw rfl) hd (k H locs ls hR hS hl)
theorem pm_ldc2 (C : pm_C g cc own) {i : Nat} {v : Int64} (hd : decode cc pc = .ok (.ldc2_w i, 3)) (hw : Cond.constantLong own i v ∈ lw_tbl) (k : pm_G g (pc + 3) lv (.long v :: st) h kc ks) : pm_G g pc lv (st) h kc ks := by
  obtain ⟨p, l, e, R, s, m, args, below, meth, c, Q, G, nL⟩ := g
  obtain ⟨hx, hb, hts, hown, hml, hlocks, hK, hbs, hN⟩ := C
  intro H locs ls hR hS hl
  exact lv_ldc2 hx hb hown (hts _ hw rfl) hd (k H locs ls hR hS hl)
theorem pm_iload_n (C : pm_C g cc own) {q : Fin 4} {i : Nat} {x : Int32} (hd : decode cc pc = .ok (.iload_n q, 1)) (hi : (q : Nat) = i) (hv : lv.lookup i = some (.int x)) (k : pm_G g (pc + 1) lv (.int x :: st) h kc ks) : pm_G g pc lv (st) h kc ks := by
  obtain ⟨p, l, e, R, s, m, args, below, meth, c, Q, G, nL⟩ := g
  obtain ⟨hx, hb, hts, hown, hml, hlocks, hK, hbs, hN⟩ := C
  intro H locs ls hR hS hl
  exact lv_iload_n hx hb hd hi (pm_look hl hv) (k H locs ls hR hS hl)
theorem pm_iload (C : pm_C g cc own) {i : Nat} {x : Int32} (hd : decode cc pc = .ok (.iload i, 2)) (hv : lv.lookup i = some (.int x)) (k : pm_G g (pc + 2) lv (.int x :: st) h kc ks) : pm_G g pc lv (st) h kc ks := by
  obtain ⟨p, l, e, R, s, m, args, below, meth, c, Q, G, nL⟩ := g
  obtain ⟨hx, hb, hts, hown, hml, hlocks, hK, hbs, hN⟩ := C
  intro H locs ls hR hS hl
  exact lv_iload hx hb hd (pm_look hl hv) (k H locs ls hR hS hl)
theorem pm_lload_n (C : pm_C g cc own) {q : Fin 4} {i : Nat} {x : Int64} (hd : decode cc pc = .ok (.lload_n q, 1)) (hi : (q : Nat) = i) (hv : lv.lookup i = some (.long x)) (k : pm_G g (pc + 1) lv (.long x :: st) h kc ks) : pm_G g pc lv (st) h kc ks := by
  obtain ⟨p, l, e, R, s, m, args, below, meth, c, Q, G, nL⟩ := g
  obtain ⟨hx, hb, hts, hown, hml, hlocks, hK, hbs, hN⟩ := C
  intro H locs ls hR hS hl
  exact lv_lload_n hx hb hd hi (pm_look hl hv) (k H locs ls hR hS hl)
theorem pm_lload (C : pm_C g cc own) {i : Nat} {x : Int64} (hd : decode cc pc = .ok (.lload i, 2)) (hv : lv.lookup i = some (.long x)) (k : pm_G g (pc + 2) lv (.long x :: st) h kc ks) : pm_G g pc lv (st) h kc ks := by
  obtain ⟨p, l, e, R, s, m, args, below, meth, c, Q, G, nL⟩ := g
  obtain ⟨hx, hb, hts, hown, hml, hlocks, hK, hbs, hN⟩ := C
  intro H locs ls hR hS hl
  exact lv_lload hx hb hd (pm_look hl hv) (k H locs ls hR hS hl)
theorem pm_aload_n (C : pm_C g cc own) {q : Fin 4} {i : Nat} {x : Nat} (hd : decode cc pc = .ok (.aload_n q, 1)) (hi : (q : Nat) = i) (hv : lv.lookup i = some (.ref x)) (k : pm_G g (pc + 1) lv (.ref x :: st) h kc ks) : pm_G g pc lv (st) h kc ks := by
  obtain ⟨p, l, e, R, s, m, args, below, meth, c, Q, G, nL⟩ := g
  obtain ⟨hx, hb, hts, hown, hml, hlocks, hK, hbs, hN⟩ := C
  intro H locs ls hR hS hl
  exact lv_aload_n hx hb hd hi (pm_look hl hv) (k H locs ls hR hS hl)
theorem pm_aload (C : pm_C g cc own) {i : Nat} {x : Nat} (hd : decode cc pc = .ok (.aload i, 2)) (hv : lv.lookup i = some (.ref x)) (k : pm_G g (pc + 2) lv (.ref x :: st) h kc ks) : pm_G g pc lv (st) h kc ks := by
  obtain ⟨p, l, e, R, s, m, args, below, meth, c, Q, G, nL⟩ := g
  obtain ⟨hx, hb, hts, hown, hml, hlocks, hK, hbs, hN⟩ := C
  intro H locs ls hR hS hl
  exact lv_aload hx hb hd (pm_look hl hv) (k H locs ls hR hS hl)
theorem pm_aload_nN (C : pm_C g cc own) {q : Fin 4} {i : Nat} (hd : decode cc pc = .ok (.aload_n q, 1)) (hi : (q : Nat) = i) (hv : lv.lookup i = some .null) (k : pm_G g (pc + 1) lv (.null :: st) h kc ks) : pm_G g pc lv (st) h kc ks := by
  obtain ⟨p, l, e, R, s, m, args, below, meth, c, Q, G, nL⟩ := g
  obtain ⟨hx, hb, hts, hown, hml, hlocks, hK, hbs, hN⟩ := C
  intro H locs ls hR hS hl
  exact lv_aload_nN hx hb hd hi (pm_look hl hv) (k H locs ls hR hS hl)
theorem pm_aloadN (C : pm_C g cc own) {i : Nat} (hd : decode cc pc = .ok (.aload i, 2)) (hv : lv.lookup i = some .null) (k : pm_G g (pc + 2) lv (.null :: st) h kc ks) : pm_G g pc lv (st) h kc ks := by
  obtain ⟨p, l, e, R, s, m, args, below, meth, c, Q, G, nL⟩ := g
  obtain ⟨hx, hb, hts, hown, hml, hlocks, hK, hbs, hN⟩ := C
  intro H locs ls hR hS hl
  exact lv_aloadN hx hb hd (pm_look hl hv) (k H locs ls hR hS hl)
theorem pm_istore_n (C : pm_C g cc own) {q : Fin 4} {i : Nat} {x : Int32} {lv' : List (Nat × Value)} (hd : decode cc pc = .ok (.istore_n q, 1)) (hi : (q : Nat) = i) (hn : i < g.2.2.2.2.2.2.2.2.2.2.2.2) (hv : (i, Value.int x) :: lv.filter (fun q => !(q.1 == i) && !(q.1 + 1 == i && q.2.category == 2)) = lv') (k : pm_G g (pc + 1) lv' st h kc ks) : pm_G g pc lv (.int x :: st) h kc ks := by
  obtain ⟨p, l, e, R, s, m, args, below, meth, c, Q, G, nL⟩ := g
  obtain ⟨hx, hb, hts, hown, hml, hlocks, hK, hbs, hN⟩ := C
  intro H locs ls hR hS hl
  refine lv_istore_n (lv' := pm_lv G.1 lv') hx hb hd hi hl hn ?_ (fun ls' hl' => k H locs ls' hR hS hl')
  rw [← hv]
  show _ = (i, _) :: pm_lv G.1 (lv.filter _)
  rw [pm_lv_filter (fun a c => !(a == i) && !(a + 1 == i && c == 2))]
  rfl
theorem pm_istore (C : pm_C g cc own) {i : Nat} {x : Int32} {lv' : List (Nat × Value)} (hd : decode cc pc = .ok (.istore i, 2)) (hn : i < g.2.2.2.2.2.2.2.2.2.2.2.2) (hv : (i, Value.int x) :: lv.filter (fun q => !(q.1 == i) && !(q.1 + 1 == i && q.2.category == 2)) = lv') (k : pm_G g (pc + 2) lv' st h kc ks) : pm_G g pc lv (.int x :: st) h kc ks := by
  obtain ⟨p, l, e, R, s, m, args, below, meth, c, Q, G, nL⟩ := g
  obtain ⟨hx, hb, hts, hown, hml, hlocks, hK, hbs, hN⟩ := C
  intro H locs ls hR hS hl
  refine lv_istore (lv' := pm_lv G.1 lv') hx hb hd hl hn ?_ (fun ls' hl' => k H locs ls' hR hS hl')
  rw [← hv]
  show _ = (i, _) :: pm_lv G.1 (lv.filter _)
  rw [pm_lv_filter (fun a c => !(a == i) && !(a + 1 == i && c == 2))]
  rfl
theorem pm_lstore_n (C : pm_C g cc own) {q : Fin 4} {i : Nat} {x : Int64} {lv' : List (Nat × Value)} (hd : decode cc pc = .ok (.lstore_n q, 1)) (hi : (q : Nat) = i) (hn : i + 1 < g.2.2.2.2.2.2.2.2.2.2.2.2) (hv : (i, Value.long x) :: lv.filter (fun q => !(q.1 == i) && (!(q.1 == i + 1) && !(q.1 + 1 == i && q.2.category == 2))) = lv') (k : pm_G g (pc + 1) lv' st h kc ks) : pm_G g pc lv (.long x :: st) h kc ks := by
  obtain ⟨p, l, e, R, s, m, args, below, meth, c, Q, G, nL⟩ := g
  obtain ⟨hx, hb, hts, hown, hml, hlocks, hK, hbs, hN⟩ := C
  intro H locs ls hR hS hl
  refine lv_lstore_n (lv' := pm_lv G.1 lv') hx hb hd hi hl hn ?_ (fun ls' hl' => k H locs ls' hR hS hl')
  rw [← hv]
  show _ = (i, _) :: pm_lv G.1 (lv.filter _)
  rw [pm_lv_filter (fun a c => !(a == i) && (!(a == i + 1) && !(a + 1 == i && c == 2)))]
  rfl
theorem pm_lstore (C : pm_C g cc own) {i : Nat} {x : Int64} {lv' : List (Nat × Value)} (hd : decode cc pc = .ok (.lstore i, 2)) (hn : i + 1 < g.2.2.2.2.2.2.2.2.2.2.2.2) (hv : (i, Value.long x) :: lv.filter (fun q => !(q.1 == i) && (!(q.1 == i + 1) && !(q.1 + 1 == i && q.2.category == 2))) = lv') (k : pm_G g (pc + 2) lv' st h kc ks) : pm_G g pc lv (.long x :: st) h kc ks := by
  obtain ⟨p, l, e, R, s, m, args, below, meth, c, Q, G, nL⟩ := g
  obtain ⟨hx, hb, hts, hown, hml, hlocks, hK, hbs, hN⟩ := C
  intro H locs ls hR hS hl
  refine lv_lstore (lv' := pm_lv G.1 lv') hx hb hd hl hn ?_ (fun ls' hl' => k H locs ls' hR hS hl')
  rw [← hv]
  show _ = (i, _) :: pm_lv G.1 (lv.filter _)
  rw [pm_lv_filter (fun a c => !(a == i) && (!(a == i + 1) && !(a + 1 == i && c == 2)))]
  rfl
theorem pm_astore_n (C : pm_C g cc own) {q : Fin 4} {i : Nat} {x : Nat} {lv' : List (Nat × Value)} (hd : decode cc pc = .ok (.astore_n q, 1)) (hi : (q : Nat) = i) (hn : i < g.2.2.2.2.2.2.2.2.2.2.2.2) (hv : (i, Value.ref x) :: lv.filter (fun q => !(q.1 == i) && !(q.1 + 1 == i && q.2.category == 2)) = lv') (k : pm_G g (pc + 1) lv' st h kc ks) : pm_G g pc lv (.ref x :: st) h kc ks := by
  obtain ⟨p, l, e, R, s, m, args, below, meth, c, Q, G, nL⟩ := g
  obtain ⟨hx, hb, hts, hown, hml, hlocks, hK, hbs, hN⟩ := C
  intro H locs ls hR hS hl
  refine lv_astore_n (lv' := pm_lv G.1 lv') hx hb hd hi hl hn ?_ (fun ls' hl' => k H locs ls' hR hS hl')
  rw [← hv]
  show _ = (i, _) :: pm_lv G.1 (lv.filter _)
  rw [pm_lv_filter (fun a c => !(a == i) && !(a + 1 == i && c == 2))]
  rfl
theorem pm_astore (C : pm_C g cc own) {i : Nat} {x : Nat} {lv' : List (Nat × Value)} (hd : decode cc pc = .ok (.astore i, 2)) (hn : i < g.2.2.2.2.2.2.2.2.2.2.2.2) (hv : (i, Value.ref x) :: lv.filter (fun q => !(q.1 == i) && !(q.1 + 1 == i && q.2.category == 2)) = lv') (k : pm_G g (pc + 2) lv' st h kc ks) : pm_G g pc lv (.ref x :: st) h kc ks := by
  obtain ⟨p, l, e, R, s, m, args, below, meth, c, Q, G, nL⟩ := g
  obtain ⟨hx, hb, hts, hown, hml, hlocks, hK, hbs, hN⟩ := C
  intro H locs ls hR hS hl
  refine lv_astore (lv' := pm_lv G.1 lv') hx hb hd hl hn ?_ (fun ls' hl' => k H locs ls' hR hS hl')
  rw [← hv]
  show _ = (i, _) :: pm_lv G.1 (lv.filter _)
  rw [pm_lv_filter (fun a c => !(a == i) && !(a + 1 == i && c == 2))]
  rfl
theorem pm_iinc (C : pm_C g cc own) {i : Nat} {n : Int} {x v : Int32} {lv' : List (Nat × Value)} (hd : decode cc pc = .ok (.iinc i n, 3)) (hq : lv.lookup i = some (.int x)) (hw : x + Int32.ofInt n = v) (hn : i < g.2.2.2.2.2.2.2.2.2.2.2.2) (hv : (i, Value.int v) :: lv.filter (fun q => !(q.1 == i) && !(q.1 + 1 == i && q.2.category == 2)) = lv') (k : pm_G g (pc + 3) lv' st h kc ks) : pm_G g pc lv st h kc ks := by
  obtain ⟨p, l, e, R, s, m, args, below, meth, c, Q, G, nL⟩ := g
  obtain ⟨hx, hb, hts, hown, hml, hlocks, hK, hbs, hN⟩ := C
  intro H locs ls hR hS hl
  obtain ⟨k0, hk0⟩ := pm_mem hq G.1
  refine lv_iinc (lv' := pm_lv G.1 lv') hx hb hd hl hk0 hw hn ?_ (fun ls' hl' => k H locs ls' hR hS hl')
  rw [← hv]
  show _ = (i, _) :: pm_lv G.1 (lv.filter _)
  rw [pm_lv_filter (fun a c => !(a == i) && !(a + 1 == i && c == 2))]
  rfl
theorem pm_iadd (C : pm_C g cc own) {x y : Int32} (hd : decode cc pc = .ok (.iadd, 1)) (k : pm_G g (pc + 1) lv (.int (x + y) :: st) h kc ks) : pm_G g pc lv (.int y :: .int x :: st) h kc ks := by
  obtain ⟨p, l, e, R, s, m, args, below, meth, c, Q, G, nL⟩ := g
  obtain ⟨hx, hb, hts, hown, hml, hlocks, hK, hbs, hN⟩ := C
  intro H locs ls hR hS hl
  exact lv_iadd hx hb hd (k H locs ls hR hS hl)
theorem pm_isub (C : pm_C g cc own) {x y : Int32} (hd : decode cc pc = .ok (.isub, 1)) (k : pm_G g (pc + 1) lv (.int (x - y) :: st) h kc ks) : pm_G g pc lv (.int y :: .int x :: st) h kc ks := by
  obtain ⟨p, l, e, R, s, m, args, below, meth, c, Q, G, nL⟩ := g
  obtain ⟨hx, hb, hts, hown, hml, hlocks, hK, hbs, hN⟩ := C
  intro H locs ls hR hS hl
  exact lv_isub hx hb hd (k H locs ls hR hS hl)
theorem pm_imul (C : pm_C g cc own) {x y : Int32} (hd : decode cc pc = .ok (.imul, 1)) (k : pm_G g (pc + 1) lv (.int (x * y) :: st) h kc ks) : pm_G g pc lv (.int y :: .int x :: st) h kc ks := by
  obtain ⟨p, l, e, R, s, m, args, below, meth, c, Q, G, nL⟩ := g
  obtain ⟨hx, hb, hts, hown, hml, hlocks, hK, hbs, hN⟩ := C
  intro H locs ls hR hS hl
  exact lv_imul hx hb hd (k H locs ls hR hS hl)
theorem pm_iand (C : pm_C g cc own) {x y : Int32} (hd : decode cc pc = .ok (.iand, 1)) (k : pm_G g (pc + 1) lv (.int (x &&& y) :: st) h kc ks) : pm_G g pc lv (.int y :: .int x :: st) h kc ks := by
  obtain ⟨p, l, e, R, s, m, args, below, meth, c, Q, G, nL⟩ := g
  obtain ⟨hx, hb, hts, hown, hml, hlocks, hK, hbs, hN⟩ := C
  intro H locs ls hR hS hl
  exact lv_iand hx hb hd (k H locs ls hR hS hl)
theorem pm_ior (C : pm_C g cc own) {x y : Int32} (hd : decode cc pc = .ok (.ior, 1)) (k : pm_G g (pc + 1) lv (.int (x ||| y) :: st) h kc ks) : pm_G g pc lv (.int y :: .int x :: st) h kc ks := by
  obtain ⟨p, l, e, R, s, m, args, below, meth, c, Q, G, nL⟩ := g
  obtain ⟨hx, hb, hts, hown, hml, hlocks, hK, hbs, hN⟩ := C
  intro H locs ls hR hS hl
  exact lv_ior hx hb hd (k H locs ls hR hS hl)
theorem pm_ixor (C : pm_C g cc own) {x y : Int32} (hd : decode cc pc = .ok (.ixor, 1)) (k : pm_G g (pc + 1) lv (.int (x ^^^ y) :: st) h kc ks) : pm_G g pc lv (.int y :: .int x :: st) h kc ks := by
  obtain ⟨p, l, e, R, s, m, args, below, meth, c, Q, G, nL⟩ := g
  obtain ⟨hx, hb, hts, hown, hml, hlocks, hK, hbs, hN⟩ := C
  intro H locs ls hR hS hl
  exact lv_ixor hx hb hd (k H locs ls hR hS hl)
theorem pm_ladd (C : pm_C g cc own) {x y : Int64} (hd : decode cc pc = .ok (.ladd, 1)) (k : pm_G g (pc + 1) lv (.long (x + y) :: st) h kc ks) : pm_G g pc lv (.long y :: .long x :: st) h kc ks := by
  obtain ⟨p, l, e, R, s, m, args, below, meth, c, Q, G, nL⟩ := g
  obtain ⟨hx, hb, hts, hown, hml, hlocks, hK, hbs, hN⟩ := C
  intro H locs ls hR hS hl
  exact lv_ladd hx hb hd (k H locs ls hR hS hl)
theorem pm_lsub (C : pm_C g cc own) {x y : Int64} (hd : decode cc pc = .ok (.lsub, 1)) (k : pm_G g (pc + 1) lv (.long (x - y) :: st) h kc ks) : pm_G g pc lv (.long y :: .long x :: st) h kc ks := by
  obtain ⟨p, l, e, R, s, m, args, below, meth, c, Q, G, nL⟩ := g
  obtain ⟨hx, hb, hts, hown, hml, hlocks, hK, hbs, hN⟩ := C
  intro H locs ls hR hS hl
  exact lv_lsub hx hb hd (k H locs ls hR hS hl)
theorem pm_lmul (C : pm_C g cc own) {x y : Int64} (hd : decode cc pc = .ok (.lmul, 1)) (k : pm_G g (pc + 1) lv (.long (x * y) :: st) h kc ks) : pm_G g pc lv (.long y :: .long x :: st) h kc ks := by
  obtain ⟨p, l, e, R, s, m, args, below, meth, c, Q, G, nL⟩ := g
  obtain ⟨hx, hb, hts, hown, hml, hlocks, hK, hbs, hN⟩ := C
  intro H locs ls hR hS hl
  exact lv_lmul hx hb hd (k H locs ls hR hS hl)
theorem pm_land (C : pm_C g cc own) {x y : Int64} (hd : decode cc pc = .ok (.land, 1)) (k : pm_G g (pc + 1) lv (.long (x &&& y) :: st) h kc ks) : pm_G g pc lv (.long y :: .long x :: st) h kc ks := by
  obtain ⟨p, l, e, R, s, m, args, below, meth, c, Q, G, nL⟩ := g
  obtain ⟨hx, hb, hts, hown, hml, hlocks, hK, hbs, hN⟩ := C
  intro H locs ls hR hS hl
  exact lv_land hx hb hd (k H locs ls hR hS hl)
theorem pm_lor (C : pm_C g cc own) {x y : Int64} (hd : decode cc pc = .ok (.lor, 1)) (k : pm_G g (pc + 1) lv (.long (x ||| y) :: st) h kc ks) : pm_G g pc lv (.long y :: .long x :: st) h kc ks := by
  obtain ⟨p, l, e, R, s, m, args, below, meth, c, Q, G, nL⟩ := g
  obtain ⟨hx, hb, hts, hown, hml, hlocks, hK, hbs, hN⟩ := C
  intro H locs ls hR hS hl
  exact lv_lor hx hb hd (k H locs ls hR hS hl)
theorem pm_lxor (C : pm_C g cc own) {x y : Int64} (hd : decode cc pc = .ok (.lxor, 1)) (k : pm_G g (pc + 1) lv (.long (x ^^^ y) :: st) h kc ks) : pm_G g pc lv (.long y :: .long x :: st) h kc ks := by
  obtain ⟨p, l, e, R, s, m, args, below, meth, c, Q, G, nL⟩ := g
  obtain ⟨hx, hb, hts, hown, hml, hlocks, hK, hbs, hN⟩ := C
  intro H locs ls hR hS hl
  exact lv_lxor hx hb hd (k H locs ls hR hS hl)
theorem pm_idiv (C : pm_C g cc own) {x y : Int32} (hd : decode cc pc = .ok (.idiv, 1)) (hne : ¬ y = 0) (k : pm_G g (pc + 1) lv (.int (x / y) :: st) h kc ks) : pm_G g pc lv (.int y :: .int x :: st) h kc ks := by
  obtain ⟨p, l, e, R, s, m, args, below, meth, c, Q, G, nL⟩ := g
  obtain ⟨hx, hb, hts, hown, hml, hlocks, hK, hbs, hN⟩ := C
  intro H locs ls hR hS hl
  exact lv_idiv hx hb hd hne (k H locs ls hR hS hl)
theorem pm_irem (C : pm_C g cc own) {x y : Int32} (hd : decode cc pc = .ok (.irem, 1)) (hne : ¬ y = 0) (k : pm_G g (pc + 1) lv (.int (x - x / y * y) :: st) h kc ks) : pm_G g pc lv (.int y :: .int x :: st) h kc ks := by
  obtain ⟨p, l, e, R, s, m, args, below, meth, c, Q, G, nL⟩ := g
  obtain ⟨hx, hb, hts, hown, hml, hlocks, hK, hbs, hN⟩ := C
  intro H locs ls hR hS hl
  exact lv_irem hx hb hd hne (k H locs ls hR hS hl)
theorem pm_ldiv (C : pm_C g cc own) {x y : Int64} (hd : decode cc pc = .ok (.ldiv, 1)) (hne : ¬ y = 0) (k : pm_G g (pc + 1) lv (.long (x / y) :: st) h kc ks) : pm_G g pc lv (.long y :: .long x :: st) h kc ks := by
  obtain ⟨p, l, e, R, s, m, args, below, meth, c, Q, G, nL⟩ := g
  obtain ⟨hx, hb, hts, hown, hml, hlocks, hK, hbs, hN⟩ := C
  intro H locs ls hR hS hl
  exact lv_ldiv hx hb hd hne (k H locs ls hR hS hl)
theorem pm_lrem (C : pm_C g cc own) {x y : Int64} (hd : decode cc pc = .ok (.lrem, 1)) (hne : ¬ y = 0) (k : pm_G g (pc + 1) lv (.long (x - x / y * y) :: st) h kc ks) : pm_G g pc lv (.long y :: .long x :: st) h kc ks := by
  obtain ⟨p, l, e, R, s, m, args, below, meth, c, Q, G, nL⟩ := g
  obtain ⟨hx, hb, hts, hown, hml, hlocks, hK, hbs, hN⟩ := C
  intro H locs ls hR hS hl
  exact lv_lrem hx hb hd hne (k H locs ls hR hS hl)
theorem pm_ineg (C : pm_C g cc own) {x : Int32} (hd : decode cc pc = .ok (.ineg, 1)) (k : pm_G g (pc + 1) lv (.int (-x) :: st) h kc ks) : pm_G g pc lv (.int x :: st) h kc ks := by
  obtain ⟨p, l, e, R, s, m, args, below, meth, c, Q, G, nL⟩ := g
  obtain ⟨hx, hb, hts, hown, hml, hlocks, hK, hbs, hN⟩ := C
  intro H locs ls hR hS hl
  exact lv_ineg hx hb hd (k H locs ls hR hS hl)
theorem pm_lneg (C : pm_C g cc own) {x : Int64} (hd : decode cc pc = .ok (.lneg, 1)) (k : pm_G g (pc + 1) lv (.long (-x) :: st) h kc ks) : pm_G g pc lv (.long x :: st) h kc ks := by
  obtain ⟨p, l, e, R, s, m, args, below, meth, c, Q, G, nL⟩ := g
  obtain ⟨hx, hb, hts, hown, hml, hlocks, hK, hbs, hN⟩ := C
  intro H locs ls hR hS hl
  exact lv_lneg hx hb hd (k H locs ls hR hS hl)
theorem pm_ishl (C : pm_C g cc own) {x y : Int32} (hd : decode cc pc = .ok (.ishl, 1)) (k : pm_G g (pc + 1) lv (.int (x <<< (y &&& 31)) :: st) h kc ks) : pm_G g pc lv (.int y :: .int x :: st) h kc ks := by
  obtain ⟨p, l, e, R, s, m, args, below, meth, c, Q, G, nL⟩ := g
  obtain ⟨hx, hb, hts, hown, hml, hlocks, hK, hbs, hN⟩ := C
  intro H locs ls hR hS hl
  exact lv_ishl hx hb hd (k H locs ls hR hS hl)
theorem pm_ishr (C : pm_C g cc own) {x y : Int32} (hd : decode cc pc = .ok (.ishr, 1)) (k : pm_G g (pc + 1) lv (.int (x >>> (y &&& 31)) :: st) h kc ks) : pm_G g pc lv (.int y :: .int x :: st) h kc ks := by
  obtain ⟨p, l, e, R, s, m, args, below, meth, c, Q, G, nL⟩ := g
  obtain ⟨hx, hb, hts, hown, hml, hlocks, hK, hbs, hN⟩ := C
  intro H locs ls hR hS hl
  exact lv_ishr hx hb hd (k H locs ls hR hS hl)
theorem pm_iushr (C : pm_C g cc own) {x y : Int32} (hd : decode cc pc = .ok (.iushr, 1)) (k : pm_G g (pc + 1) lv (.int ((x.toUInt32 >>> (y.toUInt32 &&& Int32.toUInt32 31)).toInt32) :: st) h kc ks) : pm_G g pc lv (.int y :: .int x :: st) h kc ks := by
  obtain ⟨p, l, e, R, s, m, args, below, meth, c, Q, G, nL⟩ := g
  obtain ⟨hx, hb, hts, hown, hml, hlocks, hK, hbs, hN⟩ := C
  intro H locs ls hR hS hl
  exact lv_iushr hx hb hd rfl (k H locs ls hR hS hl)
theorem pm_lushr (C : pm_C g cc own) {x : Int64} {y : Int32} (hd : decode cc pc = .ok (.lushr, 1)) (k : pm_G g (pc + 1) lv (.long ((x.toUInt64 >>> (y.toInt64.toUInt64 &&& Int64.toUInt64 63)).toInt64) :: st) h kc ks) : pm_G g pc lv (.int y :: .long x :: st) h kc ks := by
  obtain ⟨p, l, e, R, s, m, args, below, meth, c, Q, G, nL⟩ := g
  obtain ⟨hx, hb, hts, hown, hml, hlocks, hK, hbs, hN⟩ := C
  intro H locs ls hR hS hl
  exact lv_lushr hx hb hd rfl (k H locs ls hR hS hl)
theorem pm_lshl (C : pm_C g cc own) {x : Int64} {y : Int32} (hd : decode cc pc = .ok (.lshl, 1)) (k : pm_G g (pc + 1) lv (.long (x <<< (y.toInt64 &&& 63)) :: st) h kc ks) : pm_G g pc lv (.int y :: .long x :: st) h kc ks := by
  obtain ⟨p, l, e, R, s, m, args, below, meth, c, Q, G, nL⟩ := g
  obtain ⟨hx, hb, hts, hown, hml, hlocks, hK, hbs, hN⟩ := C
  intro H locs ls hR hS hl
  exact lv_lshl hx hb hd rfl (k H locs ls hR hS hl)
theorem pm_lshr (C : pm_C g cc own) {x : Int64} {y : Int32} (hd : decode cc pc = .ok (.lshr, 1)) (k : pm_G g (pc + 1) lv (.long (x >>> (y.toInt64 &&& 63)) :: st) h kc ks) : pm_G g pc lv (.int y :: .long x :: st) h kc ks := by
  obtain ⟨p, l, e, R, s, m, args, below, meth, c, Q, G, nL⟩ := g
  obtain ⟨hx, hb, hts, hown, hml, hlocks, hK, hbs, hN⟩ := C
  intro H locs ls hR hS hl
  exact lv_lshr hx hb hd rfl (k H locs ls hR hS hl)
theorem pm_i2l (C : pm_C g cc own) {x : Int32} (hd : decode cc pc = .ok (.i2l, 1)) (k : pm_G g (pc + 1) lv (.long x.toInt64 :: st) h kc ks) : pm_G g pc lv (.int x :: st) h kc ks := by
  obtain ⟨p, l, e, R, s, m, args, below, meth, c, Q, G, nL⟩ := g
  obtain ⟨hx, hb, hts, hown, hml, hlocks, hK, hbs, hN⟩ := C
  intro H locs ls hR hS hl
  exact lv_i2l hx hb hd rfl (k H locs ls hR hS hl)
theorem pm_l2i (C : pm_C g cc own) {x : Int64} (hd : decode cc pc = .ok (.l2i, 1)) (k : pm_G g (pc + 1) lv (.int x.toInt32 :: st) h kc ks) : pm_G g pc lv (.long x :: st) h kc ks := by
  obtain ⟨p, l, e, R, s, m, args, below, meth, c, Q, G, nL⟩ := g
  obtain ⟨hx, hb, hts, hown, hml, hlocks, hK, hbs, hN⟩ := C
  intro H locs ls hR hS hl
  exact lv_l2i hx hb hd rfl (k H locs ls hR hS hl)
theorem pm_i2b (C : pm_C g cc own) {x : Int32} (hd : decode cc pc = .ok (.i2b, 1)) (k : pm_G g (pc + 1) lv (.int x.toInt8.toInt32 :: st) h kc ks) : pm_G g pc lv (.int x :: st) h kc ks := by
  obtain ⟨p, l, e, R, s, m, args, below, meth, c, Q, G, nL⟩ := g
  obtain ⟨hx, hb, hts, hown, hml, hlocks, hK, hbs, hN⟩ := C
  intro H locs ls hR hS hl
  exact lv_i2b hx hb hd rfl (k H locs ls hR hS hl)
theorem pm_i2s (C : pm_C g cc own) {x : Int32} (hd : decode cc pc = .ok (.i2s, 1)) (k : pm_G g (pc + 1) lv (.int x.toInt16.toInt32 :: st) h kc ks) : pm_G g pc lv (.int x :: st) h kc ks := by
  obtain ⟨p, l, e, R, s, m, args, below, meth, c, Q, G, nL⟩ := g
  obtain ⟨hx, hb, hts, hown, hml, hlocks, hK, hbs, hN⟩ := C
  intro H locs ls hR hS hl
  exact lv_i2s hx hb hd rfl (k H locs ls hR hS hl)
theorem pm_i2c (C : pm_C g cc own) {x : Int32} (hd : decode cc pc = .ok (.i2c, 1)) (k : pm_G g (pc + 1) lv (.int (x.toUInt32 % 65536).toInt32 :: st) h kc ks) : pm_G g pc lv (.int x :: st) h kc ks := by
  obtain ⟨p, l, e, R, s, m, args, below, meth, c, Q, G, nL⟩ := g
  obtain ⟨hx, hb, hts, hown, hml, hlocks, hK, hbs, hN⟩ := C
  intro H locs ls hR hS hl
  exact lv_i2c hx hb hd rfl (k H locs ls hR hS hl)
theorem pm_lcmp (C : pm_C g cc own) {x y : Int64} (hd : decode cc pc = .ok (.lcmp, 1)) (k : pm_G g (pc + 1) lv (.int (lg_cmp x y) :: st) h kc ks) : pm_G g pc lv (.long y :: .long x :: st) h kc ks := by
  obtain ⟨p, l, e, R, s, m, args, below, meth, c, Q, G, nL⟩ := g
  obtain ⟨hx, hb, hts, hown, hml, hlocks, hK, hbs, hN⟩ := C
  intro H locs ls hR hS hl
  exact W.lcmp hx hb hd (k H locs ls hR hS hl)
theorem pm_dup (C : pm_C g cc own) {a : Value} (hd : decode cc pc = .ok (.dup, 1)) (ha : a.category = 1) (k : pm_G g (pc + 1) lv (a :: a :: st) h kc ks) : pm_G g pc lv (a :: st) h kc ks := by
  obtain ⟨p, l, e, R, s, m, args, below, meth, c, Q, G, nL⟩ := g
  obtain ⟨hx, hb, hts, hown, hml, hlocks, hK, hbs, hN⟩ := C
  intro H locs ls hR hS hl
  exact lv_dup hx hb hd ((pm_v_cat _ _).trans ha) (k H locs ls hR hS hl)
theorem pm_pop (C : pm_C g cc own) {a : Value} (hd : decode cc pc = .ok (.pop, 1)) (ha : a.category = 1) (k : pm_G g (pc + 1) lv (st) h kc ks) : pm_G g pc lv (a :: st) h kc ks := by
  obtain ⟨p, l, e, R, s, m, args, below, meth, c, Q, G, nL⟩ := g
  obtain ⟨hx, hb, hts, hown, hml, hlocks, hK, hbs, hN⟩ := C
  intro H locs ls hR hS hl
  exact lv_pop hx hb hd ((pm_v_cat _ _).trans ha) (k H locs ls hR hS hl)
theorem pm_pop2_2 (C : pm_C g cc own) {a : Value} (hd : decode cc pc = .ok (.pop2, 1)) (ha : a.category = 2) (k : pm_G g (pc + 1) lv (st) h kc ks) : pm_G g pc lv (a :: st) h kc ks := by
  obtain ⟨p, l, e, R, s, m, args, below, meth, c, Q, G, nL⟩ := g
  obtain ⟨hx, hb, hts, hown, hml, hlocks, hK, hbs, hN⟩ := C
  intro H locs ls hR hS hl
  exact lv_pop2_2 hx hb hd ((pm_v_cat _ _).trans ha) (k H locs ls hR hS hl)
theorem pm_pop2_11 (C : pm_C g cc own) {a b : Value} (hd : decode cc pc = .ok (.pop2, 1)) (ha : a.category = 1) (hc : b.category = 1) (k : pm_G g (pc + 1) lv (st) h kc ks) : pm_G g pc lv (a :: b :: st) h kc ks := by
  obtain ⟨p, l, e, R, s, m, args, below, meth, c, Q, G, nL⟩ := g
  obtain ⟨hx, hb, hts, hown, hml, hlocks, hK, hbs, hN⟩ := C
  intro H locs ls hR hS hl
  exact lv_pop2_11 hx hb hd ((pm_v_cat _ _).trans ha) ((pm_v_cat _ _).trans hc) (k H locs ls hR hS hl)
theorem pm_dup2_11 (C : pm_C g cc own) {a b : Value} (hd : decode cc pc = .ok (.dup2, 1)) (ha : a.category = 1) (hc : b.category = 1) (k : pm_G g (pc + 1) lv (a :: b :: a :: b :: st) h kc ks) : pm_G g pc lv (a :: b :: st) h kc ks := by
  obtain ⟨p, l, e, R, s, m, args, below, meth, c, Q, G, nL⟩ := g
  obtain ⟨hx, hb, hts, hown, hml, hlocks, hK, hbs, hN⟩ := C
  intro H locs ls hR hS hl
  exact lv_dup2_11 hx hb hd ((pm_v_cat _ _).trans ha) ((pm_v_cat _ _).trans hc) (k H locs ls hR hS hl)
theorem pm_dup2_2 (C : pm_C g cc own) {a : Value} (hd : decode cc pc = .ok (.dup2, 1)) (ha : a.category = 2) (k : pm_G g (pc + 1) lv (a :: a :: st) h kc ks) : pm_G g pc lv (a :: st) h kc ks := by
  obtain ⟨p, l, e, R, s, m, args, below, meth, c, Q, G, nL⟩ := g
  obtain ⟨hx, hb, hts, hown, hml, hlocks, hK, hbs, hN⟩ := C
  intro H locs ls hR hS hl
  exact lv_dup2_2 hx hb hd ((pm_v_cat _ _).trans ha) (k H locs ls hR hS hl)
theorem pm_dup_x1 (C : pm_C g cc own) {a b : Value} (hd : decode cc pc = .ok (.dup_x1, 1)) (ha : a.category = 1) (hc : b.category = 1) (k : pm_G g (pc + 1) lv (a :: b :: a :: st) h kc ks) : pm_G g pc lv (a :: b :: st) h kc ks := by
  obtain ⟨p, l, e, R, s, m, args, below, meth, c, Q, G, nL⟩ := g
  obtain ⟨hx, hb, hts, hown, hml, hlocks, hK, hbs, hN⟩ := C
  intro H locs ls hR hS hl
  exact lv_dup_x1 hx hb hd ((pm_v_cat _ _).trans ha) ((pm_v_cat _ _).trans hc) (k H locs ls hR hS hl)
theorem pm_if_eq (C : pm_C g cc own) {x : Int32} {off : Int} {tgt : Nat} (hd : decode cc pc = .ok (.ifCond .eq off, 3)) (ht : (pc : Int) + off = (tgt : Int)) (kt : x = 0 → pm_G g tgt lv st h kc ks) (kf : ¬ x = 0 → pm_G g (pc + 3) lv st h kc ks) : pm_G g pc lv (.int x :: st) h kc ks := by
  obtain ⟨p, l, e, R, s, m, args, below, meth, c, Q, G, nL⟩ := g
  obtain ⟨hx, hb, hts, hown, hml, hlocks, hK, hbs, hN⟩ := C
  intro H locs ls hR hS hl
  exact lv_if_eq hx hb hd ht (fun q => kt q H locs ls hR hS hl) (fun q => kf q H locs ls hR hS hl)
theorem pm_icmp_eq (C : pm_C g cc own) {x y : Int32} {off : Int} {tgt : Nat} (hd : decode cc pc = .ok (.if_icmp .eq off, 3)) (ht : (pc : Int) + off = (tgt : Int)) (kt : x = y → pm_G g tgt lv st h kc ks) (kf : ¬ x = y → pm_G g (pc + 3) lv st h kc ks) : pm_G g pc lv (.int y :: .int x :: st) h kc ks := by
  obtain ⟨p, l, e, R, s, m, args, below, meth, c, Q, G, nL⟩ := g
  obtain ⟨hx, hb, hts, hown, hml, hlocks, hK, hbs, hN⟩ := C
  intro H locs ls hR hS hl
  exact lv_icmp_eq hx hb hd ht (fun q => kt q H locs ls hR hS hl) (fun q => kf q H locs ls hR hS hl)
theorem pm_if_ne (C : pm_C g cc own) {x : Int32} {off : Int} {tgt : Nat} (hd : decode cc pc = .ok (.ifCond .ne off, 3)) (ht : (pc : Int) + off = (tgt : Int)) (kt : ¬ x = 0 → pm_G g tgt lv st h kc ks) (kf : x = 0 → pm_G g (pc + 3) lv st h kc ks) : pm_G g pc lv (.int x :: st) h kc ks := by
  obtain ⟨p, l, e, R, s, m, args, below, meth, c, Q, G, nL⟩ := g
  obtain ⟨hx, hb, hts, hown, hml, hlocks, hK, hbs, hN⟩ := C
  intro H locs ls hR hS hl
  exact lv_if_ne hx hb hd ht (fun q => kt q H locs ls hR hS hl) (fun q => kf q H locs ls hR hS hl)
theorem pm_icmp_ne (C : pm_C g cc own) {x y : Int32} {off : Int} {tgt : Nat} (hd : decode cc pc = .ok (.if_icmp .ne off, 3)) (ht : (pc : Int) + off = (tgt : Int)) (kt : ¬ x = y → pm_G g tgt lv st h kc ks) (kf : x = y → pm_G g (pc + 3) lv st h kc ks) : pm_G g pc lv (.int y :: .int x :: st) h kc ks := by
  obtain ⟨p, l, e, R, s, m, args, below, meth, c, Q, G, nL⟩ := g
  obtain ⟨hx, hb, hts, hown, hml, hlocks, hK, hbs, hN⟩ := C
  intro H locs ls hR hS hl
  exact lv_icmp_ne hx hb hd ht (fun q => kt q H locs ls hR hS hl) (fun q => kf q H locs ls hR hS hl)
theorem pm_if_lt (C : pm_C g cc own) {x : Int32} {off : Int} {tgt : Nat} (hd : decode cc pc = .ok (.ifCond .lt off, 3)) (ht : (pc : Int) + off = (tgt : Int)) (kt : x < 0 → pm_G g tgt lv st h kc ks) (kf : ¬ x < 0 → pm_G g (pc + 3) lv st h kc ks) : pm_G g pc lv (.int x :: st) h kc ks := by
  obtain ⟨p, l, e, R, s, m, args, below, meth, c, Q, G, nL⟩ := g
  obtain ⟨hx, hb, hts, hown, hml, hlocks, hK, hbs, hN⟩ := C
  intro H locs ls hR hS hl
  exact lv_if_lt hx hb hd ht (fun q => kt q H locs ls hR hS hl) (fun q => kf q H locs ls hR hS hl)
theorem pm_icmp_lt (C : pm_C g cc own) {x y : Int32} {off : Int} {tgt : Nat} (hd : decode cc pc = .ok (.if_icmp .lt off, 3)) (ht : (pc : Int) + off = (tgt : Int)) (kt : x < y → pm_G g tgt lv st h kc ks) (kf : ¬ x < y → pm_G g (pc + 3) lv st h kc ks) : pm_G g pc lv (.int y :: .int x :: st) h kc ks := by
  obtain ⟨p, l, e, R, s, m, args, below, meth, c, Q, G, nL⟩ := g
  obtain ⟨hx, hb, hts, hown, hml, hlocks, hK, hbs, hN⟩ := C
  intro H locs ls hR hS hl
  exact lv_icmp_lt hx hb hd ht (fun q => kt q H locs ls hR hS hl) (fun q => kf q H locs ls hR hS hl)
theorem pm_if_ge (C : pm_C g cc own) {x : Int32} {off : Int} {tgt : Nat} (hd : decode cc pc = .ok (.ifCond .ge off, 3)) (ht : (pc : Int) + off = (tgt : Int)) (kt : 0 ≤ x → pm_G g tgt lv st h kc ks) (kf : ¬ 0 ≤ x → pm_G g (pc + 3) lv st h kc ks) : pm_G g pc lv (.int x :: st) h kc ks := by
  obtain ⟨p, l, e, R, s, m, args, below, meth, c, Q, G, nL⟩ := g
  obtain ⟨hx, hb, hts, hown, hml, hlocks, hK, hbs, hN⟩ := C
  intro H locs ls hR hS hl
  exact lv_if_ge hx hb hd ht (fun q => kt q H locs ls hR hS hl) (fun q => kf q H locs ls hR hS hl)
theorem pm_icmp_ge (C : pm_C g cc own) {x y : Int32} {off : Int} {tgt : Nat} (hd : decode cc pc = .ok (.if_icmp .ge off, 3)) (ht : (pc : Int) + off = (tgt : Int)) (kt : y ≤ x → pm_G g tgt lv st h kc ks) (kf : ¬ y ≤ x → pm_G g (pc + 3) lv st h kc ks) : pm_G g pc lv (.int y :: .int x :: st) h kc ks := by
  obtain ⟨p, l, e, R, s, m, args, below, meth, c, Q, G, nL⟩ := g
  obtain ⟨hx, hb, hts, hown, hml, hlocks, hK, hbs, hN⟩ := C
  intro H locs ls hR hS hl
  exact lv_icmp_ge hx hb hd ht (fun q => kt q H locs ls hR hS hl) (fun q => kf q H locs ls hR hS hl)
theorem pm_if_gt (C : pm_C g cc own) {x : Int32} {off : Int} {tgt : Nat} (hd : decode cc pc = .ok (.ifCond .gt off, 3)) (ht : (pc : Int) + off = (tgt : Int)) (kt : 0 < x → pm_G g tgt lv st h kc ks) (kf : ¬ 0 < x → pm_G g (pc + 3) lv st h kc ks) : pm_G g pc lv (.int x :: st) h kc ks := by
  obtain ⟨p, l, e, R, s, m, args, below, meth, c, Q, G, nL⟩ := g
  obtain ⟨hx, hb, hts, hown, hml, hlocks, hK, hbs, hN⟩ := C
  intro H locs ls hR hS hl
  exact lv_if_gt hx hb hd ht (fun q => kt q H locs ls hR hS hl) (fun q => kf q H locs ls hR hS hl)
theorem pm_icmp_gt (C : pm_C g cc own) {x y : Int32} {off : Int} {tgt : Nat} (hd : decode cc pc = .ok (.if_icmp .gt off, 3)) (ht : (pc : Int) + off = (tgt : Int)) (kt : y < x → pm_G g tgt lv st h kc ks) (kf : ¬ y < x → pm_G g (pc + 3) lv st h kc ks) : pm_G g pc lv (.int y :: .int x :: st) h kc ks := by
  obtain ⟨p, l, e, R, s, m, args, below, meth, c, Q, G, nL⟩ := g
  obtain ⟨hx, hb, hts, hown, hml, hlocks, hK, hbs, hN⟩ := C
  intro H locs ls hR hS hl
  exact lv_icmp_gt hx hb hd ht (fun q => kt q H locs ls hR hS hl) (fun q => kf q H locs ls hR hS hl)
theorem pm_if_le (C : pm_C g cc own) {x : Int32} {off : Int} {tgt : Nat} (hd : decode cc pc = .ok (.ifCond .le off, 3)) (ht : (pc : Int) + off = (tgt : Int)) (kt : x ≤ 0 → pm_G g tgt lv st h kc ks) (kf : ¬ x ≤ 0 → pm_G g (pc + 3) lv st h kc ks) : pm_G g pc lv (.int x :: st) h kc ks := by
  obtain ⟨p, l, e, R, s, m, args, below, meth, c, Q, G, nL⟩ := g
  obtain ⟨hx, hb, hts, hown, hml, hlocks, hK, hbs, hN⟩ := C
  intro H locs ls hR hS hl
  exact lv_if_le hx hb hd ht (fun q => kt q H locs ls hR hS hl) (fun q => kf q H locs ls hR hS hl)
theorem pm_icmp_le (C : pm_C g cc own) {x y : Int32} {off : Int} {tgt : Nat} (hd : decode cc pc = .ok (.if_icmp .le off, 3)) (ht : (pc : Int) + off = (tgt : Int)) (kt : x ≤ y → pm_G g tgt lv st h kc ks) (kf : ¬ x ≤ y → pm_G g (pc + 3) lv st h kc ks) : pm_G g pc lv (.int y :: .int x :: st) h kc ks := by
  obtain ⟨p, l, e, R, s, m, args, below, meth, c, Q, G, nL⟩ := g
  obtain ⟨hx, hb, hts, hown, hml, hlocks, hK, hbs, hN⟩ := C
  intro H locs ls hR hS hl
  exact lv_icmp_le hx hb hd ht (fun q => kt q H locs ls hR hS hl) (fun q => kf q H locs ls hR hS hl)
theorem pm_goto (C : pm_C g cc own) {off : Int} {tgt : Nat} (hd : decode cc pc = .ok (.goto off, 3)) (ht : (pc : Int) + off = (tgt : Int)) (k : pm_G g tgt lv st h kc ks) : pm_G g pc lv st h kc ks := by
  obtain ⟨p, l, e, R, s, m, args, below, meth, c, Q, G, nL⟩ := g
  obtain ⟨hx, hb, hts, hown, hml, hlocks, hK, hbs, hN⟩ := C
  intro H locs ls hR hS hl
  exact lv_goto hx hb hd ht (k H locs ls hR hS hl)
theorem pm_ifnonnull (C : pm_C g cc own) {x : Nat} {off : Int} {tgt : Nat} (hd : decode cc pc = .ok (.ifnonnull off, 3)) (ht : (pc : Int) + off = (tgt : Int)) (k : pm_G g tgt lv st h kc ks) : pm_G g pc lv (.ref x :: st) h kc ks := by
  obtain ⟨p, l, e, R, s, m, args, below, meth, c, Q, G, nL⟩ := g
  obtain ⟨hx, hb, hts, hown, hml, hlocks, hK, hbs, hN⟩ := C
  intro H locs ls hR hS hl
  exact lv_ifnonnull hx hb hd ht (k H locs ls hR hS hl)
theorem pm_ifnonnullN (C : pm_C g cc own) {off : Int} (hd : decode cc pc = .ok (.ifnonnull off, 3)) (k : pm_G g (pc + 3) lv st h kc ks) : pm_G g pc lv (.null :: st) h kc ks := by
  obtain ⟨p, l, e, R, s, m, args, below, meth, c, Q, G, nL⟩ := g
  obtain ⟨hx, hb, hts, hown, hml, hlocks, hK, hbs, hN⟩ := C
  intro H locs ls hR hS hl
  exact lv_ifnonnullN hx hb hd (k H locs ls hR hS hl)
theorem pm_lookup (C : pm_C g cc own) {dflt : Int} {ps : Array (Int × Int)} {len : Nat} {x : Int32} {off : Int} {tgt : Nat} (hd : decode cc pc = .ok (.lookupswitch dflt ps, len)) (hp : (ps.toList.zip (ps.toList.drop 1)).all (fun (a, next) => a.1 < next.1) = true) (ho : Op.lookupswitch.offset ps.toList dflt x.toInt = off) (ht : (pc : Int) + off = (tgt : Int)) (k : pm_G g tgt lv st h kc ks) : pm_G g pc lv (.int x :: st) h kc ks := by
  obtain ⟨p, l, e, R, s, m, args, below, meth, c, Q, G, nL⟩ := g
  obtain ⟨hx, hb, hts, hown, hml, hlocks, hK, hbs, hN⟩ := C
  intro H locs ls hR hS hl
  exact lv_lookup hx hb hd hp ho ht (k H locs ls hR hS hl)
theorem pm_tableOut (C : pm_C g cc own) {dflt lo hi : Int} {offs : Array Int} {len : Nat} {x : Int32} {tgt : Nat} (hd : decode cc pc = .ok (.tableswitch dflt lo hi offs, len)) (hq : x.toInt < lo ∨ hi < x.toInt) (ht : (pc : Int) + dflt = (tgt : Int)) (k : pm_G g tgt lv st h kc ks) : pm_G g pc lv (.int x :: st) h kc ks := by
  obtain ⟨p, l, e, R, s, m, args, below, meth, c, Q, G, nL⟩ := g
  obtain ⟨hx, hb, hts, hown, hml, hlocks, hK, hbs, hN⟩ := C
  intro H locs ls hR hS hl
  exact lv_tableOut hx hb hd hq ht (k H locs ls hR hS hl)
theorem pm_tableIn (C : pm_C g cc own) {dflt lo hi : Int} {offs : Array Int} {len : Nat} {x : Int32} {off : Int} {tgt : Nat} (hd : decode cc pc = .ok (.tableswitch dflt lo hi offs, len)) (h1 : ¬ x.toInt < lo) (h2 : ¬ hi < x.toInt) (ho : offs[(x.toInt - lo).toNat]? = some off) (ht : (pc : Int) + off = (tgt : Int)) (k : pm_G g tgt lv st h kc ks) : pm_G g pc lv (.int x :: st) h kc ks := by
  obtain ⟨p, l, e, R, s, m, args, below, meth, c, Q, G, nL⟩ := g
  obtain ⟨hx, hb, hts, hown, hml, hlocks, hK, hbs, hN⟩ := C
  intro H locs ls hR hS hl
  exact lv_tableIn hx hb hd h1 h2 ho ht (k H locs ls hR hS hl)
theorem pm_widen {kc' ks' : Nat} (h1 : kc ≤ kc') (h2 : ks ≤ ks') (k : pm_G g pc lv st h kc' ks') : pm_G g pc lv st h kc ks := by
  obtain ⟨p, l, e, R, s, m, args, below, meth, c, Q, G, nL⟩ := g
  intro H locs ls hR hS hl
  exact W.widen h1 h2 (k H locs ls hR hS hl)
theorem pm_eq {lv' : List (Nat × Value)} {st' : List Value} {h' : pm_H} {kc' ks' : Nat} (k : pm_G g pc lv' st' h' kc' ks') (h1 : lv' = lv) (h2 : st' = st) (h3 : h' = h) (h4 : kc' = kc) (h5 : ks' = ks) : pm_G g pc lv st h kc ks := by
  subst h1; subst h2; subst h3; subst h4; subst h5; exact k
end PMR
/-- a method: its name, code, number of locals, answer's type; frames and words of locals that its callees want -/
abbrev pm_M : Type := MethodName × ByteArray × Nat × Option FieldType × Nat × Nat
def pm_tb : List Cond := lw_tbl.filter goodWord
def pm_wsy (M : pm_M) : List Cond := .code M.1 M.2.1 M.2.2.1 M.2.2.2.1 :: pm_tb
def pm_rm (M : pm_M) (mc ms : Nat) : Room := { frames := M.2.2.2.2.1, cells := mc, slots := ms, locals := M.2.2.2.2.2 }
def pm_Pc (G : pm_Gl) (as : List Value) (h : pm_H) : Array Value → State → Prop := fun a U => a = (as.map (pm_v G.1)).toArray ∧ pm_Rel G h U.heap ∧ va_K G.2.1 vwCl (pm_tys G.2.2) U ∧ pm_Nw G U
def pm_Qc (G : pm_Gl) (Qr : Option Value → pm_H → Prop) : Array Value → State → Outcome → State → Prop := fun _ st o t => (∃ (v : Option Value) (h' : pm_H), o = .returned (v.map (pm_v G.1)) ∧ Qr v h' ∧ pm_Rel G h' t.heap) ∧ va_F (fun q => G.1 ≤ q) st t
/-- A CONTRACT: called with these arguments over the pure heap h the method returns, and Qr holds of its answer and of the pure heap behind it; at most mc cells of ms slots are new -/
def pm_Ct (l : Launch) (G : pm_Gl) (M : pm_M) (as : List Value) (h : pm_H) (mc ms : Nat) (Qr : Option Value → pm_H → Prop) : Prop :=
  Met l M.1 (pm_wsy M) (pm_rm M mc ms) (pm_Pc G as h) (pm_Qc G Qr) mc ms (fun q => G.1 ≤ q)
/-- what a method's end must come to -/
def pm_X (g : pm_Gm) (l : Launch) (G : pm_Gl) (M : pm_M) (mc ms : Nat) (Qr : Option Value → pm_H → Prop) : Prop := match g with
  | (_, l', _, R, s, _, args, below, meth, _, Q, G', nL) => l' = l ∧ G' = G ∧ Q = MQ below (pm_Qc G Qr) args s mc ms (fun q => G.1 ≤ q) ∧ meth.sig.returnType = M.2.2.2.1 ∧ R = pm_rm M mc ms ∧ nL = M.2.2.1
theorem pm_args (b : Nat) : ∀ (as : List Value) (n : Nat), pm_lv b (lv_args n as) = lv_args n (as.map (pm_v b))
  | [], _ => rfl
  | a :: t, n => by
    show (n, pm_v b a) :: pm_lv b (lv_args (if a.category = 2 then n + 2 else n + 1) t) = (n, pm_v b a) :: lv_args (if (pm_v b a).category = 2 then n + 2 else n + 1) (t.map (pm_v b))
    rw [pm_args b t, pm_v_cat]
theorem pm_slots (b : Nat) (as : List Value) : (lg_sl (as.map (pm_v b))).length = (lg_sl as).length := by
  induction as with
  | nil => rfl
  | cons a t ih =>
    cases a <;> simp_all [lg_sl, pm_v, Value.category]
/-- a contract out of the walk of the body -/
theorem pm_body {l : Launch} {G : pm_Gl} {M : pm_M} {as : List Value} {h : pm_H} {mc ms : Nat} {Qr : Option Value → pm_H → Prop} (hy : plainName M.1.cls = true) (hl : (lg_sl as).length ≤ M.2.2.1)
    (k : ∀ g : pm_Gm, pm_C g M.2.1 M.1.cls → pm_X g l G M mc ms Qr → pm_G g 0 (lv_args 0 as) [] h 0 0) : pm_Ct l G M as h mc ms Qr := by
  refine Met.ofW (cc := M.2.1) (maxL := M.2.2.1) (ret := M.2.2.2.1) hy rfl ?_
  intro p e s m args below meth c s₁ B hml hv
  obtain ⟨rfl, hR, hK, hN⟩ := hv
  have hts := atoms_spec (ws := pm_wsy M) B.pre
  have hown : s.vm.findClass M.1.cls = some m.cls := findClass_of_methodNamed B.named
  have hL := lv_entry (as.map (pm_v G.1)) (n := M.2.2.1) (by rw [pm_slots]; exact hl)
  have hb : G.1 ≤ s.heap.size := by rw [hR.1]; exact Nat.le_add_right _ _
  have K := k (p, l, e, pm_rm M mc ms, s, m, (as.map (pm_v G.1)).toArray, below, meth, c, MQ below (pm_Qc G Qr) (as.map (pm_v G.1)).toArray s mc ms (fun q => G.1 ≤ q), G, M.2.2.1)
    ⟨B.exec, B.bytes, fun w hw hg => hts w (List.mem_cons_of_mem _ (List.mem_filter.mpr ⟨hw, hg⟩)), hown, hml, B.notSynchronized, hK, hb, hN⟩ ⟨rfl, rfl, rfl, B.returns, rfl, rfl⟩
  rw [lg_entry_eq]
  refine K s.heap [] _ hR va_S.rf ?_
  rw [pm_args]
  exact hL
section PME
variable {g : pm_Gm} {cc : ByteArray} {own : String} {pc : Nat} {lv : List (Nat × Value)} {h : pm_H} {kc ks : Nat} {l : Launch} {G : pm_Gl} {M : pm_M} {mc ms : Nat} {Qr : Option Value → pm_H → Prop}
theorem pm_iret (C : pm_C g cc own) (X : pm_X g l G M mc ms Qr) {v : Int32} (hd : decode cc pc = .ok (.ireturn, 1)) (hM : M.2.2.2.1 = some .int) (h1 : kc ≤ mc) (h2 : ks ≤ ms) (q : Qr (some (.int v)) h) : pm_G g pc lv [.int v] h kc ks := by
  obtain ⟨p, l', e, R, s, m, args, below, meth, c, Q, G', nL⟩ := g
  obtain ⟨hx, hb, hts, hown, hml, hlocks, hK, hbs, hN⟩ := C
  obtain ⟨rfl, rfl, rfl, hr, hRm, hnL⟩ := X
  intro H locs ls hR hS hl
  refine W.widen h1 h2 ?_
  exact W.iret hx hb (hr.trans hM) (fun t ht _ => ⟨⟨some (.int v), h, rfl, q, by rw [ht]; exact hR⟩, hS.F ht⟩) hS.2.2 hd
theorem pm_lret (C : pm_C g cc own) (X : pm_X g l G M mc ms Qr) {v : Int64} (hd : decode cc pc = .ok (.lreturn, 1)) (hM : M.2.2.2.1 = some .long) (h1 : kc ≤ mc) (h2 : ks ≤ ms) (q : Qr (some (.long v)) h) : pm_G g pc lv [.long v] h kc ks := by
  obtain ⟨p, l', e, R, s, m, args, below, meth, c, Q, G', nL⟩ := g
  obtain ⟨hx, hb, hts, hown, hml, hlocks, hK, hbs, hN⟩ := C
  obtain ⟨rfl, rfl, rfl, hr, hRm, hnL⟩ := X
  intro H locs ls hR hS hl
  refine W.widen h1 h2 ?_
  exact W.lret hx hb (hr.trans hM) (fun t ht _ => ⟨⟨some (.long v), h, rfl, q, by rw [ht]; exact hR⟩, hS.F ht⟩) hS.2.2 hd
theorem pm_zret (C : pm_C g cc own) (X : pm_X g l G M mc ms Qr) {v : Int32} (hd : decode cc pc = .ok (.ireturn, 1)) (hM : M.2.2.2.1 = some .boolean) (hn : narrow .boolean (.int v) = .int v) (h1 : kc ≤ mc) (h2 : ks ≤ ms) (q : Qr (some (.int v)) h) : pm_G g pc lv [.int v] h kc ks := by
  obtain ⟨p, l', e, R, s, m, args, below, meth, c, Q, G', nL⟩ := g
  obtain ⟨hx, hb, hts, hown, hml, hlocks, hK, hbs, hN⟩ := C
  obtain ⟨rfl, rfl, rfl, hr, hRm, hnL⟩ := X
  intro H locs ls hR hS hl
  refine W.widen h1 h2 ?_
  exact W.zret hx hb (hr.trans hM) hn (fun t ht _ => ⟨⟨some (.int v), h, rfl, q, by rw [ht]; exact hR⟩, hS.F ht⟩) hS.2.2 hd
theorem pm_vret (C : pm_C g cc own) (X : pm_X g l G M mc ms Qr) (hd : decode cc pc = .ok (.return_, 1)) (hM : M.2.2.2.1 = none) (h1 : kc ≤ mc) (h2 : ks ≤ ms) (q : Qr none h) : pm_G g pc lv [] h kc ks := by
  obtain ⟨p, l', e, R, s, m, args, below, meth, c, Q, G', nL⟩ := g
  obtain ⟨hx, hb, hts, hown, hml, hlocks, hK, hbs, hN⟩ := C
  obtain ⟨rfl, rfl, rfl, hr, hRm, hnL⟩ := X
  intro H locs ls hR hS hl
  refine W.widen h1 h2 ?_
  exact W.vret hx hb (hr.trans hM) (fun t ht _ => ⟨⟨none, h, rfl, q, by rw [ht]; exact hR⟩, hS.F ht⟩) hS.2.2 hd
end PME
