/-! PURE HEAP. Size, kinds, lengths, and three maps (ints, longs, references) by relative address and place. Kinds: 0..16 the classes of vwCl, 31 nothing, 32.. arrays. -/
abbrev pm_H : Type := Nat × (Nat → Nat) × (Nat → Nat) × (Nat → Nat → Int32) × (Nat → Nat → Int64) × (Nat → Nat → Option Nat)
abbrev pm_sz (h : pm_H) : Nat := h.1
abbrev pm_kd (h : pm_H) : Nat → Nat := h.2.1
abbrev pm_ln (h : pm_H) : Nat → Nat := h.2.2.1
abbrev pm_I (h : pm_H) : Nat → Nat → Int32 := h.2.2.2.1
abbrev pm_L (h : pm_H) : Nat → Nat → Int64 := h.2.2.2.2.1
abbrev pm_R (h : pm_H) : Nat → Nat → Option Nat := h.2.2.2.2.2
def pm_u1 {α : Type} (f : Nat → α) (a : Nat) (v : α) : Nat → α := fun x => if x = a then v else f x
def pm_u2 {α : Type} (f : Nat → Nat → α) (a k : Nat) (v : α) : Nat → Nat → α := fun x y => if x = a then (if y = k then v else f x y) else f x y
def pm_row {α : Type} (f : Nat → Nat → α) (a : Nat) (r : Nat → α) : Nat → Nat → α := fun x y => if x = a then r y else f x y
def pm_setI (h : pm_H) (a k : Nat) (v : Int32) : pm_H := (pm_sz h, pm_kd h, pm_ln h, pm_u2 (pm_I h) a k v, pm_L h, pm_R h)
def pm_setL (h : pm_H) (a k : Nat) (v : Int64) : pm_H := (pm_sz h, pm_kd h, pm_ln h, pm_I h, pm_u2 (pm_L h) a k v, pm_R h)
def pm_setR (h : pm_H) (a k : Nat) (v : Option Nat) : pm_H := (pm_sz h, pm_kd h, pm_ln h, pm_I h, pm_L h, pm_u2 (pm_R h) a k v)
/-- a new cell of kind q and length n, all of it 0 or null -/
def pm_new (h : pm_H) (q n : Nat) : pm_H := (pm_sz h + 1, pm_u1 (pm_kd h) (pm_sz h) q, pm_u1 (pm_ln h) (pm_sz h) n, pm_row (pm_I h) (pm_sz h) (fun _ => 0), pm_row (pm_L h) (pm_sz h) (fun _ => 0), pm_row (pm_R h) (pm_sz h) (fun _ => none))
theorem pm_u1_s {α : Type} (f : Nat → α) (a : Nat) (v : α) : pm_u1 f a v a = v := if_pos rfl
theorem pm_u1_n {α : Type} (f : Nat → α) {a x : Nat} (v : α) (h : x ≠ a) : pm_u1 f a v x = f x := if_neg h
theorem pm_u2_s {α : Type} (f : Nat → Nat → α) (a k : Nat) (v : α) : pm_u2 f a k v a k = v := by simp [pm_u2]
theorem pm_u2_n {α : Type} (f : Nat → Nat → α) {a k x : Nat} (v : α) (h : x ≠ a) : pm_u2 f a k v x = f x := by funext y; simp [pm_u2, h]
theorem pm_u2_k {α : Type} (f : Nat → Nat → α) {a k y : Nat} (v : α) (h : y ≠ k) (x : Nat) : pm_u2 f a k v x y = f x y := by simp [pm_u2, h]
theorem pm_row_s {α : Type} (f : Nat → Nat → α) (a : Nat) (r : Nat → α) : pm_row f a r a = r := by funext y; simp [pm_row]
theorem pm_row_n {α : Type} (f : Nat → Nat → α) {a x : Nat} (r : Nat → α) (h : x ≠ a) : pm_row f a r x = f x := by funext y; simp [pm_row, h]
/-- what is fixed over a run: the base address, the classes' numbers and slots, the array classes -/
abbrev pm_Gl : Type := Nat × va_G × (Nat → ClassId)
def pm_aty : Nat → FieldType := fun t => match t with
  | 0 => .boolean
  | 1 => .byte
  | 2 => .int
  | 3 => .long
  | 4 => .array .int
  | 5 => .array .byte
  | 6 => .object RX0
  | 7 => .object RX3
  | 8 => .object RX4
  | 9 => .object RX7
  | _ => .object RX14
def pm_tys (cy : Nat → ClassId) : List (ClassId × FieldType) := (List.range 11).map (fun t => (cy t, pm_aty t))
def pm_fty : Nat → Nat → FieldType := fun c => match c with
  | 0 => tyX0
  | 1 => tyX1
  | 2 => tyX2
  | 3 => tyX3
  | 4 => tyX4
  | 5 => tyX5
  | 6 => tyX6
  | 7 => tyX7
  | 8 => tyX8
  | 9 => tyX9
  | 10 => tyX10
  | 11 => tyX11
  | 12 => tyX12
  | 13 => tyX13
  | 14 => tyX14
  | 15 => tyX15
  | _ => tyX16
def pm_fN : Nat → Nat := fun c => match c with
  | 0 => 9
  | 1 => 18
  | 2 => 13
  | 3 => 8
  | 4 => 8
  | 5 => 15
  | 6 => 5
  | 7 => 15
  | 8 => 1
  | 9 => 19
  | 10 => 20
  | 11 => 6
  | 12 => 16
  | 13 => 6
  | 14 => 58
  | 15 => 4
  | _ => 101
/-- a relative reference as the machine has it -/
def pm_rf (b : Nat) (r : Option Nat) : Option Nat := match r with
  | none => none
  | some x => some (b + x)
def pm_v (b : Nat) (v : Value) : Value := match v with
  | .ref a => .ref (b + a)
  | .int x => .int x
  | .long x => .long x
  | .null => .null
  | .float x => .float x
  | .double x => .double x
  | .retAddr x => .ref x
def pm_fv (b : Nat) (h : pm_H) (a : Nat) (ty : FieldType) (k : Nat) : Value := match ty with
  | .long => .long (pm_L h a k)
  | .object _ => va_rf (pm_rf b (pm_R h a k))
  | .array _ => va_rf (pm_rf b (pm_R h a k))
  | .float => .float 0
  | .double => .double 0
  | _ => .int (pm_I h a k)
/-- the number of an address or of null -/
def pm_un (n : Nat) : Option Nat := match n with
  | 0 => none
  | x + 1 => some x
/-- a field's value; those of a Throwable that hold what lies below the base are told by a mark alone -/
def pm_fx (G : pm_Gl) (h : pm_H) (a c k : Nat) : Value := if c = 13 ∧ (k = 1 ∨ k = 2) then (if pm_I h a k = 0 then .null else va_rf (pm_un (G.2.2 (129 + k)))) else pm_fv G.1 h a (pm_fty c k) k
theorem pm_fx_n (G : pm_Gl) (h : pm_H) (a : Nat) {c : Nat} (k : Nat) (hc : c ≠ 13) : pm_fx G h a c k = pm_fv G.1 h a (pm_fty c k) k := if_neg (fun q => hc q.1)
def pm_av (b : Nat) (h : pm_H) (a : Nat) (ty : FieldType) : (Nat → Int32) ⊕ (Nat → Int64) ⊕ (Nat → UInt32) ⊕ (Nat → UInt64) ⊕ (Nat → Option Nat) := match ty with
  | .long => .inr (.inl (pm_L h a))
  | .object _ => .inr (.inr (.inr (.inr (fun i => pm_rf b (pm_R h a i)))))
  | .array _ => .inr (.inr (.inr (.inr (fun i => pm_rf b (pm_R h a i)))))
  | _ => .inl (pm_I h a)
def pm_fs (G : pm_Gl) (h : pm_H) (a c : Nat) : List Value := (List.range (pm_fN c)).map (fun k => pm_fx G h a c k)
def pm_E (G : pm_Gl) (h : pm_H) (a : Nat) : va_E := if pm_kd h a < 32 then .inr (pm_kd h a, pm_fs G h a (pm_kd h a)) else .inl (G.2.2 (pm_kd h a - 32), pm_ln h a, pm_av G.1 h a (pm_aty (pm_kd h a - 32)))
def pm_ws (G : pm_Gl) (h : pm_H) : va_W := (List.range (pm_sz h)).map (fun a => (G.1 + a, pm_E G h a))
/-- the heap H holds h from the base on, and nothing else from there on -/
def pm_Rel (G : pm_Gl) (h : pm_H) (H : Heap) : Prop := H.size = G.1 + pm_sz h ∧ va_P G.2.1 vwCl (pm_ws G h) H ∧ ∀ a, pm_sz h ≤ a → pm_kd h a = 31
theorem pm_ws_at (G : pm_Gl) (h : pm_H) {a : Nat} (ha : a < pm_sz h) : (pm_ws G h)[a]? = some (G.1 + a, pm_E G h a) := by
  unfold pm_ws
  rw [List.getElem?_map, List.getElem?_range ha]
  rfl
theorem pm_ws_len (G : pm_Gl) (h : pm_H) : (pm_ws G h).length = pm_sz h := by simp [pm_ws]
theorem pm_ws_inv {G : pm_Gl} {h : pm_H} {k : Nat} {q : Nat × va_E} (hk : (pm_ws G h)[k]? = some q) : k < pm_sz h ∧ q = (G.1 + k, pm_E G h k) := by
  have hl : k < pm_sz h := by
    have := (List.getElem?_eq_some_iff.mp hk).1
    rwa [pm_ws_len] at this
  refine ⟨hl, ?_⟩
  rw [pm_ws_at G h hl] at hk
  exact (Option.some.inj hk).symm
theorem pm_D (G : pm_Gl) (h : pm_H) : va_D (fun q => G.1 ≤ q) (pm_ws G h) := by
  refine ⟨fun i j p q hi hj e => ?_, fun k q hk => ?_⟩
  · obtain ⟨-, rfl⟩ := pm_ws_inv hi
    obtain ⟨-, rfl⟩ := pm_ws_inv hj
    exact Nat.add_left_cancel e
  · obtain ⟨-, rfl⟩ := pm_ws_inv hk
    exact Nat.le_add_right _ _
theorem pm_ws_set {G : pm_Gl} {h h' : pm_H} {a : Nat} (hs : pm_sz h' = pm_sz h) (hn : ∀ x, x ≠ a → pm_E G h' x = pm_E G h x) : (pm_ws G h).set a (G.1 + a, pm_E G h' a) = pm_ws G h' := by
  apply List.ext_getElem?
  intro i
  by_cases hi : i < pm_sz h
  · rw [pm_ws_at G h' (by rw [hs]; exact hi)]
    by_cases e : i = a
    · subst e
      rw [List.getElem?_set_self (by rw [pm_ws_len]; exact hi)]
    · rw [List.getElem?_set_ne (fun q => e q.symm), pm_ws_at G h hi, hn i e]
  · rw [List.getElem?_eq_none (by rw [List.length_set, pm_ws_len]; omega), List.getElem?_eq_none (by rw [pm_ws_len, hs]; omega)]
theorem pm_ws_push {G : pm_Gl} {h h' : pm_H} (hs : pm_sz h' = pm_sz h + 1) (hn : ∀ x, x < pm_sz h → pm_E G h' x = pm_E G h x) : pm_ws G h ++ [(G.1 + pm_sz h, pm_E G h' (pm_sz h))] = pm_ws G h' := by
  unfold pm_ws
  rw [hs, List.range_succ, List.map_append]
  congr 1
  apply List.map_congr_left
  intro x hx
  rw [hn x (List.mem_range.mp hx)]
theorem pm_live {G : pm_Gl} {h : pm_H} {H : Heap} (hR : pm_Rel G h H) {a c : Nat} (hk : pm_kd h a = c) (hc : c ≠ 31) : a < pm_sz h := by
  rcases Nat.lt_or_ge a (pm_sz h) with q | q
  · exact q
  · exact absurd (hk.symm.trans (hR.2.2 a q)) hc
theorem pm_E_obj {G : pm_Gl} {h : pm_H} {a c : Nat} (hk : pm_kd h a = c) (hc : c < 32) : pm_E G h a = .inr (c, pm_fs G h a c) := by
  unfold pm_E
  rw [hk, if_pos hc]
theorem pm_E_arr {G : pm_Gl} {h : pm_H} {a t : Nat} (hk : pm_kd h a = t + 32) : pm_E G h a = .inl (G.2.2 t, pm_ln h a, pm_av G.1 h a (pm_aty t)) := by
  unfold pm_E
  rw [hk, if_neg (by omega), Nat.add_sub_cancel]
theorem pm_fs_at (G : pm_Gl) (h : pm_H) (a : Nat) {c k : Nat} (hk : k < pm_fN c) : (pm_fs G h a c)[k]? = some (pm_fx G h a c k) := by
  unfold pm_fs
  rw [List.getElem?_map, List.getElem?_range hk]
  rfl
theorem pm_fs_len (G : pm_Gl) (h : pm_H) (a c : Nat) : (pm_fs G h a c).length = pm_fN c := by simp [pm_fs]
theorem pm_fs_set {G : pm_Gl} {h h' : pm_H} {a c k : Nat} {v : Value} (hv : pm_fx G h' a c k = v) (hn : ∀ j, j ≠ k → pm_fx G h' a c j = pm_fx G h a c j) : (pm_fs G h a c).set k v = pm_fs G h' a c := by
  apply List.ext_getElem?
  intro i
  by_cases hi : i < pm_fN c
  · rw [pm_fs_at G h' a hi]
    by_cases e : i = k
    · subst e
      rw [List.getElem?_set_self (by rw [pm_fs_len]; exact hi), hv]
    · rw [List.getElem?_set_ne (fun q => e q.symm), pm_fs_at G h a hi, hn i e]
  · rw [List.getElem?_eq_none (by rw [List.length_set, pm_fs_len]; omega), List.getElem?_eq_none (by rw [pm_fs_len]; omega)]
theorem pm_tys_at (cy : Nat → ClassId) {t : Nat} (ht : t < 11) : (pm_tys cy)[t]? = some (cy t, pm_aty t) := by
  unfold pm_tys
  rw [List.getElem?_map, List.getElem?_range ht]
  rfl
/-- the entries of other cells don't see a change of one -/
theorem pm_E_ne {G : pm_Gl} {h h' : pm_H} {x : Nat} (h1 : pm_kd h' x = pm_kd h x) (h2 : pm_ln h' x = pm_ln h x) (h3 : pm_I h' x = pm_I h x) (h4 : pm_L h' x = pm_L h x) (h5 : pm_R h' x = pm_R h x) : pm_E G h' x = pm_E G h x := by
  have hf : ∀ c, pm_fs G h' x c = pm_fs G h x c := by
    intro c
    unfold pm_fs
    apply List.map_congr_left
    intro k _
    unfold pm_fx pm_fv
    rw [h3, h4, h5]
  have hv : ∀ ty, pm_av G.1 h' x ty = pm_av G.1 h x ty := by
    intro ty
    unfold pm_av
    rw [h3, h4, h5]
  unfold pm_E
  rw [h1, h2, hf, hv]
/-- a run of a method: all that stays the same from its entry on -/
abbrev pm_Gm : Type := Program × Launch × Env × Room × State × MethodId × Array Value × List Frame × Method × Code × (State → Prop) × pm_Gl × Nat
def pm_W (g : pm_Gm) (H : Heap) (locs : List Loc) (kc ks : Nat) (f : JFrame) : Prop := match g with
  | (p, l, e, R, s, m, args, below, meth, c, Q, _, _) => W p l e R s m args below meth c H locs kc ks Q f
def pm_lv (b : Nat) (lv : List (Nat × Value)) : List (Nat × Value) := lv.map (fun q => (q.1, pm_v b q.2))
/-- THE GOAL: from pc, with these locals, this stack and this pure heap, the method comes to its end as asked -/
def pm_G (g : pm_Gm) (pc : Nat) (lv : List (Nat × Value)) (st : List Value) (h : pm_H) (kc ks : Nat) : Prop := match g with
  | (p, l, e, R, s, m, args, below, meth, c, Q, G, nL) => ∀ (H : Heap) (locs : List Loc) (ls : Array Slot), pm_Rel G h H → va_S (fun q => G.1 ≤ q) s.heap H locs → lv_has ls nL (pm_lv G.1 lv) → W p l e R s m args below meth c H locs kc ks Q (F0 m pc ls (st.map (pm_v G.1)))
def pm_AO (t : FieldType) (U : State) : Prop := (Cond.arrayOver t).before #[] U = true
theorem pm_AO.use {t : FieldType} {A : Array Value} {U : State} (h : pm_AO t U) : (Cond.arrayOver t).before A U = true := h
theorem pm_AO.moved {t : FieldType} {u U : State} (hvm : u.vm.Alike U.vm) (h : pm_AO (.array t) u) : pm_AO (.array t) U := by
  obtain ⟨comp, c, k, h1, h2, h3, h4, h5⟩ := arrayOverA_spec (args := #[]) (first := u) (s := u) (o := none) (idx := []) h
  obtain ⟨k', hk', he⟩ := hvm.2.2 _ _ h3
  have hi : (U.vm.classes.findIdx? fun (x : Class) => match x.kind with | .array component _ => component == comp | _ => false) = some c := by
    have e : U.vm.bare = u.vm.bare := by first | exact hvm.bare_eq | exact hvm.bare_eq.symm
    have q1 := va_idx_bare U.vm comp
    have q2 := va_idx_bare u.vm comp
    rw [e] at q1
    exact (q1.symm.trans q2).trans h2
  have hkind : k'.kind = .array comp (.array t) := by rw [he]; exact h4
  have f1 : U.vm.findClass (FieldType.array t).toString = some comp := by rw [hvm.findClass]; exact h1
  have f2 : U.vm.findClass ("[" ++ (FieldType.array t).toString) = some c := by rw [hvm.findClass]; exact h5
  unfold pm_AO Cond.before Cond.holds
  simp only [Cond.value]
  rw [f1, Option.bind_some]
  refine (congrArg (fun o : Option Nat => (o.bind (fun c => (U.vm.classes[c]?).map fun (k : Class) => match k.kind with | .array _ ty => decide (ty = FieldType.array t) && decide (U.vm.findClass ("[" ++ (FieldType.array t).toString) = some c) | _ => false) == some true)) hi).trans ?_
  simp [hk', hkind, f2]
/-- links across the nest and castings: words that go with the state -/
def pm_isN : Cond → Bool := fun w => match w with
  | .fieldLinkNest .. => true
  | .methodLinkNest .. => true
  | .castable .. => true
  | .declares _ => true
  | _ => false
/-! WHAT LIES BELOW THE BASE: the String constants and the static rows that nobody writes. Their addresses stand in G.2.2 from 100 on: 100 .. the Strings, 110 .. their bytes, 120 the reader's row, 130, 131 the statics of Throwable (0: null) -/
def pm_sow : Nat → String × Nat × String := fun i => match i with
  | 0 => (RX6, 28, "23230011001122232301012")
  | 1 => (RX6, 36, "01230000111111012300111")
  | 2 => (RX8, 11, "122330022330011300112230100111")
  | _ => (RX8, 25, "000001111112222233333012300111")
def pm_sln : List Nat := [23, 23, 30, 30]
def pm_sby : List (List Int32) := [[50, 51, 50, 51, 48, 48, 49, 49, 48, 48, 49, 49, 50, 50, 50, 51, 50, 51, 48, 49, 48, 49, 50], [48, 49, 50, 51, 48, 48, 48, 48, 49, 49, 49, 49, 49, 49, 48, 49, 50, 51, 48, 48, 49, 49, 49], [49, 50, 50, 51, 51, 48, 48, 50, 50, 51, 51, 48, 48, 49, 49, 51, 48, 48, 49, 49, 50, 50, 51, 48, 49, 48, 48, 49, 49, 49], [48, 48, 48, 48, 48, 49, 49, 49, 49, 49, 49, 50, 50, 50, 50, 50, 51, 51, 51, 51, 51, 48, 49, 50, 51, 48, 48, 49, 49, 49]]
def pm_beg : List Int32 := [0, 97, 115, 109, 1, 0, 0, 0]
def pm_bS (U : State) (G : pm_Gl) : Prop := (∀ i, i < 4 → vk_R (pm_sow i).1 (pm_sow i).2.1 (pm_sow i).2.2 (G.2.2 (100 + i)) U) ∧ vk_S 4 pm_sln pm_sby (fun i => G.2.2 (100 + i)) (fun i => G.2.2 (110 + i)) (fun q => G.1 ≤ q) U U.heap ∧ va_Z "java/lang/String" "COMPACT_STRINGS" "Z" (.int 1) (fun q => G.1 ≤ q) U U.heap ∧ va_Zq "jdk/internal/util/Preconditions" "SIOOBE_FORMATTER" "Ljava/util/function/BiFunction;" (fun q => G.1 ≤ q) U U.heap
def pm_bB (U : State) (G : pm_Gl) : Prop := va_Z RX9 "BEGINNING" "[I" (.ref (G.2.2 120)) (fun q => G.1 ≤ q) U U.heap ∧ va_T .int (G.2.2 120) 8 (fun j => .int (pm_beg.getD j 0)) (fun q => G.1 ≤ q) U U.heap
/-- a static field of Throwable as the tables lay it; its cell lies outside A -/
def pm_LS (n d : String) (A : Nat → Prop) (U : State) (H : Heap) : Prop := ∃ (c : ClassId) (k : Class) (i : Nat) (f : Field) (a : Nat) (cell : Cell), U.vm.findClass "java/lang/Throwable" = some c ∧ U.fieldFound? "java/lang/Throwable" n d = some (c, k, i, f) ∧ f.isStatic = true ∧ k.statics = some a ∧ k.staticTypes[f.slot]? = some f.type ∧ H[a]? = some cell ∧ cell.vm.isStatics = true ∧ cell.cls = c ∧ f.slot < cell.slots.size ∧ ¬ A a
theorem pm_LS.moved {n d : String} {A : Nat → Prop} {u U : State} {H : Heap} (hvm : u.vm.Alike U.vm) (h : pm_LS n d A u H) : pm_LS n d A U H := by
  obtain ⟨c, k, i, f, a, cell, h0, h1, h2, h3, h4, h5⟩ := h
  obtain ⟨k', hi', he⟩ := State.fieldFound?_setVm hvm h1
  exact ⟨c, k', i, f, a, cell, by rw [hvm.findClass]; exact h0, hi', h2, by rw [he]; exact h3, by rw [he]; exact h4, h5⟩
theorem pm_LS.kept {n d : String} {A : Nat → Prop} {U : State} {H H1 : Heap} (h : pm_LS n d A U H) (hq : ∀ a : Nat, a < H.size → ¬ A a → H1[a]? = H[a]?) : pm_LS n d A U H1 := by
  obtain ⟨c, k, i, f, a, cell, h0, h1, h2, h3, h4, h5, h6, h7, h8, h9⟩ := h
  exact ⟨c, k, i, f, a, cell, h0, h1, h2, h3, h4, by rw [hq a (Array.getElem?_eq_some_iff.mp h5).1 h9]; exact h5, h6, h7, h8, h9⟩
theorem pm_LS.use {n d : String} {A : Nat → Prop} {U : State} {args : Array Value} (h : pm_LS n d A U U.heap) : (Cond.laysStatic "java/lang/Throwable" n d).before args U = true := by
  obtain ⟨c, k, i, f, a, cell, h0, h1, h2, h3, h4, h5, h6, h7, h8, -⟩ := h
  exact Cond.laysStatic_of h0 h1 h2 h3 h5 h6 h7 h8 h4
theorem pm_LS.of {n d : String} {A : Nat → Prop} {U : State} {args : Array Value} (h : (Cond.laysStatic "java/lang/Throwable" n d).before args U = true) (hA : ∀ a : Nat, a < U.heap.size → ¬ A a) : pm_LS n d A U U.heap := by
  obtain ⟨c, k, i, f, a, cell, hc, hi, hst, ha, hcell, hs, hcls, hlt, hty⟩ := Cond.laysStatic_spec h
  exact ⟨c, k, i, f, a, cell, hc, hi, hst, ha, hty, hcell, hs, hcls, hlt, hA a (Array.getElem?_eq_some_iff.mp hcell).1⟩
def pm_bT (U : State) (G : pm_Gl) : Prop := va_Z "java/lang/Throwable" "UNASSIGNED_STACK" "[Ljava/lang/StackTraceElement;" (va_rf (pm_un (G.2.2 130))) (fun q => G.1 ≤ q) U U.heap ∧ va_Z "java/lang/Throwable" "SUPPRESSED_SENTINEL" "Ljava/util/List;" (va_rf (pm_un (G.2.2 131))) (fun q => G.1 ≤ q) U U.heap ∧ pm_LS "UNASSIGNED_STACK" "[Ljava/lang/StackTraceElement;" (fun q => G.1 ≤ q) U U.heap ∧ pm_LS "SUPPRESSED_SENTINEL" "Ljava/util/List;" (fun q => G.1 ≤ q) U U.heap
def pm_Lo (G : pm_Gl) (U : State) : Prop := pm_bS U G ∧ pm_bB U G ∧ pm_bT U G
theorem pm_Lo.moved {G : pm_Gl} {s U : State} (hR : ∀ i, i < 4 → vk_R (pm_sow i).1 (pm_sow i).2.1 (pm_sow i).2.2 (G.2.2 (100 + i)) U) (hv : s.vm.Alike U.vm) (hq : ∀ a : Nat, a < s.heap.size → ¬ G.1 ≤ a → U.heap[a]? = s.heap[a]?) (h : pm_Lo G s) : pm_Lo G U :=
  ⟨⟨hR, (h.1.2.1.moved hv).kept hq, (h.1.2.2.1.moved hv).kept hq, (h.1.2.2.2.moved hv).kept hq⟩, ⟨(h.2.1.1.moved hv).kept hq, (h.2.1.2.moved hv).kept hq⟩, ⟨(h.2.2.1.moved hv).kept hq, (h.2.2.2.1.moved hv).kept hq, (h.2.2.2.2.1.moved hv).kept hq, (h.2.2.2.2.2.moved hv).kept hq⟩⟩
def pm_Nw (G : pm_Gl) (U : State) : Prop := (∀ w ∈ lw_tbl, pm_isN w = true → va_Nw w U) ∧ (∀ C ∈ [RX0, RX3, RX4, RX7, RX14], va_AO C U) ∧ pm_AO (.array .int) U ∧ pm_AO (.array .byte) U ∧ pm_Lo G U
theorem pm_Nw.warm {G : pm_Gl} {s U : State} (hW : s.WarmedH U.vm) (hq : ∀ a : Nat, a < s.heap.size → ¬ G.1 ≤ a → U.heap[a]? = s.heap[a]?) (h : pm_Nw G s) : pm_Nw G U := by
  refine ⟨fun w hw hn => ?_, fun C hC => (h.2.1 C hC).moved hW.alike, h.2.2.1.moved hW.alike, h.2.2.2.1.moved hW.alike, h.2.2.2.2.moved (fun i hi => vk_R.warm hW (h.2.2.2.2.1.1 i hi)) hW.alike hq⟩
  have h0 := h.1 w hw hn
  match w, hn, h0 with
  | .fieldLinkNest .., _, h0 => exact va_Nw.warmF hW h0
  | .methodLinkNest .., _, h0 => exact va_Nw.warmM hW h0
  | .castable .., _, h0 => exact va_Nw.warmC hW h0
  | .declares _, _, h0 => exact va_Nw.warmD hW h0
theorem pm_Nw.same {G : pm_Gl} {s U : State} (hW : s.vm = U.vm) (hh : s.heap = U.heap) (h : pm_Nw G s) : pm_Nw G U := by
  have ha : s.vm.Alike U.vm := by rw [hW]; exact Vm.Alike.refl _
  refine ⟨fun w hw hn => ?_, fun C hC => (h.2.1 C hC).moved ha, h.2.2.1.moved ha, h.2.2.2.1.moved ha, h.2.2.2.2.moved (fun i hi => vk_R.same hW.symm (h.2.2.2.2.1.1 i hi)) ha (fun a _ _ => by rw [hh])⟩
  have h0 := h.1 w hw hn
  match w, hn, h0 with
  | .fieldLinkNest .., _, h0 => exact va_Nw.same rfl hW h0
  | .methodLinkNest .., _, h0 => exact va_Nw.same rfl hW h0
  | .castable .., _, h0 => exact va_Nw.same rfl hW h0
  | .declares _, _, h0 => exact va_Nw.same rfl hW h0
/-- what is known of the method and of the machine at its entry -/
def pm_C (g : pm_Gm) (cc : ByteArray) (own : String) : Prop := match g with
  | (p, _, _, _, s, m, args, _, meth, c, _, G, nL) => p.tables.exec = Jvm.exec ∧ c.code = cc ∧ (∀ w ∈ lw_tbl, goodWord w = true → w.before args s = true) ∧ s.vm.findClass own = some m.cls ∧ c.maxLocals = nL ∧ meth.locks = false ∧ va_K G.2.1 vwCl (pm_tys G.2.2) s ∧ G.1 ≤ s.heap.size ∧ pm_Nw G s
