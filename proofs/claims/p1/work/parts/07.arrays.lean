theorem pm_rel_arr {G : pm_Gl} {h h' : pm_H} {H H1 : Heap} {a t : Nat} (hR : pm_Rel G h H) (hk : pm_kd h a = t + 32) (hs : pm_sz h' = pm_sz h) (hkd : pm_kd h' = pm_kd h) (hln : pm_ln h' = pm_ln h) (hI : ∀ x, x ≠ a → pm_I h' x = pm_I h x) (hL : ∀ x, x ≠ a → pm_L h' x = pm_L h x) (hRR : ∀ x, x ≠ a → pm_R h' x = pm_R h x)
    (ht : t < 11) (e : H1[G.1 + a]? = some (vp_cell (G.2.2 t) (pm_ln h a, pm_av G.1 h' a (pm_aty t)))) (z : H1.size = H.size) (oq : ∀ q, q ≠ G.1 + a → H1[q]? = H[q]?) : pm_Rel G h' H1 := by
  have ha := pm_live hR hk (by omega)
  have he := pm_ws_at G h ha
  have hE : pm_E G h' a = .inl (G.2.2 t, pm_ln h a, pm_av G.1 h' a (pm_aty t)) := by
    rw [pm_E_arr (h := h') (t := t) (by rw [hkd]; exact hk), hln]
  have hP1 := hR.2.1.set (e := pm_E G h' a) (H1 := H1) (pm_D G h) he (by rw [hE]; exact e) oq
  rw [pm_ws_set hs (fun x hx => pm_E_ne (by rw [hkd]) (by rw [hln]) (hI x hx) (hL x hx) (hRR x hx))] at hP1
  exact ⟨by rw [z, hR.1, hs], hP1, fun x hx => by rw [hkd]; exact hR.2.2 x (by rw [← hs]; exact hx)⟩
theorem pm_cell {G : pm_Gl} {h : pm_H} {H : Heap} {a t : Nat} (hR : pm_Rel G h H) (ht : t < 11) (hk : pm_kd h a = t + 32) : H[G.1 + a]? = some (vp_cell (G.2.2 t) (pm_ln h a, pm_av G.1 h a (pm_aty t))) := by
  have ha := pm_live hR hk (by omega)
  have he := pm_ws_at G h ha
  rw [pm_E_arr (t := t) hk] at he
  exact hR.2.1 a _ he
section PMA
variable {g : pm_Gm} {cc : ByteArray} {own : String} {pc : Nat} {lv : List (Nat × Value)} {st : List Value} {h : pm_H} {kc ks : Nat}
theorem pm_iald (C : pm_C g cc own) {a : Nat} {i : Int32} {v : Int32} (hd : decode cc pc = .ok (.iaload, 1)) (hk : pm_kd h a = 34) (hin : vp_in i (pm_ln h a)) (hv : pm_I h a i.toNatClampNeg = v) (kk : pm_G g (pc + 1) lv (.int v :: st) h kc ks) : pm_G g pc lv (.int i :: .ref a :: st) h kc ks := by
  obtain ⟨p, l, e, R, s, m, args, below, meth, c', Q, G, nL⟩ := g
  obtain ⟨hx, hb, hts, hown, hml, hlocks, hK, hbs, hN⟩ := C
  intro H locs ls hR hS hl
  subst hv
  have he := pm_ws_at G h (pm_live hR hk (by decide))
  rw [pm_E_arr (t := 2) hk] at he
  exact va_iald hx hb hK hR.2.1 a 2 he (pm_tys_at _ (by decide)) hin hd (kk H locs ls hR hS hl)
theorem pm_bald (C : pm_C g cc own) {a : Nat} {i : Int32} {v : Int32} (hd : decode cc pc = .ok (.baload, 1)) (hk : pm_kd h a = 33) (hin : vp_in i (pm_ln h a)) (hv : pm_I h a i.toNatClampNeg = v) (kk : pm_G g (pc + 1) lv (.int v :: st) h kc ks) : pm_G g pc lv (.int i :: .ref a :: st) h kc ks := by
  obtain ⟨p, l, e, R, s, m, args, below, meth, c', Q, G, nL⟩ := g
  obtain ⟨hx, hb, hts, hown, hml, hlocks, hK, hbs, hN⟩ := C
  intro H locs ls hR hS hl
  subst hv
  have he := pm_ws_at G h (pm_live hR hk (by decide))
  rw [pm_E_arr (t := 1) hk] at he
  exact va_bald hx hb hK hR.2.1 a 1 he (pm_tys_at _ (by decide)) hin hd (kk H locs ls hR hS hl)
theorem pm_zald (C : pm_C g cc own) {a : Nat} {i : Int32} {v : Int32} (hd : decode cc pc = .ok (.baload, 1)) (hk : pm_kd h a = 32) (hin : vp_in i (pm_ln h a)) (hv : pm_I h a i.toNatClampNeg = v) (kk : pm_G g (pc + 1) lv (.int v :: st) h kc ks) : pm_G g pc lv (.int i :: .ref a :: st) h kc ks := by
  obtain ⟨p, l, e, R, s, m, args, below, meth, c', Q, G, nL⟩ := g
  obtain ⟨hx, hb, hts, hown, hml, hlocks, hK, hbs, hN⟩ := C
  intro H locs ls hR hS hl
  subst hv
  have he := pm_ws_at G h (pm_live hR hk (by decide))
  rw [pm_E_arr (t := 0) hk] at he
  exact va_zald hx hb hK hR.2.1 a 0 he (pm_tys_at _ (by decide)) hin hd (kk H locs ls hR hS hl)
theorem pm_lald (C : pm_C g cc own) {a : Nat} {i : Int32} {v : Int64} (hd : decode cc pc = .ok (.laload, 1)) (hk : pm_kd h a = 35) (hin : vp_in i (pm_ln h a)) (hv : pm_L h a i.toNatClampNeg = v) (kk : pm_G g (pc + 1) lv (.long v :: st) h kc ks) : pm_G g pc lv (.int i :: .ref a :: st) h kc ks := by
  obtain ⟨p, l, e, R, s, m, args, below, meth, c', Q, G, nL⟩ := g
  obtain ⟨hx, hb, hts, hown, hml, hlocks, hK, hbs, hN⟩ := C
  intro H locs ls hR hS hl
  subst hv
  have he := pm_ws_at G h (pm_live hR hk (by decide))
  rw [pm_E_arr (t := 3) hk] at he
  exact va_lald hx hb hK hR.2.1 a 3 he (pm_tys_at _ (by decide)) hin hd (kk H locs ls hR hS hl)
theorem pm_ald0 (C : pm_C g cc own) {a t : Nat} {i : Int32} (hd : decode cc pc = .ok (.aaload, 1)) (ht : t < 11) (hr : pm_sR (pm_aty t) = true) (hk : pm_kd h a = t + 32) (hin : vp_in i (pm_ln h a)) {v : Value} (hv : ∀ b, va_rf (pm_rf b (pm_R h a i.toNatClampNeg)) = pm_v b v) (kk : pm_G g (pc + 1) lv (v :: st) h kc ks) : pm_G g pc lv (.int i :: .ref a :: st) h kc ks := by
  obtain ⟨p, l, e, R, s, m, args, below, meth, c', Q, G, nL⟩ := g
  obtain ⟨hx, hb, hts, hown, hml, hlocks, hK, hbs, hN⟩ := C
  intro H locs ls hR hS hl
  have hlt : i.toNatClampNeg < pm_ln h a := Nat.not_le.mp fun q => hin (Or.inr q)
  have hc := pm_cell hR ht hk
  have hav : pm_av G.1 h a (pm_aty t) = .inr (.inr (.inr (.inr (fun j => pm_rf G.1 (pm_R h a j))))) := by
    revert hr
    cases pm_aty t <;> intro hr <;> first | rfl | (cases hr)
  rw [hav, vp_cell_q] at hc
  refine W.aald (v := pm_v G.1 v) (ty := pm_aty t) hx hb hc ((hK.2 t _ (pm_tys_at _ ht)).1 (pm_ln h a) (fun j => va_rf (pm_rf G.1 (pm_R h a j)))) ?_ (fun q => by cases q) (by rw [arrV_size]; exact hin) (by rw [arrV_read _ _ hlt, hv]) rfl rfl hd (kk H locs ls hR hS hl)
  revert hr
  cases pm_aty t <;> intro hr <;> first | rfl | (cases hr)
theorem pm_ald (C : pm_C g cc own) {a t : Nat} {i : Int32} {v : Nat} (hd : decode cc pc = .ok (.aaload, 1)) (ht : t < 11) (hr : pm_sR (pm_aty t) = true) (hk : pm_kd h a = t + 32) (hin : vp_in i (pm_ln h a)) (hv : pm_R h a i.toNatClampNeg = some v) (kk : pm_G g (pc + 1) lv (.ref v :: st) h kc ks) : pm_G g pc lv (.int i :: .ref a :: st) h kc ks :=
  pm_ald0 C hd ht hr hk hin (fun b => by rw [hv]; rfl) kk
theorem pm_aldN (C : pm_C g cc own) {a t : Nat} {i : Int32} (hd : decode cc pc = .ok (.aaload, 1)) (ht : t < 11) (hr : pm_sR (pm_aty t) = true) (hk : pm_kd h a = t + 32) (hin : vp_in i (pm_ln h a)) (hv : pm_R h a i.toNatClampNeg = none) (kk : pm_G g (pc + 1) lv (.null :: st) h kc ks) : pm_G g pc lv (.int i :: .ref a :: st) h kc ks :=
  pm_ald0 C hd ht hr hk hin (fun b => by rw [hv]; rfl) kk
theorem pm_alen (C : pm_C g cc own) {a t : Nat} {v : Int32} (hd : decode cc pc = .ok (.arraylength, 1)) (ht : t < 11) (hk : pm_kd h a = t + 32) (hv : Int32.ofNat (pm_ln h a) = v) (kk : pm_G g (pc + 1) lv (.int v :: st) h kc ks) : pm_G g pc lv (.ref a :: st) h kc ks := by
  obtain ⟨p, l, e, R, s, m, args, below, meth, c', Q, G, nL⟩ := g
  obtain ⟨hx, hb, hts, hown, hml, hlocks, hK, hbs, hN⟩ := C
  intro H locs ls hR hS hl
  have he := pm_ws_at G h (pm_live hR hk (by omega))
  rw [pm_E_arr (t := t) hk] at he
  exact va_alen hx hb hK hR.2.1 a t he (pm_tys_at _ ht) hv hd (kk H locs ls hR hS hl)
theorem pm_iast (C : pm_C g cc own) {a : Nat} {i : Int32} {x : Int32} (hd : decode cc pc = .ok (.iastore, 1)) (hk : pm_kd h a = 34) (hin : vp_in i (pm_ln h a)) (kk : pm_G g (pc + 1) lv st (pm_setI h a i.toNatClampNeg x) kc ks) : pm_G g pc lv (.int x :: .int i :: .ref a :: st) h kc ks := by
  obtain ⟨p, l, e, R, s, m, args, below, meth, c', Q, G, nL⟩ := g
  obtain ⟨hx, hb, hts, hown, hml, hlocks, hK, hbs, hN⟩ := C
  intro H locs ls hR hS hl
  have hc := pm_cell (t := 2) hR (by decide) hk
  change H[G.1 + a]? = some (vp_cell (G.2.2 2) (pm_ln h a, .inl (pm_I h a))) at hc
  rw [vp_cell_i] at hc
  refine W.iast hx hb hc ((hK.2 2 _ (pm_tys_at _ (by decide))).1 (pm_ln h a) (fun j => .int (pm_I h a j))) (fun q => by cases q) (by rw [arrV_size]; exact hin) rfl rfl hd fun H1 e1 z oq => ?_
  refine kk H1 _ ls (pm_rel_arr (t := 2) hR hk rfl rfl rfl (fun x hx => pm_u2_n _ _ hx) (fun _ _ => rfl) (fun _ _ => rfl) (by decide) ?_ z oq) (hS.put z oq (Nat.le_add_right _ _)) hl
  show H1[G.1 + a]? = some (vp_cell (G.2.2 2) (pm_ln h a, .inl (pm_I (pm_setI h a i.toNatClampNeg x) a)))
  rw [e1, vp_cell_i, arrV_store]
  congr 2
  funext q
  show updV _ _ _ q = .int (pm_u2 (pm_I h) a i.toNatClampNeg x a q)
  by_cases hq : q = i.toNatClampNeg
  · subst hq
    rw [pm_u2_s]
    simp [updV, vp_nar]
    try rfl
  · rw [pm_u2_k _ _ hq]
    simp [updV, hq]
theorem pm_bast (C : pm_C g cc own) {a : Nat} {i : Int32} {x : Int32} (hd : decode cc pc = .ok (.bastore, 1)) (hk : pm_kd h a = 33) (hin : vp_in i (pm_ln h a)) (kk : pm_G g (pc + 1) lv st (pm_setI h a i.toNatClampNeg (vp_nar .byte x)) kc ks) : pm_G g pc lv (.int x :: .int i :: .ref a :: st) h kc ks := by
  obtain ⟨p, l, e, R, s, m, args, below, meth, c', Q, G, nL⟩ := g
  obtain ⟨hx, hb, hts, hown, hml, hlocks, hK, hbs, hN⟩ := C
  intro H locs ls hR hS hl
  have hc := pm_cell (t := 1) hR (by decide) hk
  change H[G.1 + a]? = some (vp_cell (G.2.2 1) (pm_ln h a, .inl (pm_I h a))) at hc
  rw [vp_cell_i] at hc
  refine W.bast hx hb hc ((hK.2 1 _ (pm_tys_at _ (by decide))).1 (pm_ln h a) (fun j => .int (pm_I h a j))) (fun q => by cases q) (by rw [arrV_size]; exact hin) rfl rfl hd fun H1 e1 z oq => ?_
  refine kk H1 _ ls (pm_rel_arr (t := 1) hR hk rfl rfl rfl (fun x hx => pm_u2_n _ _ hx) (fun _ _ => rfl) (fun _ _ => rfl) (by decide) ?_ z oq) (hS.put z oq (Nat.le_add_right _ _)) hl
  show H1[G.1 + a]? = some (vp_cell (G.2.2 1) (pm_ln h a, .inl (pm_I (pm_setI h a i.toNatClampNeg (vp_nar .byte x)) a)))
  rw [e1, vp_cell_i, arrV_store]
  congr 2
  funext q
  show updV _ _ _ q = .int (pm_u2 (pm_I h) a i.toNatClampNeg (vp_nar .byte x) a q)
  by_cases hq : q = i.toNatClampNeg
  · subst hq
    rw [pm_u2_s]
    simp [updV, vp_nar]
    try rfl
  · rw [pm_u2_k _ _ hq]
    simp [updV, hq]
theorem pm_zast (C : pm_C g cc own) {a : Nat} {i : Int32} {x : Int32} (hd : decode cc pc = .ok (.bastore, 1)) (hk : pm_kd h a = 32) (hin : vp_in i (pm_ln h a)) (kk : pm_G g (pc + 1) lv st (pm_setI h a i.toNatClampNeg (vp_nar .boolean x)) kc ks) : pm_G g pc lv (.int x :: .int i :: .ref a :: st) h kc ks := by
  obtain ⟨p, l, e, R, s, m, args, below, meth, c', Q, G, nL⟩ := g
  obtain ⟨hx, hb, hts, hown, hml, hlocks, hK, hbs, hN⟩ := C
  intro H locs ls hR hS hl
  have hc := pm_cell (t := 0) hR (by decide) hk
  change H[G.1 + a]? = some (vp_cell (G.2.2 0) (pm_ln h a, .inl (pm_I h a))) at hc
  rw [vp_cell_i] at hc
  refine W.zast hx hb hc ((hK.2 0 _ (pm_tys_at _ (by decide))).1 (pm_ln h a) (fun j => .int (pm_I h a j))) (fun q => by cases q) (by rw [arrV_size]; exact hin) rfl rfl hd fun H1 e1 z oq => ?_
  refine kk H1 _ ls (pm_rel_arr (t := 0) hR hk rfl rfl rfl (fun x hx => pm_u2_n _ _ hx) (fun _ _ => rfl) (fun _ _ => rfl) (by decide) ?_ z oq) (hS.put z oq (Nat.le_add_right _ _)) hl
  show H1[G.1 + a]? = some (vp_cell (G.2.2 0) (pm_ln h a, .inl (pm_I (pm_setI h a i.toNatClampNeg (vp_nar .boolean x)) a)))
  rw [e1, vp_cell_i, arrV_store]
  congr 2
  funext q
  show updV _ _ _ q = .int (pm_u2 (pm_I h) a i.toNatClampNeg (vp_nar .boolean x) a q)
  by_cases hq : q = i.toNatClampNeg
  · subst hq
    rw [pm_u2_s]
    simp [updV, vp_nar]
    try rfl
  · rw [pm_u2_k _ _ hq]
    simp [updV, hq]
theorem pm_last (C : pm_C g cc own) {a : Nat} {i : Int32} {x : Int64} (hd : decode cc pc = .ok (.lastore, 1)) (hk : pm_kd h a = 35) (hin : vp_in i (pm_ln h a)) (kk : pm_G g (pc + 1) lv st (pm_setL h a i.toNatClampNeg x) kc ks) : pm_G g pc lv (.long x :: .int i :: .ref a :: st) h kc ks := by
  obtain ⟨p, l, e, R, s, m, args, below, meth, c', Q, G, nL⟩ := g
  obtain ⟨hx, hb, hts, hown, hml, hlocks, hK, hbs, hN⟩ := C
  intro H locs ls hR hS hl
  have hc := pm_cell (t := 3) hR (by decide) hk
  change H[G.1 + a]? = some (vp_cell (G.2.2 3) (pm_ln h a, (fun f => .inr (.inl f)) (pm_L h a))) at hc
  rw [vp_cell_l] at hc
  refine W.last hx hb hc ((hK.2 3 _ (pm_tys_at _ (by decide))).1 (pm_ln h a) (fun j => .long (pm_L h a j))) (fun q => by cases q) (by rw [arrV_size]; exact hin) rfl rfl hd fun H1 e1 z oq => ?_
  refine kk H1 _ ls (pm_rel_arr (t := 3) hR hk rfl rfl rfl (fun _ _ => rfl) (fun x hx => pm_u2_n _ _ hx) (fun _ _ => rfl) (by decide) ?_ z oq) (hS.put z oq (Nat.le_add_right _ _)) hl
  show H1[G.1 + a]? = some (vp_cell (G.2.2 3) (pm_ln h a, (fun f => .inr (.inl f)) (pm_L (pm_setL h a i.toNatClampNeg x) a)))
  rw [e1, vp_cell_l, arrV_store]
  congr 2
  funext q
  show updV _ _ _ q = .long (pm_u2 (pm_L h) a i.toNatClampNeg x a q)
  by_cases hq : q = i.toNatClampNeg
  · subst hq
    rw [pm_u2_s]
    simp [updV, vp_nar]
    try rfl
  · rw [pm_u2_k _ _ hq]
    simp [updV, hq]
theorem pm_new_E {G : pm_Gl} {h : pm_H} {q n x : Nat} (hx : x < pm_sz h) : pm_E G (pm_new h q n) x = pm_E G h x :=
  pm_E_ne (pm_u1_n _ _ (Nat.ne_of_lt hx)) (pm_u1_n _ _ (Nat.ne_of_lt hx)) (pm_row_n _ _ (Nat.ne_of_lt hx)) (pm_row_n _ _ (Nat.ne_of_lt hx)) (pm_row_n _ _ (Nat.ne_of_lt hx))
/-- a new cell behind the last one -/
theorem pm_rel_new {G : pm_Gl} {h : pm_H} {H H1 : Heap} {q n : Nat} (hR : pm_Rel G h H) (he : va_at G.2.1 vwCl (G.1 + pm_sz h, pm_E G (pm_new h q n) (pm_sz h)) H1) (z : H1.size = H.size + 1) (oq : ∀ x, x < H.size → H1[x]? = H[x]?) : pm_Rel G (pm_new h q n) H1 := by
  have hP0 : va_P G.2.1 vwCl (pm_ws G h) H1 := hR.2.1.kept (fun k x hx => oq x.1 ((hR.2.1 k x hx).lt))
  have hP1 : va_P G.2.1 vwCl (pm_ws G h ++ [(G.1 + pm_sz h, pm_E G (pm_new h q n) (pm_sz h))]) H1 := hP0.app (fun k x hx => by
    have hz : k < 1 := (List.getElem?_eq_some_iff.mp hx).1
    rw [show k = 0 by omega] at hx
    cases hx
    exact he)
  rw [pm_ws_push (h' := pm_new h q n) rfl (fun x hx => pm_new_E hx)] at hP1
  refine ⟨by rw [z, hR.1]; rfl, hP1, fun x hx => ?_⟩
  have hx' : pm_sz h + 1 ≤ x := hx
  show pm_u1 (pm_kd h) (pm_sz h) q x = 31
  rw [pm_u1_n _ _ (by omega)]
  exact hR.2.2 x (by omega)
theorem pm_S_new {b : Nat} {H0 H H1 : Heap} {locs : List Loc} (hS : va_S (fun q => b ≤ q) H0 H locs) (z : H1.size = H.size + 1) (oq : ∀ x, x < H.size → H1[x]? = H[x]?) : va_S (fun q => b ≤ q) H0 H1 locs :=
  ⟨Nat.le_trans hS.1 (by omega), fun x h1 h2 => (oq x (Nat.lt_of_lt_of_le h1 hS.1)).trans (hS.2.1 x h1 h2), hS.2.2⟩
theorem pm_fv_0 (b : Nat) (h : pm_H) (q n : Nat) (ty : FieldType) (k : Nat) : pm_fv b (pm_new h q n) (pm_sz h) ty k = defaultValue ty := by
  have h1 : pm_I (pm_new h q n) (pm_sz h) k = 0 := congrFun (pm_row_s (pm_I h) (pm_sz h) (fun _ => (0 : Int32))) k
  have h2 : pm_L (pm_new h q n) (pm_sz h) k = 0 := congrFun (pm_row_s (pm_L h) (pm_sz h) (fun _ => (0 : Int64))) k
  have h3 : pm_R (pm_new h q n) (pm_sz h) k = none := congrFun (pm_row_s (pm_R h) (pm_sz h) (fun _ => (none : Option Nat))) k
  unfold pm_fv
  rw [h1, h2, h3]
  cases ty <;> rfl
theorem pm_fx_0 (G : pm_Gl) (h : pm_H) (q n c k : Nat) : pm_fx G (pm_new h q n) (pm_sz h) c k = defaultValue (pm_fty c k) := by
  unfold pm_fx
  split
  · rename_i hq
    have h1 : pm_I (pm_new h q n) (pm_sz h) k = 0 := congrFun (pm_row_s (pm_I h) (pm_sz h) (fun _ => (0 : Int32))) k
    rw [h1, if_pos rfl]
    obtain ⟨rfl, rfl | rfl⟩ := hq <;> rfl
  · exact pm_fv_0 _ _ _ _ _ _
end PMA
section PMN
variable {g : pm_Gm} {cc : ByteArray} {own : String} {pc : Nat} {lv : List (Nat × Value)} {st : List Value} {h : pm_H} {kc ks : Nat} {l : Launch} {G : pm_Gl} {M : pm_M} {mc ms : Nat} {Qr : Option Value → pm_H → Prop}
theorem pm_newo (C : pm_C g cc own) (X : pm_X g l G M mc ms Qr) {i c : Nat} (hd : decode cc pc = .ok (.new i, 3)) (hc : pm_Cl c) (w1 : Cond.classLink own i (pm_Rn c) ∈ lw_tbl) (w2 : Cond.instantiable (pm_Rn c) (pm_fN c) ∈ lw_tbl) (w3 : Cond.initialized (pm_Rn c) ∈ lw_tbl) (h1 : kc + 1 ≤ mc) (h2 : ks + pm_fN c ≤ ms) (kk : pm_G g (pc + 3) lv (.ref (pm_sz h) :: st) (pm_new h c 0) (kc + 1) (ks + pm_fN c)) : pm_G g pc lv st h kc ks := by
  obtain ⟨p, l', e, R, s, m, args, below, meth, c', Q, G', nL⟩ := g
  obtain ⟨hx, hb, hts, hown, hml, hlocks, hK, hbs, hN⟩ := C
  obtain ⟨rfl, rfl, hQ, hr, rfl, hnL⟩ := X
  intro H locs ls hR hS hl
  have hKn := hK.1 c _ hc.2.1
  have hla := pm_lays hts hc
  refine W.newcK hx hb hown (hts _ w1 rfl) (hts _ w2 rfl) (hts _ w3 rfl) rfl hd h1 h2 hKn.2.1 rfl fun H1 kC hkC e1 z1 o1 => ?_
  rw [show H.size = G'.1 + pm_sz h from hR.1]
  refine kk H1 locs ls (pm_rel_new hR ?_ z1 o1) (pm_S_new hS z1 o1) hl
  have hkd : pm_kd (pm_new h c 0) (pm_sz h) = c := pm_u1_s _ _ _
  rw [pm_E_obj hkd (Nat.lt_succ_of_lt hc.1)]
  have hb1 := u_born (pm_fty c) hla (fun _ q => q) hKn hkC e1 hc.2.2.2.1
  rw [hR.1] at hb1
  refine ⟨_, hc.2.1, hb1.to (fun j hj => ?_)⟩
  show defaultValue (pm_fty c j) = (pm_fs G' (pm_new h c 0) (pm_sz h) c).getD j .null
  rw [List.getD_eq_getElem?_getD, pm_fs_at _ _ _ hj, pm_fx_0]
  rfl
theorem pm_new_arr {G : pm_Gl} {h : pm_H} {t n : Nat} : pm_E G (pm_new h (t + 32) n) (pm_sz h) = .inl (G.2.2 t, n, pm_av G.1 (pm_new h (t + 32) n) (pm_sz h) (pm_aty t)) := by
  rw [pm_E_arr (h := pm_new h (t + 32) n) (t := t) (pm_u1_s _ _ _)]
  show Sum.inl (_, pm_u1 (pm_ln h) (pm_sz h) n (pm_sz h), _) = _
  rw [pm_u1_s]
theorem pm_new_cell {h : pm_H} {t n : Nat} (b : Nat) (cA : ClassId) (ty : FieldType) (hf : ty ≠ .float) (hg : ty ≠ .double) : vp_cell cA (n, pm_av b (pm_new h (t + 32) n) (pm_sz h) ty) = arrV cA n (fun _ => defaultValue ty) := by
  have h1 : pm_I (pm_new h (t + 32) n) (pm_sz h) = fun _ => 0 := pm_row_s _ _ _
  have h2 : pm_L (pm_new h (t + 32) n) (pm_sz h) = fun _ => 0 := pm_row_s _ _ _
  have h3 : pm_R (pm_new h (t + 32) n) (pm_sz h) = fun _ => none := pm_row_s _ _ _
  cases ty <;> first | (exact absurd rfl hf) | (exact absurd rfl hg) | (unfold pm_av; simp only [h1, h2, h3]; rfl)
theorem pm_newa (C : pm_C g cc own) (X : pm_X g l G M mc ms Qr) {at' : ArrayType} {t : Nat} {n : Int32} {N : Nat} (hd : decode cc pc = .ok (.newarray at', 2)) (ht : t < 4) (hty : newarray.typeOf at' = pm_aty t) (w1 : Cond.arrayClass (pm_aty t) ∈ lw_tbl) (hn : ¬ n < 0) (hNn : n.toNatClampNeg = N) (hbytes : N * componentBytes (pm_aty t) ≤ 536870912) (h1 : kc + 1 ≤ mc) (h2 : ks + N ≤ ms) (kk : pm_G g (pc + 2) lv (.ref (pm_sz h) :: st) (pm_new h (t + 32) N) (kc + 1) (ks + N)) : pm_G g pc lv (.int n :: st) h kc ks := by
  obtain ⟨p, l', e, R, s, m, args, below, meth, c', Q, G', nL⟩ := g
  obtain ⟨hx, hb, hts, hown, hml, hlocks, hK, hbs, hN⟩ := C
  obtain ⟨rfl, rfl, hQ, hr, rfl, hnL⟩ := X
  intro H locs ls hR hS hl
  refine va_newaK hx hb (by rw [hty]; exact hts _ w1 rfl) rfl hd rfl hn hNn (by rw [hty]; exact hbytes) h1 h2 rfl fun H1 cA e1 z1 o1 hAr hNm => ?_
  rw [show H.size = G'.1 + pm_sz h from hR.1]
  refine kk H1 locs ls (pm_rel_new hR ?_ z1 o1) (pm_S_new hS z1 o1) hl
  rw [pm_new_arr]
  have hcy := (hK.2 t _ (pm_tys_at G'.2.2 (by omega))).2
  have hty4 : t = 0 ∨ t = 1 ∨ t = 2 ∨ t = 3 := by omega
  have hcA : cA = G'.2.2 t := by
    rw [hty] at hNm
    rcases hty4 with rfl | rfl | rfl | rfl <;> exact Option.some.inj (hNm.symm.trans hcy)
  show H1[G'.1 + pm_sz h]? = some (vp_cell _ _)
  rw [pm_new_cell _ _ _ (by rcases hty4 with rfl | rfl | rfl | rfl <;> decide) (by rcases hty4 with rfl | rfl | rfl | rfl <;> decide), ← hcA, ← hR.1, ← hty]
  exact e1
theorem pm_newq (C : pm_C g cc own) (X : pm_X g l G M mc ms Qr) {i t c : Nat} {n : Int32} {N : Nat} (hd : decode cc pc = .ok (.anewarray i, 3)) (ht : t < 11) (hty : pm_aty t = .object (pm_Rn c)) (hao : pm_Rn c ∈ [RX0, RX3, RX4, RX7, RX14]) (w1 : Cond.classLink own i (pm_Rn c) ∈ lw_tbl) (hn : ¬ n < 0) (hNn : n.toNatClampNeg = N) (hbytes : N * 4 ≤ 536870912) (h1 : kc + 1 ≤ mc) (h2 : ks + N ≤ ms) (kk : pm_G g (pc + 3) lv (.ref (pm_sz h) :: st) (pm_new h (t + 32) N) (kc + 1) (ks + N)) : pm_G g pc lv (.int n :: st) h kc ks := by
  obtain ⟨p, l', e, R, s, m, args, below, meth, c', Q, G', nL⟩ := g
  obtain ⟨hx, hb, hts, hown, hml, hlocks, hK, hbs, hN⟩ := C
  obtain ⟨rfl, rfl, hQ, hr, rfl, hnL⟩ := X
  intro H locs ls hR hS hl
  subst hNn
  refine W.anew hx hb hown (hts _ w1 rfl) (va_AO.use (hN.2.1 _ hao)) rfl hd rfl hn hbytes h1 h2 fun cA kA comp f1 f2 f3 f4 => ?_
  generalize hH1 : H.push ({ cls := cA, slots := Array.replicate n.toNatClampNeg .null, vm := .none } : Cell) = H1
  have z1 : H1.size = H.size + 1 := by rw [← hH1, Array.size_push]
  have e1 : H1[H.size]? = some (arrV cA n.toNatClampNeg (fun _ => .null)) := by rw [← hH1, Array.getElem?_push_size, ← arrV_new]
  have o1 : ∀ q : Nat, q < H.size → H1[q]? = H[q]? := fun q hq => by rw [← hH1, Array.getElem?_push, if_neg (Nat.ne_of_lt hq)]
  rw [show H.size = G'.1 + pm_sz h from hR.1]
  refine kk H1 locs ls (pm_rel_new hR ?_ z1 o1) (pm_S_new hS z1 o1) hl
  rw [pm_new_arr]
  have hcy := (hK.2 t _ (pm_tys_at G'.2.2 ht)).2
  rw [hty] at hcy ⊢
  obtain ⟨kA', comp', -, -, -, f5⟩ := hcy
  have hcA : cA = G'.2.2 t := Option.some.inj (f1.symm.trans f5)
  show H1[G'.1 + pm_sz h]? = some (vp_cell _ _)
  rw [pm_new_cell _ _ _ (by intro q; cases q) (by intro q; cases q), ← hcA, ← hR.1]
  exact e1
end PMN
