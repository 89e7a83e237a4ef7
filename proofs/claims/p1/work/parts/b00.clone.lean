/-! CLONE of an array of numbers; checkcast of an array -/
def pm_cl (h : pm_H) (a t : Nat) : pm_H := (pm_sz h + 1, pm_u1 (pm_kd h) (pm_sz h) (t + 32), pm_u1 (pm_ln h) (pm_sz h) (pm_ln h a), pm_row (pm_I h) (pm_sz h) (pm_I h a), pm_row (pm_L h) (pm_sz h) (pm_L h a), pm_row (pm_R h) (pm_sz h) (pm_R h a))
theorem pm_cl_S3 (h : pm_H) (a t : Nat) : pm_S3 (pm_cl h a t) (pm_new h (t + 32) (pm_ln h a)) := ⟨rfl, rfl, rfl⟩
theorem pm_Le_cl (h : pm_H) (a t : Nat) : pm_Le h (pm_cl h a t) := (pm_Le_new h (t + 32) (pm_ln h a)).trans (pm_S3.le (pm_cl_S3 h a t))
theorem pm_rel_cl {G : pm_Gl} {h : pm_H} {H H1 : Heap} {a t : Nat} (hR : pm_Rel G h H) (he : H1[H.size]? = some (vp_cell (G.2.2 t) (pm_ln h a, pm_av G.1 h a (pm_aty t)))) (z : H1.size = H.size + 1) (oq : ∀ x, x < H.size → H1[x]? = H[x]?) : pm_Rel G (pm_cl h a t) H1 := by
  have hE : ∀ x, x < pm_sz h → pm_E G (pm_cl h a t) x = pm_E G h x := fun x hx => pm_E_ne (pm_u1_n _ _ (Nat.ne_of_lt hx)) (pm_u1_n _ _ (Nat.ne_of_lt hx)) (pm_row_n _ _ (Nat.ne_of_lt hx)) (pm_row_n _ _ (Nat.ne_of_lt hx)) (pm_row_n _ _ (Nat.ne_of_lt hx))
  have hI : pm_I (pm_cl h a t) (pm_sz h) = pm_I h a := pm_row_s _ _ _
  have hL : pm_L (pm_cl h a t) (pm_sz h) = pm_L h a := pm_row_s _ _ _
  have hRR : pm_R (pm_cl h a t) (pm_sz h) = pm_R h a := pm_row_s _ _ _
  have hav : pm_av G.1 (pm_cl h a t) (pm_sz h) (pm_aty t) = pm_av G.1 h a (pm_aty t) := by
    unfold pm_av
    rw [hI, hL, hRR]
  have hEn : pm_E G (pm_cl h a t) (pm_sz h) = .inl (G.2.2 t, pm_ln h a, pm_av G.1 h a (pm_aty t)) := by
    rw [pm_E_arr (h := pm_cl h a t) (t := t) (pm_u1_s _ _ _), hav]
    show Sum.inl (_, pm_u1 (pm_ln h) (pm_sz h) (pm_ln h a) (pm_sz h), _) = _
    rw [pm_u1_s]
  have hP0 : va_P G.2.1 vwCl (pm_ws G h) H1 := hR.2.1.kept (fun k x hx => oq x.1 ((hR.2.1 k x hx).lt))
  have hP1 : va_P G.2.1 vwCl (pm_ws G h ++ [(G.1 + pm_sz h, pm_E G (pm_cl h a t) (pm_sz h))]) H1 := hP0.app (fun k x hx => by
    have hz : k < 1 := (List.getElem?_eq_some_iff.mp hx).1
    rw [show k = 0 by omega] at hx
    cases hx
    rw [hEn, ← hR.1]
    exact he)
  rw [pm_ws_push (h' := pm_cl h a t) rfl hE] at hP1
  refine ⟨by rw [z, hR.1]; rfl, hP1, fun x hx => ?_⟩
  have hx' : pm_sz h + 1 ≤ x := hx
  show pm_u1 (pm_kd h) (pm_sz h) (t + 32) x = 31
  rw [pm_u1_n _ _ (by omega)]
  exact hR.2.2 x (by omega)
def pm_ClW (own : String) (i : Nat) (ad : String) : Prop := Cond.methodLink own i ⟨ad, "clone", "()Ljava/lang/Object;"⟩ ∈ lw_tbl ∧ Cond.sameMethod ad "java/lang/Object" "clone" "()Ljava/lang/Object;" ∈ lw_tbl ∧ Cond.native ⟨"java/lang/Object", "clone", "()Ljava/lang/Object;"⟩ ∈ lw_tbl ∧ Cond.instanceMethod ⟨"java/lang/Object", "clone", "()Ljava/lang/Object;"⟩ ∈ lw_tbl ∧ Cond.selects ad ⟨ad, "clone", "()Ljava/lang/Object;"⟩ ⟨"java/lang/Object", "clone", "()Ljava/lang/Object;"⟩ ∈ lw_tbl ∧ Cond.castable ad "java/lang/Cloneable" ∈ lw_tbl
def pm_ad : Nat → String := fun t => match t with
  | 1 => "[B"
  | 2 => "[I"
  | _ => "[J"
theorem pm_ad_c {G : pm_Gl} {s : State} (hK : va_K G.2.1 vwCl (pm_tys G.2.2) s) {t : Nat} (ht : t = 1 ∨ t = 2 ∨ t = 3) : s.vm.findClass (pm_ad t) = some (G.2.2 t) := by
  rcases ht with rfl | rfl | rfl
  · exact va_nm_byte (hK.2 1 _ (pm_tys_at G.2.2 (by decide))).2
  · exact va_nm_int (hK.2 2 _ (pm_tys_at G.2.2 (by decide))).2
  · exact va_nm_long (hK.2 3 _ (pm_tys_at G.2.2 (by decide))).2
theorem pm_castA {g : pm_Gm} {cc : ByteArray} {own : String} {pc : Nat} {lv : List (Nat × Value)} {st : List Value} {h : pm_H} {kc ks : Nat} (C : pm_C g cc own) {i a t : Nat} (hd : decode cc pc = .ok (.checkcast i, 3)) (w : Cond.classLink own i (pm_ad t) ∈ lw_tbl) (ht : t = 1 ∨ t = 2 ∨ t = 3) (hk : pm_kd h a = t + 32) (kk : pm_G g (pc + 3) lv (.ref a :: st) h kc ks) : pm_G g pc lv (.ref a :: st) h kc ks := by
  obtain ⟨p, l, e, R, s, m, args, below, meth, c', Q, G, nL⟩ := g
  obtain ⟨hx, hb, hts, hown, hml, hlocks, hK, hbs, hN⟩ := C
  intro H locs ls hR hS hl
  have he := pm_ws_at G h (pm_live hR hk (by omega))
  rw [pm_E_arr (t := t) hk] at he
  exact va_castA hx hb hown (hts _ w rfl) hR.2.1 a he (pm_ad_c hK ht) hd (kk H locs ls hR hS hl)
theorem pa_clone {g : pm_Gm} {cc : ByteArray} {own : String} {pc : Nat} {lv : List (Nat × Value)} {st : List Value} {h hb h0 r2 : pm_H} {l : Launch} {G : pm_Gl} {M : pm_M} {Qr : Option Value → pm_H → Prop} (C : pm_C g cc own) (X : pm_X g l G M (pm_sz r2 - pm_sz h0) (pm_us r2 - pm_us h0) Qr) (K : pm_S3 h hb) (m : pm_Le h0 hb) {i a t : Nat} (hd : decode cc pc = .ok (.invokevirtual i, 3)) (w : pm_ClW own i (pm_ad t)) (ht : t = 1 ∨ t = 2 ∨ t = 3) (hk : pm_kd h a = t + 32) (hfit : ∀ j, j < pm_ln h a → fits (pm_aty t) (.int (pm_I h a j)) = true ∨ t = 3) (hF : 1 ≤ M.2.2.2.2.1) (hL : 22 ≤ M.2.2.2.2.2) (hcat : (st.map fun v => v.category).sum ≤ 8) (le : pm_Le (pm_cl h a t) r2)
    (kk : pm_G g (pc + 3) lv (.ref (pm_sz h) :: st) (pm_cl h a t) (pm_sz (pm_cl h a t) - pm_sz h0) (pm_us (pm_cl h a t) - pm_us h0)) : pm_G g pc lv (.ref a :: st) h (pm_sz hb - pm_sz h0) (pm_us hb - pm_us h0) := by
  have e1 : pm_sz (pm_cl h a t) - pm_sz h0 = pm_sz hb - pm_sz h0 + 1 := pa_n1 (t + 32) (pm_ln h a) K m
  have e2 : pm_us (pm_cl h a t) - pm_us h0 = pm_us hb - pm_us h0 + pm_ln h a := by
    rw [(pm_cl_S3 h a t).us]
    exact pa_n2 (t + 32) (pm_ln h a) (pm_ln h a) (if_neg (by omega)) K m
  have c1 : pm_sz hb - pm_sz h0 + 1 ≤ pm_sz r2 - pm_sz h0 := by rw [← e1]; exact Nat.sub_le_sub_right le.1 _
  have c2 : pm_us hb - pm_us h0 + pm_ln h a ≤ pm_us r2 - pm_us h0 := by rw [← e2]; exact Nat.sub_le_sub_right le.2 _
  rw [e1, e2] at kk
  generalize pm_sz hb - pm_sz h0 = kc at kk c1 ⊢
  generalize pm_us hb - pm_us h0 = ks at kk c2 ⊢
  obtain ⟨p, l', e, R, s, m', args, below, meth, c', Q, G', nL⟩ := g
  obtain ⟨hx, hb', hts, hown, hml, hlocks, hK, hbs, hN⟩ := C
  obtain ⟨rfl, rfl, hQ, hr, rfl, hnL⟩ := X
  intro H locs ls hR hS hl
  have ht11 : t < 11 := by omega
  have hc := pm_cell hR ht11 hk
  generalize hx0 : (pm_ln h a, pm_av G'.1 h a (pm_aty t)) = x at hc
  have hx1 : x.1 = pm_ln h a := by rw [← hx0]
  have hsz : (vp_cell (G'.2.2 t) x).slots.size = x.1 := by
    obtain ⟨n, f | f | f | f | f⟩ := x <;> exact arrV_size _ _ _
  have hvm0 : (vp_cell (G'.2.2 t) x).vm = .none := by
    obtain ⟨n, f | f | f | f | f⟩ := x <;> rfl
  have hcl0 : (vp_cell (G'.2.2 t) x).cls = G'.2.2 t := by
    obtain ⟨n, f | f | f | f | f⟩ := x <;> rfl
  have hcellE : ({ cls := (vp_cell (G'.2.2 t) x).cls, slots := (vp_cell (G'.2.2 t) x).slots } : Cell) = vp_cell (G'.2.2 t) x := by
    obtain ⟨n, f | f | f | f | f⟩ := x <;> rfl
  have hfits : ∀ (j : Nat) (v : Value), (vp_cell (G'.2.2 t) x).slots[j]? = some v → fits (pm_aty t) v = true := by
    rw [← hx0]
    rcases ht with rfl | rfl | rfl
    · exact va_fit (cA := G'.2.2 1) (n := pm_ln h a) (F := fun j => .int (pm_I h a j)) (fun j hj => (hfit j hj).elim id (fun q => by cases q))
    · exact va_fit (cA := G'.2.2 2) (n := pm_ln h a) (F := fun j => .int (pm_I h a j)) (fun _ _ => rfl)
    · exact va_fit (cA := G'.2.2 3) (n := pm_ln h a) (F := fun j => .long (pm_L h a j)) (fun _ _ => rfl)
  obtain ⟨c0, t0', f1, f2, f3⟩ := Cond.castable_spec (va_Nw.use (A := args) rfl (hN.1 _ w.2.2.2.2.2 rfl))
  cases (pm_ad_c hK ht).symm.trans f1
  have hsum : ((st.map (pm_v G'.1)).map fun v => v.category).sum ≤ 8 := by rw [pm_catsum]; exact hcat
  intro T hT X
  have hcellT : T.heap[G'.1 + a]? = some (vp_cell (G'.2.2 t) x) := by rw [hT]; exact hc
  obtain ⟨-, kA, hkA, comp, hkind⟩ := State.isArrayOf_alike X.warmed.alike ((hK.2 t _ (pm_tys_at G'.2.2 ht11)).1 0 (fun _ => .null))
  obtain ⟨-, kS, hkS, compS, hkindS⟩ := (hK.2 t _ (pm_tys_at G'.2.2 ht11)).1 0 (fun _ => .null)
  obtain ⟨vm', X', stp⟩ := X.cloneArray hx hown (hts _ w.1 rfl) (hts _ w.2.1 rfl) (hts _ w.2.2.1 rfl) (hts _ w.2.2.2.1 rfl) (hts _ w.2.2.2.2.1 rfl) (a := G'.1 + a) (cell := vp_cell (G'.2.2 t) x) hcellT (fun k h => by rw [hvm0] at h; cases h) (by rw [hvm0]; exact fun h => by cases h) (by rw [hcl0]; exact pm_ad_c hK ht) f2 (by rw [hcl0]; exact f3)
    (fun j v hv => by
      rw [hcl0]
      have hk' : T.vm.classes[G'.2.2 t]? = some kA := hkA
      simpa [State.fitsSlot, State.slotType?, hk', hkind] using hfits j v hv)
    (g := F0 m' pc ls ((.ref a :: st).map (pm_v G'.1))) rfl (by rw [hml]; exact hl.1) rfl (by rw [hb']; exact hd) hF (by show 2 * 0 + _ + 14 ≤ M.2.2.2.2.2; omega) c1 (by rw [hsz, hx1]; exact c2) (hloader := by rw [hcl0]; exact Vm.clonesLoader_of_array hkS hkindS)
  rw [hcellE, hsz] at X'
  generalize hH1 : H.push (vp_cell (G'.2.2 t) x) = H1
  have z1 : H1.size = H.size + 1 := by rw [← hH1, Array.size_push]
  have e9 : H1[H.size]? = some (vp_cell (G'.2.2 t) x) := by rw [← hH1, Array.getElem?_push_size]
  have o1 : ∀ q : Nat, q < H.size → H1[q]? = H[q]? := fun q hq => by rw [← hH1, Array.getElem?_push, if_neg (Nat.ne_of_lt hq)]
  rw [hx1] at X'
  obtain ⟨t9, b1, b2⟩ := kk H1 locs ls (pm_rel_cl hR (by rw [hx0]; exact e9) z1 o1) (pm_S_new hS z1 o1) hl ((T.setVm vm').pushCell (vp_cell (G'.2.2 t) x)) (by rw [← hH1, ← hT]; rfl) X'
  refine ⟨t9, stp t9 ?_, b2⟩
  rw [hcellE, hT, hR.1]
  exact b1
