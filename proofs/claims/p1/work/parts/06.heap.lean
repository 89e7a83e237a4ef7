def pm_F (own : String) (i c k : Nat) : Prop := pm_Cl c ∧ (k < pm_fN c ∧ c ≠ 13) ∧ (Cond.fieldLink own i (pm_T c k).1 (pm_T c k).2.1 (pm_T c k).2.2.1 ∈ lw_tbl ∨ ∃ host, Cond.fieldLinkNest own i (pm_T c k).1 (pm_T c k).2.1 (pm_T c k).2.2.1 host ∈ lw_tbl)
def pm_sI : FieldType → Bool := fun t => match t with
  | .int => true
  | .boolean => true
  | .byte => true
  | .char => true
  | .short => true
  | _ => false
def pm_sR : FieldType → Bool := fun t => match t with
  | .object _ => true
  | .array _ => true
  | _ => false
theorem pm_fv_I {ty : FieldType} (hs : pm_sI ty = true) (b : Nat) (h : pm_H) (a k : Nat) : pm_fv b h a ty k = .int (pm_I h a k) := by
  cases ty <;> first | rfl | (cases hs)
theorem pm_fv_R {ty : FieldType} (hs : pm_sR ty = true) (b : Nat) (h : pm_H) (a k : Nat) : pm_fv b h a ty k = va_rf (pm_rf b (pm_R h a k)) := by
  cases ty <;> first | rfl | (cases hs)
theorem pm_fv_k {b : Nat} {h h' : pm_H} {a k : Nat} (h3 : pm_I h' a k = pm_I h a k) (h4 : pm_L h' a k = pm_L h a k) (h5 : pm_R h' a k = pm_R h a k) (ty : FieldType) : pm_fv b h' a ty k = pm_fv b h a ty k := by
  unfold pm_fv
  rw [h3, h4, h5]
theorem pm_lays {args : Array Value} {s : State} {c : Nat} (hts : ∀ w ∈ lw_tbl, goodWord w = true → w.before args s = true) (hc : pm_Cl c) : ∀ w ∈ u_ws (pm_Rn c) (pm_T c) (pm_fN c), w.before args s = true := by
  intro w hw
  refine hts w (hc.2.2.1 w hw) ?_
  unfold u_ws at hw
  obtain ⟨k, -, rfl⟩ := List.mem_map.mp hw
  unfold u_lay
  split <;> rfl
section PMH
variable {g : pm_Gm} {cc : ByteArray} {own : String} {pc : Nat} {lv : List (Nat × Value)} {st : List Value} {h : pm_H} {kc ks : Nat}
theorem pm_get0 (C : pm_C g cc own) {i a c k : Nat} {v : Value} (hd : decode cc pc = .ok (.getfield i, 3)) (f : pm_F own i c k) (hk : pm_kd h a = c) (hv : ∀ b, pm_fv b h a (pm_fty c k) k = pm_v b v) (kk : pm_G g (pc + 3) lv (v :: st) h kc ks) : pm_G g pc lv (.ref a :: st) h kc ks := by
  obtain ⟨p, l, e, R, s, m, args, below, meth, c', Q, G, nL⟩ := g
  obtain ⟨hx, hb, hts, hown, hml, hlocks, hK, hbs, hN⟩ := C
  intro H locs ls hR hS hl
  have ha := pm_live hR hk (Nat.ne_of_lt f.1.1)
  have he := pm_ws_at G h ha
  rw [pm_E_obj hk (Nat.lt_succ_of_lt f.1.1)] at he
  have hfs : (pm_fs G h a c)[k]? = some (pm_v G.1 v) := by rw [pm_fs_at _ _ _ f.2.1.1, pm_fx_n _ _ _ _ f.2.1.2, hv]
  rcases f.2.2 with hw | ⟨host, hw⟩
  · exact va_get hx hb (pm_lays hts f.1) (fun _ q => q) hown hK hR.2.1 a he f.1.2.1 k f.2.1.1 (hts _ hw rfl) (fun _ q => q) hfs hd (kk H locs ls hR hS hl)
  · exact va_getN hx hb (pm_lays hts f.1) (fun _ q => q) hown hK hR.2.1 a he f.1.2.1 k f.2.1.1 (va_Nw.use rfl (hN.1 _ hw rfl)) (fun _ q => q) hfs hd (kk H locs ls hR hS hl)
theorem pm_getI (C : pm_C g cc own) {i a c k : Nat} {v : Int32} (hd : decode cc pc = .ok (.getfield i, 3)) (f : pm_F own i c k) (hty : pm_sI (pm_fty c k) = true) (hk : pm_kd h a = c) (hv : pm_I h a k = v) (kk : pm_G g (pc + 3) lv (.int v :: st) h kc ks) : pm_G g pc lv (.ref a :: st) h kc ks :=
  pm_get0 C hd f hk (fun b => by rw [pm_fv_I hty, hv]; rfl) kk
theorem pm_getL (C : pm_C g cc own) {i a c k : Nat} {v : Int64} (hd : decode cc pc = .ok (.getfield i, 3)) (f : pm_F own i c k) (hty : pm_fty c k = .long) (hk : pm_kd h a = c) (hv : pm_L h a k = v) (kk : pm_G g (pc + 3) lv (.long v :: st) h kc ks) : pm_G g pc lv (.ref a :: st) h kc ks :=
  pm_get0 C hd f hk (fun b => by rw [hty, ← hv]; rfl) kk
theorem pm_getR (C : pm_C g cc own) {i a c k : Nat} {v : Nat} (hd : decode cc pc = .ok (.getfield i, 3)) (f : pm_F own i c k) (hty : pm_sR (pm_fty c k) = true) (hk : pm_kd h a = c) (hv : pm_R h a k = some v) (kk : pm_G g (pc + 3) lv (.ref v :: st) h kc ks) : pm_G g pc lv (.ref a :: st) h kc ks :=
  pm_get0 C hd f hk (fun b => by rw [pm_fv_R hty, hv]; rfl) kk
theorem pm_getN (C : pm_C g cc own) {i a c k : Nat} (hd : decode cc pc = .ok (.getfield i, 3)) (f : pm_F own i c k) (hty : pm_sR (pm_fty c k) = true) (hk : pm_kd h a = c) (hv : pm_R h a k = none) (kk : pm_G g (pc + 3) lv (.null :: st) h kc ks) : pm_G g pc lv (.ref a :: st) h kc ks :=
  pm_get0 C hd f hk (fun b => by rw [pm_fv_R hty, hv]; rfl) kk
/-- a field is written: of h the new pure heap h' -/
theorem pm_put0 (C : pm_C g cc own) {i a c k : Nat} {v : Value} {h' : pm_H} (hd : decode cc pc = .ok (.putfield i, 3)) (f : pm_F own i c k) (hfin : (pm_T c k).2.2.2 = false ∨ ((pm_T c k).2.2.2 = true ∧ g.2.2.2.2.2.2.2.2.1.name = "<init>" ∧ (pm_T c k).1 = own ∧ Cond.fieldLink own i (pm_T c k).1 (pm_T c k).2.1 (pm_T c k).2.2.1 ∈ lw_tbl)) (hk : pm_kd h a = c) (hn : ∀ b, narrow (pm_fty c k) (pm_v b v) = pm_v b v) (hf : ∀ b, fits (pm_fty c k) (pm_v b v) = true)
    (hs : pm_sz h' = pm_sz h) (hkd : pm_kd h' = pm_kd h) (hln : pm_ln h' = pm_ln h) (hI : ∀ x, x ≠ a → pm_I h' x = pm_I h x) (hL : ∀ x, x ≠ a → pm_L h' x = pm_L h x) (hRR : ∀ x, x ≠ a → pm_R h' x = pm_R h x) (hv : ∀ b, pm_fv b h' a (pm_fty c k) k = pm_v b v) (ho : ∀ b j, j ≠ k → pm_fv b h' a (pm_fty c j) j = pm_fv b h a (pm_fty c j) j)
    (kk : pm_G g (pc + 3) lv st h' kc ks) : pm_G g pc lv (v :: .ref a :: st) h kc ks := by
  obtain ⟨p, l, e, R, s, m, args, below, meth, c', Q, G, nL⟩ := g
  obtain ⟨hx, hb, hts, hown, hml, hlocks, hK, hbs, hN⟩ := C
  intro H locs ls hR hS hl
  have ha := pm_live hR hk (Nat.ne_of_lt f.1.1)
  have he := pm_ws_at G h ha
  rw [pm_E_obj hk (Nat.lt_succ_of_lt f.1.1)] at he
  have hE : pm_E G h' a = .inr (c, (pm_fs G h a c).set k (pm_v G.1 v)) := by
    rw [pm_E_obj (h := h') (by rw [hkd]; exact hk) (Nat.lt_succ_of_lt f.1.1), pm_fs_set (by rw [pm_fx_n _ _ _ _ f.2.1.2]; exact hv G.1) (fun j hj => by rw [pm_fx_n _ _ _ _ f.2.1.2, pm_fx_n _ _ _ _ f.2.1.2]; exact ho G.1 j hj)]
  have hset : (pm_ws G h).set a (G.1 + a, .inr (c, (pm_fs G h a c).set k (pm_v G.1 v))) = pm_ws G h' := by
    rw [← hE]
    exact pm_ws_set hs (fun x hx => pm_E_ne (by rw [hkd]) (by rw [hln]) (hI x hx) (hL x hx) (hRR x hx))
  have hlen : k < (pm_fs G h a c).length := by rw [pm_fs_len]; exact f.2.1.1
  have hty := f.1.2.2.2.1 k f.2.1.1
  have hla := pm_lays hts f.1
  have hap := va_apart (own := own) hla (fun _ q => q) (pm_fty c) f.1.2.2.2.1 f.1.2.2.2.2 hK f.1.2.1
  obtain ⟨r, h1, cell, q1, q2, q3, q4⟩ := hR.2.1 a _ he
  have hr : r = (pm_Rn c, pm_T c, pm_fN c) := Option.some.inj (h1.symm.trans f.1.2.1)
  subst hr
  obtain ⟨hSl, hfc, kC, hkC, hkind⟩ := hK.1 c _ f.1.2.1
  obtain ⟨cf, kf, fi, fd, hi, hsl⟩ := hSl k f.2.1.1
  have hst := (u_facts hfc hkC (u_lays hla (fun _ q => q) f.2.1.1) hi).1
  have hlay := hla _ (u_in_lay f.2.1.1)
  unfold u_lay at hlay
  have fin : ∀ (H1 : Heap) (i0 : Nat), H1[G.1 + a]? = some (cell.setSlot fd.slot (pm_v G.1 v)) → H1.size = H.size → (∀ q, q ≠ G.1 + a → H1[q]? = H[q]?) → W p l e R s m args below meth c' H1 (locs ++ [⟨G.1 + a, i0⟩]) kc ks Q (F0 m (pc + 3) ls (st.map (pm_v G.1))) := by
    intro H1 i0 e1 e2 e3
    rw [hsl] at e1
    have hP1 := hR.2.1.set (e := .inr (c, (pm_fs G h a c).set k (pm_v G.1 v))) (H1 := H1) (pm_D G h) he ⟨_, f.1.2.1, t_OB.to (V := updV (vp_V (pm_fs G h a c)) k (pm_v G.1 v)) ⟨_, e1, q2, q3, t_set q4 hap f.2.1.1 (pm_v G.1 v)⟩ (fun j _ => vp_updV_set hlen (pm_v G.1 v) j)⟩ e3
    rw [hset] at hP1
    exact kk H1 _ ls ⟨by rw [e2, hR.1, hs], hP1, fun x hx => by rw [hkd]; exact hR.2.2 x (by rw [← hs]; exact hx)⟩ (hS.put e2 e3 (Nat.le_add_right _ _)) hl
  rcases hfin with hfin | ⟨hfin, hin2, hdecl, hw⟩
  · rw [if_neg (by rw [hfin]; decide)] at hlay
    have h6 := u_store hfc hkC hkind hlay hi hty (hn G.1) (hf G.1)
    rcases f.2.2 with hw | ⟨host, hw⟩
    · exact W.putK hx hb (f := fd) ⟨hown, hts _ hw rfl, ⟨_, _, _, hi⟩, hst⟩ (by rw [q2]; exact h6) q1 q3 (by rw [hsl]; exact k2_hasslot (q4 k f.2.1.1)) rfl rfl hd fun H' e1 e2 e3 => fin H' _ e1 e2 e3
    · exact va_WputK hx hb (f := fd) hown (va_Nw.use rfl (hN.1 _ hw rfl)) hi hst (by rw [q2]; exact h6) q1 q3 (by rw [hsl]; exact k2_hasslot (q4 k f.2.1.1)) rfl rfl hd fun H' e1 e2 e3 => fin H' _ e1 e2 e3
  · rw [if_pos hfin] at hlay
    have hcf : m.cls = cf := by
      obtain ⟨_, _, c9, _, _, _, -, -, hf', -, -, -, hown2, -⟩ := Cond.laysFinal_spec hlay
      have e1 : c9 = cf := by have := hi.symm.trans hf'; simp at this; exact this.1.symm
      rw [hdecl] at hown2
      rw [← e1]; exact Option.some.inj (hown.symm.trans hown2)
    have h6 := u_fits hfc hkC hkind (Or.inr hlay) hi hty (hn G.1) (hf G.1)
    exact W.putFinK hx hb hown (hts _ hw rfl) hi hst hcf hin2 (by rw [q2]; exact h6) q1 q3 (by rw [hsl]; exact k2_hasslot (q4 k f.2.1.1)) rfl rfl hd fun H' e1 e2 e3 => fin H' _ e1 e2 e3
theorem pm_putI (C : pm_C g cc own) {i a c k : Nat} {v : Int32} (hd : decode cc pc = .ok (.putfield i, 3)) (f : pm_F own i c k) (hfin : (pm_T c k).2.2.2 = false) (hty : pm_sI (pm_fty c k) = true) (hk : pm_kd h a = c) (hn : narrow (pm_fty c k) (.int v) = .int v) (hf : fits (pm_fty c k) (.int v) = true) (kk : pm_G g (pc + 3) lv st (pm_setI h a k v) kc ks) : pm_G g pc lv (.int v :: .ref a :: st) h kc ks :=
  pm_put0 (v := .int v) (h' := pm_setI h a k v) C hd f (Or.inl hfin) hk (fun _ => hn) (fun _ => hf) rfl rfl rfl (fun x hx => pm_u2_n _ _ hx) (fun _ _ => rfl) (fun _ _ => rfl) (fun b => by rw [pm_fv_I hty]; exact congrArg Value.int (pm_u2_s _ _ _ _)) (fun b j hj => pm_fv_k (h := h) (h' := pm_setI h a k v) (pm_u2_k _ _ hj _) rfl rfl _) kk
theorem pm_putL (C : pm_C g cc own) {i a c k : Nat} {v : Int64} (hd : decode cc pc = .ok (.putfield i, 3)) (f : pm_F own i c k) (hfin : (pm_T c k).2.2.2 = false) (hty : pm_fty c k = .long) (hk : pm_kd h a = c) (kk : pm_G g (pc + 3) lv st (pm_setL h a k v) kc ks) : pm_G g pc lv (.long v :: .ref a :: st) h kc ks :=
  pm_put0 (v := .long v) (h' := pm_setL h a k v) C hd f (Or.inl hfin) hk (fun _ => by rw [hty]; rfl) (fun _ => by rw [hty]; rfl) rfl rfl rfl (fun _ _ => rfl) (fun x hx => pm_u2_n _ _ hx) (fun _ _ => rfl) (fun b => by rw [hty]; exact congrArg Value.long (pm_u2_s _ _ _ _)) (fun b j hj => pm_fv_k (h := h) (h' := pm_setL h a k v) rfl (pm_u2_k _ _ hj _) rfl _) kk
theorem pm_nr {ty : FieldType} (hs : pm_sR ty = true) (x : Nat) : narrow ty (.ref x) = .ref x ∧ fits ty (.ref x) = true ∧ narrow ty .null = .null ∧ fits ty .null = true := by
  cases ty <;> first | exact ⟨rfl, rfl, rfl, rfl⟩ | (cases hs)
theorem pm_putR (C : pm_C g cc own) {i a c k : Nat} {v : Nat} (hd : decode cc pc = .ok (.putfield i, 3)) (f : pm_F own i c k) (hfin : (pm_T c k).2.2.2 = false) (hty : pm_sR (pm_fty c k) = true) (hk : pm_kd h a = c) (kk : pm_G g (pc + 3) lv st (pm_setR h a k (some v)) kc ks) : pm_G g pc lv (.ref v :: .ref a :: st) h kc ks :=
  pm_put0 (v := .ref v) (h' := pm_setR h a k (some v)) C hd f (Or.inl hfin) hk (fun b => (pm_nr hty (b + v)).1) (fun b => (pm_nr hty (b + v)).2.1) rfl rfl rfl (fun _ _ => rfl) (fun _ _ => rfl) (fun x hx => pm_u2_n _ _ hx) (fun b => by rw [pm_fv_R hty]; exact congrArg (fun q => va_rf (pm_rf b q)) (pm_u2_s _ _ _ _)) (fun b j hj => pm_fv_k (h := h) (h' := pm_setR h a k (some v)) rfl rfl (pm_u2_k _ _ hj _) _) kk
theorem pm_putN (C : pm_C g cc own) {i a c k : Nat} (hd : decode cc pc = .ok (.putfield i, 3)) (f : pm_F own i c k) (hfin : (pm_T c k).2.2.2 = false) (hty : pm_sR (pm_fty c k) = true) (hk : pm_kd h a = c) (kk : pm_G g (pc + 3) lv st (pm_setR h a k none) kc ks) : pm_G g pc lv (.null :: .ref a :: st) h kc ks :=
  pm_put0 (v := .null) (h' := pm_setR h a k none) C hd f (Or.inl hfin) hk (fun b => (pm_nr hty b).2.2.1) (fun b => (pm_nr hty b).2.2.2) rfl rfl rfl (fun _ _ => rfl) (fun _ _ => rfl) (fun x hx => pm_u2_n _ _ hx) (fun b => by rw [pm_fv_R hty]; exact congrArg (fun q => va_rf (pm_rf b q)) (pm_u2_s _ _ _ _)) (fun b j hj => pm_fv_k (h := h) (h' := pm_setR h a k none) rfl rfl (pm_u2_k _ _ hj _) _) kk
theorem pm_putRF (C : pm_C g cc own) {i a c k : Nat} {v : Nat} (hd : decode cc pc = .ok (.putfield i, 3)) (f : pm_F own i c k) (hfin : (pm_T c k).2.2.2 = true) (hin : g.2.2.2.2.2.2.2.2.1.name = "<init>") (hdc : (pm_T c k).1 = own) (hw : Cond.fieldLink own i (pm_T c k).1 (pm_T c k).2.1 (pm_T c k).2.2.1 ∈ lw_tbl) (hty : pm_sR (pm_fty c k) = true) (hk : pm_kd h a = c) (kk : pm_G g (pc + 3) lv st (pm_setR h a k (some v)) kc ks) : pm_G g pc lv (.ref v :: .ref a :: st) h kc ks :=
  pm_put0 (v := .ref v) (h' := pm_setR h a k (some v)) C hd f (Or.inr ⟨hfin, hin, hdc, hw⟩) hk (fun b => (pm_nr hty (b + v)).1) (fun b => (pm_nr hty (b + v)).2.1) rfl rfl rfl (fun _ _ => rfl) (fun _ _ => rfl) (fun x hx => pm_u2_n _ _ hx) (fun b => by rw [pm_fv_R hty]; exact congrArg (fun q => va_rf (pm_rf b q)) (pm_u2_s _ _ _ _)) (fun b j hj => pm_fv_k (h := h) (h' := pm_setR h a k (some v)) rfl rfl (pm_u2_k _ _ hj _) _) kk
theorem pm_putIF (C : pm_C g cc own) {i a c k : Nat} {v : Int32} (hd : decode cc pc = .ok (.putfield i, 3)) (f : pm_F own i c k) (hfin : (pm_T c k).2.2.2 = true) (hin : g.2.2.2.2.2.2.2.2.1.name = "<init>") (hdc : (pm_T c k).1 = own) (hw : Cond.fieldLink own i (pm_T c k).1 (pm_T c k).2.1 (pm_T c k).2.2.1 ∈ lw_tbl) (hty : pm_sI (pm_fty c k) = true) (hk : pm_kd h a = c) (hn : narrow (pm_fty c k) (.int v) = .int v) (hf : fits (pm_fty c k) (.int v) = true) (kk : pm_G g (pc + 3) lv st (pm_setI h a k v) kc ks) : pm_G g pc lv (.int v :: .ref a :: st) h kc ks :=
  pm_put0 (v := .int v) (h' := pm_setI h a k v) C hd f (Or.inr ⟨hfin, hin, hdc, hw⟩) hk (fun _ => hn) (fun _ => hf) rfl rfl rfl (fun x hx => pm_u2_n _ _ hx) (fun _ _ => rfl) (fun _ _ => rfl) (fun b => by rw [pm_fv_I hty]; exact congrArg Value.int (pm_u2_s _ _ _ _)) (fun b j hj => pm_fv_k (h := h) (h' := pm_setI h a k v) (pm_u2_k _ _ hj _) rfl rfl _) kk

end PMH
