/-! STORES OF REFERENCES -/
theorem pm_asg (vm : Vm) (c : ClassId) : vm.assignable c c = true := by
  show Vm.assignableAux vm (255 + 1) c c = true
  unfold Vm.assignableAux
  rw [beq_self_eq_true, Bool.true_or]
theorem pm_av_R {b : Nat} {h : pm_H} {a : Nat} {ty : FieldType} (hr : pm_sR ty = true) : pm_av b h a ty = .inr (.inr (.inr (.inr (fun j => pm_rf b (pm_R h a j))))) := by
  revert hr
  cases ty <;> intro hr <;> first | rfl | (cases hr)
section PMS
variable {g : pm_Gm} {cc : ByteArray} {own : String} {pc : Nat} {lv : List (Nat × Value)} {st : List Value} {h : pm_H} {kc ks : Nat}
/-- a reference is stored in an array whose component class is the class of the stored cell -/
theorem pm_aast0 (C : pm_C g cc own) {a t v : Nat} {i : Int32} (hd : decode cc pc = .ok (.aastore, 1)) (ht : t < 11) (hr : pm_sR (pm_aty t) = true) (hk : pm_kd h a = t + 32) (hin : vp_in i (pm_ln h a))
    (hv : ∀ (G : pm_Gl) (s : State) (H : Heap), va_K G.2.1 vwCl (pm_tys G.2.2) s → pm_Nw G s → pm_Rel G h H → ∃ (kA : Class) (comp : ClassId) (kc' : Class) (cv : Cell) (kv : Class), s.vm.classes[G.2.2 t]? = some kA ∧ kA.kind = .array comp (pm_aty t) ∧ s.vm.classes[comp]? = some kc' ∧ H[G.1 + v]? = some cv ∧ (∀ q, cv.vm ≠ .statics q) ∧ s.vm.classes[cv.cls]? = some kv ∧ s.vm.assignable cv.cls comp = true)
    (kk : pm_G g (pc + 1) lv st (pm_setR h a i.toNatClampNeg (some v)) kc ks) : pm_G g pc lv (.ref v :: .int i :: .ref a :: st) h kc ks := by
  obtain ⟨p, l, e, R, s, m, args, below, meth, c', Q, G, nL⟩ := g
  obtain ⟨hx, hb, hts, hown, hml, hlocks, hK, hbs, hN⟩ := C
  intro H locs ls hR hS hl
  have hlt : i.toNatClampNeg < pm_ln h a := Nat.not_le.mp fun q => hin (Or.inr q)
  have h0 : ¬ i < 0 := fun q => hin (Or.inl q)
  have hc := pm_cell hR ht hk
  rw [pm_av_R hr, vp_cell_q] at hc
  obtain ⟨kA, comp, kc', cv, kv, k1, k2, k3, k4, k5, k6, k7⟩ := hv G s H hK hN hR
  refine W.aast hx hb hc (fun q h => by cases h) (fun h => by cases h) k1 k2 ?_ k3 ⟨h0, by rw [arrV_size]; exact hlt⟩ k4 k5 k6 k7 rfl rfl hd fun H1 e1 z oq => ?_
  · revert hr
    cases pm_aty t <;> intro hr <;> first | rfl | (cases hr)
  refine kk H1 _ ls (pm_rel_arr (t := t) hR hk rfl rfl rfl (fun _ _ => rfl) (fun _ _ => rfl) (fun x hx => pm_u2_n _ _ hx) ht ?_ z oq) (hS.put z oq (Nat.le_add_right _ _)) hl
  rw [e1, pm_av_R hr, vp_cell_q, arrV_store]
  congr 2
  funext q
  show updV _ _ _ q = va_rf (pm_rf G.1 (pm_u2 (pm_R h) a i.toNatClampNeg (some v) a q))
  by_cases hq : q = i.toNatClampNeg
  · subst hq
    rw [pm_u2_s]
    simp [updV]
    rfl
  · rw [pm_u2_k _ _ hq]
    simp [updV, hq]
theorem pm_aast (C : pm_C g cc own) {a t v c : Nat} {i : Int32} (hd : decode cc pc = .ok (.aastore, 1)) (ht : t < 11) (hc : pm_Cl c) (hty : pm_aty t = .object (pm_Rn c)) (hk : pm_kd h a = t + 32) (hkv : pm_kd h v = c) (hin : vp_in i (pm_ln h a)) (kk : pm_G g (pc + 1) lv st (pm_setR h a i.toNatClampNeg (some v)) kc ks) : pm_G g pc lv (.ref v :: .int i :: .ref a :: st) h kc ks := by
  refine pm_aast0 C hd ht (by rw [hty]; rfl) hk hin (fun G s H hK hN hR => ?_) kk
  have he := pm_ws_at G h (pm_live hR hkv (Nat.ne_of_lt hc.1))
  rw [pm_E_obj hkv (Nat.lt_succ_of_lt hc.1)] at he
  obtain ⟨r, h1, cell, q1, q2, q3, -⟩ := hR.2.1 v _ he
  have hcls := (hK.1 c _ hc.2.1).2
  have hra := (hK.2 t _ (pm_tys_at G.2.2 ht)).2
  rw [hty] at hra ⊢
  obtain ⟨kA, comp, k1, k2, k3, -⟩ := hra
  have hcomp : comp = G.2.1.1 c := Option.some.inj (k3.symm.trans hcls.1)
  subst hcomp
  obtain ⟨kC, hkC, -⟩ := hcls.2
  have q2' : cell.cls = G.2.1.1 c := q2
  exact ⟨kA, _, kC, cell, kC, k1, k2, hkC, q1, (fun q h => by rw [q3] at h; cases h), by rw [q2']; exact hkC, by rw [q2']; exact pm_asg _ _⟩
/-- int[] into int[][] (t = 4, 2), byte[] into byte[][] (t = 5, 1) -/
theorem pm_aasta (C : pm_C g cc own) {a t u v : Nat} {i : Int32} (hd : decode cc pc = .ok (.aastore, 1)) (htu : (t = 4 ∧ u = 2) ∨ (t = 5 ∧ u = 1)) (hk : pm_kd h a = t + 32) (hkv : pm_kd h v = u + 32) (hin : vp_in i (pm_ln h a)) (kk : pm_G g (pc + 1) lv st (pm_setR h a i.toNatClampNeg (some v)) kc ks) : pm_G g pc lv (.ref v :: .int i :: .ref a :: st) h kc ks := by
  refine pm_aast0 C hd (by omega) (by rcases htu with ⟨rfl, rfl⟩ | ⟨rfl, rfl⟩ <;> rfl) hk hin (fun G s H hK hN hR => ?_) kk
  have hcv := pm_cell (t := u) hR (by omega) hkv
  have hcu := (hK.2 u _ (pm_tys_at G.2.2 (by omega))).2
  have hct := (hK.2 t _ (pm_tys_at G.2.2 (by omega))).2
  have hcl : (vp_cell (G.2.2 u) (pm_ln h v, pm_av G.1 h v (pm_aty u))).cls = G.2.2 u ∧ (vp_cell (G.2.2 u) (pm_ln h v, pm_av G.1 h v (pm_aty u))).vm = .none := by
    rcases htu with ⟨rfl, rfl⟩ | ⟨rfl, rfl⟩ <;> exact ⟨rfl, rfl⟩
  rcases htu with ⟨rfl, rfl⟩ | ⟨rfl, rfl⟩
  · obtain ⟨comp, c9, k9, h1, h2, h3, h4, h5⟩ := arrayOverA_spec (args := #[]) (first := s) (s := s) (o := none) (idx := []) hN.2.2.1
    have e1 : comp = G.2.2 2 := Option.some.inj (h1.symm.trans hcu)
    have e2 : c9 = G.2.2 4 := Option.some.inj (h5.symm.trans hct)
    subst e1; subst e2
    obtain ⟨kComp, hkComp, -⟩ := Vm.findClass_spec h1
    exact ⟨k9, _, kComp, _, kComp, h3, h4, hkComp, hcv, (fun q h => by rw [hcl.2] at h; cases h), by rw [hcl.1]; exact hkComp, by rw [hcl.1]; exact pm_asg _ _⟩
  · obtain ⟨comp, c9, k9, h1, h2, h3, h4, h5⟩ := arrayOverA_spec (args := #[]) (first := s) (s := s) (o := none) (idx := []) hN.2.2.2.1
    have e1 : comp = G.2.2 1 := Option.some.inj (h1.symm.trans hcu)
    have e2 : c9 = G.2.2 5 := Option.some.inj (h5.symm.trans hct)
    subst e1; subst e2
    obtain ⟨kComp, hkComp, -⟩ := Vm.findClass_spec h1
    exact ⟨k9, _, kComp, _, kComp, h3, h4, hkComp, hcv, (fun q h => by rw [hcl.2] at h; cases h), by rw [hcl.1]; exact hkComp, by rw [hcl.1]; exact pm_asg _ _⟩
end PMS
