/-! THE REFERENCE READS: expressions by rules -/
/-- all elses are places; none is told from p on -/
def mE (h : pm_H) (n el p : Nat) : Prop := (∀ a, a < n → ∃ c, c < n ∧ pm_I h el a = Int32.ofNat c) ∧ ∀ y, p ≤ y → y < n → pm_I h el y = 0
theorem mE_m {h : pm_H} {n el p p' : Nat} (E : mE h n el p) (hp : p ≤ p') : mE h n el p' := ⟨E.1, fun y h1 h2 => E.2 y (by omega) h2⟩
theorem mE_k {h h' : pm_H} {n el p : Nat} (E : mE h n el p) (k : ∀ y, pm_I h' el y = pm_I h el y) : mE h' n el p := ⟨fun a ha => by rw [k]; exact E.1 a ha, fun y h1 h2 => by rw [k]; exact E.2 y h1 h2⟩
def exI (m eo el p p' x y : Nat) : Prop := x = 596 ∨ x = 597 ∨ ((x = eo ∨ x = el) ∧ p ≤ y ∧ y < p') ∨ (x = m ∧ y = 3)
section MEX
variable {n b m eo el e : Nat} {B : Nat → Nat} {d : Bool}
theorem mC_d {h : pm_H} (C : mC h n b m eo el e d B) : eo ≠ el ∧ m ≠ eo ∧ m ≠ el := by
  have z := C.2.2.2.1
  have x := C.2.1.2.2.2.2.2.2.2.2.2.2.2.2.2.2.2.2.2.2.2.1
  omega
theorem ms_ex {h : pm_H} {p : Nat} (C : mC h n b m eo el e d B) (E : mE h n el p) (hp : p ≤ e) (ob : Bool) (f q : Int32) : ms_Q (fun h' => yF m eo el h h') (fun v p' r => ∃ h', r = rm h' (Int32.ofNat p') f q ∧ gF (exI m eo el p p') trL h h' ∧ pEx h h' m eo el p p' [] v ∧ mE h' n el p' ∧ p < p' ∧ p' ≤ e) (fX16_expression (rm h (Int32.ofNat p) f q) 592 (if ob = true then 1 else 0)) (sp_ex B e d ob (e + 1) [] p) := by
  have hm := mC_m C
  have ho := mC_eo C
  have hl := mC_el C
  obtain ⟨d1, d2, d3⟩ := mC_d C
  have n4 := C.1.2.2.2.2.2.2.1
  have he := C.2.2.2.2.2.1
  have X := ms_exp he ob f q C.1 C.2.1 C.2.2.2.2.1 C.2.2.2.2.2.2 E.1 hp
  have i := ex_xh (d := d) (ob := ob) (B := B) (m := m) (eo := eo) (el := el) n4 he hm ho hl d1 d2 d3 (e + 1) [] (pm_setI h 596 0 0) p hp trivial trivial (by rw [ev_II, if_pos rfl, if_pos rfl]) (fun y h1 h2 => by rw [ev_II, if_neg (by omega)]; exact E.2 y h1 h2)
  cases oe : sp_ex B e d ob (e + 1) [] p with
  | inl w =>
    have z : sp_xh B e d ob m eo el (e + 1) 1 (pm_setI h 596 0 0) p = .inl w := EXX_l i oe
    rw [z] at X
    obtain ⟨h', a, F, ex⟩ := X
    exact ⟨h', a, yF_x hm ho hl F, ex⟩
  | inr vp =>
    obtain ⟨v, p'⟩ := vp
    obtain ⟨h', xe, e1, e2, e3, e4, e5, e6, e7, e8⟩ := EXX_r i oe
    have z : sp_xh B e d ob m eo el (e + 1) 1 (pm_setI h 596 0 0) p = .inr (h', p') := xe
    rw [z] at X
    obtain ⟨r, er, er2, F, b1, b2, J⟩ := X
    have k : ∀ x y, x ≠ 596 → pm_I (pm_setI h 596 0 0) x y = pm_I h x y := fun x y hx => by rw [ev_II, if_neg hx]
    have e1' : ∀ w, w ∈ v.1 → w.2.1 < p' ∧ p ≤ w.2.1 := fun w hw => by
      obtain ⟨f1, f2⟩ := e1 w hw
      rcases f2 with f2 | ⟨s, f2, -⟩
      · exact ⟨f1, f2⟩
      · cases f2
    have nw : ∀ g y, ¬ (p ≤ y ∧ y < p') → ∀ x, (g, y, x) ∉ v.1 := fun g y hy x hx => by
      have := e1' _ hx
      simp only at this
      omega
    have P : pEx h h' m eo el p p' [] v := by
      refine ⟨e1, e2, fun y hy => ?_, fun y hy => ?_, e5, e6, ?_, ?_⟩
      · rw [e3 y hy, k _ _ (by omega)]
      · rw [e4 y hy, k _ _ (by omega)]
      · rw [e7, k _ _ (by omega), k _ _ (by omega)]
      · rw [e8, k _ _ (by omega)]
    refine ⟨r, er, h', er2, ⟨F.1, F.2.1, F.2.2.1, F.2.2.2.1, fun x y hx => ?_, fun x y _ => by rw [F.2.2.2.2.1]⟩, P, ⟨J, fun y h1 h2 => ?_⟩, b1, b2⟩
    · unfold exI at hx
      by_cases xo : x = eo
      · rw [xo, P.2.2.1 y (nw false y (by omega))]
      · by_cases xl : x = el
        · rw [xl, P.2.2.2.1 y (nw true y (by omega))]
        · exact F.2.2.2.2.2 x y (by omega) (by omega) xo xl (by omega)
    · rw [P.2.2.2.1 y (nw true y (by omega))]
      exact E.2 y (by omega) h2
theorem exI_y {h h' : pm_H} {p p' : Nat} (C : mC h n b m eo el e d B) (g : gF (exI m eo el p p') trL h h') : yF m eo el h h' := gF_y (mC_m C) (mC_eo C) (mC_el C) (gF_m g (fun x y z => by unfold exI at z; unfold yI; omega) (fun x y z => z.elim))
end MEX
