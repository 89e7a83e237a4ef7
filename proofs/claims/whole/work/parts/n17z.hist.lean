/-! FLATTENED CODE: where a label began is kept along the walk -/
section HIST
variable {B : Nat → Nat} {n t : Nat} {D : Bool} {M : tMd} {Dc : Nat → Bool} {lt : Nat → Option Nat} {EL : List (Bool × Nat × Nat)} {F : List tRw} {e : Nat} {W : List tWk}
theorem wk_h {s s1 : tWk} {l : List tWk} (hW : (s :: s1 :: l) <:+ W) (w : wkS B n D M Dc lt EL s s1) (Wf : wfK M s.2.1) (H : wkH B n D W s) : wkH B n D W s1 := by
  have kl := w.1
  have hb := fun (h0 : s1.2.1.2.1.length ≠ 0) (x : Nat) (hx : x < s.2.1.2.1.length) => btm_w w Wf h0 hx
  obtain ⟨v, i1, o⟩ := wk_s w
  intro x hx
  rcases o with ⟨c, e1, e2, e3⟩ | ⟨c, ⟨k, e1, ek⟩, e2, a, e3⟩ | ⟨c, ⟨k, ks, e1, ek, eV, e2, e3⟩, u, r, a, As', f1, f2, f3, f4, f5, f6⟩ | ⟨c, c', ⟨e1, e2⟩, e3, e4⟩
  · -- END
    rcases e3 with ⟨g1, g2, g3⟩ | ⟨u, g1, g2, g3⟩
    · rw [g2] at hx; exact absurd hx (Nat.not_lt_zero _)
    have gt : ∀ y, s.2.1.2.1.getD (y + 1) lb0 = s1.2.1.2.1.getD y lb0 := fun y => by rw [e1]; cases s.2.1.2.1 <;> rfl
    have lt : s1.2.1.2.1.length + 1 = s.2.1.2.1.length := by rw [e1, List.length_tail]; omega
    obtain ⟨s3, s4, l', v', h1, h2, h3, h4, h5, h6, h7, h8, h9, h10, h11, ⟨a, h12, h13⟩, h14⟩ := H (x + 1) (by rw [g1]; exact Nat.succ_lt_succ hx)
    rw [g1] at h4 h7 h8 h11
    rw [gt] at h6 h7 h8
    rw [e2] at h12 h13
    refine ⟨s3, s4, l', v', h1, h2, h3, h4, h5, h6, h7, h8, by omega, fun y => ?_, h11, ⟨a, h12, h13⟩, by rw [← gt, hb (by rw [g1] at kl; have kl : s1.2.2.1.length + 1 + 1 = _ := kl; omega) (x + 1) (by rw [g1] at kl; have kl : s1.2.2.1.length + 1 + 1 = _ := kl; omega)]; exact h14⟩
    have := h10 y
    rw [show x + 1 + 1 + y = (x + 1 + y) + 1 by omega, gt] at this
    exact this
  · -- a block
    cases x with
    | zero =>
      refine ⟨s, s1, l, v, hW, i1, c, by rw [e2]; rfl, by rw [e1]; exact ek, lbV_r _, fun h => ?_, fun _ => by rw [e2]; rfl, rfl, fun y => ?_, by rw [e2]; rfl, ⟨a, by rw [e3]; rfl, by rw [e3]; rfl⟩, rfl⟩
      · rw [e1] at h
        have h : k.1 = 5 := h
        omega
      · rw [show 0 + 1 + y = y + 1 by omega]; exact lbU_r ..
    | succ x =>
      obtain ⟨s3, s4, l', v', h1, h2, h3, h4, h5, h6, h7, h8, h9, h10, h11, ⟨a', h12, h13⟩, h14⟩ := H x (by rw [e2] at hx; exact Nat.lt_of_succ_lt_succ hx)
      have hbx := hb (by rw [e1]; exact Nat.succ_ne_zero _) x (by rw [e2] at hx; have hx : x + 1 < s.2.2.1.length + 1 := hx; omega)
      rw [e1, e2, e3]
      refine ⟨s3, s4, l', v', h1, h2, h3, h4, h5, h6, h7, h8, by show _ = s.2.1.2.1.length + 1; omega, fun y => ?_, h11, ⟨a', h12, h13⟩, h14.trans hbx.symm⟩
      rw [show x + 1 + 1 + y = (x + 1 + y) + 1 by omega]
      exact h10 y
  · -- else
    cases x with
    | zero =>
      obtain ⟨s3, s4, l', v', h1, h2, h3, h4, h5, h6, h7, h8, h9, h10, h11, ⟨a', h12, h13⟩, h14⟩ := H 0 (by rw [f1]; exact Nat.succ_pos _)
      rw [f1] at h4 h7 h8 h11
      rw [f6] at h12 h13
      have h7 : (s.2.1.2.1.getD 0 lb0).1 = 5 → v'.1 = 4 ∧ u.1 = 5 := h7
      have h8 : (s.2.1.2.1.getD 0 lb0).1 = v'.1 → u.1 = v'.1 := h8
      have v4 : v'.1 = 4 := by
        rcases h6.1 with q | q
        · rw [h5] at q; rw [← h8 q]; exact f2
        · exact (h7 q).1
      have hbx := hb (by rw [e1]; exact Nat.succ_ne_zero _) 0 (by omega)
      rw [e1, f3, f5]
      refine ⟨s3, s4, l', v', h1, h2, h3, h4, h5, lbV_t h6 eV, fun _ => ⟨v4, rfl⟩, fun h => ?_, by show _ = ks.length + 1; omega, fun y => ?_, h11, ⟨a', h12, h13⟩, ?_⟩
      · have h : k.1 = v'.1 := h
        omega
      · rw [show 0 + 1 + y = y + 1 by omega]
        have := h10 y
        rw [show 0 + 1 + y = y + 1 by omega] at this
        exact lbU_t this (e3 y)
      · show btm s4.2.1 k.2.2.1 = btm s1.2.1 k.2.2.1
        rw [eV.2.2.1, hbx]; exact h14
    | succ x =>
      obtain ⟨s3, s4, l', v', h1, h2, h3, h4, h5, h6, h7, h8, h9, h10, h11, ⟨a', h12, h13⟩, h14⟩ := H (x + 1) (by rw [f3] at hx; rw [f1]; exact hx)
      rw [f1] at h4 h7 h8 h11
      rw [f6] at h12 h13
      have hbx := hb (by rw [e1]; exact Nat.succ_ne_zero _) (x + 1) (by rw [f3] at hx; rw [f1] at kl; have hx : x + 1 < r.length + 1 := hx; have kl : r.length + 1 + 1 = _ := kl; omega)
      rw [e1, f3, f5]
      have k1 : (ks.getD x lb0).1 = (s.2.1.2.1.getD (x + 1) lb0).1 := (e3 x).1
      refine ⟨s3, s4, l', v', h1, h2, h3, h4, h5, lbV_t h6 (lbV_U (e3 x)), fun h => h7 (k1.symm.trans h), fun h => h8 (k1.symm.trans h), by show _ = ks.length + 1; omega, fun y => ?_, h11, ⟨a', h12, h13⟩, by
        show btm s4.2.1 (ks.getD x lb0).2.2.1 = btm s1.2.1 (ks.getD x lb0).2.2.1
        rw [(e3 x).2.2.1, hbx]; exact h14⟩
      have g := h10 y
      rw [show x + 1 + 1 + y = (x + 1 + y) + 1 by omega] at g ⊢
      exact lbU_t g (e3 _)
  · -- plain
    obtain ⟨s3, s4, l', v', h1, h2, h3, h4, h5, h6, h7, h8, h9, h10, h11, ⟨a', h12, h13⟩, h14⟩ := H x (by rw [← e3]; exact hx)
    rw [e3, e4]
    refine ⟨s3, s4, l', v', h1, h2, h3, h4, h5, lbV_t h6 (lbV_U (e2 x)), fun h => h7 ((e2 x).1.symm.trans h), fun h => h8 ((e2 x).1.symm.trans h), by omega, fun y => lbU_t (h10 y) (lbU_w (e2 _) (fun z => by omega)), h11, ⟨a', h12, h13⟩, by rw [(e2 x).2.2.1, hb (by omega) x (by rw [e3] at hx; omega)]; exact h14⟩
/-- a state on the walk from s0 -/
theorem wk_on : ∀ (l : List tWk) {s : tWk} {s' : tWk} {l' : List tWk}, wkC B n D M Dc lt EL t F e s l → (s :: l) <:+ W → wkH B n D W s → (s' :: l') <:+ (s :: l) → wkC B n D M Dc lt EL t F e s' l' ∧ wkH B n D W s'
  | [], s, s', l', w, hW, H, h => by
    have : s' :: l' = [s] := by
      rcases List.suffix_cons_iff.mp h with q | q
      · exact q
      · exact absurd (List.IsSuffix.length_le q) (by show ¬ l'.length + 1 ≤ 0; omega)
    cases this
    exact ⟨w, H⟩
  | s1 :: l, s, s', l', w, hW, H, h => by
    rcases List.suffix_cons_iff.mp h with q | q
    · cases q
      exact ⟨w, H⟩
    · exact wk_on l w.2.2 ((List.suffix_cons _ _).trans hW) (wk_h hW w.1 w.2.1.2.1 H) q
end HIST
