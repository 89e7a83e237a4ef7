/-! FLATTENED CODE: where a label ends and where it began, with the operands below it -/
section ENDB
variable {B : Nat → Nat} {n t : Nat} {D : Bool} {M : tMd} {Dc : Nat → Bool} {lt : Nat → Option Nat} {EL : List (Bool × Nat × Nat)} {F : List tRw} {e : Nat}
/-- what lies at the bottom stays -/
theorem btm_s {K K' : tK} {v : sp_I} {p z : Nat} (hl : 0 < K.2.1.length) (W : wfK M K) (h0 : K'.2.1.length ≠ 0) (q : kIns B n M Dc lt p v K = .inr (K', z)) {h : Nat} (h1 : h ≤ (kTop K).2.2.1) : btm K' h = btm K h := by
  have w0 := wf_h W
  by_cases c11 : v.1 = 11
  · rw [ki_4 c11] at q
    obtain ⟨b1, b2, -⟩ := io_end w0 hl q
    have ek : K' = ((btR M (kTop K).2.1).reverse ++ bo K, K'.2) := by rw [← b2 h0]
    rw [ek, bt_ap (q2 := K'.2) (by omega)]
    exact bt_bo h1 w0
  by_cases c2 : 2 ≤ v.1 ∧ v.1 ≤ 4
  · rw [ki_2 c2] at q
    unfold kBlk at q
    split at q
    · cases q
    obtain ⟨K1, z1, f1, q⟩ := b_inv q
    obtain ⟨K2, z2, f2, q⟩ := b_inv q
    split at q
    · cases q
    have Q := bo_takeN f2 (bo_tk f1 (boQ_r w0))
    have u := p_putL q
    have := Q.1
    have := Q.2.1
    rw [u, bt_ap (q2 := K2.2) (by show h ≤ K2.1.length; omega)]
    exact boQ_bt h1 w0 Q
  by_cases c5 : v.1 = 5
  · rw [ki_3 c5] at q
    obtain ⟨b1, b2, -⟩ := io_els w0 q
    have ek : K' = ((btP M (kTop K).2.1).reverse ++ bo K, K'.2) := by rw [← b1]
    rw [ek, bt_ap (q2 := K'.2) (by omega)]
    exact bt_bo h1 w0
  · exact boQ_bt h1 w0 (bo_pln (by omega) c11 w0 hl q)
/-- a step of the walk, and a label x -/
theorem btm_w {s s1 : tWk} {x : Nat} (w : wkS B n D M Dc lt EL s s1) (W : wfK M s.2.1) (h0 : s1.2.1.2.1.length ≠ 0) (hx : x < s.2.1.2.1.length) : btm s1.2.1 (s.2.1.2.1.getD x lb0).2.2.1 = btm s.2.1 (s.2.1.2.1.getD x lb0).2.2.1 := by
  obtain ⟨kl, v, i1, hf, ⟨z, i2⟩, i3⟩ := w
  exact btm_s (by omega) W h0 i2 (by rw [kTop_0]; exact wfL_0 W.1 hx)
/-- the END of a label -/
theorem wk_end : ∀ (l : List tWk) {s : tWk} {x : Nat}, wkC B n D M Dc lt EL t F e s l → x < s.2.1.2.1.length → ∃ s1 s2 l' v, (s1 :: s2 :: l') <:+ (s :: l) ∧ sp_in B n D s1.1 = .inr (v, s2.1) ∧ v.1 = 11 ∧ s1.2.1.2.1.length + x = s.2.1.2.1.length ∧ lbV (s.2.1.2.1.getD x lb0) (s1.2.1.2.1.getD 0 lb0) ∧ s2.2.1.2.1 = s1.2.1.2.1.tail ∧ (∀ y, lbU False (s.2.1.2.1.getD (x + 1 + y) lb0) (s2.2.1.2.1.getD y lb0)) ∧ (s.2.2.2.getD x (0, 0)).1 = s1.2.1.2.2.length ∧ s2.2.2.2 = s.2.2.2.drop (x + 1) ∧ s2.2.2.1 = s.2.2.1.drop (x + 1) ∧ (x < s.2.2.1.length → (false, (s.2.2.1.getD x (0, 0, 0)).2.1, s1.1) ∈ EL ∧ ((s.2.2.1.getD x (0, 0, 0)).1 ≠ 4 → (s.2.2.1.getD x (0, 0, 0)).2.2 ≠ 0 → (false, (s.2.2.1.getD x (0, 0, 0)).2.2, s1.1) ∈ EL)) ∧ btm s1.2.1 (s.2.1.2.1.getD x lb0).2.2.1 = btm s.2.1 (s.2.1.2.1.getD x lb0).2.2.1 ∧ wfK M s1.2.1 ∧ wkS B n D M Dc lt EL s1 s2 ∧ rAg s2.2.1 F s2.2.2.2
  | [], s, x, w, hx => by
    have := w.1
    omega
  | s1 :: l, s, x, w, hx => by
    obtain ⟨w1, w2, w3⟩ := w
    have Wf := w2.2.1
    have hb := fun h0 : s1.2.1.2.1.length ≠ 0 => btm_w w1 Wf h0 hx
    obtain ⟨v, i1, o⟩ := wk_s w1
    rcases o with ⟨c, e1, e2, e3⟩ | ⟨c, ⟨k, e1, ek⟩, e2, a, e3⟩ | ⟨c, ⟨k, ks, e1, ek, eV, e2, e3⟩, u, r, a, As', f1, f2, f3, f4, f5, f6⟩ | ⟨c, c', ⟨e1, e2⟩, e3, e4⟩
    · -- END
      have lt : s1.2.1.2.1.length + 1 = s.2.1.2.1.length := by rw [e1, List.length_tail]; omega
      have gt : ∀ y, s.2.1.2.1.getD (y + 1) lb0 = s1.2.1.2.1.getD y lb0 := fun y => by rw [e1]; cases s.2.1.2.1 <;> rfl
      cases x with
      | zero =>
        refine ⟨s, s1, l, v, List.suffix_refl _, i1, c, by omega, lbV_r _, e1, fun y => ?_, by rw [e2]; rfl, by rw [e2]; rfl, ?_, fun h => ?_, rfl, Wf, w1, wk_ag w3⟩
        · rw [show 0 + 1 + y = y + 1 by omega, gt]; exact lbU_r ..
        · rcases e3 with ⟨g1, g2, g3⟩ | ⟨u, g1, g2, g3⟩
          · rw [g1, g2]; rfl
          · rw [g1]; rfl
        · rcases e3 with ⟨g1, g2, g3⟩ | ⟨u, g1, g2, g3⟩
          · rw [g1] at h; exact absurd h (Nat.not_lt_zero _)
          · rw [g1]; exact ⟨g2, fun _ => g3⟩
      | succ x =>
        obtain ⟨s3, s4, l', v', h1, h2, h3, h4, h5, h6, h7, h8, h9, h10, h11, h12, h13⟩ := wk_end l w3 (show x < s1.2.1.2.1.length by omega)
        refine ⟨s3, s4, l', v', h1.trans (List.suffix_cons _ _), h2, h3, by omega, by rw [gt]; exact h5, h6, fun y => ?_, ?_, ?_, ?_, fun h => ?_, by rw [← hb (by omega), gt]; exact h12, h13⟩
        · rw [show x + 1 + 1 + y = (x + 1 + y) + 1 by omega, gt]; exact h7 y
        · rw [e2]; exact h8
        · rw [e2]; exact h9
        · rcases e3 with ⟨g1, g2, g3⟩ | ⟨u, g1, g2, g3⟩
          · rw [g1, h10, g2]; rfl
          · rw [g1]; exact h10
        · rcases e3 with ⟨g1, g2, g3⟩ | ⟨u, g1, g2, g3⟩
          · rw [g1] at h; exact absurd h (Nat.not_lt_zero _)
          · rw [g1] at h ⊢; exact h11 (Nat.lt_of_succ_lt_succ h)
    · -- a block
      obtain ⟨s3, s4, l', v', h1, h2, h3, h4, h5, h6, h7, h8, h9, h10, h11, h12, h13⟩ := wk_end l (x := x + 1) w3 (by rw [e1]; exact Nat.succ_lt_succ hx)
      rw [e1] at h4 h5 h7
      have h4 : s3.2.1.2.1.length + (x + 1) = s.2.1.2.1.length + 1 := h4
      refine ⟨s3, s4, l', v', h1.trans (List.suffix_cons _ _), h2, h3, by omega, h5, h6, fun y => ?_, ?_, ?_, ?_, fun h => ?_, by rw [← hb (by rw [e1]; exact Nat.succ_ne_zero _)]; rw [e1] at h12; exact h12, h13⟩
      · have := h7 y
        rw [show x + 1 + 1 + y = (x + 1 + y) + 1 by omega] at this
        exact this
      · rw [e3] at h8; exact h8
      · rw [e3] at h9; exact h9
      · rw [e2] at h10; exact h10
      · rw [e2] at h11; exact h11 (Nat.succ_lt_succ h)
    · -- else
      obtain ⟨s3, s4, l', v', h1, h2, h3, h4, h5, h6, h7, h8, h9, h10, h11, h12, h13⟩ := wk_end l (x := x) w3 (by rw [e1]; show x < ks.length + 1; omega)
      rw [e1] at h4 h5 h7
      have h4 : s3.2.1.2.1.length + x = ks.length + 1 := h4
      refine ⟨s3, s4, l', v', h1.trans (List.suffix_cons _ _), h2, h3, by omega, ?_, h6, fun y => ?_, ?_, ?_, ?_, fun h => ?_, ?_, h13⟩
      · cases x with
        | zero => exact lbV_t eV h5
        | succ x => exact lbV_t (lbV_U (e3 x)) h5
      · have g := h7 y
        rw [show x + 1 + y = (x + y) + 1 by omega] at g ⊢
        exact lbU_t (e3 _) g
      · rw [f5] at h8
        rw [f6]
        cases x with
        | zero => exact h8
        | succ x => exact h8
      · rw [f5] at h9; rw [f6]; exact h9
      · rw [f3] at h10; rw [f1]; exact h10
      · rw [f3] at h11
        rw [f1] at h ⊢
        have := h11 h
        cases x with
        | zero => exact ⟨this.1, fun g => absurd f2 g⟩
        | succ x => exact this
      · rw [← hb (by rw [e1]; exact Nat.succ_ne_zero _)]
        rw [e1] at h12
        cases x with
        | zero => rw [← eV.2.2.1]; exact h12
        | succ x => rw [← (e3 x).2.2.1]; exact h12
    · -- plain
      obtain ⟨s3, s4, l', v', h1, h2, h3, h4, h5, h6, h7, h8, h9, h10, h11, h12, h13⟩ := wk_end l (x := x) w3 (by omega)
      refine ⟨s3, s4, l', v', h1.trans (List.suffix_cons _ _), h2, h3, by omega, lbV_t (lbV_U (e2 x)) h5, h6, fun y => lbU_t (lbU_w (e2 _) (fun z => by omega)) (h7 y), by rw [← e4]; exact h8, by rw [← e4]; exact h9, by rw [← e3]; exact h10, by rw [← e3]; exact h11, by rw [← hb (by omega), ← (e2 x).2.2.1]; exact h12, h13⟩
/-- where an if that stands open goes on when its condition fails -/
theorem wk_iff : ∀ (l : List tWk) {s : tWk} {x : Nat}, wkC B n D M Dc lt EL t F e s l → x < s.2.2.1.length → (s.2.2.1.getD x (0, 0, 0)).1 = 4 → ∃ s1 s2 l' v, (s1 :: s2 :: l') <:+ (s :: l) ∧ sp_in B n D s1.1 = .inr (v, s2.1) ∧ (v.1 = 5 ∨ v.1 = 11) ∧ s1.2.1.2.1.length + x = s.2.1.2.1.length ∧ lbV (s.2.1.2.1.getD x lb0) (s1.2.1.2.1.getD 0 lb0) ∧ (∀ y, lbU False (s.2.1.2.1.getD (x + 1 + y) lb0) (s1.2.1.2.1.getD (y + 1) lb0)) ∧ s1.2.2.1 = s.2.2.1.drop x ∧ s1.2.2.2.tail = s.2.2.2.drop (x + 1) ∧ (s1.2.2.2.getD 0 (0, 0)) = (s.2.2.2.getD x (0, 0)) ∧ (s.2.2.2.getD x (0, 0)).2 = (if v.1 = 5 then s2.2.1.2.2.length else s1.2.1.2.2.length) ∧ btm s1.2.1 (s.2.1.2.1.getD x lb0).2.2.1 = btm s.2.1 (s.2.1.2.1.getD x lb0).2.2.1 ∧ wfK M s1.2.1 ∧ wkS B n D M Dc lt EL s1 s2
  | [], s, x, w, hx, h4 => by
    have := w.2.2.2.1
    rw [this] at hx
    exact absurd hx (Nat.not_lt_zero _)
  | s1 :: l, s, x, w, hx, h4 => by
    obtain ⟨w1, w2, w3⟩ := w
    have kl := w1.1
    have Wf := w2.2.1
    have hb := fun (h0 : s1.2.1.2.1.length ≠ 0) => btm_w (x := x) w1 Wf h0 (by omega)
    obtain ⟨v, i1, o⟩ := wk_s w1
    have d0 : ∀ {α : Type} {d : α} {L : List α} {j : Nat}, j < L.length → L.drop j = L.getD j d :: L.drop (j + 1) := fun {α d L j} h => by
      rw [List.drop_eq_getElem_cons h, List.getD_eq_getElem?_getD, List.getElem?_eq_getElem h]
      rfl
    rcases o with ⟨c, e1, e2, e3⟩ | ⟨c, ⟨k, e1, ek⟩, e2, a, e3⟩ | ⟨c, ⟨k, ks, e1, ek, eV, e2, e3⟩, u, r, a, As', f1, f2, f3, f4, f5, f6⟩ | ⟨c, c', ⟨e1, e2⟩, e3, e4⟩
    · -- END
      have lt : s1.2.1.2.1.length + 1 = s.2.1.2.1.length := by rw [e1, List.length_tail]; omega
      have gt : ∀ y, s.2.1.2.1.getD (y + 1) lb0 = s1.2.1.2.1.getD y lb0 := fun y => by rw [e1]; cases s.2.1.2.1 <;> rfl
      cases x with
      | zero =>
        refine ⟨s, s1, l, v, List.suffix_refl _, i1, .inr c, rfl, lbV_r _, fun y => ?_, rfl, by rw [e2]; rfl, rfl, ?_, rfl, Wf, w1⟩
        · rw [show 0 + 1 + y = y + 1 by omega]; exact lbU_r ..
        · rw [if_neg (by omega), e2]; rfl
      | succ x =>
        rcases e3 with ⟨g1, g2, g3⟩ | ⟨u, g1, g2, g3⟩
        · rw [g1] at hx; exact absurd hx (Nat.not_lt_zero _)
        rw [g1] at hx h4
        obtain ⟨s3, s4, l', v', h1, h2, h3, h5, h6, h7, h8, h9, h10, h11, h12, h13⟩ := wk_iff l w3 (x := x) (Nat.lt_of_succ_lt_succ hx) h4
        have h12 : btm s3.2.1 (s.2.1.2.1.getD (x + 1) lb0).2.2.1 = btm s.2.1 (s.2.1.2.1.getD (x + 1) lb0).2.2.1 := by rw [← hb (by rw [g1] at kl; have kl : s1.2.2.1.length + 1 + 1 = _ := kl; omega), gt]; exact h12
        rw [e2, g1]
        refine ⟨s3, s4, l', v', h1.trans (List.suffix_cons _ _), h2, h3, by omega, by rw [gt]; exact h6, fun y => ?_, h8, h9, h10, h11, h12, h13⟩
        rw [show x + 1 + 1 + y = (x + 1 + y) + 1 by omega, gt]; exact h7 y
    · -- a block
      obtain ⟨s3, s4, l', v', h1, h2, h3, h5, h6, h7, h8, h9, h10, h11, h12, h13⟩ := wk_iff l w3 (x := x + 1) (by rw [e2]; exact Nat.succ_lt_succ hx) (by rw [e2]; exact h4)
      rw [e1] at h5 h6 h7
      rw [e2] at h8
      rw [e3] at h9 h10 h11
      have h5 : s3.2.1.2.1.length + (x + 1) = s.2.1.2.1.length + 1 := h5
      refine ⟨s3, s4, l', v', h1.trans (List.suffix_cons _ _), h2, h3, by omega, h6, fun y => ?_, h8, h9, h10, h11, by rw [← hb (by rw [e1]; exact Nat.succ_ne_zero _)]; rw [e1] at h12; exact h12, h13⟩
      have := h7 y
      rw [show x + 1 + 1 + y = (x + 1 + y) + 1 by omega] at this
      exact this
    · -- else
      cases x with
      | zero =>
        refine ⟨s, s1, l, v, List.suffix_refl _, i1, .inl c, rfl, lbV_r _, fun y => ?_, rfl, by rw [f6]; rfl, rfl, ?_, rfl, Wf, w1⟩
        · rw [show 0 + 1 + y = y + 1 by omega]; exact lbU_r ..
        · rw [if_pos c, f6]; rfl
      | succ x =>
        obtain ⟨s3, s4, l', v', h1, h2, h3, h5, h6, h7, h8, h9, h10, h11, h12, h13⟩ := wk_iff l w3 (x := x + 1) (by rw [f3]; rw [f1] at hx; exact hx) (by rw [f3]; rw [f1] at h4; exact h4)
        rw [e1] at h5 h6 h7
        rw [f3] at h8
        rw [f5] at h9 h10 h11
        have h5 : s3.2.1.2.1.length + (x + 1) = ks.length + 1 := h5
        have h12 : btm s3.2.1 (s.2.1.2.1.getD (x + 1) lb0).2.2.1 = btm s.2.1 (s.2.1.2.1.getD (x + 1) lb0).2.2.1 := by
          rw [← hb (by rw [e1]; exact Nat.succ_ne_zero _)]
          rw [e1] at h12
          rw [← (e3 x).2.2.1]; exact h12
        rw [f1, f6]
        refine ⟨s3, s4, l', v', h1.trans (List.suffix_cons _ _), h2, h3, by omega, lbV_t (lbV_U (e3 x)) h6, fun y => ?_, h8, h9, h10, h11, h12, h13⟩
        have g := h7 y
        rw [show x + 1 + 1 + y = (x + 1 + y) + 1 by omega] at g ⊢
        exact lbU_t (e3 _) g
    · -- plain
      rw [← e3] at hx h4
      obtain ⟨s3, s4, l', v', h1, h2, h3, h5, h6, h7, h8, h9, h10, h11, h12, h13⟩ := wk_iff l w3 (x := x) hx h4
      have h12 : btm s3.2.1 (s.2.1.2.1.getD x lb0).2.2.1 = btm s.2.1 (s.2.1.2.1.getD x lb0).2.2.1 := by rw [← hb (by rw [e3] at hx; omega), ← (e2 x).2.2.1]; exact h12
      rw [← e3, ← e4]
      exact ⟨s3, s4, l', v', h1.trans (List.suffix_cons _ _), h2, h3, by omega, lbV_t (lbV_U (e2 x)) h6, fun y => lbU_t (lbU_w (e2 _) (fun z => by omega)) (h7 y), h8, h9, h10, h11, h12, h13⟩
/-- what the walk knows of labels that stand open: where they began -/
def wkH (B : Nat → Nat) (n : Nat) (D : Bool) (W : List tWk) (s : tWk) : Prop := ∀ x, x < s.2.2.1.length → ∃ s1 s2 l' v, (s1 :: s2 :: l') <:+ W ∧ sp_in B n D s1.1 = .inr (v, s2.1) ∧ (2 ≤ v.1 ∧ v.1 ≤ 4) ∧ s1.1 = (s.2.2.1.getD x (0, 0, 0)).2.1 ∧ (s2.2.1.2.1.getD 0 lb0).1 = v.1 ∧ lbV (s2.2.1.2.1.getD 0 lb0) (s.2.1.2.1.getD x lb0) ∧ ((s.2.1.2.1.getD x lb0).1 = 5 → v.1 = 4 ∧ (s.2.2.1.getD x (0, 0, 0)).1 = 5) ∧ ((s.2.1.2.1.getD x lb0).1 = v.1 → (s.2.2.1.getD x (0, 0, 0)).1 = v.1) ∧ s2.2.1.2.1.length + x = s.2.1.2.1.length ∧ (∀ y, lbU False (s2.2.1.2.1.getD (y + 1) lb0) (s.2.1.2.1.getD (x + 1 + y) lb0)) ∧ s2.2.2.1.tail = s.2.2.1.drop (x + 1) ∧ (∃ a, s2.2.2.2 = a :: s.2.2.2.drop (x + 1) ∧ a.1 = (s.2.2.2.getD x (0, 0)).1) ∧ btm s2.2.1 (s.2.1.2.1.getD x lb0).2.2.1 = btm s.2.1 (s.2.1.2.1.getD x lb0).2.2.1
end ENDB
