/-! PART I: what the reference writes at an expression is what is told without heaps -/
theorem xcb_xv (h : pm_H) (m : Nat) (ob x : Bool) : pm_I (xcb h m ob x) m 3 = xv (pm_I h m 3) (pm_I h 592 13) (x && ob) := by
  cases x with
  | false => rfl
  | true =>
    cases ob with
    | false => rfl
    | true => exact xc_xv h m
theorem xcb_o (h : pm_H) {m : Nat} (ob x : Bool) {a y : Nat} (ha : a ≠ m) : pm_I (xcb h m ob x) a y = pm_I h a y := by
  cases x with
  | false => rfl
  | true =>
    cases ob with
    | false => rfl
    | true =>
      show pm_I (xc h m) a y = _
      unfold xc
      split
      · rfl
      · rw [ev_II, if_neg ha]
theorem sSt_mem : ∀ {st : tSt} {p : Nat}, sSt st p → ∀ s, s ∈ st → s.2.1 < p ∧ s.2.2 < p
  | [], _, _, s, m => by cases m
  | t :: r, p, z, s, m => by
    rcases List.mem_cons.mp m with e | m
    · rw [e]; exact ⟨z.1, z.2.1⟩
    · have := sSt_mem z.2.2.2.2 s m
      have := z.1
      omega
def EXX (B : Nat → Nat) (e : Nat) (d ob : Bool) (m eo el N : Nat) (st : tSt) (h : pm_H) (p : Nat) : Prop := match sp_ex B e d ob N st p with
  | .inl w => sp_xh B e d ob m eo el N (st.length + 1) h p = .inl w
  | .inr (v, p') => ∃ h', sp_xh B e d ob m eo el N (st.length + 1) h p = .inr (h', p') ∧ pEx h h' m eo el p p' st v
theorem EXX_l {B : Nat → Nat} {e : Nat} {d ob : Bool} {m eo el N : Nat} {st : tSt} {h : pm_H} {p : Nat} {w : Nat × Nat} (q : EXX B e d ob m eo el N st h p) (z : sp_ex B e d ob N st p = .inl w) : sp_xh B e d ob m eo el N (st.length + 1) h p = .inl w := by unfold EXX at q; rw [z] at q; exact q
theorem EXX_r {B : Nat → Nat} {e : Nat} {d ob : Bool} {m eo el N : Nat} {st : tSt} {h : pm_H} {p : Nat} {v : tWr} {p' : Nat} (q : EXX B e d ob m eo el N st h p) (z : sp_ex B e d ob N st p = .inr (v, p')) : ∃ h', sp_xh B e d ob m eo el N (st.length + 1) h p = .inr (h', p') ∧ pEx h h' m eo el p p' st v := by unfold EXX at q; rw [z] at q; exact q
theorem EXX_il {B : Nat → Nat} {e : Nat} {d ob : Bool} {m eo el N : Nat} {st : tSt} {h : pm_H} {p : Nat} {w : Nat × Nat} (z : sp_ex B e d ob N st p = .inl w) (q : sp_xh B e d ob m eo el N (st.length + 1) h p = .inl w) : EXX B e d ob m eo el N st h p := by unfold EXX; rw [z]; exact q
theorem EXX_ir {B : Nat → Nat} {e : Nat} {d ob : Bool} {m eo el N : Nat} {st : tSt} {h : pm_H} {p : Nat} {v : tWr} {p' : Nat} (z : sp_ex B e d ob N st p = .inr (v, p')) (q : ∃ h', sp_xh B e d ob m eo el N (st.length + 1) h p = .inr (h', p') ∧ pEx h h' m eo el p p' st v) : EXX B e d ob m eo el N st h p := by unfold EXX; rw [z]; exact q
theorem b_inv {α β : Type} {o : sp_O α} {k : α → Nat → sp_O β} {v : β} {p : Nat} (q : sp_b o k = .inr (v, p)) : ∃ a p1, o = .inr (a, p1) ∧ k a p1 = .inr (v, p) := by
  cases o with
  | inl w => cases q
  | inr x => exact ⟨x.1, x.2, rfl, q⟩
theorem up_ex_lt {B : Nat → Nat} {e : Nat} {d ob : Bool} : ∀ {N : Nat} {st : tSt} {p : Nat} {v : tWr} {p2 : Nat}, sp_ex B e d ob N st p = .inr (v, p2) → p < p2 ∧ p2 ≤ e := by
  intro N
  induction N with
  | zero => intro st p v p2 q; cases q
  | succ N ih =>
    intro st p v p2 q
    unfold sp_ex at q
    by_cases c : p < e
    · rw [if_pos c] at q
      by_cases c11 : B p = 11
      · rw [if_pos c11] at q
        cases st with
        | nil => cases q; omega
        | cons s r =>
          obtain ⟨a, p1, e1, e2⟩ := b_inv q
          cases e2
          have := ih e1
          omega
      · rw [if_neg c11] at q
        by_cases cb : 2 ≤ B p ∧ B p ≤ 4
        · rw [if_pos cb] at q
          obtain ⟨a, p1, e1, e2⟩ := b_inv q
          have := up_blk (by omega) _ _ e1
          have := ih e2
          omega
        · rw [if_neg cb] at q
          by_cases c5 : B p = 5
          · rw [if_pos c5] at q
            cases st with
            | nil => cases q
            | cons s r =>
              by_cases c4 : s.1 = 4
              · have q' : sp_b (sp_ex B e d ob N ((5, s.2.1, p) :: r) (p + 1)) (fun v p2 => (.inr (((true, s.2.1, p) :: v.1, v.2), p2) : sp_O tWr)) = .inr (v, p2) := by
                  have z : (if s.1 = 4 then sp_b (sp_ex B e d ob N ((5, s.2.1, p) :: r) (p + 1)) (fun v p2 => (.inr (((true, s.2.1, p) :: v.1, v.2), p2) : sp_O tWr)) else .inl (10, p)) = .inr (v, p2) := q
                  rw [if_pos c4] at z
                  exact z
                obtain ⟨a, p1, e1, e2⟩ := b_inv q'
                cases e2
                have := ih e1
                omega
              · have z : (if s.1 = 4 then sp_b (sp_ex B e d ob N ((5, s.2.1, p) :: r) (p + 1)) (fun v p2 => (.inr (((true, s.2.1, p) :: v.1, v.2), p2) : sp_O tWr)) else .inl (10, p)) = .inr (v, p2) := q
                rw [if_neg c4] at z
                cases z
          · rw [if_neg c5] at q
            obtain ⟨a, p1, e1, e2⟩ := b_inv q
            obtain ⟨a2, p3, e3, e4⟩ := b_inv e2
            cases e4
            have := up_ops (by omega) _ _ e1
            have := ih e3
            omega
    · rw [if_neg c] at q
      cases q
theorem ex_xh {B : Nat → Nat} {e n : Nat} {d ob : Bool} {m eo el : Nat} (hn : n ≤ 40960) (he : e ≤ n) (hm : 648 < m) (ho : 648 < eo) (hl : 648 < el) (hd : eo ≠ el) (h1 : m ≠ eo) (h2 : m ≠ el) : ∀ (N : Nat) (st : tSt) (h : pm_H) (p : Nat), p ≤ e → sSt st p → hSt h el st → pm_I h 596 0 = 0 → (∀ y, p ≤ y → y < n → pm_I h el y = 0) → EXX B e d ob m eo el N st h p := by
  intro N
  induction N with
  | zero => intro st h p hp s1 s2 z0 fr; exact EXX_il (w := (0, 0)) rfl rfl
  | succ N ih =>
    intro st h p hp s1 s2 z0 fr
    by_cases c : p < e
    · by_cases c11 : B p = 11
      · cases st with
        | nil =>
          refine EXX_ir (v := ([], false)) (p' := p + 1) (by unfold sp_ex; rw [if_pos c, if_pos c11]) ⟨h, by unfold sp_xh; rw [if_pos c, if_pos c11, if_pos (show ([] : tSt).length + 1 = 1 from rfl)], ?_⟩
          exact ⟨fun w hw => absurd hw List.not_mem_nil, fun y x hw => absurd hw List.not_mem_nil, fun y _ => rfl, fun y _ => rfl, fun y x hw => absurd hw List.not_mem_nil, fun y x hw => absurd hw List.not_mem_nil, rfl, rfl⟩
        | cons s r =>
          obtain ⟨o, a, l⟩ := s
          obtain ⟨q1, q2, q3, q4, q5⟩ := s1
          obtain ⟨t1, t2, t3, t4⟩ := s2
          simp only at q1 q2 q3 q4 q5 t1 t2 t3
          have cn : (pm_I h 597 (r.length + 1)).toNatClampNeg = a := by rw [t2, nn_cm (by omega)]
          have zl : (pm_I h el a ≤ 0) = (l = 0) := by rw [t3, n3_0, nn_le (by omega) (by decide)]; exact propext (by omega)
          obtain ⟨g, eg, gx, gm, geo⟩ : ∃ g, xpop h eo el (r.length + 1) p = g ∧ (∀ x y, x ≠ eo → pm_I g x y = pm_I h x y) ∧ (∀ y, y ≠ a → (l = 0 ∨ y ≠ l) → pm_I g eo y = pm_I h eo y) ∧ (∀ y, y = a ∨ (y = l ∧ l ≠ 0) → pm_I g eo y = Int32.ofNat p) := by
            refine ⟨_, rfl, fun x y hx => ?_, fun y hy hy2 => ?_, fun y hy => ?_⟩ <;> unfold xpop <;> simp only [cn, zl]
            · split
              · rw [ev_II, if_neg hx]
              · rw [ev_II, if_neg hx, ev_II, if_neg hx]
            · split
              · rw [ev_II, if_pos rfl, if_neg hy]
              · next z => rw [t3, nn_cm (by omega), ev_II, if_pos rfl, if_neg (by omega), ev_II, if_pos rfl, if_neg hy]
            · split
              · next z => rw [ev_II, if_pos rfl, if_pos (by omega)]
              · next z =>
                rw [t3, nn_cm (by omega), ev_II, if_pos rfl]
                by_cases yl : y = l
                · rw [if_pos yl]
                · rw [if_neg yl, ev_II, if_pos rfl, if_pos (by omega)]
          have i := ih r g (p + 1) (by omega) (sSt_m q5 (by omega)) (hSt_k t4 q5 (fun y _ => gx _ _ (by omega)) (fun y _ => gx _ _ (by omega)) (fun y _ => gx _ _ (fun z => hd z.symm))) (by rw [gx _ _ (by omega)]; exact z0) (fun y hy hy2 => by rw [gx _ _ (fun z => hd z.symm)]; exact fr y (by omega) hy2)
          have ex : sp_xh B e d ob m eo el (N + 1) ((((o, a, l) :: r) : tSt).length + 1) h p = sp_xh B e d ob m eo el N (r.length + 1) g (p + 1) := by
            show sp_xh B e d ob m eo el (N + 1) (r.length + 1 + 1) h p = _
            rw [← eg]
            conv => lhs; unfold sp_xh
            rw [if_pos c, if_pos c11, if_neg (by omega)]
            rfl
          cases oe : sp_ex B e d ob N r (p + 1) with
          | inl w =>
            refine EXX_il (w := w) ?_ ?_
            · unfold sp_ex
              rw [if_pos c, if_pos c11]
              show sp_b (sp_ex B e d ob N r (p + 1)) _ = _
              rw [oe]; rfl
            · rw [ex]; exact EXX_l i oe
          | inr vp =>
            obtain ⟨v, p2⟩ := vp
            obtain ⟨h', xe, e1, e2, e3, e4, e5, e6, e7, e8⟩ := EXX_r i oe
            refine EXX_ir (v := ((false, a, p) :: (if l = 0 then v.1 else (false, l, p) :: v.1), v.2)) (p' := p2) ?_ ⟨h', by rw [ex]; exact xe, ?_⟩
            · unfold sp_ex
              rw [if_pos c, if_pos c11]
              show sp_b (sp_ex B e d ob N r (p + 1)) _ = _
              rw [oe]; rfl
            · have pp : p < p2 := by
                have u := up_ex_lt oe
                omega
              have inr_lt : ∀ y, inSt r y → y < a := fun y hy => inSt_lt q5 hy
              have mem : ∀ w, w ∈ ((false, a, p) :: (if l = 0 then v.1 else (false, l, p) :: v.1)) → w = (false, a, p) ∨ (w = (false, l, p) ∧ l ≠ 0) ∨ w ∈ v.1 := by
                intro w hw
                rcases List.mem_cons.mp hw with z | z
                · exact .inl z
                · split at z
                  · exact .inr (.inr z)
                  · next l0 =>
                    rcases List.mem_cons.mp z with z | z
                    · exact .inr (.inl ⟨z, l0⟩)
                    · exact .inr (.inr z)
              have memv : ∀ w, w ∈ v.1 → w ∈ ((false, a, p) :: (if l = 0 then v.1 else (false, l, p) :: v.1)) := by
                intro w hw
                refine List.mem_cons.mpr (.inr ?_)
                split
                · exact hw
                · exact List.mem_cons.mpr (.inr hw)
              have nw : ∀ y, y = a ∨ (y = l ∧ l ≠ 0) → ∀ x, (false, y, x) ∉ v.1 := by
                intro y hy x hx
                obtain ⟨-, z⟩ := e1 _ hx
                rcases z with z | z
                · simp only at z; omega
                · have := inr_lt _ z
                  simp only at this
                  omega
              refine ⟨fun w hw => ?_, fun y x hx => ?_, fun y hy => ?_, fun y hy => ?_, fun y x hx => ?_, fun y x hx => ?_, ?_, ?_⟩
              · rcases mem w hw with z | ⟨z, z2⟩ | z
                · rw [z]; exact ⟨by show a < p2; omega, .inr ⟨(o, a, l), List.mem_cons_self .., .inl rfl⟩⟩
                · rw [z]; exact ⟨by show l < p2; omega, .inr ⟨(o, a, l), List.mem_cons_self .., .inr ⟨rfl, z2⟩⟩⟩
                · obtain ⟨f1, f2⟩ := e1 w z
                  refine ⟨f1, ?_⟩
                  rcases f2 with f2 | ⟨t, f2, f3⟩
                  · exact .inl (by omega)
                  · exact .inr ⟨t, List.mem_cons.mpr (.inr f2), f3⟩
              · rcases mem _ hx with z | ⟨z, -⟩ | z
                · cases z
                · cases z
                · rcases e2 y x z with f | ⟨t, f1, f2⟩
                  · exact .inl (by omega)
                  · exact .inr ⟨t, List.mem_cons.mpr (.inr f1), f2⟩
              · rw [e3 y (fun x hx => hy x (memv _ hx))]
                refine gm y (fun z => ?_) ?_
                · exact hy p (by rw [z]; exact List.mem_cons_self ..)
                · by_cases l0 : l = 0
                  · exact .inl l0
                  · refine .inr (fun z => hy p ?_)
                    rw [z, if_neg l0]
                    exact List.mem_cons.mpr (.inr (List.mem_cons_self ..))
              · rw [e4 y (fun x hx => hy x (memv _ hx))]
                exact gx _ _ (fun z => hd z.symm)
              · rcases mem _ hx with z | ⟨z, z2⟩ | z
                · cases z
                  rw [e3 a (nw a (.inl rfl))]
                  exact geo a (.inl rfl)
                · cases z
                  rw [e3 l (nw l (.inr ⟨rfl, z2⟩))]
                  exact geo l (.inr ⟨rfl, z2⟩)
                · exact e5 y x z
              · rcases mem _ hx with z | ⟨z, -⟩ | z
                · cases z
                · cases z
                · exact e6 y x z
              · rw [e7, gx _ _ h1, gx _ _ (by omega)]
              · rw [e8, gx _ _ (by omega)]
      · by_cases cb : 2 ≤ B p ∧ B p ≤ 4
        · have ub := up_blk (B := B) (e := e) (p := p + 1) (by omega)
          have x1 : sp_xh B e d ob m eo el (N + 1) (st.length + 1) h p = sp_b (sp_blk B e (p + 1)) fun _ p2 => sp_xh B e d ob m eo el N (st.length + 1 + 1) (pm_setI (pm_setI h 596 (st.length + 1) (Int32.ofNat (B p))) 597 (st.length + 1) (Int32.ofNat p)) p2 := by
            conv => lhs; unfold sp_xh
            rw [if_pos c, if_neg c11, if_pos cb]
          have x2 : sp_ex B e d ob (N + 1) st p = sp_b (sp_blk B e (p + 1)) fun _ p2 => sp_ex B e d ob N ((B p, p, 0) :: st) p2 := by
            conv => lhs; unfold sp_ex
            rw [if_pos c, if_neg c11, if_pos cb]
          cases ob1 : sp_blk B e (p + 1) with
          | inl w => exact EXX_il (w := w) (by rw [x2, ob1]; rfl) (by rw [x1, ob1]; rfl)
          | inr tp =>
            obtain ⟨t, p2⟩ := tp
            obtain ⟨u1, u2⟩ := ub t p2 ob1
            obtain ⟨g, eg⟩ : ∃ g, pm_setI (pm_setI h 596 (st.length + 1) (Int32.ofNat (B p))) 597 (st.length + 1) (Int32.ofNat p) = g := ⟨_, rfl⟩
            have gx : ∀ x y, x ≠ 596 → x ≠ 597 → pm_I g x y = pm_I h x y := fun x y a b => by rw [← eg, ev_II, if_neg b, ev_II, if_neg a]
            have g6 : ∀ y, y ≠ st.length + 1 → pm_I g 596 y = pm_I h 596 y := fun y a => by rw [← eg, ev_II, if_neg (by decide), ev_II, if_pos rfl, if_neg a]
            have g7 : ∀ y, y ≠ st.length + 1 → pm_I g 597 y = pm_I h 597 y := fun y a => by rw [← eg, ev_II, if_pos rfl, if_neg a, ev_II, if_neg (by decide)]
            have i := ih ((B p, p, 0) :: st) g p2 u2 ⟨by show p < p2; omega, by show 0 < p2; omega, .inl rfl, by show B p < 256; omega, s1⟩ ⟨by rw [← eg]; show pm_I _ 596 (st.length + 1) = _; rw [ev_II, if_neg (by decide), ev_II, if_pos rfl, if_pos rfl], by rw [← eg]; show pm_I _ 597 (st.length + 1) = _; rw [ev_II, if_pos rfl, if_pos rfl], by rw [gx _ _ (by omega) (by omega)]; exact fr p (Nat.le_refl _) (by omega), hSt_k s2 s1 (fun y hy => g6 y (by omega)) (fun y hy => g7 y (by omega)) (fun y _ => gx _ _ (by omega) (by omega))⟩ (by rw [g6 0 (by omega)]; exact z0) (fun y hy hy2 => by rw [gx _ _ (by omega) (by omega)]; exact fr y (by omega) hy2)
            have x3 : sp_xh B e d ob m eo el (N + 1) (st.length + 1) h p = sp_xh B e d ob m eo el N ((((B p, p, 0) :: st) : tSt).length + 1) g p2 := by rw [x1, ob1, ← eg]; rfl
            have x4 : sp_ex B e d ob (N + 1) st p = sp_ex B e d ob N ((B p, p, 0) :: st) p2 := by rw [x2, ob1]; rfl
            cases oe : sp_ex B e d ob N ((B p, p, 0) :: st) p2 with
            | inl w => exact EXX_il (w := w) (by rw [x4, oe]) (by rw [x3]; exact EXX_l i oe)
            | inr vp =>
              obtain ⟨v, p3⟩ := vp
              obtain ⟨h', xe, e1, e2, e3, e4, e5, e6, e7, e8⟩ := EXX_r i oe
              refine EXX_ir (v := v) (p' := p3) (by rw [x4, oe]) ⟨h', by rw [x3]; exact xe, fun w hw => ?_, fun y x hx => ?_, fun y hy => ?_, fun y hy => ?_, e5, e6, ?_, ?_⟩
              · obtain ⟨f1, f2⟩ := e1 w hw
                refine ⟨f1, ?_⟩
                rcases f2 with f2 | ⟨t, f2, f3⟩
                · exact .inl (by omega)
                · rcases List.mem_cons.mp f2 with f2 | f2
                  · rw [f2] at f3
                    rcases f3 with f3 | ⟨f3, f4⟩
                    · exact .inl (Nat.le_of_eq f3.symm)
                    · exact absurd rfl f4
                  · exact .inr ⟨t, f2, f3⟩
              · rcases e2 y x hx with f | ⟨t, f1, f2, f3⟩
                · exact .inl (by omega)
                · rcases List.mem_cons.mp f1 with f1 | f1
                  · rw [f1] at f3
                    exact .inl (Nat.le_of_eq f3.symm)
                  · exact .inr ⟨t, f1, f2, f3⟩
              · rw [e3 y hy, gx _ _ (by omega) (by omega)]
              · rw [e4 y hy, gx _ _ (by omega) (by omega)]
              · rw [e7, gx _ _ (by omega) (by omega), gx _ _ (by omega) (by omega)]
              · rw [e8, gx _ _ (by omega) (by omega)]
        · by_cases c5 : B p = 5
          · have x1 : sp_xh B e d ob m eo el (N + 1) (st.length + 1) h p = if pm_I h 596 st.length = 4 then sp_xh B e d ob m eo el N (st.length + 1) (pm_setI (pm_setI h 596 st.length 5) el (pm_I h 597 st.length).toNatClampNeg (Int32.ofNat p)) (p + 1) else .inl (10, p) := by
              conv => lhs; unfold sp_xh
              rw [if_pos c, if_neg c11, if_neg cb, if_pos c5]
              rfl
            cases st with
            | nil =>
              refine EXX_il (w := (10, p)) ?_ ?_
              · unfold sp_ex; rw [if_pos c, if_neg c11, if_neg cb, if_pos c5]
              · rw [x1, if_neg (show ¬ pm_I h 596 ([] : tSt).length = 4 from fun z => absurd (z0.symm.trans z) (by decide))]
            | cons s r =>
              obtain ⟨o, a, l⟩ := s
              obtain ⟨q1, q2, q3, q4, q5⟩ := s1
              obtain ⟨t1, t2, t3, t4⟩ := s2
              simp only at q1 q2 q3 q4 q5 t1 t2 t3
              have cn : (pm_I h 597 (r.length + 1)).toNatClampNeg = a := by rw [t2, nn_cm (by omega)]
              have x2 : sp_ex B e d ob (N + 1) (((o, a, l) :: r) : tSt) p = if o = 4 then sp_b (sp_ex B e d ob N ((5, a, p) :: r) (p + 1)) fun v p2 => .inr (((true, a, p) :: v.1, v.2), p2) else .inl (10, p) := by
                conv => lhs; unfold sp_ex
                rw [if_pos c, if_neg c11, if_neg cb, if_pos c5]
              have x1 : sp_xh B e d ob m eo el (N + 1) ((((o, a, l) :: r) : tSt).length + 1) h p = if pm_I h 596 (r.length + 1) = 4 then sp_xh B e d ob m eo el N (r.length + 1 + 1) (pm_setI (pm_setI h 596 (r.length + 1) 5) el (pm_I h 597 (r.length + 1)).toNatClampNeg (Int32.ofNat p)) (p + 1) else .inl (10, p) := x1
              by_cases o4 : o = 4
              · rw [if_pos o4] at x2
                rw [if_pos (by rw [t1, o4]; rfl), cn] at x1
                obtain ⟨g, eg⟩ : ∃ g, pm_setI (pm_setI h 596 (r.length + 1) 5) el a (Int32.ofNat p) = g := ⟨_, rfl⟩
                rw [eg] at x1
                have gx : ∀ x y, x ≠ 596 → x ≠ el → pm_I g x y = pm_I h x y := fun x y z1 z2 => by rw [← eg, ev_II, if_neg z2, ev_II, if_neg z1]
                have g6 : ∀ y, y ≠ r.length + 1 → pm_I g 596 y = pm_I h 596 y := fun y z1 => by rw [← eg, ev_II, if_neg (by omega), ev_II, if_pos rfl, if_neg z1]
                have gl : ∀ y, y ≠ a → pm_I g el y = pm_I h el y := fun y z1 => by rw [← eg, ev_II, if_pos rfl, if_neg z1, ev_II, if_neg (by omega)]
                have i := ih ((5, a, p) :: r) g (p + 1) (by omega) ⟨by show a < p + 1; omega, by show p < p + 1; omega, .inr q1, by show 5 < 256; omega, q5⟩ ⟨by rw [← eg]; show pm_I _ 596 (r.length + 1) = _; rw [ev_II, if_neg (by omega), ev_II, if_pos rfl, if_pos rfl]; rfl, by rw [gx _ _ (by decide) (by omega)]; exact t2, by rw [← eg]; show pm_I _ el a = _; rw [ev_II, if_pos rfl, if_pos rfl], hSt_k t4 q5 (fun y hy => g6 y (by omega)) (fun y hy => gx _ _ (by decide) (by omega)) (fun y hy => gl y (by omega))⟩ (by rw [g6 0 (by omega)]; exact z0) (fun y hy hy2 => by rw [gl y (by omega)]; exact fr y (by omega) hy2)
                cases oe : sp_ex B e d ob N ((5, a, p) :: r) (p + 1) with
                | inl w => exact EXX_il (w := w) (by rw [x2, oe]; rfl) (by rw [x1]; exact EXX_l i oe)
                | inr vp =>
                  obtain ⟨v, p2⟩ := vp
                  obtain ⟨h', xe, e1, e2, e3, e4, e5, e6, e7, e8⟩ := EXX_r i oe
                  have u := up_ex_lt oe
                  refine EXX_ir (v := ((true, a, p) :: v.1, v.2)) (p' := p2) (by rw [x2, oe]; rfl) ⟨h', by rw [x1]; exact xe, fun w hw => ?_, fun y x hx => ?_, fun y hy => ?_, fun y hy => ?_, fun y x hx => ?_, fun y x hx => ?_, ?_, ?_⟩
                  · rcases List.mem_cons.mp hw with z | z
                    · rw [z]; exact ⟨by show a < p2; omega, .inr ⟨(o, a, l), List.mem_cons_self .., .inl rfl⟩⟩
                    · obtain ⟨f1, f2⟩ := e1 w z
                      refine ⟨f1, ?_⟩
                      rcases f2 with f2 | ⟨t, f2, f3⟩
                      · exact .inl (by omega)
                      · rcases List.mem_cons.mp f2 with f2 | f2
                        · rw [f2] at f3
                          rcases f3 with f3 | ⟨f3, -⟩
                          · exact .inr ⟨(o, a, l), List.mem_cons_self .., .inl f3⟩
                          · exact .inl (Nat.le_of_eq f3.symm)
                        · exact .inr ⟨t, List.mem_cons.mpr (.inr f2), f3⟩
                  · rcases List.mem_cons.mp hx with z | z
                    · cases z
                      exact .inr ⟨(o, a, l), List.mem_cons_self .., o4, rfl⟩
                    · rcases e2 y x z with f | ⟨t, f1, f2, f3⟩
                      · exact .inl (by omega)
                      · rcases List.mem_cons.mp f1 with f1 | f1
                        · rw [f1] at f2; cases f2
                        · exact .inr ⟨t, List.mem_cons.mpr (.inr f1), f2, f3⟩
                  · rw [e3 y (fun x hx => hy x (List.mem_cons.mpr (.inr hx))), gx _ _ (by omega) hd]
                  · rw [e4 y (fun x hx => hy x (List.mem_cons.mpr (.inr hx)))]
                    exact gl y (fun z => hy p (by rw [z]; exact List.mem_cons_self ..))
                  · rcases List.mem_cons.mp hx with z | z
                    · cases z
                    · exact e5 y x z
                  · rcases List.mem_cons.mp hx with z | z
                    · cases z
                      have nw : ∀ x, (true, a, x) ∉ v.1 := by
                        intro x hx
                        rcases e2 a x hx with f | ⟨t, f1, f2, f3⟩
                        · omega
                        · rcases List.mem_cons.mp f1 with f1 | f1
                          · rw [f1] at f2; cases f2
                          · have := (sSt_mem q5 t f1).1
                            omega
                      rw [e4 a nw, ← eg, ev_II, if_pos rfl, if_pos rfl]
                    · exact e6 y x z
                  · rw [e7, gx _ _ (by omega) h2, gx _ _ (by omega) (by omega)]
                  · rw [e8, gx _ _ (by omega) (by omega)]
              · refine EXX_il (w := (10, p)) (by rw [x2, if_neg o4]) ?_
                rw [x1, if_neg (show ¬ pm_I h 596 (r.length + 1) = 4 by rw [t1, n3_4, nn_eq (by omega) (by omega)]; exact o4)]
          · have x1 : sp_xh B e d ob m eo el (N + 1) (st.length + 1) h p = sp_b (sp_ops B e d (B p) p (p + 1)) fun v p2 => sp_xh B e d ob m eo el N (st.length + 1) (xcb h m ob v.2.2.2) p2 := by
              conv => lhs; unfold sp_xh
              rw [if_pos c, if_neg c11, if_neg cb, if_neg c5]
            have x2 : sp_ex B e d ob (N + 1) st p = sp_b (sp_ops B e d (B p) p (p + 1)) fun v p2 => sp_b (sp_ex B e d ob N st p2) fun w p3 => .inr ((w.1, (v.2.2.2 && ob) || w.2), p3) := by
              conv => lhs; unfold sp_ex
              rw [if_pos c, if_neg c11, if_neg cb, if_neg c5]
            have uo := up_ops (B := B) (e := e) (d := d) (op := B p) (p0 := p) (p := p + 1) (by omega)
            cases oo : sp_ops B e d (B p) p (p + 1) with
            | inl w => exact EXX_il (w := w) (by rw [x2, oo]; rfl) (by rw [x1, oo]; rfl)
            | inr vp =>
              obtain ⟨v, p2⟩ := vp
              obtain ⟨u1, u2⟩ := uo v p2 oo
              rw [oo, sp_br] at x1 x2
              have gx : ∀ x y, x ≠ m → pm_I (xcb h m ob v.2.2.2) x y = pm_I h x y := fun x y z => xcb_o h ob _ z
              have i := ih st (xcb h m ob v.2.2.2) p2 u2 (sSt_m s1 (by omega)) (hSt_k s2 s1 (fun y _ => gx _ _ (by omega)) (fun y _ => gx _ _ (by omega)) (fun y _ => gx _ _ (fun z => h2 z.symm))) (by rw [gx _ _ (by omega)]; exact z0) (fun y hy hy2 => by rw [gx _ _ (fun z => h2 z.symm)]; exact fr y (by omega) hy2)
              cases oe : sp_ex B e d ob N st p2 with
              | inl w => exact EXX_il (w := w) (by rw [x2, oe]; rfl) (by rw [x1]; exact EXX_l i oe)
              | inr wp =>
                obtain ⟨w, p3⟩ := wp
                obtain ⟨h', xe, e1, e2, e3, e4, e5, e6, e7, e8⟩ := EXX_r i oe
                refine EXX_ir (v := (w.1, (v.2.2.2 && ob) || w.2)) (p' := p3) (by rw [x2, oe]; rfl) ⟨h', by rw [x1]; exact xe, fun w hw => ?_, fun y x hx => ?_, fun y hy => ?_, fun y hy => ?_, e5, e6, ?_, ?_⟩
                · obtain ⟨f1, f2⟩ := e1 w hw
                  exact ⟨f1, f2.elim (fun z => .inl (by omega)) .inr⟩
                · exact (e2 y x hx).elim (fun z => .inl (by omega)) .inr
                · rw [e3 y hy, gx _ _ (fun z => h1 z.symm)]
                · rw [e4 y hy, gx _ _ (fun z => h2 z.symm)]
                · rw [e7, xcb_xv, gx _ _ (by omega), xv_or]
                · rw [e8, gx _ _ (by omega)]
    · refine EXX_il (w := (1, e)) ?_ ?_
      · unfold sp_ex; rw [if_neg c]
      · unfold sp_xh; rw [if_neg c]
