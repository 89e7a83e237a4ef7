/-! THE CLASS CHECKS: a body -/
def zAI (bo co x y : Nat) : Prop := lAI bo co x y ∨ qAI x y
section XBDY
variable {r r2 : pm_H} {n b mm lo hi bo co dd cap cs bx b' s t : Nat} {B : Nat → Nat} {M : tMd} {D : Bool} {Dc : Nat → Bool} {a : tBo}
theorem zF_l {h h' : pm_H} (F : lFr bo co h h') : gF (zAI bo co) lAL h h' := gF_m F (fun _ _ z => .inl z) (fun _ _ z => z)
theorem zF_q {h h' : pm_H} (F : qFr h h') : gF (zAI bo co) lAL h h' := gF_m F (fun _ _ z => .inr z) (fun _ _ z => z.elim)
/-- a body, from where it is opened -/
theorem x_body (k1 : pm_kd r 22 = 1) (Rm : pm_R r 22 2 = some mm) (km : pm_kd r mm = 7) (Rc : pm_R r mm 12 = some cs) (kc : pm_kd r cs = 38) (bl : b' < pm_ln r cs) (lc : pm_ln r cs < 2147483648) (Rbo : pm_R r cs b' = some bo) (R3 : pm_R r 22 3 = some 19) (R11 : pm_R r mm 11 = some bx) (nm : mm ≠ 22) (it : fX12_item (pm_setR r 22 17 (some bo)) bx (2 * Int32.ofNat b') = some (Int32.ofNat a.1)) (k9 : pm_kd r 19 = 9) (op : fX9_open (pm_setR r 22 17 (some bo)) 19 mm (Int32.ofNat a.1) = some r2)
    (C : xC r2 n b mm lo hi bo co dd cap B M) (j1 : pm_I r2 19 1 = Int32.ofNat a.1) (j3 : pm_I r2 19 3 = 0) (j16 : pm_I r2 19 16 = 0) (i0 : pm_I r2 22 0 = 0) (ib0 : pm_I r2 bo 2 = 0)
    (P : shP r2 lo hi s (btP M (Int64.ofNat t)) (btR M (Int64.ofNat t))) (Rb : pm_R r2 bo 0 = some s) (dt : (0 ≤ pm_L r2 mm 14) = (D = true)) (Dd : xD r2 dd (spF M).length Dc) (G : vG B n D M) (hF : ∀ f, f ∈ spF M → f.2.1 < M.1.length) (ha : M.2.2.2.2.2.2.2.2.2.1[b']? = some a) (ht : M.2.2.1[b']? = some t) (hc : a.2.2.2.1 + 1 - a.1 ≤ cap) (s27 : 27 < pm_sz r2) (sb : bo < pm_sz r2) :
    ∃ r' r6 sl mo, fX1_body r 22 (Int32.ofNat b') = some r' ∧ gF (zAI bo co) lAL r2 r6 ∧ lR M bo co (kBody B n D M Dc t a) r6 ∧ sl = (btP M (Int64.ofNat t)).length + sumL a.2.2.2.2.1 ∧ pm_I r6 22 8 = Int32.ofNat mo ∧ ∃ rb h', rb = pm_setI (pm_setI r6 bo 3 (Int32.ofNat sl)) bo 4 (Int32.ofNat mo) ∧ nA rb h' 34 (2 * (rfL (btP M (Int64.ofNat t)).length a.2.2.2.2.1).length) ∧ r' = pm_setR h' bo 5 (some (pm_sz r6)) ∧ ∀ i q, (rfL (btP M (Int64.ofNat t)).length a.2.2.2.2.1)[i]? = some q → pm_I r' (pm_sz r6) (2 * i) = Int32.ofNat q.1 ∧ pm_I r' (pm_sz r6) (2 * i + 1) = Int32.ofNat q.2 := by
  have T := vG_T G
  have T1 := T.1
  have hB : ∀ i, B i < 256 := C.1.2.2.2.2.2.2.2.2.2
  have n4 : n ≤ 40960 := C.1.2.2.2.2.2.2.1
  have aa := C.2.2.2.1
  have u := C.2.2.1.2.2.2.2.2.2.2.2.2
  obtain ⟨m1, m2, m3⟩ := C.2.2.1.2.2.2.2.2.1
  have tl : t < M.1.length := hF _ (List.mem_of_getElem? (m_own C ht))
  have BW := bt_w T (wfT_t T tl)
  have g := G.1.2.2.2.2.2.2.2.2.2.1 a (List.mem_of_getElem? ha)
  have lm := or_f (G.1.2.2.2.2.2.2.2.2.2.2.2.2.2.2.2.2.2.2.2.2 G.2 a (List.mem_of_getElem? ha))
  obtain ⟨g1, g2, g3, g4, ⟨cc, p1, g5, g6⟩, g7⟩ := g
  have a1000 : a.2.1 ≤ 1000 := Nat.not_lt.mp (of_decide_eq_false lm.1)
  obtain ⟨r3, e3, F3, y1, y3, y12, yL, yR⟩ := x_rdl C P BW.1 BW.2.2.1 Rb j3 j1 g5 g6 (by omega)
  have C3 := qC_F C F3
  obtain ⟨r4, e4⟩ : ∃ z, z = pm_setI (pm_setI (pm_setI r3 22 6 0) 22 8 0) 22 10 0 := ⟨_, rfl⟩
  have F4 : lFr bo co r3 r4 := by
    rw [e4]
    exact gF_t (gF_t (gF_I r3 _ (.inl (.inr (.inl ⟨rfl, by omega⟩)))) (gF_I _ _ (.inr (.inr ⟨rfl, .inr rfl⟩)))) (gF_I _ _ (.inl (.inr (.inl ⟨rfl, by omega⟩))))
  have C4 := lC_F C3 F4
  have q4 : ∀ x y, ¬ (x = 22 ∧ (y = 6 ∨ y = 8 ∨ y = 10)) → pm_I r4 x y = pm_I r3 x y := fun x y hn => by
    rw [e4, ev_II]
    by_cases q : x = 22
    · rw [if_pos q, if_neg (by omega), ev_II, if_pos q, if_neg (by omega), ev_II, if_pos q, if_neg (by omega)]
    · rw [if_neg q, ev_II, if_neg q, ev_II, if_neg q]
  have q3 : ∀ x y, ¬ qAI x y → pm_I r3 x y = pm_I r2 x y := F3.2.2.2.2.1
  have z6 : pm_I r4 22 6 = 0 := by rw [e4, ev_II, if_pos rfl, if_neg (by decide), ev_II, if_pos rfl, if_neg (by decide), ev_II, if_pos rfl, if_pos rfl]
  have z8 : pm_I r4 22 8 = 0 := by rw [e4, ev_II, if_pos rfl, if_neg (by decide), ev_II, if_pos rfl, if_pos rfl]
  have z10 : pm_I r4 22 10 = 0 := by rw [e4, ev_II, if_pos rfl, if_pos rfl]
  have im := m_imp (k := 0) C4.1.2.2.1 (C4.2.1.2.1 (by decide)) (by decide) (fun x hx => by have := (G.1.2.1 x hx).1; omega)
  have ty := m_typ C4 ht
  obtain ⟨r5, e5, F5, V5, W5, wc5, bk5, kb5⟩ := x_beg C4 T tl ((q4 22 0 (by omega)).trans ((q3 22 0 (by unfold qAI; omega)).trans i0)) z6 z10 ((q4 bo 2 (by omega)).trans ((q3 bo 2 (by unfold qAI; omega)).trans ib0))
  have F35 : lFr bo co r3 r5 := gF_t F4 (lF_x F5)
  have C5 := lC_F C3 F35
  have F25 : gF (zAI bo co) lAL r2 r5 := gF_t (zF_q F3) (zF_l F35)
  have k5 : ∀ x y, ¬ xAI bo co x y → pm_I r5 x y = pm_I r4 x y := F5.2.2.2.2.1
  have ex : eW B n D 1 a.2.2.1 (a.2.2.2.1 + 1) := .inr ⟨n + 1, [], a.2.2.2.2.2, g7, lm.2, rfl⟩
  have hp : a.2.2.1 ≤ n := by have := eW_le hB _ (Nat.le_refl _) ex; omega
  obtain ⟨r6, e6, F6, R6⟩ := x_run (ob := false) (lt := ltB (btP M (Int64.ofNat t)) a.2.2.2.2.1) G hF (vG_E G) (vG_M G) (n + 1) a.2.2.1 0 0 C5 V5 W5 wc5 bk5 kb5 ex (by omega) hp (by decide) (Nat.zero_le _) ((k5 22 8 (by unfold xAI; omega)).trans z8) ((k5 19 1 (by unfold xAI; omega)).trans ((q4 19 1 (by omega)).trans y1)) ((k5 19 3 (by unfold xAI; omega)).trans ((q4 19 3 (by omega)).trans y3)) (by
    have : pm_I r5 19 16 = 0 := (k5 19 16 (by unfold xAI; omega)).trans ((q4 19 16 (by omega)).trans ((q3 19 16 (by unfold qAI; omega)).trans j16))
    exact propext ⟨fun _ => rfl, fun _ => this⟩) (by rw [F25.2.2.2.2.2 mm 14 (by unfold lAL; omega)]; exact dt) (xLo_F C3 F35 yL) (fun i hi => by
      have : pm_I r5 dd i = pm_I r2 dd i := F25.2.2.2.2.1 dd i (by
        obtain ⟨-, -, ⟨-, ⟨-, e2, -⟩, -, -, -, -, -, -, -, ⟨-, u2, -, u4, -⟩⟩, -⟩ := C
        have n1 : dd ≠ bo := fun e => by rw [e, u2] at e2; exact absurd e2 (by decide)
        have n2 : dd ≠ co := fun e => by rw [e, u4] at e2; exact absurd e2 (by decide)
        unfold zAI lAI xAI qAI; omega)
      rw [this]
      exact Dd i hi) (by show 0 + (a.2.2.2.1 + 1 - a.2.2.1) ≤ cap; omega)
  have C6 := lC_F C5 F6
  have F36 : lFr bo co r3 r6 := gF_t F35 F6
  have F26 : gF (zAI bo co) lAL r2 r6 := gF_t F25 (zF_l F6)
  obtain ⟨mo, hmo⟩ := i32_nat (pm_I r6 22 8)
  have rfl2 : 2 * (rfL (btP M (Int64.ofNat t)).length a.2.2.2.2.1).length ≤ 2000 := by
    have : ∀ (l : List (Nat × Nat)) (lc : Nat), (rfL lc l).length ≤ sumL l := by
      intro l
      induction l with
      | nil => intro lc; exact Nat.le_refl _
      | cons w l ih =>
        intro lc
        have := ih (lc + w.1)
        have sl : sumL (w :: l) = w.1 + sumL l := rfl
        show ((if 0 < w.1 ∧ sp_isR w.2 = true then [(lc, lc + w.1)] else []) ++ rfL (lc + w.1) l).length ≤ _
        rw [List.length_append, sl]
        by_cases z : 0 < w.1 ∧ sp_isR w.2 = true
        · rw [if_pos z]
          show 1 + _ ≤ _
          omega
        · rw [if_neg z]
          show 0 + _ ≤ _
          omega
    have := this a.2.2.2.2.1 (btP M (Int64.ofNat t)).length
    omega
  have R3r : rR r6 (rfL (btP M (Int64.ofNat t)).length a.2.2.2.2.1) := ⟨(F36.2.2.2.2.1 22 14 (by unfold lAI xAI; omega)).trans yR.1, fun i q hq => ⟨(F36.2.2.2.2.1 27 _ (by unfold lAI xAI; omega)).trans (yR.2 i q hq).1, (F36.2.2.2.2.1 27 _ (by unfold lAI xAI; omega)).trans (yR.2 i q hq).2⟩⟩
  obtain ⟨r', e7, hfin⟩ := x_bfin C6 (by rw [F26.1]; exact s27) (by rw [F26.1]; exact sb) (by omega) ((F36.2.2.2.2.1 22 12 (by unfold lAI xAI; omega)).trans y12) hmo R3r rfl2
  refine ⟨r', r6, _, mo, ?_, F26, R6, rfl, hmo, hfin⟩
  unfold fX1_body
  refine k_w (aX1_body_0 ..) ?_
  unfold tX1_body_0
  have nR : ∀ x y, ¬ (x = 22 ∧ y = 17) → pm_R (pm_setR r 22 17 (some bo)) x y = pm_R r x y := fun x y hn => by
    show (if x = 22 then (if y = 17 then some bo else pm_R r x y) else pm_R r x y) = _
    by_cases q : x = 22
    · rw [if_pos q, if_neg (fun z => hn ⟨q, z⟩)]
    · rw [if_neg q]
  refine k_f (by rw [n3_0, nn_lt (by omega) (by decide)]; omega) (k_t k1 (k_b Rm (k_t km (k_b Rc (k_t kc (k_t (by rw [nn_lt (by omega) lc]; exact bl) (k_t (by rw [nn_in (by omega)]; exact bl) ?_)))))))
  rw [nn_cm (by omega)]
  refine k_b Rbo (k_b ((nR 22 3 (by omega)).trans R3) (k_b ((nR 22 2 (by omega)).trans Rm) (k_t km (k_b ((nR mm 11 (fun z => nm z.1)).trans R11) (k_b it (k_t k9 (k_b op (k_t C.2.2.1.1.1 (k_b e3 (k_t C3.2.2.1.1.1 ?_))))))))))
  rw [← e4]
  refine k_b C4.2.2.1.1.2.1 (k_t C4.1.2.2.1 (k_b im (k_b ty ?_)))
  rw [ll_t3]
  refine k_b e5 (k_n ?_)
  exact e6.trans e7
end XBDY
