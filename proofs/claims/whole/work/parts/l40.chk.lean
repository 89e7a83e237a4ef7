/-! THE REFERENCE CHECKS: all of it -/
section VCHK
variable {h : pm_H} {n b m eo el i : Nat} {B : Nat → Nat} {M : tMd} {D : Bool}
/-- the head's faults, one behind the other -/
def sp_hdS (B : Nat → Nat) (M : tMd) {α : Type} (X : sp_O α) : sp_O α :=
  sp_b (if M.2.1.any (fun a => decide (a.1 = 0) && decide (M.1.length ≤ a.2.1)) = true then (.inl (20, sS M 2) : sp_O Unit) else if M.2.2.1.any (fun a => decide (M.1.length ≤ a)) = true then .inl (20, sS M 3) else .inr ((), 0)) fun _ _ =>
  sp_b (if M.2.1.any (fun a => (decide (a.1 = 1) || decide (a.1 = 2)) && lmB a.2.2.1 a.2.2.2.1 (decide (a.1 = 2))) = true then (.inl (21, sS M 2) : sp_O Unit) else if M.2.2.2.1.any (fun a => lmB a.2.1 a.2.2 false) = true then .inl (21, sS M 4) else if M.2.2.2.2.1.any (fun a => lmB a.1 a.2 true) = true then .inl (21, sS M 5) else .inr ((), 0)) fun _ _ =>
  if 1 < (spM M).length then .inl (22, sS M (if isS (M.2.2.2.2.2.2.2.2.2.2.2.2.1 5) = true then 5 else 2)) else
  sp_b (match sp_xpC B M [] M.2.2.2.2.2.2.1 with
    | some w => (.inl (w, sS M 7) : sp_O Unit)
    | none => .inr ((), 0)) fun _ _ => if stB M = true then .inl (25, sS M 8) else X
theorem hdS_e {α : Type} (X : sp_O α) : (match sp_hdC B M with
    | some w => .inl (w.1, sS M w.2)
    | none => X) = sp_hdS B M X := by
  unfold sp_hdC sp_hdS
  by_cases c1 : M.2.1.any (fun a => decide (a.1 = 0) && decide (M.1.length ≤ a.2.1)) = true
  · rw [if_pos c1, if_pos c1]; rfl
  rw [if_neg c1, if_neg c1]
  by_cases c2 : M.2.2.1.any (fun a => decide (M.1.length ≤ a)) = true
  · rw [if_pos c2, if_pos c2]; rfl
  rw [if_neg c2, if_neg c2, sp_br]
  by_cases c3 : M.2.1.any (fun a => (decide (a.1 = 1) || decide (a.1 = 2)) && lmB a.2.2.1 a.2.2.2.1 (decide (a.1 = 2))) = true
  · rw [if_pos c3, if_pos c3]; rfl
  rw [if_neg c3, if_neg c3]
  by_cases c4 : M.2.2.2.1.any (fun a => lmB a.2.1 a.2.2 false) = true
  · rw [if_pos c4, if_pos c4]; rfl
  rw [if_neg c4, if_neg c4]
  by_cases c5 : M.2.2.2.2.1.any (fun a => lmB a.1 a.2 true) = true
  · rw [if_pos c5, if_pos c5]; rfl
  rw [if_neg c5, if_neg c5, sp_br]
  by_cases c6 : 1 < (spM M).length
  · rw [if_pos c6, if_pos c6]
  rw [if_neg c6, if_neg c6]
  cases sp_xpC B M [] M.2.2.2.2.2.2.1 with
  | some w => rfl
  | none =>
    show (match (if stB M = true then some (25, 8) else none : Option (Nat × Nat)) with
      | some w => .inl (w.1, sS M w.2)
      | none => X) = if stB M = true then .inl (25, sS M 8) else X
    by_cases c7 : stB M = true
    · rw [if_pos c7, if_pos c7]
    · rw [if_neg c7, if_neg c7]
theorem hdS_F {α : Type} {X : sp_O α} {v : α} {p : Nat} (q : sp_hdS B M X = .inr (v, p)) : (∀ f, f ∈ spF M → f.2.1 < M.1.length) ∧ X = .inr (v, p) := by
  unfold sp_hdS at q
  obtain ⟨u1, w1, e1, q⟩ := b_inv q
  obtain ⟨u2, w2, e2, q⟩ := b_inv q
  have h1 : M.2.1.any (fun a => decide (a.1 = 0) && decide (M.1.length ≤ a.2.1)) = false := by
    refine Bool.eq_false_iff.mpr fun z => ?_
    rw [if_pos z] at e1; cases e1
  have h2 : M.2.2.1.any (fun a => decide (M.1.length ≤ a)) = false := by
    refine Bool.eq_false_iff.mpr fun z => ?_
    rw [if_neg (fun y => by rw [h1] at y; cases y), if_pos z] at e1; cases e1
  refine ⟨fun f hf => ?_, ?_⟩
  · rcases List.mem_append.mp (show f ∈ ofK 0 M.2.1 ++ M.2.2.1.map _ from hf) with z | z
    · have mm := List.mem_filter.mp (show f ∈ M.2.1.filter _ from z)
      have := anyE_f h1 f mm.1
      rw [mm.2, Bool.true_and] at this
      exact Nat.not_le.mp (of_decide_eq_false this)
    · obtain ⟨x, hx, e⟩ := List.mem_map.mp z
      rw [← e]
      exact Nat.not_le.mp (of_decide_eq_false (anyE_f h2 x hx))
  · split at q
    · cases q
    · obtain ⟨u3, w3, e3, q⟩ := b_inv q
      split at q
      · cases q
      · exact q
theorem dRes (C : vC h n b m eo el B M) (T : vTy M) {t : Nat} (ht : t < M.1.length) : pm_I h (m + 3) t = Int32.ofNat (btR M (Int64.ofNat t)).length := by
  have T1 := T.1
  have PT := C.2.2.1.1.1 _ _ (List.getElem?_eq_getElem ht) (by omega)
  have g := T.2 _ (List.getElem_mem ht)
  have q := PT.2.1
  unfold m16 at q
  rw [if_pos g.2.2] at q
  rw [(bt_i (M := M) ht (by omega)).2]
  exact q
theorem v_all3 (C : vC h n b m eo el B M) (G : vG B n D M) (hF : ∀ f, f ∈ spF M → f.2.1 < M.1.length) (hE : M.2.2.1.length = M.2.2.2.2.2.2.2.2.2.1.length) : ∃ r, fX16_declares h 592 = some r ∧ ms_Q (vF m h) (rAll m h) (pm_lim sX16_checksAll (.inr (.inr (.inr (.inl (592, 0, r)))))) (sp_b (sp_gls B n D M M.2.2.2.2.2.1) fun _ _ => sp_b (sp_els B n D M M.2.2.2.2.2.2.2.1) fun _ _ => sp_b (sp_das B n D M M.2.2.2.2.2.2.2.2.1) fun _ _ => sp_bds B n D M (dCl B n D M) M.2.2.1 M.2.2.2.2.2.2.2.2.2.1) := by
  obtain ⟨r, er, Fr, kr⟩ := v_dcs C G
  refine ⟨r, er, ?_⟩
  have Cr := vC_F C (dcF_v (m := m) Fr)
  obtain ⟨x, hx⟩ := lk_x r
  have bd : ∀ y, ms_Q (vF m r) (rAll m r) (pm_lim sX16_checksAll (.inr (.inr (.inr (.inr (.inr (.inr (.inr (.inr (592, Int32.ofNat 0, lk r y)))))))))) (sp_bds B n D M (dCl B n D M) M.2.2.1 M.2.2.2.2.2.2.2.2.2.1) := fun y => by
    have z := v_ab G hF hE _ 0 (vC_lk Cr y) (fun f hf => (lk_I (by decide)).trans (kr f hf)) (Nat.zero_add _)
    rw [List.drop_zero, List.drop_zero] at z
    refine q_w z (fun h' F => gF_t (vF_lk r _) F) (fun l p r' _ q => ⟨gF_t (vF_lk r _) q.1, fun i v hv => ?_⟩)
    have := q.2.1 i v hv
    rwa [Nat.zero_add] at this
  have z := v_ag G _ 0 x Cr (R := rAll m r) (o := sp_b (sp_els B n D M M.2.2.2.2.2.2.2.1) fun _ _ => sp_b (sp_das B n D M M.2.2.2.2.2.2.2.2.1) fun _ _ => sp_bds B n D M (dCl B n D M) M.2.2.1 M.2.2.2.2.2.2.2.2.2.1) (fun y => by
    have z := v_ae G _ 0 y Cr (R := rAll m r) (o := sp_b (sp_das B n D M M.2.2.2.2.2.2.2.2.1) fun _ _ => sp_bds B n D M (dCl B n D M) M.2.2.1 M.2.2.2.2.2.2.2.2.2.1) (fun y => by
      have z := v_ad G _ 0 y Cr (R := rAll m r) (o := sp_bds B n D M (dCl B n D M) M.2.2.1 M.2.2.2.2.2.2.2.2.2.1) bd (Nat.zero_add _)
      rw [List.drop_zero] at z
      exact z) (Nat.zero_add _)
    rw [List.drop_zero] at z
    exact z) (Nat.zero_add _)
  rw [List.drop_zero, ← hx] at z
  exact q_w z (fun h' F => gF_t (dcF_v Fr) F) (fun l p r' _ q => ⟨gF_t (dcF_v Fr) q.1, q.2⟩)
theorem v_chk (C : vC h n b m eo el B M) (g : gd B n D M) (hE : M.2.2.1.length = M.2.2.2.2.2.2.2.2.2.1.length) (hP : ∀ pl, M.2.2.2.2.2.2.2.2.2.2.2.2.2 = some pl → pl < 40960) (hS : ∀ x, M.2.2.2.2.2.2.2.2.2.2.1 = some x → x < 4294967296) (hQ : ∀ i x, M.2.2.2.2.2.2.2.2.2.2.2.2.1 i = some x → x < 40960) : ms_Q (vF m h) (rAll m h) (fX16_checksAll h 592) (sp_chk B n D M) := by
  have i3 := C.2.2.1.2.2.2.2.2.2.2.2.2.2.2.2.2.1
  unfold fX16_checksAll sp_chk
  cases eL : M.2.2.2.2.2.2.2.2.2.2.2.2.2 with
  | some pl =>
    have pp := hP pl eL
    rw [eL] at i3
    have i3 : pm_I h m 3 = Int32.ofNat pl := i3
    exact q_t C.1.1 (q_b C.1.2.1 (q_t C.1.2.2.1 (q_f (by rw [i3, n3_0, nn_lt (by omega) (by decide)]; omega) (v_stop C.1 (gF_r _ _ h) rfl i3))))
  | none =>
    have G : vG B n D M := ⟨g, eL⟩
    rw [eL] at i3
    have i3 : pm_I h m 3 = -1 := i3
    show ms_Q _ _ _ (match sp_hdC B M with
      | some w => .inl (w.1, sS M w.2)
      | none => _)
    rw [hdS_e]
    have T := vG_T G
    have L := vG_L G
    have SL := sp_len L
    have hK := G.1.2.1
    have T1 := T.1
    refine q_t C.1.1 (q_b C.1.2.1 (q_t C.1.2.2.1 (q_t (by rw [i3]; decide) ?_)))
    refine s_w (aX16_checksAll_0 ..) ?_
    unfold tX16_checksAll_23 sp_hdS
    refine s_t C.1.1 (s_c (v_typ C G rfl) (fun h' F => F) ?_)
    rintro _ _ r e1 q1
    subst q1
    refine s_t C.1.1 (s_c (v_lim C G rfl) (fun h' F => F) ?_)
    rintro _ _ r e2 q2
    subst q2
    have h1 : M.2.1.any (fun a => decide (a.1 = 0) && decide (M.1.length ≤ a.2.1)) = false := by
      refine Bool.eq_false_iff.mpr fun z => ?_
      rw [if_pos z] at e1; cases e1
    have h2 : M.2.2.1.any (fun a => decide (M.1.length ≤ a)) = false := by
      refine Bool.eq_false_iff.mpr fun z => ?_
      rw [if_neg (fun y => by rw [h1] at y; cases y), if_pos z] at e1; cases e1
    have hF : ∀ f, f ∈ spF M → f.2.1 < M.1.length := fun f hf => by
      rcases List.mem_append.mp (show f ∈ ofK 0 M.2.1 ++ M.2.2.1.map _ from hf) with z | z
      · have mm := List.mem_filter.mp (show f ∈ M.2.1.filter _ from z)
        have := anyE_f h1 f mm.1
        rw [mm.2, Bool.true_and] at this
        exact Nat.not_le.mp (of_decide_eq_false this)
      · obtain ⟨x, hx, e⟩ := List.mem_map.mp z
        rw [← e]
        exact Nat.not_le.mp (of_decide_eq_false (anyE_f h2 x hx))
    refine s_t C.1.1 (s_b C.1.2.1 (s_t C.1.2.2.1 (s_b (v_all C L hK).2.2.1 ?_)))
    by_cases c6 : 1 < (spM M).length
    · refine s_f (show ¬ Int32.ofNat (spM M).length ≤ Int32.ofNat 1 by rw [nn_le (by omega) (by decide)]; omega) (s_b (vR C 2 (by decide)) (s_t (vKd C 1 (by decide) (by decide)) (s_t (v_in13 C (i := 5) (by decide)) ?_)))
      rw [if_pos (show 1 < (spM M).length from c6)]
      have i5 : pm_I r (m + pRf 2) (5 : Int32).toNatClampNeg = Int32.ofNat (sS M 5) := v_sec C (i := 5) (by decide)
      have i2 : pm_I r (m + pRf 2) (2 : Int32).toNatClampNeg = Int32.ofNat (sS M 2) := v_sec C (i := 2) (by decide)
      have fin : ∀ i, ms_Q (vF m r) (rAll m r) (pm_lim sX16_checksAll (.inr (.inr (.inl (592, Int32.ofNat (sS M i), 22, 592, r))))) (.inl (22, sS M i)) := fun i => by
        refine s_w (aX16_checksAll_2 ..) ?_
        unfold tX16_checksAll_79
        exact s_t C.1.1 (s_stop C.1 (gF_r _ _ r) rfl rfl)
      cases e5 : M.2.2.2.2.2.2.2.2.2.2.2.2.1 5 with
      | none =>
        have z5 : Int32.ofNat (sS M 5) = -1 := by rw [sS_3, e5]; rfl
        refine s_t (by rw [i5, z5]; decide) (s_t (v_in13 C (i := 2) (by decide)) ?_)
        rw [i2]
        exact s_n (fin 2)
      | some x5 =>
        have x5l := hQ 5 x5 e5
        have z5 : Int32.ofNat (sS M 5) = Int32.ofNat x5 := by rw [sS_3, e5]; rfl
        refine s_f (by rw [i5, z5, n3_0, nn_lt (by omega) (by decide)]; omega) (s_t (v_in13 C (i := 5) (by decide)) ?_)
        rw [i5]
        exact s_n (fin 5)
    refine s_t (show Int32.ofNat (spM M).length ≤ Int32.ofNat 1 by rw [nn_le (by omega) (by decide)]; omega) (s_n ?_)
    rw [if_neg (show ¬ 1 < (spM M).length from c6)]
    refine s_w (aX16_checksAll_1 ..) ?_
    unfold tX16_checksAll_82
    refine s_t C.1.1 (s_c (v_xps C G rfl) (fun h' F => F) ?_)
    rintro _ _ r e3 q3
    subst q3
    obtain ⟨r3, er3, fin⟩ := v_all3 C G hF hE
    have i33 := C.2.2.1.2.2.2.2.2.2.2.2.2.2.1
    refine s_t C.1.1 (s_b C.1.2.1 (s_t C.1.2.2.1 ?_))
    unfold stB
    cases eS : M.2.2.2.2.2.2.2.2.2.2.1 with
    | none =>
      rw [eS] at i33
      have i33 : pm_L r m 33 = -1 := i33
      rw [if_neg (show ¬ false = true by decide)]
      exact s_t (by rw [i33]; decide) (s_b er3 (s_n fin))
    | some x =>
      have xl := hS x eS
      rw [eS] at i33
      have i33 : pm_L r m 33 = Int64.ofNat x := i33
      have bad : ∀ (t : Int32), ms_Q (vF m r) (rAll m r) (pm_lim sX16_checksAll (.inr (.inr (.inr (.inr (.inr (.inr (.inl (592, 0, t, r))))))))) (.inl (25, sS M 8)) := fun t => by
        refine s_w (aX16_checksAll_6 ..) ?_
        unfold tX16_checksAll_147
        exact s_t rfl (s_t C.1.1 (s_b C.1.2.1 (s_t C.1.2.2.1 (ss_sec C (gF_r _ _ r) (i := 8) (by decide)))))
      refine s_f (by rw [i33, show (0 : Int64) = Int64.ofNat 0 from rfl, ll_lt (by omega) (by decide)]; omega) (s_b (v_all C L hK).1 ?_)
      rw [i33]
      show ms_Q _ _ _ (if (match (spF M)[x]? with
        | none => true
        | some f => decide (0 < (M.1.getD f.2.1 ([], [])).1.length + (M.1.getD f.2.1 ([], [])).2.length)) = true then _ else _)
      cases ef : (spF M)[x]? with
      | none =>
        have d : (spF M).length ≤ x := List.getElem?_eq_none_iff.mp ef
        rw [if_pos (show true = true from rfl)]
        refine s_t (by rw [nn_t6 (by omega), ll_le (by omega) (by omega)]; exact d) (s_n (s_w (aX16_checksAll_4 ..) ?_))
        unfold tX16_checksAll_123
        exact s_t rfl (s_n (bad 0))
      | some f =>
        have d := some_lt ef
        have fl := hF f (List.mem_of_getElem? ef)
        refine s_f (by rw [nn_t6 (by omega), ll_le (by omega) (by omega)]; omega) (s_n (s_w (aX16_checksAll_4 ..) ?_))
        unfold tX16_checksAll_123
        have et : fX14_typeOfFunction r m (pm_L r m 33).toInt32 = some (Int32.ofNat f.2.1) := by rw [i33, ll_t3]; exact v_tyF C L hK ef
        refine s_f (by decide) (s_t C.1.1 (s_b C.1.2.1 (s_t C.1.2.2.1 (s_b et (s_n (s_w (aX16_checksAll_6 ..) ?_))))))
        unfold tX16_checksAll_147
        have BW := bt_w T (wfT_t T fl)
        have gp : (M.1.getD f.2.1 ([], [])).1 = btP M (Int64.ofNat f.2.1) ∧ (M.1.getD f.2.1 ([], [])).2 = btR M (Int64.ofNat f.2.1) := by
          obtain ⟨z1, z2⟩ := bt_i (M := M) fl (by omega)
          rw [z1, z2, List.getD_eq_getElem?_getD, List.getElem?_eq_getElem fl]
          exact ⟨rfl, rfl⟩
        show ms_Q _ _ _ (if decide (0 < (M.1.getD f.2.1 ([], [])).1.length + (M.1.getD f.2.1 ([], [])).2.length) = true then _ else _)
        rw [gp.1, gp.2]
        have p5 : pm_I r (m + pRf 5) (Int32.ofNat f.2.1).toNatClampNeg = Int32.ofNat (btP M (Int64.ofNat f.2.1)).length := by rw [nn_cm (by omega)]; exact dLen C T fl
        have p6 : pm_I r (m + pRf 6) (Int32.ofNat f.2.1).toNatClampNeg = Int32.ofNat (btR M (Int64.ofNat f.2.1)).length := by rw [nn_cm (by omega)]; exact dRes C T fl
        refine s_f (by decide) (s_t C.1.1 (s_b C.1.2.1 (s_t C.1.2.2.1 (s_b (vR C 5 (by decide)) (s_t (vKd C 2 (by decide) (by decide)) (s_t (v_in64 C 2 (by decide) (by decide) rfl (by omega)) (s_b (vR C 6 (by decide)) (s_t (vKd C 3 (by decide) (by decide)) (s_t (v_in64 C 3 (by decide) (by decide) rfl (by omega)) ?_)))))))))
        rw [p5, p6, nn_ad]
        by_cases d : 0 < (btP M (Int64.ofNat f.2.1)).length + (btR M (Int64.ofNat f.2.1)).length
        · refine s_f (by rw [n3_0, nn_le (by omega) (by decide)]; omega) ?_
          rw [if_pos (show decide (0 < (btP M (Int64.ofNat f.2.1)).length + (btR M (Int64.ofNat f.2.1)).length) = true from decide_eq_true d)]
          exact ss_sec C (gF_r _ _ r) (i := 8) (by decide)
        · refine s_t (by rw [n3_0, nn_le (by omega) (by decide)]; omega) ?_
          rw [if_neg (show ¬ decide (0 < (btP M (Int64.ofNat f.2.1)).length + (btR M (Int64.ofNat f.2.1)).length) = true from fun y => d (of_decide_eq_true y))]
          exact s_b er3 (s_n fin)
end VCHK
