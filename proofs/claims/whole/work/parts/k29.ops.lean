/-! THE CLASS READS: room for functions, tables, memories, globals; for types -/
section OPS
variable {h h3 h' : pm_H} {n b mm me sh lo last e p p2 sz id pl c : Nat} {d : Bool} {B : Nat → Nat} {M M1 : tMd} {q : Int32}
theorem ent_x {x x' a a' : Nat} {v : tImp} (e : ∀ y, y < 6 → pm_L h' x' (a' + y) = pm_L h x (a + y)) (C : pEnt h x a v) : pEnt h' x' a' v := by
  obtain ⟨p0, p1, p2, p3, p4, p5⟩ := C
  exact ⟨(e 0 (by decide)).trans p0, (e 1 (by decide)).trans p1, (e 2 (by decide)).trans p2, (e 3 (by decide)).trans p3, (e 4 (by decide)).trans p4, (e 5 (by decide)).trans p5⟩
theorem ge_x {x x' a a' : Nat} {v : tImp × Nat} (e : ∀ y, y < 6 → pm_L h' x' (a' + y) = pm_L h x (a + y)) (C : pGe h x a v) : pGe h' x' a' v := by
  obtain ⟨p0, p1, p2, p5⟩ := C
  exact ⟨(e 0 (by decide)).trans p0, (e 1 (by decide)).trans p1, (e 2 (by decide)).trans p2, (e 5 (by decide)).trans p5⟩

theorem op_3 (hp2 : p2 + sz ≤ n) (hp : p < 2147483648) (LC : lC h n b mm me n d false B) (T : dT h b mm me sh) (i12 : pm_I h 19 12 = Int32.ofNat last) (i5 : pm_I h 19 5 = on3 M.2.2.2.2.2.2.2.2.2.2.2.2.2) (CM : cMx h mm lo (pm_sz h) 0 M) (hlo : 19 < lo ∧ me < lo ∧ sh < lo ∧ b < lo ∧ mm < lo) (hN : (spF M).length ≤ 40960) : cs_Q wH (dF b mm me sh) (fun c p3 r => ∃ h' x, r = rc h' (Int32.ofNat p3) 0 q ∧ oR pEnt h' n b mm me sh (p2 + sz) x 35 4 6 (spF M).length (if p2 + sz - p3 < c then p2 + sz - p3 else c) d B 3 lo last p c (sec1 M 3 p) (spF M) [] (xv (on3 M.2.2.2.2.2.2.2.2.2.2.2.2.2) (Int32.ofNat p) (decide (64 < c))) (fun _ => false)) (fX9_openSection_b93 (rc h (Int32.ofNat p2) 0 q) 19 (Int32.ofNat p) (Int32.ofNat 3) (Int64.ofNat sz)) (sp_num B (p2 + sz) p2) := by
  obtain ⟨h3, e3, O⟩ := op_h3 (q := q) (id := 3) (by decide) hp2 hp LC T i12 i5 CM hlo
  rw [e3]
  have O' := O
  obtain ⟨o1, o2, o3, o4, o5, o6, o7, o8, o9⟩ := O'
  have K9 := o2.1.1
  have n4 := o2.1.2.2.2.2.2.2.1
  obtain ⟨x0, r0, b0, b1, k0, l0, s0, E0⟩ := o1.2.2.1 (by decide)
  have E0 : ∀ i v, (spF M)[i]? = some v → pEnt h3 x0 (i * 6) v := E0
  have l0 : pm_ln h3 x0 = (spF M).length * 6 := l0
  unfold fX9_openSection_b212
  refine u_f (by decide) ?_
  refine u_num0 (cs_num o2.1 o2.2.2.1 o2.2.2.2.1 (show p2 ≤ p2 + sz by omega) q) (fun a f q hf => ?_) ?_
  · refine y_f (by decide) (y_f (by decide) (y_t K9 ?_))
    obtain ⟨h', f1, f2, -⟩ := mk_s (id := 3) (a := a) (f := f) (q := q) o3 (by decide) (by decide) (c := 0) (by decide) (kpt_0 h3 a) (by decide) r0 l0 hN
    exact y_b f1 (y_r (a := a) rfl f2)
  intro c p3 r e1 er
  subst er
  have cl : c < 4294967296 := sp_nu_v o2.1.2.2.2.2.2.2.2.2.2 (by decide) (by decide) (by decide) e1
  have pb := sp_num_b (show p2 ≤ p2 + sz by omega) e1
  obtain ⟨h', f1, f2, f3, f4, f5, f6, f7, f8, f9, f10, f11, f12⟩ := mk_s (id := 3) (a := Int32.ofNat p3) (f := 0) (q := q) o3 (by decide) (by decide) cl (kpt_a o2.2.2.1 pb.2 (by omega) cl) (show (if p2 + sz - p3 < c then p2 + sz - p3 else c) ≤ 40960 by split <;> omega) r0 l0 hN
  refine ⟨rc h' (Int32.ofNat p3) 0 q, e9_f (by decide) (e9_f (by decide) (e9_t K9 (e9_b f1 rfl))), h', pm_sz h3, rfl, ?_⟩
  refine mk_oR O hlo (by decide) f2 f3 (by decide) (fun s hm => by simp only [List.mem_cons, Prod.mk.injEq, List.not_mem_nil, or_false] at hm; omega) f4 f5 (by omega) f7 f8 ⟨fun i v e => by (cases e), fun y y1 y2 => ?_⟩ (fun i v e => ?_) (fun z1 z2 => f11) f12 hN (by split <;> omega)
  · rw [List.length_nil, Nat.add_zero] at y1
    rw [f8] at y2
    exact ⟨f10 y y1 y2, by rw [f9 y y2, if_neg (by omega)]⟩
  · have il : i < (spF M).length := (List.getElem?_eq_some_iff.mp e).1
    exact ent_x (h := h3) (x := x0) (fun y hy => by rw [f9 _ (by omega), if_pos (by omega)]) (E0 i v e)
theorem op_4 (hp2 : p2 + sz ≤ n) (hp : p < 2147483648) (LC : lC h n b mm me n d false B) (T : dT h b mm me sh) (i12 : pm_I h 19 12 = Int32.ofNat last) (i5 : pm_I h 19 5 = on3 M.2.2.2.2.2.2.2.2.2.2.2.2.2) (CM : cMx h mm lo (pm_sz h) 0 M) (hlo : 19 < lo ∧ me < lo ∧ sh < lo ∧ b < lo ∧ mm < lo) (hN : (spT M).length ≤ 40960) : cs_Q wH (dF b mm me sh) (fun c p3 r => ∃ h' x, r = rc h' (Int32.ofNat p3) 0 q ∧ oR pEnt h' n b mm me sh (p2 + sz) x 35 5 6 (spT M).length (if p2 + sz - p3 < c then p2 + sz - p3 else c) d B 4 lo last p c (sec1 M 4 p) (spT M) [] (xv (on3 M.2.2.2.2.2.2.2.2.2.2.2.2.2) (Int32.ofNat p) (decide (64 < c))) (fun _ => false)) (fX9_openSection_b93 (rc h (Int32.ofNat p2) 0 q) 19 (Int32.ofNat p) (Int32.ofNat 4) (Int64.ofNat sz)) (sp_num B (p2 + sz) p2) := by
  obtain ⟨h3, e3, O⟩ := op_h3 (q := q) (id := 4) (by decide) hp2 hp LC T i12 i5 CM hlo
  rw [e3]
  have O' := O
  obtain ⟨o1, o2, o3, o4, o5, o6, o7, o8, o9⟩ := O'
  have K9 := o2.1.1
  have n4 := o2.1.2.2.2.2.2.2.1
  obtain ⟨x0, r0, b0, b1, k0, l0, s0, E0⟩ := o1.2.2.2.1 (by decide)
  have E0 : ∀ i v, (spT M)[i]? = some v → pEnt h3 x0 (i * 6) v := E0
  have l0 : pm_ln h3 x0 = (spT M).length * 6 := l0
  unfold fX9_openSection_b212
  refine u_f (by decide) ?_
  refine u_num0 (cs_num o2.1 o2.2.2.1 o2.2.2.2.1 (show p2 ≤ p2 + sz by omega) q) (fun a f q hf => ?_) ?_
  · refine y_f (by decide) (y_f (by decide) (y_t K9 ?_))
    obtain ⟨h', f1, f2, -⟩ := mk_s (id := 4) (a := a) (f := f) (q := q) o3 (by decide) (by decide) (c := 0) (by decide) (kpt_0 h3 a) (by decide) r0 l0 hN
    exact y_b f1 (y_r (a := a) rfl f2)
  intro c p3 r e1 er
  subst er
  have cl : c < 4294967296 := sp_nu_v o2.1.2.2.2.2.2.2.2.2.2 (by decide) (by decide) (by decide) e1
  have pb := sp_num_b (show p2 ≤ p2 + sz by omega) e1
  obtain ⟨h', f1, f2, f3, f4, f5, f6, f7, f8, f9, f10, f11, f12⟩ := mk_s (id := 4) (a := Int32.ofNat p3) (f := 0) (q := q) o3 (by decide) (by decide) cl (kpt_a o2.2.2.1 pb.2 (by omega) cl) (show (if p2 + sz - p3 < c then p2 + sz - p3 else c) ≤ 40960 by split <;> omega) r0 l0 hN
  refine ⟨rc h' (Int32.ofNat p3) 0 q, e9_f (by decide) (e9_f (by decide) (e9_t K9 (e9_b f1 rfl))), h', pm_sz h3, rfl, ?_⟩
  refine mk_oR O hlo (by decide) f2 f3 (by decide) (fun s hm => by simp only [List.mem_cons, Prod.mk.injEq, List.not_mem_nil, or_false] at hm; omega) f4 f5 (by omega) f7 f8 ⟨fun i v e => by (cases e), fun y y1 y2 => ?_⟩ (fun i v e => ?_) (fun z1 z2 => f11) f12 hN (by split <;> omega)
  · rw [List.length_nil, Nat.add_zero] at y1
    rw [f8] at y2
    exact ⟨f10 y y1 y2, by rw [f9 y y2, if_neg (by omega)]⟩
  · have il : i < (spT M).length := (List.getElem?_eq_some_iff.mp e).1
    exact ent_x (h := h3) (x := x0) (fun y hy => by rw [f9 _ (by omega), if_pos (by omega)]) (E0 i v e)
theorem op_5 (hp2 : p2 + sz ≤ n) (hp : p < 2147483648) (LC : lC h n b mm me n d false B) (T : dT h b mm me sh) (i12 : pm_I h 19 12 = Int32.ofNat last) (i5 : pm_I h 19 5 = on3 M.2.2.2.2.2.2.2.2.2.2.2.2.2) (CM : cMx h mm lo (pm_sz h) 0 M) (hlo : 19 < lo ∧ me < lo ∧ sh < lo ∧ b < lo ∧ mm < lo) (hN : (spM M).length ≤ 40960) : cs_Q wH (dF b mm me sh) (fun c p3 r => ∃ h' x, r = rc h' (Int32.ofNat p3) 0 q ∧ oR pEnt h' n b mm me sh (p2 + sz) x 35 6 6 (spM M).length (if p2 + sz - p3 < c then p2 + sz - p3 else c) d B 5 lo last p c (sec1 M 5 p) (spM M) [] (xv (on3 M.2.2.2.2.2.2.2.2.2.2.2.2.2) (Int32.ofNat p) (decide (64 < c))) (fun _ => false)) (fX9_openSection_b93 (rc h (Int32.ofNat p2) 0 q) 19 (Int32.ofNat p) (Int32.ofNat 5) (Int64.ofNat sz)) (sp_num B (p2 + sz) p2) := by
  obtain ⟨h3, e3, O⟩ := op_h3 (q := q) (id := 5) (by decide) hp2 hp LC T i12 i5 CM hlo
  rw [e3]
  have O' := O
  obtain ⟨o1, o2, o3, o4, o5, o6, o7, o8, o9⟩ := O'
  have K9 := o2.1.1
  have n4 := o2.1.2.2.2.2.2.2.1
  obtain ⟨x0, r0, b0, b1, k0, l0, s0, E0⟩ := o1.2.2.2.2.1 (by decide)
  have E0 : ∀ i v, (spM M)[i]? = some v → pEnt h3 x0 (i * 6) v := E0
  have l0 : pm_ln h3 x0 = (spM M).length * 6 := l0
  unfold fX9_openSection_b212
  refine u_f (by decide) ?_
  refine u_num0 (cs_num o2.1 o2.2.2.1 o2.2.2.2.1 (show p2 ≤ p2 + sz by omega) q) (fun a f q hf => ?_) ?_
  · refine y_f (by decide) (y_f (by decide) (y_t K9 ?_))
    obtain ⟨h', f1, f2, -⟩ := mk_s (id := 5) (a := a) (f := f) (q := q) o3 (by decide) (by decide) (c := 0) (by decide) (kpt_0 h3 a) (by decide) r0 l0 hN
    exact y_b f1 (y_r (a := a) rfl f2)
  intro c p3 r e1 er
  subst er
  have cl : c < 4294967296 := sp_nu_v o2.1.2.2.2.2.2.2.2.2.2 (by decide) (by decide) (by decide) e1
  have pb := sp_num_b (show p2 ≤ p2 + sz by omega) e1
  obtain ⟨h', f1, f2, f3, f4, f5, f6, f7, f8, f9, f10, f11, f12⟩ := mk_s (id := 5) (a := Int32.ofNat p3) (f := 0) (q := q) o3 (by decide) (by decide) cl (kpt_a o2.2.2.1 pb.2 (by omega) cl) (show (if p2 + sz - p3 < c then p2 + sz - p3 else c) ≤ 40960 by split <;> omega) r0 l0 hN
  refine ⟨rc h' (Int32.ofNat p3) 0 q, e9_f (by decide) (e9_f (by decide) (e9_t K9 (e9_b f1 rfl))), h', pm_sz h3, rfl, ?_⟩
  refine mk_oR O hlo (by decide) f2 f3 (by decide) (fun s hm => by simp only [List.mem_cons, Prod.mk.injEq, List.not_mem_nil, or_false] at hm; omega) f4 f5 (by omega) f7 f8 ⟨fun i v e => by (cases e), fun y y1 y2 => ?_⟩ (fun i v e => ?_) (fun z1 z2 => f11) f12 hN (by split <;> omega)
  · rw [List.length_nil, Nat.add_zero] at y1
    rw [f8] at y2
    exact ⟨f10 y y1 y2, by rw [f9 y y2, if_neg (by omega)]⟩
  · have il : i < (spM M).length := (List.getElem?_eq_some_iff.mp e).1
    exact ent_x (h := h3) (x := x0) (fun y hy => by rw [f9 _ (by omega), if_pos (by omega)]) (E0 i v e)
theorem op_6 (hp2 : p2 + sz ≤ n) (hp : p < 2147483648) (LC : lC h n b mm me n d false B) (T : dT h b mm me sh) (i12 : pm_I h 19 12 = Int32.ofNat last) (i5 : pm_I h 19 5 = on3 M.2.2.2.2.2.2.2.2.2.2.2.2.2) (CM : cMx h mm lo (pm_sz h) 0 M) (hlo : 19 < lo ∧ me < lo ∧ sh < lo ∧ b < lo ∧ mm < lo) (hN : (spG M).length ≤ 40960) : cs_Q wH (dF b mm me sh) (fun c p3 r => ∃ h' x, r = rc h' (Int32.ofNat p3) 0 q ∧ oR pGe h' n b mm me sh (p2 + sz) x 35 7 6 (spG M).length (if p2 + sz - p3 < c then p2 + sz - p3 else c) d B 6 lo last p c (sec1 M 6 p) (spG M) [] (xv (on3 M.2.2.2.2.2.2.2.2.2.2.2.2.2) (Int32.ofNat p) (decide (64 < c))) (fun _ => false)) (fX9_openSection_b93 (rc h (Int32.ofNat p2) 0 q) 19 (Int32.ofNat p) (Int32.ofNat 6) (Int64.ofNat sz)) (sp_num B (p2 + sz) p2) := by
  obtain ⟨h3, e3, O⟩ := op_h3 (q := q) (id := 6) (by decide) hp2 hp LC T i12 i5 CM hlo
  rw [e3]
  have O' := O
  obtain ⟨o1, o2, o3, o4, o5, o6, o7, o8, o9⟩ := O'
  have K9 := o2.1.1
  have n4 := o2.1.2.2.2.2.2.2.1
  obtain ⟨x0, r0, b0, b1, k0, l0, s0, E0⟩ := o1.2.2.2.2.2.1 (by decide)
  have E0 : ∀ i v, (spG M)[i]? = some v → pGe h3 x0 (i * 6) v := E0
  have l0 : pm_ln h3 x0 = (spG M).length * 6 := l0
  unfold fX9_openSection_b212
  refine u_f (by decide) ?_
  refine u_num0 (cs_num o2.1 o2.2.2.1 o2.2.2.2.1 (show p2 ≤ p2 + sz by omega) q) (fun a f q hf => ?_) ?_
  · refine y_f (by decide) (y_f (by decide) (y_t K9 ?_))
    obtain ⟨h', f1, f2, -⟩ := mk_s (id := 6) (a := a) (f := f) (q := q) o3 (by decide) (by decide) (c := 0) (by decide) (kpt_0 h3 a) (by decide) r0 l0 hN
    exact y_b f1 (y_r (a := a) rfl f2)
  intro c p3 r e1 er
  subst er
  have cl : c < 4294967296 := sp_nu_v o2.1.2.2.2.2.2.2.2.2.2 (by decide) (by decide) (by decide) e1
  have pb := sp_num_b (show p2 ≤ p2 + sz by omega) e1
  obtain ⟨h', f1, f2, f3, f4, f5, f6, f7, f8, f9, f10, f11, f12⟩ := mk_s (id := 6) (a := Int32.ofNat p3) (f := 0) (q := q) o3 (by decide) (by decide) cl (kpt_a o2.2.2.1 pb.2 (by omega) cl) (show (if p2 + sz - p3 < c then p2 + sz - p3 else c) ≤ 40960 by split <;> omega) r0 l0 hN
  refine ⟨rc h' (Int32.ofNat p3) 0 q, e9_f (by decide) (e9_f (by decide) (e9_t K9 (e9_b f1 rfl))), h', pm_sz h3, rfl, ?_⟩
  refine mk_oR O hlo (by decide) f2 f3 (by decide) (fun s hm => by simp only [List.mem_cons, Prod.mk.injEq, List.not_mem_nil, or_false] at hm; omega) f4 f5 (by omega) f7 f8 ⟨fun i v e => by (cases e), fun y y1 y2 => ?_⟩ (fun i v e => ?_) (fun z1 z2 => f11) f12 hN (by split <;> omega)
  · rw [List.length_nil, Nat.add_zero] at y1
    rw [f8] at y2
    exact ⟨f10 y y1 y2, by rw [f9 y y2, if_neg (by omega)]⟩
  · have il : i < (spG M).length := (List.getElem?_eq_some_iff.mp e).1
    exact ge_x (h := h3) (x := x0) (fun y hy => by rw [f9 _ (by omega), if_pos (by omega)]) (E0 i v e)
theorem op_1 (hp2 : p2 + sz ≤ n) (hp : p < 2147483648) (LC : lC h n b mm me n d false B) (T : dT h b mm me sh) (i12 : pm_I h 19 12 = Int32.ofNat last) (i5 : pm_I h 19 5 = on3 M.2.2.2.2.2.2.2.2.2.2.2.2.2) (CM : cMx h mm lo (pm_sz h) 0 M) (hlo : 19 < lo ∧ me < lo ∧ sh < lo ∧ b < lo ∧ mm < lo) : cs_Q wH (dF b mm me sh) (fun c p3 r => ∃ h' x, r = rc h' (Int32.ofNat p3) 0 q ∧ oT h' n b mm me sh (p2 + sz) x (if p2 + sz - p3 < c then p2 + sz - p3 else c) d B lo last p c (sec1 M 1 p) [] (xv (on3 M.2.2.2.2.2.2.2.2.2.2.2.2.2) (Int32.ofNat p) (decide (64 < c)))) (fX9_openSection_b93 (rc h (Int32.ofNat p2) 0 q) 19 (Int32.ofNat p) (Int32.ofNat 1) (Int64.ofNat sz)) (sp_num B (p2 + sz) p2) := by
  obtain ⟨h3, e3, O⟩ := op_h3 (q := q) (id := 1) (by decide) hp2 hp LC T i12 i5 CM hlo
  rw [e3]
  obtain ⟨o1, o2, o3, o4, o5, o6, o7, o8, o9⟩ := O
  have K9 := o2.1.1
  have n4 := o2.1.2.2.2.2.2.2.1
  unfold fX9_openSection_b212
  refine u_f (by decide) ?_
  refine u_num0 (cs_num o2.1 o2.2.2.1 o2.2.2.2.1 (show p2 ≤ p2 + sz by omega) q) (fun a f q hf => ?_) ?_
  · refine y_f (by decide) (y_f (by decide) (y_t K9 ?_))
    obtain ⟨h', f1, f2, -⟩ := mk_1 (a := a) (f := f) (q := q) o3 (c := 0) (by decide) (kpt_0 h3 a) (by decide)
    exact y_b f1 (y_r (a := a) rfl f2)
  intro c p3 r e1 er
  subst er
  have cl : c < 4294967296 := sp_nu_v o2.1.2.2.2.2.2.2.2.2.2 (by decide) (by decide) (by decide) e1
  have pb := sp_num_b (show p2 ≤ p2 + sz by omega) e1
  obtain ⟨h', f1, f2, W, f4, f5, f6, f7, f8, I9⟩ := mk_1 (a := Int32.ofNat p3) (f := 0) (q := q) o3 cl (kpt_a o2.2.2.1 pb.2 (by omega) cl) (show (if p2 + sz - p3 < c then p2 + sz - p3 else c) ≤ 40960 by split <;> omega)
  refine ⟨rc h' (Int32.ofNat p3) 0 q, e9_f (by decide) (e9_f (by decide) (e9_t K9 (e9_b f1 rfl))), h', pm_sz h3, rfl, ?_⟩
  have dm := lC_m o2
  have sz1 := o3.2.2.1
  have J : ∀ y, y ≠ 13 → y ≠ 5 → pm_I h' 19 y = pm_I h3 19 y := fun y h13 h5 => (I9 y h13).trans (if_neg h5)
  have KC : kC lo (pm_sz h3) h3 h' := fun y y1 y2 => ⟨(W.2.1 y y2).1, (W.2.1 y y2).2, funext fun z => W.2.2.1 y z y2 (by omega), funext fun z => W.2.2.2.1 y z y2 (by omega), funext fun z => W.2.2.2.2 y z y2 (by omega)⟩
  refine ⟨lC_nW o2 W ⟨sz1.1, sz1.2.1, sz1.2.2.1, sz1.2.2.2.1⟩ (fun Y z => dm.2.1 z.1) (fun z => by omega) (fun z => by omega) (fun z => dm.1 z.1) (fun Y z => dm.1 z.1.symm) (fun z => absurd z.2 (by decide)), f2, f5, f7, f8, ?_, Nat.zero_le _, fun i v e => by (cases e), ?_, ⟨o1.2.2.2.2.2.2.2.2.2.2.2.2.2.1, f6⟩, ?_, ?_, ?_, f4, ?_⟩
  · rw [J 15 (by decide) (by decide), o7]; rfl
  · refine cMx_k (h := h3) (hi := pm_sz h3) (skip := 0) KC (Nat.le_refl _) (.inl rfl) (fun jj s _ hs' hm => W.2.2.2.2 mm jj sz1.2.2.1 (fun z => ?_)) (by omega) (W.2.2.2.1 mm 13 sz1.2.2.1 (fun z => dm.1 z.1)) (W.2.2.2.1 mm 14 sz1.2.2.1 (fun z => dm.1 z.1)) o1
    rw [z.2] at hm
    simp only [List.mem_cons, Prod.mk.injEq, List.not_mem_nil, or_false] at hm
    omega
  · rw [J 10 (by decide) (by decide)]; exact o4
  · rw [J 11 (by decide) (by decide)]; exact o5
  · rw [J 12 (by decide) (by decide)]; exact o6
  · rw [I9 5 (by decide), if_pos rfl, o9, o5]; rfl
end OPS
