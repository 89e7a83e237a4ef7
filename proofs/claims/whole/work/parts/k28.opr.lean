/-! THE CLASS READS: room for the rows behind a head -/
section OPR
variable {h h3 h' : pm_H} {n b mm me sh lo last e p p2 sz id pl c : Nat} {d : Bool} {B : Nat → Nat} {M M1 : tMd} {q : Int32}
theorem mk_oR {α : Type} {P : pm_H → Nat → Nat → α → Prop} {k w j N kept : Nat} {pre : List α} {bg : α → Bool} (O : oN h3 n b mm me sh e lo last id pl d B M1) (hlo : 19 < lo ∧ me < lo ∧ sh < lo ∧ b < lo ∧ mm < lo) (hid : id < 13) (T' : dT h' b mm me sh) (W : mW mm j h3 h') (jn : j ≠ 0) (jL : ∀ s, (s, j) ∈ [(1, 2), (2, 3), (3, 4), (4, 5), (5, 6), (6, 7), (7, 8), (9, 9), (11, 10), (10, 11), (99, 1)] → s = id) (l14 : pm_L h' 19 14 = Int64.ofNat c) (rj : pm_R h' mm j = some (pm_sz h3)) (hs : pm_sz h3 < pm_sz h') (kd : pm_kd h' (pm_sz h3) = k) (ln : pm_ln h' (pm_sz h3) = (N + kept) * w) (C : cQ P h' (pm_sz h3) w N ([] : List α)) (pr : ∀ i v, pre[i]? = some v → P h' (pm_sz h3) (i * w) v) (i13 : 4 ≤ j → j ≤ 7 → pm_I h' 19 13 = Int32.ofNat N) (I9 : ∀ y, y ≠ 13 → pm_I h' 19 y = if y = 5 then xv (pm_I h3 19 5) (pm_I h3 19 11) (decide (64 < c)) else pm_I h3 19 y) (hN : N ≤ 40960) (hk : kept ≤ 40960) : oR P h' n b mm me sh e (pm_sz h3) k j w N kept d B id lo last pl c M1 pre [] (xv (on3 M1.2.2.2.2.2.2.2.2.2.2.2.2.2) (Int32.ofNat pl) (decide (64 < c))) bg := by
  obtain ⟨o1, o2, o3, o4, o5, o6, o7, o8, o9⟩ := O
  have dm := lC_m o2
  have sz1 := o3.2.2.1
  have J : ∀ y, y ≠ 13 → y ≠ 5 → pm_I h' 19 y = pm_I h3 19 y := fun y h13 h5 => (I9 y h13).trans (if_neg h5)
  have KC : kC lo (pm_sz h3) h3 h' := fun y y1 y2 => ⟨(W.2.1 y y2).1, (W.2.1 y y2).2, funext fun z => W.2.2.1 y z y2 (by omega), funext fun z => W.2.2.2.1 y z y2 (by omega), funext fun z => W.2.2.2.2 y z y2 (by omega)⟩
  refine ⟨⟨lC_nW o2 W ⟨sz1.1, sz1.2.1, sz1.2.2.1, sz1.2.2.2.1⟩ (fun Y z => dm.2.1 z.1) (fun z => by omega) (fun z => by omega) (fun z => dm.1 z.1) (fun Y z => dm.1 z.1.symm) (fun z => jn z.2.symm), T', rj, kd, ln, ?_, i13, hN, hk, Nat.zero_le _⟩, C, ?_, ⟨o1.2.2.2.2.2.2.2.2.2.2.2.2.2.1, hs⟩, ?_, ?_, ?_, l14, pr, ?_⟩
  · rw [J 15 (by decide) (by decide), o7]; rfl
  · refine cMx_k (h := h3) (hi := pm_sz h3) (skip := 0) KC (Nat.le_refl _) (.inl rfl) (fun jj s _ hs' hm => W.2.2.2.2 mm jj sz1.2.2.1 (fun z => ?_)) (by omega) (W.2.2.2.1 mm 13 sz1.2.2.1 (fun z => dm.1 z.1)) (W.2.2.2.1 mm 14 sz1.2.2.1 (fun z => dm.1 z.1)) o1
    rw [z.2] at hm
    exact hs' (jL s hm)
  · rw [J 10 (by decide) (by decide)]; exact o4
  · rw [J 11 (by decide) (by decide)]; exact o5
  · rw [J 12 (by decide) (by decide)]; exact o6
  · rw [I9 5 (by decide), if_pos rfl, o9, o5]; rfl

theorem op_2 (hp2 : p2 + sz ≤ n) (hp : p < 2147483648) (LC : lC h n b mm me n d false B) (T : dT h b mm me sh) (i12 : pm_I h 19 12 = Int32.ofNat last) (i5 : pm_I h 19 5 = on3 M.2.2.2.2.2.2.2.2.2.2.2.2.2) (CM : cMx h mm lo (pm_sz h) 0 M) (hlo : 19 < lo ∧ me < lo ∧ sh < lo ∧ b < lo ∧ mm < lo) : cs_Q wH (dF b mm me sh) (fun c p3 r => ∃ h' x, r = rc h' (Int32.ofNat p3) 0 q ∧ oR pEnt h' n b mm me sh (p2 + sz) x 35 3 6 0 (if p2 + sz - p3 < c then p2 + sz - p3 else c) d B 2 lo last p c (sec1 M 2 p) [] [] (xv (on3 M.2.2.2.2.2.2.2.2.2.2.2.2.2) (Int32.ofNat p) (decide (64 < c))) (fun _ => false)) (fX9_openSection_b93 (rc h (Int32.ofNat p2) 0 q) 19 (Int32.ofNat p) (Int32.ofNat 2) (Int64.ofNat sz)) (sp_num B (p2 + sz) p2) := by
  obtain ⟨h3, e3, O⟩ := op_h3 (q := q) (id := 2) (by decide) hp2 hp LC T i12 i5 CM hlo
  rw [e3]
  have O' := O
  obtain ⟨o1, o2, o3, o4, o5, o6, o7, o8, o9⟩ := O'
  have K9 := o2.1.1
  have n4 := o2.1.2.2.2.2.2.2.1
  unfold fX9_openSection_b212
  refine u_f (by decide) ?_
  refine u_num0 (cs_num o2.1 o2.2.2.1 o2.2.2.2.1 (show p2 ≤ p2 + sz by omega) q) (fun a f q hf => ?_) ?_
  · refine y_f (by decide) (y_f (by decide) (y_t K9 ?_))
    obtain ⟨h', f1, f2, -⟩ := mk_2 (a := a) (f := f) (q := q) o3 (c := 0) (by decide) (kpt_0 h3 a) (by decide)
    exact y_b f1 (y_r (a := a) rfl f2)
  intro c p3 r e1 er
  subst er
  have cl : c < 4294967296 := sp_nu_v o2.1.2.2.2.2.2.2.2.2.2 (by decide) (by decide) (by decide) e1
  have pb := sp_num_b (show p2 ≤ p2 + sz by omega) e1
  obtain ⟨h', f1, f2, f3, f4, f5, f6, f7, f8, f9, f10, f11, f12⟩ := mk_2 (a := Int32.ofNat p3) (f := 0) (q := q) o3 cl (kpt_a o2.2.2.1 pb.2 (by omega) cl) (show (if p2 + sz - p3 < c then p2 + sz - p3 else c) ≤ 40960 by split <;> omega)
  refine ⟨rc h' (Int32.ofNat p3) 0 q, e9_f (by decide) (e9_f (by decide) (e9_t K9 (e9_b f1 rfl))), h', pm_sz h3, rfl, ?_⟩
  exact mk_oR O hlo (by decide) f2 f3 (by decide) (fun s hm => by simp only [List.mem_cons, Prod.mk.injEq, List.not_mem_nil, or_false] at hm; omega) f4 f6 (by omega) f8 (by rw [f9, Nat.zero_add]) ⟨fun i v e => by (cases e), fun y _ _ => ⟨f10 y, f11 y⟩⟩ (fun i v e => by (cases e)) (fun z1 z2 => by omega) f12 (by decide) (by split <;> omega)
theorem op_7 (hp2 : p2 + sz ≤ n) (hp : p < 2147483648) (LC : lC h n b mm me n d false B) (T : dT h b mm me sh) (i12 : pm_I h 19 12 = Int32.ofNat last) (i5 : pm_I h 19 5 = on3 M.2.2.2.2.2.2.2.2.2.2.2.2.2) (CM : cMx h mm lo (pm_sz h) 0 M) (hlo : 19 < lo ∧ me < lo ∧ sh < lo ∧ b < lo ∧ mm < lo) : cs_Q wH (dF b mm me sh) (fun c p3 r => ∃ h' x, r = rc h' (Int32.ofNat p3) 0 q ∧ oR pXpC h' n b mm me sh (p2 + sz) x 34 8 4 0 (if p2 + sz - p3 < c then p2 + sz - p3 else c) d B 7 lo last p c (sec1 M 7 p) [] [] (xv (on3 M.2.2.2.2.2.2.2.2.2.2.2.2.2) (Int32.ofNat p) (decide (64 < c))) (fun _ => false)) (fX9_openSection_b93 (rc h (Int32.ofNat p2) 0 q) 19 (Int32.ofNat p) (Int32.ofNat 7) (Int64.ofNat sz)) (sp_num B (p2 + sz) p2) := by
  obtain ⟨h3, e3, O⟩ := op_h3 (q := q) (id := 7) (by decide) hp2 hp LC T i12 i5 CM hlo
  rw [e3]
  have O' := O
  obtain ⟨o1, o2, o3, o4, o5, o6, o7, o8, o9⟩ := O'
  have K9 := o2.1.1
  have n4 := o2.1.2.2.2.2.2.2.1
  unfold fX9_openSection_b212
  refine u_f (by decide) ?_
  refine u_num0 (cs_num o2.1 o2.2.2.1 o2.2.2.2.1 (show p2 ≤ p2 + sz by omega) q) (fun a f q hf => ?_) ?_
  · refine y_f (by decide) (y_f (by decide) (y_t K9 ?_))
    obtain ⟨h', f1, f2, -⟩ := mk_7 (a := a) (f := f) (q := q) o3 (c := 0) (by decide) (kpt_0 h3 a) (by decide)
    exact y_b f1 (y_r (a := a) rfl f2)
  intro c p3 r e1 er
  subst er
  have cl : c < 4294967296 := sp_nu_v o2.1.2.2.2.2.2.2.2.2.2 (by decide) (by decide) (by decide) e1
  have pb := sp_num_b (show p2 ≤ p2 + sz by omega) e1
  obtain ⟨h', f1, f2, f3, f4, f5, f6, f7, f8, f9, f10, f11, f12⟩ := mk_7 (a := Int32.ofNat p3) (f := 0) (q := q) o3 cl (kpt_a o2.2.2.1 pb.2 (by omega) cl) (show (if p2 + sz - p3 < c then p2 + sz - p3 else c) ≤ 40960 by split <;> omega)
  refine ⟨rc h' (Int32.ofNat p3) 0 q, e9_f (by decide) (e9_f (by decide) (e9_t K9 (e9_b f1 rfl))), h', pm_sz h3, rfl, ?_⟩
  exact mk_oR O hlo (by decide) f2 f3 (by decide) (fun s hm => by simp only [List.mem_cons, Prod.mk.injEq, List.not_mem_nil, or_false] at hm; omega) f4 f6 (by omega) f8 (by rw [f9, Nat.zero_add]) ⟨fun i v e => by (cases e), fun y _ _ => ⟨f10 y, f11 y⟩⟩ (fun i v e => by (cases e)) (fun z1 z2 => by omega) f12 (by decide) (by split <;> omega)
theorem op_9 (hp2 : p2 + sz ≤ n) (hp : p < 2147483648) (LC : lC h n b mm me n d false B) (T : dT h b mm me sh) (i12 : pm_I h 19 12 = Int32.ofNat last) (i5 : pm_I h 19 5 = on3 M.2.2.2.2.2.2.2.2.2.2.2.2.2) (CM : cMx h mm lo (pm_sz h) 0 M) (hlo : 19 < lo ∧ me < lo ∧ sh < lo ∧ b < lo ∧ mm < lo) : cs_Q wH (dF b mm me sh) (fun c p3 r => ∃ h' x, r = rc h' (Int32.ofNat p3) 0 q ∧ oR pElC h' n b mm me sh (p2 + sz) x 34 9 7 0 (if p2 + sz - p3 < c then p2 + sz - p3 else c) d B 9 lo last p c (sec1 M 9 p) [] [] (xv (on3 M.2.2.2.2.2.2.2.2.2.2.2.2.2) (Int32.ofNat p) (decide (64 < c))) (fun _ => false)) (fX9_openSection_b93 (rc h (Int32.ofNat p2) 0 q) 19 (Int32.ofNat p) (Int32.ofNat 9) (Int64.ofNat sz)) (sp_num B (p2 + sz) p2) := by
  obtain ⟨h3, e3, O⟩ := op_h3 (q := q) (id := 9) (by decide) hp2 hp LC T i12 i5 CM hlo
  rw [e3]
  have O' := O
  obtain ⟨o1, o2, o3, o4, o5, o6, o7, o8, o9⟩ := O'
  have K9 := o2.1.1
  have n4 := o2.1.2.2.2.2.2.2.1
  unfold fX9_openSection_b212
  refine u_f (by decide) ?_
  refine u_num0 (cs_num o2.1 o2.2.2.1 o2.2.2.2.1 (show p2 ≤ p2 + sz by omega) q) (fun a f q hf => ?_) ?_
  · refine y_f (by decide) (y_f (by decide) (y_t K9 ?_))
    obtain ⟨h', f1, f2, -⟩ := mk_9 (a := a) (f := f) (q := q) o3 (c := 0) (by decide) (kpt_0 h3 a) (by decide)
    exact y_b f1 (y_r (a := a) rfl f2)
  intro c p3 r e1 er
  subst er
  have cl : c < 4294967296 := sp_nu_v o2.1.2.2.2.2.2.2.2.2.2 (by decide) (by decide) (by decide) e1
  have pb := sp_num_b (show p2 ≤ p2 + sz by omega) e1
  obtain ⟨h', f1, f2, f3, f4, f5, f6, f7, f8, f9, f10, f11, f12⟩ := mk_9 (a := Int32.ofNat p3) (f := 0) (q := q) o3 cl (kpt_a o2.2.2.1 pb.2 (by omega) cl) (show (if p2 + sz - p3 < c then p2 + sz - p3 else c) ≤ 40960 by split <;> omega)
  refine ⟨rc h' (Int32.ofNat p3) 0 q, e9_f (by decide) (e9_f (by decide) (e9_t K9 (e9_b f1 rfl))), h', pm_sz h3, rfl, ?_⟩
  exact mk_oR O hlo (by decide) f2 f3 (by decide) (fun s hm => by simp only [List.mem_cons, Prod.mk.injEq, List.not_mem_nil, or_false] at hm; omega) f4 f6 (by omega) f8 (by rw [f9, Nat.zero_add]) ⟨fun i v e => by (cases e), fun y _ _ => ⟨f10 y, f11 y⟩⟩ (fun i v e => by (cases e)) (fun z1 z2 => by omega) f12 (by decide) (by split <;> omega)
theorem op_11 (hp2 : p2 + sz ≤ n) (hp : p < 2147483648) (LC : lC h n b mm me n d false B) (T : dT h b mm me sh) (i12 : pm_I h 19 12 = Int32.ofNat last) (i5 : pm_I h 19 5 = on3 M.2.2.2.2.2.2.2.2.2.2.2.2.2) (CM : cMx h mm lo (pm_sz h) 0 M) (hlo : 19 < lo ∧ me < lo ∧ sh < lo ∧ b < lo ∧ mm < lo) : cs_Q wH (dF b mm me sh) (fun c p3 r => ∃ h' x, r = rc h' (Int32.ofNat p3) 0 q ∧ oR pDaC h' n b mm me sh (p2 + sz) x 34 10 7 0 (if p2 + sz - p3 < c then p2 + sz - p3 else c) d B 11 lo last p c (sec1 M 11 p) [] [] (xv (on3 M.2.2.2.2.2.2.2.2.2.2.2.2.2) (Int32.ofNat p) (decide (64 < c))) (fun _ => false)) (fX9_openSection_b93 (rc h (Int32.ofNat p2) 0 q) 19 (Int32.ofNat p) (Int32.ofNat 11) (Int64.ofNat sz)) (sp_num B (p2 + sz) p2) := by
  obtain ⟨h3, e3, O⟩ := op_h3 (q := q) (id := 11) (by decide) hp2 hp LC T i12 i5 CM hlo
  rw [e3]
  have O' := O
  obtain ⟨o1, o2, o3, o4, o5, o6, o7, o8, o9⟩ := O'
  have K9 := o2.1.1
  have n4 := o2.1.2.2.2.2.2.2.1
  unfold fX9_openSection_b212
  refine u_f (by decide) ?_
  refine u_num0 (cs_num o2.1 o2.2.2.1 o2.2.2.2.1 (show p2 ≤ p2 + sz by omega) q) (fun a f q hf => ?_) ?_
  · refine y_f (by decide) (y_f (by decide) (y_t K9 ?_))
    obtain ⟨h', f1, f2, -⟩ := mk_11 (a := a) (f := f) (q := q) o3 (c := 0) (by decide) (kpt_0 h3 a) (by decide)
    exact y_b f1 (y_r (a := a) rfl f2)
  intro c p3 r e1 er
  subst er
  have cl : c < 4294967296 := sp_nu_v o2.1.2.2.2.2.2.2.2.2.2 (by decide) (by decide) (by decide) e1
  have pb := sp_num_b (show p2 ≤ p2 + sz by omega) e1
  obtain ⟨h', f1, f2, f3, f4, f5, f6, f7, f8, f9, f10, f11, f12⟩ := mk_11 (a := Int32.ofNat p3) (f := 0) (q := q) o3 cl (kpt_a o2.2.2.1 pb.2 (by omega) cl) (show (if p2 + sz - p3 < c then p2 + sz - p3 else c) ≤ 40960 by split <;> omega)
  refine ⟨rc h' (Int32.ofNat p3) 0 q, e9_f (by decide) (e9_f (by decide) (e9_t K9 (e9_b f1 rfl))), h', pm_sz h3, rfl, ?_⟩
  exact mk_oR O hlo (by decide) f2 f3 (by decide) (fun s hm => by simp only [List.mem_cons, Prod.mk.injEq, List.not_mem_nil, or_false] at hm; omega) f4 f6 (by omega) f8 (by rw [f9, Nat.zero_add]) ⟨fun i v e => by (cases e), fun y _ _ => ⟨f10 y, f11 y⟩⟩ (fun i v e => by (cases e)) (fun z1 z2 => by omega) f12 (by decide) (by split <;> omega)
theorem op_10 (hp2 : p2 + sz ≤ n) (hp : p < 2147483648) (LC : lC h n b mm me n d false B) (T : dT h b mm me sh) (i12 : pm_I h 19 12 = Int32.ofNat last) (i5 : pm_I h 19 5 = on3 M.2.2.2.2.2.2.2.2.2.2.2.2.2) (CM : cMx h mm lo (pm_sz h) 0 M) (hlo : 19 < lo ∧ me < lo ∧ sh < lo ∧ b < lo ∧ mm < lo) : cs_Q wH (dF b mm me sh) (fun c p3 r => ∃ h' x, r = rc h' (Int32.ofNat p3) 0 q ∧ oR pBoC h' n b mm me sh (p2 + sz) x 34 11 2 0 (if p2 + sz - p3 < c then p2 + sz - p3 else c) d B 10 lo last p c (sec1 M 10 p) [] [] (xv (on3 M.2.2.2.2.2.2.2.2.2.2.2.2.2) (Int32.ofNat p) (decide (64 < c))) bigB) (fX9_openSection_b93 (rc h (Int32.ofNat p2) 0 q) 19 (Int32.ofNat p) (Int32.ofNat 10) (Int64.ofNat sz)) (sp_num B (p2 + sz) p2) := by
  obtain ⟨h3, e3, O⟩ := op_h3 (q := q) (id := 10) (by decide) hp2 hp LC T i12 i5 CM hlo
  rw [e3]
  have O' := O
  obtain ⟨o1, o2, o3, o4, o5, o6, o7, o8, o9⟩ := O'
  have K9 := o2.1.1
  have n4 := o2.1.2.2.2.2.2.2.1
  unfold fX9_openSection_b212
  refine u_f (by decide) ?_
  refine u_num0 (cs_num o2.1 o2.2.2.1 o2.2.2.2.1 (show p2 ≤ p2 + sz by omega) q) (fun a f q hf => ?_) ?_
  · refine y_f (by decide) (y_f (by decide) (y_t K9 ?_))
    obtain ⟨h', f1, f2, -⟩ := mk_10 (a := a) (f := f) (q := q) o3 (c := 0) (by decide) (kpt_0 h3 a) (by decide)
    exact y_b f1 (y_r (a := a) rfl f2)
  intro c p3 r e1 er
  subst er
  have cl : c < 4294967296 := sp_nu_v o2.1.2.2.2.2.2.2.2.2.2 (by decide) (by decide) (by decide) e1
  have pb := sp_num_b (show p2 ≤ p2 + sz by omega) e1
  obtain ⟨h', f1, f2, f3, f4, f5, f6, f7, f8, f9, f10, f11, f12⟩ := mk_10 (a := Int32.ofNat p3) (f := 0) (q := q) o3 cl (kpt_a o2.2.2.1 pb.2 (by omega) cl) (show (if p2 + sz - p3 < c then p2 + sz - p3 else c) ≤ 40960 by split <;> omega)
  refine ⟨rc h' (Int32.ofNat p3) 0 q, e9_f (by decide) (e9_f (by decide) (e9_t K9 (e9_b f1 rfl))), h', pm_sz h3, rfl, ?_⟩
  exact mk_oR O hlo (by decide) f2 f3 (by decide) (fun s hm => by simp only [List.mem_cons, Prod.mk.injEq, List.not_mem_nil, or_false] at hm; omega) f4 f6 (by omega) f8 (by rw [f9, Nat.zero_add]) ⟨fun i v e => by (cases e), fun y _ _ => ⟨f10 y, f11 y⟩⟩ (fun i v e => by (cases e)) (fun z1 z2 => by omega) f12 (by decide) (by split <;> omega)
end OPR
