/-! THE CLASS CHECKS: a branch by a table -/
/-- the reader moved -/
def aA (h : pm_H) (u : Int32) : pm_H := pm_setI h 19 1 u
theorem aA_I (h : pm_H) (u : Int32) (x y : Nat) (hn : ¬ (x = 19 ∧ y = 1)) : pm_I (aA h u) x y = pm_I h x y := by
  unfold aA
  rw [ev_II]
  by_cases e : x = 19
  · rw [if_pos e, if_neg (fun z => hn ⟨e, z⟩)]
  · rw [if_neg e]
theorem aA_2 (h : pm_H) (a u : Int32) : pm_setI (aA h a) 19 1 u = aA h u := by
  unfold aA
  refine congrArg (fun z => (pm_sz h, pm_kd h, pm_ln h, z, pm_L h, pm_R h)) (funext fun x => funext fun y => ?_)
  show (if x = 19 then (if y = 1 then u else (if x = 19 then (if y = 1 then a else pm_I h x y) else pm_I h x y)) else (if x = 19 then (if y = 1 then a else pm_I h x y) else pm_I h x y)) = (if x = 19 then (if y = 1 then u else pm_I h x y) else pm_I h x y)
  repeat' split
  all_goals first | rfl | (exfalso; omega)
section XTAB
variable {h0 r r' : pm_H} {n b mm lo hi bo co dd cap : Nat} {B : Nat → Nat} {M : tMd} {Ts : List Int64} {o : sp_O tK} {p p1 p2 s f x y z N : Nat} {v : sp_I} {hb w u : Int32} {K : tK} {t : Int64} {g : Bool} {l dl : List Nat}
theorem xC_at (C : xC h0 n b mm lo hi bo co dd cap B M) : xC (aA h0 u) n b mm lo hi bo co dd cap B M := by
  have K : kC lo hi h0 (aA h0 u) := fun x h1 h2 => by
    obtain ⟨-, -, -, ⟨a1, a2, a3, a4, a5, a6, a7⟩, -⟩ := C
    exact ⟨rfl, rfl, funext fun y => aA_I h0 u x y (by omega), rfl, rfl⟩
  obtain ⟨S, X, Q, ⟨a1, a2, a3, a4, a5, a6, a7⟩, e⟩ := C
  have kI := aA_I h0 u
  refine ⟨?_, cMx_k K (Nat.le_refl _) (.inl rfl) (fun j s _ _ _ => rfl) (by decide) rfl rfl X, ?_, ⟨a1, a2, a3, a4, a5, a6, a7⟩, (kI 19 2 (by omega)).trans e⟩
  · obtain ⟨s1, s2, s3, s4, s5, s6, s7, s8, s9, s10⟩ := S
    exact ⟨s1, s2, s3, s4, s5, s6, s7, s8, fun i hi => by rw [kI b i (by omega)]; exact s9 i hi, s10⟩
  · obtain ⟨q1, q2, q3, q4, q5, q6, q7, q8, ⟨w1, w2, w3, w4, w5⟩, q10⟩ := Q
    exact ⟨q1, q2, q3, q4, q5, q6, q7, q8, ⟨w1, w2, (kI 164 0 (by omega)).trans w3, (kI 164 1 (by omega)).trans w4, fun j hj => by
      obtain ⟨z1, z2, z3, z4, z5⟩ := w5 j hj
      exact ⟨z1, z2, (kI _ 0 (by omega)).trans z3, (kI _ 1 (by omega)).trans z4, (kI _ 2 (by omega)).trans z5⟩⟩, q10⟩
theorem xI_at (I : xI h0 p v hb) : xI (aA h0 u) p v hb := by
  obtain ⟨i1, i2, i3, i4, i5⟩ := I
  have kI := aA_I h0 u
  exact ⟨(kI 19 6 (by decide)).trans i1, (kI 19 7 (by decide)).trans i2, i3, i4, (kI 22 7 (by decide)).trans i5⟩
/-- where the reader stands, that and nothing else -/
theorem xS_at (C : xC h0 n b mm lo hi bo co dd cap B M) (S : xS h0 M bo co Ts o r) : xS (pm_setI h0 19 1 u) M bo co Ts o (pm_setI r 19 1 u) := by
  have aa := C.2.2.2.1
  have kx : ∀ a c, a ≠ 19 → pm_I (pm_setI r 19 1 u) a c = pm_I r a c := fun a c h => by rw [ev_II, if_neg h]
  obtain ⟨F0, S⟩ := S
  refine ⟨⟨F0.1, F0.2.1, F0.2.2.1, F0.2.2.2.1, fun x y hn => ?_, F0.2.2.2.2.2⟩, ?_⟩
  · rw [ev_II, ev_II, F0.2.2.2.2.1 x y hn]
  · cases o with
    | inl q => exact ⟨S.1, (kx _ _ (by decide)).trans S.2.1, (kx _ _ (by decide)).trans S.2.2.1, (kx _ _ (by decide)).trans S.2.2.2.1, fun i t ht => (kx _ _ (by decide)).trans (S.2.2.2.2 i t ht)⟩
    | inr y =>
      obtain ⟨V, W, eT⟩ := S
      obtain ⟨v1, v2, v3, v4, v5, v6, v7⟩ := V
      exact ⟨⟨(kx 22 0 (by decide)).trans v1, (kx 22 6 (by decide)).trans v2, (kx 22 10 (by decide)).trans v3, (kx bo 2 (by omega)).trans v4, oRw_k (fun y _ => kx 24 y (by decide)) v5, oL_k (fun y _ => kx 25 y (by decide)) v6, fun i rr hi => by
        obtain ⟨z1, z2, z3, z4, z5⟩ := v7 i rr hi
        exact ⟨(kx co _ (by omega)).trans z1, (kx co _ (by omega)).trans z2, (kx co _ (by omega)).trans z3, (kx co _ (by omega)).trans z4, (kx co _ (by omega)).trans z5⟩⟩, W, eT⟩
/-- a number that can be read -/
theorem x_num (C : xC r n b mm lo hi bo co dd cap B M) (f3 : pm_I r 19 3 = 0) (i1 : pm_I r 19 1 = Int32.ofNat p1) (q : sp_num B n p1 = .inr (y, p2)) : fX9_number r 19 32 = some (Int64.ofNat y, pm_setI r 19 1 (Int32.ofNat p2)) := by
  have lt := num_lt q
  have e0 : rc r (Int32.ofNat p1) 0 (pm_I r 19 4) = r := by rw [← i1, ← f3]; exact rc_eta r
  have Q := cs_num C.1 C.2.2.2.2 (Nat.le_refl n) (Nat.le_of_lt lt.1) (pm_I r 19 4)
  rw [q, e0] at Q
  obtain ⟨r', e, er⟩ := Q
  rw [e, er]
  refine congrArg (fun a => some (Int64.ofNat y, a)) ?_
  have := rc_s1 (h := r) (p := Int32.ofNat p1) (f := 0) (q := pm_I r 19 4) (v := Int32.ofNat p2)
  rw [e0] at this
  exact this.symm
theorem xF_3 (C : xC h0 n b mm lo hi bo co dd cap B M) (S : xS (aA h0 u) M bo co Ts o r) (f3 : pm_I h0 19 3 = 0) : pm_I r 19 3 = 0 ∧ pm_I r 19 1 = u := by
  have aa := C.2.2.2.1
  exact ⟨((S.1.2.2.2.2.1 19 3 (by unfold xAI; omega)).trans (aA_I h0 u 19 3 (by decide))).trans f3, (S.1.2.2.2.2.1 19 1 (by unfold xAI; omega)).trans (by unfold aA; rw [ev_II, if_pos rfl, if_pos rfl])⟩
/-- are the labels there? the last one -/
theorem x_tb1 (C : xC h0 n b mm lo hi bo co dd cap B M) (I : xI h0 p v hb) (f3 : pm_I h0 19 3 = 0) (tp : 0 < Ts.length) (tl : Ts.length ≤ 200) (hx : x ≤ 200) : ∀ (j k : Nat) {pos : Nat} {last : Int32} {o : sp_O tK} {r : pm_H} {l : List Nat} {p3 : Nat}, k + j = x + 1 → sp_rows (sp_num B n) j pos = .inr (l, p3) → xS (aA h0 (Int32.ofNat pos)) M bo co Ts o r → ∃ r' last', pm_lim sX1_branchByTable (.inr (.inl (22, Int32.ofNat x, last, Int32.ofNat k, r))) = pm_lim sX1_branchByTable (.inr (.inl (22, Int32.ofNat x, last', Int32.ofNat (x + 1), r'))) ∧ xS (aA h0 (Int32.ofNat p3)) M bo co Ts (sp_b o fun K _ => if l.any (fun y => decide (Ts.length ≤ y)) = true then .inl (30, p) else .inr (K, 0)) r' ∧ (l = [] → last' = last) ∧ ∀ d, l ≠ [] → l.getLastD d < Ts.length → last' = Int32.ofNat (Ts.length - 1 - l.getLastD d) := by
  intro j
  induction j with
  | zero =>
    intro k pos last o r l p3 hk q S
    cases q
    refine ⟨r, last, by rw [show k = x + 1 by omega], ?_, fun _ => rfl, fun d h => absurd rfl h⟩
    cases o <;> exact S
  | succ j ih =>
    intro k pos last o r l p3 hk q S
    obtain ⟨y, p4, e1, e2⟩ := b_inv q
    obtain ⟨l', p5, e3, e4⟩ := b_inv e2
    cases e4
    have Cp : xC (aA h0 (Int32.ofNat pos)) n b mm lo hi bo co dd cap B M := xC_at C
    have Cr := xS_C Cp S
    have k1 := Cr.2.2.1.1.1
    have B8 : ∀ i, B i < 256 := Cr.1.2.2.2.2.2.2.2.2.2
    have y32 := sp_num_v B8 e1
    obtain ⟨f3r, i1⟩ := xF_3 C S f3
    have en := x_num Cr f3r i1 e1
    obtain ⟨r1, er⟩ : ∃ z, z = pm_setI r 19 1 (Int32.ofNat p4) := ⟨_, rfl⟩
    rw [← er] at en
    have S1 : xS (aA h0 (Int32.ofNat p4)) M bo co Ts o r1 := by
      have := xS_at (u := Int32.ofNat p4) Cp S
      rw [aA_2] at this
      rw [er]; exact this
    have C1' : xC (aA h0 (Int32.ofNat p4)) n b mm lo hi bo co dd cap B M := xC_at C
    have C1 := xS_C C1' S1
    have i10 : pm_I r1 22 10 = Int32.ofNat Ts.length := (xS_T S1).1
    have lastOf : ∀ d, (y :: l').getLastD d = l'.getLastD y := fun d => by cases l' <;> rfl
    by_cases c : y < Ts.length
    · obtain ⟨r2, last2, e5, S2, z1, z2⟩ := ih (k + 1) (last := Int32.ofNat (Ts.length - 1 - y)) (by omega) e3 S1
      refine ⟨r2, last2, ?_, xS_e ?_ S2, fun h => (List.cons_ne_nil _ _ h).elim, fun d _ hd => ?_⟩
      · refine k_w (aX1_branchByTable_1 ..) ?_
        unfold tX1_branchByTable_28
        refine k_f (by rw [nn_lt (by omega) (by omega)]; omega) (k_t k1 (k_b Cr.2.2.1.1.2.2 (k_t Cr.1.1 (k_b en (k_t C1.2.2.1.1.1 (k_t ?_ (k_l (k_l (k_l ?_)))))))))
        · rw [i10, nn_t6 (by omega), ll_lt (by omega) (by omega)]; exact c
        · have ix : pm_I r1 22 10 - 1 - fX12_index (Int64.ofNat y) = Int32.ofNat (Ts.length - 1 - y) := by
            rw [i10, nn_s1 (by omega)]
            unfold fX12_index
            rw [if_neg (by rw [show (0 : Int64) = Int64.ofNat 0 from rfl, ll_lt (by omega) (by decide)]; omega), if_pos (by rw [show (2147483647 : Int64) = Int64.ofNat 2147483647 from rfl, ll_le (by omega) (by decide)]; omega), ll_t3, nn_sb (by omega)]
          rw [ix, show Int32.ofNat k + 1 = Int32.ofNat (k + 1) from nn_ad k 1]
          exact k_n e5
      · refine sp_cg fun K z _ => ?_
        rw [List.any_cons, decide_eq_false (show ¬ Ts.length ≤ y by omega), Bool.false_or]
      · rw [lastOf] at hd ⊢
        cases l' with
        | nil => exact z1 rfl
        | cons a as => exact z2 y (List.cons_ne_nil _ _) hd
    · obtain ⟨r2, e6, S2⟩ := x_fail (w := 30) C1' (xI_at I) S1 ⟨by decide, by decide⟩
      have C2 := xS_C C1' S2
      obtain ⟨r3, last3, e5, S3, z1, z2⟩ := ih (k + 1) (last := pm_I r2 22 10 - 1 - fX12_index (Int64.ofNat y)) (by omega) e3 S2
      refine ⟨r3, last3, ?_, xS_e ?_ S3, fun h => (List.cons_ne_nil _ _ h).elim, fun d _ hd => ?_⟩
      · refine k_w (aX1_branchByTable_1 ..) ?_
        unfold tX1_branchByTable_28
        refine k_f (by rw [nn_lt (by omega) (by omega)]; omega) (k_t k1 (k_b Cr.2.2.1.1.2.2 (k_t Cr.1.1 (k_b en (k_t C1.2.2.1.1.1 (k_f ?_ (k_b e6 (k_t C2.2.2.1.1.1 (k_l (k_l (k_l ?_)))))))))))
        · rw [i10, nn_t6 (by omega), ll_lt (by omega) (by omega)]; exact c
        · rw [show Int32.ofNat k + 1 = Int32.ofNat (k + 1) from nn_ad k 1]
          exact k_n e5
      · rw [sp_as]
        refine sp_cg fun K z _ => ?_
        rw [List.any_cons, decide_eq_true (show Ts.length ≤ y by omega), Bool.true_or, if_pos rfl]
        rfl
      · rw [lastOf] at hd ⊢
        cases l' with
        | nil => exact absurd hd c
        | cons a as => exact z2 y (List.cons_ne_nil _ _) hd
/-- the labels in their order -/
theorem x_tb2 (C : xC h0 n b mm lo hi bo co dd cap B M) (I : xI h0 p v hb) (T : vTy M) (f3 : pm_I h0 19 3 = 0) (tp : 0 < Ts.length) (tl : Ts.length ≤ 200) (hx : x ≤ 200) {many d : Nat} (WT : ∀ (i : Nat) (t : Int64), Ts[i]? = some t → wfT M t) (hd : d < Ts.length) (K0 : tK) (l0 : K0.2.1.length = Ts.length) (em : many = (lbW M (K0.2.1.getD d lb0)).length) : ∀ (j k : Nat) {pos : Nat} {o : sp_O tK} {r : pm_H} {l : List Nat} {p3 : Nat}, k + j = x + 1 → sp_rows (sp_num B n) j pos = .inr (l, p3) → (∀ y, y ∈ l → y < Ts.length) → xS (aA h0 (Int32.ofNat pos)) M bo co Ts o r → (∀ K z, o = .inr (K, z) → lSm K0.2.1 K.2.1 ∧ K.2.2.length + j ≤ cap) → ∃ r' u, pm_lim sX1_branchByTable (.inr (.inr (.inl (22, Int32.ofNat x, Int32.ofNat (Ts.length - 1 - d), Int32.ofNat k, r)))) = some r' ∧ xS (aA h0 u) M bo co Ts (sp_b (sp_b o fun K _ => kTabL M p hb many l K) fun K _ => .inr (kDie K, 0)) r' ∧ ∀ K z, sp_b (sp_b o fun K _ => kTabL M p hb many l K) (fun K _ => (.inr (kDie K, 0) : sp_O tK)) = .inr (K, z) → u = Int32.ofNat p3 := by
  intro j
  induction j with
  | zero =>
    intro k pos o r l p3 hk q hl S hK
    cases q
    have Cp : xC (aA h0 (Int32.ofNat pos)) n b mm lo hi bo co dd cap B M := xC_at C
    have Cr := xS_C Cp S
    obtain ⟨r1, e1, S1⟩ := x_die Cp S tp tl
    refine ⟨r1, _, ?_, xS_e ?_ S1, fun _ _ _ => rfl⟩
    · refine k_w (aX1_branchByTable_2 ..) ?_
      unfold tX1_branchByTable_122
      exact k_t (by rw [nn_lt (by omega) (by omega)]; omega) (k_t Cr.2.2.1.1.1 (k_b e1 rfl))
    · cases o <;> rfl
  | succ j ih =>
    intro k pos o r l p3 hk q hl S hK
    obtain ⟨y, p4, e1, e2⟩ := b_inv q
    obtain ⟨l', p5, e3, e4⟩ := b_inv e2
    cases e4
    have Cp : xC (aA h0 (Int32.ofNat pos)) n b mm lo hi bo co dd cap B M := xC_at C
    have Cr := xS_C Cp S
    have k1 := Cr.2.2.1.1.1
    cases o with
    | inl fq =>
      obtain ⟨ff, q⟩ := fq
      have z1 : 0 < ff ∧ ff < 100 := S.2.1
      have z2 : pm_I r 22 0 = Int32.ofNat ff := S.2.2.1
      obtain ⟨r1, e5, S1⟩ := x_die Cp S tp tl
      refine ⟨r1, _, ?_, S1, fun K z e => by cases e⟩
      refine k_w (aX1_branchByTable_2 ..) ?_
      unfold tX1_branchByTable_122
      exact k_f (by rw [nn_lt (by omega) (by omega)]; omega) (k_t k1 (k_f (by rw [z2, n3_0, nn_eq (by omega) (by decide)]; omega) (k_b e5 rfl)))
    | inr yy =>
      obtain ⟨K, z⟩ := yy
      obtain ⟨sm, rm⟩ := hK K z rfl
      have f0 : pm_I r 22 0 = 0 := S.2.1.1
      have yl := hl y List.mem_cons_self
      have B8 : ∀ i, B i < 256 := Cr.1.2.2.2.2.2.2.2.2.2
      have kl : K.2.1.length = Ts.length := by rw [lSm_l sm]; exact l0
      obtain ⟨f3r, i1⟩ := xF_3 C S f3
      have en := x_num Cr f3r i1 e1
      obtain ⟨r1, er⟩ : ∃ z, z = pm_setI r 19 1 (Int32.ofNat p4) := ⟨_, rfl⟩
      rw [← er] at en
      have S1 : xS (aA h0 (Int32.ofNat p4)) M bo co Ts (.inr (K, z)) r1 := by
        have := xS_at (u := Int32.ofNat p4) Cp S
        rw [aA_2] at this
        rw [er]; exact this
      have C' : xC (aA h0 (Int32.ofNat p4)) n b mm lo hi bo co dd cap B M := xC_at C
      have I' : xI (aA h0 (Int32.ofNat p4)) p v hb := xI_at I
      have C1 := xS_C C' S1
      have i10 : pm_I r1 22 10 = Int32.ofNat Ts.length := (xS_T S1).1
      have i10r : pm_I r 22 10 = Int32.ofNat Ts.length := (xS_T S).1
      have hy : Ts[y]? = some (Ts[y]'yl) := List.getElem?_eq_getElem yl
      have hdd : Ts[d]? = some (Ts[d]'hd) := List.getElem?_eq_getElem hd
      have Wy := WT y _ hy
      have Wd := WT d _ hdd
      have BWy := bt_w T Wy
      have BWd := bt_w T Wd
      obtain ⟨-, gy, -, -, -, wy, cy, -, -⟩ := x_lab C' S1 T tl hy Wy
      obtain ⟨-, gd, -, -, -, wd, cd, -, -⟩ := x_lab C' S1 T tl hdd Wd
      have wy := wy K z rfl
      have wd := wd K z rfl
      rw [← wy] at cy
      rw [← wd, lbW_s sm, ← em] at cd
      have ly : (lbW M (K.2.1.getD y lb0)).length ≤ 16 := by
        rw [wy]
        split
        · exact BWy.1
        · exact BWy.2.1
      have ld : many ≤ 16 := by
        rw [em, ← lbW_s sm, wd]
        split
        · exact BWd.1
        · exact BWd.2.1
      have l'len := rows_ln0 j p4 l' _ e3
      have pre : ∀ {Y : Option pm_H}, pm_lim sX1_branchByTable (.inr (.inr (.inr (.inr (.inl (22, Int32.ofNat x, Int32.ofNat (Ts.length - 1 - d), Int32.ofNat k, Int32.ofNat (Ts.length - 1 - y), Int32.ofNat many, Int32.ofNat (lbW M (K.2.1.getD y lb0)).length, r1)))))) = Y → pm_lim sX1_branchByTable (.inr (.inr (.inl (22, Int32.ofNat x, Int32.ofNat (Ts.length - 1 - d), Int32.ofNat k, r)))) = Y := fun {Y} h => by
        refine k_w (aX1_branchByTable_2 ..) ?_
        unfold tX1_branchByTable_122
        refine k_f (by rw [nn_lt (by omega) (by omega)]; omega) (k_t k1 (k_t f0 (k_b Cr.2.2.1.1.2.2 (k_t Cr.1.1 (k_b en (k_l ?_))))))
        rw [i10r, nn_s1 (by omega), ll_t3, nn_sb (by omega)]
        refine k_t C1.2.2.1.1.1 (k_b cy (k_n (k_w (aX1_branchByTable_3 ..) ?_)))
        unfold tX1_branchByTable_159
        exact k_t C1.2.2.1.1.1 (k_b cd (k_n h))
      -- the row, the labels after it
      have fin : ∀ {o2 : sp_O tK} {r2 : pm_H}, xS (aA h0 (Int32.ofNat p4)) M bo co Ts o2 r2 → (∀ K2 z2, o2 = .inr (K2, z2) → K2.2 = K.2) → ∃ r' u, pm_lim sX1_branchByTable (.inr (.inr (.inr (.inr (.inr (.inl (22, Int32.ofNat x, Int32.ofNat (Ts.length - 1 - d), Int32.ofNat k, Int32.ofNat (Ts.length - 1 - y), r2))))))) = some r' ∧ xS (aA h0 u) M bo co Ts (sp_b (sp_b o2 fun K _ => kTabL M p hb many l' (kBr M 12 hb y K)) fun K _ => .inr (kDie K, 0)) r' ∧ ∀ K z, sp_b (sp_b o2 fun K _ => kTabL M p hb many l' (kBr M 12 hb y K)) (fun K _ => (.inr (kDie K, 0) : sp_O tK)) = .inr (K, z) → u = Int32.ofNat p3 := by
        intro o2 r2 S2 h2
        have C2 := xS_C C' S2
        obtain ⟨r3, e5, S3⟩ := x_eBr (op := 12) C' I' S2 T tl hy Wy (fun K2 z2 e => by rw [h2 K2 z2 e]; omega)
        obtain ⟨r4, u, e6, S4, hu⟩ := ih (k + 1) (by omega) e3 (fun a ha => hl a (List.mem_cons_of_mem _ ha)) S3 (fun K3 z3 e => by
          obtain ⟨K2, z2, q1, q2⟩ := b_inv e
          cases q2
          have h3 := h2 K2 z2 q1
          refine ⟨?_, ?_⟩
          · have := (kBr_m M 12 hb y K2).2
            rw [h3] at this
            exact lSm_tr sm this
          · have := (kBr_l M 12 hb y K2).2
            rw [h3] at this
            omega)
        have eq : (sp_b (sp_b o2 fun K _ => (.inr (kBr M 12 hb y K, 0) : sp_O tK)) fun K _ => kTabL M p hb many l' K) = sp_b o2 fun K _ => kTabL M p hb many l' (kBr M 12 hb y K) := by rw [sp_as]; rfl
        rw [eq] at S4 hu
        refine ⟨r4, u, ?_, S4, hu⟩
        refine k_w (aX1_branchByTable_5 ..) ?_
        unfold tX1_branchByTable_196
        refine k_t C2.2.2.1.1.1 (k_b e5 (k_n (k_w (aX1_branchByTable_7 ..) ?_)))
        unfold tX1_branchByTable_204
        refine k_l ?_
        rw [show Int32.ofNat k + 1 = Int32.ofNat (k + 1) from nn_ad k 1]
        exact k_n e6
      rw [sp_br]
      by_cases c : (lbW M (K.2.1.getD y lb0)).length = many
      · have ceq : Int32.ofNat (lbW M (K.2.1.getD y lb0)).length = Int32.ofNat many := by rw [c]
        by_cases le : l' = []
        · -- the last one
          obtain ⟨r2, e5, S2⟩ := x_tkW C' I' S1 T tl hy Wy
          rw [sp_br] at S2
          obtain ⟨r3, u, e6, S3, hu⟩ := fin S2 (fun K2 z2 e => kTakeN_2 e)
          have eq : (sp_b (kTakeL p (lbW M (K.2.1.getD y lb0)) K) fun K _ => kTabL M p hb many l' (kBr M 12 hb y K)) = kTabL M p hb many (y :: l') K := by
            show _ = (if (lbW M (K.2.1.getD y lb0)).length = many then _ else _)
            rw [if_pos c, le]
            rfl
          rw [eq] at S3 hu
          refine ⟨r3, u, pre (k_w (aX1_branchByTable_4 ..) ?_), S3, hu⟩
          unfold tX1_branchByTable_164
          have j0 : j = 0 := by rw [← l'len, le]; rfl
          exact k_t ceq (k_t (by rw [nn_le (by omega) (by omega)]; omega) (k_t C1.2.2.1.1.1 (k_b e5 (k_n e6))))
        · obtain ⟨r2, e5, S2⟩ := x_tpA C' I' S1 T tl hy Wy
          rw [sp_br] at S2
          obtain ⟨r3, u, e6, S3, hu⟩ := fin S2 (fun K2 z2 e => by
            obtain ⟨w2, z3, q1, q2⟩ := b_inv e
            exact (kPutN_2 q2).trans (kTakeS_2 q1))
          have ne : l'.isEmpty = false := by cases l' with
            | nil => exact absurd rfl le
            | cons a as => rfl
          have eq : (sp_b (sp_b (kTakeS p (gt (lbW M (K.2.1.getD y lb0))) (lbW M (K.2.1.getD y lb0)).length K) fun w _ => kPutL p w.1 w.2) fun K _ => kTabL M p hb many l' (kBr M 12 hb y K)) = kTabL M p hb many (y :: l') K := by
            show _ = (if (lbW M (K.2.1.getD y lb0)).length = many then sp_b (if l'.isEmpty = true then _ else _) _ else _)
            rw [if_pos c, ne, if_neg (by decide), c]
          rw [eq] at S3 hu
          refine ⟨r3, u, pre (k_w (aX1_branchByTable_4 ..) ?_), S3, hu⟩
          unfold tX1_branchByTable_164
          have j0 : 0 < j := by rw [← l'len]; exact List.length_pos_iff.mpr le
          exact k_t ceq (k_f (by rw [nn_le (by omega) (by omega)]; omega) (k_t C1.2.2.1.1.1 (k_b e5 (k_n (k_w (aX1_branchByTable_6 ..) (k_n e6))))))
      · obtain ⟨r2, e5, S2⟩ := x_fail (w := 29) C' I' S1 ⟨by decide, by decide⟩
        rw [sp_br] at S2
        obtain ⟨r3, u, e6, S3, hu⟩ := fin S2 (fun K2 z2 e => by cases e)
        have eq : (sp_b (.inl (29, p) : sp_O tK) fun K _ => kTabL M p hb many l' (kBr M 12 hb y K)) = kTabL M p hb many (y :: l') K := by
          show _ = (if (lbW M (K.2.1.getD y lb0)).length = many then _ else _)
          rw [if_neg c]
          rfl
        rw [eq] at S3 hu
        refine ⟨r3, u, pre (k_w (aX1_branchByTable_4 ..) ?_), S3, hu⟩
        unfold tX1_branchByTable_164
        exact k_f (by rw [nn_eq (by omega) (by omega)]; exact c) (k_t C1.2.2.1.1.1 (k_b e5 (k_n e6)))
/-- a branch by a table -/
theorem x_tab {p3 : Nat} (C : xC h0 n b mm lo hi bo co dd cap B M) (I : xI h0 p v hb) (S : xS h0 M bo co Ts (.inr (K, z)) r) (T : vTy M) (hl : 0 < K.2.1.length) (eh : hb = Int32.ofNat K.1.length) (f3 : pm_I h0 19 3 = 0) (hx : x ≤ 200) (hp : p1 < 2147483648) (e1 : v.2.1 = Int64.ofNat x) (e2 : v.2.2.1 = Int64.ofNat p1) (q : sp_rows (sp_num B n) (x + 1) p1 = .inr (dl, p3)) (rm : K.2.2.length + (dl.length + 1) ≤ cap) : ∃ r' u, fX1_branchByTable r 22 = some r' ∧ xE (aA h0 u) M bo co (kTab M p dl K) r' ∧ ∀ K' z', kTab M p dl K = .inr (K', z') → u = Int32.ofNat p3 := by
  obtain ⟨W, kl, tl, tp, -, -⟩ := xS_a S hl
  have Cr := xS_C C S
  have Ir := xS_I C I S
  have k1 := Cr.2.2.1.1.1
  have dln := rows_ln0 _ _ _ _ q
  obtain ⟨r0, e0⟩ : ∃ z, z = pm_setI r 19 1 (Int32.ofNat p1) := ⟨_, rfl⟩
  have S0 : xS (aA h0 (Int32.ofNat p1)) M bo co Ts (.inr (K, z)) r0 := by rw [e0]; exact xS_at C S
  obtain ⟨r1, last, e3, S1, -, hlast⟩ := x_tb1 C I f3 tp tl hx (x + 1) 0 (last := 0) (Nat.zero_add _) q S0
  rw [sp_br] at S1
  have C3 : xC (aA h0 (Int32.ofNat p3)) n b mm lo hi bo co dd cap B M := xC_at C
  have I3 : xI (aA h0 (Int32.ofNat p3)) p v hb := xI_at I
  have pre : ∀ {Y : Option pm_H}, pm_lim sX1_branchByTable (.inr (.inl (22, Int32.ofNat x, last, Int32.ofNat (x + 1), r1))) = Y → fX1_branchByTable r 22 = Y := fun {Y} h => by
    unfold fX1_branchByTable
    refine k_w (aX1_branchByTable_0 ..) ?_
    unfold tX1_branchByTable_0
    refine k_t k1 (k_b Cr.2.2.1.1.2.2 (k_t Cr.1.1 (k_l (k_l ?_))))
    rw [Ir.2.2.1, Ir.2.2.2.1, e1, e2, ll_t3, ll_t3, ← e0]
    exact k_n (e3.trans h)
  have C1 := xS_C C3 S1
  unfold kTab
  rw [← kl]
  by_cases c : dl.any (fun x => decide (Ts.length ≤ x)) = true
  · rw [if_pos c] at S1 ⊢
    have z2 : pm_I r1 22 0 = Int32.ofNat 30 := S1.2.2.1
    refine ⟨r1, _, pre (k_w (aX1_branchByTable_1 ..) ?_), ⟨Ts, S1⟩, fun K' z' e => by cases e⟩
    unfold tX1_branchByTable_28
    exact k_t (by rw [nn_lt (by omega) (by omega)]; omega) (k_t C1.2.2.1.1.1 (k_f (by rw [z2]; decide) rfl))
  rw [if_neg c] at S1 ⊢
  have ally : ∀ y, y ∈ dl → y < Ts.length := fun y hy => Nat.lt_of_not_le fun h => c (List.any_eq_true.mpr ⟨y, hy, decide_eq_true h⟩)
  have ne : dl ≠ [] := fun h => by rw [h] at dln; exact absurd dln (Nat.succ_ne_zero _).symm
  have hd : dl.getLastD 0 < Ts.length := ally _ (by
    cases dl with
    | nil => exact absurd rfl ne
    | cons a as => exact List.getLast_mem (List.cons_ne_nil a as))
  have el := hlast 0 ne hd
  have f0 : pm_I r1 22 0 = 0 := S1.2.1.1
  obtain ⟨ut, r2, e5, S2, -⟩ := x_take (w := 127) C3 I3 S1 tp (.inr isT_127)
  rw [sp_br] at S2
  have C2 := xS_C C3 S2
  have l2 : ∀ K2 z2, (sp_b (kTake p 127 K) fun y _ => (.inr (y.2, 0) : sp_O tK)) = .inr (K2, z2) → K2.2 = K.2 := fun K2 z2 e => by
    obtain ⟨y, z3, q1, q2⟩ := b_inv e
    cases q2
    exact kTake_2 q1
  obtain ⟨ue, r3, e6, S3, -⟩ := x_emt (op := 14) (a1 := Int32.ofNat x) (a2 := 0) (a3 := 0) C3 I3 S2 tp tl (fun K2 z2 e => by rw [l2 K2 z2 e]; omega)
  have C3' := xS_C C3 S3
  have Ir3 := xS_I C3 I3 S3
  obtain ⟨r4, e4⟩ : ∃ z, z = pm_setI r3 19 1 (Int32.ofNat p1) := ⟨_, rfl⟩
  have S4 : xS (aA h0 (Int32.ofNat p1)) M bo co Ts (sp_b (sp_b (kTake p 127 K) fun y _ => .inr (y.2, 0)) fun K _ => .inr (kEm K 14 (Int32.ofNat x) 0 0 hb, 0)) r4 := by
    have := xS_at (u := Int32.ofNat p1) C3 S3
    rw [aA_2] at this
    rw [e4]; exact this
  obtain ⟨r5, u, e7, S5, hu⟩ := x_tb2 (d := dl.getLastD 0) C I T f3 tp tl hx (fun i t hi => by
    obtain ⟨W', eT⟩ := xS_wf S rfl
    have il := some_lt hi
    have := tyL_g (K := K) (x := i) (by omega)
    rw [eT, hi] at this
    rw [Option.some.inj this]
    exact (W'.2.1 _ (getD_mem (by omega))).1) hd K kl.symm rfl (x + 1) 0 (Nat.zero_add _) q ally S4 (fun K' z' e => by
    obtain ⟨K2, z2, q1, q2⟩ := b_inv e
    cases q2
    have h3 := l2 K2 z2 q1
    have em := kEm_1 K2 14 (Int32.ofNat x) 0 0 hb
    refine ⟨by rw [em.2, h3]; exact lSm_r _, ?_⟩
    have : (kEm K2 14 (Int32.ofNat x) 0 0 hb).2.2.length ≤ K2.2.2.length + 1 := by
      unfold kEm
      split
      · show (K2.2.2 ++ [_]).length ≤ _
        rw [List.length_append]; exact Nat.le_refl _
      · exact Nat.le_succ _
    rw [h3] at this
    omega)
  have eq : (sp_b (sp_b (sp_b (sp_b (kTake p 127 K) fun y _ => .inr (y.2, 0)) fun K _ => .inr (kEm K 14 (Int32.ofNat x) 0 0 hb, 0)) fun K1 _ => kTabL M p hb (lbW M (K.2.1.getD (dl.getLastD 0) lb0)).length dl K1) fun K _ => (.inr (kDie K, 0) : sp_O tK)) = sp_b (kTk p 127 K) fun K1 _ => sp_b (kTabL M p (Int32.ofNat K.1.length) (lbW M (K1.2.1.getD (dl.getLastD 0) lb0)).length dl (kEm K1 14 (Int32.ofNat (dl.length - 1)) 0 0 (Int32.ofNat K.1.length))) fun K2 _ => .inr (kDie K2, 0) := by
    have tk : kTk p 127 K = sp_b (kTake p 127 K) fun v _ => .inr (v.2, 0) := by unfold kTk; rw [if_neg (by decide)]
    rw [tk, sp_as, sp_as, sp_as, sp_as]
    refine sp_cg fun K1 z1 e => ?_
    have q := kTake_2 e
    rw [sp_br, sp_br, sp_br, q, dln, Nat.add_sub_cancel, ← eh]
  rw [eq] at S5 hu
  refine ⟨r5, u, pre (k_w (aX1_branchByTable_1 ..) ?_), ⟨Ts, S5⟩, hu⟩
  unfold tX1_branchByTable_28
  refine k_t (by rw [nn_lt (by omega) (by omega)]; omega) (k_t C1.2.2.1.1.1 (k_t f0 (k_b e5 (k_t C2.2.2.1.1.1 (k_b e6 (k_t C3'.2.2.1.1.1 (k_b C3'.2.2.1.1.2.2 (k_t C3'.1.1 (k_l ?_)))))))))
  rw [Ir3.2.2.2.1, e2, ll_t3, ← e4, el]
  exact k_n e7
end XTAB
