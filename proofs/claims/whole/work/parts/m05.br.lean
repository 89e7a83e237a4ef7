/-! THE CLASS CHECKS: rows that jump -/
section XBR
variable {h0 r r' : pm_H} {n b mm lo hi bo co dd cap : Nat} {B : Nat → Nat} {M : tMd} {Ts : List Int64} {o : sp_O tK} {p w s f x : Nat} {v : sp_I} {hb op : Int32} {K : tK} {t : Int64}
theorem lSm_ty : ∀ {ls ks : List tLb}, lSm ls ks → (ks.map fun l => l.2.1) = ls.map fun l => l.2.1
  | [], [], _ => rfl
  | l :: ls, k :: ks, e => by
    have := lSm_ty e.2
    rw [List.map_cons, List.map_cons, this, e.1.2.1]
  | [], _ :: _, e => e.elim
  | _ :: _, [], e => e.elim
/-- one label of them changed -/
theorem oL_st {l' : tLb} : ∀ {ls : List tLb} {x : Nat}, oL r ls → x < ls.length → (∀ y, y < 7 * ls.length → ¬ (7 * (ls.length - 1 - x) ≤ y ∧ y < 7 * (ls.length - 1 - x) + 7) → pm_I r' 25 y = pm_I r 25 y) → (pm_I r' 25 (7 * (ls.length - 1 - x)) = Int32.ofNat l'.1 ∧ pm_I r' 25 (7 * (ls.length - 1 - x) + 1) = l'.2.1.toInt32 ∧ pm_I r' 25 (7 * (ls.length - 1 - x) + 2) = Int32.ofNat l'.2.2.1 ∧ pm_I r' 25 (7 * (ls.length - 1 - x) + 3) = iN l'.2.2.2.1 ∧ pm_I r' 25 (7 * (ls.length - 1 - x) + 4) = iN l'.2.2.2.2.1 ∧ pm_I r' 25 (7 * (ls.length - 1 - x) + 5) = kPtr l'.2.2.2.2.2.1 ∧ pm_I r' 25 (7 * (ls.length - 1 - x) + 6) = l'.2.2.2.2.2.2) → oL r' (ls.set x l')
  | [], x, _, hx, _, _ => absurd hx (Nat.not_lt_zero _)
  | l :: ls, 0, q, _, k, z => by
    rw [show (l :: ls).length - 1 - 0 = ls.length from rfl] at k z
    exact ⟨z, oL_k (fun y hy => k y (by rw [List.length_cons]; omega) (by omega)) q.2⟩
  | l :: ls, x + 1, q, hx, k, z => by
    have hx : x < ls.length := Nat.lt_of_succ_lt_succ hx
    rw [show (l :: ls).length - 1 - (x + 1) = ls.length - 1 - x by rw [List.length_cons]; omega] at k z
    have sl : (ls.set x l').length = ls.length := List.length_set
    have k' : ∀ j, j < 7 → pm_I r' 25 (7 * ls.length + j) = pm_I r 25 (7 * ls.length + j) := fun j hj => k _ (by rw [List.length_cons]; omega) (by omega)
    obtain ⟨⟨q1, q2, q3, q4, q5, q6, q7⟩, q8⟩ := q
    refine ⟨?_, oL_st q8 hx (fun y hy => k y (by rw [List.length_cons]; omega)) z⟩
    rw [sl]
    exact ⟨(k' 0 (by decide)).trans q1, (k' 1 (by decide)).trans q2, (k' 2 (by decide)).trans q3, (k' 3 (by decide)).trans q4, (k' 4 (by decide)).trans q5, (k' 5 (by decide)).trans q6, (k' 6 (by decide)).trans q7⟩
/-- a label changed, in the state -/
theorem xS_lab {st : List Nat} {ls : List tLb} {rs : List tRw} {z : Nat} {l' : tLb} (C : xC h0 n b mm lo hi bo co dd cap B M) (S : xS h0 M bo co Ts (.inr ((st, ls, rs), z)) r) (hx : x < ls.length) (F : xFr bo co r r') (k : ∀ a y, ¬ (a = 25 ∧ 7 * (ls.length - 1 - x) ≤ y ∧ y < 7 * (ls.length - 1 - x) + 7) → pm_I r' a y = pm_I r a y) (q : pm_I r' 25 (7 * (ls.length - 1 - x)) = Int32.ofNat l'.1 ∧ pm_I r' 25 (7 * (ls.length - 1 - x) + 1) = l'.2.1.toInt32 ∧ pm_I r' 25 (7 * (ls.length - 1 - x) + 2) = Int32.ofNat l'.2.2.1 ∧ pm_I r' 25 (7 * (ls.length - 1 - x) + 3) = iN l'.2.2.2.1 ∧ pm_I r' 25 (7 * (ls.length - 1 - x) + 4) = iN l'.2.2.2.2.1 ∧ pm_I r' 25 (7 * (ls.length - 1 - x) + 5) = kPtr l'.2.2.2.2.2.1 ∧ pm_I r' 25 (7 * (ls.length - 1 - x) + 6) = l'.2.2.2.2.2.2) (W' : wfK M (st, ls.set x l', rs)) (ty : l'.2.1 = (ls.getD x lb0).2.1) : xS h0 M bo co Ts (.inr ((st, ls.set x l', rs), 0)) r' := by
  obtain ⟨F0, V, W, eT⟩ := S
  have eT : (ls.map fun l => l.2.1) = Ts := eT
  obtain ⟨v1, v2, v3, v4, v5, v6, v7⟩ := V
  have aa := C.2.2.2.1
  have kx : ∀ a y, a ≠ 25 → pm_I r' a y = pm_I r a y := fun a y ha => k a y (fun e => ha e.1)
  refine ⟨gF_t F0 F, ⟨(kx 22 0 (by decide)).trans v1, (kx 22 6 (by decide)).trans v2, ?_, (kx bo 2 (by omega)).trans v4, oRw_k (fun y _ => kx 24 y (by decide)) v5, oL_st v6 hx (fun y _ hn => k 25 y (fun e => hn e.2)) q, fun i rr hi => ?_⟩, W', ?_⟩
  · rw [kx 22 10 (by decide), v3]
    show Int32.ofNat ls.length = Int32.ofNat (ls.set x l').length
    rw [List.length_set]
  · obtain ⟨z1, z2, z3, z4, z5⟩ := v7 i rr hi
    exact ⟨(kx co _ (by omega)).trans z1, (kx co _ (by omega)).trans z2, (kx co _ (by omega)).trans z3, (kx co _ (by omega)).trans z4, (kx co _ (by omega)).trans z5⟩
  · show ((ls.set x l').map fun l => l.2.1) = Ts
    rw [← eT, List.map_set, ty]
    apply List.ext_getElem?
    intro i
    rw [List.getElem?_set]
    split
    · next e =>
      rw [← e, if_pos (by rw [List.length_map]; exact hx), List.getElem?_map, List.getElem?_eq_getElem hx, List.getD_eq_getElem?_getD, List.getElem?_eq_getElem hx]
      rfl
    · rfl
/-- a branch's row, its link in the chain -/
theorem x_eBr (C : xC h0 n b mm lo hi bo co dd cap B M) (I : xI h0 p v hb) (S : xS h0 M bo co Ts o r) (T : vTy M) (tl : Ts.length ≤ 200) (hx : Ts[x]? = some t) (Wt : wfT M t) (rm : ∀ K z, o = .inr (K, z) → K.2.2.length < cap) : ∃ r', fX1_emitBranch r 22 op (Int32.ofNat (Ts.length - 1 - x)) = some r' ∧ xS h0 M bo co Ts (sp_b o fun K _ => .inr (kBr M op hb x K, 0)) r' := by
  have Cr := xS_C C S
  have k1 := Cr.2.2.1.1.1
  have xl := some_lt hx
  obtain ⟨s, g, P, e1, e2, ea, e3, e4, ga⟩ := x_lab C S T tl hx Wt
  obtain ⟨j, ej⟩ : ∃ j : Nat, j = if g = true then 6 else 5 := ⟨_, rfl⟩
  have j7 : j < 7 := by rw [ej]; split <;> decide
  have f2 := lb_v Cr (k := Ts.length - 1 - x) (j := 2) (by omega) (by decide)
  have fj := lb_v Cr (k := Ts.length - 1 - x) (j := j) (by omega) j7
  obtain ⟨u, r1, e7, S1, eu⟩ := x_emt (op := op) (a1 := pm_I r 25 (7 * (Ts.length - 1 - x) + j)) (a2 := Int32.ofNat (if g = true then btP M t else btR M t).length) (a3 := pm_I r 25 (7 * (Ts.length - 1 - x) + 2)) C I S (by omega) tl rm
  have C1 := xS_C C S1
  have hd : ∀ {Y : Option pm_H}, (if iN g = 0 then (if u < 0 then some r1 else (if pm_kd r1 22 = 1 then (fX1_setLabel r1 22 (Int32.ofNat (Ts.length - 1 - x)) 5 u).bind fun v21 => some v21 else none)) else some r1) = Y → fX1_emitBranch r 22 op (Int32.ofNat (Ts.length - 1 - x)) = Y := fun {Y} h => by
    unfold fX1_emitBranch fX1_emitBranch_b0 fX1_emitBranch_b18 fX1_emitBranch_b32
    refine e9_t k1 (e9_b e2 ?_)
    cases g with
    | true => rw [ej] at fj e7; exact e9_f (by decide) (e9_t k1 (e9_b fj (e9_t k1 (e9_b e3 (e9_t k1 (e9_b f2 (e9_t k1 (e9_b e7 h))))))))
    | false => rw [ej] at fj e7; exact e9_t rfl (e9_t k1 (e9_b fj (e9_t k1 (e9_b e3 (e9_t k1 (e9_b f2 (e9_t k1 (e9_b e7 h))))))))
  cases o with
  | inl fq =>
    obtain ⟨ff, q⟩ := fq
    have S1 : xS h0 M bo co Ts (.inl (ff, q)) r1 := S1
    obtain ⟨e8, S2⟩ := sl_d (y := u) C S1 (k := Ts.length - 1 - x) (j := 5) (by omega) (by decide) (by decide)
    by_cases c : iN g = 0
    · by_cases d : u < 0
      · exact ⟨r1, hd (e9_t c (e9_t d rfl)), S1⟩
      · exact ⟨_, hd (e9_t c (e9_f d (e9_t C1.2.2.1.1.1 (e9_b e8 rfl)))), S2⟩
    · exact ⟨r1, hd (e9_f c rfl), S1⟩
  | inr y =>
    obtain ⟨⟨st, ls, rs⟩, z⟩ := y
    rw [sp_br] at S1 ⊢
    have rl : rs.length < cap := rm _ _ rfl
    have cl : cap ≤ 40960 := Cr.2.2.1.2.2.2.2.2.2.2.2.2.2.2.2.2.2
    have g1 : g = decide ((ls.getD x lb0).1 = 3) := ga _ _ rfl
    have wa : lbW M (ls.getD x lb0) = _ := ea _ _ rfl
    have eu : u = if kAl (st, ls, rs) = true then Int32.ofNat rs.length else -1 := eu _ _ rfl
    have V : xK r bo co (st, ls, rs) := S.2.1
    have W : wfK M (st, ls, rs) := S.2.2.1
    have eT : (ls.map fun l => l.2.1) = Ts := S.2.2.2
    have kl : ls.length = Ts.length := by rw [← eT, List.length_map]
    have xl' : x < ls.length := by omega
    obtain ⟨l1, l2, l3, l4, l5, l6, l7⟩ := oL_x V.2.2.2.2.2.1 (show x < (st, ls, rs).2.1.length from xl')
    rw [show (st, ls, rs).2.1.length = Ts.length from kl] at l1 l2 l3 l4 l5 l6 l7
    by_cases c : kAl (st, ls, rs) = true
    · rw [if_pos c] at eu
      have kE : kEm (st, ls, rs) op (pm_I r 25 (7 * (Ts.length - 1 - x) + j)) (Int32.ofNat (if g = true then btP M t else btR M t).length) (pm_I r 25 (7 * (Ts.length - 1 - x) + 2)) hb = (st, ls, rs ++ [(op, (if (ls.getD x lb0).1 = 3 then (ls.getD x lb0).2.2.2.2.2.2 else kPtr (ls.getD x lb0).2.2.2.2.2.1), Int32.ofNat (lbW M (ls.getD x lb0)).length, Int32.ofNat (ls.getD x lb0).2.2.1, hb)]) := by
        unfold kEm
        rw [if_pos c, wa, l3]
        have ee : pm_I r 25 (7 * (Ts.length - 1 - x) + j) = if (ls.getD x lb0).1 = 3 then (ls.getD x lb0).2.2.2.2.2.2 else kPtr (ls.getD x lb0).2.2.2.2.2.1 := by
          by_cases d : (ls.getD x lb0).1 = 3
          · rw [if_pos d, ej, g1, if_pos (decide_eq_true d)]; exact l7
          · rw [if_neg d, ej, g1, if_neg (by rw [decide_eq_false d]; decide)]; exact l6
        rw [ee]
      have kB' : kBr M op hb x (st, ls, rs) = (st, (if (ls.getD x lb0).1 = 3 then ls else ls.set x ((ls.getD x lb0).1, (ls.getD x lb0).2.1, (ls.getD x lb0).2.2.1, (ls.getD x lb0).2.2.2.1, (ls.getD x lb0).2.2.2.2.1, rs.length :: (ls.getD x lb0).2.2.2.2.2.1, (ls.getD x lb0).2.2.2.2.2.2)), rs ++ [(op, (if (ls.getD x lb0).1 = 3 then (ls.getD x lb0).2.2.2.2.2.2 else kPtr (ls.getD x lb0).2.2.2.2.2.1), Int32.ofNat (lbW M (ls.getD x lb0)).length, Int32.ofNat (ls.getD x lb0).2.2.1, hb)]) := by
        unfold kBr
        rw [if_pos c]
      rw [kE] at S1
      rw [kB']
      have W2 := kBr_w (op := op) (hb := hb) (x := x) W
      rw [kB'] at W2
      cases g with
      | true =>
        have d : (ls.getD x lb0).1 = 3 := of_decide_eq_true g1.symm
        rw [if_pos d] at W2 ⊢
        rw [if_pos d] at S1 W2 ⊢
        exact ⟨r1, hd (e9_f (by decide) rfl), S1⟩
      | false =>
        have d : ¬ (ls.getD x lb0).1 = 3 := of_decide_eq_false g1.symm
        rw [if_neg d] at W2 ⊢
        rw [if_neg d] at S1 W2 ⊢
        have V1 := S1.2.1
        obtain ⟨m1, m2, m3, m4, m5, m6, m7⟩ := oL_x V1.2.2.2.2.2.1 (show x < ls.length from xl')
        obtain ⟨r2, er⟩ : ∃ z, z = pm_setI r1 25 (7 * (ls.length - 1 - x) + 5) u := ⟨_, rfl⟩
        have kk : ∀ a y, ¬ (a = 25 ∧ y = 7 * (ls.length - 1 - x) + 5) → pm_I r2 a y = pm_I r1 a y := fun a y hn => by
          rw [er, ev_II]
          by_cases q1 : a = 25
          · rw [if_pos q1, if_neg (fun q2 => hn ⟨q1, q2⟩)]
          · rw [if_neg q1]
        refine ⟨r2, hd (e9_t rfl (e9_f (by rw [eu, n3_0, nn_lt (by omega) (by decide)]; omega) (e9_t C1.2.2.1.1.1 (e9_b ?_ rfl)))), xS_lab C S1 xl' (by rw [er]; exact gF_I r1 _ (.inr (.inr (.inr (.inl rfl))))) (fun a y hn => kk a y (by omega)) ⟨(kk _ _ (by omega)).trans m1, (kk _ _ (by omega)).trans m2, (kk _ _ (by omega)).trans m3, (kk _ _ (by omega)).trans m4, (kk _ _ (by omega)).trans m5, ?_, (kk _ _ (by omega)).trans m7⟩ W2 rfl⟩
        · rw [er, kl]
          exact sl_v C1 (by omega) (j := 5) (by decide)
        · rw [er, ev_II, if_pos rfl, if_pos rfl, eu]
          rfl
    · rw [if_neg c] at eu
      have kE : ∀ a1 a2 a3, kEm (st, ls, rs) op a1 a2 a3 hb = (st, ls, rs) := fun a1 a2 a3 => by unfold kEm; rw [if_neg c]
      have kB' : kBr M op hb x (st, ls, rs) = (st, ls, rs) := by unfold kBr; rw [if_neg c]
      rw [kE] at S1
      rw [kB']
      cases g with
      | true => exact ⟨r1, hd (e9_f (by decide) rfl), S1⟩
      | false => exact ⟨r1, hd (e9_t rfl (e9_t (by rw [eu]; decide) rfl)), S1⟩
/-- aiming a row -/
theorem xS_aim {st : List Nat} {ls : List tLb} {rs : List tRw} {z i : Nat} {y : Int32} (C : xC h0 n b mm lo hi bo co dd cap B M) (S : xS h0 M bo co Ts (.inr ((st, ls, rs), z)) r) (hi' : i < rs.length) (hr : rs.length ≤ cap) : ∃ r', fX0_aim r bo (Int32.ofNat i) y = some r' ∧ xS h0 M bo co Ts (.inr ((st, ls, rwAim rs i y), 0)) r' := by
  have Cr := xS_C C S
  obtain ⟨-, -, ⟨-, -, -, -, -, -, -, -, -, ⟨u1, u2, u3, u4, u5, u6⟩⟩, aa, -⟩ := id Cr
  obtain ⟨F0, V, W, eT⟩ := S
  obtain ⟨v1, v2, v3, v4, v5, v6, v7⟩ := V
  obtain ⟨r1, er⟩ : ∃ z, z = pm_setI r co (5 * i + 1) y := ⟨_, rfl⟩
  have nz : bo ≠ co := fun z => by rw [z, u4] at u2; exact absurd u2 (by decide)
  have kk : ∀ a c, ¬ (a = co ∧ c = 5 * i + 1) → pm_I r1 a c = pm_I r a c := fun a c hn => by
    rw [er, ev_II]
    by_cases q1 : a = co
    · rw [if_pos q1, if_neg (fun q2 => hn ⟨q1, q2⟩)]
    · rw [if_neg q1]
  have rl : (rwAim rs i y).length = rs.length := List.length_set
  refine ⟨r1, ?_, gF_t F0 (by rw [er]; exact gF_I r _ (.inr (.inr (.inr (.inr (.inr (.inr rfl))))))), ⟨(kk _ _ (by omega)).trans v1, (kk _ _ (by omega)).trans v2, (kk _ _ (by omega)).trans v3, ?_, oRw_k (fun y _ => kk _ _ (by omega)) v5, oL_k (fun y _ => kk _ _ (by omega)) v6, fun k rr hk => ?_⟩, W, eT⟩
  · unfold fX0_aim
    refine e9_t u2 (e9_b u3 ?_)
    rw [show Int32.ofNat i * 5 + 1 = Int32.ofNat (5 * i + 1) by rw [show (5 : Int32) = Int32.ofNat 5 from rfl, show (1 : Int32) = Int32.ofNat 1 from rfl, nn_ml, nn_ad, Nat.mul_comm]]
    rw [er]
    exact e9_b (st_v u4 (by omega) (by omega)) rfl
  · rw [kk _ _ (by omega), v4]
    show Int32.ofNat rs.length = Int32.ofNat (rwAim rs i y).length
    rw [rl]
  · have hk : (rwAim rs i y)[k]? = some rr := hk
    unfold rwAim at hk
    rw [List.getElem?_set] at hk
    by_cases c : i = k
    · rw [if_pos c, if_pos (by omega)] at hk
      cases hk
      rw [← c]
      have gi : rs[i]? = some (rs.getD i rw0) := by rw [List.getD_eq_getElem?_getD, List.getElem?_eq_getElem hi']; rfl
      obtain ⟨z1, z2, z3, z4, z5⟩ := v7 i _ gi
      exact ⟨(kk _ _ (by omega)).trans z1, by rw [er, ev_II, if_pos rfl, if_pos rfl], (kk _ _ (by omega)).trans z3, (kk _ _ (by omega)).trans z4, (kk _ _ (by omega)).trans z5⟩
    · rw [if_neg c] at hk
      obtain ⟨z1, z2, z3, z4, z5⟩ := v7 k rr hk
      exact ⟨(kk _ _ (by omega)).trans z1, (kk _ _ (by omega)).trans z2, (kk _ _ (by omega)).trans z3, (kk _ _ (by omega)).trans z4, (kk _ _ (by omega)).trans z5⟩
theorem aim_d {q : Nat} {i y : Int32} (C : xC h0 n b mm lo hi bo co dd cap B M) (S : xS h0 M bo co Ts (.inl (f, q)) r) : ∃ r', fX0_aim r bo i y = some r' ∧ xS h0 M bo co Ts (.inl (f, q)) r' := by
  have Cr := xS_C C S
  obtain ⟨-, -, ⟨-, -, -, -, -, -, -, -, -, ⟨u1, u2, u3, u4, u5, u6⟩⟩, aa, -⟩ := id Cr
  obtain ⟨r1, e1, z1⟩ := st_n (h := r) (i := i * 5 + 1) (y := y) u4 (by omega)
  refine ⟨r1, by unfold fX0_aim; exact e9_t u2 (e9_b u3 (e9_b e1 rfl)), ?_⟩
  rcases z1 with z | ⟨k, hk, z⟩
  · rw [z]; exact S
  · rw [z]; exact xS_set S (.inr (.inr (.inr (.inr (.inr (.inr rfl)))))) (by omega) (by omega)
/-- where the row of an if shall go -/
theorem x_aiC (C : xC h0 n b mm lo hi bo co dd cap B M) (S : xS h0 M bo co Ts o r) (hl : 0 < Ts.length) (tl : Ts.length ≤ 200) (rc : ∀ K z, o = .inr (K, z) → K.2.2.length ≤ cap ∧ ((kTop K).1 = 4 → 0 ≤ (kTop K).2.2.2.2.2.2 → (kTop K).2.2.2.2.2.2.toNatClampNeg < K.2.2.length)) : ∃ r', fX1_aimCondition r 22 (Int32.ofNat (Ts.length - 1)) = some r' ∧ xS h0 M bo co Ts (sp_b o fun K _ => .inr (kAimC K, 0)) r' := by
  have Cr := xS_C C S
  have k1 := Cr.2.2.1.1.1
  have u := Cr.2.2.1.2.2.2.2.2.2.2.2.2
  have e6 := lb_v Cr (k := Ts.length - 1) (j := 6) (by omega) (by decide)
  have e0 := lb_v Cr (k := Ts.length - 1) (j := 0) (by omega) (by decide)
  cases o with
  | inl fq =>
    obtain ⟨ff, q⟩ := fq
    by_cases c : pm_I r 25 (7 * (Ts.length - 1) + 0) = 4
    · by_cases d : pm_I r 25 (7 * (Ts.length - 1) + 6) < 0
      · exact ⟨r, by unfold fX1_aimCondition; exact e9_t k1 (e9_b e6 (e9_b e0 (e9_t c (e9_t d rfl)))), S⟩
      · obtain ⟨r1, e1, S1⟩ := aim_d (i := pm_I r 25 (7 * (Ts.length - 1) + 6)) (y := pm_I r bo 2) C S
        exact ⟨r1, by unfold fX1_aimCondition; exact e9_t k1 (e9_b e6 (e9_b e0 (e9_t c (e9_f d (e9_b u.1 (e9_t u.2.1 (e9_b e1 rfl))))))), S1⟩
    · exact ⟨r, by unfold fX1_aimCondition; exact e9_t k1 (e9_b e6 (e9_b e0 (e9_f c rfl))), S⟩
  | inr y =>
    obtain ⟨⟨st, ls, rs⟩, z⟩ := y
    rw [sp_br]
    obtain ⟨r1, r2⟩ := rc _ _ rfl
    have r1 : rs.length ≤ cap := r1
    have V : xK r bo co (st, ls, rs) := S.2.1
    have W : wfK M (st, ls, rs) := S.2.2.1
    have eT : (ls.map fun l => l.2.1) = Ts := S.2.2.2
    have kl : ls.length = Ts.length := by rw [← eT, List.length_map]
    obtain ⟨l1, -, -, -, -, -, l7⟩ := oL_x V.2.2.2.2.2.1 (show 0 < (st, ls, rs).2.1.length by show 0 < ls.length; omega)
    rw [← kTop_g, show (st, ls, rs).2.1.length = Ts.length from kl, Nat.sub_zero] at l1 l7
    have w5 : (kTop (st, ls, rs)).1 ≤ 5 := by
      rw [kTop_g]
      exact (W.2.1 _ (getD_mem (show 0 < ls.length by omega))).2
    have i2 : pm_I r bo 2 = Int32.ofNat rs.length := V.2.2.2.1
    rw [Nat.add_zero, l1] at e0
    rw [l7] at e6
    unfold kAimC
    by_cases c : (kTop (st, ls, rs)).1 = 4
    · by_cases d : (kTop (st, ls, rs)).2.2.2.2.2.2 < 0
      · rw [if_neg (fun q => Int32.not_le.mpr d q.2)]
        exact ⟨r, by unfold fX1_aimCondition; exact e9_t k1 (e9_b e6 (e9_b e0 (e9_t (by rw [c]; rfl) (e9_t d rfl)))), S⟩
      · have d0 : 0 ≤ (kTop (st, ls, rs)).2.2.2.2.2.2 := Int32.not_lt.mp d
        rw [if_pos ⟨c, d0⟩]
        have r2 := r2 c d0
        have ei : (kTop (st, ls, rs)).2.2.2.2.2.2 = Int32.ofNat (kTop (st, ls, rs)).2.2.2.2.2.2.toNatClampNeg := (Int32.ofNat_toNatClampNeg _ d0).symm
        obtain ⟨r3, e3, S3⟩ := xS_aim (y := Int32.ofNat rs.length) C S r2 r1
        refine ⟨r3, ?_, S3⟩
        unfold fX1_aimCondition
        refine e9_t k1 (e9_b e6 (e9_b e0 (e9_t (by rw [c]; rfl) (e9_f d (e9_b u.1 (e9_t u.2.1 (e9_b ?_ rfl)))))))
        rw [i2]
        exact (congrArg (fun a => fX0_aim r bo a (Int32.ofNat rs.length)) ei).trans e3
    · rw [if_neg (fun q => c q.1)]
      exact ⟨r, by unfold fX1_aimCondition; exact e9_t k1 (e9_b e6 (e9_b e0 (e9_f (by rw [show (4 : Int32) = Int32.ofNat 4 from rfl, nn_eq (by omega) (by decide)]; exact c) rfl))), S⟩
end XBR
