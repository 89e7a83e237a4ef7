/-! THE CLASS CHECKS: the start of a block -/
section XBLK
variable {h0 r r' : pm_H} {n b mm lo hi bo co dd cap : Nat} {B : Nat → Nat} {M : tMd} {Ts : List Int64} {o : sp_O tK} {p w s f x z : Nat} {v : sp_I} {hb op y : Int32} {K : tK} {t : Int64} {g : Bool}
theorem x_opn {op : Nat} {st : List Nat} {ls : List tLb} {rs : List tRw} (C : xC h0 n b mm lo hi bo co dd cap B M) (S : xS h0 M bo co Ts (.inr ((st, ls, rs), z)) r) (h2 : ls.length < 200) (ho : op ≤ 5) (Wt : wfT M t) : ∃ r', fX1_openLabel r 22 (Int32.ofNat op) t.toInt32 (iN g) y = some r' ∧ xS h0 M bo co (t :: Ts) (.inr ((st, (op, t, st.length, false, g, [], y) :: ls, rs), 0)) r' := by
  have Cr := xS_C C S
  obtain ⟨F0, V, W, eT⟩ := S
  have eT : (ls.map fun l => l.2.1) = Ts := eT
  obtain ⟨v1, v2, v3, v4, v5, v6, v7⟩ := V
  have v2 : pm_I r 22 6 = Int32.ofNat st.length := v2
  have v3 : pm_I r 22 10 = Int32.ofNat ls.length := v3
  have aa := C.2.2.2.1
  have fi : ∀ {X : pm_H} (j : Nat) (y : Int32), xFr bo co X (pm_setI X 25 j y) := fun j y => gF_I _ y (.inr (.inr (.inr (.inl rfl))))
  obtain ⟨r0, e0⟩ : ∃ z, z = pm_setI r 22 10 (Int32.ofNat (ls.length + 1)) := ⟨_, rfl⟩
  obtain ⟨r1, e1⟩ : ∃ z, z = pm_setI r0 25 (7 * ls.length + 0) (Int32.ofNat op) := ⟨_, rfl⟩
  obtain ⟨r2, e2⟩ : ∃ z, z = pm_setI r1 25 (7 * ls.length + 1) t.toInt32 := ⟨_, rfl⟩
  obtain ⟨r3, e3⟩ : ∃ z, z = pm_setI r2 25 (7 * ls.length + 2) (Int32.ofNat st.length) := ⟨_, rfl⟩
  obtain ⟨r4, e4⟩ : ∃ z, z = pm_setI r3 25 (7 * ls.length + 3) 0 := ⟨_, rfl⟩
  obtain ⟨r5, e5⟩ : ∃ z, z = pm_setI r4 25 (7 * ls.length + 4) (iN g) := ⟨_, rfl⟩
  obtain ⟨r6, e6⟩ : ∃ z, z = pm_setI r5 25 (7 * ls.length + 5) (-1) := ⟨_, rfl⟩
  obtain ⟨r7, e7⟩ : ∃ z, z = pm_setI r6 25 (7 * ls.length + 6) y := ⟨_, rfl⟩
  have F1 : xFr bo co r r0 := by rw [e0]; exact gF_I r _ (.inr (.inl ⟨rfl, by omega⟩))
  have C0 := xC_F Cr F1
  have C1 : xC r1 n b mm lo hi bo co dd cap B M := by rw [e1]; exact xC_F C0 (fi _ _)
  have C2 : xC r2 n b mm lo hi bo co dd cap B M := by rw [e2]; exact xC_F C1 (fi _ _)
  have C3 : xC r3 n b mm lo hi bo co dd cap B M := by rw [e3]; exact xC_F C2 (fi _ _)
  have C4 : xC r4 n b mm lo hi bo co dd cap B M := by rw [e4]; exact xC_F C3 (fi _ _)
  have C5 : xC r5 n b mm lo hi bo co dd cap B M := by rw [e5]; exact xC_F C4 (fi _ _)
  have C6 : xC r6 n b mm lo hi bo co dd cap B M := by rw [e6]; exact xC_F C5 (fi _ _)
  have F7 : xFr bo co r r7 := by
    rw [e7, e6, e5, e4, e3, e2, e1]
    exact gF_t F1 (gF_t (gF_t (gF_t (gF_t (gF_t (gF_t (fi _ _) (fi _ _)) (fi _ _)) (fi _ _)) (fi _ _)) (fi _ _)) (fi _ _))
  have kx : ∀ a c, a ≠ 25 → a ≠ 22 → pm_I r7 a c = pm_I r a c := fun a c h1 h3 => by rw [e7, ev_II, if_neg h1, e6, ev_II, if_neg h1, e5, ev_II, if_neg h1, e4, ev_II, if_neg h1, e3, ev_II, if_neg h1, e2, ev_II, if_neg h1, e1, ev_II, if_neg h1, e0, ev_II, if_neg h3]
  have kz : ∀ c, pm_I r7 22 c = if c = 10 then Int32.ofNat (ls.length + 1) else pm_I r 22 c := fun c => by
    have h1 : ¬ 22 = 25 := by decide
    rw [e7, ev_II, if_neg h1, e6, ev_II, if_neg h1, e5, ev_II, if_neg h1, e4, ev_II, if_neg h1, e3, ev_II, if_neg h1, e2, ev_II, if_neg h1, e1, ev_II, if_neg h1, e0, ev_II, if_pos rfl]
  have k5 : ∀ c, pm_I r7 25 c = if c = 7 * ls.length + 6 then y else if c = 7 * ls.length + 5 then -1 else if c = 7 * ls.length + 4 then iN g else if c = 7 * ls.length + 3 then 0 else if c = 7 * ls.length + 2 then Int32.ofNat st.length else if c = 7 * ls.length + 1 then t.toInt32 else if c = 7 * ls.length + 0 then Int32.ofNat op else pm_I r 25 c := fun c => by
    rw [e7, ev_II, if_pos rfl, e6, ev_II, if_pos rfl, e5, ev_II, if_pos rfl, e4, ev_II, if_pos rfl, e3, ev_II, if_pos rfl, e2, ev_II, if_pos rfl, e1, ev_II, if_pos rfl, e0, ev_II, if_neg (show ¬ (25 : Nat) = 22 by decide)]
  refine ⟨r7, ?_, gF_t F0 F7, ⟨(kz 0).trans v1, (kz 6).trans v2, kz 10, (kx _ _ (by omega) (by omega)).trans v4, oRw_k (fun y _ => kx 24 y (by decide) (by decide)) v5, ⟨?_, oL_k (fun c hc => ?_) v6⟩, fun i rr hi => ?_⟩, ?_, ?_⟩
  · unfold fX1_openLabel
    refine e9_t Cr.2.2.1.1.1 (e9_l (e9_l ?_))
    rw [v3, show Int32.ofNat ls.length + 1 = Int32.ofNat (ls.length + 1) from nn_ad _ 1, ← e0]
    refine e9_b (show fX1_setLabel r0 22 (Int32.ofNat ls.length) 0 (Int32.ofNat op) = some r1 by rw [e1]; exact sl_v C0 (by omega) (j := 0) (by decide)) (e9_t C1.2.2.1.1.1 (e9_b (show fX1_setLabel r1 22 (Int32.ofNat ls.length) 1 t.toInt32 = some r2 by rw [e2]; exact sl_v C1 (by omega) (j := 1) (by decide)) (e9_t C2.2.2.1.1.1 ?_)))
    rw [show pm_I r2 22 6 = Int32.ofNat st.length by rw [e2, ev_II, if_neg (by decide), e1, ev_II, if_neg (by decide), e0, ev_II, if_pos rfl, if_neg (by decide)]; exact v2]
    refine e9_b (show fX1_setLabel r2 22 (Int32.ofNat ls.length) 2 (Int32.ofNat st.length) = some r3 by rw [e3]; exact sl_v C2 (by omega) (j := 2) (by decide)) (e9_t C3.2.2.1.1.1 (e9_b (show fX1_setLabel r3 22 (Int32.ofNat ls.length) 3 0 = some r4 by rw [e4]; exact sl_v C3 (by omega) (j := 3) (by decide)) ?_))
    have s5 : fX1_setLabel r4 22 (Int32.ofNat ls.length) 4 (iN g) = some r5 := by rw [e5]; exact sl_v C4 (by omega) (j := 4) (by decide)
    have s6 : fX1_setLabel r5 22 (Int32.ofNat ls.length) 5 (-1) = some r6 := by rw [e6]; exact sl_v C5 (by omega) (j := 5) (by decide)
    have s7 : fX1_setLabel r6 22 (Int32.ofNat ls.length) 6 y = some r7 := by rw [e7]; exact sl_v C6 (by omega) (j := 6) (by decide)
    cases g with
    | false => exact e9_t rfl (e9_t C4.2.2.1.1.1 (e9_b s5 (e9_t C5.2.2.1.1.1 (e9_b s6 (e9_t C6.2.2.1.1.1 (e9_b s7 rfl))))))
    | true => exact e9_f (by decide) (e9_t C4.2.2.1.1.1 (e9_b s5 (e9_t C5.2.2.1.1.1 (e9_b s6 (e9_t C6.2.2.1.1.1 (e9_b s7 rfl))))))
  · refine ⟨?_, ?_, ?_, ?_, ?_, ?_, ?_⟩
    · rw [k5, if_neg (by omega), if_neg (by omega), if_neg (by omega), if_neg (by omega), if_neg (by omega), if_neg (by omega), if_pos (Nat.add_zero _).symm]
    · rw [k5, if_neg (by omega), if_neg (by omega), if_neg (by omega), if_neg (by omega), if_neg (by omega), if_pos rfl]
    · rw [k5, if_neg (by omega), if_neg (by omega), if_neg (by omega), if_neg (by omega), if_pos rfl]
    · rw [k5, if_neg (by omega), if_neg (by omega), if_neg (by omega), if_pos rfl]; rfl
    · rw [k5, if_neg (by omega), if_neg (by omega), if_pos rfl]
    · rw [k5, if_neg (by omega), if_pos rfl]; rfl
    · rw [k5, if_pos rfl]
  · have hc : c < 7 * ls.length := hc
    rw [k5, if_neg (by omega), if_neg (by omega), if_neg (by omega), if_neg (by omega), if_neg (by omega), if_neg (by omega), if_neg (by omega)]
  · obtain ⟨z1, z2, z3, z4, z5⟩ := v7 i rr hi
    have nc : co ≠ 25 ∧ co ≠ 22 := by omega
    exact ⟨(kx co _ nc.1 nc.2).trans z1, (kx co _ nc.1 nc.2).trans z2, (kx co _ nc.1 nc.2).trans z3, (kx co _ nc.1 nc.2).trans z4, (kx co _ nc.1 nc.2).trans z5⟩
  · obtain ⟨w1, w2, w3, w4, w5⟩ := W
    exact ⟨⟨Nat.le_refl _, w1⟩, fun k hk => by
      rcases List.mem_cons.mp hk with z | z
      · rw [z]; exact ⟨Wt, ho⟩
      · exact w2 k z, w3, w4, h2⟩
  · show t :: (ls.map fun l => l.2.1) = t :: Ts
    rw [eT]
theorem c_neg6 : ∀ c : Fin 256, (c.val = 64 ∨ sp_isT c.val = true) → Int64.ofInt ((c.val : Int) - 128) < 0 := by decide +kernel
/-- block, loop and if -/
theorem x_blk (C : xC h0 n b mm lo hi bo co dd cap B M) (I : xI h0 p v hb) (S : xS h0 M bo co Ts (.inr (K, z)) r) (T : vTy M) (hl : 0 < K.2.1.length) (eh : hb = Int32.ofNat K.1.length) (rm : K.2.2.length < cap) (ho : v.1 ≤ 4) (hq : 0 ≤ v.2.1 ∨ ∃ c : Nat, (c = 64 ∨ isT c) ∧ v.2.1 = Int64.ofInt ((c : Int) - 128)) : ∃ r', fX1_beginBlock r 22 = some r' ∧ xE h0 M bo co (kBlk M p v.1 v.2.1 K) r' := by
  obtain ⟨W, kl, tl, tp, hx, -⟩ := xS_a S hl
  have T1 := T.1
  have Cr := xS_C C S
  have Ir := xS_I C I S
  obtain ⟨xx, x1, x2, x3, x4, x5, x6, x7⟩ := Cr.2.1.1 (by decide)
  have kd7 := Cr.1.2.2.1
  have w := Cr.2.2.1.2.2.2.2.2.2.2.1
  have q2 := Cr.2.2.1.1
  obtain ⟨t, et⟩ : ∃ t, t = v.2.1 := ⟨_, rfl⟩
  rw [← et] at hq ⊢
  by_cases hn : 0 ≤ t ∧ M.1.length ≤ t.toNatClampNeg
  · obtain ⟨r1, e1, S1⟩ := x_fail (w := 30) C I S ⟨by decide, by decide⟩
    refine ⟨r1, ?_, Ts, xS_e ?_ S1⟩
    · unfold fX1_beginBlock fX1_beginBlock_b0
      refine e9_t q2.1 (e9_b q2.2.2 (e9_t Cr.1.1 (e9_b q2.2.1 (e9_t kd7 (e9_b x1 (e9_t x4 (e9_f ?_ (e9_b e1 rfl))))))))
      rw [Ir.2.2.1, ← et, x5, nn_t6 (by omega), ← i64_nn hn.1, ll_lt (Int64.toNatClampNeg_lt _) (by omega)]
      omega
    · unfold kBlk
      rw [if_pos hn]
      rfl
  have Wt : wfT M t := by
    rcases hq with z | z
    · exact .inl ⟨z, Nat.not_le.mp (fun y => hn ⟨z, y⟩)⟩
    · exact .inr z
  have BW := bt_w T Wt
  have lt : t < Int64.ofNat M.1.length := by
    rcases Wt with ⟨h1, h2⟩ | ⟨c, hc, e⟩
    · rw [← i64_nn h1, ll_lt (by omega) (by omega)]; exact h2
    · have c8 : c < 256 := by
        rcases hc with z | z
        · omega
        · have := isT_lt z; omega
      rw [e]
      exact Int64.lt_of_lt_of_le (c_neg6 ⟨c, c8⟩ hc) (by rw [show (0 : Int64) = Int64.ofNat 0 from rfl, ll_le (by decide) (by omega)]; omega)
  obtain ⟨s, P, hd⟩ : ∃ s, shP r lo hi s (btP M t) (btR M t) ∧ ∀ {Y : Option pm_H}, fX1_beginBlock_b65 r 22 t.toInt32 s = Y → fX1_beginBlock r 22 = Y := by
    have pre : ∀ {Y : Option pm_H}, (if t.toInt32 < 0 then ((pm_R r 22 16).bind fun v15 => pm_let (128 + t.toInt32) fun y17 => pm_let (if (0 : Int32) < y17 then y17 else (0 : Int32)) fun y19 => if pm_kd r v15 = 36 then if pm_in y19 (pm_ln r v15) then (pm_R r v15 y19.toNatClampNeg).bind fun v23 => fX1_beginBlock_b65 r 22 t.toInt32 v23 else none else none) else ((fX7_shape r mm t.toInt32).bind fun v25 => fX1_beginBlock_b48 v25.2 22 t.toInt32 v25.1)) = Y → fX1_beginBlock r 22 = Y := fun {Y} h => by
      unfold fX1_beginBlock fX1_beginBlock_b0
      refine e9_t q2.1 (e9_b q2.2.2 (e9_t Cr.1.1 (e9_b q2.2.1 (e9_t kd7 (e9_b x1 (e9_t x4 ?_))))))
      rw [Ir.2.2.1, ← et]
      exact e9_t (by rw [x5, nn_t6 (by omega)]; exact lt) (e9_l h)
    rcases sh_typ Cr T Wt with ⟨t0, i, i1, i2, s, e2, P⟩ | ⟨n1, n2, c, s, c8, n3, e2, P⟩
    · refine ⟨s, P, fun {Y} h => pre (e9_f (by rw [i2, n3_0, nn_lt (by omega) (by decide)]; omega) (e9_b (v := (s, r)) (by rw [i2]; exact e2) (show fX1_beginBlock_b48 r 22 t.toInt32 s = Y from h)))⟩
    · refine ⟨s, P, fun {Y} h => pre (e9_t n1 (e9_b w.1 (e9_l (e9_l (e9_t w.2.1 ?_)))))⟩
      have mx : (if (0 : Int32) < 128 + t.toInt32 then 128 + t.toInt32 else (0 : Int32)) = Int32.ofNat c := by
        rw [n3]
        by_cases c0 : c = 0
        · rw [c0]; rfl
        · rw [if_pos (by rw [n3_0, nn_lt (by decide) (by omega)]; omega)]
      rw [mx]
      refine e9_t (by rw [w.2.2.1, nn_in (by omega)]; exact c8) ?_
      rw [nn_cm (by omega)]
      exact e9_b e2 h
  have P0 := shP_B C S.1 P
  -- what the if takes
  obtain ⟨r1, h1, S1⟩ : ∃ r1, (∀ {Y : Option pm_H}, fX1_beginBlock_b84 r1 22 t.toInt32 s = Y → fX1_beginBlock r 22 = Y) ∧ xS h0 M bo co Ts (kTk p (if v.1 = 4 then 127 else 0) K) r1 := by
    by_cases c : v.1 = 4
    · rw [if_pos c]
      obtain ⟨u, r1, e1, S1, -⟩ := x_take (w := 127) C I S tp (.inr isT_127)
      refine ⟨r1, fun {Y} h => hd ?_, S1⟩
      unfold fX1_beginBlock_b65
      exact e9_t q2.1 (e9_b q2.2.2 (e9_t Cr.1.1 (e9_t (by rw [Ir.1, c]; rfl) (e9_b e1 h))))
    · rw [if_neg c]
      refine ⟨r, fun {Y} h => hd ?_, S⟩
      unfold fX1_beginBlock_b65
      exact e9_t q2.1 (e9_b q2.2.2 (e9_t Cr.1.1 (e9_f (by rw [Ir.1, show (4 : Int32) = Int32.ofNat 4 from rfl, nn_eq (by omega) (by decide)]; exact c) h)))
  obtain ⟨o1, eo1⟩ : ∃ o1, o1 = kTk p (if v.1 = 4 then 127 else 0) K := ⟨_, rfl⟩
  rw [← eo1] at S1
  obtain ⟨r2, e2, S2⟩ := x_tkP C I tp P0 BW.1 BW.2.2.1 S1
  obtain ⟨o2, eo2⟩ : ∃ o2, o2 = sp_b o1 fun K _ => kTakeL p (btP M t) K := ⟨_, rfl⟩
  rw [← eo2] at S2
  have C2 := xS_C C S2
  have l2 : ∀ K2 z2, o2 = .inr (K2, z2) → wfK M K2 ∧ K2.2 = K.2 := fun K2 z2 e => by
    rw [eo2, eo1] at e
    obtain ⟨K1, z1, e1, e2⟩ := b_inv e
    have a1 : wfK M K1 ∧ K1.2 = K.2 := by
      unfold kTk at e1
      by_cases c0 : (if v.1 = 4 then 127 else 0) = 0
      · rw [if_pos c0] at e1; cases e1; exact ⟨W, rfl⟩
      · rw [if_neg c0] at e1
        obtain ⟨y, z3, e3, e4⟩ := b_inv e1
        cases e4
        have := kTake_w W e3
        exact ⟨this.1, this.2.1⟩
    have a2 := kTakeN_w a1.1 e2
    exact ⟨a2.1, a2.2.1.trans a1.2⟩
  have kb : kBlk M p v.1 t K = sp_b o2 fun K2 _ => if 200 ≤ K2.2.1.length then .inl (40, p) else kPutL p (btP M t) (K2.1, (v.1, t, K2.1.length, false, kAl K2, [], (if v.1 = 4 then (if kAl K2 = true then Int32.ofNat K2.2.2.length else -1) else Int32.ofNat K2.2.2.length)) :: K2.2.1, (if v.1 = 4 then (kEm K2 4 (-1) 0 0 (Int32.ofNat K.1.length)).2.2 else K2.2.2)) := by
    rw [eo2, eo1, sp_as]
    unfold kBlk
    rw [if_neg hn]
  rw [kb]
  by_cases c2 : Ts.length < 200
  · -- there is room for the label
    have h3 : ∀ {Y : Option pm_H}, fX1_beginBlock_b105 r2 22 t.toInt32 s = Y → fX1_beginBlock r 22 = Y := fun {Y} h => h1 (by
      unfold fX1_beginBlock_b84
      exact e9_t (xS_C C S1).2.2.1.1.1 (e9_b e2 (e9_t C2.2.2.1.1.1 (e9_t (by rw [(xS_T S2).1, show (200 : Int32) = Int32.ofNat 200 from rfl, nn_lt (by omega) (by decide)]; exact c2) h))))
    cases o2 with
    | inl fq =>
      obtain ⟨ff, q⟩ := fq
      have S2 := S2
      have z1 : 0 < ff ∧ ff < 100 := S2.2.1
      have z2 : pm_I r2 22 0 = Int32.ofNat ff := S2.2.2.1
      refine ⟨r2, h3 ?_, Ts, S2⟩
      unfold fX1_beginBlock_b105
      exact e9_t C2.2.2.1.1.1 (e9_f (by rw [z2, n3_0, nn_eq (by omega) (by decide)]; omega) rfl)
    | inr y =>
      obtain ⟨K2, z2⟩ := y
      obtain ⟨W2, q3⟩ := l2 K2 z2 rfl
      have len : K2.2.1.length = Ts.length := by rw [q3]; exact kl.symm
      rw [sp_br, if_neg (show ¬ 200 ≤ K2.2.1.length by omega)]
      obtain ⟨g, e3, ge⟩ := x_isE C S2 tp tl
      have ge := ge K2 z2 rfl
      have I2 := xS_I C I S2
      have f0 : pm_I r2 22 0 = 0 := S2.2.1.1
      have rm2 : K2.2.2.length < cap := by rw [q3]; exact rm
      have u := C2.2.2.1.2.2.2.2.2.2.2.2.2
      -- the label, what it takes again
      have fin : ∀ {K3 : tK} {z3 : Nat} {r3 : pm_H} {y : Int32}, xS h0 M bo co Ts (.inr (K3, z3)) r3 → K3.2.1.length = Ts.length → (∀ {Y : Option pm_H}, fX1_beginBlock_b147 r3 22 t.toInt32 s (iN g) y = Y → fX1_beginBlock r 22 = Y) → ∃ r', fX1_beginBlock r 22 = some r' ∧ xE h0 M bo co (kPutL p (btP M t) (K3.1, (v.1, t, K3.1.length, false, g, [], y) :: K3.2.1, K3.2.2)) r' := by
        intro K3 z3 r3 y S3 l3 h4
        obtain ⟨st, ls, rs⟩ := K3
        have l3 : ls.length = Ts.length := l3
        have C3 := xS_C C S3
        have I3 := xS_I C I S3
        obtain ⟨r4, e4, S4⟩ := x_opn (g := g) (y := y) C S3 (by omega) (show v.1 ≤ 5 by omega) Wt
        have C4 := xS_C C S4
        obtain ⟨r5, e5, S5⟩ := x_ptP C I P0 BW.1 BW.2.2.1 S4
        refine ⟨r5, h4 ?_, t :: Ts, S5⟩
        unfold fX1_beginBlock_b147
        refine e9_t C3.2.2.1.1.1 (e9_b C3.2.2.1.1.2.2 (e9_t C3.1.1 ?_))
        rw [I3.1]
        exact e9_b e4 (e9_t C4.2.2.1.1.1 (e9_b e5 rfl))
      by_cases c4 : v.1 = 4
      · rw [if_pos c4, if_pos c4, ← eh]
        obtain ⟨u1, r3, e4, S3, u2⟩ := x_emt (op := 4) (a1 := -1) (a2 := 0) (a3 := 0) C I S2 tp tl (fun K' z' e => by cases e; exact rm2)
        have u2 := u2 K2 z2 rfl
        rw [sp_br] at S3
        have := fin (y := u1) S3 (by rw [(kEm_1 _ _ _ _ _ _).2]; exact len) (fun {Y} h => h3 (by
          unfold fX1_beginBlock_b105
          exact e9_t C2.2.2.1.1.1 (e9_t f0 (e9_b e3 (e9_b C2.2.2.1.1.2.2 (e9_t C2.1.1 (e9_t (by rw [I2.1, c4]; rfl) (e9_b e4 h))))))))
        rw [(kEm_1 _ _ _ _ _ _).1, (kEm_1 _ _ _ _ _ _).2, u2, ge] at this
        exact this
      · rw [if_neg c4, if_neg c4]
        have i2 : pm_I r2 bo 2 = Int32.ofNat K2.2.2.length := S2.2.1.2.2.2.1
        have := fin (y := Int32.ofNat K2.2.2.length) S2 len (fun {Y} h => h3 (by
          unfold fX1_beginBlock_b105
          refine e9_t C2.2.2.1.1.1 (e9_t f0 (e9_b e3 (e9_b C2.2.2.1.1.2.2 (e9_t C2.1.1 (e9_f (by rw [I2.1, show (4 : Int32) = Int32.ofNat 4 from rfl, nn_eq (by omega) (by decide)]; exact c4) (e9_b u.1 (e9_t u.2.1 ?_)))))))
          rw [i2]
          exact h))
        rw [ge] at this
        exact this
  · -- there is none
    obtain ⟨r3, e3, S3⟩ := x_fail (w := 40) C I S2 ⟨by decide, by decide⟩
    have C3 := xS_C C S3
    have ee : (sp_b o2 fun _ _ => .inl (40, p) : sp_O tK) = sp_b o2 fun K2 _ => if 200 ≤ K2.2.1.length then .inl (40, p) else kPutL p (btP M t) (K2.1, (v.1, t, K2.1.length, false, kAl K2, [], (if v.1 = 4 then (if kAl K2 = true then Int32.ofNat K2.2.2.length else -1) else Int32.ofNat K2.2.2.length)) :: K2.2.1, (if v.1 = 4 then (kEm K2 4 (-1) 0 0 (Int32.ofNat K.1.length)).2.2 else K2.2.2)) := sp_cg fun K2 z2 e => by
      rw [if_pos]
      have := (l2 K2 z2 e).2
      rw [this]
      omega
    rw [← ee]
    refine ⟨r3, h1 ?_, Ts, S3⟩
    unfold fX1_beginBlock_b84
    refine e9_t (xS_C C S1).2.2.1.1.1 (e9_b e2 (e9_t C2.2.2.1.1.1 (e9_f (by rw [(xS_T S2).1, show (200 : Int32) = Int32.ofNat 200 from rfl, nn_lt (by omega) (by decide)]; exact c2) (e9_b e3 ?_))))
    unfold fX1_beginBlock_b105
    cases o2 with
    | inl fq =>
      obtain ⟨ff, q⟩ := fq
      have z1 : 0 < ff ∧ ff < 100 := S3.2.1
      have z2 : pm_I r3 22 0 = Int32.ofNat ff := S3.2.2.1
      exact e9_t C3.2.2.1.1.1 (e9_f (by rw [z2, n3_0, nn_eq (by omega) (by decide)]; omega) rfl)
    | inr y =>
      have z2 : pm_I r3 22 0 = Int32.ofNat 40 := S3.2.2.1
      exact e9_t C3.2.2.1.1.1 (e9_f (by rw [z2]; decide) rfl)
end XBLK
