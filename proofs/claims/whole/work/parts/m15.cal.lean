/-! THE CLASS CHECKS: what the module tells, calls -/
section XMOD
variable {h0 r r' : pm_H} {n b mm lo hi bo co dd cap : Nat} {B : Nat → Nat} {M : tMd} {Ts : List Int64} {o : sp_O tK} {p w s f x y z i j k : Nat} {v : sp_I} {hb : Int32} {K : tK} {t : Int64} {α : Type} {P : pm_H → Nat → Nat → α → Prop} {L : List α}
theorem m_cnt (km : pm_kd r mm = 7) (hk : k ≤ 3) (A : cAr P 35 6 (4 + k) r mm lo hi L) : fX7_count r mm (Int32.ofNat k) = some (Int32.ofNat L.length) := by
  obtain ⟨x, a1, a2, a3, a4, a5, a6, a7⟩ := A
  unfold fX7_count
  refine e9_t km (e9_b (fX7_space_k km hk a1) (e9_t a4 ?_))
  rw [a5, dv_6 (by omega)]
theorem m_has (km : pm_kd r mm = 7) (hk : k ≤ 3) (A : cAr P 35 6 (4 + k) r mm lo hi L) (hi' : i < 9223372036854775808) : fX7_has r mm (Int32.ofNat k) (Int64.ofNat i) = some (if i < L.length then 1 else 0) := by
  have c := m_cnt km hk A
  obtain ⟨x, a1, a2, a3, a4, a5, a6, a7⟩ := A
  unfold fX7_has
  refine e9_f (by rw [show (0 : Int64) = Int64.ofNat 0 from rfl, ll_lt hi' (by decide)]; omega) (e9_t km (e9_b c ?_))
  by_cases d : i < L.length
  · rw [if_pos d]
    exact e9_f (by rw [nn_t6 (by omega), ll_le (by omega) hi']; omega) rfl
  · rw [if_neg d]
    exact e9_t (by rw [nn_t6 (by omega), ll_le (by omega) hi']; omega) rfl
theorem m_of (km : pm_kd r mm = 7) (hk : k ≤ 3) (A : cAr P 35 6 (4 + k) r mm lo hi L) (hi' : i < L.length) (hj : j < 6) : ∃ x, pm_R r mm (4 + k) = some x ∧ fX7_of r mm (Int32.ofNat k) (Int32.ofNat i) (Int32.ofNat j) = some (pm_L r x (i * 6 + j)) ∧ ∀ v, L[i]? = some v → P r x (i * 6) v := by
  obtain ⟨x, a1, a2, a3, a4, a5, a6, a7⟩ := A
  refine ⟨x, a1, ?_, fun v => a7 i v⟩
  unfold fX7_of
  refine e9_t km (e9_b (fX7_space_k km hk a1) ?_)
  have e : Int32.ofNat i * 6 + Int32.ofNat j = Int32.ofNat (i * 6 + j) := by rw [show (6 : Int32) = Int32.ofNat 6 from rfl, nn_ml, nn_ad]
  rw [e]
  have q : fX12_item_ r x (Int32.ofNat (i * 6 + j)) = some (pm_L r x (i * 6 + j)) := by
    unfold fX12_item_
    refine e9_f (by rw [n3_0, nn_lt (by omega) (by decide)]; omega) (e9_t a4 (e9_f (by rw [a5, nn_le (by omega) (by omega)]; omega) (e9_t (by rw [a5, nn_in (by omega)]; omega) ?_)))
    rw [nn_cm (by omega)]
  exact e9_b q rfl
/-- the shape of a function -/
theorem m_shf (C : xC r n b mm lo hi bo co dd cap B M) (T : vTy M) {a : tImp} (ha : (spF M)[i]? = some a) (ht : a.2.1 < M.1.length) : ∃ s, fX7_shapeOfFunction r mm (Int32.ofNat i) = some (s, r) ∧ shP r lo hi s (btP M (Int64.ofNat a.2.1)) (btR M (Int64.ofNat a.2.1)) := by
  have T1 := T.1
  have km := C.1.2.2.1
  have il := some_lt ha
  obtain ⟨x, -, e1, pe⟩ := m_of (k := 0) km (by decide) (C.2.1.2.2.1 (by decide)) il (show 1 < 6 by decide)
  obtain ⟨-, q, -⟩ := pe a ha
  obtain ⟨s, e2, P⟩ := sh_mod C T ht
  obtain ⟨b1, b2⟩ := bt_i (M := M) ht (by omega)
  refine ⟨s, ?_, by rw [b1, b2]; exact P⟩
  unfold fX7_shapeOfFunction fX7_shapeOfFunction_b0
  refine e9_t km (e9_b e1 ?_)
  rw [q, ll_t3]
  exact e9_b e2 rfl
/-- a call -/
theorem x_cal (C : xC h0 n b mm lo hi bo co dd cap B M) (I : xI h0 p v hb) (S : xS h0 M bo co Ts (.inr (K, z)) r) (T : vTy M) (hF : ∀ f, f ∈ spF M → f.2.1 < M.1.length) (hl : 0 < K.2.1.length) (eh : hb = Int32.ofNat K.1.length) (rm : K.2.2.length < cap) (h1 : 0 ≤ v.2.1) : ∃ r', fX1_callDirectly r 22 = some r' ∧ xE h0 M bo co (kCal M p v.2.1.toNatClampNeg K) r' := by
  obtain ⟨W, kl, tl, tp, -, -⟩ := xS_a S hl
  have Cr := xS_C C S
  have Ir := xS_I C I S
  have k1 := Cr.2.2.1.1.1
  have km := Cr.1.2.2.1
  obtain ⟨x, ex⟩ : ∃ x, x = v.2.1.toNatClampNeg := ⟨_, rfl⟩
  have ev : v.2.1 = Int64.ofNat x := by rw [ex]; exact (i64_nn h1).symm
  have x63 : x < 9223372036854775808 := by rw [ex]; exact Int64.toNatClampNeg_lt _
  rw [← ex]
  have hs := m_has (k := 0) km (by decide) (Cr.2.1.2.2.1 (by decide)) x63
  unfold kCal
  cases ef : (spF M)[x]? with
  | none =>
    obtain ⟨r1, e1, S1⟩ := x_fail (w := 30) C I S ⟨by decide, by decide⟩
    refine ⟨r1, ?_, Ts, S1⟩
    unfold fX1_callDirectly fX1_callDirectly_b0
    refine e9_t k1 (e9_b Cr.2.2.1.1.2.1 (e9_b Cr.2.2.1.1.2.2 (e9_t Cr.1.1 (e9_t km ?_))))
    rw [Ir.2.2.1, ev]
    exact e9_b hs (e9_t (by rw [if_neg (Nat.not_lt.mpr (List.getElem?_eq_none_iff.mp ef))]) (e9_b e1 rfl))
  | some a =>
    show ∃ r', _ ∧ xE h0 M bo co (sp_b (kTakeL p (btP M (Int64.ofNat a.2.1)) K) fun K1 _ => sp_b (kPutL p (btR M (Int64.ofNat a.2.1)) K1) fun K2 _ => .inr (kEm K2 16 (Int32.ofNat x) 0 (Int32.ofNat (btP M (Int64.ofNat a.2.1)).length) (Int32.ofNat K.1.length), 0)) r'
    have ht := hF a (List.mem_of_getElem? ef)
    have BW := bt_w T (wfT_t T ht)
    obtain ⟨s, e2, P⟩ := m_shf Cr T ef ht
    have P0 := shP_B C S.1 P
    obtain ⟨r1, e3, S1⟩ := x_tkP C I tp P0 BW.1 BW.2.2.1 S
    have C1 := xS_C C S1
    obtain ⟨r2, e4, S2⟩ := x_ptR C I P0 BW.1 BW.2.1 BW.2.2.2 S1
    have C2 := xS_C C S2
    have I2 := xS_I C I S2
    obtain ⟨u, r3, e5, S3, -⟩ := x_emt (op := 16) (a1 := Int32.ofNat x) (a2 := 0) (a3 := Int32.ofNat (btP M (Int64.ofNat a.2.1)).length) C I S2 tp tl (fun K2 z2 e => by
      obtain ⟨K1, z1, q1, q2⟩ := b_inv e
      rw [kPutN_2 q2, kTakeN_2 q1]; exact rm)
    refine ⟨r3, ?_, Ts, xS_e ?_ S3⟩
    · unfold fX1_callDirectly fX1_callDirectly_b0
      refine e9_t k1 (e9_b Cr.2.2.1.1.2.1 (e9_b Cr.2.2.1.1.2.2 (e9_t Cr.1.1 (e9_t km ?_))))
      rw [Ir.2.2.1, ev]
      refine e9_b hs (e9_f (by rw [if_pos (some_lt ef)]; decide) ?_)
      rw [ll_t3]
      refine e9_b e2 ?_
      unfold fX1_callDirectly_b40
      refine e9_t k1 (e9_b e3 (e9_t C1.2.2.1.1.1 (e9_b e4 (e9_t C2.2.2.1.1.1 (e9_b C2.2.2.1.1.2.2 (e9_t C2.1.1 (e9_b (sh_i0 (shP_F C S2.1 P0)) ?_)))))))
      rw [I2.2.2.1, ev, ll_t3]
      exact e9_b e5 rfl
    · rw [sp_br, sp_as, ← eh]
/-- a call by a table -/
theorem x_caT (C : xC h0 n b mm lo hi bo co dd cap B M) (I : xI h0 p v hb) (S : xS h0 M bo co Ts (.inr (K, z)) r) (T : vTy M) (hT : ∀ t, t ∈ spT M → t.2.1 < 256) (hl : 0 < K.2.1.length) (eh : hb = Int32.ofNat K.1.length) (rm : K.2.2.length < cap) (h1 : 0 ≤ v.2.1) (h2 : 0 ≤ v.2.2.1) : ∃ r', fX1_callByTable r 22 = some r' ∧ xE h0 M bo co (kCalT M p v.2.1.toNatClampNeg v.2.2.1.toNatClampNeg K) r' := by
  obtain ⟨W, kl, tl, tp, -, -⟩ := xS_a S hl
  have T1 := T.1
  have Cr := xS_C C S
  have Ir := xS_I C I S
  have k1 := Cr.2.2.1.1.1
  have km := Cr.1.2.2.1
  obtain ⟨x, ex⟩ : ∃ x, x = v.2.1.toNatClampNeg := ⟨_, rfl⟩
  have ev : v.2.1 = Int64.ofNat x := by rw [ex]; exact (i64_nn h1).symm
  have x63 : x < 9223372036854775808 := by rw [ex]; exact Int64.toNatClampNeg_lt _
  obtain ⟨y, ey⟩ : ∃ y, y = v.2.2.1.toNatClampNeg := ⟨_, rfl⟩
  have ev2 : v.2.2.1 = Int64.ofNat y := by rw [ey]; exact (i64_nn h2).symm
  have y63 : y < 9223372036854775808 := by rw [ey]; exact Int64.toNatClampNeg_lt _
  rw [← ex, ← ey]
  have At := Cr.2.1.2.2.2.1 (by decide)
  have hs := m_has (k := 1) km (by decide) At y63
  obtain ⟨xx, q1, q2, q3, q4, q5, q6, q7⟩ := Cr.2.1.1 (by decide)
  obtain ⟨rf, ef, Sf⟩ := x_fail (w := 30) C I S ⟨by decide, by decide⟩
  have b0 : fX1_callByTable_b43 r 22 0 = some rf := by
    unfold fX1_callByTable_b43
    exact e9_t rfl (e9_t k1 (e9_b ef rfl))
  have bad : (¬ (x < M.1.length) ∨ ¬ y < (spT M).length) → fX1_callByTable r 22 = some rf := fun h => by
    unfold fX1_callByTable fX1_callByTable_b0
    refine e9_t k1 (e9_b Cr.2.2.1.1.2.2 (e9_t Cr.1.1 (e9_b Cr.2.2.1.1.2.1 (e9_t km (e9_b q1 (e9_t q4 ?_))))))
    rw [Ir.2.2.1, Ir.2.2.2.1, ev, ev2, q5, nn_t6 (by omega)]
    by_cases c : M.1.length ≤ x
    · exact e9_t (by rw [ll_le (by omega) x63]; exact c) b0
    · refine e9_f (by rw [ll_le (by omega) x63]; exact c) (e9_b hs (e9_t ?_ b0))
      rw [if_neg (h.resolve_left (fun z => z (Nat.not_le.mp c)))]
  have good : x < M.1.length → y < (spT M).length → ∀ {Y : Option pm_H}, fX1_callByTable_b43 r 22 1 = Y → fX1_callByTable r 22 = Y := fun g1 g2 {Y} h => by
    unfold fX1_callByTable fX1_callByTable_b0
    refine e9_t k1 (e9_b Cr.2.2.1.1.2.2 (e9_t Cr.1.1 (e9_b Cr.2.2.1.1.2.1 (e9_t km (e9_b q1 (e9_t q4 ?_))))))
    rw [Ir.2.2.1, Ir.2.2.2.1, ev, ev2, q5, nn_t6 (by omega)]
    exact e9_f (by rw [ll_le (by omega) x63]; exact Nat.not_le.mpr g1) (e9_b hs (e9_f (by rw [if_pos g2]; decide) h))
  unfold kCalT
  cases et : (spT M)[y]? with
  | none => exact ⟨rf, bad (.inr (Nat.not_lt.mpr (List.getElem?_eq_none_iff.mp et))), Ts, Sf⟩
  | some a =>
    show ∃ r', _ ∧ xE h0 M bo co (if x < M.1.length ∧ a.2.1 = 112 then sp_b (kTk p 127 K) fun K1 _ => sp_b (kTakeL p (btP M (Int64.ofNat x)) K1) fun K2 _ => sp_b (kPutL p (btR M (Int64.ofNat x)) K2) fun K3 _ => .inr (kEm K3 17 (Int32.ofNat x) (Int32.ofNat y) (Int32.ofNat (btP M (Int64.ofNat x)).length) (Int32.ofNat K.1.length), 0) else .inl (30, p)) r'
    have yl := some_lt et
    obtain ⟨xt, -, e1, pe⟩ := m_of (k := 1) km (by decide) At yl (show 1 < 6 by decide)
    obtain ⟨-, qt, -⟩ := pe a et
    rw [qt] at e1
    have a8 := hT a (List.mem_of_getElem? et)
    by_cases c : x < M.1.length ∧ a.2.1 = 112
    · rw [if_pos c]
      have BW := bt_w T (wfT_t T c.1)
      obtain ⟨s, e2, P⟩ := sh_mod Cr T c.1
      obtain ⟨b1, b2⟩ := bt_i (M := M) c.1 x63
      rw [← b1, ← b2] at P
      have P0 := shP_B C S.1 P
      obtain ⟨u0, r0, e0, S0, -⟩ := x_take (w := 127) C I S tp (.inr isT_127)
      have tk : kTk p 127 K = sp_b (kTake p 127 K) fun v _ => .inr (v.2, 0) := by unfold kTk; rw [if_neg (by decide)]
      rw [sp_br, ← tk] at S0
      have C0 := xS_C C S0
      obtain ⟨r1, e3, S1⟩ := x_tkP C I tp P0 BW.1 BW.2.2.1 S0
      have C1 := xS_C C S1
      obtain ⟨r2, e4, S2⟩ := x_ptR C I P0 BW.1 BW.2.1 BW.2.2.2 S1
      have C2 := xS_C C S2
      have I2 := xS_I C I S2
      obtain ⟨u, r3, e5, S3, -⟩ := x_emt (op := 17) (a1 := Int32.ofNat x) (a2 := Int32.ofNat y) (a3 := Int32.ofNat (btP M (Int64.ofNat x)).length) C I S2 tp tl (fun K3 z3 e => by
        obtain ⟨K2, z2, g1, g2⟩ := b_inv e
        obtain ⟨K1, z1, g3, g4⟩ := b_inv g1
        rw [kPutN_2 g2, kTakeN_2 g4, kTk_2 g3]; exact rm)
      refine ⟨r3, good c.1 yl ?_, Ts, xS_e ?_ S3⟩
      · unfold fX1_callByTable_b43
        refine e9_f (by decide) (e9_t k1 (e9_b Cr.2.2.1.1.2.1 (e9_b Cr.2.2.1.1.2.2 (e9_t Cr.1.1 (e9_t km ?_)))))
        rw [Ir.2.2.1, Ir.2.2.2.1, ev, ev2, ll_t3, ll_t3]
        refine e9_b e1 (e9_t (by rw [c.2]; rfl) (e9_b e2 ?_))
        unfold fX1_callByTable_b94
        refine e9_t k1 (e9_b e0 (e9_t C0.2.2.1.1.1 (e9_b e3 (e9_t C1.2.2.1.1.1 (e9_b e4 (e9_t C2.2.2.1.1.1 (e9_b C2.2.2.1.1.2.2 (e9_t C2.1.1 (e9_b (sh_i0 (shP_F C S2.1 P0)) ?_)))))))))
        rw [I2.2.2.1, I2.2.2.2.1, ev, ev2, ll_t3, ll_t3]
        exact e9_b e5 rfl
      · rw [sp_as, sp_as, ← eh]
    · rw [if_neg c]
      by_cases g1 : x < M.1.length
      · refine ⟨rf, good g1 yl ?_, Ts, Sf⟩
        unfold fX1_callByTable_b43
        refine e9_f (by decide) (e9_t k1 (e9_b Cr.2.2.1.1.2.1 (e9_b Cr.2.2.1.1.2.2 (e9_t Cr.1.1 (e9_t km ?_)))))
        rw [Ir.2.2.1, Ir.2.2.2.1, ev, ev2, ll_t3, ll_t3]
        refine e9_b e1 (e9_f (by rw [show (112 : Int64) = Int64.ofNat 112 from rfl, ll_eq (by omega) (by decide)]; exact fun h => c ⟨g1, h⟩) (e9_b ef rfl))
      · exact ⟨rf, bad (.inl g1), Ts, Sf⟩
end XMOD
