/-! THE CLASS CHECKS: references to functions, stretches, variables -/
section XVAR
variable {h0 r r' : pm_H} {n b mm lo hi bo co dd cap : Nat} {B : Nat → Nat} {M : tMd} {Ts : List Int64} {o : sp_O tK} {p w s f x y z i j k lc : Nat} {v : sp_I} {hb : Int32} {K : tK} {t : Int64} {Dc : Nat → Bool} {lt : Nat → Option Nat}
theorem idx_v {x : Nat} (h : x < 9223372036854775808) : fX12_index (Int64.ofNat x) = Int32.ofNat (if x ≤ 2147483647 then x else 2147483647) := by
  unfold fX12_index
  rw [if_neg (by rw [show (0 : Int64) = Int64.ofNat 0 from rfl, ll_lt h (by decide)]; omega)]
  by_cases c : x ≤ 2147483647
  · rw [if_pos (by rw [show (2147483647 : Int64) = Int64.ofNat 2147483647 from rfl, ll_le h (by decide)]; exact c), if_pos c, ll_t3]
  · rw [if_neg (by rw [show (2147483647 : Int64) = Int64.ofNat 2147483647 from rfl, ll_le h (by decide)]; exact c), if_neg c]
    rfl
/-- what the elements declare -/
def xD (h : pm_H) (dd nf : Nat) (Dc : Nat → Bool) : Prop := ∀ i, i < nf → (pm_I h dd i = 0) = (Dc i = false)
theorem x_210 (C : xC h0 n b mm lo hi bo co dd cap B M) (I : xI h0 p v hb) (S : xS h0 M bo co Ts (.inr (K, z)) r) (hl : 0 < K.2.1.length) (eh : hb = Int32.ofNat K.1.length) (rm : K.2.2.length < cap) (ho : v.1 = 210) (h1 : 0 ≤ v.2.1) (D : xD h0 dd (spF M).length Dc) : ∃ r', fX1_reference r 22 (Int32.ofNat v.1) = some r' ∧ xE h0 M bo co (kGo M Dc lt p v K) r' := by
  obtain ⟨W, kl, tl, tp, -, -⟩ := xS_a S hl
  have Cr := xS_C C S
  have Ir := xS_I C I S
  have k1 := Cr.2.2.1.1.1
  obtain ⟨x, ex⟩ : ∃ x, x = v.2.1.toNatClampNeg := ⟨_, rfl⟩
  have ev : v.2.1 = Int64.ofNat x := by rw [ex]; exact (i64_nn h1).symm
  have x63 : x < 9223372036854775808 := by rw [ex]; exact Int64.toNatClampNeg_lt _
  have es := sg_210 (M := M) (Dc := Dc) (lt := lt) (x := v.2.1.toNatClampNeg) (y := v.2.2.1.toNatClampNeg) ho
  rw [← ex] at es
  obtain ⟨d1, d2, d3⟩ := Cr.2.2.1.2.1
  have l8 : (spF M).length ≤ 81920 := by obtain ⟨x, -, -, -, -, -, a, -⟩ := Cr.2.1.2.2.1 (by decide); exact a
  obtain ⟨q, eq⟩ : ∃ q, q = if x ≤ 2147483647 then x else 2147483647 := ⟨_, rfl⟩
  have q32 : q < 2147483648 := by rw [eq]; split <;> omega
  have qx : (q < (spF M).length) = (x < (spF M).length) := by
    rw [eq]
    split
    · rfl
    · exact propext ⟨fun h => by omega, fun h => by omega⟩
  have aa := C.2.2.2.1
  have kD : ∀ i, pm_I r dd i = pm_I h0 dd i := fun i => S.1.2.2.2.2.1 dd i (by
    obtain ⟨-, -, ⟨-, ⟨-, e2, -⟩, -, -, -, -, -, -, -, ⟨-, u2, -, u4, -⟩⟩, -⟩ := C
    have n1 : dd ≠ bo := fun e => by rw [e, u2] at e2; exact absurd e2 (by decide)
    have n2 : dd ≠ co := fun e => by rw [e, u4] at e2; exact absurd e2 (by decide)
    unfold xAI; omega)
  obtain ⟨rf, ef, Sf⟩ := x_fail (w := 30) C I S ⟨by decide, by decide⟩
  rw [sp_br] at Sf
  obtain ⟨r2, e2, S2⟩ := x_pln (x1 := 0) (x2 := 0) (x3 := 0) (x4 := 112) C I Sf tp tl (fun K z e => by cases e) (.inl rfl) (.inl rfl) (.inl rfl) (.inr (by decide))
  have pre : ∀ {Y : Option pm_H}, (if Int32.ofNat (pm_ln r dd) ≤ Int32.ofNat q then ((fX1_fail r 22 30).bind fun v13 => if pm_kd v13 22 = 1 then (fX1_plain v13 22 0 0 0 112).bind fun v16 => some v16 else none) else (if pm_in (Int32.ofNat q) (pm_ln r dd) then if (pm_I r dd (Int32.ofNat q).toNatClampNeg) = 0 then ((fX1_fail r 22 30).bind fun v22 => if pm_kd v22 22 = 1 then (fX1_plain v22 22 0 0 0 112).bind fun v25 => some v25 else none) else ((fX1_plain r 22 0 0 0 112).bind fun v20 => some v20) else none)) = Y → fX1_reference r 22 (Int32.ofNat v.1) = Y := fun {Y} h => by
    unfold fX1_reference
    refine e9_f (by rw [ho]; decide) (e9_f (by rw [ho]; decide) (e9_t k1 (e9_b Cr.2.2.1.1.2.2 (e9_t Cr.1.1 (e9_l (e9_b d1 (e9_t d2 ?_)))))))
    rw [Ir.2.2.1, ev, idx_v x63, ← eq]
    exact h
  have no : kSg M Dc lt v.1 x v.2.2.1.toNatClampNeg = none → xE h0 M bo co (kGo M Dc lt p v K) r2 := fun e => by
    rw [ex] at e
    rw [kGo_n e]
    exact ⟨Ts, S2⟩
  by_cases c : x < (spF M).length
  · have cq : q < (spF M).length := by rw [qx]; exact c
    have xq : q = x := by rw [eq, if_pos (by omega)]
    have g1 : ¬ Int32.ofNat (pm_ln r dd) ≤ Int32.ofNat q := by rw [d3, nn_le (by omega) q32]; omega
    have g2 : pm_in (Int32.ofNat q) (pm_ln r dd) := by rw [d3, nn_in q32]; exact cq
    have g3 : pm_I r dd (Int32.ofNat q).toNatClampNeg = pm_I h0 dd x := by rw [nn_cm q32, xq]; exact kD x
    cases dc : Dc x with
    | true =>
      rw [if_pos ⟨c, dc⟩] at es
      rw [ex] at es
      obtain ⟨r1, e1, E1⟩ := x_yes C I S hl eh rm es (.inl rfl) (.inl rfl) (.inl rfl) (.inr (by decide))
      exact ⟨r1, pre (e9_f g1 (e9_t g2 (e9_f (by rw [g3, D x c, dc]; decide) (e9_b e1 rfl)))), E1⟩
    | false =>
      rw [if_neg (fun h => by rw [dc] at h; exact absurd h.2 (by decide))] at es
      exact ⟨r2, pre (e9_f g1 (e9_t g2 (e9_t (by rw [g3, D x c, dc]) (e9_b ef (e9_t (xS_C C Sf).2.2.1.1.1 (e9_b e2 rfl)))))), no es⟩
  · rw [if_neg (fun h => c h.1)] at es
    refine ⟨r2, pre (e9_t ?_ (e9_b ef (e9_t (xS_C C Sf).2.2.1.1.1 (e9_b e2 rfl)))), no es⟩
    rw [d3, nn_le (by omega) q32]
    exact Nat.not_lt.mp (fun h => c (by rw [← qx]; exact h))
/-- stretches of memory -/
theorem x_str (C : xC h0 n b mm lo hi bo co dd cap B M) (I : xI h0 p v hb) (S : xS h0 M bo co Ts (.inr (K, z)) r) (hl : 0 < K.2.1.length) (eh : hb = Int32.ofNat K.1.length) (rm : K.2.2.length < cap) (ho : 308 ≤ v.1 ∧ v.1 ≤ 311) (h1 : 0 ≤ v.2.1) : ∃ r', fX1_stretch r 22 (Int32.ofNat v.1) = some r' ∧ xE h0 M bo co (kGo M Dc lt p v K) r' := by
  have Cr := xS_C C S
  have Ir := xS_I C I S
  have k1 := Cr.2.2.1.1.1
  have km := Cr.1.2.2.1
  have Am := Cr.2.1.2.2.2.2.1 (by decide)
  have cn := m_cnt (k := 2) km (by decide) Am
  have l8 : (spM M).length ≤ 81920 := by obtain ⟨x, -, -, -, -, -, a, -⟩ := Am; exact a
  obtain ⟨xd, a1, a2, a3, a4, a5, a6, a7⟩ := Cr.2.1.2.2.2.2.2.2.2.2.1 (by decide)
  obtain ⟨x, ex⟩ : ∃ x, x = v.2.1.toNatClampNeg := ⟨_, rfl⟩
  have ev : v.2.1 = Int64.ofNat x := by rw [ex]; exact (i64_nn h1).symm
  have x63 : x < 9223372036854775808 := by rw [ex]; exact Int64.toNatClampNeg_lt _
  have is : ∀ c : Nat, c < 1000 → (Int32.ofNat v.1 = Int32.ofNat c) = (v.1 = c) := fun c hc => nn_eq (by omega) (by omega)
  have big : (309 < Int32.ofNat v.1) = (309 < v.1) := by rw [show (309 : Int32) = Int32.ofNat 309 from rfl, nn_lt (by decide) (by omega)]
  have b62 : ∀ {rf : pm_H}, fX1_fail r 22 30 = some rf → fX1_stretch_b64 r 22 (Int32.ofNat v.1) 0 = some rf := fun {rf} e => by
    unfold fX1_stretch_b64
    exact e9_t rfl (e9_t k1 (e9_b e rfl))
  have b1 : ∀ {Y : Option pm_H}, (if Int32.ofNat v.1 = 309 then ((fX1_plain r 22 0 0 0 0).bind fun v28 => some v28) else ((fX1_plain r 22 127 127 127 0).bind fun v25 => some v25)) = Y → fX1_stretch_b64 r 22 (Int32.ofNat v.1) 1 = Y := fun {Y} h => by
    unfold fX1_stretch_b64
    refine e9_f (by decide) ?_
    by_cases c : Int32.ofNat v.1 = 309
    · rw [if_pos c] at h; exact e9_t c (e9_t k1 h)
    · rw [if_neg c] at h; exact e9_f c (e9_t k1 h)
  -- the data that there must be
  have dat : ∀ {Y : Option pm_H}, v.1 ≤ 309 → (if M.2.2.2.2.2.2.2.2.1.length ≤ x then fX1_stretch_b64 r 22 (Int32.ofNat v.1) 0 else fX1_stretch_b64 r 22 (Int32.ofNat v.1) 1) = Y → fX1_stretch_b23 r 22 (Int32.ofNat v.1) 1 = Y := fun {Y} c h => by
    unfold fX1_stretch_b23
    refine e9_f (by rw [big]; omega) (e9_f (by decide) (e9_t k1 (e9_b Cr.2.2.1.1.2.2 (e9_t Cr.1.1 (e9_b Cr.2.2.1.1.2.1 (e9_t km (e9_b a1 (e9_t a4 ?_))))))))
    rw [a5, dv_7 (by omega), nn_t6 (by omega), Ir.2.2.1, ev]
    by_cases d : M.2.2.2.2.2.2.2.2.1.length ≤ x
    · rw [if_pos d] at h; exact e9_t (by rw [ll_le (by omega) x63]; exact d) h
    · rw [if_neg d] at h; exact e9_f (by rw [ll_le (by omega) x63]; exact d) h
  have mem : ∀ {Y : Option pm_H}, v.1 ≠ 309 → (if (spM M).length = 0 then fX1_stretch_b23 r 22 (Int32.ofNat v.1) 0 else fX1_stretch_b23 r 22 (Int32.ofNat v.1) 1) = Y → fX1_stretch r 22 (Int32.ofNat v.1) = Y := fun {Y} c h => by
    unfold fX1_stretch
    refine e9_f (by rw [show (309 : Int32) = Int32.ofNat 309 from rfl, is 309 (by decide)]; exact c) (e9_t k1 (e9_b Cr.2.2.1.1.2.1 (e9_t km (e9_b cn ?_))))
    by_cases d : (spM M).length = 0
    · rw [if_pos d] at h; exact e9_t (by rw [d]; decide) h
    · rw [if_neg d] at h; exact e9_f (by rw [n3_0, nn_le (by omega) (by decide)]; omega) h
  have big1 : ∀ {s0 : Int32} {Y : Option pm_H}, 309 < v.1 → fX1_stretch_b64 r 22 (Int32.ofNat v.1) s0 = Y → fX1_stretch_b23 r 22 (Int32.ofNat v.1) s0 = Y := fun {s0 Y} c h => by
    unfold fX1_stretch_b23
    exact e9_t (by rw [big]; exact c) h
  by_cases c8 : v.1 = 308
  · have es : kSg M Dc lt v.1 v.2.1.toNatClampNeg v.2.2.1.toNatClampNeg = (if x < M.2.2.2.2.2.2.2.2.1.length ∧ 0 < (spM M).length then some (127, 127, 127, 0) else none) := by rw [← ex, c8]; rfl
    by_cases d : x < M.2.2.2.2.2.2.2.2.1.length ∧ 0 < (spM M).length
    · rw [if_pos d] at es
      obtain ⟨r1, e1, E1⟩ := x_yes C I S hl eh rm es (.inr isT_127) (.inr isT_127) (.inr isT_127) (.inl rfl)
      refine ⟨r1, mem (by omega) ?_, E1⟩
      rw [if_neg (by omega)]
      refine dat (by omega) ?_
      rw [if_neg (by omega)]
      exact b1 (e9_f (by rw [show (309 : Int32) = Int32.ofNat 309 from rfl, is 309 (by decide)]; omega) (e9_b e1 rfl))
    · rw [if_neg d] at es
      obtain ⟨r1, e1, E1, -⟩ := x_no (Dc := Dc) (lt := lt) C I S es
      refine ⟨r1, mem (by omega) ?_, E1⟩
      by_cases dm : (spM M).length = 0
      · rw [if_pos dm]
        unfold fX1_stretch_b23
        exact e9_f (by rw [big]; omega) (e9_t rfl (b62 e1))
      · rw [if_neg dm]
        refine dat (by omega) ?_
        rw [if_pos (by omega)]
        exact b62 e1
  by_cases c9 : v.1 = 309
  · have es : kSg M Dc lt v.1 v.2.1.toNatClampNeg v.2.2.1.toNatClampNeg = (if x < M.2.2.2.2.2.2.2.2.1.length then some (0, 0, 0, 0) else none) := by rw [← ex, c9]; rfl
    have pre : ∀ {Y : Option pm_H}, fX1_stretch_b23 r 22 (Int32.ofNat v.1) 1 = Y → fX1_stretch r 22 (Int32.ofNat v.1) = Y := fun {Y} h => by
      unfold fX1_stretch
      exact e9_t (by rw [c9]; rfl) h
    by_cases d : x < M.2.2.2.2.2.2.2.2.1.length
    · rw [if_pos d] at es
      obtain ⟨r1, e1, E1⟩ := x_yes C I S hl eh rm es (.inl rfl) (.inl rfl) (.inl rfl) (.inl rfl)
      refine ⟨r1, pre (dat (by omega) ?_), E1⟩
      rw [if_neg (by omega)]
      exact b1 (e9_t (by rw [c9]; rfl) (e9_b e1 rfl))
    · rw [if_neg d] at es
      obtain ⟨r1, e1, E1, -⟩ := x_no (Dc := Dc) (lt := lt) C I S es
      refine ⟨r1, pre (dat (by omega) ?_), E1⟩
      rw [if_pos (by omega)]
      exact b62 e1
  have es : kSg M Dc lt v.1 v.2.1.toNatClampNeg v.2.2.1.toNatClampNeg = (if 0 < (spM M).length then some (127, 127, 127, 0) else none) := by
    rcases (show v.1 = 310 ∨ v.1 = 311 by omega) with e | e
    · rw [e]; rfl
    · rw [e]; rfl
  by_cases d : 0 < (spM M).length
  · rw [if_pos d] at es
    obtain ⟨r1, e1, E1⟩ := x_yes C I S hl eh rm es (.inr isT_127) (.inr isT_127) (.inr isT_127) (.inl rfl)
    refine ⟨r1, mem c9 ?_, E1⟩
    rw [if_neg (by omega)]
    exact big1 (by omega) (b1 (e9_f (by rw [show (309 : Int32) = Int32.ofNat 309 from rfl, is 309 (by decide)]; omega) (e9_b e1 rfl)))
  · rw [if_neg d] at es
    obtain ⟨r1, e1, E1, -⟩ := x_no (Dc := Dc) (lt := lt) C I S es
    refine ⟨r1, mem c9 ?_, E1⟩
    rw [if_pos (by omega)]
    exact big1 (by omega) (b62 e1)
end XVAR
