/-! THE CLASS CHECKS: operators, the memory, references to functions, stretches -/
def kGo (M : tMd) (Dc : Nat → Bool) (lt : Nat → Option Nat) (p : Nat) (v : sp_I) (K : tK) : sp_O tK := match kSg M Dc lt v.1 v.2.1.toNatClampNeg v.2.2.1.toNatClampNeg with
  | none => .inl (30, p)
  | some s => kPl p (Int32.ofNat v.1) v.2.1.toInt32 v.2.2.1.toInt32 (Int32.ofNat K.1.length) s.1 s.2.1 s.2.2.1 s.2.2.2 K
theorem op_tab : ∀ c : Fin 208, 69 ≤ c.val ∧ (c.val < 197 ∨ 200 ≤ c.val) → fX8_operandType (Int32.ofNat c.val) = some (Int32.ofNat (kOpT c.val)) ∧ fX8_isBinary (Int32.ofNat c.val) = (if kTwo c.val = true then 1 else 0) ∧ fX8_resultType (Int32.ofNat c.val) = some (Int32.ofNat (kRsT c.val)) ∧ kOpT c.val ≤ 3 ∧ kRsT c.val ≤ 3 := by decide +kernel
theorem ac_tab : ∀ c : Fin 63, 40 ≤ c.val → fX6_logOfWidth (Int32.ofNat c.val) = some (Int32.ofNat (kWid c.val)) ∧ fX6_valueType (Int32.ofNat c.val) = some (Int32.ofNat (kAcT c.val)) ∧ kWid c.val ≤ 3 ∧ sp_isT (kAcT c.val) = true := by decide +kernel
theorem is_num : ∀ c : Fin 4, sp_isT (127 - c.val) = true := by decide
theorem dv_7 {N : Nat} (hN : N < 1000000) : Int32.ofNat (N * 7) / 7 = Int32.ofNat N := (pe_dv (n := N * 7) (k := 7) (by omega) (by decide) (by decide)).trans (congrArg Int32.ofNat (by omega))
section XOPR
variable {h0 r r' : pm_H} {n b mm lo hi bo co dd cap : Nat} {B : Nat → Nat} {M : tMd} {Ts : List Int64} {o : sp_O tK} {p w s f x y z i j k : Nat} {v : sp_I} {hb : Int32} {K : tK} {t : Int64} {Dc : Nat → Bool} {lt : Nat → Option Nat}
theorem kGo_n (e : kSg M Dc lt v.1 v.2.1.toNatClampNeg v.2.2.1.toNatClampNeg = none) : kGo M Dc lt p v K = .inl (30, p) := by unfold kGo; rw [e]
theorem kGo_s {q : Nat × Nat × Nat × Nat} (e : kSg M Dc lt v.1 v.2.1.toNatClampNeg v.2.2.1.toNatClampNeg = some q) : kGo M Dc lt p v K = kPl p (Int32.ofNat v.1) v.2.1.toInt32 v.2.2.1.toInt32 (Int32.ofNat K.1.length) q.1 q.2.1 q.2.2.1 q.2.2.2 K := by unfold kGo; rw [e]
/-- no -/
theorem x_no (C : xC h0 n b mm lo hi bo co dd cap B M) (I : xI h0 p v hb) (S : xS h0 M bo co Ts (.inr (K, z)) r) (e : kSg M Dc lt v.1 v.2.1.toNatClampNeg v.2.2.1.toNatClampNeg = none) : ∃ r', fX1_fail r 22 30 = some r' ∧ xE h0 M bo co (kGo M Dc lt p v K) r' ∧ xS h0 M bo co Ts (.inl (30, p)) r' := by
  obtain ⟨r1, e1, S1⟩ := x_fail (w := 30) C I S ⟨by decide, by decide⟩
  rw [sp_br] at S1
  exact ⟨r1, e1, by rw [kGo_n e]; exact ⟨Ts, S1⟩, S1⟩
/-- yes -/
theorem x_yes {x1 x2 x3 x4 : Nat} (C : xC h0 n b mm lo hi bo co dd cap B M) (I : xI h0 p v hb) (S : xS h0 M bo co Ts (.inr (K, z)) r) (hl : 0 < K.2.1.length) (eh : hb = Int32.ofNat K.1.length) (rm : K.2.2.length < cap) (e : kSg M Dc lt v.1 v.2.1.toNatClampNeg v.2.2.1.toNatClampNeg = some (x1, x2, x3, x4)) (h1 : x1 = 0 ∨ isT x1) (h2 : x2 = 0 ∨ isT x2) (h3 : x3 = 0 ∨ isT x3) (h4 : x4 = 0 ∨ isT x4) : ∃ r', fX1_plain r 22 (Int32.ofNat x1) (Int32.ofNat x2) (Int32.ofNat x3) (Int32.ofNat x4) = some r' ∧ xE h0 M bo co (kGo M Dc lt p v K) r' := by
  obtain ⟨W, kl, tl, tp, -, -⟩ := xS_a S hl
  obtain ⟨r1, e1, S1⟩ := x_pln C I S tp tl (fun K' z' e => by cases e; exact rm) h1 h2 h3 h4
  rw [sp_br] at S1
  exact ⟨r1, e1, by rw [kGo_s e, ← eh]; exact ⟨Ts, S1⟩⟩
theorem x_opr (C : xC h0 n b mm lo hi bo co dd cap B M) (I : xI h0 p v hb) (S : xS h0 M bo co Ts (.inr (K, z)) r) (hl : 0 < K.2.1.length) (eh : hb = Int32.ofNat K.1.length) (rm : K.2.2.length < cap) (ho : 69 ≤ v.1 ∧ v.1 < 208) (ho2 : v.1 < 197 ∨ 200 ≤ v.1) : ∃ r', fX1_operator r 22 (Int32.ofNat v.1) = some r' ∧ xE h0 M bo co (kGo M Dc lt p v K) r' := by
  obtain ⟨t1, t2, t3, t4, t5⟩ := op_tab ⟨v.1, ho.2⟩ ⟨ho.1, ho2⟩
  have k1 := (xS_C C S).2.2.1.1.1
  have T1 : isT (127 - kOpT v.1) := is_num ⟨kOpT v.1, Nat.lt_succ_of_le t4⟩
  have T2 : isT (127 - kRsT v.1) := is_num ⟨kRsT v.1, Nat.lt_succ_of_le t5⟩
  have es := sg_opr (M := M) (Dc := Dc) (lt := lt) (x := v.2.1.toNatClampNeg) (y := v.2.2.1.toNatClampNeg) ho
  have s1 : (127 : Int32) - Int32.ofNat (kOpT v.1) = Int32.ofNat (127 - kOpT v.1) := nn_sb (m := 127) (by have t4 : kOpT v.1 ≤ 3 := t4; omega)
  have s2 : (127 : Int32) - Int32.ofNat (kRsT v.1) = Int32.ofNat (127 - kRsT v.1) := nn_sb (m := 127) (by have t5 : kRsT v.1 ≤ 3 := t5; omega)
  have t2 : fX8_isBinary (Int32.ofNat v.1) = (if kTwo v.1 = true then 1 else 0) := t2
  unfold fX1_operator
  cases c : kTwo v.1 with
  | true =>
    rw [c, if_pos rfl] at es t2
    obtain ⟨r1, e1, E1⟩ := x_yes C I S hl eh rm es (.inr T1) (.inr T1) (.inl rfl) (.inr T2)
    refine ⟨r1, e9_b t1 (e9_l (e9_l ?_)), E1⟩
    rw [t2, s1]
    refine e9_f (by decide) (e9_b t3 (e9_t k1 ?_))
    rw [s2]
    exact e9_b e1 rfl
  | false =>
    rw [c, if_neg (by decide)] at es t2
    obtain ⟨r1, e1, E1⟩ := x_yes C I S hl eh rm es (.inr T1) (.inl rfl) (.inl rfl) (.inr T2)
    refine ⟨r1, e9_b t1 (e9_l (e9_l ?_)), E1⟩
    rw [t2, s1]
    refine e9_t rfl (e9_b t3 (e9_t k1 ?_))
    rw [s2]
    exact e9_b e1 rfl
/-- the memory -/
theorem x_mem (C : xC h0 n b mm lo hi bo co dd cap B M) (I : xI h0 p v hb) (S : xS h0 M bo co Ts (.inr (K, z)) r) (hl : 0 < K.2.1.length) (eh : hb = Int32.ofNat K.1.length) (rm : K.2.2.length < cap) (ho : 40 ≤ v.1 ∧ v.1 ≤ 64) (h1 : v.1 < 63 → 0 ≤ v.2.1) : ∃ r', fX1_memoryAccess r 22 (Int32.ofNat v.1) = some r' ∧ xE h0 M bo co (kGo M Dc lt p v K) r' := by
  have Cr := xS_C C S
  have Ir := xS_I C I S
  have k1 := Cr.2.2.1.1.1
  have km := Cr.1.2.2.1
  have Am := Cr.2.1.2.2.2.2.1 (by decide)
  have cn := m_cnt (k := 2) km (by decide) Am
  have l8 : (spM M).length ≤ 81920 := by obtain ⟨x, -, -, -, -, -, a, -⟩ := Am; exact a
  have x63 := Int64.toNatClampNeg_lt v.2.1
  -- no memory
  have none0 : ∀ {s0 : Int32} {r1 : pm_H}, (spM M).length = 0 → fX1_fail r 22 30 = some r1 → fX1_memoryAccess_b27 r 22 (Int32.ofNat v.1) s0 = some r1 := fun {s0 r1} z e => by
    unfold fX1_memoryAccess_b27
    exact e9_t k1 (e9_b Cr.2.2.1.1.2.1 (e9_t km (e9_b cn (e9_t (by rw [z]; rfl) (e9_b e rfl)))))
  have some0 : ∀ {s0 : Int32} {Y : Option pm_H}, ¬ (spM M).length = 0 → (if s0 = 0 then ((fX1_fail r 22 30).bind fun v34 => some v34) else (if Int32.ofNat v.1 = 63 then ((fX1_plain r 22 0 0 0 127).bind fun v32 => some v32) else (if Int32.ofNat v.1 = 64 then ((fX1_plain r 22 127 0 0 127).bind fun v30 => some v30) else (if 54 ≤ Int32.ofNat v.1 then ((fX6_valueType (Int32.ofNat v.1)).bind fun v22 => (fX1_plain r 22 v22 127 0 0).bind fun v24 => some v24) else ((fX6_valueType (Int32.ofNat v.1)).bind fun v26 => (fX1_plain r 22 127 0 0 v26).bind fun v28 => some v28))))) = Y → fX1_memoryAccess_b27 r 22 (Int32.ofNat v.1) s0 = Y := fun {s0 Y} z e => by
    unfold fX1_memoryAccess_b27
    exact e9_t k1 (e9_b Cr.2.2.1.1.2.1 (e9_t km (e9_b cn (e9_f (by rw [n3_0, nn_eq (by omega) (by decide)]; exact z) e))))
  by_cases c63 : 63 ≤ v.1
  · have es := sg_mem (M := M) (Dc := Dc) (lt := lt) (x := v.2.1.toNatClampNeg) (y := v.2.2.1.toNatClampNeg) ⟨c63, ho.2⟩
    have pre : ∀ {Y : Option pm_H}, fX1_memoryAccess_b27 r 22 (Int32.ofNat v.1) 1 = Y → fX1_memoryAccess r 22 (Int32.ofNat v.1) = Y := fun {Y} h => by
      unfold fX1_memoryAccess
      exact e9_t (by rw [show (63 : Int32) = Int32.ofNat 63 from rfl, nn_le (by decide) (by omega)]; exact c63) h
    by_cases cz : (spM M).length = 0
    · rw [if_pos cz] at es
      obtain ⟨r1, e1, E1, -⟩ := x_no (Dc := Dc) (lt := lt) C I S es
      exact ⟨r1, pre (none0 cz e1), E1⟩
    · rw [if_neg cz] at es
      by_cases c : v.1 = 63
      · rw [if_pos c] at es
        obtain ⟨r1, e1, E1⟩ := x_yes C I S hl eh rm es (.inl rfl) (.inl rfl) (.inl rfl) (.inr isT_127)
        exact ⟨r1, pre (some0 cz (e9_f (by decide) (e9_t (by rw [c]; rfl) (e9_b e1 rfl)))), E1⟩
      · rw [if_neg c] at es
        have c64 : v.1 = 64 := by omega
        obtain ⟨r1, e1, E1⟩ := x_yes C I S hl eh rm es (.inr isT_127) (.inl rfl) (.inl rfl) (.inr isT_127)
        exact ⟨r1, pre (some0 cz (e9_f (by decide) (e9_f (by rw [c64]; decide) (e9_t (by rw [c64]; rfl) (e9_b e1 rfl))))), E1⟩
  · have lt63 : v.1 < 63 := Nat.not_le.mp c63
    have ev : v.2.1 = Int64.ofNat v.2.1.toNatClampNeg := (i64_nn (h1 lt63)).symm
    have es := sg_acc (M := M) (Dc := Dc) (lt := lt) (x := v.2.1.toNatClampNeg) (y := v.2.2.1.toNatClampNeg) ⟨ho.1, (by omega : v.1 ≤ 62)⟩
    obtain ⟨t1, t2, t3, t4⟩ := ac_tab ⟨v.1, lt63⟩ ho.1
    have t1 : fX6_logOfWidth (Int32.ofNat v.1) = some (Int32.ofNat (kWid v.1)) := t1
    have t3 : kWid v.1 ≤ 3 := t3
    have t4 : isT (kAcT v.1) := t4
    have c63' : ¬ (63 : Int32) ≤ Int32.ofNat v.1 := by rw [show (63 : Int32) = Int32.ofNat 63 from rfl, nn_le (by decide) (by omega)]; exact c63
    have n63 : ¬ Int32.ofNat v.1 = 63 := by rw [show (63 : Int32) = Int32.ofNat 63 from rfl, nn_eq (by omega) (by decide)]; omega
    have n64 : ¬ Int32.ofNat v.1 = 64 := by rw [show (64 : Int32) = Int32.ofNat 64 from rfl, nn_eq (by omega) (by decide)]; omega
    have cw : ((Int32.ofNat (kWid v.1)).toInt64 < pm_L r 19 8) = (kWid v.1 < v.2.1.toNatClampNeg) := by
      rw [Ir.2.2.1, nn_t6 (by omega)]
      exact (congrArg (Int64.ofNat (kWid v.1) < ·) ev).trans (ll_lt (by omega) x63)
    by_cases cb : kWid v.1 < v.2.1.toNatClampNeg
    · rw [if_pos (.inr cb)] at es
      obtain ⟨r1, e1, E1, -⟩ := x_no (Dc := Dc) (lt := lt) C I S es
      refine ⟨r1, ?_, E1⟩
      unfold fX1_memoryAccess
      refine e9_f c63' (e9_t k1 (e9_b Cr.2.2.1.1.2.2 (e9_t Cr.1.1 (e9_b t1 (e9_t (by rw [cw]; exact cb) ?_)))))
      by_cases cz : (spM M).length = 0
      · exact none0 cz e1
      · exact some0 cz (e9_t rfl (e9_b e1 rfl))
    · have pre : ∀ {Y : Option pm_H}, fX1_memoryAccess_b27 r 22 (Int32.ofNat v.1) 1 = Y → fX1_memoryAccess r 22 (Int32.ofNat v.1) = Y := fun {Y} h => by
        unfold fX1_memoryAccess
        exact e9_f c63' (e9_t k1 (e9_b Cr.2.2.1.1.2.2 (e9_t Cr.1.1 (e9_b t1 (e9_f (by rw [cw]; exact cb) h)))))
      by_cases cz : (spM M).length = 0
      · rw [if_pos (.inl cz)] at es
        obtain ⟨r1, e1, E1, -⟩ := x_no (Dc := Dc) (lt := lt) C I S es
        exact ⟨r1, pre (none0 cz e1), E1⟩
      · rw [if_neg (fun h => h.elim cz cb)] at es
        by_cases c54 : v.1 < 54
        · rw [if_pos c54] at es
          obtain ⟨r1, e1, E1⟩ := x_yes C I S hl eh rm es (.inr isT_127) (.inl rfl) (.inl rfl) (.inr t4)
          exact ⟨r1, pre (some0 cz (e9_f (by decide) (e9_f n63 (e9_f n64 (e9_f (by rw [show (54 : Int32) = Int32.ofNat 54 from rfl, nn_le (by decide) (by omega)]; omega) (e9_b t2 (e9_b e1 rfl))))))), E1⟩
        · rw [if_neg c54] at es
          obtain ⟨r1, e1, E1⟩ := x_yes C I S hl eh rm es (.inr t4) (.inr isT_127) (.inl rfl) (.inl rfl)
          exact ⟨r1, pre (some0 cz (e9_f (by decide) (e9_f n63 (e9_f n64 (e9_t (by rw [show (54 : Int32) = Int32.ofNat 54 from rfl, nn_le (by decide) (by omega)]; omega) (e9_b t2 (e9_b e1 rfl))))))), E1⟩
end XOPR
