/-! THE CLASS CHECKS: variables -/
/-- the locals of a body -/
def xLo (h : pm_H) (lt : Nat → Option Nat) : Prop := ∃ lc, pm_I h 22 12 = Int32.ofNat lc ∧ lc ≤ 1016 ∧ (∀ i, lc ≤ i → lt i = none) ∧ ∀ i, i < lc → ∃ ty, lt i = some ty ∧ pm_I h 26 i = Int32.ofNat ty ∧ isT ty
section XGLO
variable {h0 r r' : pm_H} {n b mm lo hi bo co dd cap : Nat} {B : Nat → Nat} {M : tMd} {Ts : List Int64} {o : sp_O tK} {p w s f x y z i j k lc ty : Nat} {v : sp_I} {hb : Int32} {K : tK} {t : Int64} {Dc : Nat → Bool} {lt : Nat → Option Nat}
theorem kPl_3 {op a c hb : Int32} (x1 x4 : Nat) : kPl p op a c hb x1 0 0 x4 K = sp_b (kTk p x1 K) fun K _ => sp_b (kPt p x4 K) fun K _ => .inr (kEm K op a c (kCc x1 0 0 x4) hb, 0) := by
  unfold kPl
  refine sp_cg fun K1 z1 _ => ?_
  rw [show kTk p 0 K1 = .inr (K1, 0) by unfold kTk; rw [if_pos rfl], sp_br, show kTk p 0 K1 = .inr (K1, 0) by unfold kTk; rw [if_pos rfl], sp_br]
theorem x_v120 (C : xC h0 n b mm lo hi bo co dd cap B M) (I : xI h0 p v hb) (S : xS h0 M bo co Ts (.inr (K, z)) r) (hl : 0 < K.2.1.length) (rm : K.2.2.length < cap) (ho : 32 ≤ v.1 ∧ v.1 ≤ 36) (ht : isT ty) : ∃ r', fX1_variable_b120 r 22 (Int32.ofNat v.1) (Int32.ofNat ty) = some r' ∧ xS h0 M bo co Ts (kPl p (Int32.ofNat v.1) v.2.1.toInt32 v.2.2.1.toInt32 hb (if v.1 = 33 ∨ v.1 = 34 ∨ v.1 = 36 then ty else 0) 0 0 (if v.1 = 32 ∨ v.1 = 34 ∨ v.1 = 35 then ty else 0) K) r' := by
  obtain ⟨W, kl, tl, tp, -, -⟩ := xS_a S hl
  have k1 := (xS_C C S).2.2.1.1.1
  have t0 : ty ≠ 0 := fun e => by rw [e] at ht; exact absurd ht (by decide)
  have is : ∀ c : Nat, c < 1000 → (Int32.ofNat v.1 = Int32.ofNat c) = (v.1 = c) := fun c hc => nn_eq (by omega) (by omega)
  have i32 : (Int32.ofNat v.1 = 32) = (v.1 = 32) := is 32 (by decide)
  have i33 : (Int32.ofNat v.1 = 33) = (v.1 = 33) := is 33 (by decide)
  have i34 : (Int32.ofNat v.1 = 34) = (v.1 = 34) := is 34 (by decide)
  have i35 : (Int32.ofNat v.1 = 35) = (v.1 = 35) := is 35 (by decide)
  have i36 : (Int32.ofNat v.1 = 36) = (v.1 = 36) := is 36 (by decide)
  have kt0 : ∀ K, kTk p 0 K = .inr (K, 0) := fun K => by unfold kTk; rw [if_pos rfl]
  have kp0 : ∀ K, kPt p 0 K = .inr (K, 0) := fun K => by unfold kPt; rw [if_pos rfl]
  have kt1 : ∀ K, kTk p ty K = sp_b (kTake p ty K) fun y _ => .inr (y.2, 0) := fun K => by unfold kTk; rw [if_neg t0]
  have kp1 : ∀ K, kPt p ty K = kPut p ty K := fun K => by unfold kPt; rw [if_neg t0]
  rw [kPl_3]
  unfold fX1_variable_b120
  by_cases c1 : v.1 = 32 ∨ v.1 = 35
  · rw [if_neg (show ¬ (v.1 = 33 ∨ v.1 = 34 ∨ v.1 = 36) by omega), if_pos (show v.1 = 32 ∨ v.1 = 34 ∨ v.1 = 35 by omega), kt0, sp_br, kp1]
    obtain ⟨r1, e1, S1⟩ := x_put (w := ty) C I S (fun _ _ _ => .inr ht)
    rw [sp_br] at S1
    obtain ⟨r2, e2, S2⟩ := x_epl (a1 := 0) (a2 := 1) C I S1 tp tl (fun K1 z1 e => by rw [kPut_2 e]; exact rm)
    have kc : kCc 0 0 0 ty = 2 * (0 : Int32) + (if (1 : Int32) = 0 then 0 else 1) := by unfold kCc; rw [if_pos rfl, if_neg t0]; rfl
    rw [kc]
    refine ⟨r2, e9_f (by rw [i33]; omega) (e9_f (by rw [i34]; omega) (e9_f (by rw [i36]; omega) ?_)), S2⟩
    have q : fX1_variable_b165 r 22 (Int32.ofNat v.1) (Int32.ofNat ty) = some r2 := by
      unfold fX1_variable_b165 fX1_variable_b171
      refine e9_t k1 (e9_b e1 (e9_f (by rw [i33]; omega) (e9_f (by rw [i34]; omega) (e9_f (by rw [i36]; omega) ?_))))
      rcases c1 with c | c
      · exact e9_t (by rw [i32]; exact c) (e9_t (xS_C C S1).2.2.1.1.1 (e9_b e2 rfl))
      · exact e9_f (by rw [i32]; omega) (e9_f (by rw [i34]; omega) (e9_t (by rw [i35]; exact c) (e9_t (xS_C C S1).2.2.1.1.1 (e9_b e2 rfl))))
    unfold fX1_variable_b147
    rcases c1 with c | c
    · exact e9_t (by rw [i32]; exact c) q
    · exact e9_f (by rw [i32]; omega) (e9_f (by rw [i34]; omega) (e9_t (by rw [i35]; exact c) q))
  · obtain ⟨u, r1, e1, S1, -⟩ := x_take (w := ty) C I S tp (.inr ht)
    have C1 := xS_C C S1
    rw [sp_br] at S1
    have r1m : ∀ K1 z1, (sp_b (kTake p ty K) fun y _ => (.inr (y.2, 0) : sp_O tK)) = .inr (K1, z1) → K1.2 = K.2 := fun K1 z1 e => by
      obtain ⟨y, z2, q1, q2⟩ := b_inv e
      cases q2
      exact kTake_2 q1
    by_cases c2 : v.1 = 34
    · rw [if_pos (show v.1 = 33 ∨ v.1 = 34 ∨ v.1 = 36 by omega), if_pos (show v.1 = 32 ∨ v.1 = 34 ∨ v.1 = 35 by omega), kt1]
      obtain ⟨r2, e2, S2⟩ := x_put (w := ty) C I S1 (fun _ _ _ => .inr ht)
      obtain ⟨r3, e3, S3⟩ := x_epl (a1 := 1) (a2 := 1) C I S2 tp tl (fun K2 z2 e => by
        obtain ⟨K1, z1, q1, q2⟩ := b_inv e
        rw [kPut_2 q2, r1m K1 z1 q1]; exact rm)
      have kc : kCc ty 0 0 ty = 2 * (1 : Int32) + (if (1 : Int32) = 0 then 0 else 1) := by unfold kCc; rw [if_neg t0, if_pos rfl]; rfl
      refine ⟨r3, e9_f (by rw [i33]; omega) (e9_t (by rw [i34]; exact c2) ?_), xS_e ?_ S3⟩
      · unfold fX1_variable_b140 fX1_variable_b147
        refine e9_t k1 (e9_b e1 (e9_f (by rw [i32]; omega) (e9_t (by rw [i34]; exact c2) ?_)))
        unfold fX1_variable_b165 fX1_variable_b171
        refine e9_t C1.2.2.1.1.1 (e9_b e2 (e9_f (by rw [i33]; omega) (e9_t (by rw [i34]; exact c2) ?_)))
        unfold fX1_variable_b189
        exact e9_f (by rw [i32]; omega) (e9_t (by rw [i34]; exact c2) (e9_t (xS_C C S2).2.2.1.1.1 (e9_b e3 rfl)))
      · rw [kc, sp_as]
        refine sp_cg fun K1 z1 _ => ?_
        rw [kp1]
    · have c3 : v.1 = 33 ∨ v.1 = 36 := by omega
      rw [if_pos (show v.1 = 33 ∨ v.1 = 34 ∨ v.1 = 36 by omega), if_neg (show ¬ (v.1 = 32 ∨ v.1 = 34 ∨ v.1 = 35) by omega), kt1]
      obtain ⟨r2, e2, S2⟩ := x_epl (a1 := 1) (a2 := 0) C I S1 tp tl (fun K1 z1 e => by rw [r1m K1 z1 e]; exact rm)
      have kc : kCc ty 0 0 0 = 2 * (1 : Int32) + (if (0 : Int32) = 0 then 0 else 1) := by unfold kCc; rw [if_neg t0, if_pos rfl]; rfl
      have q2 : fX1_variable_b189 r1 22 (Int32.ofNat v.1) = some r2 := by
        unfold fX1_variable_b189
        exact e9_f (by rw [i32]; omega) (e9_f (by rw [i34]; omega) (e9_f (by rw [i35]; omega) (e9_t C1.2.2.1.1.1 (e9_b e2 rfl))))
      have q3 : fX1_variable_b140 r 22 (Int32.ofNat v.1) (Int32.ofNat ty) = some r2 := by
        unfold fX1_variable_b140 fX1_variable_b147
        refine e9_t k1 (e9_b e1 (e9_f (by rw [i32]; omega) (e9_f (by rw [i34]; omega) (e9_f (by rw [i35]; omega) ?_))))
        unfold fX1_variable_b171
        rcases c3 with c | c
        · exact e9_t (by rw [i33]; exact c) q2
        · exact e9_f (by rw [i33]; omega) (e9_f (by rw [i34]; omega) (e9_t (by rw [i36]; exact c) q2))
      refine ⟨r2, ?_, xS_e ?_ S2⟩
      · rcases c3 with c | c
        · exact e9_t (by rw [i33]; exact c) q3
        · exact e9_f (by rw [i33]; omega) (e9_f (by rw [i34]; omega) (e9_t (by rw [i36]; exact c) q3))
      · rw [kc]
        refine sp_cg fun K1 z1 _ => ?_
        rw [kp0, sp_br]
/-- variables -/
theorem x_var (C : xC h0 n b mm lo hi bo co dd cap B M) (I : xI h0 p v hb) (S : xS h0 M bo co Ts (.inr (K, z)) r) (hl : 0 < K.2.1.length) (eh : hb = Int32.ofNat K.1.length) (rm : K.2.2.length < cap) (ho : 32 ≤ v.1 ∧ v.1 ≤ 36) (h1 : 0 ≤ v.2.1) (L : xLo h0 lt) (hG : ∀ g, g ∈ spG M → isT g.1.2.1 ∧ g.1.2.2.2.2 < 256) : ∃ r', fX1_variable r 22 (Int32.ofNat v.1) = some r' ∧ xE h0 M bo co (kGo M Dc lt p v K) r' := by
  have Cr := xS_C C S
  have Ir := xS_I C I S
  have k1 := Cr.2.2.1.1.1
  have km := Cr.1.2.2.1
  have aa := C.2.2.2.1
  obtain ⟨l1, l2, l3⟩ := Cr.2.2.1.2.2.2.2.1
  obtain ⟨lc, o1, o2, o3, o4⟩ := L
  have o1 : pm_I r 22 12 = Int32.ofNat lc := (S.1.2.2.2.2.1 22 12 (by unfold xAI; omega)).trans o1
  have o5 : ∀ i, pm_I r 26 i = pm_I h0 26 i := fun i => S.1.2.2.2.2.1 26 i (by unfold xAI; omega)
  obtain ⟨x, ex⟩ : ∃ x, x = v.2.1.toNatClampNeg := ⟨_, rfl⟩
  have ev : v.2.1 = Int64.ofNat x := by rw [ex]; exact (i64_nn h1).symm
  have x63 : x < 9223372036854775808 := by rw [ex]; exact Int64.toNatClampNeg_lt _
  obtain ⟨q, eq⟩ : ∃ q, q = if x ≤ 2147483647 then x else 2147483647 := ⟨_, rfl⟩
  have q32 : q < 2147483648 := by rw [eq]; split <;> omega
  have lt34 : (34 < Int32.ofNat v.1) = (34 < v.1) := by rw [show (34 : Int32) = Int32.ofNat 34 from rfl, nn_lt (by decide) (by omega)]
  have i36 : (Int32.ofNat v.1 = 36) = (v.1 = 36) := nn_eq (n := 36) (by omega) (by decide)
  obtain ⟨rf, ef, Sf⟩ := x_fail (w := 30) C I S ⟨by decide, by decide⟩
  rw [sp_br] at Sf
  have no : kSg M Dc lt v.1 x v.2.2.1.toNatClampNeg = none → xE h0 M bo co (kGo M Dc lt p v K) rf := fun e => by
    rw [ex] at e
    rw [kGo_n e]
    exact ⟨Ts, Sf⟩
  have b740 : ∀ {X s0 : Int32}, fX1_variable_b74 r 22 (Int32.ofNat v.1) X 0 s0 = some rf := fun {X s0} => by
    unfold fX1_variable_b74
    exact e9_t rfl (e9_t k1 (e9_b ef rfl))
  by_cases c34 : v.1 ≤ 34
  · -- a local
    have es := sg_loc (M := M) (Dc := Dc) (lt := lt) (x := v.2.1.toNatClampNeg) (y := v.2.2.1.toNatClampNeg) ⟨ho.1, c34⟩
    rw [← ex] at es
    have n36 : ¬ Int32.ofNat v.1 = 36 := by rw [i36]; omega
    have pre : ∀ {Y : Option pm_H}, (if Int32.ofNat lc ≤ Int32.ofNat q then (fX1_variable_b43 r 22 (Int32.ofNat v.1) (Int32.ofNat q) 0) else (fX1_variable_b43 r 22 (Int32.ofNat v.1) (Int32.ofNat q) 1)) = Y → fX1_variable r 22 (Int32.ofNat v.1) = Y := fun {Y} h => by
      unfold fX1_variable
      refine e9_t k1 (e9_b Cr.2.2.1.1.2.2 (e9_t Cr.1.1 (e9_l (e9_f (by rw [lt34]; omega) ?_))))
      rw [Ir.2.2.1, ev, idx_v x63, ← eq, o1]
      exact h
    by_cases c : lc ≤ x
    · rw [o3 x c] at es
      refine ⟨rf, pre (e9_t (by rw [nn_le (by omega) q32, eq]; split <;> omega) ?_), no es⟩
      unfold fX1_variable_b43
      exact e9_f n36 b740
    · obtain ⟨ty, t1, t2, t3⟩ := o4 x (by omega)
      rw [t1] at es
      have xq : q = x := by rw [eq, if_pos (by omega)]
      obtain ⟨r1, e1, S1⟩ := x_v120 C I S hl rm ho t3
      refine ⟨r1, pre (e9_f (by rw [nn_le (by omega) q32, xq]; exact c) ?_), ?_⟩
      · unfold fX1_variable_b43 fX1_variable_b73 fX1_variable_b74
        refine e9_f n36 (e9_f (by decide) (e9_t rfl (e9_f (by rw [lt34]; omega) (e9_t k1 (e9_b l1 ?_)))))
        have it : fX12_item r 26 (Int32.ofNat q) = some (Int32.ofNat ty) := by rw [← t2, ← o5, xq]; exact it_v l2 (by omega) (by omega)
        exact e9_b it e1
      · have es : kSg M Dc lt v.1 x v.2.2.1.toNatClampNeg = if v.1 = 32 then some (0, 0, 0, ty) else if v.1 = 33 then some (ty, 0, 0, 0) else some (ty, 0, 0, ty) := es
        have es2 : kSg M Dc lt v.1 v.2.1.toNatClampNeg v.2.2.1.toNatClampNeg = some ((if v.1 = 33 ∨ v.1 = 34 ∨ v.1 = 36 then ty else 0), 0, 0, (if v.1 = 32 ∨ v.1 = 34 ∨ v.1 = 35 then ty else 0)) := by
          rw [← ex, es]
          rcases (show v.1 = 32 ∨ v.1 = 33 ∨ v.1 = 34 by omega) with e | e | e
          · rw [e]; rfl
          · rw [e]; rfl
          · rw [e]; rfl
        rw [kGo_s es2, ← eh]
        exact ⟨Ts, S1⟩
  · -- a global
    have es := sg_glo (M := M) (Dc := Dc) (lt := lt) (x := v.2.1.toNatClampNeg) (y := v.2.2.1.toNatClampNeg) (op := v.1) ⟨by omega, ho.2⟩
    rw [← ex] at es
    have Ag := Cr.2.1.2.2.2.2.2.1 (by decide)
    have hs := m_has (k := 3) (i := q) km (by decide) Ag (by omega)
    have l8 : (spG M).length ≤ 81920 := by obtain ⟨x, -, -, -, -, -, a, -⟩ := Ag; exact a
    have pre : ∀ {Y : Option pm_H}, fX1_variable_b43 r 22 (Int32.ofNat v.1) (Int32.ofNat q) (if q < (spG M).length then 1 else 0) = Y → fX1_variable r 22 (Int32.ofNat v.1) = Y := fun {Y} h => by
      unfold fX1_variable
      refine e9_t k1 (e9_b Cr.2.2.1.1.2.2 (e9_t Cr.1.1 (e9_l (e9_t (by rw [lt34]; omega) (e9_b Cr.2.2.1.1.2.1 (e9_t km ?_))))))
      rw [Ir.2.2.1, ev, idx_v x63, ← eq, nn_t6 q32]
      exact e9_b hs h
    cases eg : (spG M)[x]? with
    | none =>
      rw [eg] at es
      have nx : ¬ q < (spG M).length := by
        have := List.getElem?_eq_none_iff.mp eg
        rw [eq]; split <;> omega
      rw [if_neg nx] at pre
      refine ⟨rf, pre ?_, no es⟩
      unfold fX1_variable_b43
      by_cases c36 : Int32.ofNat v.1 = 36
      · exact e9_t c36 (e9_t rfl b740)
      · exact e9_f c36 b740
    | some g =>
      rw [eg] at es
      have xl := some_lt eg
      have xq : q = x := by rw [eq, if_pos (by omega)]
      have yx : q < (spG M).length := by rw [xq]; exact xl
      rw [if_pos yx] at pre
      obtain ⟨g1, g2⟩ := hG g (List.mem_of_getElem? eg)
      obtain ⟨xt, xe, e1, pe⟩ := m_of (k := 3) (j := 1) km (by decide) Ag yx (by decide)
      obtain ⟨xt2, xe2, e2, pe2⟩ := m_of (k := 3) (j := 2) km (by decide) Ag yx (by decide)
      rw [xe] at xe2
      cases xe2
      obtain ⟨-, y1, y2, -⟩ := pe g (by rw [xq]; exact eg)
      rw [y1] at e1
      rw [y2] at e2
      obtain ⟨r1, e3, S1⟩ := x_v120 C I S hl rm ho g1
      have b74 : fX1_variable_b74 r 22 (Int32.ofNat v.1) (Int32.ofNat q) 1 0 = some r1 := by
        unfold fX1_variable_b74
        refine e9_f (by decide) (e9_t rfl (e9_t (by rw [lt34]; omega) (e9_t k1 (e9_b Cr.2.2.1.1.2.1 (e9_t km (e9_b e1 ?_))))))
        rw [ll_t3]
        exact e3
      have es : kSg M Dc lt v.1 x v.2.2.1.toNatClampNeg = if v.1 = 35 then some (0, 0, 0, g.1.2.1) else if g.1.2.2.2.2 = 0 then none else some (g.1.2.1, 0, 0, 0) := es
      have fin : (v.1 = 35 ∨ g.1.2.2.2.2 ≠ 0) → xE h0 M bo co (kGo M Dc lt p v K) r1 := fun h => by
        have es2 : kSg M Dc lt v.1 v.2.1.toNatClampNeg v.2.2.1.toNatClampNeg = some ((if v.1 = 33 ∨ v.1 = 34 ∨ v.1 = 36 then g.1.2.1 else 0), 0, 0, (if v.1 = 32 ∨ v.1 = 34 ∨ v.1 = 35 then g.1.2.1 else 0)) := by
          rw [← ex, es]
          by_cases e : v.1 = 35
          · rw [if_pos e, if_neg (by omega), if_pos (by omega)]
          · rw [if_neg e, if_neg (h.resolve_left e), if_pos (by omega), if_neg (by omega)]
        rw [kGo_s es2, ← eh]
        exact ⟨Ts, S1⟩
      by_cases c35 : v.1 = 35
      · refine ⟨r1, pre ?_, fin (.inl c35)⟩
        unfold fX1_variable_b43
        exact e9_f (by rw [i36]; omega) b74
      · have c36 : v.1 = 36 := by omega
        have mu : (Int64.ofNat g.1.2.2.2.2 = 0) = (g.1.2.2.2.2 = 0) := by rw [show (0 : Int64) = Int64.ofNat 0 from rfl, ll_eq (by omega) (by decide)]
        by_cases cm : g.1.2.2.2.2 = 0
        · rw [if_neg c35, if_pos cm] at es
          refine ⟨rf, pre ?_, no es⟩
          unfold fX1_variable_b43
          refine e9_t (by rw [i36]; exact c36) (e9_f (by decide) (e9_t k1 (e9_b Cr.2.2.1.1.2.1 (e9_t km (e9_b e2 (e9_t (by rw [mu]; exact cm) ?_))))))
          unfold fX1_variable_b74
          exact e9_f (by decide) (e9_f (by decide) (e9_t k1 (e9_b ef rfl)))
        · refine ⟨r1, pre ?_, fin (.inr cm)⟩
          unfold fX1_variable_b43
          exact e9_t (by rw [i36]; exact c36) (e9_f (by decide) (e9_t k1 (e9_b Cr.2.2.1.1.2.1 (e9_t km (e9_b e2 (e9_f (by rw [mu]; exact cm) b74))))))
end XGLO
