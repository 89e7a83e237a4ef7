/-! THE CLASS CHECKS: what takes up to three and puts one, the choices, the constants -/
section XPLN
variable {h0 r r' : pm_H} {n b mm lo hi bo co dd cap : Nat} {B : Nat → Nat} {M : tMd} {Ts : List Int64} {o : sp_O tK} {p w s f x y z x1 x2 x3 x4 : Nat} {v : sp_I} {hb op a1 a2 a3 : Int32} {K : tK} {t : Int64} {g : Bool}
theorem ow_8 (hw : w = 0 ∨ isT w) : w < 128 := by
  rcases hw with e | e
  · omega
  · exact isT_lt e
theorem ow_0 (hw : w = 0 ∨ isT w) : (Int32.ofNat w = 0) = (w = 0) := by
  have w8 := ow_8 hw
  rw [show (0 : Int32) = Int32.ofNat 0 from rfl, nn_eq (by omega) (by decide)]
theorem x_tkz (C : xC h0 n b mm lo hi bo co dd cap B M) (I : xI h0 p v hb) (S : xS h0 M bo co Ts o r) (hl : 0 < Ts.length) (hw : w = 0 ∨ isT w) : ∃ r1, xS h0 M bo co Ts (sp_b o fun K _ => kTk p w K) r1 ∧ ∀ {α : Type} (A : pm_H → Option α) {Y : Option α}, A r1 = Y → (if Int32.ofNat w = 0 then A r else if pm_kd r 22 = 1 then (fX1_take r 22 (Int32.ofNat w)).bind fun v => A v.2 else none) = Y := by
  have k1 := (xS_C C S).2.2.1.1.1
  by_cases c : w = 0
  · refine ⟨r, ?_, fun A Y h => e9_t (by rw [c]; rfl) h⟩
    cases o with
    | inl q => exact S
    | inr y => rw [sp_br, show kTk p w y.1 = .inr (y.1, 0) by unfold kTk; rw [if_pos c]]; exact S
  · obtain ⟨u, r1, e1, S1, -⟩ := x_take C I S hl hw
    refine ⟨r1, xS_e (sp_cg fun K z _ => ?_) S1, fun A Y h => e9_f (by rw [ow_0 hw]; exact c) (e9_t k1 (e9_b e1 h))⟩
    unfold kTk
    rw [if_neg c]
theorem x_ptz (C : xC h0 n b mm lo hi bo co dd cap B M) (I : xI h0 p v hb) (S : xS h0 M bo co Ts o r) (hw : w = 0 ∨ isT w) : ∃ r1, xS h0 M bo co Ts (sp_b o fun K _ => kPt p w K) r1 ∧ ∀ {α : Type} (A : pm_H → Option α) {Y : Option α}, A r1 = Y → (if Int32.ofNat w = 0 then A r else if pm_kd r 22 = 1 then (fX1_put r 22 (Int32.ofNat w)).bind fun v => A v else none) = Y := by
  have k1 := (xS_C C S).2.2.1.1.1
  by_cases c : w = 0
  · refine ⟨r, ?_, fun A Y h => e9_t (by rw [c]; rfl) h⟩
    cases o with
    | inl q => exact S
    | inr y => rw [sp_br, show kPt p w y.1 = .inr (y.1, 0) by unfold kPt; rw [if_pos c]]; exact S
  · obtain ⟨r1, e1, S1⟩ := x_put C I S (fun _ _ _ => hw)
    refine ⟨r1, xS_e (sp_cg fun K z _ => ?_) S1, fun A Y h => e9_f (by rw [ow_0 hw]; exact c) (e9_t k1 (e9_b e1 h))⟩
    unfold kPt
    rw [if_neg c]
/-- the row of it -/
def plE (h : pm_H) (c : Int32) : Option pm_H := if pm_kd h 22 = 1 then (pm_R h 22 3).bind fun v23 => if pm_kd h v23 = 9 then (fX1_emit h 22 (pm_I h v23 6) ((pm_L h v23 8).toInt32) ((pm_L h v23 9).toInt32) c).bind fun v27 => some v27.2 else none else none
theorem pl_b69 {h : pm_H} {s0 s1 : Int32} (h4 : x4 = 0 ∨ isT x4) : fX1_plain_b69 h 22 (Int32.ofNat x4) s0 s1 = plE h (2 * (s1 + s0) + if x4 = 0 then 0 else 1) := by
  unfold fX1_plain_b69 plE
  by_cases d : x4 = 0
  · have c : Int32.ofNat x4 = 0 := by rw [ow_0 h4]; exact d
    simp only [if_pos c, if_pos d]
    rfl
  · have c : ¬ Int32.ofNat x4 = 0 := by rw [ow_0 h4]; exact d
    simp only [if_neg c, if_neg d]
    rfl
theorem pl_b59 {h : pm_H} {X s0 s1 : Int32} (h3 : x3 = 0 ∨ isT x3) : fX1_plain_b59 h 22 (Int32.ofNat x3) X s0 s1 = fX1_plain_b69 h 22 X (if x3 = 0 then 0 else 1) (s1 + s0) := by
  unfold fX1_plain_b59
  by_cases d : x3 = 0
  · rw [if_pos (show Int32.ofNat x3 = 0 by rw [ow_0 h3]; exact d), if_pos d]
  · rw [if_neg (show ¬ Int32.ofNat x3 = 0 by rw [ow_0 h3]; exact d), if_neg d]
theorem pl_b50 {h : pm_H} {X Y s0 : Int32} (h3 : x3 = 0 ∨ isT x3) : fX1_plain_b50 h 22 (Int32.ofNat x3) X Y s0 = fX1_plain_b59 h 22 X Y (if x3 = 0 then 0 else 1) s0 := by
  unfold fX1_plain_b50
  by_cases d : x3 = 0
  · rw [if_pos (show Int32.ofNat x3 = 0 by rw [ow_0 h3]; exact d), if_pos d]
  · rw [if_neg (show ¬ Int32.ofNat x3 = 0 by rw [ow_0 h3]; exact d), if_neg d]
theorem pl_b41 {h : pm_H} (h1 : x1 = 0 ∨ isT x1) (h2 : x2 = 0 ∨ isT x2) (h3 : x3 = 0 ∨ isT x3) (h4 : x4 = 0 ∨ isT x4) : fX1_plain_b41 h 22 (Int32.ofNat x1) (Int32.ofNat x2) (Int32.ofNat x3) (Int32.ofNat x4) = plE h (kCc x1 x2 x3 x4) := by
  have e : fX1_plain_b41 h 22 (Int32.ofNat x1) (Int32.ofNat x2) (Int32.ofNat x3) (Int32.ofNat x4) = fX1_plain_b50 h 22 (Int32.ofNat x2) (Int32.ofNat x3) (Int32.ofNat x4) (if x1 = 0 then 0 else 1) := by
    unfold fX1_plain_b41
    by_cases d : x1 = 0
    · rw [if_pos (show Int32.ofNat x1 = 0 by rw [ow_0 h1]; exact d), if_pos d]
    · rw [if_neg (show ¬ Int32.ofNat x1 = 0 by rw [ow_0 h1]; exact d), if_neg d]
  rw [e, pl_b50 h2, pl_b59 h3, pl_b69 h4]
  rfl
/-- up to three taken, one put -/
theorem x_pln (C : xC h0 n b mm lo hi bo co dd cap B M) (I : xI h0 p v hb) (S : xS h0 M bo co Ts o r) (hl : 0 < Ts.length) (tl : Ts.length ≤ 200) (rm : ∀ K z, o = .inr (K, z) → K.2.2.length < cap) (h1 : x1 = 0 ∨ isT x1) (h2 : x2 = 0 ∨ isT x2) (h3 : x3 = 0 ∨ isT x3) (h4 : x4 = 0 ∨ isT x4) : ∃ r', fX1_plain r 22 (Int32.ofNat x1) (Int32.ofNat x2) (Int32.ofNat x3) (Int32.ofNat x4) = some r' ∧ xS h0 M bo co Ts (sp_b o fun K _ => kPl p (Int32.ofNat v.1) v.2.1.toInt32 v.2.2.1.toInt32 hb x1 x2 x3 x4 K) r' := by
  obtain ⟨r1, S1, q1⟩ := x_tkz C I S hl h1
  obtain ⟨r2, S2, q2⟩ := x_tkz C I S1 hl h2
  obtain ⟨r3, S3, q3⟩ := x_tkz C I S2 hl h3
  obtain ⟨r4, S4, q4⟩ := x_ptz C I S3 h4
  have C4 := xS_C C S4
  have I4 := xS_I C I S4
  obtain ⟨u, r5, e5, S5, -⟩ := x_emt (op := Int32.ofNat v.1) (a1 := v.2.1.toInt32) (a2 := v.2.2.1.toInt32) (a3 := kCc x1 x2 x3 x4) C I S4 hl tl (fun K4 z4 e => by
    obtain ⟨K3, z3, e, f4⟩ := b_inv e
    obtain ⟨K2, z2, e, f3⟩ := b_inv e
    obtain ⟨K1, z1, e, f2⟩ := b_inv e
    obtain ⟨K0, z0, e, f1⟩ := b_inv e
    rw [kPt_2 f4, kTk_2 f3, kTk_2 f2, kTk_2 f1]
    exact rm K0 z0 e)
  refine ⟨r5, ?_, xS_e ?_ S5⟩
  · unfold fX1_plain
    refine q1 (fun h => fX1_plain_b10 h 22 (Int32.ofNat x1) (Int32.ofNat x2) (Int32.ofNat x3) (Int32.ofNat x4)) ?_
    unfold fX1_plain_b10
    refine q2 (fun h => fX1_plain_b20 h 22 (Int32.ofNat x1) (Int32.ofNat x2) (Int32.ofNat x3) (Int32.ofNat x4)) ?_
    unfold fX1_plain_b20
    refine q3 (fun h => fX1_plain_b30 h 22 (Int32.ofNat x1) (Int32.ofNat x2) (Int32.ofNat x3) (Int32.ofNat x4)) ?_
    unfold fX1_plain_b30
    refine q4 (fun h => fX1_plain_b41 h 22 (Int32.ofNat x1) (Int32.ofNat x2) (Int32.ofNat x3) (Int32.ofNat x4)) ?_
    rw [pl_b41 h1 h2 h3 h4]
    unfold plE
    refine e9_t C4.2.2.1.1.1 (e9_b C4.2.2.1.1.2.2 (e9_t C4.1.1 ?_))
    rw [I4.1, I4.2.2.1, I4.2.2.2.1]
    exact e9_b e5 rfl
  · unfold kPl
    rw [sp_as, sp_as, sp_as, sp_as]
/-- a row of the instruction itself -/
theorem x_epl (C : xC h0 n b mm lo hi bo co dd cap B M) (I : xI h0 p v hb) (S : xS h0 M bo co Ts o r) (hl : 0 < Ts.length) (tl : Ts.length ≤ 200) (rm : ∀ K z, o = .inr (K, z) → K.2.2.length < cap) : ∃ r', fX1_emitPlain r 22 a1 a2 = some r' ∧ xS h0 M bo co Ts (sp_b o fun K _ => .inr (kEm K (Int32.ofNat v.1) v.2.1.toInt32 v.2.2.1.toInt32 (2 * a1 + if a2 = 0 then 0 else 1) hb, 0)) r' := by
  have Cr := xS_C C S
  have Ir := xS_I C I S
  obtain ⟨u, r5, e5, S5, -⟩ := x_emt (op := Int32.ofNat v.1) (a1 := v.2.1.toInt32) (a2 := v.2.2.1.toInt32) (a3 := 2 * a1 + if a2 = 0 then 0 else 1) C I S hl tl rm
  refine ⟨r5, ?_, S5⟩
  unfold fX1_emitPlain
  refine e9_t Cr.2.2.1.1.1 (e9_b Cr.2.2.1.1.2.2 (e9_t Cr.1.1 ?_))
  rw [Ir.1, Ir.2.2.1, Ir.2.2.2.1]
  by_cases c : a2 = 0
  · rw [if_pos c] at e5; exact e9_t c (e9_b e5 rfl)
  · rw [if_neg c] at e5; exact e9_f c (e9_b e5 rfl)
theorem u32_sh (X : Int64) : ((X.toUInt64 >>> ((32 : Int32).toInt64.toUInt64 &&& Int64.toUInt64 63)).toInt64).toInt32 = (X >>> 32).toInt32 := by
  apply Int32.toBitVec_inj.mp
  rw [Int64.toBitVec_toInt32, Int64.toBitVec_toInt32, Int64.toBitVec_shiftRight]
  have e1 : (X.toUInt64 >>> ((32 : Int32).toInt64.toUInt64 &&& Int64.toUInt64 63)).toInt64.toBitVec = X.toBitVec >>> 32 := by
    have : (32 : Int32).toInt64.toUInt64 &&& Int64.toUInt64 63 = 32 := by decide
    rw [this]
    rfl
  have e2 : (32 : Int64).toBitVec.smod 64 = 32#64 := by decide
  rw [e1, e2, BitVec.sshiftRight_eq']
  apply BitVec.eq_of_getLsbD_eq
  intro i hi
  rw [BitVec.getLsbD_signExtend, BitVec.getLsbD_signExtend, if_pos (show i < 64 by omega), if_pos (show i < 64 by omega), BitVec.getLsbD_ushiftRight, BitVec.getLsbD_sshiftRight, show (32#64).toNat = 32 from rfl, decide_eq_false (show ¬ 64 ≤ i by omega), if_pos (show 32 + i < 64 by omega)]
  rfl
/-- a constant -/
theorem x_con (C : xC h0 n b mm lo hi bo co dd cap B M) (I : xI h0 p v hb) (S : xS h0 M bo co Ts o r) (hl : 0 < Ts.length) (tl : Ts.length ≤ 200) (rm : ∀ K z, o = .inr (K, z) → K.2.2.length < cap) (hw : w = 0 ∨ isT w) {X : Int64} : ∃ r', fX1_constantIn r 22 (Int32.ofNat w) X = some r' ∧ xS h0 M bo co Ts (sp_b o fun K _ => sp_b (kPut p w K) fun K1 _ => .inr (kEm K1 65 X.toInt32 (X >>> 32).toInt32 1 hb, 0)) r' := by
  have k1 := (xS_C C S).2.2.1.1.1
  obtain ⟨r1, e1, S1⟩ := x_put C I S (fun _ _ _ => hw)
  obtain ⟨u, r2, e2, S2, -⟩ := x_emt (op := 65) (a1 := X.toInt32) (a2 := (X >>> 32).toInt32) (a3 := 1) C I S1 hl tl (fun K1 z1 e => by
    obtain ⟨K0, z0, q1, q2⟩ := b_inv e
    rw [kPut_2 q2]
    exact rm K0 z0 q1)
  refine ⟨r2, ?_, xS_e (by rw [sp_as]) S2⟩
  unfold fX1_constantIn
  refine e9_t k1 (e9_b e1 (e9_t (xS_C C S1).2.2.1.1.1 ?_))
  rw [u32_sh]
  exact e9_b e2 rfl
/-- is it a number? -/
theorem isN_T : ∀ w : Fin 128, (w.val = 0 ∨ sp_isT w.val = true) → fX1_isNumber (Int32.ofNat w.val) = if sp_isR w.val = true then 0 else 1 := by decide +kernel
theorem isN_v (hw : w = 0 ∨ isT w) : fX1_isNumber (Int32.ofNat w) = if sp_isR w = true then 0 else 1 := isN_T ⟨w, ow_8 hw⟩ hw
theorem x_b100 (C : xC h0 n b mm lo hi bo co dd cap B M) (I : xI h0 p v hb) (S : xS h0 M bo co Ts o r) (hl : 0 < Ts.length) (tl : Ts.length ≤ 200) (rm : ∀ K z, o = .inr (K, z) → K.2.2.length < cap) (ha : ∀ K z, o = .inr (K, z) → (x = 0 ∨ isT x) ∧ (y = 0 ∨ isT y)) (hx : a2 = Int32.ofNat x) (hy : a1 = Int32.ofNat y) : ∃ r', fX1_choice_b100 r 22 a1 a2 = some r' ∧ xS h0 M bo co Ts (sp_b o fun K _ => sp_b (kPut p (if x = 0 then y else x) K) fun K1 _ => .inr (kEm K1 (Int32.ofNat v.1) v.2.1.toInt32 v.2.2.1.toInt32 7 hb, 0)) r' := by
  have k1 := (xS_C C S).2.2.1.1.1
  have go : ∀ w : Nat, (∀ K z, o = .inr (K, z) → w = if x = 0 then y else x) → ∃ r', (if pm_kd r 22 = 1 then (fX1_put r 22 (Int32.ofNat w)).bind fun v46 => if pm_kd v46 22 = 1 then (fX1_emitPlain v46 22 3 1).bind fun v49 => some v49 else none else none) = some r' ∧ xS h0 M bo co Ts (sp_b o fun K _ => sp_b (kPut p (if x = 0 then y else x) K) fun K1 _ => .inr (kEm K1 (Int32.ofNat v.1) v.2.1.toInt32 v.2.2.1.toInt32 7 hb, 0)) r' := by
    intro w hw
    obtain ⟨r1, e1, S1⟩ := x_put (w := w) C I S (fun K z e => by
      obtain ⟨h1, h2⟩ := ha K z e
      rw [hw K z e]
      split
      · exact h2
      · exact h1)
    obtain ⟨r2, e2, S2⟩ := x_epl (a1 := 3) (a2 := 1) C I S1 hl tl (fun K1 z1 e => by
      obtain ⟨K0, z0, q1, q2⟩ := b_inv e
      rw [kPut_2 q2]
      exact rm K0 z0 q1)
    refine ⟨r2, e9_t k1 (e9_b e1 (e9_t (xS_C C S1).2.2.1.1.1 (e9_b e2 rfl))), xS_e ?_ S2⟩
    rw [sp_as]
    refine sp_cg fun K z e => ?_
    rw [hw K z e]
    rfl
  unfold fX1_choice_b100
  by_cases c : a2 = 0
  · obtain ⟨r', e, S'⟩ := go y (fun K z e => by
      have q := (ha K z e).1
      rw [hx, ow_0 q] at c
      rw [if_pos c])
    exact ⟨r', e9_t c (by rw [hy]; exact e), S'⟩
  · obtain ⟨r', e, S'⟩ := go x (fun K z e => by
      have q := (ha K z e).1
      rw [hx, ow_0 q] at c
      rw [if_neg c])
    exact ⟨r', e9_f c (by rw [hx]; exact e), S'⟩
end XPLN
