/-! THE CLASS CHECKS: dropping, choosing, is it null -/
section XSEL
variable {h0 r r' : pm_H} {n b mm lo hi bo co dd cap : Nat} {B : Nat → Nat} {M : tMd} {Ts : List Int64} {o : sp_O tK} {p w s f x y z : Nat} {v : sp_I} {hb op a1 a2 a3 u : Int32} {K : tK} {t : Int64} {g : Bool}
/-- the type that was taken, as a number -/
theorem x_tkv (C : xC h0 n b mm lo hi bo co dd cap B M) (I : xI h0 p v hb) (S : xS h0 M bo co Ts o r) (hl : 0 < Ts.length) (hw : w = 0 ∨ isT w) : ∃ u r' y, fX1_take r 22 (Int32.ofNat w) = some (u, r') ∧ xS h0 M bo co Ts (sp_b o fun K _ => sp_b (kTake p w K) fun y _ => .inr (y.2, 0)) r' ∧ u = Int32.ofNat y ∧ ∀ K z v z', o = .inr (K, z) → kTake p w K = .inr (v, z') → v.1 = y ∧ (y = 0 ∨ isT y) := by
  obtain ⟨u, r', e, S', hu⟩ := x_take C I S hl hw
  have any : (∀ K z v z', o = .inr (K, z) → kTake p w K = .inr (v, z') → False) → ∃ u r' y, fX1_take r 22 (Int32.ofNat w) = some (u, r') ∧ xS h0 M bo co Ts (sp_b o fun K _ => sp_b (kTake p w K) fun y _ => .inr (y.2, 0)) r' ∧ u = Int32.ofNat y ∧ ∀ K z v z', o = .inr (K, z) → kTake p w K = .inr (v, z') → v.1 = y ∧ (y = 0 ∨ isT y) := fun no => by
    obtain ⟨y, hy⟩ := i32_nat u
    exact ⟨u, r', y, e, S', hy, fun K z v z' e1 e2 => (no K z v z' e1 e2).elim⟩
  cases o with
  | inl q => exact any fun K z v z' e => by cases e
  | inr q =>
    obtain ⟨K, z⟩ := q
    cases ek : kTake p w K with
    | inl q => exact any fun K' z' v z'' e1 e2 => by cases e1; rw [ek] at e2; cases e2
    | inr q =>
      obtain ⟨v, z'⟩ := q
      refine ⟨u, r', v.1, e, S', hu K z v z' rfl ek, fun K' z1 v' z2 e1 e2 => ?_⟩
      cases e1
      rw [ek] at e2
      cases e2
      exact ⟨rfl, (kTake_w (xS_wf S rfl).1 ek).2.2.1⟩
theorem sel_if {r : pm_H} {A : Option pm_H} {F : Option pm_H} (a1 a2 : Int32) : (pm_let (fX1_isNumber a2) fun v12 => if v12 = 0 then F else (pm_let (fX1_isNumber a1) fun v18 => if v18 = 0 then F else (if a2 = 0 then A else (if a1 = 0 then A else (if a2 = a1 then A else F))))) = if fX1_isNumber a2 = 0 ∨ fX1_isNumber a1 = 0 ∨ (a2 ≠ 0 ∧ a1 ≠ 0 ∧ a2 ≠ a1) then F else A := by
  show (if fX1_isNumber a2 = 0 then F else (if fX1_isNumber a1 = 0 then F else (if a2 = 0 then A else (if a1 = 0 then A else (if a2 = a1 then A else F))))) = _
  by_cases c1 : fX1_isNumber a2 = 0
  · rw [if_pos c1, if_pos (.inl c1)]
  rw [if_neg c1]
  by_cases c2 : fX1_isNumber a1 = 0
  · rw [if_pos c2, if_pos (.inr (.inl c2))]
  rw [if_neg c2]
  by_cases c3 : a2 = 0
  · rw [if_pos c3, if_neg (fun h => h.elim c1 fun h => h.elim c2 fun h => h.1 c3)]
  rw [if_neg c3]
  by_cases c4 : a1 = 0
  · rw [if_pos c4, if_neg (fun h => h.elim c1 fun h => h.elim c2 fun h => h.2.1 c4)]
  rw [if_neg c4]
  by_cases c5 : a2 = a1
  · rw [if_pos c5, if_neg (fun h => h.elim c1 fun h => h.elim c2 fun h => h.2.2 c5)]
  · rw [if_neg c5, if_pos (.inr (.inr ⟨c3, c4, c5⟩))]
theorem isN_0 (hw : w = 0 ∨ isT w) : (fX1_isNumber (Int32.ofNat w) = 0) = (sp_isR w = true) := by
  rw [isN_v hw]
  by_cases c : sp_isR w = true
  · rw [if_pos c]; exact propext ⟨fun _ => c, fun _ => rfl⟩
  · rw [if_neg c]; exact propext ⟨fun h => absurd h (by decide), fun h => absurd h c⟩
/-- choosing one of two -/
theorem x_sel (C : xC h0 n b mm lo hi bo co dd cap B M) (I : xI h0 p v hb) (S : xS h0 M bo co Ts (.inr (K, z)) r) (hl : 0 < K.2.1.length) (eh : hb = Int32.ofNat K.1.length) (rm : K.2.2.length < cap) (ho : v.1 = 27) : ∃ r', fX1_choice r 22 (Int32.ofNat v.1) = some r' ∧ xE h0 M bo co (kSel p v.2.1.toInt32 v.2.2.1.toInt32 K) r' := by
  obtain ⟨W, kl, tl, tp, -, -⟩ := xS_a S hl
  have k1 := (xS_C C S).2.2.1.1.1
  obtain ⟨u1, r1, e1, S1, -⟩ := x_take (w := 127) C I S tp (.inr isT_127)
  rw [sp_br] at S1
  have tk : kTk p 127 K = sp_b (kTake p 127 K) fun v _ => .inr (v.2, 0) := by unfold kTk; rw [if_neg (by decide)]
  rw [← tk] at S1
  obtain ⟨a1, r2, y, e2, S2, hy, vy⟩ := x_tkv (w := 0) C I S1 tp (.inl rfl)
  obtain ⟨a2, r3, x, e3, S3, hx, vx⟩ := x_tkv (w := 0) C I S2 tp (.inl rfl)
  have l1 : ∀ K1 z1, kTk p 127 K = .inr (K1, z1) → K1.2 = K.2 := fun K1 z1 e => kTk_2 e
  obtain ⟨o3, eo3⟩ : ∃ o3, o3 = sp_b (sp_b (kTk p 127 K) fun K _ => sp_b (kTake p 0 K) fun y _ => (.inr (y.2, 0) : sp_O tK)) fun K _ => sp_b (kTake p 0 K) fun y _ => .inr (y.2, 0) := ⟨_, rfl⟩
  rw [← eo3] at S3
  have al : ∀ K3 z3, o3 = .inr (K3, z3) → K3.2 = K.2 ∧ (x = 0 ∨ isT x) ∧ (y = 0 ∨ isT y) := fun K3 z3 e => by
    rw [eo3] at e
    obtain ⟨K2, z2, q1, q2⟩ := b_inv e
    obtain ⟨K1, z1, q3, q4⟩ := b_inv q1
    obtain ⟨v1, z4, q5, q6⟩ := b_inv q4
    cases q6
    obtain ⟨v2, z5, q7, q8⟩ := b_inv q2
    cases q8
    exact ⟨(kTake_2 q7).trans ((kTake_2 q5).trans (l1 K1 z1 q3)), (vx _ _ _ _ q1 q7).2, (vy _ _ _ _ q3 q5).2⟩
  have ks : kSel p v.2.1.toInt32 v.2.2.1.toInt32 K = sp_b o3 fun K3 _ => if sp_isR x = true ∨ sp_isR y = true ∨ (x ≠ 0 ∧ y ≠ 0 ∧ x ≠ y) then .inl (29, p) else sp_b (kPut p (if x = 0 then y else x) K3) fun K4 _ => .inr (kEm K4 (Int32.ofNat v.1) v.2.1.toInt32 v.2.2.1.toInt32 7 hb, 0) := by
    rw [eo3, sp_as, sp_as]
    unfold kSel
    refine sp_cg fun K1 z1 q1 => ?_
    rw [sp_as]
    refine sp_cg fun v1 z2 q2 => ?_
    rw [sp_br, sp_as]
    refine sp_cg fun v2 z3 q3 => ?_
    rw [sp_br, (vy _ _ _ _ q1 q2).1, (vx v1.2 0 v2 z3 (by rw [q1, sp_br, q2]; rfl) q3).1, ← eh, ho]
    rfl
  rw [ks]
  have C3 := xS_C C S3
  have pre : ∀ {Y : Option pm_H}, (if fX1_isNumber a2 = 0 ∨ fX1_isNumber a1 = 0 ∨ (a2 ≠ 0 ∧ a1 ≠ 0 ∧ a2 ≠ a1) then (if pm_kd r3 22 = 1 then (fX1_fail r3 22 29).bind fun v => fX1_choice_b100 v 22 a1 a2 else none) else fX1_choice_b100 r3 22 a1 a2) = Y → fX1_choice r 22 (Int32.ofNat v.1) = Y := fun {Y} h => by
    unfold fX1_choice
    refine e9_f (by rw [ho]; decide) (e9_f (by rw [ho]; decide) (e9_t k1 (e9_b e1 (e9_t (xS_C C S1).2.2.1.1.1 (e9_b e2 (e9_t (xS_C C S2).2.2.1.1.1 (e9_b e3 ?_)))))))
    exact (sel_if (r := r3) a1 a2).trans h
  by_cases c : fX1_isNumber a2 = 0 ∨ fX1_isNumber a1 = 0 ∨ (a2 ≠ 0 ∧ a1 ≠ 0 ∧ a2 ≠ a1)
  · obtain ⟨r4, e4, S4⟩ := x_fail (w := 29) C I S3 ⟨by decide, by decide⟩
    have dead : ∀ K' z', sp_b o3 (fun _ _ => (.inl (29, p) : sp_O tK)) = .inr (K', z') → False := fun K' z' e => by
      obtain ⟨a, b, q1, q2⟩ := b_inv e
      cases q2
    obtain ⟨r5, e5, S5⟩ := x_b100 (x := x) (y := y) C I S4 tp tl (fun K' z' e => (dead K' z' e).elim) (fun K' z' e => (dead K' z' e).elim) hx hy
    refine ⟨r5, pre (e9_t c (e9_t C3.2.2.1.1.1 (e9_b e4 e5))), Ts, xS_e ?_ S5⟩
    rw [sp_as]
    refine sp_cg fun K3 z3 e => ?_
    obtain ⟨-, tx, ty⟩ := al K3 z3 e
    have x8 := ow_8 tx
    have y8 := ow_8 ty
    rw [hx, hy, isN_0 tx, isN_0 ty, Ne, Ne, Ne, ow_0 tx, ow_0 ty, nn_eq (by omega) (by omega)] at c
    rw [if_pos c]
    rfl
  · obtain ⟨r5, e5, S5⟩ := x_b100 (x := x) (y := y) C I S3 tp tl (fun K' z' e => by rw [(al K' z' e).1]; exact rm) (fun K' z' e => (al K' z' e).2) hx hy
    refine ⟨r5, pre (e9_f c e5), Ts, xS_e ?_ S5⟩
    refine sp_cg fun K3 z3 e => ?_
    obtain ⟨-, tx, ty⟩ := al K3 z3 e
    have x8 := ow_8 tx
    have y8 := ow_8 ty
    rw [hx, hy, isN_0 tx, isN_0 ty, Ne, Ne, Ne, ow_0 tx, ow_0 ty, nn_eq (by omega) (by omega)] at c
    rw [if_neg c]
/-- dropping -/
theorem x_drp (C : xC h0 n b mm lo hi bo co dd cap B M) (I : xI h0 p v hb) (S : xS h0 M bo co Ts (.inr (K, z)) r) (hl : 0 < K.2.1.length) (eh : hb = Int32.ofNat K.1.length) (rm : K.2.2.length < cap) (ho : v.1 = 26) : ∃ r', fX1_choice r 22 (Int32.ofNat v.1) = some r' ∧ xE h0 M bo co (sp_b (kTake p 0 K) fun x _ => .inr (kEm x.2 26 v.2.1.toInt32 v.2.2.1.toInt32 2 (Int32.ofNat K.1.length), 0)) r' := by
  obtain ⟨W, kl, tl, tp, -, -⟩ := xS_a S hl
  have k1 := (xS_C C S).2.2.1.1.1
  obtain ⟨u1, r1, e1, S1, -⟩ := x_take (w := 0) C I S tp (.inl rfl)
  rw [sp_br] at S1
  obtain ⟨r2, e2, S2⟩ := x_epl (a1 := 1) (a2 := 0) C I S1 tp tl (fun K1 z1 e => by
    obtain ⟨v1, z2, q1, q2⟩ := b_inv e
    cases q2
    rw [kTake_2 q1]; exact rm)
  refine ⟨r2, ?_, Ts, xS_e ?_ S2⟩
  · unfold fX1_choice
    exact e9_t (by rw [ho]; rfl) (e9_t k1 (e9_b e1 (e9_t (xS_C C S1).2.2.1.1.1 (e9_b e2 rfl))))
  · rw [sp_as, ho, ← eh]
    rfl
/-- is it null? -/
theorem x_nul (C : xC h0 n b mm lo hi bo co dd cap B M) (I : xI h0 p v hb) (S : xS h0 M bo co Ts (.inr (K, z)) r) (hl : 0 < K.2.1.length) (eh : hb = Int32.ofNat K.1.length) (rm : K.2.2.length < cap) (ho : v.1 = 209) : ∃ r', fX1_reference r 22 (Int32.ofNat v.1) = some r' ∧ xE h0 M bo co (kNul p v.2.1.toInt32 v.2.2.1.toInt32 K) r' := by
  obtain ⟨W, kl, tl, tp, -, -⟩ := xS_a S hl
  have k1 := (xS_C C S).2.2.1.1.1
  obtain ⟨a1, r1, x, e1, S1, hx, vx⟩ := x_tkv (w := 0) C I S tp (.inl rfl)
  rw [sp_br] at S1
  have go : ∀ {o2 : sp_O tK} {r2 : pm_H}, xS h0 M bo co Ts o2 r2 → (∀ K2 z2, o2 = .inr (K2, z2) → K2.2 = K.2) → ∃ r', fX1_reference_b60 r2 22 = some r' ∧ xS h0 M bo co Ts (sp_b o2 fun K2 _ => sp_b (kPut p 127 K2) fun K3 _ => .inr (kEm K3 209 v.2.1.toInt32 v.2.2.1.toInt32 3 (Int32.ofNat K.1.length), 0)) r' := by
    intro o2 r2 S2 h2
    obtain ⟨r3, e3, S3⟩ := x_put (w := 127) C I S2 (fun _ _ _ => .inr isT_127)
    obtain ⟨r4, e4, S4⟩ := x_epl (a1 := 1) (a2 := 1) C I S3 tp tl (fun K3 z3 e => by
      obtain ⟨K2, z2, q1, q2⟩ := b_inv e
      rw [kPut_2 q2, h2 K2 z2 q1]; exact rm)
    refine ⟨r4, ?_, xS_e ?_ S4⟩
    · unfold fX1_reference_b60
      exact e9_t (xS_C C S2).2.2.1.1.1 (e9_b e3 (e9_t (xS_C C S3).2.2.1.1.1 (e9_b e4 rfl)))
    · rw [sp_as, ho, ← eh]
      rfl
  have C1 := xS_C C S1
  have l1 : ∀ K2 z2, (sp_b (kTake p 0 K) fun y _ => (.inr (y.2, 0) : sp_O tK)) = .inr (K2, z2) → K2.2 = K.2 ∧ (x = 0 ∨ isT x) := fun K2 z2 e => by
    obtain ⟨v1, z3, q1, q2⟩ := b_inv e
    cases q2
    exact ⟨kTake_2 q1, (vx _ _ _ _ rfl q1).2⟩
  obtain ⟨r2, e2, S2⟩ := go S1 (fun K2 z2 e => (l1 K2 z2 e).1)
  obtain ⟨r3, e3, S3⟩ := x_fail (w := 29) C I S1 ⟨by decide, by decide⟩
  obtain ⟨r4, e4, S4⟩ := go S3 (fun K2 z2 e => by
    obtain ⟨a, b, q1, q2⟩ := b_inv e
    cases q2)
  have ks : kNul p v.2.1.toInt32 v.2.2.1.toInt32 K = sp_b (sp_b (kTake p 0 K) fun y _ => (.inr (y.2, 0) : sp_O tK)) fun K2 _ => if x ≠ 0 ∧ sp_isR x = false then .inl (29, p) else sp_b (kPut p 127 K2) fun K3 _ => .inr (kEm K3 209 v.2.1.toInt32 v.2.2.1.toInt32 3 (Int32.ofNat K.1.length), 0) := by
    rw [sp_as]
    unfold kNul
    refine sp_cg fun v1 z1 q1 => ?_
    rw [sp_br, (vx _ _ _ _ rfl q1).1]
  rw [ks]
  have pre : ∀ {Y : Option pm_H}, (if a1 = 0 then fX1_reference_b60 r1 22 else (if a1 = 112 then fX1_reference_b60 r1 22 else (if a1 = 111 then fX1_reference_b60 r1 22 else (if pm_kd r1 22 = 1 then (fX1_fail r1 22 29).bind fun v34 => fX1_reference_b60 v34 22 else none)))) = Y → fX1_reference r 22 (Int32.ofNat v.1) = Y := fun {Y} h => by
    unfold fX1_reference
    exact e9_f (by rw [ho]; decide) (e9_t (by rw [ho]; rfl) (e9_t k1 (e9_b e1 h)))
  have isr : sp_isR x = (x == 112 || x == 111) := rfl
  have ok : ((a1 = 0 ∨ a1 = 112 ∨ a1 = 111) → ∃ r', fX1_reference r 22 (Int32.ofNat v.1) = some r' ∧ xE h0 M bo co (sp_b (sp_b (kTake p 0 K) fun y _ => (.inr (y.2, 0) : sp_O tK)) fun K2 _ => if x ≠ 0 ∧ sp_isR x = false then .inl (29, p) else sp_b (kPut p 127 K2) fun K3 _ => .inr (kEm K3 209 v.2.1.toInt32 v.2.2.1.toInt32 3 (Int32.ofNat K.1.length), 0)) r') := fun c => by
    refine ⟨r2, pre ?_, Ts, xS_e (sp_cg fun K2 z2 e => ?_) S2⟩
    · by_cases c1 : a1 = 0
      · exact e9_t c1 e2
      · by_cases c2 : a1 = 112
        · exact e9_f c1 (e9_t c2 e2)
        · exact e9_f c1 (e9_f c2 (e9_t ((c.resolve_left c1).resolve_left c2) e2))
    · have tx := (l1 K2 z2 e).2
      have x8 := ow_8 tx
      rw [hx, ow_0 tx, show (112 : Int32) = Int32.ofNat 112 from rfl, show (111 : Int32) = Int32.ofNat 111 from rfl, nn_eq (by omega) (by decide), nn_eq (by omega) (by decide)] at c
      rw [if_neg]
      rintro ⟨h1, h2⟩
      rcases c with c | c | c
      · exact h1 c
      · rw [c] at h2; exact absurd h2 (by decide)
      · rw [c] at h2; exact absurd h2 (by decide)
  by_cases c : a1 = 0 ∨ a1 = 112 ∨ a1 = 111
  · exact ok c
  · refine ⟨r4, pre (e9_f (fun h => c (.inl h)) (e9_f (fun h => c (.inr (.inl h))) (e9_f (fun h => c (.inr (.inr h))) (e9_t C1.2.2.1.1.1 (e9_b e3 e4))))), Ts, xS_e ?_ S4⟩
    rw [sp_as]
    refine sp_cg fun K2 z2 e => ?_
    have tx := (l1 K2 z2 e).2
    have x8 := ow_8 tx
    rw [hx, ow_0 tx, show (112 : Int32) = Int32.ofNat 112 from rfl, show (111 : Int32) = Int32.ofNat 111 from rfl, nn_eq (by omega) (by decide), nn_eq (by omega) (by decide)] at c
    rw [if_pos]
    · rfl
    · refine ⟨fun h => c (.inl h), ?_⟩
      rw [isr]
      rw [show (x == 112) = false by rw [beq_eq_false_iff_ne]; exact fun h => c (.inr (.inl h)), show (x == 111) = false by rw [beq_eq_false_iff_ne]; exact fun h => c (.inr (.inr h))]
      rfl
end XSEL
