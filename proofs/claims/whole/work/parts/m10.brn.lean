/-! THE CLASS CHECKS: branches, returning -/
section XBRN
variable {h0 r r' : pm_H} {n b mm lo hi bo co dd cap : Nat} {B : Nat → Nat} {M : tMd} {Ts : List Int64} {o : sp_O tK} {p w s f x z : Nat} {v : sp_I} {hb op : Int32} {K : tK} {t : Int64} {g : Bool}
/-- putting what a label wants -/
theorem x_ptW (C : xC h0 n b mm lo hi bo co dd cap B M) (I : xI h0 p v hb) (S : xS h0 M bo co Ts o r) (T : vTy M) (tl : Ts.length ≤ 200) (hx : Ts[x]? = some t) (W : wfT M t) : ∃ s f c r', fX1_shapeOfLabel r 22 (Int32.ofNat (Ts.length - 1 - x)) = some (s, r) ∧ fX1_wantedFrom r 22 (Int32.ofNat (Ts.length - 1 - x)) = some (f, r) ∧ fX1_wantedCount r 22 (Int32.ofNat (Ts.length - 1 - x)) = some (c, r) ∧ fX1_putTypes r 22 s f c = some r' ∧ xS h0 M bo co Ts (sp_b o fun K _ => kPutL p (lbW M (K.2.1.getD x lb0)) K) r' := by
  have BW := bt_w T W
  obtain ⟨s, g, P, e1, e2, ea, e3, e4, -⟩ := x_lab C S T tl hx W
  have go : ∀ l : List Nat, sQ h0 lo hi s (if g = true then 2 else 2 + (btP M t).length) l → l = (if g = true then btP M t else btR M t) → (∀ x, x ∈ l → isT x) → l.length ≤ 16 → ∃ r', fX1_putTypes r 22 s (Int32.ofNat (if g = true then 2 else 2 + (btP M t).length)) (Int32.ofNat (if g = true then btP M t else btR M t).length) = some r' ∧ xS h0 M bo co Ts (sp_b o fun K _ => kPutL p (lbW M (K.2.1.getD x lb0)) K) r' := by
    intro l Q el ty l16
    have b1 := BW.1
    obtain ⟨r', e5, S'⟩ := x_pts C I Q (by split <;> omega) (fun x hx => .inr (ty x hx)) S
    rw [← el]
    exact ⟨r', e5, xS_e (sp_cg fun K z e => by rw [ea K z e, ← el]) S'⟩
  cases g with
  | true =>
    obtain ⟨r', e5, S'⟩ := go (btP M t) P.1 rfl BW.2.2.1 BW.1
    exact ⟨s, _, _, r', e1, e4, e3, e5, S'⟩
  | false =>
    obtain ⟨r', e5, S'⟩ := go (btR M t) P.2.1 rfl BW.2.2.2 BW.2.1
    exact ⟨s, _, _, r', e1, e4, e3, e5, S'⟩
theorem x_brn (C : xC h0 n b mm lo hi bo co dd cap B M) (I : xI h0 p v hb) (S : xS h0 M bo co Ts (.inr (K, z)) r) (T : vTy M) (hl : 0 < K.2.1.length) (eh : hb = Int32.ofNat K.1.length) (rm : K.2.2.length < cap) (ho : v.1 = 12 ∨ v.1 = 13) (h1 : 0 ≤ v.2.1) : ∃ r', fX1_branch r 22 v.2.1 = some r' ∧ xE h0 M bo co (kBrn M p v.1 v.2.1.toNatClampNeg K) r' := by
  obtain ⟨W, kl, tl, tp, -, -⟩ := xS_a S hl
  have Cr := xS_C C S
  have Ir := xS_I C I S
  have k1 := Cr.2.2.1.1.1
  obtain ⟨x, ex⟩ : ∃ x, x = v.2.1.toNatClampNeg := ⟨_, rfl⟩
  have ev : v.2.1 = Int64.ofNat x := by rw [ex]; exact (i64_nn h1).symm
  have x63 : x < 9223372036854775808 := by rw [ex]; exact Int64.toNatClampNeg_lt _
  have i10 : (pm_I r 22 10).toInt64 = Int64.ofNat Ts.length := by rw [(xS_T S).1]; exact nn_t6 (by omega)
  rw [← ex]
  unfold kBrn
  by_cases c : K.2.1.length ≤ x
  · rw [if_pos c]
    obtain ⟨r1, e1, S1⟩ := x_fail (w := 30) C I S ⟨by decide, by decide⟩
    refine ⟨r1, ?_, Ts, S1⟩
    unfold fX1_branch fX1_branch_b0
    exact e9_t k1 (e9_f (by rw [ev, i10, ll_lt x63 (by omega)]; omega) (e9_b e1 rfl))
  rw [if_neg c]
  have hx : x < K.2.1.length := Nat.not_le.mp c
  obtain ⟨hxT, Wx⟩ := xS_lx S hx
  have ix : pm_I r 22 10 - 1 - v.2.1.toInt32 = Int32.ofNat (Ts.length - 1 - x) := by
    rw [(xS_T S).1, nn_s1 (by omega), ev, ll_t3, nn_sb (by omega)]
  obtain ⟨r1, h1, S1⟩ : ∃ r1, (∀ {Y : Option pm_H} {r2 : pm_H}, fX1_takeWanted r1 22 (Int32.ofNat (Ts.length - 1 - x)) = some r2 → fX1_branch_b51 r2 22 (Int32.ofNat (Ts.length - 1 - x)) = Y → fX1_branch r 22 v.2.1 = Y) ∧ xS h0 M bo co Ts (kTk p (if v.1 = 13 then 127 else 0) K) r1 := by
    have lt : v.2.1 < (pm_I r 22 10).toInt64 := by rw [ev, i10, ll_lt x63 (by omega)]; omega
    by_cases c13 : v.1 = 13
    · rw [if_pos c13]
      obtain ⟨u, r1, e1, S1, -⟩ := x_take (w := 127) C I S tp (.inr isT_127)
      refine ⟨r1, fun {Y r2} q h => ?_, S1⟩
      unfold fX1_branch fX1_branch_b0
      refine e9_t k1 (e9_t lt (e9_l (e9_b Cr.2.2.1.1.2.2 (e9_t Cr.1.1 (e9_t (by rw [Ir.1, c13]; rfl) (e9_b e1 (e9_t (xS_C C S1).2.2.1.1.1 ?_)))))))
      rw [ix]
      exact e9_b q h
    · rw [if_neg c13]
      refine ⟨r, fun {Y r2} q h => ?_, S⟩
      unfold fX1_branch fX1_branch_b0
      refine e9_t k1 (e9_t lt (e9_l (e9_b Cr.2.2.1.1.2.2 (e9_t Cr.1.1 (e9_f (by rw [Ir.1, show (13 : Int32) = Int32.ofNat 13 from rfl, nn_eq (by omega) (by decide)]; exact c13) ?_)))))
      rw [ix]
      exact e9_b q h
  obtain ⟨o1, eo1⟩ : ∃ o1, o1 = kTk p (if v.1 = 13 then 127 else 0) K := ⟨_, rfl⟩
  rw [← eo1] at S1 ⊢
  have l1 : ∀ K1 z1, o1 = .inr (K1, z1) → K1.2 = K.2 := fun K1 z1 e => by rw [eo1] at e; exact kTk_2 e
  obtain ⟨r2, e2, S2⟩ := x_tkW C I S1 T tl hxT Wx
  obtain ⟨o2, eo2⟩ : ∃ o2, o2 = sp_b o1 fun K1 _ => kTakeL p (lbW M (K1.2.1.getD x lb0)) K1 := ⟨_, rfl⟩
  rw [← eo2] at S2
  have l2 : ∀ K2 z2, o2 = .inr (K2, z2) → K2.2 = K.2 := fun K2 z2 e => by
    rw [eo2] at e
    obtain ⟨K1, z1, e1, e2⟩ := b_inv e
    exact (kTakeN_2 e2).trans (l1 K1 z1 e1)
  have C2 := xS_C C S2
  have I2 := xS_I C I S2
  rcases ho with c12 | c13
  · -- br
    obtain ⟨r3, e3, S3⟩ := x_eBr (op := Int32.ofNat v.1) C I S2 T tl hxT Wx (fun K2 z2 e => by rw [l2 K2 z2 e]; exact rm)
    have C3 := xS_C C S3
    have I3 := xS_I C I S3
    obtain ⟨r4, e4, S4⟩ := x_die C S3 tp tl
    refine ⟨r4, h1 e2 ?_, Ts, xS_e ?_ S4⟩
    · unfold fX1_branch_b51
      refine e9_t C2.2.2.1.1.1 (e9_b C2.2.2.1.1.2.2 (e9_t C2.1.1 (e9_f (by rw [I2.1, c12]; decide) ?_)))
      unfold fX1_branch_b82
      refine e9_t C2.2.2.1.1.1 (e9_b C2.2.2.1.1.2.2 (e9_t C2.1.1 ?_))
      rw [I2.1]
      refine e9_b e3 ?_
      unfold fX1_branch_b94
      exact e9_t C3.2.2.1.1.1 (e9_b C3.2.2.1.1.2.2 (e9_t C3.1.1 (e9_t (by rw [I3.1, c12]; rfl) (e9_b e4 rfl))))
    · rw [eo2, sp_as, sp_as]
      refine sp_cg fun K1 z1 e => ?_
      rw [l1 K1 z1 e]
      refine sp_cg fun K2 z2 e2 => ?_
      rw [if_pos c12, sp_br, ← eh, c12]
      rfl
  · -- br_if
    obtain ⟨s, f, cc, r3, e3, e4, e5, e6, S3⟩ := x_ptW C I S2 T tl hxT Wx
    have C3 := xS_C C S3
    have I3 := xS_I C I S3
    obtain ⟨r4, e7, S4⟩ := x_eBr (op := Int32.ofNat v.1) C I S3 T tl hxT Wx (fun K3 z3 e => by
      obtain ⟨K2, z2, q1, q2⟩ := b_inv e
      rw [kPutN_2 q2, l2 K2 z2 q1]; exact rm)
    have C4 := xS_C C S4
    have I4 := xS_I C I S4
    refine ⟨r4, h1 e2 ?_, Ts, xS_e ?_ S4⟩
    · unfold fX1_branch_b51
      refine e9_t C2.2.2.1.1.1 (e9_b C2.2.2.1.1.2.2 (e9_t C2.1.1 (e9_t (by rw [I2.1, c13]; rfl) (e9_b e3 ?_))))
      unfold fX1_branch_b69
      refine e9_t C2.2.2.1.1.1 (e9_b e4 ?_)
      unfold fX1_branch_b74
      refine e9_t C2.2.2.1.1.1 (e9_b e5 ?_)
      unfold fX1_branch_b79
      refine e9_t C2.2.2.1.1.1 (e9_b e6 ?_)
      unfold fX1_branch_b82
      refine e9_t C3.2.2.1.1.1 (e9_b C3.2.2.1.1.2.2 (e9_t C3.1.1 ?_))
      rw [I3.1]
      refine e9_b e7 ?_
      unfold fX1_branch_b94
      exact e9_t C4.2.2.1.1.1 (e9_b C4.2.2.1.1.2.2 (e9_t C4.1.1 (e9_f (by rw [I4.1, c13]; decide) rfl)))
    · rw [eo2, sp_as, sp_as]
      refine sp_cg fun K1 z1 e => ?_
      rw [l1 K1 z1 e]
      refine sp_cg fun K2 z2 e2 => ?_
      rw [if_neg (show ¬ v.1 = 12 by omega), kTakeN_2 e2, l1 K1 z1 e, ← eh, c13]
      rfl
/-- returning -/
theorem x_ret (C : xC h0 n b mm lo hi bo co dd cap B M) (I : xI h0 p v hb) (S : xS h0 M bo co Ts (.inr (K, z)) r) (T : vTy M) (hl : 0 < K.2.1.length) (eh : hb = Int32.ofNat K.1.length) (rm : K.2.2.length < cap) (k3 : (K.2.1.getD (K.2.1.length - 1) lb0).1 ≠ 3) : ∃ r1 r2 r3, fX1_takeWanted r 22 0 = some r1 ∧ pm_kd r1 22 = 1 ∧ fX1_emitBranch r1 22 12 0 = some r2 ∧ pm_kd r2 22 = 1 ∧ fX1_die r2 22 = some r3 ∧ xE h0 M bo co (kRet M p K) r3 := by
  obtain ⟨W, kl, tl, tp, -, -⟩ := xS_a S hl
  have hx : K.2.1.length - 1 < K.2.1.length := by omega
  obtain ⟨hxT, Wx⟩ := xS_lx S hx
  have z0 : Int32.ofNat (Ts.length - 1 - (K.2.1.length - 1)) = 0 := by rw [show Ts.length - 1 - (K.2.1.length - 1) = 0 by omega]; rfl
  obtain ⟨r1, e1, S1⟩ := x_tkW C I S T tl hxT Wx
  rw [sp_br] at S1
  obtain ⟨r2, e2, S2⟩ := x_eBr (op := 12) C I S1 T tl hxT Wx (fun K1 z1 e => by rw [kTakeN_2 e]; exact rm)
  obtain ⟨r3, e3, S3⟩ := x_die C S2 tp tl
  rw [z0] at e1 e2
  refine ⟨r1, r2, r3, e1, (xS_C C S1).2.2.1.1.1, e2, (xS_C C S2).2.2.1.1.1, e3, Ts, xS_e ?_ S3⟩
  unfold kRet
  rw [sp_as, show lbW M (K.2.1.getD (K.2.1.length - 1) lb0) = btR M (K.2.1.getD (K.2.1.length - 1) lb0).2.1 by unfold lbW; rw [if_neg k3], ← eh]
  rfl
end XBRN
