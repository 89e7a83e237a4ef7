/-! THE CLASS CHECKS: else, and the start of a block -/
theorem kAimC_1 (K : tK) : (kAimC K).1 = K.1 ∧ (kAimC K).2.1 = K.2.1 ∧ (kAimC K).2.2.length = K.2.2.length := by
  unfold kAimC
  split
  · exact ⟨rfl, rfl, List.length_set⟩
  · exact ⟨rfl, rfl, rfl⟩
theorem kBr_t0 (M : tMd) (op hb : Int32) (K : tK) : (kBr M op hb 0 K).2.1.tail = K.2.1.tail := by
  obtain ⟨st, ls, rs⟩ := K
  unfold kBr
  split
  · show (if (ls.getD 0 lb0).1 = 3 then ls else _ : List tLb).tail = ls.tail
    split
    · rfl
    · cases ls <;> rfl
  · rfl
theorem kBr_l (M : tMd) (op hb : Int32) (x : Nat) (K : tK) : K.2.2.length ≤ (kBr M op hb x K).2.2.length ∧ (kBr M op hb x K).2.2.length ≤ K.2.2.length + 1 := by
  unfold kBr
  split
  · show K.2.2.length ≤ (K.2.2 ++ [_]).length ∧ (K.2.2 ++ [_]).length ≤ _
    rw [List.length_append]
    exact ⟨Nat.le_add_right _ _, Nat.le_refl _⟩
  · exact ⟨Nat.le_refl _, Nat.le_succ _⟩
theorem kBr_6 (M : tMd) (op hb : Int32) (x y : Nat) (K : tK) : ((kBr M op hb x K).2.1.getD y lb0).2.2.2.2.2.2 = (K.2.1.getD y lb0).2.2.2.2.2.2 := by
  obtain ⟨st, ls, rs⟩ := K
  unfold kBr
  split
  · show ((if (ls.getD x lb0).1 = 3 then ls else _ : List tLb).getD y lb0).2.2.2.2.2.2 = (ls.getD y lb0).2.2.2.2.2.2
    split
    · rfl
    · rw [List.getD_eq_getElem?_getD, List.getElem?_set]
      split
      · next e =>
        split
        · next l => rw [← e]; rfl
        · next l => rw [← e, List.getD_eq_getElem?_getD, List.getElem?_eq_none (show ls.length ≤ x by have l : ¬ x < ls.length := l; omega)]
      · rw [← List.getD_eq_getElem?_getD]
  · rfl
/-- on the way, the labels' types forgotten -/
def xE (h0 : pm_H) (M : tMd) (bo co : Nat) (o : sp_O tK) (r : pm_H) : Prop := ∃ Ts, xS h0 M bo co Ts o r
section XELS
variable {h0 r r' : pm_H} {n b mm lo hi bo co dd cap : Nat} {B : Nat → Nat} {M : tMd} {Ts : List Int64} {o : sp_O tK} {p w s f x z : Nat} {v : sp_I} {hb op : Int32} {K : tK} {t : Int64}
theorem xS_E (S : xS h0 M bo co Ts o r) : xE h0 M bo co o r := ⟨Ts, S⟩
/-- what a live state tells of its labels -/
theorem xS_a (S : xS h0 M bo co Ts (.inr (K, z)) r) (hl : 0 < K.2.1.length) : wfK M K ∧ Ts.length = K.2.1.length ∧ Ts.length ≤ 200 ∧ 0 < Ts.length ∧ Ts[0]? = some (kTop K).2.1 ∧ wfT M (kTop K).2.1 := by
  obtain ⟨W, eT⟩ := xS_wf S rfl
  have kl : K.2.1.length = Ts.length := by rw [← eT, tyL_l]
  have w5 := W.2.2.2.2
  exact ⟨W, kl.symm, by omega, by omega, by rw [← eT, tyL_g hl, kTop_g], kTop_w W hl⟩
theorem xS_lx (S : xS h0 M bo co Ts (.inr (K, z)) r) (hx : x < K.2.1.length) : Ts[x]? = some (K.2.1.getD x lb0).2.1 ∧ wfT M (K.2.1.getD x lb0).2.1 := by
  obtain ⟨W, eT⟩ := xS_wf S rfl
  exact ⟨by rw [← eT, tyL_g hx], (W.2.1 _ (getD_mem hx)).1⟩
theorem x_slK (C : xC h0 n b mm lo hi bo co dd cap B M) (S : xS h0 M bo co Ts o r) (hl : 0 < Ts.length) (tl : Ts.length ≤ 200) : ∃ r', fX1_setLabel r 22 (Int32.ofNat (Ts.length - 1)) 0 5 = some r' ∧ xS h0 M bo co Ts (sp_b o fun K _ => .inr ((K.1, (5, (kTop K).2) :: K.2.1.tail, K.2.2), 0)) r' := by
  have Cr := xS_C C S
  cases o with
  | inl fq =>
    obtain ⟨ff, q⟩ := fq
    obtain ⟨e, S2⟩ := sl_d (y := 5) C S (k := Ts.length - 1) (j := 0) (by omega) (by decide) (by decide)
    exact ⟨_, e, S2⟩
  | inr y =>
    obtain ⟨⟨st, ls, rs⟩, z⟩ := y
    rw [sp_br]
    have V : xK r bo co (st, ls, rs) := S.2.1
    have W : wfK M (st, ls, rs) := S.2.2.1
    have eT : (ls.map fun l => l.2.1) = Ts := S.2.2.2
    have kl : ls.length = Ts.length := by rw [← eT, List.length_map]
    cases ls with
    | nil => have kl : 0 = Ts.length := kl; omega
    | cons l ls =>
      have kl : ls.length + 1 = Ts.length := kl
      have tl1 : Ts.length - 1 = ls.length := by omega
      obtain ⟨⟨l1, l2, l3, l4, l5, l6, l7⟩, lr⟩ := V.2.2.2.2.2.1
      obtain ⟨r1, er⟩ : ∃ z, z = pm_setI r 25 (7 * ls.length) 5 := ⟨_, rfl⟩
      have kk : ∀ a c, ¬ (a = 25 ∧ c = 7 * ls.length) → pm_I r1 a c = pm_I r a c := fun a c hn => by
        rw [er, ev_II]
        by_cases q1 : a = 25
        · rw [if_pos q1, if_neg (fun q2 => hn ⟨q1, q2⟩)]
        · rw [if_neg q1]
      have ex : (l :: ls).length - 1 - 0 = ls.length := rfl
      refine ⟨r1, ?_, xS_lab (x := 0) (l' := (5, l.2)) C S (Nat.succ_pos _) (by rw [er]; exact gF_I r _ (.inr (.inr (.inr (.inl rfl))))) ?_ ?_ ?_ rfl⟩
      · rw [tl1, er]
        exact sl_v Cr (by omega) (j := 0) (by decide)
      · rw [ex]
        exact fun a c hn => kk a c (by omega)
      · rw [ex]
        exact ⟨by rw [er, ev_II, if_pos rfl, if_pos rfl]; rfl, (kk _ _ (by omega)).trans l2, (kk _ _ (by omega)).trans l3, (kk _ _ (by omega)).trans l4, (kk _ _ (by omega)).trans l5, (kk _ _ (by omega)).trans l6, (kk _ _ (by omega)).trans l7⟩
      · obtain ⟨w1, w2, w3, w4, w5⟩ := W
        exact ⟨w1, fun k hk => by
          rcases List.mem_cons.mp hk with z | z
          · rw [z]; exact ⟨(w2 l List.mem_cons_self).1, Nat.le_refl 5⟩
          · exact w2 k (List.mem_cons_of_mem _ z), w3, w4, w5⟩
theorem x_slD (C : xC h0 n b mm lo hi bo co dd cap B M) (S : xS h0 M bo co Ts o r) (hl : 0 < Ts.length) (tl : Ts.length ≤ 200) : ∃ r', fX1_setLabel r 22 (Int32.ofNat (Ts.length - 1)) 3 0 = some r' ∧ xS h0 M bo co Ts (sp_b o fun K _ => .inr ((K.1, ((kTop K).1, (kTop K).2.1, (kTop K).2.2.1, false, (kTop K).2.2.2.2) :: K.2.1.tail, K.2.2), 0)) r' := by
  have Cr := xS_C C S
  cases o with
  | inl fq =>
    obtain ⟨ff, q⟩ := fq
    obtain ⟨e, S2⟩ := sl_d (y := 0) C S (k := Ts.length - 1) (j := 3) (by omega) (by decide) (by decide)
    exact ⟨_, e, S2⟩
  | inr y =>
    obtain ⟨⟨st, ls, rs⟩, z⟩ := y
    rw [sp_br]
    have V : xK r bo co (st, ls, rs) := S.2.1
    have W : wfK M (st, ls, rs) := S.2.2.1
    have eT : (ls.map fun l => l.2.1) = Ts := S.2.2.2
    have kl : ls.length = Ts.length := by rw [← eT, List.length_map]
    cases ls with
    | nil => have kl : 0 = Ts.length := kl; omega
    | cons l ls =>
      have kl : ls.length + 1 = Ts.length := kl
      have tl1 : Ts.length - 1 = ls.length := by omega
      obtain ⟨⟨l1, l2, l3, l4, l5, l6, l7⟩, lr⟩ := V.2.2.2.2.2.1
      obtain ⟨r1, er⟩ : ∃ z, z = pm_setI r 25 (7 * ls.length + 3) 0 := ⟨_, rfl⟩
      have kk : ∀ a c, ¬ (a = 25 ∧ c = 7 * ls.length + 3) → pm_I r1 a c = pm_I r a c := fun a c hn => by
        rw [er, ev_II]
        by_cases q1 : a = 25
        · rw [if_pos q1, if_neg (fun q2 => hn ⟨q1, q2⟩)]
        · rw [if_neg q1]
      have ex : (l :: ls).length - 1 - 0 = ls.length := rfl
      refine ⟨r1, ?_, xS_lab (x := 0) (l' := (l.1, l.2.1, l.2.2.1, false, l.2.2.2.2)) C S (Nat.succ_pos _) (by rw [er]; exact gF_I r _ (.inr (.inr (.inr (.inl rfl))))) ?_ ?_ ?_ rfl⟩
      · rw [tl1, er]
        exact sl_v Cr (by omega) (j := 3) (by decide)
      · rw [ex]
        exact fun a c hn => kk a c (by omega)
      · rw [ex]
        exact ⟨(kk _ _ (by omega)).trans l1, (kk _ _ (by omega)).trans l2, (kk _ _ (by omega)).trans l3, by rw [er, ev_II, if_pos rfl, if_pos rfl]; rfl, (kk _ _ (by omega)).trans l5, (kk _ _ (by omega)).trans l6, (kk _ _ (by omega)).trans l7⟩
      · obtain ⟨w1, w2, w3, w4, w5⟩ := W
        exact ⟨w1, fun k hk => by
          rcases List.mem_cons.mp hk with z | z
          · rw [z]; exact w2 l List.mem_cons_self
          · exact w2 k (List.mem_cons_of_mem _ z), w3, w4, w5⟩
/-- else -/
theorem x_els (C : xC h0 n b mm lo hi bo co dd cap B M) (I : xI h0 p v hb) (S : xS h0 M bo co Ts (.inr (K, z)) r) (T : vTy M) (hl : 0 < K.2.1.length) (eh : hb = Int32.ofNat K.1.length) (rm : K.2.2.length < cap) (wc : (kTop K).1 = 4 → 0 ≤ (kTop K).2.2.2.2.2.2 → (kTop K).2.2.2.2.2.2.toNatClampNeg < K.2.2.length) : ∃ r', fX1_otherwise r 22 = some r' ∧ xS h0 M bo co Ts (kEls M p K) r' := by
  obtain ⟨W, kl, tl, tp, hx, Wt⟩ := xS_a S hl
  have BW := bt_w T Wt
  have k1 := (xS_C C S).2.2.1.1.1
  obtain ⟨r1, e1, S1⟩ := x_tkA C I S T tl hx Wt
  obtain ⟨o1, eo1⟩ : ∃ o1 : sp_O tK, o1 = sp_b (kTakeL p (btR M (kTop K).2.1) K) fun K1 _ => if K1.1.length = (kTop K).2.2.1 then .inr (K1, 0) else .inl (29, p) := ⟨_, rfl⟩
  rw [sp_br, ← eo1] at S1
  have f1 : ∀ K1 z1, o1 = .inr (K1, z1) → K1.2 = K.2 := fun K1 z1 e => by
    rw [eo1] at e
    obtain ⟨K2, z2, e2, e3⟩ := b_inv e
    split at e3
    · cases e3; exact (kTakeN_w W e2).2.1
    · cases e3
  obtain ⟨r2, e2, S2⟩ := x_eBr (op := 5) (x := 0) C I S1 T tl hx Wt (fun K1 z1 e => by rw [f1 K1 z1 e]; exact rm)
  rw [Nat.sub_zero] at e2
  have f2 : ∀ K2 z2, sp_b o1 (fun K _ => .inr (kBr M 5 hb 0 K, 0)) = .inr (K2, z2) → K2.2.2.length ≤ cap ∧ ((kTop K2).1 = 4 → 0 ≤ (kTop K2).2.2.2.2.2.2 → (kTop K2).2.2.2.2.2.2.toNatClampNeg < K2.2.2.length) := fun K2 z2 e => by
    obtain ⟨K1, z1, q1, q2⟩ := b_inv e
    cases q2
    have q3 := f1 K1 z1 q1
    have l := kBr_l M 5 hb 0 K1
    rw [q3] at l
    refine ⟨by omega, fun g1 g2 => ?_⟩
    have g3 := (lSm_g 0 (kBr_m M 5 hb 0 K1).2).1
    have g4 := kBr_6 M 5 hb 0 0 K1
    rw [← kTop_g, q3, ← kTop_g] at g3 g4
    rw [g3] at g1
    rw [g4] at g2 ⊢
    have := wc g1 g2
    omega
  obtain ⟨r3, e3, S3⟩ := x_aiC C S2 tp tl f2
  obtain ⟨r4, e4, S4⟩ := x_slK C S3 tp tl
  obtain ⟨r5, e5, S5⟩ := x_slD C S4 tp tl
  obtain ⟨s, e6, P⟩ := x_sol (xS_C C S5) T (xS_T S5) tl hx Wt
  rw [Nat.sub_zero] at e6
  obtain ⟨r6, e7, S6⟩ := x_ptP C I (shP_B C S5.1 P) BW.1 BW.2.2.1 S5
  refine ⟨r6, ?_, xS_e ?_ S6⟩
  · unfold fX1_otherwise fX1_otherwise_b0 fX1_otherwise_b12 fX1_otherwise_b18 fX1_otherwise_b43
    refine e9_t k1 (e9_l ?_)
    rw [show pm_I r 22 10 - 1 = Int32.ofNat (Ts.length - 1) by rw [(xS_T S).1]; exact nn_s1 (by omega)]
    exact e9_b e1 (e9_t (xS_C C S1).2.2.1.1.1 (e9_b e2 (e9_t (xS_C C S2).2.2.1.1.1 (e9_b e3 (e9_t (xS_C C S3).2.2.1.1.1 (e9_b e4 (e9_t (xS_C C S4).2.2.1.1.1 (e9_b e5 (e9_t (xS_C C S5).2.2.1.1.1 (e9_b e6 (e9_t (xS_C C S5).2.2.1.1.1 (e9_b e7 rfl))))))))))))
  · rw [eo1, sp_as, sp_as, sp_as, sp_as, sp_as]
    unfold kEls
    refine sp_cg fun K1 z1 e => ?_
    have a1 := (kTakeN_w W e).2.1
    by_cases c : K1.1.length = (kTop K).2.2.1
    · rw [if_pos c, if_pos c, sp_br, sp_br, sp_br, sp_br, sp_br]
      have z1 := kAimC_1 (kBr M 5 hb 0 K1)
      have z2 := kBr_m M 5 hb 0 K1
      have z3 := kBr_t0 M 5 hb K1
      refine congrArg (kPutL p (btP M (kTop K).2.1)) ?_
      rw [← eh]
      show ((kAimC (kBr M 5 hb 0 K1)).1, (5, (kTop (kAimC (kBr M 5 hb 0 K1))).2.1, (kTop (kAimC (kBr M 5 hb 0 K1))).2.2.1, false, (kTop (kAimC (kBr M 5 hb 0 K1))).2.2.2.2) :: (kAimC (kBr M 5 hb 0 K1)).2.1.tail, (kAimC (kBr M 5 hb 0 K1)).2.2) = _
      unfold kTop
      rw [z1.1, z1.2.1, z2.1, z3]
    · rw [if_neg c, if_neg c]
      rfl
end XELS
