/-! FLATTENED CODE: what an instruction takes and puts, exactly, where it may be come to -/
theorem isT_nz {t : Nat} (h : isT t) : t ≠ 0 := fun e => by rw [e] at h; exact absurd h (by decide)
section IO
variable {B : Nat → Nat} {n : Nat} {M : tMd} {Dc : Nat → Bool} {lt : Nat → Option Nat} {p z x : Nat} {K K' K1 : tK} {v : sp_I} {op hb ca cb cc : Int32}
theorem aS_e (a : aS K) : aS (kEm K op ca cb cc hb) := by
  have e := kEm_1 K op ca cb cc hb
  unfold aS kTop
  rw [e.1, e.2]
  exact a
theorem aS_b (a : aS K) : aS (kBr M op hb x K) := by
  have e := kBr_m M op hb x K
  have U := lSm_g 0 e.2
  obtain ⟨a1, a2, a3⟩ := a
  rw [kTop_0] at a1 a2
  unfold aS
  rw [kTop_0, e.1, U.2.2.1, U.2.2.2]
  exact ⟨a1, a2, a3⟩
theorem aS_t {s : List Nat} (a : aS (s, K.2)) : (kTop K).2.2.1 ≤ s.length := a.2.1
theorem die_d (hl : 0 < K.2.1.length) : (kTop (kDie K)).2.2.2.1 = true := rfl
theorem lbW_nz (T : vTy M) (W : wfK M K) (hx : x < K.2.1.length) : ∀ t, t ∈ lbW M (K.2.1.getD x lb0) → t ≠ 0 := fun t ht => isT_nz ((lbW_w T (W.2.1 _ (getD_mem hx)).1).2 t ht)
/-- 12, 13 -/
theorem io_12 (h : 12 ≤ v.1 ∧ v.1 ≤ 13) (T : vTy M) (W : wfK M K) (a : aS K) (q : kIns B n M Dc lt p v K = .inr (K', z)) : ∃ r, K.1 = o1 (if v.1 = 13 then 127 else 0) ++ ((lbW M (K.2.1.getD v.2.1.toNatClampNeg lb0)).reverse ++ r) ∧ (kTop K).2.2.1 ≤ r.length ∧ (v.1 = 13 → K'.1 = (lbW M (K.2.1.getD v.2.1.toNatClampNeg lb0)).reverse ++ r ∧ aS K') := by
  rw [ki_5 h] at q
  unfold kBrn at q
  split at q
  · cases q
  next hx =>
  obtain ⟨K1, z1, e1, q⟩ := b_inv q
  obtain ⟨K2, z2, e2, q⟩ := b_inv q
  have nz := lbW_nz (x := v.2.1.toNatClampNeg) T W (by omega)
  obtain ⟨r1, s1, s2, s3⟩ := e_tk a e1
  obtain ⟨r2, t1, t2, t3⟩ := e_takeL s3 nz e2
  rw [s2] at t1 t2
  have t1 : r1 = _ := t1
  refine ⟨r2, by rw [s1, t1], by rw [t2] at t3; exact t3.2.1, fun c => ?_⟩
  rw [if_neg (by omega)] at q
  obtain ⟨K3, z3, e3, q⟩ := b_inv q
  cases q
  obtain ⟨u1, u2⟩ := e_putL t3 nz e3
  refine ⟨?_, aS_b u2⟩
  rw [(kBr_m M 13 (Int32.ofNat K.1.length) v.2.1.toNatClampNeg K3).1, u1, t2]
/-- 15 -/
theorem io_15 (h : v.1 = 15) (T : vTy M) (W : wfK M K) (hl : 0 < K.2.1.length) (a : aS K) (q : kIns B n M Dc lt p v K = .inr (K', z)) : ∃ r, K.1 = (btR M (K.2.1.getD (K.2.1.length - 1) lb0).2.1).reverse ++ r ∧ (kTop K).2.2.1 ≤ r.length := by
  rw [ki_7 h] at q
  unfold kRet at q
  obtain ⟨K1, z1, e1, q⟩ := b_inv q
  obtain ⟨r2, t1, t2, t3⟩ := e_takeL a (fun t ht => isT_nz ((bt_w T (W.2.1 _ (getD_mem (by omega))).1).2.2.2 t ht)) e1
  exact ⟨r2, t1, by rw [t2] at t3; exact t3.2.1⟩
/-- 14: every label takes the same -/
theorem io_tl {many : Nat} {hb : Int32} {s : List Nat} : ∀ {dl : List Nat} {K K' : tK} {z : Nat}, aS K → K.1 = s → (∀ x, x ∈ dl → x < K.2.1.length ∧ ∀ t, t ∈ lbW M (K.2.1.getD x lb0) → t ≠ 0) → kTabL M p hb many dl K = .inr (K', z) → ∀ x, x ∈ dl → ∃ r, s = (lbW M (K.2.1.getD x lb0)).reverse ++ r ∧ (kTop K).2.2.1 ≤ r.length
  | [], K, K', z, a, es, hd, q, x, hx => absurd hx List.not_mem_nil
  | y :: l, K, K', z, a, es, hd, q, x, hx => by
    unfold kTabL at q
    split at q
    · next hm =>
      obtain ⟨K1, z1, e1, q⟩ := b_inv q
      obtain ⟨hy, ny⟩ := hd y List.mem_cons_self
      by_cases c : l.isEmpty = true
      · rw [if_pos c] at e1
        obtain ⟨r, r1, r2, r3⟩ := e_takeL a ny e1
        have xy : x = y := by
          rcases List.mem_cons.mp hx with e | e
          · exact e
          · rw [List.isEmpty_iff.mp c] at e; exact absurd e List.not_mem_nil
        rw [xy]
        exact ⟨r, by rw [← es]; exact r1, by rw [r2] at r3; exact r3.2.1⟩
      · rw [if_neg c] at e1
        obtain ⟨w, z2, e2, e3⟩ := b_inv e1
        obtain ⟨r, r1, r2, r3, r4, r5, r6⟩ := e_takeS a e2
        have wl : w.1 = lbW M (K.2.1.getD y lb0) := by
          apply List.ext_getElem (by rw [r3, hm])
          intro i h1 h2
          have := r6 i (by omega) (gt_nz ny i h2)
          rw [List.getD_eq_getElem?_getD, List.getElem?_eq_getElem h1] at this
          have g : gt (lbW M (K.2.1.getD y lb0)) i = (lbW M (K.2.1.getD y lb0))[i] := by
            show (lbW M (K.2.1.getD y lb0)).getD i 0 = _
            rw [List.getD_eq_getElem?_getD, List.getElem?_eq_getElem h2]
            rfl
          rw [← g]
          exact this
        obtain ⟨u1, u2⟩ := e_putL r4 r5 e3
        have k1 : K1 = K := by
          rw [u1, r2]
          show (w.1.reverse ++ r, K.2) = K
          rw [← r1]
        rcases List.mem_cons.mp hx with e | e
        · rw [e, ← wl]
          exact ⟨r, by rw [← es]; exact r1, by rw [r2] at r4; exact r4.2.1⟩
        · rw [k1] at q
          have U := fun j => kBr_U M 12 hb y K j
          have lw : ∀ j, lbW M ((kBr M 12 hb y K).2.1.getD j lb0) = lbW M (K.2.1.getD j lb0) := fun j => by unfold lbW; rw [(U j).1, (U j).2.1]
          have ln := lSm_l (kBr_m M 12 hb y K).2
          obtain ⟨r', h1, h2⟩ := io_tl (s := s) (aS_b (M := M) (op := 12) (hb := hb) (x := y) a) ((kBr_m M 12 hb y K).1.trans es) (fun j hj => by rw [ln, lw]; exact hd j (List.mem_cons_of_mem _ hj)) q x e
          rw [lw] at h1
          rw [kTop_0, (U 0).2.2.1, ← kTop_0] at h2
          exact ⟨r', h1, h2⟩
    · cases q
theorem io_14 (h : v.1 = 14) (T : vTy M) (W : wfK M K) (a : aS K) (q : kIns B n M Dc lt p v K = .inr (K', z)) : ∃ s, K.1 = 127 :: s ∧ ∀ x, x ∈ kDl B n v.2.1.toNatClampNeg v.2.2.1.toNatClampNeg → x < K.2.1.length ∧ ∃ r, s = (lbW M (K.2.1.getD x lb0)).reverse ++ r ∧ (kTop K).2.2.1 ≤ r.length := by
  rw [ki_6 h] at q
  unfold kTab at q
  generalize kDl B n v.2.1.toNatClampNeg v.2.2.1.toNatClampNeg = dl at *
  by_cases c : dl.any (fun x => decide (K.2.1.length ≤ x)) = true
  · rw [if_pos c] at q; cases q
  rw [if_neg c] at q
  obtain ⟨K1, z1, e1, q⟩ := b_inv q
  obtain ⟨K2, z2, e2, q⟩ := b_inv q
  have hd : ∀ x, x ∈ dl → x < K.2.1.length := fun y hy => Nat.lt_of_not_le fun h => c (List.any_eq_true.mpr ⟨y, hy, decide_eq_true h⟩)
  obtain ⟨s, s1, s2, s3⟩ := e_tk a e1
  have em := kEm_1 K1 14 (Int32.ofNat (dl.length - 1)) 0 0 (Int32.ofNat K.1.length)
  have el : (kEm K1 14 (Int32.ofNat (dl.length - 1)) 0 0 (Int32.ofNat K.1.length)).2.1 = K.2.1 := by rw [em.2, s2]
  have R := io_tl (s := s) (aS_e (op := 14) (ca := Int32.ofNat (dl.length - 1)) (cb := 0) (cc := 0) (hb := Int32.ofNat K.1.length) s3) (by rw [em.1, s2]) (fun x hx => by rw [el]; exact ⟨hd x hx, lbW_nz T W (hd x hx)⟩) e2
  refine ⟨s, s1, fun x hx => ⟨hd x hx, ?_⟩⟩
  obtain ⟨r, h1, h2⟩ := R x hx
  rw [el] at h1
  rw [kTop_0, el, ← kTop_0] at h2
  exact ⟨r, h1, h2⟩
/-- what the others take and put (the top first) -/
def kIo (M : tMd) (Dc : Nat → Bool) (lt : Nat → Option Nat) (v : sp_I) (K : tK) : List Nat × List Nat :=
  if v.1 ≤ 1 then ([], [])
  else if v.1 = 16 then (match (spF M)[v.2.1.toNatClampNeg]? with
    | none => ([], [])
    | some f => ((btP M (Int64.ofNat f.2.1)).reverse, (btR M (Int64.ofNat f.2.1)).reverse))
  else if v.1 = 17 then (127 :: (btP M (Int64.ofNat v.2.1.toNatClampNeg)).reverse, (btR M (Int64.ofNat v.2.1.toNatClampNeg)).reverse)
  else if v.1 = 26 then ([K.1.getD 0 0], [])
  else if v.1 = 27 then ([127, K.1.getD 1 0, K.1.getD 1 0], [K.1.getD 1 0])
  else if 65 ≤ v.1 ∧ v.1 ≤ 68 then ([], [192 - v.1])
  else if v.1 = 208 then ([], [v.2.1.toNatClampNeg])
  else if v.1 = 209 then ([K.1.getD 0 0], [127])
  else match kSg M Dc lt v.1 v.2.1.toNatClampNeg v.2.2.1.toNatClampNeg with
    | none => ([], [])
    | some s => (o1 s.1 ++ (o1 s.2.1 ++ o1 s.2.2.1), o1 s.2.2.2)
theorem io_pl {D : Bool} {p2 : Nat} (hB : ∀ i, B i < 256) (G : vG B n D M) (hF : ∀ f, f ∈ spF M → f.2.1 < M.1.length) (i1 : sp_in B n D p = .inr (v, p2)) (n2 : 0 < v.1 ∧ (v.1 = 1 ∨ 15 < v.1)) (a : aS K) (q : kIns B n M Dc lt p v K = .inr (K', z)) : ∃ r, K.1 = (kIo M Dc lt v K).1 ++ r ∧ K'.1 = (kIo M Dc lt v K).2 ++ r ∧ aS K' ∧ (kTop K).2.2.1 ≤ r.length ∧ K'.2.1 = K.2.1 := by
  have T := vG_T G
  unfold kIo
  by_cases c1 : v.1 = 1
  · rw [ki_1 c1] at q
    cases q
    rw [if_pos (by omega)]
    exact ⟨K.1, rfl, (kEm_1 ..).1, aS_e a, a.2.1, (kEm_1 ..).2⟩
  rw [if_neg (show ¬ v.1 ≤ 1 by omega)]
  by_cases c16 : v.1 = 16
  · rw [ki_8 c16] at q
    rw [if_pos c16]
    unfold kCal at q
    split at q
    · cases q
    · next f hf =>
      rw [hf]
      obtain ⟨K1, z1, e1, q⟩ := b_inv q
      obtain ⟨K2, z2, e2, q⟩ := b_inv q
      cases q
      have BW := bt_w T (wfT_t T (hF f (List.mem_of_getElem? hf)))
      obtain ⟨r, r1, r2, r3⟩ := e_takeL a (fun t ht => isT_nz (BW.2.2.1 t ht)) e1
      obtain ⟨u1, u2⟩ := e_putL r3 (fun t ht => isT_nz (BW.2.2.2 t ht)) e2
      rw [r2] at u1 r3
      exact ⟨r, r1, by rw [(kEm_1 ..).1, u1], aS_e u2, r3.2.1, by rw [(kEm_1 ..).2, u1]⟩
  rw [if_neg c16]
  by_cases c17 : v.1 = 17
  · rw [ki_9 c17] at q
    rw [if_pos c17]
    unfold kCalT at q
    split at q
    · cases q
    · split at q
      · next h =>
        obtain ⟨K0, z0, e0, q⟩ := b_inv q
        obtain ⟨K1, z1, e1, q⟩ := b_inv q
        obtain ⟨K2, z2, e2, q⟩ := b_inv q
        cases q
        have BW := bt_w T (wfT_t T h.1)
        obtain ⟨r0, s1, s2, s3⟩ := e_tk a e0
        obtain ⟨r, r1, r2, r3⟩ := e_takeL s3 (fun t ht => isT_nz (BW.2.2.1 t ht)) e1
        obtain ⟨u1, u2⟩ := e_putL r3 (fun t ht => isT_nz (BW.2.2.2 t ht)) e2
        rw [s2] at r1 r2
        have r1 : r0 = _ := r1
        rw [r2] at u1 r3
        exact ⟨r, by rw [s1, r1]; rfl, by rw [(kEm_1 ..).1, u1], aS_e u2, r3.2.1, by rw [(kEm_1 ..).2, u1]⟩
      · cases q
  rw [if_neg c17]
  by_cases c26 : v.1 = 26
  · rw [ki_10 c26] at q
    rw [if_pos c26]
    obtain ⟨y, z1, e1, q⟩ := b_inv q
    cases q
    obtain ⟨r, r1, r2, r3, r4⟩ := e_take a e1
    refine ⟨r, by rw [r1]; rfl, by rw [(kEm_1 ..).1, r2]; rfl, aS_e r4, by rw [r2] at r4; exact r4.2.1, by rw [(kEm_1 ..).2, r2]⟩
  rw [if_neg c26]
  by_cases c27 : v.1 = 27
  · rw [ki_11 c27] at q
    rw [if_pos c27]
    unfold kSel at q
    obtain ⟨K1, z1, e1, q⟩ := b_inv q
    obtain ⟨y, z2, e2, q⟩ := b_inv q
    obtain ⟨x, z3, e3, q⟩ := b_inv q
    split at q
    · cases q
    · next hn =>
      obtain ⟨K4, z4, e4, q⟩ := b_inv q
      cases q
      obtain ⟨r0, s1, s2, s3⟩ := e_tk a e1
      obtain ⟨r1, t1, t2, -, t4⟩ := e_take s3 e2
      obtain ⟨r2, u1, u2, -, u4⟩ := e_take t4 e3
      rw [s2] at t1 t2
      have t1 : r0 = y.1 :: r1 := t1
      rw [t2] at u1 u2
      have u1 : r1 = x.1 :: r2 := u1
      have k1 : K.1 = 127 :: y.1 :: x.1 :: r2 := by rw [s1, t1, u1]; rfl
      have y0 : y.1 ≠ 0 := a.2.2 _ (by rw [k1]; exact List.mem_cons_of_mem _ List.mem_cons_self)
      have x0 : x.1 ≠ 0 := a.2.2 _ (by rw [k1]; exact List.mem_cons_of_mem _ (List.mem_cons_of_mem _ List.mem_cons_self))
      have xy : x.1 = y.1 := Decidable.byContradiction fun h => hn (.inr (.inr ⟨x0, y0, h⟩))
      rw [if_neg x0] at e4
      obtain ⟨w1, w2, -⟩ := e_put u4 x0 e4
      rw [u2] at w1 u4
      refine ⟨r2, by rw [k1, xy]; rfl, by rw [(kEm_1 ..).1, w1, k1, xy]; rfl, aS_e w2, u4.2.1, by rw [(kEm_1 ..).2, w1]⟩
  rw [if_neg c27]
  by_cases c65 : 65 ≤ v.1 ∧ v.1 ≤ 68
  · rw [ki_12 c65] at q
    rw [if_pos c65]
    obtain ⟨K1, z1, e1, q⟩ := b_inv q
    cases q
    obtain ⟨w1, w2, -⟩ := e_put a (by omega) e1
    exact ⟨K.1, rfl, by rw [(kEm_1 ..).1, w1]; rfl, aS_e w2, a.2.1, by rw [(kEm_1 ..).2, w1]⟩
  rw [if_neg c65]
  by_cases c208 : v.1 = 208
  · rw [ki_13 c208] at q
    rw [if_pos c208]
    obtain ⟨K1, z1, e1, q⟩ := b_inv q
    cases q
    have b2 : B p = 208 := by
      by_cases cz : B p = 252
      · obtain ⟨k, q1, k17, e1, f1, f2, f3, f4⟩ := fur_k hB (in_252 i1 cz)
        exfalso
        by_cases k8 : k < 8
        · rw [f1 k8] at c208; have c208 : 200 + k = 208 := c208; omega
        · by_cases k1 : k = 10 ∨ k = 11
          · rw [f2 k1] at c208; have c208 : 300 + k = 208 := c208; omega
          · by_cases k2 : k = 12 ∨ k = 14
            · obtain ⟨x, y, q3, q4, -, -, -, -, ev⟩ := f3 k2; rw [ev] at c208; have c208 : 300 + k = 208 := c208; omega
            · obtain ⟨x, q3, -, -, ev⟩ := f4 (by omega); rw [ev] at c208; have c208 : 300 + k = 208 := c208; omega
      · exact ((in_v1 i1).1 cz).symm.trans c208
    obtain ⟨rf, pl, ev⟩ := in_208 hB i1 b2
    have ex : v.2.1.toNatClampNeg = B (p + 1) := by rw [ev]; exact ll_cm (by have := hB (p + 1); omega)
    have t0 : v.2.1.toNatClampNeg ≠ 0 := by rw [ex]; exact isT_nz (isT_R rf)
    obtain ⟨w1, w2, -⟩ := e_put a t0 e1
    exact ⟨K.1, rfl, by rw [(kEm_1 ..).1, w1]; rfl, aS_e w2, a.2.1, by rw [(kEm_1 ..).2, w1]⟩
  rw [if_neg c208]
  by_cases c209 : v.1 = 209
  · rw [ki_14 c209] at q
    rw [if_pos c209]
    unfold kNul at q
    obtain ⟨y, z1, e1, q⟩ := b_inv q
    split at q
    · cases q
    · obtain ⟨K2, z2, e2, q⟩ := b_inv q
      cases q
      obtain ⟨r, r1, r2, r3, r4⟩ := e_take a e1
      obtain ⟨w1, w2, -⟩ := e_put r4 (by decide) e2
      rw [r2] at w1 r4
      exact ⟨r, by rw [r1]; rfl, by rw [(kEm_1 ..).1, w1]; rfl, aS_e w2, r4.2.1, by rw [(kEm_1 ..).2, w1]⟩
  rw [if_neg c209]
  have fx := (in_fx hB i1).1
  rw [ki_15 (by omega)] at q
  split at q
  · cases q
  · next s hs =>
    rw [hs]
    obtain ⟨K1, z1, e1, q⟩ := b_inv q
    obtain ⟨K2, z2, e2, q⟩ := b_inv q
    obtain ⟨K3, z3, e3, q⟩ := b_inv q
    obtain ⟨K4, z4, e4, q⟩ := b_inv q
    cases q
    obtain ⟨r1, s1, s2, s3⟩ := e_tk a e1
    obtain ⟨r2, t1, t2, t3⟩ := e_tk s3 e2
    obtain ⟨r3, u1, u2, u3⟩ := e_tk t3 e3
    obtain ⟨w1, w2⟩ := e_pt u3 e4
    rw [s2] at t1 t2
    have t1 : r1 = _ := t1
    rw [t2] at u1 u2
    have u1 : r2 = _ := u1
    rw [u2] at w1 u3
    refine ⟨r3, ?_, by rw [(kEm_1 ..).1, w1], aS_e w2, u3.2.1, by rw [(kEm_1 ..).2, w1]⟩
    rw [s1, t1, u1]
    show _ = (o1 s.1 ++ (o1 s.2.1 ++ o1 s.2.2.1)) ++ r3
    rw [List.append_assoc, List.append_assoc]
end IO
