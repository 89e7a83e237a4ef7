/-! THE CLASS CHECKS: an instruction, whichever -/
section XINS2
variable {h0 r r' : pm_H} {n b mm lo hi bo co dd cap : Nat} {B : Nat → Nat} {M : tMd} {Ts : List Int64} {o : sp_O tK} {p p2 w s f x y z i j k lc ty : Nat} {v : sp_I} {hb : Int32} {K : tK} {t : Int64} {D : Bool} {Dc : Nat → Bool} {lt : Nat → Option Nat}
theorem l0_n {x : Nat} (h : x < 9223372036854775808) : (0 : Int64) ≤ Int64.ofNat x := by rw [show (0 : Int64) = Int64.ofNat 0 from rfl, ll_le (by decide) h]; exact Nat.zero_le _
theorem l0_0 : (0 : Int64) ≤ 0 := by decide
/-- what was read -/
theorem in_fx (hB : ∀ i, B i < 256) (q : sp_in B n D p = .inr (v, p2)) : (v.1 ≤ 5 ∨ (11 ≤ v.1 ∧ v.1 ≤ 17) ∨ (26 ≤ v.1 ∧ v.1 ≤ 28) ∨ (32 ≤ v.1 ∧ v.1 ≤ 38) ∨ (40 ≤ v.1 ∧ v.1 ≤ 196) ∨ (200 ≤ v.1 ∧ v.1 ≤ 210) ∨ (308 ≤ v.1 ∧ v.1 ≤ 317)) ∧ ((v.1 = 12 ∨ v.1 = 13 ∨ v.1 = 16 ∨ v.1 = 17 ∨ (32 ≤ v.1 ∧ v.1 ≤ 62) ∨ 210 ≤ v.1) → 0 ≤ v.2.1 ∧ 0 ≤ v.2.2.1) := by
  by_cases cz : B p = 252
  · obtain ⟨k, q1, k17, e1, f1, f2, f3, f4⟩ := fur_k hB (in_252 q cz)
    by_cases k8 : k < 8
    · rw [f1 k8]
      exact ⟨by show 200 + k ≤ 5 ∨ _; omega, fun _ => ⟨l0_0, l0_0⟩⟩
    · by_cases k1 : k = 10 ∨ k = 11
      · rw [f2 k1]
        exact ⟨by show 300 + k ≤ 5 ∨ _; omega, fun _ => ⟨l0_0, l0_0⟩⟩
      · by_cases k2 : k = 12 ∨ k = 14
        · obtain ⟨x, y, q3, q4, hx, hy, -, -, ev⟩ := f3 k2
          rw [ev]
          exact ⟨by show 300 + k ≤ 5 ∨ _; omega, fun _ => ⟨l0_n (by omega), l0_n (by omega)⟩⟩
        · obtain ⟨x, q3, hx, -, ev⟩ := f4 (by omega)
          rw [ev]
          exact ⟨by show 300 + k ≤ 5 ∨ _; omega, fun _ => ⟨l0_n (by omega), l0_0⟩⟩
  · obtain ⟨g1, g2⟩ := in_v1 q
    have g1 := g1 cz
    refine ⟨?_, fun h => ?_⟩
    · rw [g1]
      rcases g2 with k | k | k
      · have := cls_no k; omega
      · omega
      · omega
    · rw [g1] at h
      by_cases c1 : B p = 12 ∨ B p = 13 ∨ B p = 16 ∨ (32 ≤ B p ∧ B p ≤ 38) ∨ B p = 210
      · obtain ⟨x, hx, -, ev⟩ := in_1 hB q c1
        rw [ev]
        exact ⟨l0_n (by omega), l0_0⟩
      · have n39 : B p ≠ 39 := fun e => by
          rcases g2 with k | k | k
          · have := cls_no k; omega
          · omega
          · omega
        have n210 : ¬ 210 < B p := fun e => by
          rcases g2 with k | k | k
          · have := cls_no k; omega
          · omega
          · omega
        obtain ⟨x, y, p1, hx, hy, -, -, ev⟩ := in_2 hB q (by omega)
        rw [ev]
        exact ⟨l0_n (by omega), l0_n (by omega)⟩
theorem mem_ix {α : Type} {l : List α} {a : α} (h : a ∈ l) : ∃ i : Nat, l[i]? = some a := by
  obtain ⟨i, hi, e⟩ := List.mem_iff_getElem.mp h
  exact ⟨i, by rw [List.getElem?_eq_getElem hi, e]⟩
/-- an instruction -/
theorem x_ins (C : xC h0 n b mm lo hi bo co dd cap B M) (I : xI h0 p v hb) (S : xS h0 M bo co Ts (.inr (K, z)) r) (G : vG B n D M) (hF : ∀ f, f ∈ spF M → f.2.1 < M.1.length) (hE : ∀ e, e ∈ M.2.2.2.2.2.2.2.1 → isT e.2.2.1.1) (hM : ∀ g, g ∈ spG M → g.1.2.2.2.2 < 256) (q : sp_in B n D p = .inr (v, p2)) (hf : v.2.2.2 = false) (L : xLo h0 lt) (Dd : xD h0 dd (spF M).length Dc) (f3 : pm_I h0 19 3 = 0) (i1 : pm_I h0 19 1 = Int32.ofNat p2) (hl : 0 < K.2.1.length) (eh : hb = Int32.ofNat K.1.length) (wc : wfC K) (k3 : (K.2.1.getD (K.2.1.length - 1) lb0).1 ≠ 3) (rm : K.2.2.length + (if v.1 = 14 then (kDl B n v.2.1.toNatClampNeg v.2.2.1.toNatClampNeg).length + 1 else 1) ≤ cap) : ∃ r' u, (if v.1 ≤ 17 then fX1_control r 22 (Int32.ofNat v.1) else fX1_other r 22 (Int32.ofNat v.1)) = some r' ∧ xE (aA h0 u) M bo co (kIns B n M Dc lt p v K) r' ∧ ∀ K' z', kIns B n M Dc lt p v K = .inr (K', z') → u = Int32.ofNat p2 := by
  have T := vG_T G
  have hB : ∀ i, B i < 256 := C.1.2.2.2.2.2.2.2.2.2
  obtain ⟨W, kl, tl, tp, -, -⟩ := xS_a S hl
  have Cr := xS_C C S
  have Ir := xS_I C I S
  have k1 := Cr.2.2.1.1.1
  have k3' := Cr.2.2.1.1.2.2
  have k9 := Cr.1.1
  obtain ⟨fx1, fx2⟩ := in_fx hB q
  have hT : ∀ t, t ∈ spT M → isT t.2.1 := fun t ht => by
    obtain ⟨i, hi⟩ := mem_ix ht
    exact isT_R (spT_T G hi)
  have hG : ∀ g, g ∈ spG M → isT g.1.2.1 ∧ g.1.2.2.2.2 < 256 := fun g hg => by
    obtain ⟨i, hi⟩ := mem_ix hg
    exact ⟨spG_T G hi, hM g hg⟩
  have w17 : ∀ {r' : pm_H}, v.1 ≤ 17 → fX1_control r 22 (Int32.ofNat v.1) = some r' → xE h0 M bo co (kIns B n M Dc lt p v K) r' → ∃ r' u, (if v.1 ≤ 17 then fX1_control r 22 (Int32.ofNat v.1) else fX1_other r 22 (Int32.ofNat v.1)) = some r' ∧ xE (aA h0 u) M bo co (kIns B n M Dc lt p v K) r' ∧ ∀ K' z', kIns B n M Dc lt p v K = .inr (K', z') → u = Int32.ofNat p2 := fun {r'} c e E => ⟨r', pm_I h0 19 1, by rw [if_pos c]; exact e, by rw [aA_e]; exact E, fun _ _ _ => i1⟩
  have w18 : ∀ {r' : pm_H}, ¬ v.1 ≤ 17 → fX1_other r 22 (Int32.ofNat v.1) = some r' → xE h0 M bo co (kIns B n M Dc lt p v K) r' → ∃ r' u, (if v.1 ≤ 17 then fX1_control r 22 (Int32.ofNat v.1) else fX1_other r 22 (Int32.ofNat v.1)) = some r' ∧ xE (aA h0 u) M bo co (kIns B n M Dc lt p v K) r' ∧ ∀ K' z', kIns B n M Dc lt p v K = .inr (K', z') → u = Int32.ofNat p2 := fun {r'} c e E => ⟨r', pm_I h0 19 1, by rw [if_neg c]; exact e, by rw [aA_e]; exact E, fun _ _ _ => i1⟩
  by_cases c14 : v.1 = 14
  · rw [if_pos c14] at rm
    have b14 : B p = 14 := by
      by_cases cz : B p = 252
      · obtain ⟨k, q1, k17, e1, f1, f2, f3, f4⟩ := fur_k hB (in_252 q cz)
        exfalso
        by_cases k8 : k < 8
        · rw [f1 k8] at c14; have c14 : 200 + k = 14 := c14; omega
        · by_cases k1 : k = 10 ∨ k = 11
          · rw [f2 k1] at c14; have c14 : 300 + k = 14 := c14; omega
          · by_cases k2 : k = 12 ∨ k = 14
            · obtain ⟨x, y, q3, q4, -, -, -, -, ev⟩ := f3 k2; rw [ev] at c14; have c14 : 300 + k = 14 := c14; omega
            · obtain ⟨x, q3, -, -, ev⟩ := f4 (by omega); rw [ev] at c14; have c14 : 300 + k = 14 := c14; omega
      · exact ((in_v1 q).1 cz).symm.trans c14
    obtain ⟨x, p1, u, hx, e1, e2, ev⟩ := in_14 hB q b14
    obtain ⟨l, h1, h2, h3⟩ := nums_rows (x + 1) p1 p2 u e2
    have pl := num_lt e1
    have n4 : n ≤ 40960 := Cr.1.2.2.2.2.2.2.1
    have v1 : v.2.1 = Int64.ofNat x := by rw [ev]
    have v2 : v.2.2.1 = Int64.ofNat p1 := by rw [ev]
    have xx : v.2.1.toNatClampNeg = x := by rw [v1]; exact ll_cm (by omega)
    have yy : v.2.2.1.toNatClampNeg = p1 := by rw [v2]; exact ll_cm (by omega)
    have dl : kDl B n v.2.1.toNatClampNeg v.2.2.1.toNatClampNeg = l := by
      rw [xx, yy]
      unfold kDl
      rw [h1]
    have x200 : x ≤ 200 := by
      rw [ev] at hf
      exact Nat.not_lt.mp (of_decide_eq_false hf)
    rw [dl] at rm
    obtain ⟨r1, u1, e3, E1, hu⟩ := x_tab C I S T hl eh f3 x200 (by omega) v1 v2 h1 rm
    have ki := ki_6 (B := B) (n := n) (M := M) (Dc := Dc) (lt := lt) (p := p) (K := K) c14
    rw [dl] at ki
    rw [ki]
    refine ⟨r1, u1, ?_, E1, hu⟩
    rw [if_pos (by omega), c14]
    exact ctl_14 k1 e3
  rw [if_neg c14] at rm
  have rm : K.2.2.length < cap := rm
  by_cases c0 : v.1 = 0
  · obtain ⟨r1, e1, S1⟩ := x_epl (a1 := 0) (a2 := 0) C I S tp tl (fun K' z' e => by cases e; exact rm)
    have C1 := xS_C C S1
    obtain ⟨r2, e2, S2⟩ := x_die C S1 tp tl
    refine w17 (by omega) (by rw [c0]; exact ctl_0 k1 e1 C1.2.2.1.1.1 e2) ?_
    rw [ki_0 c0, ← eh]
    refine ⟨Ts, xS_e ?_ S2⟩
    rw [sp_br, sp_br, c0]
    rfl
  by_cases c1 : v.1 = 1
  · obtain ⟨r1, e1, S1⟩ := x_epl (a1 := 0) (a2 := 0) C I S tp tl (fun K' z' e => by cases e; exact rm)
    refine w17 (by omega) (by rw [c1]; exact ctl_1 k1 e1) ?_
    rw [ki_1 c1, ← eh]
    refine ⟨Ts, xS_e ?_ S1⟩
    rw [sp_br, c1]
    rfl
  by_cases c2 : 2 ≤ v.1 ∧ v.1 ≤ 4
  · have bp : B p = v.1 := by
      by_cases cz : B p = 252
      · obtain ⟨k, q1, k17, e1, f1, f2, f3, f4⟩ := fur_k hB (in_252 q cz)
        exfalso
        by_cases k8 : k < 8
        · rw [f1 k8] at c2; have c2 : 2 ≤ 200 + k ∧ 200 + k ≤ 4 := c2; omega
        · by_cases k1 : k = 10 ∨ k = 11
          · rw [f2 k1] at c2; have c2 : 2 ≤ 300 + k ∧ 300 + k ≤ 4 := c2; omega
          · by_cases k2 : k = 12 ∨ k = 14
            · obtain ⟨x, y, q3, q4, -, -, -, -, ev⟩ := f3 k2; rw [ev] at c2; have c2 : 2 ≤ 300 + k ∧ 300 + k ≤ 4 := c2; omega
            · obtain ⟨x, q3, -, -, ev⟩ := f4 (by omega); rw [ev] at c2; have c2 : 2 ≤ 300 + k ∧ 300 + k ≤ 4 := c2; omega
      · exact ((in_v1 q).1 cz).symm
    obtain ⟨e1, -⟩ := in_b q (by omega)
    obtain ⟨r1, e2, E1⟩ := x_blk C I S T hl eh rm c2.2 (blk_t e1)
    refine w17 (by omega) ?_ (by rw [ki_2 c2]; exact E1)
    rcases (show v.1 = 2 ∨ v.1 = 3 ∨ v.1 = 4 by omega) with e | e | e
    · rw [e]; exact ctl_2 k1 e2
    · rw [e]; exact ctl_3 k1 e2
    · rw [e]; exact ctl_4 k1 e2
  by_cases c5 : v.1 = 5
  · obtain ⟨r1, e1, S1⟩ := x_els C I S T hl eh rm (fun g1 g2 => by
      obtain ⟨st, ls, rs⟩ := K
      cases ls with
      | nil => exact absurd hl (Nat.lt_irrefl 0)
      | cons l ls =>
        refine wc.2.1 _ (List.mem_append.mpr (.inl (List.mem_append.mpr (.inl ?_))))
        rw [if_pos ⟨g1, g2⟩]
        exact List.mem_singleton.mpr rfl)
    exact w17 (by omega) (by rw [c5]; exact ctl_5 k1 e1) (by rw [ki_3 c5]; exact ⟨Ts, S1⟩)
  by_cases c11 : v.1 = 11
  · obtain ⟨r1, e1, E1⟩ := x_end C I S T hl wc rm
    exact w17 (by omega) (by rw [c11]; exact ctl_11 k1 e1) (by rw [ki_4 c11]; exact E1)
  by_cases c12 : 12 ≤ v.1 ∧ v.1 ≤ 13
  · obtain ⟨r1, e1, E1⟩ := x_brn C I S T hl eh rm (by omega) (fx2 (by omega)).1
    refine w17 (by omega) ?_ (by rw [ki_5 c12]; exact E1)
    rcases (show v.1 = 12 ∨ v.1 = 13 by omega) with e | e
    · rw [e]; exact ctl_12 k1 k3' k9 Ir.2.2.1 e1
    · rw [e]; exact ctl_13 k1 k3' k9 Ir.2.2.1 e1
  by_cases c15 : v.1 = 15
  · obtain ⟨r1, r2, r3, e1, q1, e2, q2, e3, E1⟩ := x_ret C I S T hl eh rm k3
    exact w17 (by omega) (by rw [c15]; exact ctl_15 k1 e1 q1 e2 q2 e3) (by rw [ki_7 c15]; exact E1)
  by_cases c16 : v.1 = 16
  · obtain ⟨r1, e1, E1⟩ := x_cal C I S T hF hl eh rm (fx2 (by omega)).1
    exact w17 (by omega) (by rw [c16]; exact ctl_16 k1 e1) (by rw [ki_8 c16]; exact E1)
  by_cases c17 : v.1 = 17
  · obtain ⟨r1, e1, E1⟩ := x_caT C I S T (fun t ht => Nat.lt_trans (isT_lt (hT t ht)) (by decide)) hl eh rm (fx2 (by omega)).1 (fx2 (by omega)).2
    exact w17 (by omega) (by rw [c17]; exact ctl_17 k1 e1) (by rw [ki_9 c17]; exact E1)
  have n17 : ¬ v.1 ≤ 17 := by omega
  by_cases c26 : v.1 = 26
  · obtain ⟨r1, e1, E1⟩ := x_drp C I S hl eh rm c26
    exact w18 n17 (oth_cho k1 (by omega) e1) (by rw [ki_10 c26]; exact E1)
  by_cases c27 : v.1 = 27
  · obtain ⟨r1, e1, E1⟩ := x_sel C I S hl eh rm c27
    exact w18 n17 (oth_cho k1 (by omega) e1) (by rw [ki_11 c27]; exact E1)
  by_cases c65 : 65 ≤ v.1 ∧ v.1 ≤ 68
  · have tt : isT (192 - v.1) := by show sp_isT _ = true; unfold sp_isT; rw [decide_eq_true (show 124 ≤ 192 - v.1 by omega), decide_eq_true (show 192 - v.1 ≤ 127 by omega)]; exact Bool.or_true _
    obtain ⟨r1, e1, S1⟩ := x_con (X := v.2.1) C I S tp tl (fun K' z' e => by cases e; exact rm) (.inr tt)
    refine w18 n17 (oth_con k1 k3' k9 c65 Ir.2.2.1 e1) ?_
    rw [ki_12 c65, ← eh]
    exact ⟨Ts, S1⟩
  by_cases c208 : v.1 = 208
  · have b2 : B p = 208 := by
      by_cases cz : B p = 252
      · obtain ⟨k, q1, k17, e1, f1, f2, f3, f4⟩ := fur_k hB (in_252 q cz)
        exfalso
        by_cases k8 : k < 8
        · rw [f1 k8] at c208; have c208 : 200 + k = 208 := c208; omega
        · by_cases k1 : k = 10 ∨ k = 11
          · rw [f2 k1] at c208; have c208 : 300 + k = 208 := c208; omega
          · by_cases k2 : k = 12 ∨ k = 14
            · obtain ⟨x, y, q3, q4, -, -, -, -, ev⟩ := f3 k2; rw [ev] at c208; have c208 : 300 + k = 208 := c208; omega
            · obtain ⟨x, q3, -, -, ev⟩ := f4 (by omega); rw [ev] at c208; have c208 : 300 + k = 208 := c208; omega
      · exact ((in_v1 q).1 cz).symm.trans c208
    obtain ⟨rf, pl, ev⟩ := in_208 hB q b2
    have v1 : v.2.1 = Int64.ofNat (B (p + 1)) := by rw [ev]
    have ex : v.2.1.toNatClampNeg = B (p + 1) := by rw [v1]; exact ll_cm (by have := hB (p + 1); omega)
    obtain ⟨r1, e1, S1⟩ := x_con (X := -1) C I S tp tl (fun K' z' e => by cases e; exact rm) (.inr (isT_R rf))
    refine w18 (r' := r1) n17 (oth_ref k1 (by omega) ?_) ?_
    · unfold fX1_reference
      refine e9_t (by rw [c208]; rfl) (e9_t k1 (e9_b k3' (e9_t k9 ?_)))
      rw [Ir.2.2.1, v1, ll_t3]
      exact e9_b e1 rfl
    · rw [ki_13 c208, ex, ← eh]
      exact ⟨Ts, S1⟩
  by_cases c209 : v.1 = 209
  · obtain ⟨r1, e1, E1⟩ := x_nul C I S hl eh rm c209
    exact w18 n17 (oth_ref k1 (by omega) e1) (by rw [ki_14 c209]; exact E1)
  have cP : v.1 = 28 ∨ (32 ≤ v.1 ∧ v.1 ≤ 64) ∨ (69 ≤ v.1 ∧ v.1 < 208) ∨ 210 ≤ v.1 := by omega
  have kp : kIns B n M Dc lt p v K = kGo M Dc lt p v K := ki_15 cP
  by_cases c28 : v.1 = 28
  · have b28 : B p = 28 := by
      by_cases cz : B p = 252
      · obtain ⟨k, q1, k17, e1, f1, f2, f3, f4⟩ := fur_k hB (in_252 q cz)
        exfalso
        by_cases k8 : k < 8
        · rw [f1 k8] at c28; have c28 : 200 + k = 28 := c28; omega
        · by_cases k1 : k = 10 ∨ k = 11
          · rw [f2 k1] at c28; have c28 : 300 + k = 28 := c28; omega
          · by_cases k2 : k = 12 ∨ k = 14
            · obtain ⟨x, y, q3, q4, -, -, -, -, ev⟩ := f3 k2; rw [ev] at c28; have c28 : 300 + k = 28 := c28; omega
            · obtain ⟨x, q3, -, -, ev⟩ := f4 (by omega); rw [ev] at c28; have c28 : 300 + k = 28 := c28; omega
      · exact ((in_v1 q).1 cz).symm.trans c28
    obtain ⟨x, p1, ty, hx, e1, e2, ev⟩ := in_28 hB q b28
    have x1 : x = 1 := by
      rw [ev] at hf
      exact Decidable.byContradiction fun z => by rw [show ((28, Int64.ofNat x, Int64.ofNat ty, decide (x ≠ 1)) : sp_I).2.2.2 = decide (x ≠ 1) from rfl, decide_eq_true z] at hf; cases hf
    rw [x1] at e2
    obtain ⟨y, p3, f1, f2⟩ := b_inv e2
    cases f2
    have ok := byte_v f1
    have t8 := isT_lt ok
    have v2 : v.2.2.1 = Int64.ofNat ty := by rw [ev]
    have yy : v.2.2.1.toNatClampNeg = ty := by rw [v2]; exact ll_cm (by omega)
    have es := sg_28 (M := M) (Dc := Dc) (lt := lt) (x := v.2.1.toNatClampNeg) (y := v.2.2.1.toNatClampNeg) c28
    have es2 : kSg M Dc lt v.1 v.2.1.toNatClampNeg v.2.2.1.toNatClampNeg = some (127, ty, ty, ty) := by rw [es, yy]
    obtain ⟨r1, e3, E1⟩ := x_yes C I S hl eh rm es2 (.inr isT_127) (.inr ok) (.inr ok) (.inr ok)
    refine w18 n17 (oth_cho k1 (by omega) ?_) (by rw [kp]; exact E1)
    unfold fX1_choice
    refine e9_f (by rw [c28]; decide) (e9_t (by rw [c28]; rfl) (e9_t k1 (e9_b k3' (e9_t k9 (e9_l ?_)))))
    rw [Ir.2.2.2.1, v2, ll_t3]
    exact e9_b e3 rfl
  by_cases c36 : 32 ≤ v.1 ∧ v.1 ≤ 36
  · obtain ⟨r1, e1, E1⟩ := x_var (Dc := Dc) C I S hl eh rm c36 (fx2 (by omega)).1 L hG
    exact w18 n17 (oth_var k1 (by omega) e1) (by rw [kp]; exact E1)
  by_cases c64 : 40 ≤ v.1 ∧ v.1 ≤ 64
  · obtain ⟨r1, e1, E1⟩ := x_mem (Dc := Dc) (lt := lt) C I S hl eh rm c64 (fun h => (fx2 (by omega)).1)
    exact w18 n17 (oth_mem k1 c64 e1) (by rw [kp]; exact E1)
  by_cases c207 : 69 ≤ v.1 ∧ v.1 < 208
  · obtain ⟨r1, e1, E1⟩ := x_opr (Dc := Dc) (lt := lt) C I S hl eh rm c207 (by omega)
    exact w18 n17 (oth_opr k1 c207 e1) (by rw [kp]; exact E1)
  by_cases c210 : v.1 = 210
  · obtain ⟨r1, e1, E1⟩ := x_210 (lt := lt) C I S hl eh rm c210 (fx2 (by omega)).1 Dd
    exact w18 n17 (oth_ref k1 (by omega) e1) (by rw [kp]; exact E1)
  by_cases c311 : 308 ≤ v.1 ∧ v.1 ≤ 311
  · obtain ⟨r1, e1, E1⟩ := x_str (Dc := Dc) (lt := lt) C I S hl eh rm c311 (fx2 (by omega)).1
    exact w18 n17 (oth_str k1 c311 e1) (by rw [kp]; exact E1)
  have ct : v.1 = 37 ∨ v.1 = 38 ∨ (312 ≤ v.1 ∧ v.1 ≤ 317) := by omega
  obtain ⟨r1, e1, E1⟩ := x_tba (Dc := Dc) (lt := lt) C I S hl eh rm ct (fx2 (by omega)).1 (fx2 (by omega)).2 hT hE
  exact w18 n17 (oth_tba k1 ct e1) (by rw [kp]; exact E1)
end XINS2
