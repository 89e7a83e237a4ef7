/-! CHECKING: an instruction keeps what is well formed -/
section KINW
variable {B : Nat → Nat} {n p p2 t x : Nat} {D : Bool} {M : tMd} {K K' : tK} {v : sp_I} {lt : Nat → Option Nat} {Dc : Nat → Bool} {z : Nat}
theorem kPush_w {op : Nat} {ty : Int64} {q1 : Bool} {q2 : List Nat} {q3 : Int32} {co : List tRw} (W : wfK M K) (ho : op ≤ 5) (Wt : wfT M ty) (h : ¬ 200 ≤ K.2.1.length) : wfK M (K.1, (op, ty, K.1.length, false, q1, q2, q3) :: K.2.1, co) := by
  obtain ⟨w1, w2, w3, w4, w5⟩ := W
  refine ⟨⟨Nat.le_refl _, w1⟩, fun l hl => ?_, w3, w4, Nat.not_le.mp h⟩
  rcases List.mem_cons.mp hl with z | z
  · rw [z]; exact ⟨Wt, ho⟩
  · exact w2 l z
theorem kTop_w (W : wfK M K) (hl : 0 < K.2.1.length) : wfT M (kTop K).2.1 := by
  obtain ⟨st, ls, co⟩ := K
  cases ls with
  | nil => cases hl
  | cons l ls => exact (W.2.1 l List.mem_cons_self).1
/-- wf, the outermost label's type, how many labels -/
def kW (M : tMd) (t k : Nat) (K' : tK) : Prop := wfK M K' ∧ kB t K' ∧ K'.2.1.length = k
theorem kW_j (b : kB t K) (j : kJ M K K') : kW M t K.2.1.length K' := ⟨j.1, kB_m j.2 b, lSm_l j.2⟩
theorem kW_d (b : kB t K) (hl : 0 < K.2.1.length) (j : kJ M K K') : kW M t K.2.1.length (kDie K') := by
  have h := lSm_l j.2
  exact ⟨kDie_w j.1 (by omega), kB_die (by omega) (kB_m j.2 b), (kDie_l (by omega)).trans h⟩
theorem kW_blk {op : Nat} {ty : Int64} (T : vTy M) (W : wfK M K) (hl : 0 < K.2.1.length) (b : kB t K) (ho : op ≤ 5) (hq : 0 ≤ ty ∨ ∃ c : Nat, (c = 64 ∨ isT c) ∧ ty = Int64.ofInt ((c : Int) - 128)) (e : kBlk M p op ty K = .inr (K', z)) : kW M t (K.2.1.length + 1) K' := by
  unfold kBlk at e
  by_cases hn : 0 ≤ ty ∧ M.1.length ≤ ty.toNatClampNeg
  · rw [if_pos hn] at e; cases e
  rw [if_neg hn] at e
  have Wt : wfT M ty := by
    rcases hq with z | z
    · exact .inl ⟨z, Nat.not_le.mp (fun y => hn ⟨z, y⟩)⟩
    · exact .inr z
  obtain ⟨K1, z1, e1, e⟩ := b_inv e
  obtain ⟨K2, z2, e2, e⟩ := b_inv e
  have j1 := kJ_tk W e1
  have j2 := kJ_t j1 (kJ_takeL j1.1 e2)
  by_cases h2 : 200 ≤ K2.2.1.length
  · rw [if_pos h2] at e; cases e
  rw [if_neg h2] at e
  have W3 := kPush_w (q1 := kAl K2) (q2 := []) (q3 := (if op = 4 then (if kAl K2 = true then Int32.ofNat K2.2.2.length else -1) else Int32.ofNat K2.2.2.length)) (co := (if op = 4 then (kEm K2 4 (-1) 0 0 (Int32.ofNat K.1.length)).2.2 else K2.2.2)) j2.1 ho Wt h2
  have j3 := kJ_putL (fun x hx => .inr ((bt_w T Wt).2.2.1 x hx)) W3 e
  have hl2 := lSm_l j2.2
  refine ⟨j3.1, kB_m j3.2 (kB_c (by show 0 < K2.2.1.length; omega) (kB_m j2.2 b)), ?_⟩
  rw [lSm_l j3.2]
  show K2.2.1.length + 1 = _
  omega
theorem kW_els (T : vTy M) (W : wfK M K) (hl : 0 < K.2.1.length) (b : kB t K) (e : kEls M p K = .inr (K', z)) : kW M t K.2.1.length K' := by
  obtain ⟨K1, z1, e1, e⟩ := b_inv e
  have j1 := kJ_takeL W e1
  by_cases h2 : K1.1.length = (kTop K).2.2.1
  · rw [if_pos h2] at e
    have Wt := kTop_w W hl
    obtain ⟨m1, m2⟩ := kBr_m M 5 (Int32.ofNat K.1.length) 0 K1
    have g0 := lSm_g 0 m2
    have b1 := kB_m j1.2 b
    have hl1 := lSm_l j1.2
    have w1 := j1.1
    have gt := lSm_g 0 j1.2
    rw [← kTop_g, ← kTop_g] at gt
    rw [← kTop_g, ← kTop_g] at g0
    obtain ⟨st, ls, co⟩ := K1
    cases ls with
    | nil => have hl1 : (0 : Nat) = K.2.1.length := hl1; omega
    | cons l ls =>
      have w0 : l.2.2.1 ≤ st.length ∧ wfL ls l.2.2.1 := w1.1
      have gl : (kTop (kBr M 5 (Int32.ofNat K.1.length) 0 (st, l :: ls, co))).2.1 = l.2.1 := g0.2.1
      have gh : (kTop (kBr M 5 (Int32.ofNat K.1.length) 0 (st, l :: ls, co))).2.2.1 = l.2.2.1 := g0.2.2.1
      have W4 : wfK M (st, (5, (kTop (kBr M 5 (Int32.ofNat K.1.length) 0 (st, l :: ls, co))).2.1, (kTop (kBr M 5 (Int32.ofNat K.1.length) 0 (st, l :: ls, co))).2.2.1, false, (kTop (kBr M 5 (Int32.ofNat K.1.length) 0 (st, l :: ls, co))).2.2.2.2) :: ls, (kAimC (kBr M 5 (Int32.ofNat K.1.length) 0 (st, l :: ls, co))).2.2) := by
        refine ⟨⟨by rw [gh]; exact w0.1, by rw [gh]; exact w0.2⟩, fun k hk => ?_, w1.2.2.1, w1.2.2.2.1, w1.2.2.2.2⟩
        rcases List.mem_cons.mp hk with z | z
        · rw [z]; exact ⟨by show wfT M (kTop _).2.1; rw [gl]; exact (w1.2.1 l List.mem_cons_self).1, Nat.le_refl 5⟩
        · exact w1.2.1 k (List.mem_cons_of_mem _ z)
      have j3 := kJ_putL (fun x hx => .inr ((bt_w T Wt).2.2.1 x hx)) W4 e
      exact ⟨j3.1, kB_m j3.2 (kB_h gl b1), (lSm_l j3.2).trans hl1⟩
  · rw [if_neg h2] at e; cases e
theorem kW_end (T : vTy M) (W : wfK M K) (hl : 0 < K.2.1.length) (b : kB t K) (e : kEnd M p K = .inr (K', z)) : kW M t (K.2.1.length - 1) K' := by
  obtain ⟨K1, z1, e1, e⟩ := b_inv e
  have j1 := kJ_takeL W e1
  by_cases h2 : K1.1.length = (kTop K).2.2.1
  · rw [if_pos h2] at e
    have Wt := kTop_w W hl
    have b1 := kB_m j1.2 b
    have hl1 := lSm_l j1.2
    have w1 := j1.1
    have gt := lSm_g 0 j1.2
    rw [← kTop_g, ← kTop_g] at gt
    obtain ⟨st, ls, co⟩ := K1
    cases ls with
    | nil => have hl1 : (0 : Nat) = K.2.1.length := hl1; omega
    | cons l ls =>
      have hl1 : ls.length + 1 = K.2.1.length := hl1
      have w0 : l.2.2.1 ≤ st.length ∧ wfL ls l.2.2.1 := w1.1
      have h2 : st.length = (kTop K).2.2.1 := h2
      have gh : l.2.2.1 = (kTop K).2.2.1 := gt.2.2.1
      have W4 : ∀ co', wfK M (st, ls, co') := fun co' => ⟨by show wfL ls st.length; rw [h2, ← gh]; exact w0.2, fun k hk => w1.2.1 k (List.mem_cons_of_mem _ hk), w1.2.2.1, w1.2.2.2.1, Nat.le_of_succ_le w1.2.2.2.2⟩
      split at e
      · cases e
      · split at e
        · cases e
          exact ⟨W4 _, kB_t b1, by show ls.length = _; omega⟩
        · have j3 := kJ_putL (fun x hx => .inr ((bt_w T Wt).2.2.2 x hx)) (W4 _) e
          exact ⟨j3.1, kB_m j3.2 (kB_t b1), (lSm_l j3.2).trans (by show ls.length = _; omega)⟩
  · rw [if_neg h2] at e; cases e
theorem kW_brn {op : Nat} (T : vTy M) (W : wfK M K) (hl : 0 < K.2.1.length) (b : kB t K) (e : kBrn M p op x K = .inr (K', z)) : kW M t K.2.1.length K' := by
  unfold kBrn at e
  by_cases h : K.2.1.length ≤ x
  · rw [if_pos h] at e; cases e
  rw [if_neg h] at e
  obtain ⟨K1, z1, e1, e⟩ := b_inv e
  obtain ⟨K2, z2, e2, e⟩ := b_inv e
  have j1 := kJ_tk W e1
  have j2 := kJ_t j1 (kJ_takeL j1.1 e2)
  have tw := lbW_w T (W.2.1 _ (getD_mem (Nat.not_le.mp h))).1
  split at e
  · cases e
    exact kW_d b hl (kJ_t j2 (kJ_b j2.1))
  · obtain ⟨K3, z3, e3, e⟩ := b_inv e
    cases e
    have j3 := kJ_t j2 (kJ_putL (fun y hy => .inr (tw.2 y hy)) j2.1 e3)
    exact kW_j b (kJ_t j3 (kJ_b j3.1))
theorem kW_tab {dl : List Nat} (W : wfK M K) (hl : 0 < K.2.1.length) (b : kB t K) (e : kTab M p dl K = .inr (K', z)) : kW M t K.2.1.length K' := by
  unfold kTab at e
  split at e
  · cases e
  obtain ⟨K1, z1, e1, e⟩ := b_inv e
  obtain ⟨K2, z2, e2, e⟩ := b_inv e
  cases e
  have j1 := kJ_tk W e1
  have j2 := kJ_t j1 (kJ_e (op := 14) (a := Int32.ofNat (dl.length - 1)) (b := 0) (c := 0) (hb := Int32.ofNat K.1.length) j1.1)
  exact kW_d b hl (kJ_t j2 (kJ_tab j2.1 e2))
theorem kIns_w (hB : ∀ i, B i < 256) (G : vG B n D M) (hF : ∀ f, f ∈ spF M → f.2.1 < M.1.length) (q : sp_in B n D p = .inr (v, p2)) (hf : v.2.2.2 = false) (hlt : ∀ x ty, lt x = some ty → isT ty) (W : wfK M K) (hl : 0 < K.2.1.length) (b : kB t K) (e : kIns B n M Dc lt p v K = .inr (K', z)) : kW M t (if 2 ≤ v.1 ∧ v.1 ≤ 4 then K.2.1.length + 1 else if v.1 = 11 then K.2.1.length - 1 else K.2.1.length) K' := by
  have T := vG_T G
  have v9 : ∀ c, c ≠ 252 → c < 200 → v.1 = c → B p = c := fun c h1 h2 h3 => by
    by_cases cz : B p = 252
    · obtain ⟨k, q1, k17, e1, f1, f2, f3, f4⟩ := fur_k hB (in_252 q cz)
      exfalso
      by_cases k8 : k < 8
      · rw [f1 k8] at h3; have h3 : 200 + k = c := h3; omega
      · by_cases k1 : k = 10 ∨ k = 11
        · rw [f2 k1] at h3; have h3 : 300 + k = c := h3; omega
        · by_cases k2 : k = 12 ∨ k = 14
          · obtain ⟨x, y, q3, q4, -, -, -, -, ev⟩ := f3 k2; rw [ev] at h3; have h3 : 300 + k = c := h3; omega
          · obtain ⟨x, q3, -, -, ev⟩ := f4 (by omega); rw [ev] at h3; have h3 : 300 + k = c := h3; omega
    · exact ((in_v1 q).1 cz).symm.trans h3
  by_cases c0 : v.1 = 0
  · rw [ki_0 c0] at e; cases e
    rw [if_neg (by omega), if_neg (by omega)]
    exact kW_d b hl (kJ_e W)
  by_cases c1 : v.1 = 1
  · rw [ki_1 c1] at e; cases e
    rw [if_neg (by omega), if_neg (by omega)]
    exact kW_j b (kJ_e W)
  by_cases c2 : 2 ≤ v.1 ∧ v.1 ≤ 4
  · rw [ki_2 c2] at e
    rw [if_pos c2]
    have bp : B p = v.1 := v9 v.1 (by omega) (by omega) rfl
    obtain ⟨e1, e2⟩ := in_b q (by omega)
    exact kW_blk T W hl b (by omega) (blk_t e1) e
  rw [if_neg c2]
  by_cases c5 : v.1 = 5
  · rw [ki_3 c5] at e
    rw [if_neg (by omega)]
    exact kW_els T W hl b e
  by_cases c11 : v.1 = 11
  · rw [ki_4 c11] at e
    rw [if_pos c11]
    exact kW_end T W hl b e
  rw [if_neg c11]
  by_cases c12 : 12 ≤ v.1 ∧ v.1 ≤ 13
  · rw [ki_5 c12] at e
    exact kW_brn T W hl b e
  by_cases c14 : v.1 = 14
  · rw [ki_6 c14] at e
    exact kW_tab W hl b e
  by_cases c15 : v.1 = 15
  · rw [ki_7 c15] at e
    obtain ⟨K1, z1, e1, e⟩ := b_inv e
    cases e
    have j1 := kJ_takeL W e1
    exact kW_d b hl (kJ_t j1 (kJ_b j1.1))
  by_cases c16 : v.1 = 16
  · rw [ki_8 c16] at e
    unfold kCal at e
    cases ez : (spF M)[v.2.1.toNatClampNeg]? with
    | none => rw [ez] at e; cases e
    | some f =>
      rw [ez] at e
      obtain ⟨K1, z1, e1, e⟩ := b_inv e
      obtain ⟨K2, z2, e2, e⟩ := b_inv e
      cases e
      have BW := bt_w T (wfT_t T (hF f (List.mem_of_getElem? ez)))
      have j1 := kJ_takeL W e1
      have j2 := kJ_t j1 (kJ_putL (fun y hy => .inr (BW.2.2.2 y hy)) j1.1 e2)
      exact kW_j b (kJ_t j2 (kJ_e j2.1))
  by_cases c17 : v.1 = 17
  · rw [ki_9 c17] at e
    unfold kCalT at e
    cases ez : (spT M)[v.2.2.1.toNatClampNeg]? with
    | none => rw [ez] at e; cases e
    | some f =>
      rw [ez] at e
      have e : (if v.2.1.toNatClampNeg < M.1.length ∧ f.2.1 = 112 then _ else _) = _ := e
      by_cases h : v.2.1.toNatClampNeg < M.1.length ∧ f.2.1 = 112
      · rw [if_pos h] at e
        obtain ⟨K0, z0, e0, e⟩ := b_inv e
        obtain ⟨K1, z1, e1, e⟩ := b_inv e
        obtain ⟨K2, z2, e2, e⟩ := b_inv e
        cases e
        have BW := bt_w T (wfT_t T h.1)
        have j0 := kJ_tk W e0
        have j1 := kJ_t j0 (kJ_takeL j0.1 e1)
        have j2 := kJ_t j1 (kJ_putL (fun y hy => .inr (BW.2.2.2 y hy)) j1.1 e2)
        exact kW_j b (kJ_t j2 (kJ_e j2.1))
      · rw [if_neg h] at e; cases e
  by_cases c26 : v.1 = 26
  · rw [ki_10 c26] at e
    obtain ⟨y, z1, e1, e⟩ := b_inv e
    cases e
    have j1 := (kJ_take W e1).1
    exact kW_j b (kJ_t j1 (kJ_e j1.1))
  by_cases c27 : v.1 = 27
  · rw [ki_11 c27] at e
    obtain ⟨K1, z1, e1, e⟩ := b_inv e
    obtain ⟨y, z2, e2, e⟩ := b_inv e
    obtain ⟨x, z3, e3, e⟩ := b_inv e
    have j1 := kJ_tk W e1
    obtain ⟨j2, ty⟩ := kJ_take j1.1 e2
    obtain ⟨j3, tx⟩ := kJ_take j2.1 e3
    split at e
    · cases e
    · obtain ⟨K4, z4, e4, e⟩ := b_inv e
      cases e
      have tt : (if x.1 = 0 then y.1 else x.1) = 0 ∨ isT (if x.1 = 0 then y.1 else x.1) := by
        split
        · exact ty
        · exact tx
      have j4 := kJ_t j1 (kJ_t j2 (kJ_t j3 (kJ_put tt j3.1 e4)))
      exact kW_j b (kJ_t j4 (kJ_e j4.1))
  by_cases c65 : 65 ≤ v.1 ∧ v.1 ≤ 68
  · rw [ki_12 c65] at e
    obtain ⟨K1, z1, e1, e⟩ := b_inv e
    cases e
    have tt : isT (192 - v.1) := by show sp_isT _ = true; unfold sp_isT; rw [decide_eq_true (show 124 ≤ 192 - v.1 by omega), decide_eq_true (show 192 - v.1 ≤ 127 by omega)]; exact Bool.or_true _
    have j1 := kJ_put (.inr tt) W e1
    exact kW_j b (kJ_t j1 (kJ_e j1.1))
  by_cases c208 : v.1 = 208
  · rw [ki_13 c208] at e
    obtain ⟨K1, z1, e1, e⟩ := b_inv e
    cases e
    have b2 : B p = 208 := by
      by_cases cz : B p = 252
      · obtain ⟨k, q1, k17, e1, f1, f2, f3, f4⟩ := fur_k hB (in_252 q cz)
        exfalso
        by_cases k8 : k < 8
        · rw [f1 k8] at c208; have c208 : 200 + k = 208 := c208; omega
        · by_cases k1 : k = 10 ∨ k = 11
          · rw [f2 k1] at c208; have c208 : 300 + k = 208 := c208; omega
          · by_cases k2 : k = 12 ∨ k = 14
            · obtain ⟨x, y, q3, q4, -, -, -, -, ev⟩ := f3 k2; rw [ev] at c208; have c208 : 300 + k = 208 := c208; omega
            · obtain ⟨x, q3, -, -, ev⟩ := f4 (by omega); rw [ev] at c208; have c208 : 300 + k = 208 := c208; omega
      · exact ((in_v1 q).1 cz).symm.trans c208
    obtain ⟨rf, pl, ev⟩ := in_208 hB q b2
    have ex : v.2.1.toNatClampNeg = B (p + 1) := by rw [ev]; exact ll_cm (by have := hB (p + 1); omega)
    rw [ex] at e1
    have j1 := kJ_put (.inr (isT_R rf)) W e1
    exact kW_j b (kJ_t j1 (kJ_e j1.1))
  by_cases c209 : v.1 = 209
  · rw [ki_14 c209] at e
    obtain ⟨y, z1, e1, e⟩ := b_inv e
    obtain ⟨j1, ty⟩ := kJ_take W e1
    split at e
    · cases e
    · obtain ⟨K2, z2, e2, e⟩ := b_inv e
      cases e
      have j2 := kJ_t j1 (kJ_put (.inr isT_127) j1.1 e2)
      exact kW_j b (kJ_t j2 (kJ_e j2.1))
  have cP : v.1 = 28 ∨ (32 ≤ v.1 ∧ v.1 ≤ 64) ∨ (69 ≤ v.1 ∧ v.1 < 208) ∨ 210 ≤ v.1 := by
    by_cases cz : B p = 252
    · obtain ⟨k, q1, k17, e1, f1, f2, f3, f4⟩ := fur_k hB (in_252 q cz)
      by_cases k8 : k < 8
      · rw [f1 k8]; exact .inr (.inr (.inl ⟨by show 69 ≤ 200 + k; omega, by show 200 + k < 208; omega⟩))
      · have : v.1 = 300 + k := by
          by_cases k1 : k = 10 ∨ k = 11
          · rw [f2 k1]
          · by_cases k2 : k = 12 ∨ k = 14
            · obtain ⟨x, y, q3, q4, -, -, -, -, ev⟩ := f3 k2; rw [ev]
            · obtain ⟨x, q3, -, -, ev⟩ := f4 (by omega); rw [ev]
        omega
    · have := (in_v1 q).1 cz
      rcases (in_v1 q).2 with k | k | k
      · have := cls_no k; omega
      · omega
      · omega
  rw [ki_15 cP] at e
  cases es : kSg M Dc lt v.1 v.2.1.toNatClampNeg v.2.2.1.toNatClampNeg with
  | none => rw [es] at e; cases e
  | some s =>
    rw [es] at e
    exact kW_j b (kJ_pl (sg_w hB G q hf hlt cP es) W e)
end KINW
