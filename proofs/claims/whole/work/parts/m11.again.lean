/-! THE CLASS CHECKS: taking what a label wants, putting it again -/
/-- whatever every rule keeps, an instruction keeps -/
theorem kIns_q {Q : tK → Prop} {M : tMd} {p : Nat} {B : Nat → Nat} {n : Nat} {Dc : Nat → Bool} {lt : Nat → Option Nat} {v : sp_I} {K K' : tK} {z : Nat}
    (h2 : ∀ K K' : tK, K'.2 = K.2 → Q K → Q K')
    (hE : ∀ (K : tK) op a b c hb, Q K → Q (kEm K op a b c hb))
    (hB : ∀ (K : tK) op hb x, Q K → Q (kBr M op hb x K))
    (hD : ∀ K : tK, 0 < K.2.1.length → Q K → Q (kDie K))
    (hBl : ∀ K' op t z, kBlk M p op t K = .inr (K', z) → Q K → Q K')
    (hEl : ∀ K' z, kEls M p K = .inr (K', z) → Q K → Q K')
    (hEn : ∀ K' z, kEnd M p K = .inr (K', z) → Q K → Q K')
    (w : Q K) (hl : 0 < K.2.1.length) (q : kIns B n M Dc lt p v K = .inr (K', z)) : Q K' := by
  have tabL : ∀ {many : Nat} {hb : Int32} {dl : List Nat} {K K' : tK} {z : Nat}, Q K → kTabL M p hb many dl K = .inr (K', z) → Q K' ∧ K'.2.1.length = K.2.1.length := by
    intro many hb dl
    induction dl with
    | nil => intro K K' z w q; cases q; exact ⟨w, rfl⟩
    | cons x l ih =>
      intro K K' z w q
      unfold kTabL at q
      split at q
      · obtain ⟨K1, z1, e1, q⟩ := b_inv q
        have j : K1.2 = K.2 := by
          split at e1
          · exact kTakeN_2 e1
          · obtain ⟨v, z2, e2, e3⟩ := b_inv e1
            exact (kPutN_2 e3).trans (kTakeS_2 e2)
        obtain ⟨j3, l3⟩ := ih (hB _ _ _ _ (h2 _ _ j w)) q
        exact ⟨j3, by rw [l3, lSm_l (kBr_m M 12 hb x K1).2, j]⟩
      · cases q
  unfold kIns at q
  by_cases cc0 : v.1 = 0
  · rw [if_pos cc0] at q
    cases q
    exact hD _ (by rw [(kEm_1 _ _ _ _ _ _).2]; exact hl) (hE _ _ _ _ _ _ w)
  rw [if_neg cc0] at q
  by_cases cc1 : v.1 = 1
  · rw [if_pos cc1] at q; cases q; exact hE _ _ _ _ _ _ w
  rw [if_neg cc1] at q
  by_cases cc2 : v.1 ≤ 4
  · rw [if_pos cc2] at q; exact hBl _ _ _ _ q w
  rw [if_neg cc2] at q
  by_cases cc3 : v.1 = 5
  · rw [if_pos cc3] at q; exact hEl _ _ q w
  rw [if_neg cc3] at q
  by_cases cc4 : v.1 = 11
  · rw [if_pos cc4] at q; exact hEn _ _ q w
  rw [if_neg cc4] at q
  by_cases cc5 : v.1 ≤ 13
  · rw [if_pos cc5] at q
    unfold kBrn at q
    split at q
    · cases q
    obtain ⟨K1, z1, e1, q⟩ := b_inv q
    obtain ⟨K2, z2, e2, q⟩ := b_inv q
    have e := (kTakeN_2 e2).trans (kTk_2 e1)
    have j := h2 _ _ e w
    split at q
    · cases q
      exact hD _ (by rw [lSm_l (kBr_m _ _ _ _ _).2, e]; exact hl) (hB _ _ _ _ j)
    · obtain ⟨K3, z3, e3, q⟩ := b_inv q
      cases q
      exact hB _ _ _ _ (h2 _ _ (kPutN_2 e3) j)
  rw [if_neg cc5] at q
  by_cases cc6 : v.1 = 14
  · rw [if_pos cc6] at q
    unfold kTab at q
    split at q
    · cases q
    obtain ⟨K1, z1, e1, q⟩ := b_inv q
    obtain ⟨K2, z2, e2, q⟩ := b_inv q
    cases q
    obtain ⟨j, l⟩ := tabL (hE _ _ _ _ _ _ (h2 _ _ (kTk_2 e1) w)) e2
    exact hD _ (by rw [l, (kEm_1 _ _ _ _ _ _).2, kTk_2 e1]; exact hl) j
  rw [if_neg cc6] at q
  by_cases cc7 : v.1 = 15
  · rw [if_pos cc7] at q
    obtain ⟨K1, z1, e1, q⟩ := b_inv q
    cases q
    exact hD _ (by rw [lSm_l (kBr_m _ _ _ _ _).2, kTakeN_2 e1]; exact hl) (hB _ _ _ _ (h2 _ _ (kTakeN_2 e1) w))
  rw [if_neg cc7] at q
  by_cases cc8 : v.1 = 16
  · rw [if_pos cc8] at q
    unfold kCal at q
    split at q
    · cases q
    · obtain ⟨K1, z1, e1, q⟩ := b_inv q
      obtain ⟨K2, z2, e2, q⟩ := b_inv q
      cases q
      exact hE _ _ _ _ _ _ (h2 _ _ ((kPutN_2 e2).trans (kTakeN_2 e1)) w)
  rw [if_neg cc8] at q
  by_cases cc9 : v.1 = 17
  · rw [if_pos cc9] at q
    unfold kCalT at q
    split at q
    · cases q
    · split at q
      · obtain ⟨K1, z1, e1, q⟩ := b_inv q
        obtain ⟨K2, z2, e2, q⟩ := b_inv q
        obtain ⟨K3, z3, e3, q⟩ := b_inv q
        cases q
        exact hE _ _ _ _ _ _ (h2 _ _ ((kPutN_2 e3).trans ((kTakeN_2 e2).trans (kTk_2 e1))) w)
      · cases q
  rw [if_neg cc9] at q
  by_cases cc10 : v.1 = 26
  · rw [if_pos cc10] at q
    obtain ⟨y, z1, e1, q⟩ := b_inv q
    cases q
    exact hE _ _ _ _ _ _ (h2 _ _ (kTake_2 e1) w)
  rw [if_neg cc10] at q
  by_cases cc11 : v.1 = 27
  · rw [if_pos cc11] at q
    obtain ⟨K1, z1, e1, q⟩ := b_inv q
    obtain ⟨y, z2, e2, q⟩ := b_inv q
    obtain ⟨y2, z3, e3, q⟩ := b_inv q
    split at q
    · cases q
    · obtain ⟨K4, z4, e4, q⟩ := b_inv q
      cases q
      exact hE _ _ _ _ _ _ (h2 _ _ ((kPut_2 e4).trans ((kTake_2 e3).trans ((kTake_2 e2).trans (kTk_2 e1)))) w)
  rw [if_neg cc11] at q
  by_cases cc12 : 65 ≤ v.1 ∧ v.1 ≤ 68
  · rw [if_pos cc12] at q
    obtain ⟨K1, z1, e1, q⟩ := b_inv q
    cases q
    exact hE _ _ _ _ _ _ (h2 _ _ (kPut_2 e1) w)
  rw [if_neg cc12] at q
  by_cases cc13 : v.1 = 208
  · rw [if_pos cc13] at q
    obtain ⟨K1, z1, e1, q⟩ := b_inv q
    cases q
    exact hE _ _ _ _ _ _ (h2 _ _ (kPut_2 e1) w)
  rw [if_neg cc13] at q
  by_cases cc14 : v.1 = 209
  · rw [if_pos cc14] at q
    obtain ⟨y, z1, e1, q⟩ := b_inv q
    split at q
    · cases q
    · obtain ⟨K2, z2, e2, q⟩ := b_inv q
      cases q
      exact hE _ _ _ _ _ _ (h2 _ _ ((kPut_2 e2).trans (kTake_2 e1)) w)
  rw [if_neg cc14] at q
  split at q
  · cases q
  · obtain ⟨K1, z1, e1, q⟩ := b_inv q
    obtain ⟨K2, z2, e2, q⟩ := b_inv q
    obtain ⟨K3, z3, e3, q⟩ := b_inv q
    obtain ⟨K4, z4, e4, q⟩ := b_inv q
    cases q
    exact hE _ _ _ _ _ _ (h2 _ _ ((kPt_2 e4).trans ((kTk_2 e3).trans ((kTk_2 e2).trans (kTk_2 e1)))) w)
section XAGN
variable {h0 r r' : pm_H} {n b mm lo hi bo co dd cap : Nat} {B : Nat → Nat} {M : tMd} {Ts : List Int64} {o : sp_O tK} {p s f x z N : Nat} {v : sp_I} {hb w u : Int32} {K : tK} {t : Int64} {g : Bool} {l : List Nat}
theorem fl_28 (e : fX1_fail r 22 w = some r') (y : Nat) : pm_I r' 28 y = pm_I r 28 y := by
  unfold fX1_fail at e
  obtain ⟨-, e⟩ := pm_if e
  split at e
  · obtain ⟨v3, -, e⟩ := pm_bd e
    obtain ⟨-, e⟩ := pm_if e
    obtain ⟨y6, -, e⟩ := pm_lt e
    cases e
    rw [ev_II, if_neg (by decide), ev_II, if_neg (by decide)]
  · cases e; rfl
theorem tk_28 (e : fX1_take r 22 w = some (u, r')) (y : Nat) : pm_I r' 28 y = pm_I r 28 y := by
  unfold fX1_take at e
  obtain ⟨-, e⟩ := pm_if e
  obtain ⟨y2, -, e⟩ := pm_lt e
  obtain ⟨v4, -, e⟩ := pm_bd e
  split at e
  · obtain ⟨y7, -, e⟩ := pm_lt e
    obtain ⟨v9, -, e⟩ := pm_bd e
    obtain ⟨v11, -, e⟩ := pm_bd e
    have k : pm_I (pm_setI r 22 6 y7) 28 y = pm_I r 28 y := by rw [ev_II, if_neg (by decide)]
    split at e
    · cases e; exact k
    · split at e
      · cases e; exact k
      · split at e
        · cases e; exact k
        · obtain ⟨v16, e1, e⟩ := pm_bd e
          cases e
          exact (fl_28 e1 y).trans k
  · obtain ⟨v18, -, e⟩ := pm_bd e
    split at e
    · obtain ⟨v21, e1, e⟩ := pm_bd e
      cases e
      exact fl_28 e1 y
    · cases e; rfl
theorem pt_28 (q : pm_R r 22 5 = some 24) (e : fX1_put r 22 w = some r') (y : Nat) : pm_I r' 28 y = pm_I r 28 y := by
  unfold fX1_put at e
  obtain ⟨-, e⟩ := pm_if e
  split at e
  · obtain ⟨v3, e3, e⟩ := pm_bd e
    rw [q] at e3
    cases e3
    obtain ⟨v5, e5, e⟩ := pm_bd e
    obtain ⟨-, e⟩ := pm_if e
    obtain ⟨y8, -, e⟩ := pm_lt e
    cases e
    rw [ev_II, if_neg (by decide)]
    unfold fX12_setItem at e5
    split at e5
    · cases e5; rfl
    · obtain ⟨-, e5⟩ := pm_if e5
      split at e5
      · cases e5; rfl
      · obtain ⟨-, e5⟩ := pm_if e5
        cases e5
        rw [ev_II, if_neg (by decide)]
  · obtain ⟨v10, e1, e⟩ := pm_bd e
    cases e
    exact fl_28 e1 y
/-- a write to what was taken -/
theorem xS_28 {k : Nat} (C : xC h0 n b mm lo hi bo co dd cap B M) (S : xS h0 M bo co Ts o r) : xS h0 M bo co Ts o (pm_setI r 28 k u) := by
  have aa := C.2.2.2.1
  cases o with
  | inl q => exact xS_set S (.inr (.inr (.inr (.inr (.inl rfl))))) (by omega) (by omega)
  | inr y =>
    obtain ⟨F0, V, W, eT⟩ := S
    obtain ⟨v1, v2, v3, v4, v5, v6, v7⟩ := V
    have kx : ∀ a c, a ≠ 28 → pm_I (pm_setI r 28 k u) a c = pm_I r a c := fun a c h => by rw [ev_II, if_neg h]
    exact ⟨gF_t F0 (gF_I r _ (.inr (.inr (.inr (.inr (.inl rfl)))))), ⟨(kx 22 0 (by decide)).trans v1, (kx 22 6 (by decide)).trans v2, (kx 22 10 (by decide)).trans v3, (kx bo 2 (by omega)).trans v4, oRw_k (fun y _ => kx 24 y (by decide)) v5, oL_k (fun y _ => kx 25 y (by decide)) v6, fun i rr hi => by
      obtain ⟨z1, z2, z3, z4, z5⟩ := v7 i rr hi
      exact ⟨(kx co _ (by omega)).trans z1, (kx co _ (by omega)).trans z2, (kx co _ (by omega)).trans z3, (kx co _ (by omega)).trans z4, (kx co _ (by omega)).trans z5⟩⟩, W, eT⟩
theorem gt_a1 {l : List Nat} {a i : Nat} (h : i < l.length) : gt (l ++ [a]) i = gt l i := by
  unfold gt
  rw [List.getD_eq_getElem?_getD, List.getElem?_append_left h, ← List.getD_eq_getElem?_getD]
theorem gt_a2 {l : List Nat} {a : Nat} : gt (l ++ [a]) l.length = a := by
  unfold gt
  rw [List.getD_eq_getElem?_getD, List.getElem?_append_right (Nat.le_refl _), Nat.sub_self]
  rfl
theorem x_tkSl (C : xC h0 n b mm lo hi bo co dd cap B M) (I : xI h0 p v hb) (hl : 0 < Ts.length) (P : sQ h0 lo hi s f l) (hf : f + l.length < 100000) (l16 : l.length ≤ 16) (ty : ∀ x, x ∈ l → x = 0 ∨ isT x) : ∀ (k : Nat) {o : sp_O tK} {r : pm_H}, xS h0 M bo co Ts o r → k ≤ l.length → ∃ r', pm_lim sX1_takeAndPutAgain (.inr (.inr (.inr (.inr (.inl (22, Int32.ofNat l.length, s, Int32.ofNat f, Int32.ofNat k - 1, r)))))) = pm_lim sX1_takeAndPutAgain (.inr (.inr (.inr (.inr (.inr (22, Int32.ofNat l.length, 0, r')))))) ∧ xS h0 M bo co Ts (sp_b (sp_b o fun K _ => kTakeS p (gt l) k K) fun w _ => .inr (w.2, 0)) r' ∧ (∀ w z, (sp_b o fun K _ => kTakeS p (gt l) k K) = .inr (w, z) → w.1.length = k ∧ (∀ t, t ∈ w.1 → t = 0 ∨ isT t) ∧ ∀ i, i < k → pm_I r' 28 i = Int32.ofNat (gt w.1 i)) ∧ ∀ i, k ≤ i → pm_I r' 28 i = pm_I r 28 i := by
  intro k
  induction k with
  | zero =>
    intro o r S hk
    refine ⟨r, ?_, ?_, fun w z e => ?_, fun i _ => rfl⟩
    · refine k_w (aX1_takeAndPutAgain_4 ..) ?_
      unfold tX1_takeAndPutAgain_32
      exact k_t (by decide) rfl
    · cases o <;> exact S
    · obtain ⟨K, z1, e1, e2⟩ := b_inv e
      cases e2
      exact ⟨rfl, fun t ht => absurd ht List.not_mem_nil, fun i hi => absurd hi (Nat.not_lt_zero _)⟩
  | succ k ih =>
    intro o r S hk
    have Pr := sQ_F C S.1 P
    obtain ⟨u, r1, e1, S1, uu⟩ := x_take C I S hl (ty _ (gt_m hk))
    have C1 := xS_C C S1
    have qt := C1.2.2.1.2.2.2.2.2.2.1
    obtain ⟨r3, e3, S3, v3, k3⟩ := ih (xS_28 (k := k) (u := u) C S1) (Nat.le_of_succ_le hk)
    have k28 := tk_28 e1
    have fold1 : ∀ K0, (sp_b (sp_b (kTake p (gt l k) K0) fun y _ => (.inr (y.2, 0) : sp_O tK)) fun K _ => kTakeS p (gt l) k K) = sp_b (kTake p (gt l k) K0) fun y _ => kTakeS p (gt l) k y.2 := fun K0 => by rw [sp_as]; rfl
    have foldw : (sp_b (sp_b o fun K _ => kTakeS p (gt l) (k + 1) K) fun w _ => (.inr (w.2, 0) : sp_O tK)) = sp_b (sp_b (sp_b o fun K _ => sp_b (kTake p (gt l k) K) fun y _ => .inr (y.2, 0)) fun K _ => kTakeS p (gt l) k K) fun w _ => .inr (w.2, 0) := by
      rw [sp_as, sp_as, sp_as]
      refine sp_cg fun K0 z0 _ => ?_
      show sp_b (sp_b (kTake p (gt l k) K0) fun v _ => sp_b (kTakeS p (gt l) k v.2) fun w _ => .inr ((w.1 ++ [v.1], w.2), 0)) (fun w _ => (.inr (w.2, 0) : sp_O tK)) = sp_b (sp_b (kTake p (gt l k) K0) fun y _ => .inr (y.2, 0)) fun K _ => sp_b (kTakeS p (gt l) k K) fun w _ => .inr (w.2, 0)
      rw [sp_as, sp_as]
      refine sp_cg fun y z1 _ => ?_
      rw [sp_as, sp_br]
      rfl
    refine ⟨r3, ?_, ?_, fun w z e => ?_, fun i hi => ?_⟩
    · refine k_w (aX1_takeAndPutAgain_4 ..) ?_
      unfold tX1_takeAndPutAgain_32
      rw [nn_ss]
      have ei : fX12_item r s (Int32.ofNat f + Int32.ofNat k) = some (Int32.ofNat (gt l k)) := by
        rw [nn_ad, ← Pr.2.2.2.2 k hk]
        exact it_v Pr.1 Pr.2.1 (by have := Pr.2.2.1; omega)
      refine k_f (by rw [n3_0, nn_lt (by omega) (by decide)]; omega) (k_t (xS_C C S).2.2.1.1.1 (k_b (xS_C C S).2.2.1.2.2.2.2.2.2.1.1 (k_b ei (k_b e1 (k_t qt.2.1 (k_t (by rw [qt.2.2, nn_in (by omega)]; omega) (k_l ?_)))))))
      rw [dn_s, nn_cm (by omega)]
      exact k_n e3
    · rw [foldw]; exact S3
    · obtain ⟨K0, z0, q1, q2⟩ := b_inv e
      obtain ⟨y, z1, q3, q4⟩ := b_inv q2
      obtain ⟨w', z2, q5, q6⟩ := b_inv q4
      cases q6
      have tw := (kTake_w (xS_wf S q1).1 q3).2.2.1
      obtain ⟨g1, g2, g3⟩ := v3 w' z2 (by rw [q1, sp_br, fold1, q3]; exact q5)
      refine ⟨by show (w'.1 ++ [y.1]).length = _; rw [List.length_append, g1]; rfl, fun t ht => ?_, fun i hi => ?_⟩
      · rcases List.mem_append.mp ht with m | m
        · exact g2 t m
        · rw [List.mem_singleton.mp m]; exact tw
      · show pm_I r3 28 i = Int32.ofNat (gt (w'.1 ++ [y.1]) i)
        by_cases c : i = k
        · rw [c, k3 k (Nat.le_refl _), ev_II, if_pos rfl, if_pos rfl, uu K0 z0 y z1 q1 q3, ← g1, gt_a2]
        · rw [gt_a1 (by omega)]
          exact g3 i (by omega)
    · rw [k3 i (by omega), ev_II, if_pos rfl, if_neg (by omega)]
      exact k28 i
theorem x_ptAl (C : xC h0 n b mm lo hi bo co dd cap B M) (I : xI h0 p v hb) (vals : List Nat) (N16 : N ≤ 16) : ∀ (j k : Nat) {o : sp_O tK} {r : pm_H}, xS h0 M bo co Ts o r → k + j = N → (∀ K z, o = .inr (K, z) → vals.length = N ∧ (∀ t, t ∈ vals → t = 0 ∨ isT t) ∧ ∀ i, i < N → pm_I r 28 i = Int32.ofNat (gt vals i)) → ∃ r', pm_lim sX1_takeAndPutAgain (.inr (.inr (.inr (.inr (.inr (22, Int32.ofNat N, Int32.ofNat k, r)))))) = some r' ∧ xS h0 M bo co Ts (sp_b o fun K _ => kPutN p (gt vals) j k K) r' := by
  intro j
  induction j with
  | zero =>
    intro k o r S hk hv
    refine ⟨r, ?_, ?_⟩
    · refine k_w (aX1_takeAndPutAgain_5 ..) ?_
      unfold tX1_takeAndPutAgain_66
      exact k_t (by rw [nn_le (by omega) (by omega)]; omega) rfl
    · cases o <;> exact S
  | succ j ih =>
    intro k o r S hk hv
    have Cr := xS_C C S
    have qt := Cr.2.2.1.2.2.2.2.2.2.1
    obtain ⟨w, ew, ha⟩ : ∃ w : Nat, pm_I r 28 k = Int32.ofNat w ∧ ∀ K z, o = .inr (K, z) → w = gt vals k ∧ (w = 0 ∨ isT w) := by
      cases o with
      | inl q =>
        obtain ⟨w, ew⟩ := i32_nat (pm_I r 28 k)
        exact ⟨w, ew, fun K z e => by cases e⟩
      | inr y =>
        obtain ⟨g1, g2, g3⟩ := hv y.1 y.2 rfl
        exact ⟨gt vals k, g3 k (by omega), fun K z e => ⟨rfl, g2 _ (gt_m (by omega))⟩⟩
    obtain ⟨r1, e1, S1⟩ := x_put (w := w) C I S (fun K z e => (ha K z e).2)
    have k28 := pt_28 Cr.2.2.1.2.2.1.1 e1
    obtain ⟨r2, e2, S2⟩ := ih (k + 1) S1 (by omega) (fun K z e => by
      obtain ⟨K0, z0, q1, q2⟩ := b_inv e
      obtain ⟨g1, g2, g3⟩ := hv K0 z0 q1
      exact ⟨g1, g2, fun i hi => (k28 i).trans (g3 i hi)⟩)
    refine ⟨r2, ?_, xS_e ?_ S2⟩
    · refine k_w (aX1_takeAndPutAgain_5 ..) ?_
      unfold tX1_takeAndPutAgain_66
      refine k_f (by rw [nn_le (by omega) (by omega)]; omega) (k_t Cr.2.2.1.1.1 (k_b qt.1 (k_t qt.2.1 (k_t (by rw [qt.2.2, nn_in (by omega)]; omega) ?_))))
      rw [nn_cm (by omega), ew]
      refine k_b e1 (k_l ?_)
      rw [show Int32.ofNat k + 1 = Int32.ofNat (k + 1) from nn_ad k 1]
      exact k_n e2
    · rw [sp_as]
      refine sp_cg fun K0 z0 e => ?_
      rw [(ha K0 z0 e).1]
      rfl
/-- taking what a label wants, putting it again -/
theorem x_tpA (C : xC h0 n b mm lo hi bo co dd cap B M) (I : xI h0 p v hb) (S : xS h0 M bo co Ts o r) (T : vTy M) (tl : Ts.length ≤ 200) (hx : Ts[x]? = some t) (W : wfT M t) : ∃ r', fX1_takeAndPutAgain r 22 (Int32.ofNat (Ts.length - 1 - x)) = some r' ∧ xS h0 M bo co Ts (sp_b o fun K _ => sp_b (kTakeS p (gt (lbW M (K.2.1.getD x lb0))) (lbW M (K.2.1.getD x lb0)).length K) fun w _ => kPutL p w.1 w.2) r' := by
  have BW := bt_w T W
  have xl := some_lt hx
  have Cr := xS_C C S
  have k1 := Cr.2.2.1.1.1
  have qt := Cr.2.2.1.2.2.2.2.2.2.1
  obtain ⟨s, g, P, e1, e2, ea, e3, e4, -⟩ := x_lab C S T tl hx W
  have go : ∀ l : List Nat, sQ h0 lo hi s (if g = true then 2 else 2 + (btP M t).length) l → l = (if g = true then btP M t else btR M t) → (∀ x, x ∈ l → isT x) → l.length ≤ 16 → ∃ r', fX1_takeAndPutAgain r 22 (Int32.ofNat (Ts.length - 1 - x)) = some r' ∧ xS h0 M bo co Ts (sp_b o fun K _ => sp_b (kTakeS p (gt (lbW M (K.2.1.getD x lb0))) (lbW M (K.2.1.getD x lb0)).length K) fun w _ => kPutL p w.1 w.2) r' := by
    intro l Q el ty l16
    have b1 := BW.1
    obtain ⟨r1, e5, S1, v1, -⟩ := x_tkSl C I (by omega) Q (by split <;> omega) l16 (fun x hx => .inr (ty x hx)) l.length S (Nat.le_refl _)
    obtain ⟨o2, eo2⟩ : ∃ o2, o2 = sp_b o fun K _ => kTakeS p (gt l) l.length K := ⟨_, rfl⟩
    rw [← eo2] at S1 v1
    obtain ⟨vals, hv⟩ : ∃ vals : List Nat, ∀ w z, o2 = .inr (w, z) → w.1 = vals := by
      cases o2 with
      | inl q => exact ⟨[], fun w z e => by cases e⟩
      | inr y => exact ⟨y.1.1, fun w z e => by cases e; rfl⟩
    obtain ⟨r2, e6, S2⟩ := x_ptAl (N := l.length) C I vals l16 l.length 0 S1 (Nat.zero_add _) (fun K z e => by
      obtain ⟨w, z1, q1, q2⟩ := b_inv e
      cases q2
      obtain ⟨g1, g2, g3⟩ := v1 w z1 q1
      rw [hv w z1 q1] at g1 g2 g3
      exact ⟨g1, g2, g3⟩)
    refine ⟨r2, ?_, xS_e ?_ S2⟩
    · unfold fX1_takeAndPutAgain
      refine k_w (aX1_takeAndPutAgain_0 ..) ?_
      unfold tX1_takeAndPutAgain_0
      refine k_t k1 (k_b qt.1 (k_t qt.2.1 (k_b e3 (k_n (k_w (aX1_takeAndPutAgain_1 ..) ?_)))))
      unfold tX1_takeAndPutAgain_10
      refine k_l (k_t k1 (k_b e1 (k_n (k_w (aX1_takeAndPutAgain_2 ..) ?_))))
      unfold tX1_takeAndPutAgain_19
      refine k_t k1 (k_b e4 (k_n (k_w (aX1_takeAndPutAgain_3 ..) ?_)))
      unfold tX1_takeAndPutAgain_25
      rw [← el]
      have mn : (if Int32.ofNat l.length < Int32.ofNat (pm_ln r 28) then Int32.ofNat l.length else Int32.ofNat (pm_ln r 28)) = Int32.ofNat l.length := by
        rw [qt.2.2]
        by_cases c : l.length < 16
        · rw [if_pos (by rw [nn_lt (by omega) (by decide)]; exact c)]
        · rw [if_neg (by rw [nn_lt (by omega) (by decide)]; exact c), show l.length = 16 by omega]
      refine k_l ?_
      rw [mn]
      exact k_n (e5.trans e6)
    · rw [eo2, sp_as, sp_as]
      refine sp_cg fun K z e => ?_
      rw [ea K z e, ← el]
      refine sp_cg fun w z1 e2 => ?_
      have e3 : o2 = .inr (w, z1) := by rw [eo2, e]; exact e2
      have g1 := (v1 w z1 e3).1
      rw [sp_br, hv w z1 e3]
      show kPutN p (gt vals) l.length 0 w.2 = kPutN p (gt vals) vals.length 0 w.2
      rw [← hv w z1 e3, g1]
  cases g with
  | true => exact go (btP M t) P.1 rfl BW.2.2.1 BW.1
  | false => exact go (btR M t) P.2.1 rfl BW.2.2.2 BW.2.1
end XAGN
