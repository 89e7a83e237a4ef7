/-! FLATTENED CODE: what lies below the innermost label stays -/
theorem kIns_qt {Q : tK → Prop} {M : tMd} {p : Nat} {B : Nat → Nat} {n : Nat} {Dc : Nat → Bool} {lt : Nat → Option Nat} {v : sp_I} {K K' : tK} {z : Nat}
    (hT : ∀ (K : tK) p w v z, kTake p w K = .inr (v, z) → Q K → Q v.2)
    (hP : ∀ (K K' : tK) p t z, kPut p t K = .inr (K', z) → Q K → Q K')
    (hE : ∀ (K : tK) op a b c hb, Q K → Q (kEm K op a b c hb))
    (hB : ∀ (K : tK) op hb x, Q K → Q (kBr M op hb x K))
    (hD : ∀ K : tK, 0 < K.2.1.length → Q K → Q (kDie K))
    (n2 : v.1 = 0 ∨ v.1 = 1 ∨ 5 < v.1) (n11 : v.1 ≠ 11)
    (w : Q K) (hl : 0 < K.2.1.length) (q : kIns B n M Dc lt p v K = .inr (K', z)) : Q K' := by
  have hTk : ∀ {K K' : tK} {p w z : Nat}, kTk p w K = .inr (K', z) → Q K → Q K' := fun {K K' p w z} e h => by
    unfold kTk at e
    split at e
    · cases e; exact h
    · obtain ⟨y, z1, e1, e2⟩ := b_inv e
      cases e2
      exact hT _ _ _ _ _ e1 h
  have hPt : ∀ {K K' : tK} {p w z : Nat}, kPt p w K = .inr (K', z) → Q K → Q K' := fun {K K' p w z} e h => by
    unfold kPt at e
    split at e
    · cases e; exact h
    · exact hP _ _ _ _ _ e h
  have hTN : ∀ {f : Nat → Nat} {k : Nat} {K K' : tK} {p z : Nat}, kTakeN p f k K = .inr (K', z) → Q K → Q K' := by
    intro f k
    induction k with
    | zero => intro K K' p z e h; cases e; exact h
    | succ k ih =>
      intro K K' p z e h
      obtain ⟨v, z1, e1, e2⟩ := b_inv e
      exact ih e2 (hT _ _ _ _ _ e1 h)
  have hTS : ∀ {f : Nat → Nat} {k : Nat} {K : tK} {v : List Nat × tK} {p z : Nat}, kTakeS p f k K = .inr (v, z) → Q K → Q v.2 := by
    intro f k
    induction k with
    | zero => intro K v p z e h; cases e; exact h
    | succ k ih =>
      intro K v p z e h
      obtain ⟨v1, z1, e1, e2⟩ := b_inv e
      obtain ⟨v2, z2, e3, e4⟩ := b_inv e2
      cases e4
      exact (show Q v2.2 from ih e3 (hT _ _ _ _ _ e1 h))
  have hPN : ∀ {f : Nat → Nat} {j k : Nat} {K K' : tK} {p z : Nat}, kPutN p f j k K = .inr (K', z) → Q K → Q K' := by
    intro f j
    induction j with
    | zero => intro k K K' p z e h; cases e; exact h
    | succ j ih =>
      intro k K K' p z e h
      obtain ⟨v, z1, e1, e2⟩ := b_inv e
      exact ih e2 (hP _ _ _ _ _ e1 h)
  have tabL : ∀ {many : Nat} {hb : Int32} {dl : List Nat} {K K' : tK} {z : Nat}, Q K → kTabL M p hb many dl K = .inr (K', z) → Q K' ∧ K'.2.1.length = K.2.1.length := by
    intro many hb dl
    induction dl with
    | nil => intro K K' z w q; cases q; exact ⟨w, rfl⟩
    | cons x l ih =>
      intro K K' z w q
      unfold kTabL at q
      split at q
      · obtain ⟨K1, z1, e1, q⟩ := b_inv q
        have j : K1.2 = K.2 := by
          split at e1
          · exact kTakeN_2 e1
          · obtain ⟨v, z2, e2, e3⟩ := b_inv e1
            exact (kPutN_2 e3).trans (kTakeS_2 e2)
        have w1 : Q K1 := by
          split at e1
          · exact hTN e1 w
          · obtain ⟨v, z2, e2, e3⟩ := b_inv e1
            exact hPN e3 (hTS e2 w)
        obtain ⟨j3, l3⟩ := ih (hB _ _ _ _ w1) q
        exact ⟨j3, by rw [l3, lSm_l (kBr_m M 12 hb x K1).2, j]⟩
      · cases q
  unfold kIns at q
  by_cases cc0 : v.1 = 0
  · rw [if_pos cc0] at q
    cases q
    exact hD _ (by rw [(kEm_1 _ _ _ _ _ _).2]; exact hl) (hE _ _ _ _ _ _ w)
  rw [if_neg cc0] at q
  by_cases cc1 : v.1 = 1
  · rw [if_pos cc1] at q; cases q; exact hE _ _ _ _ _ _ w
  rw [if_neg cc1] at q
  by_cases cc2 : v.1 ≤ 4
  · exact absurd n2 (by omega)
  rw [if_neg cc2] at q
  by_cases cc3 : v.1 = 5
  · exact absurd n2 (by omega)
  rw [if_neg cc3] at q
  by_cases cc4 : v.1 = 11
  · exact absurd cc4 n11
  rw [if_neg cc4] at q
  by_cases cc5 : v.1 ≤ 13
  · rw [if_pos cc5] at q
    unfold kBrn at q
    split at q
    · cases q
    obtain ⟨K1, z1, e1, q⟩ := b_inv q
    obtain ⟨K2, z2, e2, q⟩ := b_inv q
    have e := (kTakeN_2 e2).trans (kTk_2 e1)
    have j : Q K2 := hTN e2 (hTk e1 w)
    split at q
    · cases q
      exact hD _ (by rw [lSm_l (kBr_m _ _ _ _ _).2, e]; exact hl) (hB _ _ _ _ j)
    · obtain ⟨K3, z3, e3, q⟩ := b_inv q
      cases q
      exact hB _ _ _ _ (hPN e3 j)
  rw [if_neg cc5] at q
  by_cases cc6 : v.1 = 14
  · rw [if_pos cc6] at q
    unfold kTab at q
    split at q
    · cases q
    obtain ⟨K1, z1, e1, q⟩ := b_inv q
    obtain ⟨K2, z2, e2, q⟩ := b_inv q
    cases q
    obtain ⟨j, l⟩ := tabL (hE _ _ _ _ _ _ (hTk e1 w)) e2
    exact hD _ (by rw [l, (kEm_1 _ _ _ _ _ _).2, kTk_2 e1]; exact hl) j
  rw [if_neg cc6] at q
  by_cases cc7 : v.1 = 15
  · rw [if_pos cc7] at q
    obtain ⟨K1, z1, e1, q⟩ := b_inv q
    cases q
    exact hD _ (by rw [lSm_l (kBr_m _ _ _ _ _).2, kTakeN_2 e1]; exact hl) (hB _ _ _ _ (hTN e1 w))
  rw [if_neg cc7] at q
  by_cases cc8 : v.1 = 16
  · rw [if_pos cc8] at q
    unfold kCal at q
    split at q
    · cases q
    · obtain ⟨K1, z1, e1, q⟩ := b_inv q
      obtain ⟨K2, z2, e2, q⟩ := b_inv q
      cases q
      exact hE _ _ _ _ _ _ (hPN e2 (hTN e1 w))
  rw [if_neg cc8] at q
  by_cases cc9 : v.1 = 17
  · rw [if_pos cc9] at q
    unfold kCalT at q
    split at q
    · cases q
    · split at q
      · obtain ⟨K1, z1, e1, q⟩ := b_inv q
        obtain ⟨K2, z2, e2, q⟩ := b_inv q
        obtain ⟨K3, z3, e3, q⟩ := b_inv q
        cases q
        exact hE _ _ _ _ _ _ (hPN e3 (hTN e2 (hTk e1 w)))
      · cases q
  rw [if_neg cc9] at q
  by_cases cc10 : v.1 = 26
  · rw [if_pos cc10] at q
    obtain ⟨y, z1, e1, q⟩ := b_inv q
    cases q
    exact hE _ _ _ _ _ _ (hT _ _ _ _ _ e1 w)
  rw [if_neg cc10] at q
  by_cases cc11 : v.1 = 27
  · rw [if_pos cc11] at q
    obtain ⟨K1, z1, e1, q⟩ := b_inv q
    obtain ⟨y, z2, e2, q⟩ := b_inv q
    obtain ⟨y2, z3, e3, q⟩ := b_inv q
    split at q
    · cases q
    · obtain ⟨K4, z4, e4, q⟩ := b_inv q
      cases q
      exact hE _ _ _ _ _ _ (hP _ _ _ _ _ e4 (hT _ _ _ _ _ e3 (hT _ _ _ _ _ e2 (hTk e1 w))))
  rw [if_neg cc11] at q
  by_cases cc12 : 65 ≤ v.1 ∧ v.1 ≤ 68
  · rw [if_pos cc12] at q
    obtain ⟨K1, z1, e1, q⟩ := b_inv q
    cases q
    exact hE _ _ _ _ _ _ (hP _ _ _ _ _ e1 w)
  rw [if_neg cc12] at q
  by_cases cc13 : v.1 = 208
  · rw [if_pos cc13] at q
    obtain ⟨K1, z1, e1, q⟩ := b_inv q
    cases q
    exact hE _ _ _ _ _ _ (hP _ _ _ _ _ e1 w)
  rw [if_neg cc13] at q
  by_cases cc14 : v.1 = 209
  · rw [if_pos cc14] at q
    obtain ⟨y, z1, e1, q⟩ := b_inv q
    split at q
    · cases q
    · obtain ⟨K2, z2, e2, q⟩ := b_inv q
      cases q
      exact hE _ _ _ _ _ _ (hP _ _ _ _ _ e2 (hT _ _ _ _ _ e1 w))
  rw [if_neg cc14] at q
  split at q
  · cases q
  · obtain ⟨K1, z1, e1, q⟩ := b_inv q
    obtain ⟨K2, z2, e2, q⟩ := b_inv q
    obtain ⟨K3, z3, e3, q⟩ := b_inv q
    obtain ⟨K4, z4, e4, q⟩ := b_inv q
    cases q
    exact hE _ _ _ _ _ _ (hPt e4 (hTk e3 (hTk e2 (hTk e1 w))))
/-- the operands below the innermost label -/
def bo (K : tK) : List Nat := K.1.drop (K.1.length - (kTop K).2.2.1)
/-- they stay -/
def boQ (K K' : tK) : Prop := (kTop K').2.2.1 = (kTop K).2.2.1 ∧ (kTop K').2.2.1 ≤ K'.1.length ∧ bo K' = bo K
section BOT
variable {B : Nat → Nat} {n : Nat} {M : tMd} {Dc : Nat → Bool} {lt : Nat → Option Nat} {p z x w : Nat} {K K' K1 : tK} {v : sp_I} {op hb ca cb cc : Int32} {f : Nat → Nat} {l : List Nat}
theorem boQ_r (h : (kTop K).2.2.1 ≤ K.1.length) : boQ K K := ⟨rfl, h, rfl⟩
theorem bo_take {y : Nat × tK} (q : kTake p w K1 = .inr (y, z)) (Q : boQ K K1) : boQ K y.2 := by
  obtain ⟨q1, q2, q3⟩ := Q
  unfold kTake at q
  split at q
  · split at q
    · cases q; exact ⟨q1, q2, q3⟩
    · cases q
  · next hl =>
    split at q
    · cases q
      obtain ⟨s, K2⟩ := K1
      cases s with
      | nil => exact absurd (Nat.zero_le _) hl
      | cons a r =>
        have hl : ¬ r.length + 1 ≤ (kTop (a :: r, K2)).2.2.1 := hl
        refine ⟨q1, by show (kTop (a :: r, K2)).2.2.1 ≤ r.length; omega, ?_⟩
        rw [← q3]
        show r.drop (r.length - (kTop (a :: r, K2)).2.2.1) = (a :: r).drop (r.length + 1 - (kTop (a :: r, K2)).2.2.1)
        rw [show r.length + 1 - (kTop (a :: r, K2)).2.2.1 = (r.length - (kTop (a :: r, K2)).2.2.1) + 1 by omega, List.drop_succ_cons]
    · cases q
theorem bo_put {t : Nat} (q : kPut p t K1 = .inr (K', z)) (Q : boQ K K1) : boQ K K' := by
  obtain ⟨q1, q2, q3⟩ := Q
  unfold kPut at q
  split at q
  · cases q
    refine ⟨q1, Nat.le_succ_of_le q2, ?_⟩
    rw [← q3]
    show (t :: K1.1).drop (K1.1.length + 1 - (kTop K1).2.2.1) = K1.1.drop (K1.1.length - (kTop K1).2.2.1)
    rw [show K1.1.length + 1 - (kTop K1).2.2.1 = (K1.1.length - (kTop K1).2.2.1) + 1 by omega, List.drop_succ_cons]
  · cases q
theorem bo_e (Q : boQ K K1) : boQ K (kEm K1 op ca cb cc hb) := by
  have e := kEm_1 K1 op ca cb cc hb
  unfold boQ bo kTop at Q ⊢
  rw [e.1, e.2]
  exact Q
theorem bo_b (Q : boQ K K1) : boQ K (kBr M op hb x K1) := by
  have e := kBr_m M op hb x K1
  have U := lSm_g 0 e.2
  unfold boQ bo at Q ⊢
  rw [kTop_0 K1] at Q
  rw [kTop_0 (kBr M op hb x K1), e.1, U.2.2.1]
  exact Q
theorem bo_d (hl : 0 < K1.2.1.length) (Q : boQ K K1) : boQ K (kDie K1) := by
  obtain ⟨q1, q2, q3⟩ := Q
  refine ⟨q1, ?_, ?_⟩
  · show (kTop K1).2.2.1 ≤ (K1.1.drop (K1.1.length - (kTop K1).2.2.1)).length
    rw [List.length_drop]; omega
  · rw [← q3]
    show (K1.1.drop (K1.1.length - (kTop K1).2.2.1)).drop ((K1.1.drop (K1.1.length - (kTop K1).2.2.1)).length - (kTop K1).2.2.1) = _
    rw [List.length_drop, show K1.1.length - (K1.1.length - (kTop K1).2.2.1) - (kTop K1).2.2.1 = 0 by omega]
    rfl
theorem bo_pln (n2 : v.1 = 0 ∨ v.1 = 1 ∨ 5 < v.1) (n11 : v.1 ≠ 11) (h : (kTop K).2.2.1 ≤ K.1.length) (hl : 0 < K.2.1.length) (q : kIns B n M Dc lt p v K = .inr (K', z)) : boQ K K' :=
  kIns_qt (K := K) (Q := fun K1 => boQ K K1) (fun K1 p w v z e Q => bo_take e Q) (fun K1 K2 p t z e Q => bo_put e Q) (fun K1 op a b c hb Q => bo_e Q) (fun K1 op hb x Q => bo_b Q) (fun K1 hl Q => bo_d hl Q) n2 n11 (boQ_r h) hl q
theorem bo_takeN : ∀ {k : Nat} {K1 K' : tK} {z : Nat}, kTakeN p f k K1 = .inr (K', z) → boQ K K1 → boQ K K'
  | 0, K1, K', z, q, Q => by cases q; exact Q
  | k + 1, K1, K', z, q, Q => by
    obtain ⟨v, z1, e1, e2⟩ := b_inv q
    exact bo_takeN e2 (bo_take e1 Q)
theorem bo_tk (q : kTk p w K1 = .inr (K', z)) (Q : boQ K K1) : boQ K K' := by
  unfold kTk at q
  split at q
  · cases q; exact Q
  · obtain ⟨y, z1, e1, e2⟩ := b_inv q
    cases e2
    exact bo_take e1 Q
theorem bo_all (Q : boQ K K1) (h : K1.1.length = (kTop K).2.2.1) : K1.1 = bo K := by
  obtain ⟨q1, q2, q3⟩ := Q
  rw [← q3]
  unfold bo
  rw [q1, h, Nat.sub_self]
  rfl
theorem p_putN : ∀ {j k : Nat} {K K' : tK} {z : Nat}, kPutN p f j k K = .inr (K', z) → K' = (((List.range j).map (fun i => f (k + i))).reverse ++ K.1, K.2)
  | 0, k, K, K', z, q => by cases q; rfl
  | j + 1, k, K, K', z, q => by
    obtain ⟨K1, z1, e1, q⟩ := b_inv q
    have r1 : K1 = (f k :: K.1, K.2) := by
      unfold kPut at e1
      split at e1
      · cases e1; rfl
      · cases e1
    have s1 := p_putN q
    rw [s1, r1, List.range_succ_eq_map, List.map_cons, List.reverse_cons, List.append_assoc, List.map_map]
    have : ((fun i => f (k + i)) ∘ Nat.succ) = fun i => f (k + 1 + i) := funext fun i => by show f (k + (i + 1)) = _; rw [show k + (i + 1) = k + 1 + i by omega]
    rw [this]
    rfl
theorem p_putL (q : kPutL p l K = .inr (K', z)) : K' = (l.reverse ++ K.1, K.2) := by
  have s1 := p_putN q
  have : (fun i => gt l (0 + i)) = gt l := funext fun i => by rw [Nat.zero_add]
  rw [this, rng_gt] at s1
  exact s1
/-- 2, 3, 4 -/
theorem io_blk {o : Nat} {ty : Int64} (T : vTy M) (a : aS K) (W' : wfK M K') (q : kBlk M p o ty K = .inr (K', z)) : ∃ r, K.1 = o1 (if o = 4 then 127 else 0) ++ ((btP M ty).reverse ++ r) ∧ K'.1 = (btP M ty).reverse ++ r ∧ (kTop K').2.2.1 = r.length ∧ aS K' ∧ (kTop K).2.2.1 ≤ r.length := by
  have nz : ∀ {l : tLb} {ls : List tLb}, K'.2.1 = l :: ls → l.2.1 = ty → ∀ t, t ∈ btP M ty → t ≠ 0 := fun {l ls} e1 e2 t ht => by
    have := W'.2.1 l (by rw [e1]; exact List.mem_cons_self)
    rw [e2] at this
    exact isT_nz ((bt_w T this.1).2.2.1 t ht)
  obtain ⟨hh, e1, -⟩ := ls_blk q
  have nz := nz e1 rfl
  unfold kBlk at q
  split at q
  · cases q
  obtain ⟨K1, z1, f1, q⟩ := b_inv q
  obtain ⟨K2, z2, f2, q⟩ := b_inv q
  split at q
  · cases q
  obtain ⟨r1, s1, s2, s3⟩ := e_tk a f1
  obtain ⟨r2, t1, t2, t3⟩ := e_takeL s3 nz f2
  rw [s2] at t1 t2
  have t1 : r1 = _ := t1
  rw [t2] at q t3
  have u := p_putL q
  refine ⟨r2, by rw [s1, t1], by rw [u], by rw [u]; rfl, ⟨by rw [u]; rfl, by rw [u]; show r2.length ≤ (_ ++ r2).length; rw [List.length_append]; omega, fun t ht => ?_⟩, t3.2.1⟩
  rw [u] at ht
  rcases List.mem_append.mp ht with m | m
  · exact nz t (List.mem_reverse.mp m)
  · exact t3.2.2 t m
/-- 5 -/
theorem io_els (h : (kTop K).2.2.1 ≤ K.1.length) (q : kEls M p K = .inr (K', z)) : K'.1 = (btP M (kTop K).2.1).reverse ++ bo K ∧ (bo K).length = (kTop K).2.2.1 ∧ ∀ (_ : aS K) (_ : ∀ t, t ∈ btR M (kTop K).2.1 → t ≠ 0), K.1 = (btR M (kTop K).2.1).reverse ++ bo K := by
  unfold kEls at q
  obtain ⟨K1, z1, e1, q⟩ := b_inv q
  have Q := bo_takeN e1 (boQ_r h)
  split at q
  · next hh =>
    have u := p_putL q
    have k1 := bo_all Q hh
    refine ⟨by rw [u, ← k1], by rw [← k1]; exact hh, fun a nz => ?_⟩
    obtain ⟨r, r1, r2, r3⟩ := e_takeL a nz e1
    rw [r1, ← k1, r2]
  · cases q
/-- 11 -/
theorem io_end (h : (kTop K).2.2.1 ≤ K.1.length) (hl : 0 < K.2.1.length) (q : kEnd M p K = .inr (K', z)) : (bo K).length = (kTop K).2.2.1 ∧ (K'.2.1.length ≠ 0 → K'.1 = (btR M (kTop K).2.1).reverse ++ bo K) ∧ ∀ (_ : aS K) (_ : ∀ t, t ∈ btR M (kTop K).2.1 → t ≠ 0), K.1 = (btR M (kTop K).2.1).reverse ++ bo K := by
  have lab := (ls_end hl q).1
  unfold kEnd at q
  obtain ⟨K1, z1, e1, q⟩ := b_inv q
  have Q := bo_takeN e1 (boQ_r h)
  have j := kTakeN_2 e1
  split at q
  · next hh =>
    have k1 := bo_all Q hh
    refine ⟨by rw [← k1]; exact hh, fun h0 => ?_, fun a nz => ?_⟩
    · split at q
      · cases q
      · split at q
        · next g =>
          rw [lab, ← j] at h0
          exact absurd g h0
        · have u := p_putL q
          rw [u, ← k1]
    · obtain ⟨r, r1, r2, r3⟩ := e_takeL a nz e1
      rw [r1, ← k1, r2]
  · cases q
end BOT
