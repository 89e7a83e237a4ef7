/-! FLATTENED CODE: the operands of a state that may be come to are known exactly -/
def aS (K : tK) : Prop := (kTop K).2.2.2.1 = false ∧ (kTop K).2.2.1 ≤ K.1.length ∧ ∀ t, t ∈ K.1 → t ≠ 0
section STK
variable {M : tMd} {p w z : Nat} {K K' : tK} {f : Nat → Nat} {l : List Nat}
theorem aS_2 {s : List Nat} (a : aS K) (h : (kTop K).2.2.1 ≤ s.length) (hs : ∀ t, t ∈ s → t ≠ 0) : aS (s, K.2) := ⟨a.1, h, hs⟩
theorem e_take {v : Nat × tK} (a : aS K) (q : kTake p w K = .inr (v, z)) : ∃ r, K.1 = v.1 :: r ∧ v.2 = (r, K.2) ∧ (w ≠ 0 → v.1 = w) ∧ aS v.2 := by
  obtain ⟨a1, a2, a3⟩ := a
  unfold kTake at q
  split at q
  · rw [if_neg (by rw [a1]; decide)] at q; cases q
  · next hl =>
    split at q
    · next c =>
      cases q
      obtain ⟨st, K2⟩ := K
      cases st with
      | nil => exact absurd (Nat.zero_le _) hl
      | cons y r =>
        have hl : ¬ r.length + 1 ≤ (kTop (y :: r, K2)).2.2.1 := hl
        refine ⟨r, rfl, rfl, fun h => ?_, a1, by show (kTop (y :: r, K2)).2.2.1 ≤ r.length; omega, fun t ht => a3 t (List.mem_cons_of_mem _ ht)⟩
        rcases c with c | c | c
        · exact absurd c h
        · exact absurd c (a3 y List.mem_cons_self)
        · exact c
    · cases q
theorem e_put {t : Nat} (a : aS K) (ht : t ≠ 0) (q : kPut p t K = .inr (K', z)) : K' = (t :: K.1, K.2) ∧ aS K' ∧ K.1.length < 1000 := by
  obtain ⟨a1, a2, a3⟩ := a
  unfold kPut at q
  split at q
  · next c =>
    cases q
    refine ⟨rfl, ⟨a1, Nat.le_succ_of_le a2, fun y hy => ?_⟩, c⟩
    rcases List.mem_cons.mp hy with e | e
    · rw [e]; exact ht
    · exact a3 y e
  · cases q
/-- one or none -/
def o1 (w : Nat) : List Nat := if w = 0 then [] else [w]
theorem e_tk (a : aS K) (q : kTk p w K = .inr (K', z)) : ∃ r, K.1 = o1 w ++ r ∧ K' = (r, K.2) ∧ aS K' := by
  unfold kTk at q
  unfold o1
  split at q
  · next c =>
    cases q
    rw [if_pos c]
    exact ⟨K.1, rfl, rfl, a⟩
  · next c =>
    obtain ⟨v, z1, e1, q⟩ := b_inv q
    cases q
    obtain ⟨r, r1, r2, r3, r4⟩ := e_take a e1
    rw [if_neg c, ← r3 c]
    exact ⟨r, r1, r2, r4⟩
theorem e_pt (a : aS K) (q : kPt p w K = .inr (K', z)) : K' = (o1 w ++ K.1, K.2) ∧ aS K' := by
  unfold kPt at q
  unfold o1
  split at q
  · next c =>
    cases q
    rw [if_pos c]
    exact ⟨rfl, a⟩
  · next c =>
    rw [if_neg c]
    exact ⟨(e_put a c q).1, (e_put a c q).2.1⟩
theorem e_takeN : ∀ {k : Nat} {K K' : tK} {z : Nat}, aS K → (∀ j, j < k → f j ≠ 0) → kTakeN p f k K = .inr (K', z) → ∃ r, K.1 = ((List.range k).map f).reverse ++ r ∧ K' = (r, K.2) ∧ aS K'
  | 0, K, K', z, a, h, q => by cases q; exact ⟨K.1, rfl, rfl, a⟩
  | k + 1, K, K', z, a, h, q => by
    obtain ⟨v, z1, e1, q⟩ := b_inv q
    obtain ⟨r, r1, r2, r3, r4⟩ := e_take a e1
    obtain ⟨r', s1, s2, s3⟩ := e_takeN r4 (fun j hj => h j (by omega)) q
    rw [r2] at s1 s2
    have s1 : r = _ := s1
    refine ⟨r', ?_, s2, s3⟩
    rw [r1, r3 (h k (Nat.lt_succ_self _)), s1, List.range_succ, List.map_append, List.reverse_append]
    rfl
theorem rng_gt : ∀ (l : List Nat), (List.range l.length).map (gt l) = l
  | l => by
    apply List.ext_getElem
    · rw [List.length_map, List.length_range]
    · intro i h1 h2
      rw [List.getElem_map, List.getElem_range]
      show l.getD i 0 = _
      rw [List.getD_eq_getElem?_getD, List.getElem?_eq_getElem h2]
      rfl
theorem gt_nz (h : ∀ t, t ∈ l → t ≠ 0) : ∀ j, j < l.length → gt l j ≠ 0 := fun j hj => by
  show l.getD j 0 ≠ 0
  rw [List.getD_eq_getElem?_getD, List.getElem?_eq_getElem hj]
  exact h _ (List.getElem_mem hj)
theorem e_takeL (a : aS K) (h : ∀ t, t ∈ l → t ≠ 0) (q : kTakeL p l K = .inr (K', z)) : ∃ r, K.1 = l.reverse ++ r ∧ K' = (r, K.2) ∧ aS K' := by
  obtain ⟨r, r1, r2, r3⟩ := e_takeN a (gt_nz h) q
  rw [rng_gt] at r1
  exact ⟨r, r1, r2, r3⟩
theorem e_putN : ∀ {j k : Nat} {K K' : tK} {z : Nat}, aS K → (∀ i, k ≤ i → i < k + j → f i ≠ 0) → kPutN p f j k K = .inr (K', z) → K' = (((List.range j).map (fun i => f (k + i))).reverse ++ K.1, K.2) ∧ aS K' ∧ K'.1.length ≤ max 1000 K.1.length
  | 0, k, K, K', z, a, h, q => by cases q; exact ⟨rfl, a, by omega⟩
  | j + 1, k, K, K', z, a, h, q => by
    obtain ⟨K1, z1, e1, q⟩ := b_inv q
    obtain ⟨r1, r2, r3⟩ := e_put a (h k (Nat.le_refl _) (by omega)) e1
    obtain ⟨s1, s2, s3⟩ := e_putN r2 (fun i h1 h2 => h i (by omega) (by omega)) q
    have l1 : K1.1.length = K.1.length + 1 := by rw [r1]; rfl
    refine ⟨?_, s2, by omega⟩
    rw [s1, r1, List.range_succ_eq_map, List.map_cons, List.reverse_cons, List.append_assoc, List.map_map]
    have : ((fun i => f (k + i)) ∘ Nat.succ) = fun i => f (k + 1 + i) := funext fun i => by show f (k + (i + 1)) = _; rw [show k + (i + 1) = k + 1 + i by omega]
    rw [this]
    rfl
theorem e_putL (a : aS K) (h : ∀ t, t ∈ l → t ≠ 0) (q : kPutL p l K = .inr (K', z)) : K' = (l.reverse ++ K.1, K.2) ∧ aS K' := by
  obtain ⟨s1, s2, -⟩ := e_putN a (fun i _ h2 => gt_nz h i (by omega)) q
  have : (fun i => gt l (0 + i)) = gt l := funext fun i => by rw [Nat.zero_add]
  rw [this, rng_gt] at s1
  exact ⟨s1, s2⟩
theorem e_takeS : ∀ {k : Nat} {K : tK} {v : List Nat × tK} {z : Nat}, aS K → kTakeS p f k K = .inr (v, z) → ∃ r, K.1 = v.1.reverse ++ r ∧ v.2 = (r, K.2) ∧ v.1.length = k ∧ aS v.2 ∧ (∀ t, t ∈ v.1 → t ≠ 0) ∧ ∀ j, j < k → f j ≠ 0 → v.1.getD j 0 = f j
  | 0, K, v, z, a, q => by cases q; exact ⟨K.1, rfl, rfl, rfl, a, fun t ht => absurd ht List.not_mem_nil, fun j hj => absurd hj (Nat.not_lt_zero _)⟩
  | k + 1, K, v, z, a, q => by
    obtain ⟨v1, z1, e1, q⟩ := b_inv q
    obtain ⟨v2, z2, e2, q⟩ := b_inv q
    cases q
    obtain ⟨r, r1, r2, r3, r4⟩ := e_take a e1
    obtain ⟨r', s1, s2, s3, s4, s5, s6⟩ := e_takeS r4 e2
    rw [r2] at s1 s2
    have s1 : r = _ := s1
    refine ⟨r', ?_, s2, ?_, s4, fun t ht => ?_, fun j hj hf => ?_⟩
    · rw [r1, s1]
      show v1.1 :: (v2.1.reverse ++ r') = (v2.1 ++ [v1.1]).reverse ++ r'
      rw [List.reverse_append]
      rfl
    · show (v2.1 ++ [v1.1]).length = k + 1
      rw [List.length_append, s3]
      rfl
    · rcases List.mem_append.mp ht with e | e
      · exact s5 t e
      · rw [List.mem_singleton.mp e]
        exact a.2.2 _ (by rw [r1]; exact List.mem_cons_self)
    · show (v2.1 ++ [v1.1]).getD j 0 = f j
      by_cases c : j < k
      · rw [getD_app (by omega)]
        exact s6 j c hf
      · have jk : j = k := by omega
        rw [jk] at hf ⊢
        rw [List.getD_eq_getElem?_getD, List.getElem?_append_right (by omega), s3, Nat.sub_self]
        exact r3 hf
end STK
