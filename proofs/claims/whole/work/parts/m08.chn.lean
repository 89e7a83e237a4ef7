/-! CHAINS: the rows that jump to a label, linked, each row in one chain at most; and how many rows an instruction makes -/
def cOk (rs : List tRw) : List Nat → Prop
  | [] => True
  | a :: c => (a < rs.length ∧ (rs.getD a rw0).2.1 = kPtr c) ∧ cOk rs c
def cL (l : tLb) : List Nat := (if l.1 = 4 ∧ 0 ≤ l.2.2.2.2.2.2 then [l.2.2.2.2.2.2.toNatClampNeg] else []) ++ l.2.2.2.2.2.1
def cA : List tLb → List Nat
  | [] => []
  | l :: ls => cL l ++ cA ls
def wfC (K : tK) : Prop := (cA K.2.1).Nodup ∧ (∀ a, a ∈ cA K.2.1 → a < K.2.2.length) ∧ ∀ l, l ∈ K.2.1 → cOk K.2.2 l.2.2.2.2.2.1
def wC (k : Nat) (K K' : tK) : Prop := wfC K' ∧ K'.2.2.length ≤ K.2.2.length + k
section CHN
variable {M : tMd} {K K' K1 K2 : tK} {rs : List tRw} {c : List Nat} {ls : List tLb} {l l' : tLb} {p w x k k' z : Nat} {op a1 a2 a3 hb t : Int32}
theorem cA_m {a : Nat} : ∀ {ls : List tLb}, l ∈ ls → a ∈ l.2.2.2.2.2.1 → a ∈ cA ls
  | [], h, _ => absurd h List.not_mem_nil
  | k :: ls, h, m => by
    rcases List.mem_cons.mp h with e | e
    · exact List.mem_append.mpr (.inl (List.mem_append.mpr (.inr (by rw [← e]; exact m))))
    · exact List.mem_append.mpr (.inr (cA_m e m))
theorem cOk_app {q : List tRw} : ∀ {c : List Nat}, cOk rs c → cOk (rs ++ q) c
  | [], _ => trivial
  | a :: c, ⟨⟨h1, h2⟩, h3⟩ => ⟨⟨by rw [List.length_append]; omega, by rw [List.getD_eq_getElem?_getD, List.getElem?_append_left h1, ← List.getD_eq_getElem?_getD]; exact h2⟩, cOk_app h3⟩
theorem cOk_aim {a : Nat} : ∀ {c : List Nat}, a ∉ c → cOk rs c → cOk (rwAim rs a t) c
  | [], _, _ => trivial
  | y :: c, n, ⟨⟨h1, h2⟩, h3⟩ => by
    have ny : a ≠ y := fun e => n (by rw [e]; exact List.mem_cons_self)
    refine ⟨⟨by unfold rwAim; rw [List.length_set]; exact h1, ?_⟩, cOk_aim (fun e => n (List.mem_cons_of_mem _ e)) h3⟩
    unfold rwAim
    rw [List.getD_eq_getElem?_getD, List.getElem?_set, if_neg ny, ← List.getD_eq_getElem?_getD]
    exact h2
theorem rwAim_l (rs : List tRw) (a : Nat) (t : Int32) : (rwAim rs a t).length = rs.length := List.length_set
theorem fold_l : ∀ (c : List Nat) (rs : List tRw), (c.foldl (fun co r => rwAim co r t) rs).length = rs.length
  | [], _ => rfl
  | a :: c, rs => by rw [List.foldl_cons, fold_l c, rwAim_l]
theorem cOk_fold : ∀ {q : List Nat} {rs : List tRw}, (∀ a, a ∈ q → a ∉ c) → cOk rs c → cOk (q.foldl (fun co r => rwAim co r t) rs) c
  | [], _, _, h => h
  | a :: q, rs, n, h => by
    rw [List.foldl_cons]
    exact cOk_fold (fun y hy => n y (List.mem_cons_of_mem _ hy)) (cOk_aim (n a List.mem_cons_self) h)
theorem wC_2 (h : K'.2 = K.2) (w : wfC K) : wC 0 K K' := by
  unfold wC wfC
  rw [h]
  exact ⟨w, Nat.le_refl _⟩
theorem wC_t (a : wC k K K1) (b : wC k' K1 K2) : wC (k + k') K K2 := ⟨b.1, by have := a.2; have := b.2; omega⟩
theorem wC_m (a : wC k K K') (h : k ≤ k') : wC k' K K' := ⟨a.1, by have := a.2; omega⟩
theorem wC_e (w : wfC K) : wC 1 K (kEm K op a1 a2 a3 hb) := by
  obtain ⟨w1, w2, w3⟩ := w
  unfold kEm
  split
  · refine ⟨⟨w1, fun a ha => ?_, fun l hl => cOk_app (w3 l hl)⟩, ?_⟩
    · show a < (K.2.2 ++ [_]).length
      rw [List.length_append]
      exact Nat.lt_of_lt_of_le (w2 a ha) (Nat.le_add_right _ _)
    · show (K.2.2 ++ [_]).length ≤ _
      rw [List.length_append]
      exact Nat.le_refl _
  · exact ⟨⟨w1, w2, w3⟩, Nat.le_succ _⟩
theorem cA_set {a : Nat} (hl : cL l' = (if l'.1 = 4 ∧ 0 ≤ l'.2.2.2.2.2.2 then [l'.2.2.2.2.2.2.toNatClampNeg] else []) ++ a :: (ls.getD x lb0).2.2.2.2.2.1) (h1 : l'.1 = (ls.getD x lb0).1) (h6 : l'.2.2.2.2.2.2 = (ls.getD x lb0).2.2.2.2.2.2) (hx : x < ls.length) : (cA (ls.set x l')).Perm (a :: cA ls) := by
  induction ls generalizing x with
  | nil => exact absurd hx (Nat.not_lt_zero _)
  | cons k ls ih =>
    cases x with
    | zero =>
      show (cL l' ++ cA ls).Perm (a :: (cL k ++ cA ls))
      rw [hl, h1, h6]
      show ((_ ++ a :: k.2.2.2.2.2.1) ++ cA ls).Perm (a :: ((_ ++ k.2.2.2.2.2.1) ++ cA ls))
      rw [List.append_assoc, List.cons_append, List.append_assoc]
      exact List.perm_middle
    | succ x =>
      show (cL k ++ cA (ls.set x l')).Perm (a :: (cL k ++ cA ls))
      exact ((ih hl h1 h6 (Nat.lt_of_succ_lt_succ hx)).append_left (cL k)).trans List.perm_middle
theorem wC_b (w : wfC K) (hx : x < K.2.1.length) : wC 1 K (kBr M op hb x K) := by
  obtain ⟨st, ls, rs⟩ := K
  obtain ⟨w1, w2, w3⟩ := w
  unfold kBr
  by_cases c : kAl (st, ls, rs) = true
  · rw [if_pos c]
    have ln : ∀ q : tRw, (rs ++ [q]).length = rs.length + 1 := fun q => List.length_append
    by_cases d : (ls.getD x lb0).1 = 3
    · show wC 1 (st, ls, rs) (st, (if (ls.getD x lb0).1 = 3 then ls else _), rs ++ [_])
      rw [if_pos d]
      exact ⟨⟨w1, fun a ha => by show a < (rs ++ [_]).length; rw [ln]; exact Nat.lt_succ_of_lt (w2 a ha), fun l hl => cOk_app (w3 l hl)⟩, Nat.le_of_eq (ln _)⟩
    · show wC 1 (st, ls, rs) (st, (if (ls.getD x lb0).1 = 3 then ls else _), rs ++ [(op, (if (ls.getD x lb0).1 = 3 then _ else _), _)])
      rw [if_neg d, if_neg d]
      have pm := cA_set (ls := ls) (x := x) (a := rs.length) (l' := ((ls.getD x lb0).1, (ls.getD x lb0).2.1, (ls.getD x lb0).2.2.1, (ls.getD x lb0).2.2.2.1, (ls.getD x lb0).2.2.2.2.1, rs.length :: (ls.getD x lb0).2.2.2.2.2.1, (ls.getD x lb0).2.2.2.2.2.2)) rfl rfl rfl hx
      refine ⟨⟨?_, fun a ha => ?_, fun l hl => ?_⟩, Nat.le_of_eq (ln _)⟩
      · refine pm.nodup_iff.mpr (List.nodup_cons.mpr ⟨fun m => Nat.lt_irrefl _ (w2 _ m), w1⟩)
      · show a < (rs ++ [_]).length
        rw [ln]
        rcases List.mem_cons.mp (pm.mem_iff.mp ha) with e | e
        · rw [e]; exact Nat.lt_succ_self _
        · exact Nat.lt_succ_of_lt (w2 a e)
      · rcases List.mem_or_eq_of_mem_set hl with e | e
        · exact cOk_app (w3 l e)
        · rw [e]
          refine ⟨⟨?_, ?_⟩, cOk_app (w3 _ (getD_mem hx))⟩
          · show rs.length < (rs ++ [_]).length
            rw [ln]; exact Nat.lt_succ_self _
          · show ((rs ++ [_]).getD rs.length rw0).2.1 = _
            rw [List.getD_eq_getElem?_getD, List.getElem?_append_right (Nat.le_refl _), Nat.sub_self]
            rfl
  · rw [if_neg c]
    exact ⟨⟨w1, w2, w3⟩, Nat.le_succ _⟩
theorem wC_d (w : wfC K) (hl : 0 < K.2.1.length) : wC 0 K (kDie K) := by
  obtain ⟨st, ls, rs⟩ := K
  cases ls with
  | nil => exact absurd hl (Nat.lt_irrefl 0)
  | cons l ls =>
    obtain ⟨w1, w2, w3⟩ := w
    exact ⟨⟨w1, w2, fun k hk => by
      rcases List.mem_cons.mp hk with e | e
      · rw [e]; exact w3 l List.mem_cons_self
      · exact w3 k (List.mem_cons_of_mem _ e)⟩, Nat.le_refl _⟩
/-- what takes and puts leaves labels and rows as they are -/
theorem kTake_2 {v : Nat × tK} (q : kTake p w K = .inr (v, z)) : v.2.2 = K.2 := by
  unfold kTake at q
  split at q
  · split at q
    · cases q; rfl
    · cases q
  · split at q
    · cases q; rfl
    · cases q
theorem kPut_2 (q : kPut p w K = .inr (K', z)) : K'.2 = K.2 := by
  unfold kPut at q
  split at q
  · cases q; rfl
  · cases q
theorem kTk_2 (q : kTk p w K = .inr (K', z)) : K'.2 = K.2 := by
  unfold kTk at q
  split at q
  · cases q; rfl
  · obtain ⟨y, z1, e1, e2⟩ := b_inv q
    cases e2
    exact kTake_2 e1
theorem kPt_2 (q : kPt p w K = .inr (K', z)) : K'.2 = K.2 := by
  unfold kPt at q
  split at q
  · cases q; rfl
  · exact kPut_2 q
theorem kTakeN_2 {f : Nat → Nat} : ∀ {k : Nat} {K K' : tK} {z : Nat}, kTakeN p f k K = .inr (K', z) → K'.2 = K.2
  | 0, K, K', z, q => by cases q; rfl
  | k + 1, K, K', z, q => by
    obtain ⟨v, z1, e1, e2⟩ := b_inv q
    exact (kTakeN_2 e2).trans (kTake_2 e1)
theorem kTakeS_2 {f : Nat → Nat} : ∀ {k : Nat} {K : tK} {v : List Nat × tK} {z : Nat}, kTakeS p f k K = .inr (v, z) → v.2.2 = K.2
  | 0, K, v, z, q => by cases q; rfl
  | k + 1, K, v, z, q => by
    obtain ⟨v1, z1, e1, e2⟩ := b_inv q
    obtain ⟨v2, z2, e3, e4⟩ := b_inv e2
    cases e4
    exact (kTakeS_2 e3).trans (kTake_2 e1)
theorem kPutN_2 {f : Nat → Nat} : ∀ {j k : Nat} {K K' : tK} {z : Nat}, kPutN p f j k K = .inr (K', z) → K'.2 = K.2
  | 0, k, K, K', z, q => by cases q; rfl
  | j + 1, k, K, K', z, q => by
    obtain ⟨v, z1, e1, e2⟩ := b_inv q
    exact (kPutN_2 e2).trans (kPut_2 e1)
theorem kPl_c {x1 x2 x3 r : Nat} (w : wfC K) (q : kPl p op a1 a2 hb x1 x2 x3 r K = .inr (K', z)) : wC 1 K K' := by
  obtain ⟨K1, z1, e1, q⟩ := b_inv q
  obtain ⟨K2, z2, e2, q⟩ := b_inv q
  obtain ⟨K3, z3, e3, q⟩ := b_inv q
  obtain ⟨K4, z4, e4, q⟩ := b_inv q
  cases q
  have j := wC_2 ((kPt_2 e4).trans ((kTk_2 e3).trans ((kTk_2 e2).trans (kTk_2 e1)))) w
  exact wC_m (wC_t j (wC_e j.1)) (by decide)
theorem kBlk_c {op : Nat} {t : Int64} (w : wfC K) (hr : K.2.2.length < 2147483648) (q : kBlk M p op t K = .inr (K', z)) : wC 1 K K' := by
  unfold kBlk at q
  split at q
  · cases q
  obtain ⟨K1, z1, e1, q⟩ := b_inv q
  obtain ⟨K2, z2, e2, q⟩ := b_inv q
  have j := (kTakeN_2 e2).trans (kTk_2 e1)
  split at q
  · cases q
  have q := kPutN_2 q
  obtain ⟨w1, w2, w3⟩ := w
  rw [← j] at w1 w2 w3
  have cc : ∀ i, cL (op, t, K2.1.length, false, kAl K2, [], i) = if op = 4 ∧ 0 ≤ i then [i.toNatClampNeg] else [] := fun i => by unfold cL; rw [List.append_nil]
  by_cases c4 : op = 4
  · rw [if_pos c4, if_pos c4] at q
    have j2 := wC_e (op := 4) (a1 := -1) (a2 := 0) (a3 := 0) (hb := Int32.ofNat K.1.length) ⟨w1, w2, w3⟩
    obtain ⟨⟨u1, u2, u3⟩, u4⟩ := j2
    rw [(kEm_1 K2 4 (-1) 0 0 (Int32.ofNat K.1.length)).2] at u1 u2 u3
    have ci : cL (op, t, K2.1.length, false, kAl K2, [], (if kAl K2 = true then Int32.ofNat K2.2.2.length else -1)) = if kAl K2 = true then [K2.2.2.length] else [] := by
      rw [cc]
      by_cases ka : kAl K2 = true
      · rw [if_pos ka, if_pos ka, if_pos ⟨c4, by rw [n3_0, nn_le (by decide) (by rw [j]; exact hr)]; omega⟩, nn_cm (by rw [j]; exact hr)]
      · rw [if_neg ka, if_neg ka, if_neg (fun h => absurd h.2 (by decide))]
    unfold wC wfC
    rw [q]
    refine ⟨⟨?_, fun a ha => ?_, fun l hl => ?_⟩, by rw [j] at u4; exact u4⟩
    · show (cL _ ++ cA K2.2.1).Nodup
      rw [ci]
      by_cases ka : kAl K2 = true
      · rw [if_pos ka]
        exact List.nodup_cons.mpr ⟨fun m => Nat.lt_irrefl _ (w2 _ m), w1⟩
      · rw [if_neg ka]
        exact w1
    · have ha : a ∈ cL _ ++ cA K2.2.1 := ha
      rw [ci] at ha
      rcases List.mem_append.mp ha with e | e
      · by_cases ka : kAl K2 = true
        · rw [if_pos ka] at e
          rw [List.mem_singleton.mp e]
          show K2.2.2.length < (kEm K2 4 (-1) 0 0 (Int32.ofNat K.1.length)).2.2.length
          unfold kEm
          rw [if_pos ka]
          show K2.2.2.length < (K2.2.2 ++ [_]).length
          rw [List.length_append]
          exact Nat.lt_succ_self _
        · rw [if_neg ka] at e
          exact absurd e List.not_mem_nil
      · exact u2 a e
    · rcases List.mem_cons.mp hl with e | e
      · rw [e]; trivial
      · exact u3 l e
  · rw [if_neg c4, if_neg c4] at q
    unfold wC wfC
    rw [q]
    refine ⟨⟨?_, fun a ha => ?_, fun l hl => ?_⟩, by rw [j]; exact Nat.le_succ _⟩
    · show (cL _ ++ cA K2.2.1).Nodup
      rw [cc, if_neg (fun h => c4 h.1)]
      exact w1
    · have ha : a ∈ cL _ ++ cA K2.2.1 := ha
      rw [cc, if_neg (fun h => c4 h.1)] at ha
      exact w2 a ha
    · rcases List.mem_cons.mp hl with e | e
      · rw [e]; trivial
      · exact w3 l e
/-- aiming the row of an if touches no chain -/
theorem aimC_c {ls : List tLb} {rs : List tRw} {st : List Nat} (w : wfC (st, l :: ls, rs)) {c : List Nat} (hc : c = l.2.2.2.2.2.1 ∨ ∃ k, k ∈ ls ∧ c = k.2.2.2.2.2.1) : cOk (kAimC (st, l :: ls, rs)).2.2 c := by
  obtain ⟨w1, w2, w3⟩ := w
  have o : cOk rs c := by
    rcases hc with e | ⟨k, hk, e⟩
    · rw [e]; exact w3 l List.mem_cons_self
    · rw [e]; exact w3 k (List.mem_cons_of_mem _ hk)
  unfold kAimC
  by_cases h : (kTop (st, l :: ls, rs)).1 = 4 ∧ 0 ≤ (kTop (st, l :: ls, rs)).2.2.2.2.2.2
  · rw [if_pos h]
    have h : l.1 = 4 ∧ 0 ≤ l.2.2.2.2.2.2 := h
    refine cOk_aim (fun m => ?_) o
    have m : l.2.2.2.2.2.2.toNatClampNeg ∈ c := m
    have w1 : (cL l ++ cA ls).Nodup := w1
    unfold cL at w1
    rw [if_pos h, List.append_assoc] at w1
    have w1 : (l.2.2.2.2.2.2.toNatClampNeg :: (l.2.2.2.2.2.1 ++ cA ls)).Nodup := w1
    have n := (List.nodup_cons.mp w1).1
    refine n ?_
    rcases hc with e | ⟨k, hk, e⟩
    · rw [e] at m; exact List.mem_append.mpr (.inl m)
    · rw [e] at m; exact List.mem_append.mpr (.inr (cA_m hk m))
  · rw [if_neg h]; exact o
theorem kEls_c (w : wfC K) (hl : 0 < K.2.1.length) (q : kEls M p K = .inr (K', z)) : wC 1 K K' := by
  unfold kEls at q
  obtain ⟨K1, z1, e1, q⟩ := b_inv q
  have j := wC_2 (kTakeN_2 e1) w
  split at q
  · have q := kPutN_2 q
    have hl1 : 0 < K1.2.1.length := by rw [kTakeN_2 e1]; exact hl
    have jb := wC_b (M := M) (op := 5) (hb := Int32.ofNat K.1.length) j.1 hl1
    have tt := kBr_t0 M 5 (Int32.ofNat K.1.length) K1
    have l1 := lSm_l (kBr_m M 5 (Int32.ofNat K.1.length) 0 K1).2
    have l2 := jb.2
    have l3 := j.2
    generalize kBr M 5 (Int32.ofNat K.1.length) 0 K1 = KB at *
    rw [← tt] at q
    obtain ⟨st, ls, rs⟩ := KB
    cases ls with
    | nil => have l1 : 0 = K1.2.1.length := l1; omega
    | cons l ls =>
      have W := jb.1
      obtain ⟨w1, w2, w3⟩ := jb.1
      have w1 : (cL l ++ cA ls).Nodup := w1
      have w2 : ∀ a, a ∈ cL l ++ cA ls → a < rs.length := w2
      unfold cL at w1 w2
      rw [List.append_assoc] at w1 w2
      have ln := (kAimC_1 (st, l :: ls, rs)).2.2
      unfold wC wfC
      rw [q]
      refine ⟨⟨(List.nodup_append.mp w1).2.1, fun a ha => ?_, fun k hk => ?_⟩, ?_⟩
      · show a < (kAimC (st, l :: ls, rs)).2.2.length
        rw [ln]
        exact w2 a (List.mem_append.mpr (.inr ha))
      · rcases List.mem_cons.mp hk with e | e
        · rw [e]; exact aimC_c W (.inl rfl)
        · exact aimC_c W (.inr ⟨k, e, rfl⟩)
      · show (kAimC (st, l :: ls, rs)).2.2.length ≤ _
        rw [ln]
        omega
  · cases q
theorem kEnd_c (w : wfC K) (hl : 0 < K.2.1.length) (q : kEnd M p K = .inr (K', z)) : wC 1 K K' := by
  unfold kEnd at q
  obtain ⟨K1, z1, e1, q⟩ := b_inv q
  have j := kTakeN_2 e1
  obtain ⟨st, ls, rs⟩ := K
  cases ls with
  | nil => exact absurd hl (Nat.lt_irrefl 0)
  | cons l ls =>
    obtain ⟨s1, q1⟩ := K1
    have j : q1 = (l :: ls, rs) := j
    rw [j] at q
    obtain ⟨w1, w2, w3⟩ := w
    have w1 : (cL l ++ cA ls).Nodup := w1
    have w2 : ∀ a, a ∈ cL l ++ cA ls → a < rs.length := w2
    have ln := (kAimC_1 (s1, l :: ls, rs)).2.2
    have nd := List.nodup_append.mp w1
    have fl : ∀ t, (l.2.2.2.2.2.1.foldl (fun co r => rwAim co r t) (kAimC (s1, l :: ls, rs)).2.2).length = rs.length := fun t => by rw [fold_l, ln]
    have oo : ∀ t k, k ∈ ls → cOk (l.2.2.2.2.2.1.foldl (fun co r => rwAim co r t) (kAimC (s1, l :: ls, rs)).2.2) k.2.2.2.2.2.1 := fun t k hk => cOk_fold (fun a ha m => nd.2.2 a (List.mem_append.mpr (.inr ha)) a (cA_m hk m) rfl) (aimC_c (st := s1) ⟨w1, w2, w3⟩ (.inr ⟨k, hk, rfl⟩))
    split at q
    · split at q
      · cases q
      · split at q
        · next h =>
          cases q
          have h : ls.length = 0 := h
          cases ls with
          | cons k ks => exact absurd h (Nat.succ_ne_zero _)
          | nil =>
            refine ⟨⟨List.nodup_nil, fun a ha => absurd ha List.not_mem_nil, fun k hk => absurd hk List.not_mem_nil⟩, ?_⟩
            show (l.2.2.2.2.2.1.foldl (fun co r => rwAim co r (Int32.ofNat rs.length)) (kAimC (s1, [l], rs)).2.2 ++ [_]).length ≤ rs.length + 1
            rw [List.length_append, fl]
            exact Nat.le_refl _
        · have q := kPutN_2 q
          unfold wC wfC
          rw [q]
          exact ⟨⟨nd.2.1, fun a ha => by show a < (l.2.2.2.2.2.1.foldl (fun co r => rwAim co r (Int32.ofNat rs.length)) (kAimC (s1, l :: ls, rs)).2.2).length; rw [fl]; exact w2 a (List.mem_append.mpr (.inr ha)), fun k hk => oo _ k hk⟩, by show (l.2.2.2.2.2.1.foldl (fun co r => rwAim co r (Int32.ofNat rs.length)) (kAimC (s1, l :: ls, rs)).2.2).length ≤ rs.length + 1; rw [fl]; exact Nat.le_succ _⟩
    · cases q
theorem kTabL_c {many : Nat} : ∀ {dl : List Nat} {K K' : tK} {z : Nat}, wfC K → (∀ x, x ∈ dl → x < K.2.1.length) → kTabL M p hb many dl K = .inr (K', z) → wC dl.length K K' ∧ K'.2.1.length = K.2.1.length
  | [], K, K', z, w, _, q => by cases q; exact ⟨⟨w, Nat.le_refl _⟩, rfl⟩
  | x :: l, K, K', z, w, hd, q => by
    unfold kTabL at q
    split at q
    · obtain ⟨K1, z1, e1, q⟩ := b_inv q
      have j : K1.2 = K.2 := by
        split at e1
        · exact kTakeN_2 e1
        · obtain ⟨v, z2, e2, e3⟩ := b_inv e1
          exact (kPutN_2 e3).trans (kTakeS_2 e2)
      have j1 := wC_2 j w
      have j2 := wC_b (M := M) (op := 12) (hb := hb) (x := x) j1.1 (by rw [j]; exact hd x List.mem_cons_self)
      have l2 : (kBr M 12 hb x K1).2.1.length = K.2.1.length := by rw [lSm_l (kBr_m M 12 hb x K1).2, j]
      obtain ⟨j3, l3⟩ := kTabL_c j2.1 (fun y hy => by rw [l2]; exact hd y (List.mem_cons_of_mem _ hy)) q
      exact ⟨wC_m (wC_t (wC_t j1 j2) j3) (by rw [List.length_cons]; omega), l3.trans l2⟩
    · cases q
theorem kTab_c {dl : List Nat} (w : wfC K) (hl : 0 < K.2.1.length) (q : kTab M p dl K = .inr (K', z)) : wC (dl.length + 1) K K' := by
  unfold kTab at q
  by_cases c : dl.any (fun x => decide (K.2.1.length ≤ x)) = true
  · rw [if_pos c] at q; cases q
  rw [if_neg c] at q
  obtain ⟨K1, z1, e1, q⟩ := b_inv q
  obtain ⟨K2, z2, e2, q⟩ := b_inv q
  cases q
  have j1 := wC_2 (kTk_2 e1) w
  have j2 := wC_e (op := 14) (a1 := Int32.ofNat (dl.length - 1)) (a2 := 0) (a3 := 0) (hb := Int32.ofNat K.1.length) j1.1
  have l2 : (kEm K1 14 (Int32.ofNat (dl.length - 1)) 0 0 (Int32.ofNat K.1.length)).2.1.length = K.2.1.length := by rw [(kEm_1 _ _ _ _ _ _).2, kTk_2 e1]
  obtain ⟨j3, l3⟩ := kTabL_c j2.1 (fun y hy => by
    rw [l2]
    refine Nat.lt_of_not_le fun h => c (List.any_eq_true.mpr ⟨y, hy, decide_eq_true h⟩)) e2
  exact wC_m (wC_t (wC_t (wC_t j1 j2) j3) (wC_d j3.1 (by omega))) (by omega)
/-- an instruction keeps the chains, makes one row, a table one for each label too -/
theorem kIns_c {B : Nat → Nat} {n : Nat} {Dc : Nat → Bool} {lt : Nat → Option Nat} {v : sp_I} (w : wfC K) (hl : 0 < K.2.1.length) (hr : K.2.2.length < 2147483648) (q : kIns B n M Dc lt p v K = .inr (K', z)) : wC (if v.1 = 14 then (kDl B n v.2.1.toNatClampNeg v.2.2.1.toNatClampNeg).length + 1 else 1) K K' := by
  by_cases c14 : v.1 = 14
  · rw [if_pos c14]
    rw [ki_6 c14] at q
    exact kTab_c w hl q
  rw [if_neg c14]
  unfold kIns at q
  rw [if_neg c14] at q
  by_cases cc0 : v.1 = 0
  · rw [if_pos cc0] at q
    cases q
    have j := wC_e (op := 0) (a1 := v.2.1.toInt32) (a2 := v.2.2.1.toInt32) (a3 := 0) (hb := Int32.ofNat K.1.length) w
    exact wC_m (wC_t j (wC_d j.1 (by rw [(kEm_1 _ _ _ _ _ _).2]; exact hl))) (by decide)
  rw [if_neg cc0] at q
  by_cases cc1 : v.1 = 1
  · rw [if_pos cc1] at q
    cases q; exact wC_e w
  rw [if_neg cc1] at q
  by_cases cc2 : v.1 ≤ 4
  · rw [if_pos cc2] at q
    exact kBlk_c w hr q
  rw [if_neg cc2] at q
  by_cases cc3 : v.1 = 5
  · rw [if_pos cc3] at q
    exact kEls_c w hl q
  rw [if_neg cc3] at q
  by_cases cc4 : v.1 = 11
  · rw [if_pos cc4] at q
    exact kEnd_c w hl q
  rw [if_neg cc4] at q
  by_cases cc5 : v.1 ≤ 13
  · rw [if_pos cc5] at q
    unfold kBrn at q
    split at q
    · cases q
    next hx =>
    obtain ⟨K1, z1, e1, q⟩ := b_inv q
    obtain ⟨K2, z2, e2, q⟩ := b_inv q
    have j := wC_2 ((kTakeN_2 e2).trans (kTk_2 e1)) w
    have hx2 : v.2.1.toNatClampNeg < K2.2.1.length := by rw [kTakeN_2 e2, kTk_2 e1]; omega
    split at q
    · cases q
      have j2 := wC_b (M := M) (op := 12) (hb := Int32.ofNat K.1.length) j.1 hx2
      exact wC_m (wC_t (wC_t j j2) (wC_d j2.1 (by rw [lSm_l (kBr_m _ _ _ _ _).2]; omega))) (by decide)
    · obtain ⟨K3, z3, e3, q⟩ := b_inv q
      cases q
      have j3 := wC_2 (kPutN_2 e3) j.1
      exact wC_m (wC_t (wC_t j j3) (wC_b j3.1 (by rw [kPutN_2 e3]; exact hx2))) (by decide)
  rw [if_neg cc5] at q
  by_cases cc6 : v.1 = 15
  · rw [if_pos cc6] at q
    obtain ⟨K1, z1, e1, q⟩ := b_inv q
    cases q
    have j := wC_2 (kTakeN_2 e1) w
    have hx2 : K.2.1.length - 1 < K1.2.1.length := by rw [kTakeN_2 e1]; omega
    have j2 := wC_b (M := M) (op := 12) (hb := Int32.ofNat K.1.length) j.1 hx2
    exact wC_m (wC_t (wC_t j j2) (wC_d j2.1 (by rw [lSm_l (kBr_m _ _ _ _ _).2]; omega))) (by decide)
  rw [if_neg cc6] at q
  by_cases cc7 : v.1 = 16
  · rw [if_pos cc7] at q
    unfold kCal at q
    split at q
    · cases q
    · obtain ⟨K1, z1, e1, q⟩ := b_inv q
      obtain ⟨K2, z2, e2, q⟩ := b_inv q
      cases q
      have j := wC_2 ((kPutN_2 e2).trans (kTakeN_2 e1)) w
      exact wC_m (wC_t j (wC_e j.1)) (by decide)
  rw [if_neg cc7] at q
  by_cases cc8 : v.1 = 17
  · rw [if_pos cc8] at q
    unfold kCalT at q
    split at q
    · cases q
    · split at q
      · obtain ⟨K1, z1, e1, q⟩ := b_inv q
        obtain ⟨K2, z2, e2, q⟩ := b_inv q
        obtain ⟨K3, z3, e3, q⟩ := b_inv q
        cases q
        have j := wC_2 ((kPutN_2 e3).trans ((kTakeN_2 e2).trans (kTk_2 e1))) w
        exact wC_m (wC_t j (wC_e j.1)) (by decide)
      · cases q
  rw [if_neg cc8] at q
  by_cases cc9 : v.1 = 26
  · rw [if_pos cc9] at q
    obtain ⟨y, z1, e1, q⟩ := b_inv q
    cases q
    have j := wC_2 (kTake_2 e1) w
    exact wC_m (wC_t j (wC_e j.1)) (by decide)
  rw [if_neg cc9] at q
  by_cases cc10 : v.1 = 27
  · rw [if_pos cc10] at q
    obtain ⟨K1, z1, e1, q⟩ := b_inv q
    obtain ⟨y, z2, e2, q⟩ := b_inv q
    obtain ⟨y2, z3, e3, q⟩ := b_inv q
    split at q
    · cases q
    · obtain ⟨K4, z4, e4, q⟩ := b_inv q
      cases q
      have j := wC_2 ((kPut_2 e4).trans ((kTake_2 e3).trans ((kTake_2 e2).trans (kTk_2 e1)))) w
      exact wC_m (wC_t j (wC_e j.1)) (by decide)
  rw [if_neg cc10] at q
  by_cases cc11 : 65 ≤ v.1 ∧ v.1 ≤ 68
  · rw [if_pos cc11] at q
    obtain ⟨K1, z1, e1, q⟩ := b_inv q
    cases q
    have j := wC_2 (kPut_2 e1) w
    exact wC_m (wC_t j (wC_e j.1)) (by decide)
  rw [if_neg cc11] at q
  by_cases cc12 : v.1 = 208
  · rw [if_pos cc12] at q
    obtain ⟨K1, z1, e1, q⟩ := b_inv q
    cases q
    have j := wC_2 (kPut_2 e1) w
    exact wC_m (wC_t j (wC_e j.1)) (by decide)
  rw [if_neg cc12] at q
  by_cases cc13 : v.1 = 209
  · rw [if_pos cc13] at q
    obtain ⟨y, z1, e1, q⟩ := b_inv q
    split at q
    · cases q
    · obtain ⟨K2, z2, e2, q⟩ := b_inv q
      cases q
      have j := wC_2 ((kPut_2 e2).trans (kTake_2 e1)) w
      exact wC_m (wC_t j (wC_e j.1)) (by decide)
  rw [if_neg cc13] at q
  split at q
  · cases q
  · exact kPl_c w q
end CHN
