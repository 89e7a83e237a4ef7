/-! FLATTENED CODE: what an instruction does to the labels -/
/-- alike but for the rows that hang on it (d: and for dead) -/
def lbU (d : Prop) (l l' : tLb) : Prop := l'.1 = l.1 ∧ l'.2.1 = l.2.1 ∧ l'.2.2.1 = l.2.2.1 ∧ l'.2.2.2.2.1 = l.2.2.2.2.1 ∧ l'.2.2.2.2.2.2 = l.2.2.2.2.2.2 ∧ (¬ d → l'.2.2.2.1 = l.2.2.2.1)
theorem lbU_r (d : Prop) (l : tLb) : lbU d l l := ⟨rfl, rfl, rfl, rfl, rfl, fun _ => rfl⟩
theorem lbU_t {d : Prop} {a b c : tLb} (p : lbU d a b) (q : lbU d b c) : lbU d a c := ⟨q.1.trans p.1, q.2.1.trans p.2.1, q.2.2.1.trans p.2.2.1, q.2.2.2.1.trans p.2.2.2.1, q.2.2.2.2.1.trans p.2.2.2.2.1, fun h => (q.2.2.2.2.2 h).trans (p.2.2.2.2.2 h)⟩
theorem lbU_w {d e : Prop} {a b : tLb} (p : lbU d a b) (h : d → e) : lbU e a b := ⟨p.1, p.2.1, p.2.2.1, p.2.2.2.1, p.2.2.2.2.1, fun z => p.2.2.2.2.2 (fun x => z (h x))⟩
section LABS
variable {B : Nat → Nat} {n : Nat} {M : tMd} {Dc : Nat → Bool} {lt : Nat → Option Nat} {p z x : Nat} {K K' : tK} {v : sp_I} {op hb : Int32} {F : List tRw} {As : List (Nat × Nat)}
theorem kBr_U (M : tMd) (op hb : Int32) (x : Nat) (K : tK) (y : Nat) : lbU False (K.2.1.getD y lb0) ((kBr M op hb x K).2.1.getD y lb0) := by
  unfold kBr
  by_cases c : kAl K = true
  · rw [if_pos c]
    show lbU False _ ((if (K.2.1.getD x lb0).1 = 3 then K.2.1 else _).getD y lb0)
    by_cases d : (K.2.1.getD x lb0).1 = 3
    · rw [if_pos d]; exact lbU_r ..
    · rw [if_neg d, getD_set']
      by_cases e : x = y ∧ x < K.2.1.length
      · rw [if_pos e, ← e.1]; exact ⟨rfl, rfl, rfl, rfl, rfl, fun _ => rfl⟩
      · rw [if_neg e]; exact lbU_r ..
  · rw [if_neg c]; exact lbU_r ..
/-- a plain instruction -/
theorem ls_pln (n2 : v.1 = 0 ∨ v.1 = 1 ∨ 5 < v.1) (n11 : v.1 ≠ 11) (hl : 0 < K.2.1.length) (q : kIns B n M Dc lt p v K = .inr (K', z)) : K'.2.1.length = K.2.1.length ∧ ∀ x, lbU (x = 0) (K.2.1.getD x lb0) (K'.2.1.getD x lb0) := by
  refine kIns_qp (K := K) (Q := fun K1 => K1.2.1.length = K.2.1.length ∧ ∀ x, lbU (x = 0) (K.2.1.getD x lb0) (K1.2.1.getD x lb0)) (fun K1 K2 e h => by rw [e]; exact h) (fun K1 op a b c hb h => by rw [(kEm_1 K1 op a b c hb).2]; exact h) (fun K1 op hb x h => ⟨(lSm_l (kBr_m M op hb x K1).2).trans h.1, fun y => lbU_t (h.2 y) (lbU_w (kBr_U M op hb x K1 y) False.elim)⟩) (fun K1 l h => ?_) n2 n11 ⟨rfl, fun x => lbU_r ..⟩ hl q
  obtain ⟨st, ls, rs⟩ := K1
  cases ls with
  | nil => exact absurd l (Nat.lt_irrefl 0)
  | cons k ks =>
    refine ⟨h.1, fun x => lbU_t (h.2 x) ?_⟩
    cases x with
    | zero => exact ⟨rfl, rfl, rfl, rfl, rfl, fun z => absurd rfl z⟩
    | succ x => exact lbU_r ..
/-- 2, 3, 4 -/
theorem ls_blk {o : Nat} {ty : Int64} (q : kBlk M p o ty K = .inr (K', z)) : ∃ h, K'.2.1 = (o, ty, h, false, kAl K, [], (if o = 4 then (if kAl K = true then Int32.ofNat K.2.2.length else -1) else Int32.ofNat K.2.2.length)) :: K.2.1 ∧ K'.2.2 = K.2.2 ++ (if o = 4 ∧ kAl K = true then [(4, -1, 0, 0, Int32.ofNat K.1.length)] else []) := by
  unfold kBlk at q
  split at q
  · cases q
  obtain ⟨K1, z1, e1, q⟩ := b_inv q
  obtain ⟨K2, z2, e2, q⟩ := b_inv q
  have j := (kTakeN_2 e2).trans (kTk_2 e1)
  split at q
  · cases q
  have q := kPutN_2 q
  have ka : kAl K2 = kAl K := by unfold kAl kTop; rw [j]
  refine ⟨K2.1.length, by rw [q, ka, j], ?_⟩
  rw [q]
  show (if o = 4 then _ else K2.2.2) = _
  by_cases c4 : o = 4
  · rw [if_pos c4]
    unfold kEm
    rw [ka]
    by_cases c : kAl K = true
    · rw [if_pos c, if_pos ⟨c4, c⟩, j]
    · rw [if_neg c, if_neg (fun h => c h.2), j, List.append_nil]
  · rw [if_neg c4, if_neg (fun h => c4 h.1), j, List.append_nil]
/-- 5 -/
theorem ls_els (hl : 0 < K.2.1.length) (q : kEls M p K = .inr (K', z)) : ∃ l' ks, K'.2.1 = l' :: ks ∧ ks.length + 1 = K.2.1.length ∧ l'.1 = 5 ∧ l'.2.2.2.1 = false ∧ (l'.2.1 = (kTop K).2.1 ∧ l'.2.2.1 = (kTop K).2.2.1 ∧ l'.2.2.2.2.1 = (kTop K).2.2.2.2.1 ∧ l'.2.2.2.2.2.2 = (kTop K).2.2.2.2.2.2) ∧ (∀ x, lbU False (K.2.1.getD (x + 1) lb0) (ks.getD x lb0)) ∧ K'.2.2.length = (kBr M 5 (Int32.ofNat K.1.length) 0 K).2.2.length := by
  unfold kEls at q
  obtain ⟨K1, z1, e1, q⟩ := b_inv q
  have j := kTakeN_2 e1
  split at q
  · have q := kPutN_2 q
    have l1 := lSm_l (kBr_m M 5 (Int32.ofNat K.1.length) 0 K1).2
    have tt := kBr_t0 M 5 (Int32.ofNat K.1.length) K1
    have U := kBr_U M 5 (Int32.ofNat K.1.length) 0 K1
    have rl : (kBr M 5 (Int32.ofNat K.1.length) 0 K).2.2.length = (kBr M 5 (Int32.ofNat K.1.length) 0 K1).2.2.length := by
      unfold kBr
      have ka : kAl K = kAl K1 := by unfold kAl kTop; rw [j]
      rw [ka, j]
      split
      · show (K.2.2 ++ [_]).length = (K.2.2 ++ [_]).length
        rw [List.length_append]
      · rw [j]
    rw [rl, q]
    generalize kBr M 5 (Int32.ofNat K.1.length) 0 K1 = KB at *
    obtain ⟨st, ls, rs⟩ := KB
    cases ls with
    | nil => have l1 : 0 = K1.2.1.length := l1; rw [j] at l1; omega
    | cons l ls =>
      obtain ⟨s, lk, rk⟩ := K
      cases lk with
      | nil => exact absurd hl (Nat.lt_irrefl 0)
      | cons k lk =>
        have j1 : K1.2.1 = k :: lk := by rw [j]
        rw [j1] at U l1 tt
        have U0 : lbU False k l := U 0
        refine ⟨_, _, rfl, ?_, rfl, rfl, ⟨U0.2.1, U0.2.2.1, U0.2.2.2.1, U0.2.2.2.2.1⟩, fun x => ?_, (kAimC_1 _).2.2⟩
        · show K1.2.1.tail.length + 1 = _
          rw [j1]; rfl
        · show lbU False (lk.getD x lb0) (K1.2.1.tail.getD x lb0)
          rw [j1]; exact lbU_r ..
  · cases q
/-- 11 -/
theorem ls_end (hl : 0 < K.2.1.length) (q : kEnd M p K = .inr (K', z)) : K'.2.1 = K.2.1.tail ∧ K'.2.2.length = K.2.2.length + (if K.2.1.length = 1 then 1 else 0) := by
  unfold kEnd at q
  obtain ⟨K1, z1, e1, q⟩ := b_inv q
  have j := kTakeN_2 e1
  obtain ⟨st, ls, rs⟩ := K
  cases ls with
  | nil => exact absurd hl (Nat.lt_irrefl 0)
  | cons l ls =>
    obtain ⟨s1, q1⟩ := K1
    have j : q1 = (l :: ls, rs) := j
    subst j
    have ln := (kAimC_1 (s1, l :: ls, rs)).2.2
    have fl : ∀ t, (l.2.2.2.2.2.1.foldl (fun co r => rwAim co r t) (kAimC (s1, l :: ls, rs)).2.2).length = rs.length := fun t => by rw [fold_l, ln]
    split at q
    · split at q
      · cases q
      · split at q
        · next h =>
          cases q
          have h : ls.length = 0 := h
          refine ⟨rfl, ?_⟩
          show (l.2.2.2.2.2.1.foldl (fun co r => rwAim co r (Int32.ofNat rs.length)) (kAimC (s1, l :: ls, rs)).2.2 ++ [_]).length = rs.length + (if ls.length + 1 = 1 then 1 else 0)
          rw [List.length_append, fl, if_pos (by omega)]
          rfl
        · next h =>
          have h : ¬ ls.length = 0 := h
          have q := kPutN_2 q
          rw [q]
          refine ⟨rfl, ?_⟩
          show (l.2.2.2.2.2.1.foldl (fun co r => rwAim co r (Int32.ofNat rs.length)) (kAimC (s1, l :: ls, rs)).2.2).length = rs.length + (if ls.length + 1 = 1 then 1 else 0)
          rw [fl, if_neg (by omega)]
          rfl
    · cases q
end LABS
