/-! FLATTENED CODE: no operand is unknown where a state may be come to -/
/-- a label may be come to where the one around it may and is not dead -/
def aDh (ls : List tLb) : Prop := ∀ x, x + 1 < ls.length → (ls.getD x lb0).2.2.2.2.1 = ((ls.getD (x + 1) lb0).2.2.2.2.1 && !(ls.getD (x + 1) lb0).2.2.2.1)
/-- the h operands at the bottom -/
def btm (K : tK) (h : Nat) : List Nat := K.1.drop (K.1.length - h)
def zS (K : tK) : Prop := (∀ x, x < K.2.1.length → (K.2.1.getD x lb0).2.2.2.2.1 = true → ∀ t, t ∈ btm K (K.2.1.getD x lb0).2.2.1 → t ≠ 0) ∧ (kAl K = true → ∀ t, t ∈ K.1 → t ≠ 0)
section ZERO
variable {B : Nat → Nat} {n : Nat} {D : Bool} {M : tMd} {Dc : Nat → Bool} {lt : Nat → Option Nat} {p p2 z x t : Nat} {K K' K1 : tK} {v : sp_I}
theorem aDh_s (hl : 0 < K.2.1.length) (q : kIns B n M Dc lt p v K = .inr (K', z)) (A : aDh K.2.1) : aDh K'.2.1 := by
  by_cases c11 : v.1 = 11
  · rw [ki_4 c11] at q
    rw [(ls_end hl q).1]
    intro x hx
    have gt : ∀ y, K.2.1.tail.getD y lb0 = K.2.1.getD (y + 1) lb0 := fun y => by cases K.2.1 <;> rfl
    rw [List.length_tail] at hx
    rw [gt, gt]
    exact A (x + 1) (by omega)
  by_cases c2 : 2 ≤ v.1 ∧ v.1 ≤ 4
  · rw [ki_2 c2] at q
    obtain ⟨hh, e1, -⟩ := ls_blk q
    rw [e1]
    intro x hx
    cases x with
    | zero =>
      show kAl K = ((K.2.1.getD 0 lb0).2.2.2.2.1 && !(K.2.1.getD 0 lb0).2.2.2.1)
      unfold kAl
      rw [kTop_0]
    | succ x => exact A x (Nat.lt_of_succ_lt_succ hx)
  by_cases c5 : v.1 = 5
  · rw [ki_3 c5] at q
    obtain ⟨l', ks, e1, e2, e3, e4, ⟨e5, e6, e7, e8⟩, e9, e10⟩ := ls_els hl q
    rw [e1]
    intro x hx
    have hx : x + 1 < ks.length + 1 := hx
    have U := e9 x
    cases x with
    | zero =>
      show l'.2.2.2.2.1 = ((ks.getD 0 lb0).2.2.2.2.1 && !(ks.getD 0 lb0).2.2.2.1)
      rw [e7, kTop_0, U.2.2.2.1, U.2.2.2.2.2 id]
      exact A 0 (by omega)
    | succ x =>
      have U0 := e9 x
      show (ks.getD x lb0).2.2.2.2.1 = ((ks.getD (x + 1) lb0).2.2.2.2.1 && !(ks.getD (x + 1) lb0).2.2.2.1)
      rw [U0.2.2.2.1, U.2.2.2.1, U.2.2.2.2.2 id]
      exact A (x + 1) (by omega)
  · obtain ⟨e1, e2⟩ := ls_pln (by omega) c11 hl q
    intro x hx
    have U0 := e2 x
    have U := e2 (x + 1)
    rw [U0.2.2.2.1, U.2.2.2.1, U.2.2.2.2.2 (by omega)]
    exact A x (by omega)
/-- what is dead stays so -/
theorem die_s (n2 : v.1 = 0 ∨ v.1 = 1 ∨ 5 < v.1) (n11 : v.1 ≠ 11) (hl : 0 < K.2.1.length) (q : kIns B n M Dc lt p v K = .inr (K', z)) (h : (kTop K).2.2.2.1 = true) : (kTop K').2.2.2.1 = true :=
  kIns_qp (K := K) (Q := fun K1 => (kTop K1).2.2.2.1 = true) (fun K1 K2 e h => by unfold kTop at h ⊢; rw [e]; exact h) (fun K1 op a b c hb h => by unfold kTop at h ⊢; rw [(kEm_1 K1 op a b c hb).2]; exact h) (fun K1 op hb x h => by rw [kTop_0] at h ⊢; rw [(kBr_U M op hb x K1 0).2.2.2.2.2 id]; exact h) (fun K1 l h => rfl) n2 n11 h hl q
theorem kAl_i (k : kAl K = true) : (kTop K).2.2.2.2.1 = true ∧ (kTop K).2.2.2.1 = false := by
  unfold kAl at k
  rw [Bool.and_eq_true, Bool.not_eq_true'] at k
  exact k
theorem wfL_h : ∀ {ls : List tLb} {s x : Nat}, wfL ls s → x < ls.length → (ls.getD x lb0).2.2.1 ≤ s
  | l :: ls, s, 0, w, _ => w.1
  | l :: ls, s, x + 1, w, h => Nat.le_trans (wfL_h (ls := ls) (x := x) w.2 (Nat.lt_of_succ_lt_succ h)) w.1
theorem wfL_0 : ∀ {ls : List tLb} {s x : Nat}, wfL ls s → x < ls.length → (ls.getD x lb0).2.2.1 ≤ (ls.getD 0 lb0).2.2.1
  | l :: ls, s, 0, w, _ => Nat.le_refl _
  | l :: ls, s, x + 1, w, h => wfL_h (ls := ls) (x := x) w.2 (Nat.lt_of_succ_lt_succ h)
theorem wf_h (W : wfK M K) : (kTop K).2.2.1 ≤ K.1.length := by
  have w := W.1
  rw [kTop_0]
  cases ls : K.2.1 with
  | nil => exact Nat.zero_le _
  | cons l r => rw [ls] at w; exact w.1
theorem zS_a (k : kAl K = true) (W : wfK M K) (Z : zS K) : aS K := ⟨(kAl_i k).2, wf_h W, Z.2 k⟩
/-- what ends in the same -/
theorem bt_ap {s r : List Nat} {q1 q2 : List tLb × List tRw} {h : Nat} (hh : h ≤ r.length) : btm (s ++ r, q1) h = btm (r, q2) h := by
  show (s ++ r).drop ((s ++ r).length - h) = r.drop (r.length - h)
  rw [List.length_append, show s.length + r.length - h = s.length + (r.length - h) by omega, List.drop_length_add_append]
theorem bt_bo {h : Nat} (h1 : h ≤ (kTop K).2.2.1) (h2 : (kTop K).2.2.1 ≤ K.1.length) {q : List tLb × List tRw} : btm (bo K, q) h = btm K h := by
  unfold bo btm
  rw [List.length_drop, List.drop_drop]
  congr 1
  omega
theorem boQ_bt {h : Nat} (h1 : h ≤ (kTop K).2.2.1) (h2 : (kTop K).2.2.1 ≤ K.1.length) (Q : boQ K K') : btm K' h = btm K h := by
  obtain ⟨q1, q2, q3⟩ := Q
  rw [← bt_bo (q := K.2) h1 h2, ← q3]
  exact (bt_bo (by omega) q2).symm
theorem zS_s (hB : ∀ i, B i < 256) (G : vG B n D M) (hF : ∀ f, f ∈ spF M → f.2.1 < M.1.length) (i1 : sp_in B n D p = .inr (v, p2)) (hl : 0 < K.2.1.length) (W : wfK M K) (W' : wfK M K') (A : aDh K.2.1) (q : kIns B n M Dc lt p v K = .inr (K', z)) (Z : zS K) : zS K' := by
  have T := vG_T G
  have w0 := wf_h W
  have hx0 : ∀ x, x < K.2.1.length → (K.2.1.getD x lb0).2.2.1 ≤ (kTop K).2.2.1 := fun x hx => by rw [kTop_0]; exact wfL_0 W.1 hx
  have wt : wfT M (kTop K).2.1 := by rw [kTop_0]; exact (W.2.1 _ (getD_mem hl)).1
  by_cases c11 : v.1 = 11
  · rw [ki_4 c11] at q
    obtain ⟨b1, b2, -⟩ := io_end w0 hl q
    have lab := (ls_end hl q).1
    have gt : ∀ y, K'.2.1.getD y lb0 = K.2.1.getD (y + 1) lb0 := fun y => by rw [lab]; cases K.2.1 <;> rfl
    have ln : K'.2.1.length + 1 = K.2.1.length := by rw [lab, List.length_tail]; omega
    refine ⟨fun x hx h t ht => ?_, fun k t ht => ?_⟩
    · rw [gt] at h ht
      have hh := hx0 (x + 1) (by omega)
      have e : btm K' (K.2.1.getD (x + 1) lb0).2.2.1 = btm K (K.2.1.getD (x + 1) lb0).2.2.1 := by
        have ek : K' = ((btR M (kTop K).2.1).reverse ++ bo K, K'.2) := by rw [← b2 (by omega)]
        rw [ek, bt_ap (q2 := K'.2) (by omega)]
        exact bt_bo hh w0
      rw [e] at ht
      exact Z.1 (x + 1) (by omega) h t ht
    · have h0 : K'.2.1.length ≠ 0 := fun h => by
        have := (kAl_i k).1
        rw [kTop_0] at this
        cases ls : K'.2.1 with
        | nil => rw [ls] at this; cases this
        | cons l r => rw [ls] at h; exact absurd h (Nat.succ_ne_zero _)
      obtain ⟨k1, k2⟩ := kAl_i k
      rw [kTop_0, gt] at k1 k2
      have a0 := A 0 (by omega)
      rw [k1, k2] at a0
      rw [b2 h0] at ht
      rcases List.mem_append.mp ht with m | m
      · exact isT_nz ((bt_w T wt).2.2.2 t (List.mem_reverse.mp m))
      · refine Z.1 0 hl a0 t ?_
        rw [← kTop_0]
        exact m
  by_cases c2 : 2 ≤ v.1 ∧ v.1 ≤ 4
  · rw [ki_2 c2] at q
    obtain ⟨hh, e1, -⟩ := ls_blk q
    have low : ∀ h, h ≤ (kTop K).2.2.1 → btm K' h = btm K h := fun h h1 => by
      have q' := q
      unfold kBlk at q'
      split at q'
      · cases q'
      obtain ⟨K1, z1, f1, q'⟩ := b_inv q'
      obtain ⟨K2, z2, f2, q'⟩ := b_inv q'
      split at q'
      · cases q'
      have Q := bo_takeN f2 (bo_tk f1 (boQ_r w0))
      have u := p_putL q'
      have := Q.1
      have := Q.2.1
      rw [u, bt_ap (q2 := K2.2) (by show h ≤ K2.1.length; omega)]
      exact boQ_bt h1 w0 Q
    have al : kAl K = true → ∀ t, t ∈ K'.1 → t ≠ 0 := fun k => by
      obtain ⟨r, -, -, -, a', -⟩ := io_blk T (zS_a k W Z) W' q
      exact a'.2.2
    refine ⟨fun x hx h t ht => ?_, fun k => ?_⟩
    · rw [e1] at hx h ht
      cases x with
      | zero => exact al h t (List.mem_of_mem_drop ht)
      | succ x =>
        have hx : x < K.2.1.length := Nat.lt_of_succ_lt_succ hx
        have ht : t ∈ btm K' (K.2.1.getD x lb0).2.2.1 := ht
        rw [low _ (hx0 x hx)] at ht
        exact Z.1 x hx h t ht
    · refine al ?_
      have := (kAl_i k).1
      rw [kTop_0, e1] at this
      exact this
  by_cases c5 : v.1 = 5
  · rw [ki_3 c5] at q
    obtain ⟨b1, b2, -⟩ := io_els w0 q
    obtain ⟨l', ks, e1, e2, e3, e4, ⟨e5, e6, e7, e8⟩, e9, e10⟩ := ls_els hl q
    have low : ∀ h, h ≤ (kTop K).2.2.1 → btm K' h = btm K h := fun h h1 => by
      have ek : K' = ((btP M (kTop K).2.1).reverse ++ bo K, K'.2) := by rw [← b1]
      rw [ek, bt_ap (q2 := K'.2) (by omega)]
      exact bt_bo h1 w0
    have bn : (kTop K).2.2.2.2.1 = true → ∀ t, t ∈ bo K → t ≠ 0 := fun h t ht => by
      refine Z.1 0 hl (by rw [← kTop_0]; exact h) t ?_
      rw [← kTop_0]
      exact ht
    refine ⟨fun x hx h t ht => ?_, fun k t ht => ?_⟩
    · rw [e1] at hx h ht
      have hx : x < ks.length + 1 := hx
      cases x with
      | zero =>
        have ht : t ∈ btm K' l'.2.2.1 := ht
        have h : l'.2.2.2.2.1 = true := h
        rw [e6, low _ (Nat.le_refl _)] at ht
        exact bn (by rw [← e7]; exact h) t ht
      | succ x =>
        have U := e9 x
        have ht : t ∈ btm K' (ks.getD x lb0).2.2.1 := ht
        have h : (ks.getD x lb0).2.2.2.2.1 = true := h
        rw [U.2.2.1, low _ (hx0 (x + 1) (by omega))] at ht
        exact Z.1 (x + 1) (by omega) (U.2.2.2.1.symm.trans h) t ht
    · have k1 := (kAl_i k).1
      rw [kTop_0, e1] at k1
      have k1 : l'.2.2.2.2.1 = true := k1
      rw [b1] at ht
      rcases List.mem_append.mp ht with m | m
      · exact isT_nz ((bt_w T wt).2.2.1 t (List.mem_reverse.mp m))
      · exact bn (by rw [← e7]; exact k1) t m
  · have n2 : v.1 = 0 ∨ v.1 = 1 ∨ 5 < v.1 := by omega
    obtain ⟨e1, e2⟩ := ls_pln n2 c11 hl q
    have Q := bo_pln n2 c11 w0 hl q
    refine ⟨fun x hx h t ht => ?_, fun k => ?_⟩
    · have U := e2 x
      rw [U.2.2.1, boQ_bt (hx0 x (by omega)) w0 Q] at ht
      exact Z.1 x (by omega) (U.2.2.2.1.symm.trans h) t ht
    · obtain ⟨k1, k2⟩ := kAl_i k
      have k0 : kAl K = true := by
        have U := e2 0
        rw [kTop_0, U.2.2.2.1, ← kTop_0] at k1
        cases d : (kTop K).2.2.2.1 with
        | true => rw [die_s n2 c11 hl q d] at k2; cases k2
        | false => unfold kAl; rw [k1, d]; rfl
      have a := zS_a k0 W Z
      have fx := (in_fx hB i1).1
      by_cases c12 : 12 ≤ v.1 ∧ v.1 ≤ 13
      · by_cases c13 : v.1 = 13
        · obtain ⟨r, -, -, h⟩ := io_12 c12 T W a q
          exact (h c13).2.2.2
        · rw [ki_5 c12] at q
          unfold kBrn at q
          split at q
          · cases q
          obtain ⟨K1, z1, f1, q⟩ := b_inv q
          obtain ⟨K2, z2, f2, q⟩ := b_inv q
          rw [if_pos (by omega)] at q
          cases q
          exact absurd (show (true : Bool) = false from k2) (by decide)
      by_cases c14 : v.1 = 14
      · rw [ki_6 c14] at q
        unfold kTab at q
        split at q
        · cases q
        obtain ⟨K1, z1, f1, q⟩ := b_inv q
        obtain ⟨K2, z2, f2, q⟩ := b_inv q
        cases q
        exact absurd (show (true : Bool) = false from k2) (by decide)
      by_cases c15 : v.1 = 15
      · rw [ki_7 c15] at q
        unfold kRet at q
        obtain ⟨K1, z1, f1, q⟩ := b_inv q
        cases q
        exact absurd (show (true : Bool) = false from k2) (by decide)
      by_cases c0 : v.1 = 0
      · rw [ki_0 c0] at q
        cases q
        exact absurd (show (true : Bool) = false from k2) (by decide)
      obtain ⟨r, -, -, a', -⟩ := io_pl hB G hF i1 (by omega) a q
      exact a'.2.2
end ZERO
