/-! THE CLASS READS: how many there are -/
def pI (M : tMd) : Prop := (∀ v, v ∈ M.2.1 → v.1 < 4) ∧ ∀ x, M.2.2.2.2.2.2.2.2.2.2.2.1 = some x → x < 4294967296
theorem secC_p {B : Nat → Nat} (hB : ∀ i, B i < 256) {e : Nat} {d : Bool} {id pl : Nat} {M M2 : tMd} {p p' : Nat} (hid : id < 13) (P : pI M) (q : sp_secC B e d id pl M p = .inr (M2, p')) : pI M2 := by
  by_cases c0 : id = 0
  · subst c0
    rw [eC (by decide), eS_0] at q
    obtain ⟨l, p1, e1, e2⟩ := b_inv q
    cases e2
    exact P
  by_cases c1 : id = 1
  · subst c1
    rw [eC (by decide), eS_1] at q
    obtain ⟨l, p1, e1, e2⟩ := b_inv q
    cases e2
    exact P
  by_cases c2 : id = 2
  · subst c2
    rw [eC (by decide), eS_2] at q
    obtain ⟨l, p1, e1, e2⟩ := b_inv q
    cases e2
    refine ⟨fun v hv => ?_, P.2⟩
    unfold sp_impS at e1
    obtain ⟨c, p2, e3, e4⟩ := b_inv e1
    obtain ⟨y, z, e5⟩ := rows_m e4 v hv
    exact sp_imp_4 e5
  by_cases c3 : id = 3
  · subst c3
    rw [eC (by decide), eS_3] at q
    obtain ⟨l, p1, e1, e2⟩ := b_inv q
    cases e2
    exact P
  by_cases c4 : id = 4
  · subst c4
    rw [eC (by decide), eS_4] at q
    obtain ⟨l, p1, e1, e2⟩ := b_inv q
    cases e2
    exact P
  by_cases c5 : id = 5
  · subst c5
    rw [eC (by decide), eS_5] at q
    obtain ⟨l, p1, e1, e2⟩ := b_inv q
    cases e2
    exact P
  by_cases c6 : id = 6
  · subst c6
    rw [eC (by decide), eS_6] at q
    obtain ⟨l, p1, e1, e2⟩ := b_inv q
    cases e2
    exact P
  by_cases c7 : id = 7
  · subst c7
    rw [eC (by decide), eS_7] at q
    obtain ⟨l, p1, e1, e2⟩ := b_inv q
    cases e2
    exact P
  by_cases c8 : id = 8
  · subst c8
    rw [eC (by decide), eS_8] at q
    obtain ⟨l, p1, e1, e2⟩ := b_inv q
    cases e2
    exact P
  by_cases c9 : id = 9
  · subst c9
    rw [eC (by decide), eS_9] at q
    obtain ⟨l, p1, e1, e2⟩ := b_inv q
    cases e2
    exact P
  by_cases c10 : id = 10
  · subst c10
    rw [eC_10] at q
    obtain ⟨l, p1, e1, e2⟩ := b_inv q
    cases e2
    exact P
  by_cases c11 : id = 11
  · subst c11
    rw [eC (by decide), eS_11] at q
    obtain ⟨l, p1, e1, e2⟩ := b_inv q
    cases e2
    exact P
  by_cases c12 : id = 12
  · subst c12
    rw [eC (by decide), eS_12] at q
    obtain ⟨l, p1, e1, e2⟩ := b_inv q
    cases e2
    exact ⟨P.1, fun x hx => by cases hx; exact sp_nu_v hB (by decide) (by decide) (by decide) e1⟩
  omega
theorem secsC_p {B : Nat → Nat} (hB : ∀ i, B i < 256) {n : Nat} : ∀ (N last p : Nat) (M M2 : tMd) (p' : Nat), pI M → sp_secsC B n N last M p = .inr (M2, p') → pI M2 := by
  intro N
  induction N with
  | zero => intro last p M M2 p' P e; cases e
  | succ N ih =>
    intro last p M M2 p' P e
    rw [secsC_s] at e
    by_cases c : n ≤ p
    · rw [if_pos c] at e
      cases e
      exact P
    · rw [if_neg c] at e
      obtain ⟨v, p2, e1, e2⟩ := b_inv e
      obtain ⟨M3, p3, e3, e4⟩ := b_inv e2
      obtain ⟨M4, p4, e5, e6⟩ := b_inv e3
      have P1 : pI (sec1 M v.1 p) := P
      have P4 := secC_p hB (hd_v e1 hB).1 P1 e5
      split at e6
      · cases e6
      · cases e6
        exact ih _ _ _ _ _ P4 e4
theorem pI_0 : pI M0 := by
  refine ⟨fun v hv => ?_, fun x hx => ?_⟩
  · have hv : v ∈ ([] : List tImp) := hv
    cases hv
  · have hx : (none : Option Nat) = some x := hx
    cases hx
theorem fin_ok {h : pm_H} {n b mm me sh lo la p : Nat} {d : Bool} {B : Nat → Nat} {M : tMd} (C : clS h n b mm me sh lo la d B M) (P : pI M) (q : Int32) : fX9_finish (rc h (Int32.ofNat p) 0 q) 19 = some (if M.2.2.1.length = M.2.2.2.2.2.2.2.2.2.1.length then (if M.2.2.2.2.2.2.2.2.2.2.2.1 = none ∨ M.2.2.2.2.2.2.2.2.2.2.2.1 = some M.2.2.2.2.2.2.2.2.1.length then rc h (Int32.ofNat p) 0 q else rc h (Int32.ofNat p) 14 (Int32.ofNat n)) else rc h (Int32.ofNat p) 13 (Int32.ofNat n)) := by
  obtain ⟨CM, LC, T, i10, i12, i5⟩ := C
  have K9 := LC.1.1
  have i2 := LC.2.2.1
  have km : pm_kd h mm = 7 := T.1.1.2.2.1
  obtain ⟨x4, r4, -, -, k4, l4, n4, -⟩ := CM.2.2.1 (by decide)
  obtain ⟨x3, r3, -, -, k3, l3, n3, E3⟩ := CM.2.1 (by decide)
  obtain ⟨x11, r11, -, -, k11, l11, n11, -⟩ := CM.2.2.2.2.2.2.2.2.2.1 (by decide)
  obtain ⟨x10, r10, -, -, k10, l10, n10, -⟩ := CM.2.2.2.2.2.2.2.2.1 (by decide)
  have L14 := CM.2.2.2.2.2.2.2.2.2.2.2.1
  have sF : (spF M).length = (ofK 0 M.2.1).length + M.2.2.1.length := by
    unfold spF
    rw [List.length_append, List.length_map]
  have CN : ∀ a f q, fX7_count (rc h a f q) mm 0 = some (Int32.ofNat (spF M).length) := by
    intro a f q
    unfold fX7_count
    refine e9_t km (e9_b (fX7_space_k (h := rc h a f q) km (k := 0) (by decide) r4) (e9_t k4 ?_))
    rw [show pm_ln (rc h a f q) x4 = (spF M).length * 6 from l4, dv_6 (by omega)]
  have IM : ∀ a f q, fX7_imported (rc h a f q) mm 0 = some (Int32.ofNat (ofK 0 M.2.1).length) := by
    intro a f q
    have e1 := imp_e (h := rc h a f q) (k := 0) km r3 k3 l3 n3 (by decide) M.2.1 0 0 (by omega) (Nat.le_refl _) (fun i v e => ⟨P.1 v (List.mem_of_getElem? e), by rw [Nat.zero_add]; exact (E3 i v e).1⟩)
    rw [Nat.zero_add] at e1
    exact e1
  have d2 : Int32.ofNat (pm_ln h x11) / 2 = Int32.ofNat M.2.2.2.2.2.2.2.2.2.1.length := by
    rw [show pm_ln h x11 = M.2.2.2.2.2.2.2.2.2.1.length * 2 from l11]
    exact (pe_dv (n := M.2.2.2.2.2.2.2.2.2.1.length * 2) (k := 2) (by omega) (by decide) (by decide)).trans (congrArg Int32.ofNat (by omega))
  have d7 : (Int32.ofNat (pm_ln h x10) / 7).toInt64 = Int64.ofNat M.2.2.2.2.2.2.2.2.1.length := by
    rw [show pm_ln h x10 = M.2.2.2.2.2.2.2.2.1.length * 7 from l10, show Int32.ofNat (M.2.2.2.2.2.2.2.2.1.length * 7) / 7 = Int32.ofNat M.2.2.2.2.2.2.2.2.1.length from (pe_dv (n := M.2.2.2.2.2.2.2.2.1.length * 7) (k := 7) (by omega) (by decide) (by decide)).trans (congrArg Int32.ofNat (by omega)), nn_t6 (by omega)]
  have y9 : Int32.ofNat (spF M).length - Int32.ofNat (ofK 0 M.2.1).length = Int32.ofNat M.2.2.1.length := by
    rw [nn_sb (by omega), sF]
    exact congrArg Int32.ofNat (by omega)
  have fl : M.2.2.1.length ≤ 81920 := by omega
  have neg : (pm_L h mm 14 < 0) = (M.2.2.2.2.2.2.2.2.2.2.2.1 = none) := by
    rw [L14]
    cases hd : M.2.2.2.2.2.2.2.2.2.2.2.1 with
    | none => exact propext ⟨fun _ => rfl, fun _ => by decide⟩
    | some x =>
      have := P.2 x hd
      exact propext ⟨fun z => by rw [show on6 (some x) = Int64.ofNat x from rfl, n6_0, ll_lt (by omega) (by decide)] at z; omega, fun z => by cases z⟩
  have eqd : M.2.2.2.2.2.2.2.2.2.2.2.1 ≠ none → (pm_L h mm 14 = Int64.ofNat M.2.2.2.2.2.2.2.2.1.length) = (M.2.2.2.2.2.2.2.2.2.2.2.1 = some M.2.2.2.2.2.2.2.2.1.length) := by
    intro nz
    rw [L14]
    cases hd : M.2.2.2.2.2.2.2.2.2.2.2.1 with
    | none => exact absurd hd nz
    | some x =>
      have := P.2 x hd
      rw [show on6 (some x) = Int64.ofNat x from rfl, ll_eq (by omega) (by omega)]
      exact propext ⟨fun z => by rw [z], fun z => by cases z; rfl⟩
  unfold fX9_finish
  refine e9_t K9 (e9_b T.1.1.2.1 (e9_t km (e9_b (CN _ _ _) (e9_b (IM _ _ _) (e9_l ?_)))))
  rw [y9]
  refine e9_b r11 (e9_t k11 ?_)
  rw [show pm_ln (rc h (Int32.ofNat p) 0 q) x11 = pm_ln h x11 from rfl, d2]
  by_cases c : M.2.2.1.length = M.2.2.2.2.2.2.2.2.2.1.length
  · rw [if_pos c]
    refine e9_t (by rw [c]) ?_
    by_cases z : M.2.2.2.2.2.2.2.2.2.2.2.1 = none
    · rw [if_pos (show M.2.2.2.2.2.2.2.2.2.2.2.1 = none ∨ M.2.2.2.2.2.2.2.2.2.2.2.1 = some M.2.2.2.2.2.2.2.2.1.length from .inl z)]
      exact e9_t (show pm_L h mm 14 < 0 by rw [neg]; exact z) rfl
    · refine e9_f (show ¬ pm_L h mm 14 < 0 by rw [neg]; exact z) (e9_b r10 (e9_t k10 ?_))
      rw [show pm_ln (rc h (Int32.ofNat p) 0 q) x10 = pm_ln h x10 from rfl, d7]
      by_cases w : M.2.2.2.2.2.2.2.2.2.2.2.1 = some M.2.2.2.2.2.2.2.2.1.length
      · rw [if_pos (show M.2.2.2.2.2.2.2.2.2.2.2.1 = none ∨ M.2.2.2.2.2.2.2.2.2.2.2.1 = some M.2.2.2.2.2.2.2.2.1.length from .inr w)]
        exact e9_t (show pm_L h mm 14 = _ by rw [eqd z]; exact w) rfl
      · rw [if_neg (show ¬ (M.2.2.2.2.2.2.2.2.2.2.2.1 = none ∨ M.2.2.2.2.2.2.2.2.2.2.2.1 = some M.2.2.2.2.2.2.2.2.1.length) from fun y => y.elim z w)]
        refine e9_f (show ¬ pm_L h mm 14 = _ by rw [eqd z]; exact w) (e9_b (cs_fail K9 _ _ _ _) ?_)
        rw [show pm_I (rc h (Int32.ofNat p) 0 q) 19 2 = Int32.ofNat n from i2]
  · rw [if_neg c]
    refine e9_f (by rw [nn_eq (by omega) (by omega)]; exact c) (e9_b (cs_fail K9 _ _ _ _) ?_)
    rw [show pm_I (rc h (Int32.ofNat p) 0 q) 19 2 = Int32.ofNat n from i2]
    refine e9_t K9 (e9_b T.1.1.2.1 (e9_t km ?_))
    by_cases z : pm_L h mm 14 < 0
    · exact e9_t z rfl
    · refine e9_f z (e9_b r10 (e9_t k10 ?_))
      by_cases w : pm_L h mm 14 = (Int32.ofNat (pm_ln h x10) / 7).toInt64
      · exact e9_t w rfl
      · exact e9_f w (e9_b (cd_fail K9 (by decide) _ _ _ _) rfl)
