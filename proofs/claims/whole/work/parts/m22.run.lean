/-! THE CLASS CHECKS: all instructions of a body -/
def bK (K : tK) : Prop := 0 < K.2.1.length → (K.2.1.getD (K.2.1.length - 1) lb0).1 ≠ 3
theorem bk_c {l : tLb} {ls : List tLb} (h : 0 < ls.length) : (l :: ls).getD ((l :: ls).length - 1) lb0 = ls.getD (ls.length - 1) lb0 := by
  cases ls with
  | nil => exact absurd h (Nat.lt_irrefl 0)
  | cons k ks => rfl
theorem bK_s {K K' : tK} (e : lSm K.2.1 K'.2.1) (b : bK K) : bK K' := fun h => by
  rw [lSm_l e] at h ⊢
  rw [(lSm_g _ e).1]
  exact b h
/-- the outermost label is no loop's -/
theorem kIns_3 {M : tMd} {p : Nat} {B : Nat → Nat} {n : Nat} {Dc : Nat → Bool} {lt : Nat → Option Nat} {v : sp_I} {K K' : tK} {z : Nat} (b : bK K) (hl : 0 < K.2.1.length) (q : kIns B n M Dc lt p v K = .inr (K', z)) : bK K' := by
  refine kIns_q (Q := bK) (fun K K' e b => ?_) (fun K op a c d hb b => ?_) (fun K op hb x b => bK_s (kBr_m _ _ _ _ _).2 b) (fun K hl b => ?_) (fun K' op t z e b => ?_) (fun K' z e b => ?_) (fun K' z e b => ?_) b hl q
  · unfold bK; rw [e]; exact b
  · unfold bK; rw [(kEm_1 _ _ _ _ _ _).2]; exact b
  · obtain ⟨st, ls, co⟩ := K
    cases ls with
    | nil => exact absurd hl (Nat.lt_irrefl 0)
    | cons l ls =>
      intro _
      have b := b hl
      cases ls with
      | nil => exact b
      | cons k ks => exact b
  · unfold kBlk at e
    split at e
    · cases e
    obtain ⟨K1, z1, e1, e⟩ := b_inv e
    obtain ⟨K2, z2, e2, e⟩ := b_inv e
    have j := (kTakeN_2 e2).trans (kTk_2 e1)
    split at e
    · cases e
    have e := kPutN_2 e
    intro h
    rw [e]
    show ((_ :: K2.2.1).getD ((_ :: K2.2.1).length - 1) lb0).1 ≠ 3
    rw [bk_c (by rw [j]; exact hl), j]
    exact b hl
  · unfold kEls at e
    obtain ⟨K1, z1, e1, e⟩ := b_inv e
    split at e
    · have e := kPutN_2 e
      have j := kTakeN_2 e1
      intro h
      rw [e]
      show ((_ :: K1.2.1.tail).getD ((_ :: K1.2.1.tail).length - 1) lb0).1 ≠ 3
      rw [j]
      obtain ⟨st, ls, co⟩ := K
      cases ls with
      | nil => exact absurd hl (Nat.lt_irrefl 0)
      | cons l ls =>
        cases ls with
        | nil => show (5 : Nat) ≠ 3; decide
        | cons k ks =>
          have b := b hl
          exact b
    · cases e
  · unfold kEnd at e
    obtain ⟨K1, z1, e1, e⟩ := b_inv e
    have j := kTakeN_2 e1
    have lab : K'.2.1 = K.2.1.tail := by
      split at e
      · split at e
        · cases e
        · split at e
          · cases e; rw [j]
          · rw [kPutN_2 e, j]
      · cases e
    intro h
    rw [lab] at h ⊢
    obtain ⟨st, ls, co⟩ := K
    cases ls with
    | nil => exact absurd hl (Nat.lt_irrefl 0)
    | cons l ls =>
      have b := b hl
      have h : 0 < ls.length := h
      show (ls.getD (ls.length - 1) lb0).1 ≠ 3
      rw [← bk_c (l := l) h]
      exact b
theorem eW_le {B : Nat → Nat} {n : Nat} {D : Bool} {e : Nat} (hB : ∀ i, B i < 256) : ∀ (j : Nat) {k p : Nat}, n - p ≤ j → eW B n D k p e → p ≤ e := by
  intro j
  induction j with
  | zero =>
    intro k p hj q
    by_cases c : k = 0
    · rcases q with ⟨-, e⟩ | ⟨N', st, w, -, -, hs⟩
      · exact Nat.le_of_eq e
      · omega
    · obtain ⟨v, p2, -, -, h1, h2, -⟩ := ex_step hB (by omega) q
      omega
  | succ j ih =>
    intro k p hj q
    by_cases c : k = 0
    · rcases q with ⟨-, e⟩ | ⟨N', st, w, -, -, hs⟩
      · exact Nat.le_of_eq e
      · omega
    · obtain ⟨v, p2, -, -, h1, h2, q2⟩ := ex_step hB (by omega) q
      have := ih (by omega) q2
      omega
def lAI (bo co x y : Nat) : Prop := xAI bo co x y ∨ (x = 19 ∧ (y = 1 ∨ y = 3 ∨ y = 4 ∨ y = 5 ∨ y = 6 ∨ y = 7)) ∨ (x = 22 ∧ (y = 7 ∨ y = 8))
def lAL (x y : Nat) : Prop := x = 19 ∧ (y = 8 ∨ y = 9)
abbrev lFr (bo co : Nat) : pm_H → pm_H → Prop := gF (lAI bo co) lAL
section XRUN
variable {h h' r : pm_H} {n b mm lo hi bo co dd cap e : Nat} {B : Nat → Nat} {M : tMd} {p : Nat} {v : sp_I} {K : tK} {D ob : Bool} {Dc : Nat → Bool} {lt : Nat → Option Nat} {t : Nat}
theorem lF_x (F : xFr bo co h h') : lFr bo co h h' := gF_m F (fun _ _ z => .inl z) (fun _ _ z => z.elim)
theorem lC_F (C : xC h n b mm lo hi bo co dd cap B M) (F : lFr bo co h h') : xC h' n b mm lo hi bo co dd cap B M := by
  have K : kC lo hi h h' := fun x h1 h2 => by
    obtain ⟨-, -, -, ⟨a1, a2, a3, a4, a5, a6, a7⟩, -⟩ := C
    exact ⟨by rw [F.2.1], by rw [F.2.2.1], funext fun y => F.2.2.2.2.1 x y (by unfold lAI xAI; omega), funext fun y => F.2.2.2.2.2 x y (by unfold lAL; omega), by rw [F.2.2.2.1]⟩
  obtain ⟨S, X, Q, ⟨a1, a2, a3, a4, a5, a6, a7⟩, e⟩ := C
  have kd := F.2.1
  have ln := F.2.2.1
  have rr := F.2.2.2.1
  have kI : ∀ x y, ¬ lAI bo co x y → pm_I h' x y = pm_I h x y := F.2.2.2.2.1
  refine ⟨?_, cMx_k K (Nat.le_refl _) (.inl rfl) (fun j s _ _ _ => by rw [rr]) (by decide) (F.2.2.2.2.2 mm 13 (by unfold lAL; omega)) (F.2.2.2.2.2 mm 14 (by unfold lAL; omega)) X, ?_, ⟨a1, a2, a3, a4, a5, a6, a7⟩, (kI 19 2 (by unfold lAI xAI; omega)).trans e⟩
  · obtain ⟨s1, s2, s3, s4, s5, s6, s7, s8, s9, s10⟩ := S
    unfold cS
    rw [kd, ln, rr]
    exact ⟨s1, s2, s3, s4, s5, s6, s7, s8, fun i hi => by rw [kI b i (by unfold lAI xAI; omega)]; exact s9 i hi, s10⟩
  · unfold xQ at Q ⊢
    rw [kd, ln, rr]
    obtain ⟨q1, q2, q3, q4, q5, q6, q7, q8, ⟨w1, w2, w3, w4, w5⟩, q10⟩ := Q
    exact ⟨q1, q2, q3, q4, q5, q6, q7, q8, ⟨w1, w2, (kI 164 0 (by unfold lAI xAI; omega)).trans w3, (kI 164 1 (by unfold lAI xAI; omega)).trans w4, fun j hj => by
      obtain ⟨z1, z2, z3, z4, z5⟩ := w5 j hj
      exact ⟨z1, z2, (kI _ 0 (by unfold lAI xAI; omega)).trans z3, (kI _ 1 (by unfold lAI xAI; omega)).trans z4, (kI _ 2 (by unfold lAI xAI; omega)).trans z5⟩⟩, q10⟩
/-- a state, the reader aside -/
theorem xK_e (C : xC h n b mm lo hi bo co dd cap B M) (k : ∀ x y, x ≠ 19 → ¬ (x = 22 ∧ (y = 7 ∨ y = 8)) → pm_I h' x y = pm_I h x y) (V : xK h bo co K) : xK h' bo co K := by
  have aa := C.2.2.2.1
  obtain ⟨v1, v2, v3, v4, v5, v6, v7⟩ := V
  exact ⟨(k 22 0 (by omega) (by omega)).trans v1, (k 22 6 (by omega) (by omega)).trans v2, (k 22 10 (by omega) (by omega)).trans v3, (k bo 2 (by omega) (by omega)).trans v4, oRw_k (fun y _ => k 24 y (by omega) (by omega)) v5, oL_k (fun y _ => k 25 y (by omega) (by omega)) v6, fun i rr hi => by
    obtain ⟨z1, z2, z3, z4, z5⟩ := v7 i rr hi
    exact ⟨(k co _ (by omega) (by omega)).trans z1, (k co _ (by omega) (by omega)).trans z2, (k co _ (by omega) (by omega)).trans z3, (k co _ (by omega) (by omega)).trans z4, (k co _ (by omega) (by omega)).trans z5⟩⟩
theorem xLo_F (C : xC h n b mm lo hi bo co dd cap B M) (F : lFr bo co h h') (L : xLo h lt) : xLo h' lt := by
  have aa := C.2.2.2.1
  obtain ⟨lc, o1, o2, o3, o4⟩ := L
  exact ⟨lc, (F.2.2.2.2.1 22 12 (by unfold lAI xAI; omega)).trans o1, o2, o3, fun i hi => by
    obtain ⟨ty, t1, t2, t3⟩ := o4 i hi
    exact ⟨ty, t1, (F.2.2.2.2.1 26 i (by unfold lAI xAI; omega)).trans t2, t3⟩⟩
theorem xD_F {nf : Nat} (C : xC h n b mm lo hi bo co dd cap B M) (F : lFr bo co h h') (Dd : xD h dd nf Dc) : xD h' dd nf Dc := fun i hi => by
  rw [F.2.2.2.2.1 dd i (by
    obtain ⟨-, -, ⟨-, ⟨-, e2, -⟩, -, -, -, -, -, -, -, ⟨-, u2, -, u4, -⟩⟩, aa, -⟩ := C
    have n1 : dd ≠ bo := fun e => by rw [e, u2] at e2; exact absurd e2 (by decide)
    have n2 : dd ≠ co := fun e => by rw [e, u4] at e2; exact absurd e2 (by decide)
    unfold lAI xAI; omega)]
  exact Dd i hi
/-- an instruction is read -/
theorem x_rd {p2 : Nat} (C : xC r n b mm lo hi bo co dd cap B M) (f3 : pm_I r 19 3 = 0) (i1 : pm_I r 19 1 = Int32.ofNat p) (ib : (pm_I r 19 16 = 0) = (ob = false)) (dt : (0 ≤ pm_L r mm 14) = (D = true)) (hp : p ≤ n) (q : sp_in B n D p = .inr (v, p2)) : ∃ r1, fX9_instruction r 19 = some r1 ∧ lFr bo co r r1 ∧ (∀ x y, x ≠ 19 → pm_I r1 x y = pm_I r x y) ∧ pm_I r1 19 1 = Int32.ofNat p2 ∧ pm_I r1 19 3 = 0 ∧ pm_I r1 19 6 = Int32.ofNat v.1 ∧ pm_I r1 19 7 = Int32.ofNat p ∧ pm_L r1 19 8 = v.2.1 ∧ pm_L r1 19 9 = v.2.2.1 ∧ pm_I r1 19 16 = pm_I r 19 16 := by
  have e0 : rc r (Int32.ofNat p) 0 (pm_I r 19 4) = r := by rw [← i1, ← f3]; exact rc_eta r
  have Q := cs_ins' C.1 C.2.2.2.2 (Nat.le_refl n) hp ib dt (pm_I r 19 4)
  rw [q, e0] at Q
  obtain ⟨r1, e, er⟩ := Q
  have er : r1 = rc (ri r (Int32.ofNat v.1) (Int32.ofNat p) (xv (pm_I r 19 5) (pm_I r 19 11) (v.2.2.2 && ob)) v.2.1 v.2.2.1) (Int32.ofNat p2) 0 (pm_I r 19 4) := er
  refine ⟨r1, e, ⟨by rw [er]; rfl, by rw [er]; rfl, by rw [er]; rfl, by rw [er]; rfl, fun x y hn => ?_, fun x y hn => ?_⟩, fun x y hx => ?_, by rw [er]; rfl, by rw [er]; rfl, by rw [er]; rfl, by rw [er]; rfl, by rw [er]; rfl, by rw [er]; rfl, by rw [er]; rfl⟩
  · rw [er]
    by_cases c : x = 19
    · rw [c, rc_y _ _ _ _ (by intro z; apply hn; unfold lAI; omega) (by intro z; apply hn; unfold lAI; omega) (by intro z; apply hn; unfold lAI; omega)]
      show (if (19 : Nat) = 19 then (if y = 6 then _ else if y = 7 then _ else if y = 5 then _ else pm_I r 19 y) else pm_I r 19 y) = _
      rw [if_pos rfl, if_neg (by intro z; apply hn; unfold lAI; omega), if_neg (by intro z; apply hn; unfold lAI; omega), if_neg (by intro z; apply hn; unfold lAI; omega)]
    · rw [rc_x _ _ _ _ c, ri_x _ _ _ _ _ _ c]
  · rw [er]
    show (if x = 19 then (if y = 8 then _ else if y = 9 then _ else pm_L r x y) else pm_L r x y) = _
    by_cases c : x = 19
    · rw [if_pos c, if_neg (by intro z; apply hn; unfold lAL; omega), if_neg (by intro z; apply hn; unfold lAL; omega)]
    · rw [if_neg c]
  · rw [er, rc_x _ _ _ _ hx, ri_x _ _ _ _ _ _ hx]
end XRUN
