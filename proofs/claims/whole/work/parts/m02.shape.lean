/-! THE CLASS CHECKS: shapes; many operands taken, put -/
/-- cells that a check never writes -/
def sLo (lo hi s : Nat) : Prop := (lo ≤ s ∧ s < hi) ∨ (164 ≤ s ∧ s ≤ 181)
/-- l stands in the cell s from f on -/
def sQ (h : pm_H) (lo hi s f : Nat) (l : List Nat) : Prop := pm_kd h s = 34 ∧ pm_ln h s < 2147483648 ∧ f + l.length ≤ pm_ln h s ∧ sLo lo hi s ∧ ∀ j, j < l.length → pm_I h s (f + j) = Int32.ofNat (gt l j)
/-- a shape -/
def shP (h : pm_H) (lo hi s : Nat) (ps rs : List Nat) : Prop := sQ h lo hi s 2 ps ∧ sQ h lo hi s (2 + ps.length) rs ∧ pm_I h s 0 = Int32.ofNat ps.length ∧ pm_I h s 1 = Int32.ofNat rs.length
theorem c_neg : ∀ c : Fin 256, (c.val = 64 ∨ sp_isT c.val = true) → (Int64.ofInt ((c.val : Int) - 128)).toInt32 < 0 ∧ ¬ (Int64.ofInt ((c.val : Int) - 128)).toInt32 < -128 ∧ 128 + (Int64.ofInt ((c.val : Int) - 128)).toInt32 = Int32.ofNat c.val := by decide +kernel
theorem isT_ge {c : Nat} (h : isT c) : 111 ≤ c ∧ c < 128 := by
  have := isT_lt h
  have h : sp_isT c = true := h
  unfold sp_isT sp_isR at h
  simp only [Bool.or_eq_true, Bool.and_eq_true, beq_iff_eq, decide_eq_true_eq] at h
  omega
section XSH
variable {h0 r : pm_H} {n b mm lo hi bo co dd cap : Nat} {B : Nat → Nat} {M : tMd} {Ts : List Int64} {o : sp_O tK} {p w s f : Nat} {v : sp_I} {hb : Int32} {K : tK} {ps rs l : List Nat} {t : Int64}
theorem sQ_F (C : xC h0 n b mm lo hi bo co dd cap B M) (F : xFr bo co h0 r) (P : sQ h0 lo hi s f l) : sQ r lo hi s f l := by
  obtain ⟨p1, p2, p3, p4, p5⟩ := P
  obtain ⟨-, -, -, ⟨a1, a2, a3, a4, a5, a6, a7⟩, -⟩ := C
  have sl : ∀ y, pm_I r s y = pm_I h0 s y := fun y => F.2.2.2.2.1 s y (by unfold xAI; unfold sLo at p4; omega)
  exact ⟨by rw [F.2.1]; exact p1, by rw [F.2.2.1]; exact p2, by rw [F.2.2.1]; exact p3, p4, fun j hj => (sl _).trans (p5 j hj)⟩
theorem shP_F (C : xC h0 n b mm lo hi bo co dd cap B M) (F : xFr bo co h0 r) (P : shP h0 lo hi s ps rs) : shP r lo hi s ps rs := by
  obtain ⟨p1, p2, p3, p4⟩ := P
  have p4' := p1.2.2.2.1
  have aa := C.2.2.2.1
  have sl : ∀ y, pm_I r s y = pm_I h0 s y := fun y => F.2.2.2.2.1 s y (by unfold xAI; unfold sLo at p4'; omega)
  exact ⟨sQ_F C F p1, sQ_F C F p2, (sl 0).trans p3, (sl 1).trans p4⟩
theorem sh_mod (C : xC r n b mm lo hi bo co dd cap B M) (T : vTy M) {i : Nat} (hi' : i < M.1.length) : ∃ s, fX7_shape r mm (Int32.ofNat i) = some (s, r) ∧ shP r lo hi s (M.1[i]).1 (M.1[i]).2 := by
  have T1 := T.1
  obtain ⟨x, x1, x2, x3, x4, x5, x6, x7⟩ := C.2.1.1 (by decide)
  obtain ⟨⟨s, s1, s2, s3⟩, t, t1, t2, t3⟩ := x7 i _ (List.getElem?_eq_getElem hi')
  have st : s = t := by rw [s1] at t1; exact Option.some.inj t1
  subst st
  have g := T.2 _ (List.getElem_mem hi')
  have nb : bigT M.1[i] = false := by
    unfold bigT
    rw [decide_eq_false (Nat.not_lt.mpr g.2.1), decide_eq_false (Nat.not_lt.mpr g.2.2)]
    rfl
  obtain ⟨z1, z2, z3, z4, z5⟩ := s3 nb
  have g1 := g.2.1
  have g2 := g.2.2
  refine ⟨s, ?_, ⟨s2, by omega, by omega, .inl ⟨by omega, t3⟩, fun j hj => z4 j _ (gt_e hj)⟩, ⟨s2, by omega, by omega, .inl ⟨by omega, t3⟩, fun j hj => z5 j _ (gt_e hj)⟩, z2, z3⟩
  unfold fX7_shape fX7_shape_b0 fX7_shape_b25
  refine e9_f (by rw [n3_0, nn_lt (by omega) (by decide)]; omega) (e9_t C.1.2.2.1 (e9_b x1 (e9_t x4 (e9_f (by rw [x5, nn_le (by omega) (by omega)]; omega) (e9_t (by rw [x5, nn_in (by omega)]; exact hi') ?_)))))
  rw [nn_cm (by omega)]
  exact e9_b s1 rfl
/-- the shape of a type -/
theorem sh_typ (C : xC r n b mm lo hi bo co dd cap B M) (T : vTy M) (W : wfT M t) : (0 ≤ t ∧ ∃ i, i < M.1.length ∧ t.toInt32 = Int32.ofNat i ∧ ∃ s, fX7_shape r mm (Int32.ofNat i) = some (s, r) ∧ shP r lo hi s (btP M t) (btR M t)) ∨ (t.toInt32 < 0 ∧ ¬ t.toInt32 < -128 ∧ ∃ c s, c < 128 ∧ 128 + t.toInt32 = Int32.ofNat c ∧ pm_R r 29 c = some s ∧ shP r lo hi s (btP M t) (btR M t)) := by
  have T1 := T.1
  rcases W with ⟨h0, hi'⟩ | ⟨c, hc, e⟩
  · have z := i64_nn h0
    obtain ⟨s, e1, P⟩ := sh_mod C T hi'
    obtain ⟨b1, b2⟩ := bt_i (M := M) hi' (by omega)
    rw [z] at b1 b2
    refine .inl ⟨h0, _, hi', by rw [← ll_t3, z], s, e1, ?_⟩
    rw [b1, b2]
    exact P
  · obtain ⟨-, -, ⟨-, -, -, -, -, -, -, ⟨w1, w2, w3, w4, w5⟩, ⟨u1, u2, u3, u4, u5⟩, -⟩, -, -⟩ := C
    have c8 : c < 256 := by
      rcases hc with z | z
      · omega
      · have := isT_lt z; omega
    obtain ⟨n1, n2, n3⟩ := c_neg ⟨c, c8⟩ hc
    obtain ⟨b1, b2⟩ := bt_n (M := M) hc
    rw [e]
    by_cases c64 : c = 64
    · refine .inr ⟨n1, n2, 64, 164, by decide, by rw [← c64]; exact n3, w4, ?_⟩
      rw [b1, b2, if_pos c64]
      exact ⟨⟨u1, by omega, by show 2 + 0 ≤ _; omega, .inr ⟨by omega, by omega⟩, fun j hj => absurd hj (Nat.not_lt_zero _)⟩, ⟨u1, by omega, by show 2 + 0 + 0 ≤ _; omega, .inr ⟨by omega, by omega⟩, fun j hj => absurd hj (Nat.not_lt_zero _)⟩, u3, u4⟩
    · have ct := hc.resolve_left c64
      have cg := isT_ge ct
      obtain ⟨y1, y2, y3, y4, y5⟩ := u5 (c - 111) (by omega)
      refine .inr ⟨n1, n2, c, 165 + (c - 111), by omega, n3, ?_, ?_⟩
      · have := w5 (c - 111) (by omega)
        rwa [show 111 + (c - 111) = c by omega] at this
      · rw [b1, b2, if_neg c64]
        refine ⟨⟨y1, by omega, by show 2 + 0 ≤ _; omega, .inr ⟨by omega, by omega⟩, fun j hj => absurd hj (Nat.not_lt_zero _)⟩, ⟨y1, by omega, by show 2 + 0 + 1 ≤ _; omega, .inr ⟨by omega, by omega⟩, fun j hj => ?_⟩, y3, y4⟩
        have : j = 0 := by have hj : j < 1 := hj; omega
        rw [this]
        show pm_I r (165 + (c - 111)) 2 = Int32.ofNat c
        rw [y5, show 111 + (c - 111) = c by omega]
/-- the shape of a label -/
theorem x_sol (C : xC r n b mm lo hi bo co dd cap B M) (T : vTy M) (X : xT r Ts) (tl : Ts.length ≤ 200) {x : Nat} (hx : Ts[x]? = some t) (W : wfT M t) : ∃ s, fX1_shapeOfLabel r 22 (Int32.ofNat (Ts.length - 1 - x)) = some (s, r) ∧ shP r lo hi s (btP M t) (btR M t) := by
  have xl := some_lt hx
  have T1 := T.1
  have e1 : fX1_label r 22 (Int32.ofNat (Ts.length - 1 - x)) 1 = some t.toInt32 := by rw [← X.2 x t hx]; exact lb_v C (by omega) (j := 1) (by decide)
  obtain ⟨-, -, ⟨⟨q1, q2, -⟩, -, -, -, -, -, -, ⟨w1, w2, w3, -⟩, -⟩, -⟩ := id C
  unfold fX1_shapeOfLabel fX1_shapeOfLabel_b0
  rcases sh_typ C T W with ⟨t0, i, i1, i2, s, e2, P⟩ | ⟨n1, n2, c, s, c8, n3, e2, P⟩
  · rw [i2] at e1
    refine ⟨s, e9_t q1 (e9_b e1 (e9_f (by rw [n3_0, nn_lt (by omega) (by decide)]; omega) (e9_b q2 (e9_t C.1.2.2.1 (e9_b e2 rfl))))), P⟩
  · refine ⟨s, e9_t q1 (e9_b e1 (e9_t n1 (e9_f n2 (e9_b w1 (e9_l (e9_t w2 (e9_t ?_ ?_))))))), P⟩
    · rw [n3, w3, nn_in (by omega)]; exact c8
    · rw [n3, nn_cm (by omega)]
      exact e9_b e2 rfl
theorem x_tkl (C : xC h0 n b mm lo hi bo co dd cap B M) (I : xI h0 p v hb) (hl : 0 < Ts.length) (P : sQ h0 lo hi s f l) (hf : f + l.length < 100000) (ty : ∀ x, x ∈ l → x = 0 ∨ isT x) : ∀ (k : Nat) {o : sp_O tK} {r : pm_H}, xS h0 M bo co Ts o r → k ≤ l.length → ∃ r', pm_lim sX1_takeTypes (22, s, Int32.ofNat f, Int32.ofNat k - 1, r) = some r' ∧ xS h0 M bo co Ts (sp_b o fun K _ => kTakeN p (gt l) k K) r' := by
  intro k
  induction k with
  | zero =>
    intro o r S hk
    refine ⟨r, ?_, ?_⟩
    · refine k_w (aX1_takeTypes_0 ..) ?_
      unfold tX1_takeTypes_5
      exact k_t (by decide) rfl
    · cases o <;> exact S
  | succ k ih =>
    intro o r S hk
    have Pr := sQ_F C S.1 P
    obtain ⟨u, r1, e1, S1, -⟩ := x_take C I S hl (ty _ (gt_m hk))
    obtain ⟨r2, e2, S2⟩ := ih S1 (Nat.le_of_succ_le hk)
    refine ⟨r2, ?_, ?_⟩
    · refine k_w (aX1_takeTypes_0 ..) ?_
      unfold tX1_takeTypes_5
      rw [nn_ss]
      have ei : fX12_item r s (Int32.ofNat f + Int32.ofNat k) = some (Int32.ofNat (gt l k)) := by
        rw [nn_ad, ← Pr.2.2.2.2 k hk]
        exact it_v Pr.1 Pr.2.1 (by have := Pr.2.2.1; omega)
      refine k_f (by rw [n3_0, nn_lt (by omega) (by decide)]; omega) (k_b ei (k_t (xS_C C S).2.2.1.1.1 (k_b e1 (k_l ?_))))
      rw [dn_s]
      exact k_n e2
    · rw [sp_as] at S2
      have : (sp_b o fun K _ => kTakeN p (gt l) (k + 1) K) = sp_b o fun K z => sp_b ((fun K (_ : Nat) => sp_b (kTake p (gt l k) K) fun y _ => (.inr (y.2, 0) : sp_O tK)) K z) fun K _ => kTakeN p (gt l) k K := by
        refine congrArg (sp_b o) (funext fun K => funext fun z => ?_)
        show sp_b (kTake p (gt l k) K) (fun v _ => kTakeN p (gt l) k v.2) = sp_b (sp_b (kTake p (gt l k) K) fun y _ => (.inr (y.2, 0) : sp_O tK)) fun K _ => kTakeN p (gt l) k K
        rw [sp_as]
        rfl
      rw [this]
      exact S2
/-- taking -/
theorem x_tks (C : xC h0 n b mm lo hi bo co dd cap B M) (I : xI h0 p v hb) (hl : 0 < Ts.length) (P : sQ h0 lo hi s f l) (hf : f + l.length < 100000) (ty : ∀ x, x ∈ l → x = 0 ∨ isT x) (S : xS h0 M bo co Ts o r) : ∃ r', fX1_takeTypes r 22 s (Int32.ofNat f) (Int32.ofNat l.length) = some r' ∧ xS h0 M bo co Ts (sp_b o fun K _ => kTakeL p l K) r' := by
  obtain ⟨r', e, S'⟩ := x_tkl C I hl P hf ty l.length S (Nat.le_refl _)
  refine ⟨r', ?_, S'⟩
  unfold fX1_takeTypes
  exact e9_l e
theorem xS_wf (S : xS h0 M bo co Ts o r) {K : tK} {z : Nat} (e : o = .inr (K, z)) : wfK M K ∧ tyL K = Ts := by
  obtain ⟨-, S⟩ := S
  rw [e] at S
  exact S.2
theorem x_ptl (C : xC h0 n b mm lo hi bo co dd cap B M) (I : xI h0 p v hb) (P : sQ h0 lo hi s f l) (hf : f + l.length < 100000) (ty : ∀ x, x ∈ l → x = 0 ∨ isT x) : ∀ (j k : Nat) {o : sp_O tK} {r : pm_H}, xS h0 M bo co Ts o r → k + j = l.length → ∃ r', pm_lim sX1_putTypes (22, s, Int32.ofNat f, Int32.ofNat l.length, Int32.ofNat k, r) = some r' ∧ xS h0 M bo co Ts (sp_b o fun K _ => kPutN p (gt l) j k K) r' := by
  intro j
  induction j with
  | zero =>
    intro k o r S hk
    refine ⟨r, ?_, ?_⟩
    · refine k_w (aX1_putTypes_0 ..) ?_
      unfold tX1_putTypes_3
      exact k_t (by rw [nn_le (by omega) (by omega)]; omega) rfl
    · cases o <;> exact S
  | succ j ih =>
    intro k o r S hk
    have Pr := sQ_F C S.1 P
    have hk' : k < l.length := by omega
    obtain ⟨r1, e1, S1⟩ := x_put (w := gt l k) C I S (fun K z _ => ty _ (gt_m hk'))
    obtain ⟨r2, e2, S2⟩ := ih (k + 1) S1 (by omega)
    refine ⟨r2, ?_, ?_⟩
    · refine k_w (aX1_putTypes_0 ..) ?_
      unfold tX1_putTypes_3
      have ei : fX12_item r s (Int32.ofNat f + Int32.ofNat k) = some (Int32.ofNat (gt l k)) := by
        rw [nn_ad, ← Pr.2.2.2.2 k hk']
        exact it_v Pr.1 Pr.2.1 (by have := Pr.2.2.1; omega)
      refine k_f (by rw [nn_le (by omega) (by omega)]; omega) (k_b ei (k_t (xS_C C S).2.2.1.1.1 (k_b e1 (k_l ?_))))
      rw [show Int32.ofNat k + 1 = Int32.ofNat (k + 1) from nn_ad _ 1]
      exact k_n e2
    · rw [sp_as] at S2
      exact S2
/-- putting -/
theorem x_pts (C : xC h0 n b mm lo hi bo co dd cap B M) (I : xI h0 p v hb) (P : sQ h0 lo hi s f l) (hf : f + l.length < 100000) (ty : ∀ x, x ∈ l → x = 0 ∨ isT x) (S : xS h0 M bo co Ts o r) : ∃ r', fX1_putTypes r 22 s (Int32.ofNat f) (Int32.ofNat l.length) = some r' ∧ xS h0 M bo co Ts (sp_b o fun K _ => kPutL p l K) r' := by
  obtain ⟨r', e, S'⟩ := x_ptl C I P hf ty l.length 0 S (Nat.zero_add _)
  refine ⟨r', ?_, S'⟩
  unfold fX1_putTypes
  exact e
theorem sh_i0 (P : shP r lo hi s ps rs) : fX12_item r s 0 = some (Int32.ofNat ps.length) := by rw [← P.2.2.1]; exact it_v (k := 0) P.1.1 P.1.2.1 (by have := P.1.2.2.1; omega)
theorem sh_i1 (P : shP r lo hi s ps rs) : fX12_item r s 1 = some (Int32.ofNat rs.length) := by rw [← P.2.2.2]; exact it_v (k := 1) P.1.1 P.1.2.1 (by have := P.1.2.2.1; omega)
theorem x_tkP (C : xC h0 n b mm lo hi bo co dd cap B M) (I : xI h0 p v hb) (hl : 0 < Ts.length) (P : shP h0 lo hi s ps rs) (hp : ps.length ≤ 16) (ty : ∀ x, x ∈ ps → isT x) (S : xS h0 M bo co Ts o r) : ∃ r', fX1_takeParameters r 22 s = some r' ∧ xS h0 M bo co Ts (sp_b o fun K _ => kTakeL p ps K) r' := by
  obtain ⟨r', e, S'⟩ := x_tks C I hl P.1 (by omega) (fun x hx => .inr (ty x hx)) S
  refine ⟨r', ?_, S'⟩
  unfold fX1_takeParameters
  exact e9_b (sh_i0 (shP_F C S.1 P)) (e9_t (xS_C C S).2.2.1.1.1 (e9_b e rfl))
theorem x_ptP (C : xC h0 n b mm lo hi bo co dd cap B M) (I : xI h0 p v hb) (P : shP h0 lo hi s ps rs) (hp : ps.length ≤ 16) (ty : ∀ x, x ∈ ps → isT x) (S : xS h0 M bo co Ts o r) : ∃ r', fX1_putParameters r 22 s = some r' ∧ xS h0 M bo co Ts (sp_b o fun K _ => kPutL p ps K) r' := by
  obtain ⟨r', e, S'⟩ := x_pts C I P.1 (by omega) (fun x hx => .inr (ty x hx)) S
  refine ⟨r', ?_, S'⟩
  unfold fX1_putParameters
  exact e9_b (sh_i0 (shP_F C S.1 P)) (e9_t (xS_C C S).2.2.1.1.1 (e9_b e rfl))
theorem x_ptR (C : xC h0 n b mm lo hi bo co dd cap B M) (I : xI h0 p v hb) (P : shP h0 lo hi s ps rs) (hp : ps.length ≤ 16) (hr : rs.length ≤ 16) (ty : ∀ x, x ∈ rs → isT x) (S : xS h0 M bo co Ts o r) : ∃ r', fX1_putResults r 22 s = some r' ∧ xS h0 M bo co Ts (sp_b o fun K _ => kPutL p rs K) r' := by
  obtain ⟨r', e, S'⟩ := x_pts C I P.2.1 (by omega) (fun x hx => .inr (ty x hx)) S
  refine ⟨r', ?_, S'⟩
  unfold fX1_putResults
  have Pr := shP_F C S.1 P
  refine e9_b (sh_i0 Pr) (e9_b (sh_i1 Pr) (e9_t (xS_C C S).2.2.1.1.1 ?_))
  rw [show (2 : Int32) + Int32.ofNat ps.length = Int32.ofNat (2 + ps.length) from nn_ad 2 _]
  exact e9_b e rfl
end XSH
