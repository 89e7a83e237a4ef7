/-! THE REFERENCE READS: section 6 by rules; the head of section 1 -/
theorem q_rowsP {σ α ρ : Type} {s : σ → Option (σ ⊕ ((Nat × pm_H) ⊕ ρ))} {n b m eo el e : Nat} {d : Bool} {B : Nat → Nat} {f q : Int32} {st : Nat → pm_H → σ} {row : Nat → sp_O α} {Cn : pm_H → List α → Nat → Prop} {AI AL : Nat → Nat → Nat → Prop} {c : Nat} {fin : pm_H → ρ} (mI : ∀ p p1 x y, p ≤ p1 → AI p1 x y → AI p x y) (mL : ∀ p p1 x y, p ≤ p1 → AL p1 x y → AL p x y) (ay : ∀ p h h', mC h n b m eo el e d B → gF (AI p) (AL p) h h' → yF m eo el h h') (done : ∀ H, pm_lim s (st c H) = some (.inr (fin H)))
    (step : ∀ (k p : Nat) (h : pm_H) (l : List α) (F : pm_H → Prop) (R : List α → Nat → ρ → Prop) (o' : α → Nat → sp_O (List α)), k < c → mC h n b m eo el e d B → p ≤ e → l.length = k → Cn h l p → (∀ h', yF m eo el h h' → F h') → (∀ a p' h', row p = .inr (a, p') → gF (AI p) (AL p) h h' → Cn h' (l ++ [a]) p' → p < p' → p' ≤ e → ms_Q F R (pm_lim s (st (k + 1) (rm h' (Int32.ofNat p') f q))) (o' a p')) → ms_Q F R (pm_lim s (st k (rm h (Int32.ofNat p) f q))) (sp_b (row p) o')) :
    ∀ (j k p : Nat) (h : pm_H) (l : List α), k + j = c → mC h n b m eo el e d B → p ≤ e → l.length = k → Cn h l p → ms_Q (fun h' => yF m eo el h h') (fun l' p' r => ∃ h', r = fin (rm h' (Int32.ofNat p') f q) ∧ gF (AI p) (AL p) h h' ∧ Cn h' (l ++ l') p' ∧ l'.length = j ∧ p ≤ p' ∧ p' ≤ e) (pm_lim s (st k (rm h (Int32.ofNat p) f q))) (sp_rows row j p) := by
  intro j
  induction j with
  | zero =>
    intro k p h l hk C hp hl cn
    rw [show k = c by omega, done]
    exact q_r ⟨h, rfl, gF_r _ _ h, by rw [List.append_nil]; exact cn, rfl, Nat.le_refl _, hp⟩
  | succ j ih =>
    intro k p h l hk C hp hl cn
    unfold sp_rows
    refine step k p h l _ _ _ (by omega) C hp hl cn (fun h' y => y) (fun a p' h' e1 g cn' hp1 hp2 => ?_)
    have y := ay p h h' C g
    refine q_cl (ih (k + 1) p' h' (l ++ [a]) (by omega) (mC_F C y) hp2 (by rw [List.length_append, hl]; rfl) cn') (fun h2 y2 => yF_t y y2) ?_
    rintro v p2 r e2 ⟨h2, er, g2, cn2, ln, hp3, hp4⟩
    exact q_r ⟨h2, er, gF_t g (gF_m g2 (fun x z w => mI p p' x z (by omega) w) (fun x z w => mL p p' x z (by omega) w)), by rw [List.append_assoc] at cn2; exact cn2, by rw [List.length_cons, ln], by omega, hp4⟩
theorem ex_nf {B : Nat → Nat} {e : Nat} {d : Bool} : ∀ {N : Nat} {st : tSt} {p : Nat} {v : tWr} {p2 : Nat}, sp_ex B e d false N st p = .inr (v, p2) → v.2 = false := by
  intro N
  induction N with
  | zero => intro st p v p2 q; cases q
  | succ N ih =>
    intro st p v p2 q
    unfold sp_ex at q
    by_cases c : p < e
    · rw [if_pos c] at q
      by_cases c11 : B p = 11
      · rw [if_pos c11] at q
        cases st with
        | nil => cases q; rfl
        | cons s r =>
          obtain ⟨a, p1, e1, e2⟩ := b_inv q
          cases e2
          have z := ih e1
          exact z
      · rw [if_neg c11] at q
        by_cases cb : 2 ≤ B p ∧ B p ≤ 4
        · rw [if_pos cb] at q
          obtain ⟨a, p1, e1, e2⟩ := b_inv q
          exact ih e2
        · rw [if_neg cb] at q
          by_cases c5 : B p = 5
          · rw [if_pos c5] at q
            cases st with
            | nil => cases q
            | cons s r =>
              have z : (if s.1 = 4 then sp_b (sp_ex B e d false N ((5, s.2.1, p) :: r) (p + 1)) (fun v p2 => (.inr (((true, s.2.1, p) :: v.1, v.2), p2) : sp_O tWr)) else .inl (10, p)) = .inr (v, p2) := q
              by_cases c4 : s.1 = 4
              · rw [if_pos c4] at z
                obtain ⟨a, p1, e1, e2⟩ := b_inv z
                cases e2
                have z := ih e1
                exact z
              · rw [if_neg c4] at z
                cases z
          · rw [if_neg c5] at q
            obtain ⟨a, p1, e1, e2⟩ := b_inv q
            obtain ⟨a2, p3, e3, e4⟩ := b_inv e2
            cases e4
            show (a.2.2.2 && false || a2.2) = false
            rw [Bool.and_false, Bool.false_or]
            exact ih e3
    · rw [if_neg c] at q
      cases q
def hTyI (m x y : Nat) : Prop := tyI m x y ∨ (x = m ∧ y = 4)
def sp_tyS (B : Nat → Nat) (e p : Nat) : sp_O (List tTy) := sp_b (sp_num B e p) fun c p1 => sp_rows (sp_ty B e) c p1
theorem hTy_y {n b m eo el e : Nat} {B : Nat → Nat} {d : Bool} {h h' : pm_H} (C : mC h n b m eo el e d B) (g : gF (hTyI m) trL h h') : yF m eo el h h' := gF_y (mC_m C) (mC_eo C) (mC_el C) (gF_m g (fun x y z => by unfold hTyI tyI at z; unfold yI; omega) (fun x y z => z.elim))
theorem ms_hTy {n b m eo el e : Nat} {B : Nat → Nat} {d : Bool} {h : pm_H} {p : Nat} (C : mC h n b m eo el e d B) (hp : p ≤ e) (f q : Int32) : ms_Q (fun h' => yF m eo el h h') (fun l p' r => ∃ h', r = rm h' (Int32.ofNat p') f q ∧ gF (hTyI m) trL h h' ∧ cR (pTy m) h' l ∧ pm_I h' m 4 = Int32.ofNat (k64 l.length) ∧ pm_I h' m 3 = xv (pm_I h m 3) (pm_I h 592 13) (decide (64 < l.length) || l.any bigT) ∧ l.length < 4294967296 ∧ p < p' ∧ p' ≤ e) (fX16_readsTypes (rm h (Int32.ofNat p) f q) 592) (sp_tyS B e p) := by
  have hm : 648 < m := mC_m C
  have K : pm_kd h 592 = 16 := C.1.1
  have rr := C.1.2.1
  have km := C.1.2.2.1
  have hb := C.1.2.2.2.2.2.2.2.2.2
  unfold fX16_readsTypes sp_tyS
  refine q_t K (q_c (MR_Q (ms_num C.1 C.2.2.2.2.1 C.2.2.2.2.2.1 hp f q)) (fun h' z => by rw [z]; exact yF_r m eo el h) ?_)
  intro v1 p1 r e1 er
  subst er
  obtain ⟨b1, hp1⟩ := sp_num_b hp e1
  have nv := sp_num_v hb e1
  refine q_t K (q_b rr ?_)
  refine q_b (ms_kept C.1 nv _ f q) (q_t (show pm_kd (kp h m v1) m = 14 by rw [(kp_x h m eo el v1).2.1]; exact km) ?_)
  have m5 : m ≠ 592 := by omega
  have g1 : gF (hTyI m) trL h (pm_setI (kp h m v1) m 4 (Int32.ofNat (k64 v1))) := by
    refine gF_t ?_ (gF_I _ _ (by unfold hTyI; omega))
    unfold kp
    split
    · exact gF_r _ _ _
    · unfold xc
      split
      · exact gF_r _ _ _
      · exact gF_I _ _ (by unfold hTyI tyI; omega)
  have y1 := hTy_y C g1
  rw [rm_a _ _ _ _ _ m5]
  have i3 : pm_I (pm_setI (kp h m v1) m 4 (Int32.ofNat (k64 v1))) m 3 = xv (pm_I h m 3) (pm_I h 592 13) (decide (64 < v1)) := by rw [ev_II, if_pos rfl, if_neg (by decide)]; exact kp_xv h m v1
  have i13 : pm_I (pm_setI (kp h m v1) m 4 (Int32.ofNat (k64 v1))) 592 13 = pm_I h 592 13 := g1.2.2.2.2.1 592 13 (by unfold hTyI tyI; omega)
  have L := q_rows (s := sX16_readsTypes) (f := f) (q := q) (st := fun k H => .inl (592, Int64.ofNat v1, Int64.ofNat k, H)) (row := sp_ty B e) (Cn := fun h' l => cTy m (xv (pm_I h m 3) (pm_I h 592 13) (decide (64 < v1))) (pm_I h 592 13) h' l) (AI := tyI m) (AL := trL) (c := v1) (fun h h' C g => tyI_y C g) (fun H => by rw [ev_lm, aX16_readsTypes_0]; unfold tX16_readsTypes_19; rw [if_pos (Int64.le_refl _)]; rfl) (fun k p h l F R o' hk C hp hl cn hF next => q_ty f q nv k p h l F R o' hk C hp hl cn hF next) v1 0 p1 _ [] (Nat.zero_add _) (mC_F C y1) hp1 rfl ⟨cR_0 _ _, by rw [i3]; rfl, i13⟩
  refine q_w L (fun h' y => yF_t y1 y) ?_
  rintro l p2 r e2 ⟨h', er, g2, cn, ln, hp2, hp3⟩
  refine ⟨h', er, gF_t g1 (gF_m g2 (fun x y z => .inl z) (fun x y z => z)), cn.1, ?_, ?_, by rw [ln]; exact nv, by omega, hp3⟩
  · rw [g2.2.2.2.2.1 m 4 (by unfold tyI; omega), ev_II, if_pos rfl, if_pos rfl, ln]
  · have z := cn.2.1
    rw [List.nil_append] at z
    rw [z, xv_or, ln]
/-- a global: type, whether it changes, where its expression is -/
abbrev tGl : Type := Nat × Nat × Nat
def pGl (m : Nat) (h : pm_H) (i : Nat) (a : tGl) : Prop := pm_I h (m + 16) i = Int32.ofNat a.1 ∧ pm_I h (m + 17) i = Int32.ofNat a.2.1 ∧ pm_I h (m + 18) i = Int32.ofNat a.2.2
def upGl (h : pm_H) (m k : Nat) (a : tGl) : pm_H := if k < 64 then pm_setI (pm_setI (pm_setI h (m + 16) k (Int32.ofNat a.1)) (m + 17) k (Int32.ofNat a.2.1)) (m + 18) k (Int32.ofNat a.2.2) else h
/-- what reading its rows writes -/
def sGlI (m x y : Nat) : Prop := (m + 16 ≤ x ∧ x ≤ m + 18)
def sGlL (m x y : Nat) : Prop := (m + 16 ≤ x ∧ x ≤ m + 18)
theorem upGl_F {m : Nat} {h : pm_H} (k : Nat) (a : tGl) : gF (sGlI m) trL h (upGl h m k a) := by
  unfold upGl
  split
  · exact (gF_t (gF_t (gF_I _ _ (by unfold sGlI; omega)) (gF_I _ _ (by unfold sGlI; omega))) (gF_I _ _ (by unfold sGlI; omega)))
  · exact gF_r _ _ h
theorem pGl_k {m : Nat} {h h' : pm_H} (hm : 648 < m) (eI : ∀ x y, x ≠ 592 → pm_I h' x y = pm_I h x y) (eL : ∀ x y, x ≠ 592 → pm_L h' x y = pm_L h x y) (i : Nat) (a : tGl) (q : pGl m h i a) : pGl m h' i a := by
  unfold pGl at q ⊢
  rw [eI (m + 16) _ (by omega), eI (m + 17) _ (by omega), eI (m + 18) _ (by omega)]
  exact q
theorem pGl_u {m : Nat} {h : pm_H} {l : List tGl} {a : tGl} (c : cR (pGl m) h l) : cR (pGl m) (upGl h m l.length a) (l ++ [a]) := by
  refine cR_app c (fun i x hi q => ?_) (fun hi => ?_)
  · unfold upGl
    split
    · unfold pGl at q ⊢
      simp (disch := omega) only [ev_II, ev_IL, ev_LI, ev_LL, b_eqf, if_false, ite_self]
      exact q
    · exact q
  · unfold upGl
    rw [if_pos hi]
    unfold pGl
    simp (disch := omega) only [ev_II, ev_IL, ev_LI, ev_LL, b_eqf, if_false, if_true, and_self]
def sp_gl (B : Nat → Nat) (e : Nat) (d : Bool) (p : Nat) : sp_O tGl := sp_b (sp_byte sp_isT 8 B e p) fun t p1 => sp_b (sp_byte (fun c => decide (c ≤ 1)) 7 B e p1) fun g p2 => sp_b (sp_ex B e d false (e + 1) [] p2) fun _ p3 => .inr ((t, g, p2), p3)
/-- what reading rows that have expressions writes, from p on -/
def epI (m eo el p x y : Nat) : Prop := x = 596 ∨ x = 597 ∨ ((x = eo ∨ x = el) ∧ p ≤ y) ∨ (x = m ∧ y = 3)
def rGlI (m eo el p x y : Nat) : Prop := epI m eo el p x y ∨ sGlI m x y
def cGl (m n el : Nat) (o : Int32) (h : pm_H) (l : List tGl) (p : Nat) : Prop := cR (pGl m) h l ∧ mE h n el p ∧ pm_I h m 3 = o
section MGL
variable {n b m eo el e : Nat} {B : Nat → Nat} {d : Bool}
theorem exI_ep {p p1 p2 x y : Nat} (hp : p ≤ p1) (z : exI m eo el p1 p2 x y) : epI m eo el p x y := by unfold exI at z; unfold epI; omega
theorem mC_s {h : pm_H} (C : mC h n b m eo el e d B) : m + 39 < eo ∧ m + 39 < el := ⟨C.2.2.2.1.2.1, C.2.2.2.1.2.2⟩
theorem q_gl (f q : Int32) {c : Nat} (hc : c < 4294967296) {o : Int32} (k p : Nat) (h : pm_H) (l : List tGl) (F : pm_H → Prop) (R : List tGl → Nat → pm_H → Prop) (o' : tGl → Nat → sp_O (List tGl)) (hk : k < c) (C : mC h n b m eo el e d B) (hp : p ≤ e) (hl : l.length = k) (cn : cGl m n el o h l p) (hF : ∀ h', yF m eo el h h' → F h') (next : ∀ a p' h', sp_gl B e d p = .inr (a, p') → gF (rGlI m eo el p) trL h h' → cGl m n el o h' (l ++ [a]) p' → p < p' → p' ≤ e → ms_Q F R (pm_lim sX16_readsGlobals (.inl (592, Int64.ofNat c, Int64.ofNat (k + 1), rm h' (Int32.ofNat p') f q))) (o' a p')) : ms_Q F R (pm_lim sX16_readsGlobals (.inl (592, Int64.ofNat c, Int64.ofNat k, rm h (Int32.ofNat p) f q))) (sp_b (sp_gl B e d p) o') := by
  have hm : 648 < m := mC_m C
  have K : pm_kd h 592 = 16 := C.1.1
  have hb := C.1.2.2.2.2.2.2.2.2.2
  obtain ⟨d1, d2, d3⟩ := mC_d C
  obtain ⟨s1, s2⟩ := mC_s C
  obtain ⟨cn1, cn2, cn3⟩ := cn
  have k1 : Int64.ofNat k + 1 = Int64.ofNat (k + 1) := ll_ad k 1
  have kc : k < 64 → (Int64.ofNat k).toInt32.toNatClampNeg = k := fun z => by rw [ll_t3, nn_cm (by omega)]
  refine s_w (aX16_readsGlobals_0 ..) ?_
  unfold tX16_readsGlobals_19
  refine s_f (show ¬ Int64.ofNat c ≤ Int64.ofNat k by rw [ll_le (by omega) (by omega)]; omega) (s_t K ?_)
  unfold sp_gl at next ⊢
  rw [sp_ba]
  refine s_c (MR_Q (ms_type C.1 C.2.2.2.2.1 C.2.2.2.2.2.1 hp f q)) (fun h' z => by rw [z]; exact hF _ (yF_r m eo el h)) ?_
  intro v1 p1 r e1 er
  subst er
  obtain ⟨b1, hp1⟩ := sp_byte_b hp e1
  refine s_t K ?_
  rw [sp_ba]
  refine s_c (MR_Q (ms_small C.1 C.2.2.2.2.1 C.2.2.2.2.2.1 hp1 f q (t := 1) (by decide))) (fun h' z => by rw [z]; exact hF _ (yF_r m eo el h)) ?_
  intro v2 p2 r e2 er
  subst er
  obtain ⟨b2, hp2⟩ := sp_byte_b hp1 e2
  have v2l : v2 ≤ 1 := of_decide_eq_true b2.2.2.2
  rw [e1, sp_br, e2, sp_br] at next
  have main : ms_Q F R (pm_lim sX16_readsGlobals (.inr (592, Int64.ofNat c, Int64.ofNat k, Int32.ofNat v1, Int32.ofNat v2, rm h (Int32.ofNat p2) f q))) (sp_b (sp_b (sp_ex B e d false (e + 1) [] p2) fun _ p3 => .inr ((v1, v2, p2), p3)) o') := by
    refine s_w (aX16_readsGlobals_1 ..) ?_
    unfold tX16_readsGlobals_45
    refine s_t K (s_l ?_)
    rw [sp_ba]
    refine s_c (ms_ex C (mE_m cn2 (by omega)) hp2 false f q) hF ?_
    rintro v3 p3 r e3 ⟨h3, er, g3, P3, E3, b3, hp3⟩
    subst er
    have y3 := exI_y C g3
    have C3 := mC_F C y3
    have i3 : pm_I h3 m 3 = pm_I h m 3 := by rw [P3.2.2.2.2.2.2.1, ex_nf e3]; rfl
    have kI : ∀ x y, m + 16 ≤ x ∧ x ≤ m + 18 → pm_I h3 x y = pm_I h x y := fun x y hx => g3.2.2.2.2.1 x y (by unfold exI; omega)
    rw [e3, sp_br] at next
    have er0 : (.inr ((v1, v2, p2), p3) : sp_O tGl) = .inr ((v1, v2, p2), p3) := rfl
    have nx := next (v1, v2, p2) p3 (upGl h3 m k (v1, v2, p2)) er0 (gF_t (gF_m g3 (fun x y z => .inl (exI_ep (by omega) z)) (fun x y z => z)) (gF_m (upGl_F k _) (fun x y z => .inr z) (fun x y z => z))) ⟨?_, ?_, ?_⟩ (by omega) hp3
    · have rr := C3.1.2.1
      have km := C3.1.2.2.1
      have K3 := C3.1.1
      obtain ⟨r25, k25, l25⟩ := mP_25 C3.2.2.1
      obtain ⟨r26, k26, l26⟩ := mP_26 C3.2.2.1
      obtain ⟨r27, k27, l27⟩ := mP_27 C3.2.2.1
      have ki : ∀ ln, ln = 64 → k < 64 → pm_in (Int64.ofNat k).toInt32 ln := fun ln z z2 => by rw [ll_t3, nn_in (by omega)]; omega
      by_cases k6 : k < 64
      · refine s_f (show ¬ (64 : Int64) ≤ Int64.ofNat k by rw [n6_64, ll_le (by omega) (by omega)]; omega) ?_
        refine s_t K3 (s_b rr (s_t km (s_b r25 (s_t k25 (s_t (ki _ l25 k6) (s_b r26 (s_t k26 (s_t (ki _ l26 k6) (s_b r27 (s_t k27 (s_t (ki _ l27 k6) (s_l (s_n ?_)))))))))))))
        unfold upGl at nx
        rw [if_pos k6] at nx
        simp (disch := omega) only [kc k6, k1, r_11, rm_a, vp_b01 v2l]
        exact nx
      · refine s_t (show (64 : Int64) ≤ Int64.ofNat k by rw [n6_64, ll_le (by omega) (by omega)]; omega) (s_l (s_n ?_))
        unfold upGl at nx
        rw [if_neg k6] at nx
        rw [k1]
        exact nx
    · rw [← hl]
      refine pGl_u (fun i x z hi => ?_)
      have w := cn1 i x z hi
      unfold pGl at w ⊢
      rw [kI _ _ (by omega), kI _ _ (by omega), kI _ _ (by omega)]
      exact w
    · refine mE_k E3 (fun y => (upGl_F (m := m) (h := h3) k (v1, v2, p2)).2.2.2.2.1 el y (by unfold sGlI; omega))
    · rw [(upGl_F (m := m) (h := h3) k (v1, v2, p2)).2.2.2.2.1 m 3 (by unfold sGlI; omega), i3]
      exact cn3
  by_cases c5 : v2 = 1
  · refine s_t (show Int32.ofNat v2 = 1 by rw [c5]; rfl) (s_n ?_)
    subst c5
    exact main
  · have c50 : v2 = 0 := by omega
    refine s_f (show ¬ Int32.ofNat v2 = 1 by rw [n3_1, nn_eq (by omega) (by omega)]; exact c5) (s_n ?_)
    subst c50
    exact main
end MGL
