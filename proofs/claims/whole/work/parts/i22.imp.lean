/-! THE REFERENCE READS: section 2 -/
theorem sp_ba {α β γ : Type} (x : sp_O α) (k : α → Nat → sp_O β) (k2 : β → Nat → sp_O γ) : sp_b (sp_b x k) k2 = sp_b x fun v p => sp_b (k v p) k2 := by cases x <;> rfl
/-- what is kept of the first 64 of a row -/
def cR {α : Type} (P : pm_H → Nat → α → Prop) (h : pm_H) (l : List α) : Prop := ∀ i a, l[i]? = some a → i < 64 → P h i a
theorem cR_0 {α : Type} (P : pm_H → Nat → α → Prop) (h : pm_H) : cR P h [] := fun i a e => by cases i <;> cases e
theorem cR_app {α : Type} {P : pm_H → Nat → α → Prop} {h h' : pm_H} {l : List α} {a : α} (c : cR P h l) (keep : ∀ i x, i ≠ l.length → P h i x → P h' i x) (new : l.length < 64 → P h' l.length a) : cR P h' (l ++ [a]) := by
  intro i x e hi
  rcases Nat.lt_trichotomy i l.length with z | z | z
  · rw [List.getElem?_append_left z] at e
    exact keep i x (by omega) (c i x e hi)
  · subst z
    rw [List.getElem?_append_right (Nat.le_refl _), Nat.sub_self] at e
    cases e
    exact new hi
  · rw [List.getElem?_eq_none (by rw [List.length_append]; show l.length + 1 ≤ i; omega)] at e
    cases e
/-- an import: kind, type, least, greatest, whether it changes -/
abbrev tImp : Type := Nat × Nat × Nat × Int64 × Nat
def sp_imp (B : Nat → Nat) (e p : Nat) : sp_O tImp := sp_b (sp_name B e p) fun _ p1 => sp_b (sp_name B e p1) fun _ p2 => sp_b (sp_byte (fun c => decide (c ≤ 3)) 7 B e p2) fun c p3 =>
  if c = 0 then sp_b (sp_num B e p3) fun t p4 => .inr ((c, t, 0, -1, 0), p4)
  else if c = 3 then sp_b (sp_byte sp_isT 8 B e p3) fun t p4 => sp_b (sp_byte (fun c => decide (c ≤ 1)) 7 B e p4) fun g p5 => .inr ((c, t, 0, -1, g), p5)
  else if c = 1 then sp_b (sp_byte sp_isR 8 B e p3) fun t p4 => sp_b (sp_lim B e p4) fun l p5 => .inr ((c, t, l.1, l.2, 0), p5)
  else sp_b (sp_lim B e p3) fun l p5 => .inr ((c, 0, l.1, l.2, 0), p5)
def pImp (m : Nat) (h : pm_H) (i : Nat) (a : tImp) : Prop := pm_I h (m + 5) i = Int32.ofNat a.1 ∧ pm_L h (m + 6) i = Int64.ofNat a.2.1 ∧ pm_L h (m + 7) i = Int64.ofNat a.2.2.1 ∧ pm_L h (m + 8) i = a.2.2.2.1 ∧ pm_I h (m + 9) i = Int32.ofNat a.2.2.2.2
def upI (h : pm_H) (m k : Nat) (a : tImp) : pm_H := if k < 64 then pm_setI (pm_setL (pm_setL (pm_setL (pm_setI h (m + 5) k (Int32.ofNat a.1)) (m + 6) k (Int64.ofNat a.2.1)) (m + 7) k (Int64.ofNat a.2.2.1)) (m + 8) k a.2.2.2.1) (m + 9) k (Int32.ofNat a.2.2.2.2) else h
theorem vp_b01 {g : Nat} (hg : g ≤ 1) : vp_nar .boolean (Int32.ofNat g) = Int32.ofNat g := by
  rcases (show g = 0 ∨ g = 1 by omega) with z | z <;> rw [z] <;> decide
section MIMP
variable {n b m eo el e : Nat} {B : Nat → Nat} {d : Bool}
theorem mC_m {h : pm_H} (C : mC h n b m eo el e d B) : 648 < m := C.2.1.2.2.2.2.2.2.2.2.2.2.2.2.2.2.2.2.2.1
theorem mC_eo {h : pm_H} (C : mC h n b m eo el e d B) : 648 < eo := C.2.1.2.2.2.2.2.2.2.2.2.2.2.2.2.2.2.1
theorem mC_el {h : pm_H} (C : mC h n b m eo el e d B) : 648 < el := C.2.1.2.2.2.2.2.2.2.2.2.2.2.2.2.2.2.2.1
/-- what reading section 2 writes -/
def i2I (m x y : Nat) : Prop := (x = 592 ∧ y = 16) ∨ (m + 5 ≤ x ∧ x ≤ m + 9)
def i2L (m x y : Nat) : Prop := (x = 592 ∧ (y = 17 ∨ y = 18)) ∨ (m + 5 ≤ x ∧ x ≤ m + 9)
theorem upI_F {h : pm_H} (k : Nat) (a : tImp) : gF (i2I m) (i2L m) h (upI h m k a) := by
  unfold upI
  split
  · exact gF_t (gF_t (gF_t (gF_t (gF_I _ _ (by unfold i2I; omega)) (gF_L _ _ (by unfold i2L; omega))) (gF_L _ _ (by unfold i2L; omega))) (gF_L _ _ (by unfold i2L; omega))) (gF_I _ _ (by unfold i2I; omega))
  · exact gF_r _ _ h
/-- what is kept when only 16, 17, 18 of the reference change -/
theorem pImp_k {h h' : pm_H} (hm : 648 < m) (eI : ∀ x y, x ≠ 592 → pm_I h' x y = pm_I h x y) (eL : ∀ x y, x ≠ 592 → pm_L h' x y = pm_L h x y) (i : Nat) (a : tImp) (q : pImp m h i a) : pImp m h' i a := by
  unfold pImp at q ⊢
  rw [eI _ _ (by omega), eL _ _ (by omega), eL _ _ (by omega), eL _ _ (by omega), eI _ _ (by omega)]
  exact q
theorem pImp_u {h : pm_H} {l : List tImp} {a : tImp} (c : cR (pImp m) h l) : cR (pImp m) (upI h m l.length a) (l ++ [a]) := by
  refine cR_app c (fun i x hi q => ?_) (fun hi => ?_)
  · unfold upI
    split
    · unfold pImp at q ⊢
      simp (disch := omega) only [ev_II, ev_IL, ev_LI, ev_LL, b_eqf, if_false, ite_self]
      exact q
    · exact q
  · unfold upI
    rw [if_pos hi]
    unfold pImp
    simp (disch := omega) only [ev_II, ev_IL, ev_LI, ev_LL, b_eqf, if_false, if_true]
    exact ⟨trivial, trivial, trivial, trivial, trivial⟩
theorem q_imp_2 (f q : Int32) {c k p : Nat} {h : pm_H} {F : pm_H → Prop} {R : List tImp → Nat → pm_H → Prop} {o : sp_O (List tImp)} (C : mC h n b m eo el e d B) (hc : c < 4294967296) (hk : k < c) (a : tImp) (hg : a.2.2.2.2 ≤ 1) (e7 : pm_L h 592 17 = Int64.ofNat a.2.2.1) (e8 : pm_L h 592 18 = a.2.2.2.1) (next : ms_Q F R (pm_lim sX16_readsImports (.inl (592, Int64.ofNat c, Int64.ofNat (k + 1), rm (upI h m k a) (Int32.ofNat p) f q))) o) : ms_Q F R (pm_lim sX16_readsImports (.inr (592, Int64.ofNat c, Int64.ofNat k, Int32.ofNat a.1, Int64.ofNat a.2.1, Int32.ofNat a.2.2.2.2, rm h (Int32.ofNat p) f q))) o := by
  obtain ⟨S, X, P, Z, ie, he, hd⟩ := id C
  have hm : 648 < m := mC_m C
  have k16 := S.1
  have rr := S.2.1
  have km := S.2.2.1
  obtain ⟨r9, k9, l9⟩ := mP_9 P
  obtain ⟨r10, k10, l10⟩ := mP_10 P
  obtain ⟨r11, k11, l11⟩ := mP_11 P
  obtain ⟨r12, k12, l12⟩ := mP_12 P
  obtain ⟨r13, k13, l13⟩ := mP_13 P
  have k1 : Int64.ofNat k + 1 = Int64.ofNat (k + 1) := ll_ad k 1
  refine s_w (aX16_readsImports_1 ..) ?_
  unfold tX16_readsImports_125
  by_cases k6 : k < 64
  · have kc : (Int64.ofNat k).toInt32.toNatClampNeg = k := by rw [ll_t3, nn_cm (by omega)]
    have ki : ∀ ln, ln = 64 → pm_in (Int64.ofNat k).toInt32 ln := fun ln z => by rw [ll_t3, nn_in (by omega)]; omega
    refine s_f (show ¬ (64 : Int64) ≤ Int64.ofNat k by rw [n6_64, ll_le (by omega) (by omega)]; omega) ?_
    refine s_t k16 (s_b rr (s_t km (s_b r9 (s_t k9 (s_t (ki _ l9) (s_b r10 (s_t k10 (s_t (ki _ l10) (s_b r11 (s_l (s_t k11 (s_t (ki _ l11) (s_b r12 (s_l (s_t k12 (s_t (ki _ l12) (s_b r13 (s_t k13 (s_t (ki _ l13) (s_l (s_n ?_)))))))))))))))))))))
    rw [kc, k1]
    have hv : (vp_nar .boolean (Int32.ofNat a.2.2.2.2)) = Int32.ofNat a.2.2.2.2 := vp_b01 hg
    rw [hv]
    unfold upI at next
    rw [if_pos k6, ← e7, ← e8] at next
    have m1 : m + 5 ≠ 592 := by omega
    have m5 : m + 9 ≠ 592 := by omega
    simp (disch := omega) only [ev_LL, ev_LI, r_L, b_eqf, if_false]
    rw [rm_a _ _ _ _ _ m1, rm_sL, rm_sL, rm_sL, rm_a _ _ _ _ _ m5]
    exact next
  · refine s_t (show (64 : Int64) ≤ Int64.ofNat k by rw [n6_64, ll_le (by omega) (by omega)]; omega) (s_l (s_n ?_))
    unfold upI at next
    rw [if_neg k6] at next
    rw [k1]
    exact next
/-- heaps that are as h but for 16, 17, 18 of the reference -/
theorem mC_16 {h : pm_H} (C : mC h n b m eo el e d B) (v : Int32) : mC (pm_setI h 592 16 v) n b m eo el e d B ∧ yF m eo el h (pm_setI h 592 16 v) := by
  have hm : 648 < m := mC_m C
  have F : yF m eo el h (pm_setI h 592 16 v) := yF_I h hm (by omega)
  exact ⟨mC_F C F, F⟩
theorem mC_L {h : pm_H} (C : mC h n b m eo el e d B) {y : Nat} (hy : y = 17 ∨ y = 18) (v : Int64) : mC (pm_setL h 592 y v) n b m eo el e d B ∧ yF m eo el h (pm_setL h 592 y v) := by
  have hm : 648 < m := mC_m C
  have F : yF m eo el h (pm_setL h 592 y v) := yF_L h hm (by omega)
  exact ⟨mC_F C F, F⟩
theorem ms_name' {h : pm_H} {p : Nat} (C : mC h n b m eo el e d B) (hp : p ≤ e) (f q : Int32) : ms_Q (fun h' => yF m eo el h h') (fun p1 p' r => r = rm (pm_setI h 592 16 (Int32.ofNat p1)) (Int32.ofNat p') f q ∧ p < p' ∧ p' ≤ e ∧ p1 ≤ p') (fX16_name (rm h (Int32.ofNat p) f q) 592) (sp_name B e p) := by
  refine q_w (ms_name C.1 C.2.2.2.2.1 C.2.2.2.2.2.1 hp f q) (fun h' z => ?_) (fun v p' r e1 er => ?_)
  · rcases z with z | ⟨v, z⟩
    · rw [z]; exact yF_r m eo el h
    · rw [z]; exact (mC_16 C v).2
  · have b := sp_name_b hp e1
    exact ⟨er, by omega, b.2.2, by omega⟩
theorem q_imp (f q : Int32) {c : Nat} (hc : c < 4294967296) (k p : Nat) (h : pm_H) (l : List tImp) (F : pm_H → Prop) (R : List tImp → Nat → pm_H → Prop) (o' : tImp → Nat → sp_O (List tImp)) (hk : k < c) (C : mC h n b m eo el e d B) (hp : p ≤ e) (hl : l.length = k) (cn : cR (pImp m) h l) (hF : ∀ h', yF m eo el h h' → F h') (next : ∀ a p' h', sp_imp B e p = .inr (a, p') → gF (i2I m) (i2L m) h h' → cR (pImp m) h' (l ++ [a]) → p < p' → p' ≤ e → ms_Q F R (pm_lim sX16_readsImports (.inl (592, Int64.ofNat c, Int64.ofNat (k + 1), rm h' (Int32.ofNat p') f q))) (o' a p')) : ms_Q F R (pm_lim sX16_readsImports (.inl (592, Int64.ofNat c, Int64.ofNat k, rm h (Int32.ofNat p) f q))) (sp_b (sp_imp B e p) o') := by
  have hm : 648 < m := mC_m C
  have K : pm_kd h 592 = 16 := C.1.1
  have hb := C.1.2.2.2.2.2.2.2.2.2
  have fin : ∀ (h3 : pm_H) (a : tImp) (p' : Nat), mC h3 n b m eo el e d B → a.2.2.2.2 ≤ 1 → sp_imp B e p = .inr (a, p') → gF (i2I m) (i2L m) h h3 → (∀ x y, x ≠ 592 → pm_I h3 x y = pm_I h x y) → (∀ x y, x ≠ 592 → pm_L h3 x y = pm_L h x y) → pm_L h3 592 17 = Int64.ofNat a.2.2.1 → pm_L h3 592 18 = a.2.2.2.1 → p < p' → p' ≤ e → ms_Q F R (pm_lim sX16_readsImports (.inr (592, Int64.ofNat c, Int64.ofNat k, Int32.ofNat a.1, Int64.ofNat a.2.1, Int32.ofNat a.2.2.2.2, rm h3 (Int32.ofNat p') f q))) (o' a p') := by
    intro h3 a p' C3 hg e1 y3 eI eL e7 e8 b1 b2
    refine q_imp_2 f q C3 hc hk a hg e7 e8 (next a p' _ e1 (gF_t y3 (upI_F k a)) ?_ b1 b2)
    rw [← hl]
    exact pImp_u (fun i x z hi => pImp_k hm eI eL i x (cn i x z hi))
  refine s_w (aX16_readsImports_0 ..) ?_
  unfold tX16_readsImports_19
  refine s_f (show ¬ Int64.ofNat c ≤ Int64.ofNat k by rw [ll_le (by omega) (by omega)]; omega) (s_t K ?_)
  unfold sp_imp at fin ⊢
  rw [sp_ba]
  refine s_c (ms_name' C hp f q) hF ?_
  rintro v1 p1 r e1 ⟨er, b1, b2, -⟩
  subst er
  obtain ⟨C1, y1⟩ := mC_16 C (Int32.ofNat v1)
  refine s_t K ?_
  rw [sp_ba]
  refine s_c (ms_name' C1 b2 f q) (fun h' y => hF h' (yF_t y1 y)) ?_
  rintro v2 p2 r e2 ⟨er, b3, b4, -⟩
  subst er
  obtain ⟨C2, y2⟩ := mC_16 C1 (Int32.ofNat v2)
  refine s_t K ?_
  rw [sp_ba]
  refine s_c (MR_Q (ms_small C2.1 C2.2.2.2.2.1 C2.2.2.2.2.2.1 b4 f q (t := 3) (by decide))) (fun h' z => by rw [z]; exact hF _ (yF_t y1 y2)) ?_
  intro v3 p3 r e3 er
  subst er
  obtain ⟨b5, b6⟩ := sp_byte_b b4 e3
  have v3l : v3 ≤ 3 := of_decide_eq_true b5.2.2.2
  obtain ⟨C3, y3⟩ := mC_L C2 (.inl rfl) 0
  obtain ⟨C4, y4⟩ := mC_L C3 (.inr rfl) (-1)
  have y04 := yF_t (yF_t y1 y2) (yF_t y3 y4)
  have g04 : gF (i2I m) (i2L m) h (pm_setL (pm_setL (pm_setI (pm_setI h 592 16 (Int32.ofNat v1)) 592 16 (Int32.ofNat v2)) 592 17 0) 592 18 (-1)) := gF_t (gF_t (gF_I _ _ (by unfold i2I; omega)) (gF_I _ _ (by unfold i2I; omega))) (gF_t (gF_L _ _ (by unfold i2L; omega)) (gF_L _ _ (by unfold i2L; omega)))
  have eI4 : ∀ x y, x ≠ 592 → pm_I (pm_setL (pm_setL (pm_setI (pm_setI h 592 16 (Int32.ofNat v1)) 592 16 (Int32.ofNat v2)) 592 17 0) 592 18 (-1)) x y = pm_I h x y := fun x y hx => by rw [ev_IL, ev_IL, ev_II, ev_II, if_neg hx, if_neg hx]
  have eL4 : ∀ x y, x ≠ 592 → pm_L (pm_setL (pm_setL (pm_setI (pm_setI h 592 16 (Int32.ofNat v1)) 592 16 (Int32.ofNat v2)) 592 17 0) 592 18 (-1)) x y = pm_L h x y := fun x y hx => by rw [ev_LL, ev_LL, if_neg hx, if_neg hx]; rfl
  rw [e1, sp_br, e2, sp_br, e3, sp_br] at fin
  refine s_t K ?_
  by_cases c0 : v3 = 0
  · rw [if_pos c0] at fin ⊢
    refine s_t (show Int32.ofNat v3 = 0 by rw [c0]; rfl) ?_
    rw [rm_sL, rm_sL, sp_ba]
    refine s_c (MR_Q (ms_num C4.1 C4.2.2.2.2.1 C4.2.2.2.2.2.1 b6 f q)) (fun h' z => by rw [z]; exact hF _ y04) ?_
    intro v4 p4 r e4 er
    subst er
    obtain ⟨b7, b8⟩ := sp_num_b b6 e4
    rw [e4, sp_br] at fin
    exact s_n (fin _ (v3, v4, 0, -1, 0) p4 C4 (Nat.zero_le _) rfl g04 eI4 eL4 rfl rfl (by omega) b8)
  · rw [if_neg c0] at fin ⊢
    refine s_f (show ¬ Int32.ofNat v3 = 0 by rw [n3_0, nn_eq (by omega) (by omega)]; exact c0) ?_
    by_cases c3 : v3 = 3
    · rw [if_pos c3] at fin ⊢
      refine s_t (show Int32.ofNat v3 = 3 by rw [c3]; rfl) ?_
      rw [rm_sL, rm_sL, sp_ba]
      refine s_c (MR_Q (ms_type C4.1 C4.2.2.2.2.1 C4.2.2.2.2.2.1 b6 f q)) (fun h' z => by rw [z]; exact hF _ y04) ?_
      intro v4 p4 r e4 er
      subst er
      obtain ⟨b7, b8⟩ := sp_byte_b b6 e4
      refine s_t K ?_
      rw [sp_ba]
      refine s_c (MR_Q (ms_small C4.1 C4.2.2.2.2.1 C4.2.2.2.2.2.1 b8 f q (t := 1) (by decide))) (fun h' z => by rw [z]; exact hF _ y04) ?_
      intro v5 p5 r e5 er
      subst er
      obtain ⟨b9, b10⟩ := sp_byte_b b8 e5
      have v5l : v5 ≤ 1 := of_decide_eq_true b9.2.2.2
      have t6 : (Int32.ofNat v4).toInt64 = Int64.ofNat v4 := nn_t6 (by have := hb p3; have := b7.2.2.1; omega)
      rw [e4, sp_br, e5, sp_br] at fin
      have g := fin _ (v3, v4, 0, -1, v5) p5 C4 v5l rfl g04 eI4 eL4 rfl rfl (by omega) b10
      by_cases c5 : v5 = 1
      · refine s_t (show Int32.ofNat v5 = 1 by rw [c5]; rfl) (s_n ?_)
        rw [t6]
        subst c5
        exact g
      · have c50 : v5 = 0 := by omega
        refine s_f (show ¬ Int32.ofNat v5 = 1 by rw [n3_1, nn_eq (by omega) (by omega)]; exact c5) (s_n ?_)
        rw [t6]
        subst c50
        exact g
    · rw [if_neg c3] at fin ⊢
      refine s_f (show ¬ Int32.ofNat v3 = 3 by rw [n3_3, nn_eq (by omega) (by omega)]; exact c3) ?_
      by_cases c1 : v3 = 1
      · rw [if_pos c1] at fin ⊢
        refine s_t (show Int32.ofNat v3 = 1 by rw [c1]; rfl) ?_
        rw [rm_sL, rm_sL, sp_ba]
        refine s_c (MR_Q (ms_ref C4.1 C4.2.2.2.2.1 C4.2.2.2.2.2.1 b6 f q)) (fun h' z => by rw [z]; exact hF _ y04) ?_
        intro v4 p4 r e4 er
        subst er
        obtain ⟨b7, b8⟩ := sp_byte_b b6 e4
        have t6 : (Int32.ofNat v4).toInt64 = Int64.ofNat v4 := nn_t6 (by have := hb p3; have := b7.2.2.1; omega)
        refine s_t K ?_
        rw [sp_ba]
        refine s_c (ms_lim C4 b8 f q) (fun h' z => hF _ (yF_t y04 z)) ?_
        rintro v5 p5 r e5 ⟨er, -, b9, b10⟩
        subst er
        obtain ⟨C5, y5⟩ := mC_L C4 (.inl rfl) (Int64.ofNat v5.1)
        obtain ⟨C6, y6⟩ := mC_L C5 (.inr rfl) v5.2
        rw [e4, sp_br, e5, sp_br] at fin
        have g := fin _ (v3, v4, v5.1, v5.2, 0) p5 C6 (Nat.zero_le _) rfl (gF_t g04 (gF_t (gF_L _ _ (by unfold i2L; omega)) (gF_L _ _ (by unfold i2L; omega)))) (fun x y hx => by rw [ev_IL, ev_IL]; exact eI4 x y hx) (fun x y hx => by rw [ev_LL, if_neg hx, ev_LL, if_neg hx]; exact eL4 x y hx) rfl rfl (by omega) b10
        refine s_n ?_
        rw [t6]
        exact g
      · rw [if_neg c1] at fin ⊢
        refine s_f (show ¬ Int32.ofNat v3 = 1 by rw [n3_1, nn_eq (by omega) (by omega)]; exact c1) ?_
        rw [rm_sL, rm_sL, sp_ba]
        refine s_c (ms_lim C4 b6 f q) (fun h' z => hF _ (yF_t y04 z)) ?_
        rintro v5 p5 r e5 ⟨er, -, b9, b10⟩
        subst er
        obtain ⟨C5, y5⟩ := mC_L C4 (.inl rfl) (Int64.ofNat v5.1)
        obtain ⟨C6, y6⟩ := mC_L C5 (.inr rfl) v5.2
        rw [e5, sp_br] at fin
        exact s_n (fin _ (v3, 0, v5.1, v5.2, 0) p5 C6 (Nat.zero_le _) rfl (gF_t g04 (gF_t (gF_L _ _ (by unfold i2L; omega)) (gF_L _ _ (by unfold i2L; omega)))) (fun x y hx => by rw [ev_IL, ev_IL]; exact eI4 x y hx) (fun x y hx => by rw [ev_LL, if_neg hx, ev_LL, if_neg hx]; exact eL4 x y hx) rfl rfl (by omega) b10)
/-- how many there are, as the plan keeps it: pSc the plan's field -/
def sp_imps (B : Nat → Nat) (e p : Nat) : sp_O (List tImp) := sp_b (sp_num B e p) fun c p1 => sp_rows (sp_imp B e) c p1
end MIMP
