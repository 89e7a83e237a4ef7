/-! THE REFERENCE READS: section 1 by rules -/
theorem q_rowsG {σ α ρ : Type} {s : σ → Option (σ ⊕ ((Nat × pm_H) ⊕ ρ))} {n b m eo el e : Nat} {d : Bool} {B : Nat → Nat} {f q : Int32} {st : Nat → pm_H → σ} {row : Nat → sp_O α} {Cn : pm_H → List α → Prop} {AI AL : Nat → Nat → Prop} {c : Nat} {fin : pm_H → ρ} (ay : ∀ h h', mC h n b m eo el e d B → gF AI AL h h' → yF m eo el h h') (done : ∀ H, pm_lim s (st c H) = some (.inr (fin H)))
    (step : ∀ (k p : Nat) (h : pm_H) (l : List α) (F : pm_H → Prop) (R : List α → Nat → ρ → Prop) (o' : α → Nat → sp_O (List α)), k < c → mC h n b m eo el e d B → p ≤ e → l.length = k → Cn h l → (∀ h', yF m eo el h h' → F h') → (∀ a p' h', row p = .inr (a, p') → gF AI AL h h' → Cn h' (l ++ [a]) → p < p' → p' ≤ e → ms_Q F R (pm_lim s (st (k + 1) (rm h' (Int32.ofNat p') f q))) (o' a p')) → ms_Q F R (pm_lim s (st k (rm h (Int32.ofNat p) f q))) (sp_b (row p) o')) :
    ∀ (j k p : Nat) (h : pm_H) (l : List α), k + j = c → mC h n b m eo el e d B → p ≤ e → l.length = k → Cn h l → ms_Q (fun h' => yF m eo el h h') (fun l' p' r => ∃ h', r = fin (rm h' (Int32.ofNat p') f q) ∧ gF AI AL h h' ∧ Cn h' (l ++ l') ∧ l'.length = j ∧ p ≤ p' ∧ p' ≤ e) (pm_lim s (st k (rm h (Int32.ofNat p) f q))) (sp_rows row j p) := by
  intro j
  induction j with
  | zero =>
    intro k p h l hk C hp hl cn
    rw [show k = c by omega, done]
    exact q_r ⟨h, rfl, gF_r AI AL h, by rw [List.append_nil]; exact cn, rfl, Nat.le_refl _, hp⟩
  | succ j ih =>
    intro k p h l hk C hp hl cn
    unfold sp_rows
    refine step k p h l _ _ _ (by omega) C hp hl cn (fun h' y => y) (fun a p' h' e1 g cn' hp1 hp2 => ?_)
    have y := ay h h' C g
    refine q_cl (ih (k + 1) p' h' (l ++ [a]) (by omega) (mC_F C y) hp2 (by rw [List.length_append, hl]; rfl) cn') (fun h2 y2 => yF_t y y2) ?_
    rintro v p2 r e2 ⟨h2, er, g2, cn2, ln, hp3, hp4⟩
    exact q_r ⟨h2, er, gF_t g g2, by rw [List.append_assoc] at cn2; exact cn2, by rw [List.length_cons, ln], by omega, hp4⟩
/-- the limit's place: o so far, id the section's, b: it is exceeded -/
def xv (o id : Int32) (b : Bool) : Int32 := if b = true then (if 0 ≤ o then o else id) else o
theorem xv_or (o id : Int32) (a b : Bool) : xv (xv o id a) id b = xv o id (a || b) := by
  unfold xv
  by_cases c1 : 0 ≤ o <;> by_cases c2 : 0 ≤ id <;> cases a <;> cases b <;> simp [c1, c2]
theorem xv_f (o id : Int32) : xv o id false = o := rfl
theorem xc_xv (h : pm_H) (m : Nat) : pm_I (xc h m) m 3 = xv (pm_I h m 3) (pm_I h 592 13) true := by
  unfold xc xv
  rw [if_pos rfl]
  split
  · rfl
  · rw [ev_II, if_pos rfl, if_pos rfl]
theorem kp_xv (h : pm_H) (m c : Nat) : pm_I (kp h m c) m 3 = xv (pm_I h m 3) (pm_I h 592 13) (decide (64 < c)) := by
  unfold kp
  by_cases z : c ≤ 64
  · rw [if_pos z, decide_eq_false (by omega)]; rfl
  · rw [if_neg z, decide_eq_true (by omega)]; exact xc_xv h m
def sp_trL (B : Nat → Nat) (e p : Nat) : sp_O (List Nat) := sp_b (sp_num B e p) fun c p1 => sp_rows (sp_byte sp_isT 8 B e) c p1
def pRow (m : Nat) (h : pm_H) (t : Nat) (l : List Nat) : Prop := ∀ k x, l[k]? = some x → k < 16 → pm_I h (m + 4) (t + k) = Int32.ofNat x
def trI (m : Nat) (to : Option Nat) (x y : Nat) : Prop := (x = m ∧ y = 3) ∨ (x = m + 4 ∧ ∃ t, to = some t ∧ t ≤ y ∧ y < t + 16)
def tsI (m : Nat) (to : Option Nat) (x y : Nat) : Prop := x = m + 4 ∧ ∃ t, to = some t ∧ t ≤ y ∧ y < t + 16
def trL (_ _ : Nat) : Prop := False
theorem pRow_app {m : Nat} {h h' : pm_H} {t : Nat} {l : List Nat} {a : Nat} (c : pRow m h t l) (keep : ∀ y, y ≠ t + l.length → pm_I h' (m + 4) y = pm_I h (m + 4) y) (new : l.length < 16 → pm_I h' (m + 4) (t + l.length) = Int32.ofNat a) : pRow m h' t (l ++ [a]) := by
  intro i x e hi
  rcases Nat.lt_trichotomy i l.length with z | z | z
  · rw [List.getElem?_append_left z] at e
    rw [keep _ (by omega)]
    exact c i x e hi
  · subst z
    rw [List.getElem?_append_right (Nat.le_refl _), Nat.sub_self] at e
    cases e
    exact new hi
  · rw [List.getElem?_eq_none (by rw [List.length_append]; show l.length + 1 ≤ i; omega)] at e
    cases e
section MTY
variable {n b m eo el e : Nat} {B : Nat → Nat} {d : Bool}
theorem trI_y {h h' : pm_H} {to : Option Nat} (C : mC h n b m eo el e d B) (g : gF (trI m to) trL h h') : yF m eo el h h' := gF_y (mC_m C) (mC_eo C) (mC_el C) (gF_m g (fun x y z => by unfold trI at z; unfold yI; omega) (fun x y z => z.elim))
theorem q_tr (f q : Int32) {c : Nat} (hc : c < 4294967296) {to : Option Nat} (ht : ∀ t, to = some t → t + 16 ≤ 2048) (k p : Nat) (h : pm_H) (l : List Nat) (F : pm_H → Prop) (R : List Nat → Nat → (Int32 × pm_H) → Prop) (o' : Nat → Nat → sp_O (List Nat)) (hk : k < c) (C : mC h n b m eo el e d B) (hp : p ≤ e) (hl : l.length = k) (cn : ∀ t, to = some t → pRow m h t l) (hF : ∀ h', yF m eo el h h' → F h') (next : ∀ a p' h', sp_byte sp_isT 8 B e p = .inr (a, p') → gF (tsI m to) trL h h' → (∀ t, to = some t → pRow m h' t (l ++ [a])) → p < p' → p' ≤ e → ms_Q F R (pm_lim sX16_typeRow (592, toI to, Int64.ofNat c, Int64.ofNat (k + 1), rm h' (Int32.ofNat p') f q)) (o' a p')) : ms_Q F R (pm_lim sX16_typeRow (592, toI to, Int64.ofNat c, Int64.ofNat k, rm h (Int32.ofNat p) f q)) (sp_b (sp_byte sp_isT 8 B e p) o') := by
  have hm : 648 < m := mC_m C
  have K : pm_kd h 592 = 16 := C.1.1
  have rr := C.1.2.1
  have km := C.1.2.2.1
  have k1 : Int64.ofNat k + 1 = Int64.ofNat (k + 1) := ll_ad k 1
  obtain ⟨r7, k7, l7⟩ := mP_7 C.2.2.1
  refine s_w (aX16_typeRow_0 ..) ?_
  unfold tX16_typeRow_25
  refine s_f (show ¬ Int64.ofNat c ≤ Int64.ofNat k by rw [ll_le (by omega) (by omega)]; omega) (s_t K ?_)
  refine s_c (MR_Q (ms_type C.1 C.2.2.2.2.1 C.2.2.2.2.2.1 hp f q)) (fun h' z => by rw [z]; exact hF _ (yF_r m eo el h)) ?_
  intro v1 p1 r e1 er
  subst er
  obtain ⟨b1, hp1⟩ := sp_byte_b hp e1
  cases to with
  | none =>
    refine s_t (show toI none < 0 by decide) (s_l (s_n ?_))
    rw [k1]
    exact next v1 p1 h e1 (gF_r _ _ h) (fun t z => by cases z) (by omega) hp1
  | some t =>
    have ht := ht t rfl
    refine s_f (show ¬ Int32.ofNat t < 0 by rw [n3_0, nn_lt (by omega) (by omega)]; omega) ?_
    by_cases k6 : k < 16
    · refine s_f (show ¬ (16 : Int64) ≤ Int64.ofNat k by rw [n6_16, ll_le (by omega) (by omega)]; omega) ?_
      have ix : Int32.ofNat t + (Int64.ofNat k).toInt32 = Int32.ofNat (t + k) := by rw [ll_t3, nn_ad]
      have ic : (Int32.ofNat t + (Int64.ofNat k).toInt32).toNatClampNeg = t + k := by rw [ix, nn_cm (by omega)]
      refine s_t K (s_b rr (s_t km (s_b r7 (s_t k7 (s_t (show pm_in (Int32.ofNat t + (Int64.ofNat k).toInt32) (pm_ln (rm h (Int32.ofNat p1) f q) (m + 4)) by rw [ix, nn_in (by omega), r_ln, l7]; omega) (s_l (s_n ?_)))))))
      show ms_Q F R (pm_lim sX16_typeRow (592, Int32.ofNat t, Int64.ofNat c, Int64.ofNat k + 1, pm_setI (rm h (Int32.ofNat p1) f q) (m + 4) ((Int32.ofNat t + (Int64.ofNat k).toInt32).toNatClampNeg) (Int32.ofNat v1))) (o' v1 p1)
      have m4 : m + 4 ≠ 592 := by omega
      rw [ic, k1, rm_a _ _ _ _ _ m4]
      refine next v1 p1 _ e1 (gF_I _ _ ⟨rfl, t, rfl, by omega, by omega⟩) (fun t' z => ?_) (by omega) hp1
      cases z
      refine pRow_app (cn t rfl) (fun y hy => ?_) (fun _ => ?_)
      · rw [ev_II, if_pos rfl, if_neg (by omega)]
      · rw [ev_II, if_pos rfl, if_pos (by omega)]
    · refine s_t (show (16 : Int64) ≤ Int64.ofNat k by rw [n6_16, ll_le (by omega) (by omega)]; omega) (s_l (s_n ?_))
      show ms_Q F R (pm_lim sX16_typeRow (592, Int32.ofNat t, Int64.ofNat c, Int64.ofNat k + 1, rm h (Int32.ofNat p1) f q)) (o' v1 p1)
      rw [k1]
      refine next v1 p1 h e1 (gF_r _ _ h) (fun t' z => ?_) (by omega) hp1
      cases z
      exact pRow_app (cn t rfl) (fun y hy => rfl) (fun z => by omega)
theorem ms_tr {h : pm_H} {p : Nat} (C : mC h n b m eo el e d B) (hp : p ≤ e) (f q : Int32) {to : Option Nat} (ht : ∀ t, to = some t → t + 16 ≤ 2048) : ms_Q (fun h' => yF m eo el h h') (fun l p' r => ∃ h', r = (Int32.ofNat (m16 l.length), rm h' (Int32.ofNat p') f q) ∧ gF (trI m to) trL h h' ∧ (∀ t, to = some t → pRow m h' t l) ∧ pm_I h' m 3 = xv (pm_I h m 3) (pm_I h 592 13) (decide (16 < l.length)) ∧ p < p' ∧ p' ≤ e) (fX16_typeRow (rm h (Int32.ofNat p) f q) 592 (toI to)) (sp_trL B e p) := by
  have hm : 648 < m := mC_m C
  have K : pm_kd h 592 = 16 := C.1.1
  have hb := C.1.2.2.2.2.2.2.2.2.2
  unfold fX16_typeRow sp_trL
  refine q_t K (q_c (MR_Q (ms_num C.1 C.2.2.2.2.1 C.2.2.2.2.2.1 hp f q)) (fun h' z => by rw [z]; exact yF_r m eo el h) ?_)
  intro v1 p1 r e1 er
  subst er
  obtain ⟨b1, hp1⟩ := sp_num_b hp e1
  have nv := sp_num_v hb e1
  have main : ∀ h1 : pm_H, gF (trI m to) trL h h1 → pm_I h1 m 3 = xv (pm_I h m 3) (pm_I h 592 13) (decide (16 < v1)) → ms_Q (fun h' => yF m eo el h h') (fun l p' r => ∃ h', r = (Int32.ofNat (m16 l.length), rm h' (Int32.ofNat p') f q) ∧ gF (trI m to) trL h h' ∧ (∀ t, to = some t → pRow m h' t l) ∧ pm_I h' m 3 = xv (pm_I h m 3) (pm_I h 592 13) (decide (16 < l.length)) ∧ p < p' ∧ p' ≤ e) (pm_lim sX16_typeRow (592, toI to, Int64.ofNat v1, 0, rm h1 (Int32.ofNat p1) f q)) (sp_rows (sp_byte sp_isT 8 B e) v1 p1) := by
    intro h1 g1 i1
    have y1 := trI_y C g1
    have L := q_rowsG (s := sX16_typeRow) (f := f) (q := q) (st := fun k H => (592, toI to, Int64.ofNat v1, Int64.ofNat k, H)) (row := sp_byte sp_isT 8 B e) (Cn := fun h l => ∀ t, to = some t → pRow m h t l) (AI := tsI m to) (AL := trL) (c := v1) (fin := fun H => (Int32.ofNat (m16 v1), H)) (fun h h' C g => trI_y (to := to) C (gF_m g (fun x y z => .inr z) (fun x y z => z))) (fun H => by
        rw [ev_lm, aX16_typeRow_0]
        unfold tX16_typeRow_25 m16
        rw [if_pos (Int64.le_refl _)]
        by_cases z : v1 ≤ 16
        · rw [if_pos (show Int64.ofNat v1 ≤ 16 by rw [n6_16, ll_le (by omega) (by omega)]; exact z), if_pos z, ll_t3]; rfl
        · rw [if_neg (show ¬ Int64.ofNat v1 ≤ 16 by rw [n6_16, ll_le (by omega) (by omega)]; exact z), if_neg z]; rfl) (fun k p h l F R o' hk C hp hl cn hF next => q_tr f q nv ht k p h l F R o' hk C hp hl cn hF next) v1 0 p1 h1 [] (Nat.zero_add _) (mC_F C y1) hp1 rfl (fun t z i x q => by cases i <;> cases q)
    refine q_w L (fun h' y => yF_t y1 y) ?_
    rintro l p2 r e2 ⟨h', er, g2, cn, ln, hp2, hp3⟩
    refine ⟨h', by rw [er, ln], gF_t g1 (gF_m g2 (fun x y z => .inr z) (fun x y z => z)), cn, ?_, by omega, hp3⟩
    rw [g2.2.2.2.2.1 m 3 (fun z => by unfold tsI at z; omega), i1, ln]
  by_cases z : v1 ≤ 16
  · refine q_t (show Int64.ofNat v1 ≤ 16 by rw [n6_16, ll_le (by omega) (by omega)]; exact z) (q_t K (q_b (ms_exc0 _) ?_))
    exact main h (gF_r _ _ h) (by rw [decide_eq_false (by omega)]; rfl)
  · refine q_f (show ¬ Int64.ofNat v1 ≤ 16 by rw [n6_16, ll_le (by omega) (by omega)]; exact z) (q_t K (q_b (ms_exc C.1 _ f q) ?_))
    refine main (xc h m) ?_ (by rw [decide_eq_true (by omega)]; exact xc_xv h m)
    unfold xc
    split
    · exact gF_r _ _ h
    · exact gF_I _ _ (.inl ⟨rfl, rfl⟩)
end MTY
