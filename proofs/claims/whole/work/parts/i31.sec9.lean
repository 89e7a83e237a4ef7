/-! THE REFERENCE READS: section 6 whole, section 9 by rules -/
theorem q_rowsC {σ α ρ : Type} {s : σ → Option (σ ⊕ ((Nat × pm_H) ⊕ ρ))} {n b m eo el e : Nat} {d : Bool} {B : Nat → Nat} {f q : Int32} {st : Nat → pm_H → σ} {row : Nat → sp_O α} {Cn : pm_H → List α → Nat → Prop} {AI AL : Nat → Nat → Nat → Prop} {c : Nat} {fin : pm_H → ρ} (mI : ∀ p p1 x y, p ≤ p1 → AI p1 x y → AI p x y) (mL : ∀ p p1 x y, p ≤ p1 → AL p1 x y → AL p x y) (ay : ∀ p h h', mC h n b m eo el e d B → gF (AI p) (AL p) h h' → yF m eo el h h') (done : ∀ h p, mC h n b m eo el e d B → pm_lim s (st c (rm h p f q)) = some (.inr (fin (rm h p f q))))
    (step : ∀ (k p : Nat) (h : pm_H) (l : List α) (F : pm_H → Prop) (R : List α → Nat → ρ → Prop) (o' : α → Nat → sp_O (List α)), k < c → mC h n b m eo el e d B → p ≤ e → l.length = k → Cn h l p → (∀ h', yF m eo el h h' → F h') → (∀ a p' h', row p = .inr (a, p') → gF (AI p) (AL p) h h' → Cn h' (l ++ [a]) p' → p < p' → p' ≤ e → ms_Q F R (pm_lim s (st (k + 1) (rm h' (Int32.ofNat p') f q))) (o' a p')) → ms_Q F R (pm_lim s (st k (rm h (Int32.ofNat p) f q))) (sp_b (row p) o')) :
    ∀ (j k p : Nat) (h : pm_H) (l : List α), k + j = c → mC h n b m eo el e d B → p ≤ e → l.length = k → Cn h l p → ms_Q (fun h' => yF m eo el h h') (fun l' p' r => ∃ h', r = fin (rm h' (Int32.ofNat p') f q) ∧ gF (AI p) (AL p) h h' ∧ Cn h' (l ++ l') p' ∧ l'.length = j ∧ p ≤ p' ∧ p' ≤ e) (pm_lim s (st k (rm h (Int32.ofNat p) f q))) (sp_rows row j p) := by
  intro j
  induction j with
  | zero =>
    intro k p h l hk C hp hl cn
    rw [show k = c by omega, done h _ C]
    exact q_r ⟨h, rfl, gF_r _ _ h, by rw [List.append_nil]; exact cn, rfl, Nat.le_refl _, hp⟩
  | succ j ih =>
    intro k p h l hk C hp hl cn
    unfold sp_rows
    refine step k p h l _ _ _ (by omega) C hp hl cn (fun h' y => y) (fun a p' h' e1 g cn' hp1 hp2 => ?_)
    have y := ay p h h' C g
    refine q_cl (ih (k + 1) p' h' (l ++ [a]) (by omega) (mC_F C y) hp2 (by rw [List.length_append, hl]; rfl) cn') (fun h2 y2 => yF_t y y2) ?_
    rintro v p2 r e2 ⟨h2, er, g2, cn2, ln, hp3, hp4⟩
    exact q_r ⟨h2, er, gF_t g (gF_m g2 (fun x z w => mI p p' x z (by omega) w) (fun x z w => mL p p' x z (by omega) w)), by rw [List.append_assoc] at cn2; exact cn2, by rw [List.length_cons, ln], by omega, hp4⟩
theorem kp_g {AI AL : Nat → Nat → Prop} {h : pm_H} {m c : Nat} (z : AI m 3) : gF AI AL h (kp h m c) := by
  unfold kp
  split
  · exact gF_r _ _ _
  · unfold xc
    split
    · exact gF_r _ _ _
    · exact gF_I _ _ z
def hGlI (m eo el p x y : Nat) : Prop := rGlI m eo el p x y ∨ (x = m ∧ y = 24)
def sp_glS (B : Nat → Nat) (e : Nat) (d : Bool) (p : Nat) : sp_O (List tGl) := sp_b (sp_num B e p) fun c p1 => sp_rows (sp_gl B e d) c p1
theorem ep_m {m eo el p p1 x y : Nat} (hp : p ≤ p1) (z : epI m eo el p1 x y) : epI m eo el p x y := by unfold epI at z ⊢; omega
theorem rGl_m {m eo el p p1 x y : Nat} (hp : p ≤ p1) (z : rGlI m eo el p1 x y) : rGlI m eo el p x y := z.elim (fun z => .inl (ep_m hp z)) .inr
section MG6
variable {n b m eo el e : Nat} {B : Nat → Nat} {d : Bool}
theorem hGl_y {h h' : pm_H} {p : Nat} (C : mC h n b m eo el e d B) (g : gF (hGlI m eo el p) trL h h') : yF m eo el h h' := gF_y (mC_m C) (mC_eo C) (mC_el C) (gF_m g (fun x y z => by unfold hGlI rGlI epI sGlI at z; unfold yI; omega) (fun x y z => z.elim))
theorem ms_hGl {h : pm_H} {p : Nat} (C : mC h n b m eo el e d B) (E : mE h n el p) (hp : p ≤ e) (f q : Int32) : ms_Q (fun h' => yF m eo el h h') (fun l p' r => ∃ h', r = rm h' (Int32.ofNat p') f q ∧ gF (hGlI m eo el p) trL h h' ∧ cR (pGl m) h' l ∧ mE h' n el p' ∧ pm_I h' m 24 = Int32.ofNat (k64 l.length) ∧ pm_I h' m 3 = xv (pm_I h m 3) (pm_I h 592 13) (decide (64 < l.length)) ∧ l.length < 4294967296 ∧ p < p' ∧ p' ≤ e) (fX16_readsGlobals (rm h (Int32.ofNat p) f q) 592) (sp_glS B e d p) := by
  have hm : 648 < m := mC_m C
  have hl := mC_el C
  obtain ⟨d1, d2, d3⟩ := mC_d C
  obtain ⟨s1, s2⟩ := mC_s C
  have K : pm_kd h 592 = 16 := C.1.1
  have rr := C.1.2.1
  have km := C.1.2.2.1
  have hb := C.1.2.2.2.2.2.2.2.2.2
  unfold fX16_readsGlobals sp_glS
  refine q_t K (q_c (MR_Q (ms_num C.1 C.2.2.2.2.1 C.2.2.2.2.2.1 hp f q)) (fun h' z => by rw [z]; exact yF_r m eo el h) ?_)
  intro v1 p1 r e1 er
  subst er
  obtain ⟨b1, hp1⟩ := sp_num_b hp e1
  have nv := sp_num_v hb e1
  refine q_t K (q_b rr ?_)
  refine q_b (ms_kept C.1 nv _ f q) (q_t (show pm_kd (kp h m v1) m = 14 by rw [(kp_x h m eo el v1).2.1]; exact km) ?_)
  have m5 : m ≠ 592 := by omega
  have g1 : gF (hGlI m eo el p) trL h (pm_setI (kp h m v1) m 24 (Int32.ofNat (k64 v1))) := gF_t (kp_g (by unfold hGlI rGlI epI; omega)) (gF_I _ _ (by unfold hGlI; omega))
  have y1 := hGl_y C g1
  rw [rm_a _ _ _ _ _ m5]
  have i3 : pm_I (pm_setI (kp h m v1) m 24 (Int32.ofNat (k64 v1))) m 3 = xv (pm_I h m 3) (pm_I h 592 13) (decide (64 < v1)) := by rw [ev_II, if_pos rfl, if_neg (by decide)]; exact kp_xv h m v1
  have E1 : mE (pm_setI (kp h m v1) m 24 (Int32.ofNat (k64 v1))) n el p1 := mE_k (mE_m E (by omega)) (fun y => by
    rw [ev_II, if_neg (fun z => d3 z.symm)]
    exact (kp_g (AI := fun x y => x = m ∧ y = 3) (AL := trL) (h := h) (m := m) (c := v1) ⟨rfl, rfl⟩).2.2.2.2.1 el y (fun z => d3 z.1.symm))
  have L := q_rowsP (s := sX16_readsGlobals) (f := f) (q := q) (st := fun k H => .inl (592, Int64.ofNat v1, Int64.ofNat k, H)) (row := sp_gl B e d) (Cn := fun h' l p => cGl m n el (xv (pm_I h m 3) (pm_I h 592 13) (decide (64 < v1))) h' l p) (AI := fun p => rGlI m eo el p) (AL := fun _ => trL) (c := v1) (fin := fun H => H) (fun p p1 x y z w => rGl_m z w) (fun p p1 x y z w => w) (fun p h h' C g => hGl_y C (gF_m g (fun x y z => .inl z) (fun x y z => z))) (fun H => by rw [ev_lm, aX16_readsGlobals_0]; unfold tX16_readsGlobals_19; rw [if_pos (Int64.le_refl _)]; rfl) (fun k p h l F R o' hk C hp hl cn hF next => q_gl f q nv k p h l F R o' hk C hp hl cn hF next) v1 0 p1 _ [] (Nat.zero_add _) (mC_F C y1) hp1 rfl ⟨cR_0 _ _, E1, i3⟩
  refine q_w L (fun h' y => yF_t y1 y) ?_
  rintro l p2 r e2 ⟨h', er, g2, cn, ln, hp2, hp3⟩
  refine ⟨h', er, gF_t g1 (gF_m g2 (fun x y z => .inl (rGl_m (by omega) z)) (fun x y z => z)), cn.1, cn.2.1, ?_, ?_, by rw [ln]; exact nv, by omega, hp3⟩
  · rw [g2.2.2.2.2.1 m 24 (by unfold rGlI epI sGlI; omega), ev_II, if_pos rfl, if_pos rfl, ln]
  · rw [cn.2.2, ln]
end MG6
/-- section 9: mode, table, place; type, how many, where the items are -/
def sp_elA (B : Nat → Nat) (e : Nat) (d : Bool) (mm p : Nat) : sp_O (Nat × Nat × Nat) := if mm % 2 = 0 then (if mm / 2 % 2 = 0 then sp_b (sp_ex B e d false (e + 1) [] p) fun _ p1 => .inr ((0, 0, p), p1) else sp_b (sp_num B e p) fun t p1 => sp_b (sp_ex B e d false (e + 1) [] p1) fun _ p2 => .inr ((0, t, p1), p2)) else .inr ((if mm / 2 % 2 = 0 then 1 else 2, 0, p), p)
def sp_elB (B : Nat → Nat) (e mm p : Nat) : sp_O (Nat × Nat × Nat) := if mm = 0 ∨ mm = 4 then sp_b (sp_num B e p) fun c p1 => .inr ((112, c, p1), p1) else if mm / 4 % 2 = 0 then sp_b (sp_byte (fun c => decide (c ≤ 0)) 7 B e p) fun _ p1 => sp_b (sp_num B e p1) fun c p2 => .inr ((112, c, p2), p2) else sp_b (sp_byte sp_isR 8 B e p) fun t p1 => sp_b (sp_num B e p1) fun c p2 => .inr ((t, c, p2), p2)
def sp_it (B : Nat → Nat) (e : Nat) (d : Bool) (mm p : Nat) : sp_O Nat := if mm / 4 % 2 = 0 then sp_num B e p else sp_b (sp_ex B e d false (e + 1) [] p) fun _ p1 => .inr (0, p1)
/-- an element: m; mode, table, place; type, how many, where; its items -/
abbrev tEl : Type := Nat × (Nat × Nat × Nat) × (Nat × Nat × Nat) × List Nat
def sp_elm (B : Nat → Nat) (e : Nat) (d : Bool) (mm p : Nat) : sp_O tEl := sp_b (sp_elA B e d mm p) fun a p1 => sp_b (sp_elB B e mm p1) fun v p2 => sp_b (sp_rows (sp_it B e d mm) v.2.1 p2) fun l p3 => .inr ((mm, a, v, l), p3)
def pEl (m : Nat) (h : pm_H) (i : Nat) (a : tEl) : Prop := pm_I h (m + 23) i = Int32.ofNat a.2.1.1 ∧ pm_L h (m + 24) i = Int64.ofNat a.2.1.2.1 ∧ pm_I h (m + 25) i = Int32.ofNat a.2.1.2.2 ∧ pm_I h (m + 26) i = Int32.ofNat a.2.2.1.1 ∧ pm_I h (m + 27) i = Int32.ofNat (a.1 / 4 % 2) ∧ pm_I h (m + 28) i = Int32.ofNat a.2.2.1.2.1 ∧ pm_I h (m + 29) i = Int32.ofNat a.2.2.1.2.2
def elI (m eo el i p x y : Nat) : Prop := epI m eo el p x y ∨ (m + 23 ≤ x ∧ x ≤ m + 29 ∧ y = i)
def elL (m i x y : Nat) : Prop := x = m + 24 ∧ y = i
theorem el_b1 {mm : Nat} (h : mm < 8) : (Int32.ofNat mm &&& 1 = 0) = (mm % 2 = 0) := by
  rcases (show mm = 0 ∨ mm = 1 ∨ mm = 2 ∨ mm = 3 ∨ mm = 4 ∨ mm = 5 ∨ mm = 6 ∨ mm = 7 by omega) with z | z | z | z | z | z | z | z <;> subst z <;> exact propext (by decide)
theorem el_b2 {mm : Nat} (h : mm < 8) : (Int32.ofNat mm &&& 2 = 0) = (mm / 2 % 2 = 0) := by
  rcases (show mm = 0 ∨ mm = 1 ∨ mm = 2 ∨ mm = 3 ∨ mm = 4 ∨ mm = 5 ∨ mm = 6 ∨ mm = 7 by omega) with z | z | z | z | z | z | z | z <;> subst z <;> exact propext (by decide)
theorem el_b4 {mm : Nat} (h : mm < 8) : (Int32.ofNat mm &&& 4 = 0) = (mm / 4 % 2 = 0) := by
  rcases (show mm = 0 ∨ mm = 1 ∨ mm = 2 ∨ mm = 3 ∨ mm = 4 ∨ mm = 5 ∨ mm = 6 ∨ mm = 7 by omega) with z | z | z | z | z | z | z | z <;> subst z <;> exact propext (by decide)
theorem rows_len {α : Type} {row : Nat → sp_O α} (u : ∀ p v p', row p = .inr (v, p') → p < p') : ∀ (j p : Nat) (l : List α) (p' : Nat), sp_rows row j p = .inr (l, p') → p + j ≤ p' ∧ l.length = j
  | 0, p, l, p', q => by cases q; exact ⟨Nat.le_refl _, rfl⟩
  | j + 1, p, l, p', q => by
    unfold sp_rows at q
    obtain ⟨a, p1, e1, e2⟩ := b_inv q
    obtain ⟨l2, p2, e3, e4⟩ := b_inv e2
    cases e4
    have := u _ _ _ e1
    have z := rows_len u j p1 l2 _ e3
    exact ⟨by omega, by rw [List.length_cons, z.2]⟩
section MEL
variable {n b m eo el e : Nat} {B : Nat → Nat} {d : Bool}
theorem el_y {h h' : pm_H} {i p : Nat} (C : mC h n b m eo el e d B) (g : gF (elI m eo el i p) (elL m i) h h') : yF m eo el h h' := gF_y (mC_m C) (mC_eo C) (mC_el C) (gF_m g (fun x y z => by unfold elI epI at z; unfold yI; omega) (fun x y z => by unfold elL at z; unfold yL; omega))
theorem el_m {i p p1 x y : Nat} (hp : p ≤ p1) (z : elI m eo el i p1 x y) : elI m eo el i p x y := z.elim (fun z => .inl (ep_m hp z)) .inr
theorem up_it {mm : Nat} {p v p' : Nat} (hp : p ≤ e) (q : sp_it B e d mm p = .inr (v, p')) : p < p' ∧ p' ≤ e := by
  unfold sp_it at q
  split at q
  · exact sp_num_b hp q
  · obtain ⟨a, p1, e1, e2⟩ := b_inv q
    cases e2
    exact up_ex_lt e1
/-- the items, and how many there are -/
theorem ms_els {mm i c : Nat} (hmm : mm < 8) (hi : i < 64) (hc : c < 4294967296) {h : pm_H} {p : Nat} (C : mC h n b m eo el e d B) (E : mE h n el p) (hp : p ≤ e) (f q : Int32) : ms_Q (fun h' => yF m eo el h h') (fun l p' r => ∃ h', r = rm h' (Int32.ofNat p') f q ∧ gF (elI m eo el i p) (elL m i) h h' ∧ mE h' n el p' ∧ pm_I h' m 3 = pm_I h m 3 ∧ pm_I h' (m + 28) i = Int32.ofNat c ∧ (∀ x, m + 23 ≤ x → x ≤ m + 29 → x ≠ m + 28 → pm_I h' x i = pm_I h x i) ∧ (pm_L h' (m + 24) i = pm_L h (m + 24) i) ∧ l.length = c ∧ p ≤ p' ∧ p' ≤ e) (pm_lim sX16_readsElement (.inr (.inr (.inr (.inr (.inr (.inr (592, Int32.ofNat mm, Int32.ofNat i, Int64.ofNat c, 0, rm h (Int32.ofNat p) f q)))))))) (sp_rows (sp_it B e d mm) c p) := by
  have hm : 648 < m := mC_m C
  obtain ⟨d1, d2, d3⟩ := mC_d C
  obtain ⟨s1, s2⟩ := mC_s C
  have b4 := el_b4 hmm
  have m8 : m + 28 ≠ 592 := by omega
  have L := q_rowsC (n := n) (b := b) (m := m) (eo := eo) (el := el) (e := e) (d := d) (B := B) (s := sX16_readsElement) (f := f) (q := q) (st := fun k H => .inr (.inr (.inr (.inr (.inr (.inr (592, Int32.ofNat mm, Int32.ofNat i, Int64.ofNat c, Int64.ofNat k, H))))))) (row := sp_it B e d mm) (Cn := fun h' l p => mE h' n el p ∧ pm_I h' m 3 = pm_I h m 3) (AI := fun p => epI m eo el p) (AL := fun _ => trL) (c := c) (fin := fun H => pm_setI H (m + 28) i (Int64.ofNat c).toInt32) (fun p p1 x y z w => ep_m z w) (fun p p1 x y z w => w) (fun p h h' C g => el_y (i := i) C (gF_m g (fun x y z => .inl z) (fun x y z => z.elim))) (fun h a C => by
      obtain ⟨r40, k40, l40⟩ := mP_40 C.2.2.1
      rw [ev_lm, aX16_readsElement_6]
      unfold tX16_readsElement_180
      rw [if_pos (Int64.le_refl _), if_pos (show pm_kd (rm h a f q) 592 = 16 from C.1.1), show pm_R (rm h a f q) 592 10 = some m from C.1.2.1, r_bs, if_pos (show pm_kd (rm h a f q) m = 14 from C.1.2.2.1), show pm_R (rm h a f q) m 40 = some (m + 28) from r40, r_bs, if_pos (show pm_kd (rm h a f q) (m + 28) = 34 from k40), if_pos (show pm_in (Int32.ofNat i) (pm_ln (rm h a f q) (m + 28)) by rw [nn_in (by omega), r_ln, l40]; exact hi), nn_cm (by omega)]
      rfl) (fun k p h1 l F R o' hk C hp hl cn hF next => by
      have K : pm_kd h1 592 = 16 := C.1.1
      have k1 : Int64.ofNat k + 1 = Int64.ofNat (k + 1) := ll_ad k 1
      refine s_w (aX16_readsElement_6 ..) ?_
      unfold tX16_readsElement_180
      refine s_f (show ¬ Int64.ofNat c ≤ Int64.ofNat k by rw [ll_le (by omega) (by omega)]; omega) ?_
      unfold sp_it at next ⊢
      by_cases z4 : mm / 4 % 2 = 0
      · rw [if_pos z4] at next ⊢
        refine s_t (show Int32.ofNat mm &&& 4 = 0 by rw [b4]; exact z4) (s_t K ?_)
        refine s_c (MR_Q (ms_num C.1 C.2.2.2.2.1 C.2.2.2.2.2.1 hp f q)) (fun h' z => by rw [z]; exact hF _ (yF_r m eo el h1)) ?_
        intro v1 p1 r e1 er
        subst er
        obtain ⟨b1, hp1⟩ := sp_num_b hp e1
        refine s_l (s_n ?_)
        rw [k1]
        exact next v1 p1 h1 e1 (gF_r _ _ _) ⟨mE_m cn.1 (by omega), cn.2⟩ b1 hp1
      · rw [if_neg z4] at next ⊢
        refine s_f (show ¬ Int32.ofNat mm &&& 4 = 0 by rw [b4]; exact z4) (s_t K ?_)
        rw [sp_ba]
        refine s_c (ms_ex C cn.1 hp false f q) hF ?_
        rintro v3 p3 r e3 ⟨h3, er, g3, P3, E3, b3, hp3⟩
        subst er
        refine s_l (s_n ?_)
        rw [k1]
        rw [e3, sp_br] at next
        refine next 0 p3 h3 rfl (gF_m g3 (fun x y z => exI_ep (Nat.le_refl _) z) (fun x y z => z)) ⟨E3, ?_⟩ b3 hp3
        rw [P3.2.2.2.2.2.2.1, ex_nf e3]
        exact cn.2) c 0 p h [] (Nat.zero_add _) C hp rfl ⟨E, rfl⟩
  refine q_w L (fun h' y => y) ?_
  rintro l p2 r e2 ⟨h', er, g2, cn, ln, hp2, hp3⟩
  have w : ∀ x y, m + 23 ≤ x → x ≤ m + 29 → pm_I h' x y = pm_I h x y := fun x y h1 h2 => g2.2.2.2.2.1 x y (by unfold epI; omega)
  refine ⟨pm_setI h' (m + 28) i (Int32.ofNat c), by rw [er, ll_t3, rm_a _ _ _ _ _ m8], gF_t (gF_m g2 (fun x y z => .inl z) (fun x y z => z.elim)) (gF_I _ _ (by unfold elI; omega)), mE_k cn.1 (fun y => by rw [ev_II, if_neg (by omega)]), ?_, ?_, fun x h1 h2 h3 => ?_, ?_, ln, hp2, hp3⟩
  · rw [ev_II, if_neg (by omega)]; exact cn.2
  · rw [ev_II, if_pos rfl, if_pos rfl]
  · rw [ev_II, if_neg h3, w x i h1 h2]
  · exact g2.2.2.2.2.2 _ _ (fun z => z)
end MEL
