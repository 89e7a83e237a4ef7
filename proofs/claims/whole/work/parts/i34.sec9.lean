/-! THE REFERENCE READS: section 9 whole -/
def sp_el (B : Nat → Nat) (e : Nat) (d : Bool) (p : Nat) : sp_O tEl := sp_b (sp_num B e p) fun mm p1 => if 7 < mm then .inl (7, p) else sp_elm B e d mm p1
def sp_elS (B : Nat → Nat) (e : Nat) (d : Bool) (p : Nat) : sp_O (List tEl) := sp_b (sp_num B e p) fun c p1 => sp_rows (sp_el B e d) c p1
def rElI (m eo el p x y : Nat) : Prop := epI m eo el p x y ∨ (m + 23 ≤ x ∧ x ≤ m + 29)
def rElL (m x _ : Nat) : Prop := x = m + 24
def hElI (m eo el p x y : Nat) : Prop := rElI m eo el p x y ∨ (x = m ∧ y = 34)
def cEl (c m n el : Nat) (o : Int32) (h : pm_H) (l : List tEl) (p : Nat) : Prop := (c ≤ 64 → cR (pEl m) h l) ∧ mE h n el p ∧ pm_I h m 3 = o
theorem rEl_m {m eo el p p1 x y : Nat} (hp : p ≤ p1) (z : rElI m eo el p1 x y) : rElI m eo el p x y := z.elim (fun z => .inl (ep_m hp z)) .inr
section MEL
variable {n b m eo el e : Nat} {B : Nat → Nat} {d : Bool}
theorem hEl_y {h h' : pm_H} {p : Nat} (C : mC h n b m eo el e d B) (g : gF (hElI m eo el p) (rElL m) h h') : yF m eo el h h' := gF_y (mC_m C) (mC_eo C) (mC_el C) (gF_m g (fun x y z => by unfold hElI rElI epI at z; unfold yI; omega) (fun x y z => by unfold rElL at z; unfold yL; omega))
theorem q_el (f q : Int32) {c : Nat} (hc : c < 4294967296) {o : Int32} (k p : Nat) (h : pm_H) (l : List tEl) (F : pm_H → Prop) (R : List tEl → Nat → pm_H → Prop) (o' : tEl → Nat → sp_O (List tEl)) (hk : k < c) (C : mC h n b m eo el e d B) (hp : p ≤ e) (hl : l.length = k) (cn : cEl c m n el o h l p) (hF : ∀ h', yF m eo el h h' → F h') (next : ∀ a p' h', sp_el B e d p = .inr (a, p') → gF (rElI m eo el p) (rElL m) h h' → cEl c m n el o h' (l ++ [a]) p' → p < p' → p' ≤ e → ms_Q F R (pm_lim sX16_readsElements (.inl (592, Int64.ofNat c, Int64.ofNat (k + 1), rm h' (Int32.ofNat p') f q))) (o' a p')) : ms_Q F R (pm_lim sX16_readsElements (.inl (592, Int64.ofNat c, Int64.ofNat k, rm h (Int32.ofNat p) f q))) (sp_b (sp_el B e d p) o') := by
  have hm : 648 < m := mC_m C
  obtain ⟨d1, d2, d3⟩ := mC_d C
  obtain ⟨s1, s2⟩ := mC_s C
  have K : pm_kd h 592 = 16 := C.1.1
  have k1 : Int64.ofNat k + 1 = Int64.ofNat (k + 1) := ll_ad k 1
  obtain ⟨cn1, cn2, cn3⟩ := cn
  refine s_w (aX16_readsElements_0 ..) ?_
  unfold tX16_readsElements_19
  refine s_f (show ¬ Int64.ofNat c ≤ Int64.ofNat k by rw [ll_le (by omega) (by omega)]; omega) (s_t K (s_l ?_))
  unfold sp_el at next ⊢
  rw [sp_ba]
  refine s_c (MR_Q (ms_num C.1 C.2.2.2.2.1 C.2.2.2.2.2.1 hp f q)) (fun h' z => by rw [z]; exact hF _ (yF_r m eo el h)) ?_
  intro mm p1 r e1 er
  subst er
  have nv := sp_num_v C.1.2.2.2.2.2.2.2.2.2 e1
  obtain ⟨b1, hp1⟩ := sp_num_b hp e1
  rw [e1, sp_br] at next
  by_cases c7 : 7 < mm
  · rw [if_pos c7]
    refine s_f (show ¬ Int64.ofNat mm ≤ 7 by rw [n6_7, ll_le (by omega) (by omega)]; omega) (s_t K ?_)
    rw [sp_bl]
    exact q_stop (γ := Nat) C (hF h (yF_r m eo el h)) rfl rfl
  · rw [if_neg c7] at next ⊢
    refine s_t (show Int64.ofNat mm ≤ 7 by rw [n6_7, ll_le (by omega) (by omega)]; omega) (s_n (s_w (aX16_readsElements_1 ..) ?_))
    unfold tX16_readsElements_54
    have fin : ∀ i, i < 64 → (c ≤ 64 → i = k) → ∀ (a : tEl) (p' : Nat) (r : pm_H), sp_elm B e d mm p1 = .inr (a, p') → (∃ h', r = rm h' (Int32.ofNat p') f q ∧ gF (elI m eo el i p1) (elL m i) h h' ∧ mE h' n el p' ∧ pm_I h' m 3 = pm_I h m 3 ∧ pEl m h' i a ∧ p1 < p' ∧ p' ≤ e) → ms_Q F R (pm_lim sX16_readsElements (.inl (592, Int64.ofNat c, Int64.ofNat k + 1, r))) (o' a p') := by
      rintro i hi ik a p' r e2 ⟨h', er, g, E2, i3, P, c1, c2⟩
      subst er
      rw [k1]
      refine next a p' h' e2 (gF_m g (fun x y z => z.elim (fun z => .inl (ep_m (by omega) z)) (fun z => .inr ⟨z.1, z.2.1⟩)) (fun x y z => z.1)) ⟨fun cc => ?_, E2, i3.trans cn3⟩ (by omega) c2
      have ik := ik cc
      subst ik
      have w : ∀ x y, m + 23 ≤ x ∧ x ≤ m + 29 → y ≠ i → pm_I h' x y = pm_I h x y ∧ pm_L h' x y = pm_L h x y := fun x y hx hy => ⟨g.2.2.2.2.1 x y (by unfold elI epI; omega), g.2.2.2.2.2 x y (by unfold elL; omega)⟩
      refine cR_app (cn1 cc) (fun j x hj z => ?_) (fun _ => ?_)
      · rw [hl] at hj
        unfold pEl at z ⊢
        rw [(w (m + 23) j (by omega) hj).1, (w (m + 24) j (by omega) hj).2, (w (m + 25) j (by omega) hj).1, (w (m + 26) j (by omega) hj).1, (w (m + 27) j (by omega) hj).1, (w (m + 28) j (by omega) hj).1, (w (m + 29) j (by omega) hj).1]
        exact z
      · rw [hl]; exact P
    by_cases k6 : k < 64
    · refine s_f (show ¬ (64 : Int64) ≤ Int64.ofNat k by rw [n6_64, ll_le (by omega) (by omega)]; omega) (s_t K ?_)
      rw [ll_t3, ll_t3]
      refine s_c (ms_elm (by omega) k6 C (mE_m cn2 (by omega)) hp1 f q) hF ?_
      exact fun a p' r e2 P => s_l (s_n (fin k k6 (fun _ => rfl) a p' r e2 P))
    · refine s_t (show (64 : Int64) ≤ Int64.ofNat k by rw [n6_64, ll_le (by omega) (by omega)]; omega) (s_t K ?_)
      rw [ll_t3]
      refine s_c (ms_elm (i := 63) (by omega) (by decide) C (mE_m cn2 (by omega)) hp1 f q) hF ?_
      exact fun a p' r e2 P => s_l (s_n (fin 63 (by decide) (fun z => by omega) a p' r e2 P))
theorem ms_hEl {h : pm_H} {p : Nat} (C : mC h n b m eo el e d B) (E : mE h n el p) (hp : p ≤ e) (f q : Int32) : ms_Q (fun h' => yF m eo el h h') (fun l p' r => ∃ h', r = rm h' (Int32.ofNat p') f q ∧ gF (hElI m eo el p) (rElL m) h h' ∧ (l.length ≤ 64 → cR (pEl m) h' l) ∧ mE h' n el p' ∧ pm_I h' m 34 = Int32.ofNat (k64 l.length) ∧ pm_I h' m 3 = xv (pm_I h m 3) (pm_I h 592 13) (decide (64 < l.length)) ∧ l.length < 4294967296 ∧ p < p' ∧ p' ≤ e) (fX16_readsElements (rm h (Int32.ofNat p) f q) 592) (sp_elS B e d p) := by
  have hm : 648 < m := mC_m C
  obtain ⟨d1, d2, d3⟩ := mC_d C
  obtain ⟨s1, s2⟩ := mC_s C
  have K : pm_kd h 592 = 16 := C.1.1
  have rr := C.1.2.1
  have km := C.1.2.2.1
  unfold fX16_readsElements sp_elS
  refine q_t K (q_c (MR_Q (ms_num C.1 C.2.2.2.2.1 C.2.2.2.2.2.1 hp f q)) (fun h' z => by rw [z]; exact yF_r m eo el h) ?_)
  intro v1 p1 r e1 er
  subst er
  obtain ⟨b1, hp1⟩ := sp_num_b hp e1
  have nv := sp_num_v C.1.2.2.2.2.2.2.2.2.2 e1
  refine q_t K (q_b rr ?_)
  refine q_b (ms_kept C.1 nv _ f q) (q_t (show pm_kd (kp h m v1) m = 14 by rw [(kp_x h m eo el v1).2.1]; exact km) ?_)
  have m5 : m ≠ 592 := by omega
  have g1 : gF (hElI m eo el p) (rElL m) h (pm_setI (kp h m v1) m 34 (Int32.ofNat (k64 v1))) := gF_t (kp_g (by unfold hElI rElI epI; omega)) (gF_I _ _ (by unfold hElI; omega))
  have y1 := hEl_y C g1
  rw [rm_a _ _ _ _ _ m5]
  have i3 : pm_I (pm_setI (kp h m v1) m 34 (Int32.ofNat (k64 v1))) m 3 = xv (pm_I h m 3) (pm_I h 592 13) (decide (64 < v1)) := by rw [ev_II, if_pos rfl, if_neg (by decide)]; exact kp_xv h m v1
  have E1 : mE (pm_setI (kp h m v1) m 34 (Int32.ofNat (k64 v1))) n el p1 := mE_k (mE_m E (by omega)) (fun y => by
    rw [ev_II, if_neg (fun z => d3 z.symm)]
    exact (kp_g (AI := fun x y => x = m ∧ y = 3) (AL := trL) (h := h) (m := m) (c := v1) ⟨rfl, rfl⟩).2.2.2.2.1 el y (fun z => d3 z.1.symm))
  have L := q_rowsP (s := sX16_readsElements) (f := f) (q := q) (st := fun k H => .inl (592, Int64.ofNat v1, Int64.ofNat k, H)) (row := sp_el B e d) (Cn := fun h' l p => cEl v1 m n el (xv (pm_I h m 3) (pm_I h 592 13) (decide (64 < v1))) h' l p) (AI := fun p => rElI m eo el p) (AL := fun _ => rElL m) (c := v1) (fin := fun H => H) (fun p p1 x y z w => rEl_m z w) (fun p p1 x y z w => w) (fun p h h' C g => hEl_y C (gF_m g (fun x y z => .inl z) (fun x y z => z))) (fun H => by rw [ev_lm, aX16_readsElements_0]; unfold tX16_readsElements_19; rw [if_pos (Int64.le_refl _)]; rfl) (fun k p h l F R o' hk C hp hl cn hF next => q_el f q nv k p h l F R o' hk C hp hl cn hF next) v1 0 p1 _ [] (Nat.zero_add _) (mC_F C y1) hp1 rfl ⟨fun _ => cR_0 _ _, E1, i3⟩
  refine q_w L (fun h' y => yF_t y1 y) ?_
  rintro l p2 r e2 ⟨h', er, g2, cn, ln, hp2, hp3⟩
  refine ⟨h', er, gF_t g1 (gF_m g2 (fun x y z => .inl (rEl_m (by omega) z)) (fun x y z => z)), fun z => cn.1 (by rw [← ln]; exact z), cn.2.1, ?_, ?_, by rw [ln]; exact nv, by omega, hp3⟩
  · rw [g2.2.2.2.2.1 m 34 (by unfold rElI epI; omega), ev_II, if_pos rfl, if_pos rfl, ln]
  · rw [cn.2.2, ln]
end MEL
