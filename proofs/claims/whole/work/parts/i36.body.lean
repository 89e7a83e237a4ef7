/-! THE REFERENCE READS: section 11 whole; a body, by rules -/
section MDA
variable {n b m eo el e : Nat} {B : Nat → Nat} {d : Bool}
theorem ms_hDa {h : pm_H} {p : Nat} (C : mC h n b m eo el e d B) (E : mE h n el p) (hp : p ≤ e) (f q : Int32) : ms_Q (fun h' => yF m eo el h h') (fun l p' r => ∃ h', r = rm h' (Int32.ofNat p') f q ∧ gF (hDaI m eo el p) (hDaL m) h h' ∧ (l.length ≤ 64 → cR (pDa m) h' l) ∧ mE h' n el p' ∧ pm_I h' m 44 = Int32.ofNat (k64 l.length) ∧ pm_I h' m 3 = xv (pm_I h m 3) (pm_I h 592 13) (decide (64 < l.length)) ∧ pm_L h' m 43 = Int64.ofNat l.length ∧ l.length < 4294967296 ∧ p < p' ∧ p' ≤ e) (fX16_readsDatas (rm h (Int32.ofNat p) f q) 592) (sp_daS B e d p) := by
  have hm : 648 < m := mC_m C
  obtain ⟨d1, d2, d3⟩ := mC_d C
  obtain ⟨s1, s2⟩ := mC_s C
  have K : pm_kd h 592 = 16 := C.1.1
  have rr := C.1.2.1
  have km := C.1.2.2.1
  unfold fX16_readsDatas sp_daS
  refine q_t K (q_c (MR_Q (ms_num C.1 C.2.2.2.2.1 C.2.2.2.2.2.1 hp f q)) (fun h' z => by rw [z]; exact yF_r m eo el h) ?_)
  intro v1 p1 r e1 er
  subst er
  obtain ⟨b1, hp1⟩ := sp_num_b hp e1
  have nv := sp_num_v C.1.2.2.2.2.2.2.2.2.2 e1
  refine q_t K (q_b rr (q_t km ?_))
  rw [rm_sL]
  have g0 : gF (hDaI m eo el p) (hDaL m) h (pm_setL h m 43 (Int64.ofNat v1)) := gF_L _ _ (by unfold hDaL; omega)
  have C0 := mC_F C (hDa_y C g0)
  refine q_b (ms_kept C0.1 nv _ f q) (q_t (show pm_kd (kp (pm_setL h m 43 (Int64.ofNat v1)) m v1) m = 14 by rw [(kp_x (pm_setL h m 43 (Int64.ofNat v1)) m eo el v1).2.1]; exact km) ?_)
  have m5 : m ≠ 592 := by omega
  have g1 : gF (hDaI m eo el p) (hDaL m) h (pm_setI (kp (pm_setL h m 43 (Int64.ofNat v1)) m v1) m 44 (Int32.ofNat (k64 v1))) := gF_t g0 (gF_t (kp_g (by unfold hDaI rDaI epI; omega)) (gF_I _ _ (by unfold hDaI; omega)))
  have y1 := hDa_y C g1
  rw [rm_a _ _ _ _ _ m5]
  have i3 : pm_I (pm_setI (kp (pm_setL h m 43 (Int64.ofNat v1)) m v1) m 44 (Int32.ofNat (k64 v1))) m 3 = xv (pm_I h m 3) (pm_I h 592 13) (decide (64 < v1)) := by rw [ev_II, if_pos rfl, if_neg (by decide)]; exact kp_xv (pm_setL h m 43 (Int64.ofNat v1)) m v1
  have E1 : mE (pm_setI (kp (pm_setL h m 43 (Int64.ofNat v1)) m v1) m 44 (Int32.ofNat (k64 v1))) n el p1 := mE_k (mE_m E (by omega)) (fun y => by
    rw [ev_II, if_neg (fun z => d3 z.symm)]
    exact (kp_g (AI := fun x y => x = m ∧ y = 3) (AL := trL) (h := pm_setL h m 43 (Int64.ofNat v1)) (m := m) (c := v1) ⟨rfl, rfl⟩).2.2.2.2.1 el y (fun z => d3 z.1.symm))
  have L := q_rowsP (s := sX16_readsDatas) (f := f) (q := q) (st := fun k H => .inl (592, Int64.ofNat v1, Int64.ofNat k, H)) (row := sp_da B e d) (Cn := fun h' l p => cDa v1 m n el (xv (pm_I h m 3) (pm_I h 592 13) (decide (64 < v1))) h' l p) (AI := fun p => rDaI m eo el p) (AL := fun _ => rDaL m) (c := v1) (fin := fun H => H) (fun p p1 x y z w => rDa_m z w) (fun p p1 x y z w => w) (fun p h h' C g => hDa_y C (gF_m g (fun x y z => .inl z) (fun x y z => .inl z))) (fun H => by rw [ev_lm, aX16_readsDatas_0]; unfold tX16_readsDatas_27; rw [if_pos (Int64.le_refl _)]; rfl) (fun k p h l F R o' hk C hp hl cn hF next => q_da f q nv k p h l F R o' hk C hp hl cn hF next) v1 0 p1 _ [] (Nat.zero_add _) (mC_F C y1) hp1 rfl ⟨fun _ => cR_0 _ _, E1, i3⟩
  refine q_w L (fun h' y => yF_t y1 y) ?_
  rintro l p2 r e2 ⟨h', er, g2, cn, ln, hp2, hp3⟩
  refine ⟨h', er, gF_t g1 (gF_m g2 (fun x y z => .inl (rDa_m (by omega) z)) (fun x y z => .inl z)), fun z => cn.1 (by rw [← ln]; exact z), cn.2.1, ?_, ?_, ?_, by rw [ln]; exact nv, by omega, hp3⟩
  · rw [g2.2.2.2.2.1 m 44 (by unfold rDaI epI; omega), ev_II, if_pos rfl, if_pos rfl, ln]
  · rw [cn.2.2, ln]
  · rw [g2.2.2.2.2.2 m 43 (by unfold rDaL; omega), ev_LI, ln]
    have kL : pm_L (kp (pm_setL h m 43 (Int64.ofNat v1)) m v1) = pm_L (pm_setL h m 43 (Int64.ofNat v1)) := (kp_x (pm_setL h m 43 (Int64.ofNat v1)) m eo el v1).2.2.2.2.1
    rw [kL, ev_LL, if_pos rfl, if_pos rfl]
end MDA
/-- a row of locals: how many, type -/
def sp_lc (B : Nat → Nat) (e p : Nat) : sp_O (Nat × Nat) := sp_b (sp_num B e p) fun v p1 => sp_b (sp_byte sp_isT 8 B e p1) fun t p2 => .inr ((v, t), p2)
def sumL : List (Nat × Nat) → Nat
  | [] => 0
  | a :: l => a.1 + sumL l
/-- a body: where its row of locals is, how many, where its expression is, its END, the locals, what is written -/
abbrev tBo : Type := Nat × Nat × Nat × Nat × List (Nat × Nat) × tWr
def sp_bd (B : Nat → Nat) (e : Nat) (d : Bool) (p : Nat) : sp_O tBo := sp_b (sp_num B e p) fun c p1 => sp_b (sp_rows (sp_lc B e) c p1) fun ls p2 => if 4294967295 < sumL ls then .inl (12, p) else sp_b (sp_ex B e d true (e + 1) [] p2) fun w p3 => .inr ((p, sumL ls, p2, p3 - 1, ls, w), p3)
def sp_bo (B : Nat → Nat) (e : Nat) (d : Bool) (p : Nat) : sp_O tBo := sp_b (sp_num B e p) fun sz p1 => if e < p1 + sz then .inl (2, p) else sp_b (sp_bd B (p1 + sz) d p1) fun a p2 => if p2 < p1 + sz then .inl (3, p2) else .inr (a, p2)
def bigB (a : tBo) : Bool := decide (1000 < a.2.1) || a.2.2.2.2.2.2
def pBo (m eo el : Nat) (h : pm_H) (i : Nat) (a : tBo) : Prop := (pm_I h (m + 35) i = Int32.ofNat a.1 ∧ pm_L h (m + 36) i = Int64.ofNat a.2.1 ∧ pm_I h (m + 37) i = Int32.ofNat a.2.2.1 ∧ pm_I h (m + 38) i = Int32.ofNat a.2.2.2.1)
/-- ends and elses as a body has them -/
def pEn (eo el : Nat) (h : pm_H) (a : tBo) : Prop := (∀ y x, (false, y, x) ∈ a.2.2.2.2.2.1 → y ≤ a.2.2.2.1 ∧ pm_I h eo y = Int32.ofNat x) ∧ (∀ y x, (true, y, x) ∈ a.2.2.2.2.2.1 → y ≤ a.2.2.2.1 ∧ pm_I h el y = Int32.ofNat x) ∧ ∀ y, a.2.2.1 ≤ y → y ≤ a.2.2.2.1 → (∀ x, (true, y, x) ∉ a.2.2.2.2.2.1) → pm_I h el y = 0
def boI (m eo el i p x y : Nat) : Prop := epI m eo el p x y ∨ (m + 35 ≤ x ∧ x ≤ m + 38 ∧ y = i)
def boL (m i x y : Nat) : Prop := x = m + 36 ∧ y = i
theorem bo_m {m eo el i p p1 x y : Nat} (hp : p ≤ p1) (z : boI m eo el i p1 x y) : boI m eo el i p x y := z.elim (fun z => .inl (ep_m hp z)) .inr
section MBO
variable {n b m eo el e : Nat} {B : Nat → Nat} {d : Bool}
theorem bo_y {h h' : pm_H} {i p : Nat} (C : mC h n b m eo el e d B) (g : gF (boI m eo el i p) (boL m i) h h') : yF m eo el h h' := gF_y (mC_m C) (mC_eo C) (mC_el C) (gF_m g (fun x y z => by unfold boI epI at z; unfold yI; omega) (fun x y z => by unfold boL at z; unfold yL; omega))
theorem lc_loop {β : Type} {R : β → Nat → pm_H → Prop} {F : pm_H → Prop} (f q : Int32) {c : Nat} {i fr : Int32} {G : pm_H} (hc : c < 4294967296) (C : mC G n b m eo el e d B) (hF : F G) : ∀ (j k p s : Nat) (o : List (Nat × Nat) → Nat → sp_O β), k + j = c → p ≤ e → k ≤ p → s ≤ k * 4294967296 → (∀ l p', sp_rows (sp_lc B e) j p = .inr (l, p') → p ≤ p' → p' ≤ e → s + sumL l ≤ 175921860444160 → ms_Q F R (pm_lim sX16_readsBody (.inl (592, i, fr, Int64.ofNat c, Int64.ofNat (s + sumL l), Int64.ofNat c, rm G (Int32.ofNat p') f q))) (o l p')) → ms_Q F R (pm_lim sX16_readsBody (.inl (592, i, fr, Int64.ofNat c, Int64.ofNat s, Int64.ofNat k, rm G (Int32.ofNat p) f q))) (sp_b (sp_rows (sp_lc B e) j p) o) := by
  have n4 := C.1.2.2.2.2.2.2.1
  have he := C.2.2.2.2.2.1
  intro j
  induction j with
  | zero =>
    intro k p s o hj hp hk hs ct
    have := ct [] p rfl (Nat.le_refl _) hp (by unfold sumL; omega)
    rw [show c = k by omega] at this ⊢
    exact this
  | succ j ih =>
    intro k p s o hj hp hk hs ct
    unfold sp_rows at ct ⊢
    rw [sp_ba]
    refine s_w (aX16_readsBody_0 ..) ?_
    unfold tX16_readsBody_16
    refine s_f (show ¬ Int64.ofNat c ≤ Int64.ofNat k by rw [ll_le (by omega) (by omega)]; omega) (s_t C.1.1 ?_)
    unfold sp_lc at ct ⊢
    rw [sp_ba]
    refine s_c (MR_Q (ms_num C.1 C.2.2.2.2.1 C.2.2.2.2.2.1 hp f q)) (fun h' z => by rw [z]; exact hF) ?_
    intro v1 p1 r e1 er
    subst er
    have nv := sp_num_v C.1.2.2.2.2.2.2.2.2.2 e1
    obtain ⟨b1, hp1⟩ := sp_num_b hp e1
    refine s_l (s_t C.1.1 ?_)
    rw [sp_ba]
    refine s_c (MR_Q (ms_type C.1 C.2.2.2.2.1 C.2.2.2.2.2.1 hp1 f q)) (fun h' z => by rw [z]; exact hF) ?_
    intro v2 p2 r e2 er
    subst er
    obtain ⟨b2, hp2⟩ := sp_byte_b hp1 e2
    rw [e1, sp_br, e2, sp_br, sp_br] at ct
    refine s_l (s_n ?_)
    rw [show Int64.ofNat k + 1 = Int64.ofNat (k + 1) from ll_ad k 1, show Int64.ofNat s + Int64.ofNat v1 = Int64.ofNat (s + v1) from ll_ad s v1, sp_br]
    rw [sp_ba]
    show ms_Q F R _ (sp_b (sp_rows (sp_lc B e) j p2) fun l p3 => o ((v1, v2) :: l) p3)
    refine ih (k + 1) p2 (s + v1) (fun l p3 => o ((v1, v2) :: l) p3) (by omega) hp2 (by omega) (by omega) (fun l p' el h1 h2 h3 => ?_)
    have := ct ((v1, v2) :: l) p' (by
      have el' : sp_rows (fun p => sp_b (sp_num B e p) fun v p1 => sp_b (sp_byte sp_isT 8 B e p1) fun t p2 => (.inr ((v, t), p2) : sp_O (Nat × Nat))) j p2 = .inr (l, p') := el
      rw [el', sp_br]) (by omega) h2 (by have : sumL ((v1, v2) :: l) = v1 + sumL l := rfl; omega)
    rw [show s + v1 + sumL l = s + sumL ((v1, v2) :: l) by have : sumL ((v1, v2) :: l) = v1 + sumL l := rfl; omega]
    exact this
theorem ms_bd {i : Nat} (hi : i < 64) {h : pm_H} {p : Nat} (C : mC h n b m eo el e d B) (E : mE h n el p) (hp : p ≤ e) (f q : Int32) : ms_Q (fun h' => yF m eo el h h') (fun a p' r => ∃ h', r = rm h' (Int32.ofNat p') f q ∧ gF (boI m eo el i p) (boL m i) h h' ∧ mE h' n el p' ∧ pm_I h' m 3 = xv (pm_I h m 3) (pm_I h 592 13) (bigB a) ∧ pBo m eo el h' i a ∧ pEn eo el h' a ∧ a.2.2.2.1 < p' ∧ p < p' ∧ p' ≤ e) (fX16_readsBody (rm h (Int32.ofNat p) f q) 592 (Int32.ofNat i)) (sp_bd B e d p) := by
  have hm : 648 < m := mC_m C
  obtain ⟨d1, d2, d3⟩ := mC_d C
  obtain ⟨s1, s2⟩ := mC_s C
  have K : pm_kd h 592 = 16 := C.1.1
  have n4 := C.1.2.2.2.2.2.2.1
  have he := C.2.2.2.2.2.1
  have ic : (Int32.ofNat i).toNatClampNeg = i := nn_cm (by omega)
  have ki : ∀ ln, ln = 64 → pm_in (Int32.ofNat i) ln := fun ln z => by rw [nn_in (by omega)]; omega
  have m35 : m + 35 ≠ 592 := by omega
  have m37 : m + 37 ≠ 592 := by omega
  have m38 : m + 38 ≠ 592 := by omega
  unfold fX16_readsBody sp_bd
  refine q_t K (q_l ?_)
  refine q_c (MR_Q (ms_num C.1 C.2.2.2.2.1 C.2.2.2.2.2.1 hp f q)) (fun h' z => by rw [z]; exact yF_r m eo el h) ?_
  intro c p1 r e1 er
  subst er
  have nv := sp_num_v C.1.2.2.2.2.2.2.2.2.2 e1
  obtain ⟨b1, hp1⟩ := sp_num_b hp e1
  refine lc_loop f q nv C (yF_r m eo el h) c 0 p1 0 _ (Nat.zero_add _) hp1 (Nat.zero_le _) (Nat.zero_le _) (fun ls p2 el2 b2 hp2 hsum => ?_)
  rw [Nat.zero_add] at hsum ⊢
  refine s_w (aX16_readsBody_0 ..) ?_
  unfold tX16_readsBody_16
  refine s_t (Int64.le_refl _) ?_
  by_cases c12 : 4294967295 < sumL ls
  · rw [if_pos c12]
    refine s_f (show ¬ Int64.ofNat (sumL ls) ≤ 4294967295 by rw [n6_4294967295, ll_le (by omega) (by omega)]; omega) (s_t K ?_)
    exact q_stop (γ := Nat) C (yF_r m eo el h) rfl rfl
  · rw [if_neg c12]
    refine s_t (show Int64.ofNat (sumL ls) ≤ 4294967295 by rw [n6_4294967295, ll_le (by omega) (by omega)]; omega) (s_n (s_w (aX16_readsBody_1 ..) ?_))
    unfold tX16_readsBody_63
    -- from the expression on
    have tail : ∀ (H : pm_H), gF (boI m eo el i p) (boL m i) h H → mE H n el p2 → pm_I H m 3 = xv (pm_I h m 3) (pm_I h 592 13) (decide (1000 < sumL ls)) → pm_I H (m + 35) i = Int32.ofNat p → pm_L H (m + 36) i = Int64.ofNat (sumL ls) → pm_I H (m + 37) i = Int32.ofNat p2 → ∀ (w : tWr) (p3 : Nat) (h3 : pm_H), gF (exI m eo el p2 p3) trL H h3 → pEx H h3 m eo el p2 p3 [] w → mE h3 n el p3 → p2 < p3 → p3 ≤ e → ∃ h', pm_setI (rm h3 (Int32.ofNat p3) f q) (m + 38) i (Int32.ofNat p3 - 1) = rm h' (Int32.ofNat p3) f q ∧ gF (boI m eo el i p) (boL m i) h h' ∧ mE h' n el p3 ∧ pm_I h' m 3 = xv (pm_I h m 3) (pm_I h 592 13) (bigB (p, sumL ls, p2, p3 - 1, ls, w)) ∧ pBo m eo el h' i (p, sumL ls, p2, p3 - 1, ls, w) ∧ pEn eo el h' (p, sumL ls, p2, p3 - 1, ls, w) ∧ p3 - 1 < p3 ∧ p < p3 ∧ p3 ≤ e := by
      intro H gH EH H3 Ha Hb Hc w p3 h3 g3 P3 E3 c1 c2
      have k : ∀ x, x ≠ m + 38 → ∀ y, pm_I (pm_setI h3 (m + 38) i (Int32.ofNat (p3 - 1))) x y = pm_I h3 x y := fun x a1 y => by rw [ev_II, if_neg a1]
      have u : ∀ x y, m + 35 ≤ x ∧ x ≤ m + 38 → pm_I h3 x y = pm_I H x y := fun x y hx => g3.2.2.2.2.1 x y (by unfold exI; omega)
      have pw : ∀ x ∈ w.1, x.2.1 < p3 ∧ p2 ≤ x.2.1 := fun x hx => by
        obtain ⟨f1, f2⟩ := P3.1 x hx
        rcases f2 with f2 | ⟨t, f2, -⟩
        · exact ⟨f1, f2⟩
        · cases f2
      refine ⟨pm_setI h3 (m + 38) i (Int32.ofNat (p3 - 1)), ?_, gF_t gH (gF_t (gF_m g3 (fun x y z => .inl (exI_ep (by omega) z)) (fun x y z => z.elim)) (gF_I _ _ (by unfold boI; omega))), mE_k E3 (fun y => k _ (by omega) y), ?_, ⟨?_, ?_, ?_, ?_⟩, ⟨fun y x hx => ⟨?_, ?_⟩, fun y x hx => ⟨?_, ?_⟩, fun y h1 h2 h4 => ?_⟩, by omega, by omega, c2⟩
      · rw [n3_1, nn_sb (by omega), rm_a _ _ _ _ _ m38]
      · rw [k _ (by omega), P3.2.2.2.2.2.2.1, H3, gH.2.2.2.2.1 592 13 (by unfold boI epI; omega), xv_or]
        rfl
      · rw [k _ (by omega), u _ _ (by omega)]; exact Ha
      · rw [ev_LI, g3.2.2.2.2.2 _ _ (fun z => z)]; exact Hb
      · rw [k _ (by omega), u _ _ (by omega)]; exact Hc
      · rw [ev_II, if_pos rfl, if_pos rfl]
      · have := pw _ hx
        show y ≤ p3 - 1
        simp only at this
        omega
      · rw [k _ (by omega)]; exact P3.2.2.2.2.1 y x hx
      · have := pw _ hx
        show y ≤ p3 - 1
        simp only at this
        omega
      · rw [k _ (by omega)]; exact P3.2.2.2.2.2.1 y x hx
      · have h1 : p2 ≤ y := h1
        have h2 : y ≤ p3 - 1 := h2
        rw [k _ (by omega), P3.2.2.2.1 y h4]
        exact EH.2 y h1 (by omega)
    have hH : ∀ X : pm_H, gF (boI m eo el i p) (boL m i) h X → mE X n el p2 → pm_I X m 3 = xv (pm_I h m 3) (pm_I h 592 13) (decide (1000 < sumL ls)) → ∃ H, pm_setI (pm_setL (pm_setI X (m + 35) i (Int32.ofNat p)) (m + 36) i (Int64.ofNat (sumL ls))) (m + 37) i (Int32.ofNat p2) = H ∧ gF (boI m eo el i p) (boL m i) h H ∧ mE H n el p2 ∧ pm_I H m 3 = xv (pm_I h m 3) (pm_I h 592 13) (decide (1000 < sumL ls)) ∧ pm_I H (m + 35) i = Int32.ofNat p ∧ pm_L H (m + 36) i = Int64.ofNat (sumL ls) ∧ pm_I H (m + 37) i = Int32.ofNat p2 := by
      intro X gX EX X3
      refine ⟨_, rfl, gF_t gX (gF_t (gF_t (gF_I _ _ (by unfold boI; omega)) (gF_L _ _ ⟨rfl, rfl⟩)) (gF_I _ _ (by unfold boI; omega))), mE_k EX (fun y => by rw [ev_II, if_neg (by omega), ev_IL, ev_II, if_neg (by omega)]), ?_, ?_, ?_, ?_⟩
      · rw [ev_II, if_neg (by omega), ev_IL, ev_II, if_neg (by omega)]; exact X3
      · rw [ev_II, if_neg (by omega), ev_IL, ev_II, if_pos rfl, if_pos rfl]
      · rw [ev_LI, ev_LL, if_pos rfl, if_pos rfl]
      · rw [ev_II, if_pos rfl, if_pos rfl]
    have E2 := mE_m E (show p ≤ p2 by omega)
    by_cases c1 : sumL ls ≤ 1000
    · skip
      have X3 : pm_I h m 3 = xv (pm_I h m 3) (pm_I h 592 13) (decide (1000 < sumL ls)) := by rw [decide_eq_false (by omega)]; rfl
      obtain ⟨H, eH, gH, EH, H3, Ha, Hb, Hc⟩ := hH h (gF_r _ _ h) E2 X3
      refine s_t (show Int64.ofNat (sumL ls) ≤ 1000 by rw [n6_1000, ll_le (by omega) (by omega)]; exact c1) (s_t K (s_b (ms_exc0 _) ?_))
      have CX := C
      obtain ⟨r51, k51, l51⟩ := mP_51 CX.2.2.1
      obtain ⟨r52, k52, l52⟩ := mP_52 CX.2.2.1
      obtain ⟨r53, k53, l53⟩ := mP_53 CX.2.2.1
      refine s_t CX.1.1 (s_b CX.1.2.1 (s_t CX.1.2.2.1 (s_b r51 (s_t k51 (s_t (ki _ l51) (s_b r52 (s_t k52 (s_t (ki _ l52) (s_b r53 (s_l (s_t k53 (s_t (ki _ l53) ?_))))))))))))
      have st : pm_setI (pm_setL (pm_setI (rm h (Int32.ofNat p2) f q) (m + 35) (Int32.ofNat i).toNatClampNeg (Int32.ofNat p)) (m + 36) (Int32.ofNat i).toNatClampNeg (Int64.ofNat (sumL ls))) (m + 37) (Int32.ofNat i).toNatClampNeg (pm_I (pm_setL (pm_setI (rm h (Int32.ofNat p2) f q) (m + 35) (Int32.ofNat i).toNatClampNeg (Int32.ofNat p)) (m + 36) (Int32.ofNat i).toNatClampNeg (Int64.ofNat (sumL ls))) 592 11) = rm H (Int32.ofNat p2) f q := by
        rw [ic, rm_a _ _ _ _ _ m35, rm_sL, r_11, rm_a _ _ _ _ _ m37, eH]
      rw [show pm_I (rm h (Int32.ofNat p) f q) 592 11 = Int32.ofNat p from rfl, st]
      have yH := bo_y C gH
      have CH := mC_F C yH
      refine s_c (ms_ex CH EH hp2 true f q) (fun h' z => yF_t yH z) ?_
      rintro w p3 r e3 ⟨h3, er, g3, P3, E3, b3, hp3⟩
      subst er
      have C3 := mC_F CH (exI_y CH g3)
      obtain ⟨r54, k54, l54⟩ := mP_54 C3.2.2.1
      refine s_t C3.1.1 (s_b C3.1.2.1 (s_t C3.1.2.2.1 (s_b r54 (s_l (s_t k54 (s_t (ki _ l54) (s_r ?_)))))))
      obtain ⟨h', eh, rest⟩ := tail H gH EH H3 Ha Hb Hc w p3 h3 g3 P3 E3 b3 hp3
      rw [ic, r_11, eh]
      exact q_r ⟨h', rfl, rest⟩
    · skip
      have gX : gF (boI m eo el i p) (boL m i) h (xc h m) := by
        unfold xc
        split
        · exact gF_r _ _ h
        · exact gF_I _ _ (by unfold boI epI; omega)
      have EX : mE (xc h m) n el p2 := mE_k E2 (fun y => xcb_o h true true (a := el) (fun z => d3 z.symm))
      have X3 : pm_I (xc h m) m 3 = xv (pm_I h m 3) (pm_I h 592 13) (decide (1000 < sumL ls)) := by rw [decide_eq_true (by omega)]; exact xc_xv h m
      obtain ⟨H, eH, gH, EH, H3, Ha, Hb, Hc⟩ := hH (xc h m) gX EX X3
      refine s_f (show ¬ Int64.ofNat (sumL ls) ≤ 1000 by rw [n6_1000, ll_le (by omega) (by omega)]; exact c1) (s_t K (s_b (ms_exc C.1 _ f q) ?_))
      have CX := mC_F C (bo_y C gX)
      obtain ⟨r51, k51, l51⟩ := mP_51 CX.2.2.1
      obtain ⟨r52, k52, l52⟩ := mP_52 CX.2.2.1
      obtain ⟨r53, k53, l53⟩ := mP_53 CX.2.2.1
      refine s_t CX.1.1 (s_b CX.1.2.1 (s_t CX.1.2.2.1 (s_b r51 (s_t k51 (s_t (ki _ l51) (s_b r52 (s_t k52 (s_t (ki _ l52) (s_b r53 (s_l (s_t k53 (s_t (ki _ l53) ?_))))))))))))
      have st : pm_setI (pm_setL (pm_setI (rm (xc h m) (Int32.ofNat p2) f q) (m + 35) (Int32.ofNat i).toNatClampNeg (Int32.ofNat p)) (m + 36) (Int32.ofNat i).toNatClampNeg (Int64.ofNat (sumL ls))) (m + 37) (Int32.ofNat i).toNatClampNeg (pm_I (pm_setL (pm_setI (rm (xc h m) (Int32.ofNat p2) f q) (m + 35) (Int32.ofNat i).toNatClampNeg (Int32.ofNat p)) (m + 36) (Int32.ofNat i).toNatClampNeg (Int64.ofNat (sumL ls))) 592 11) = rm H (Int32.ofNat p2) f q := by
        rw [ic, rm_a _ _ _ _ _ m35, rm_sL, r_11, rm_a _ _ _ _ _ m37, eH]
      rw [show pm_I (rm h (Int32.ofNat p) f q) 592 11 = Int32.ofNat p from rfl, st]
      have yH := bo_y C gH
      have CH := mC_F C yH
      refine s_c (ms_ex CH EH hp2 true f q) (fun h' z => yF_t yH z) ?_
      rintro w p3 r e3 ⟨h3, er, g3, P3, E3, b3, hp3⟩
      subst er
      have C3 := mC_F CH (exI_y CH g3)
      obtain ⟨r54, k54, l54⟩ := mP_54 C3.2.2.1
      refine s_t C3.1.1 (s_b C3.1.2.1 (s_t C3.1.2.2.1 (s_b r54 (s_l (s_t k54 (s_t (ki _ l54) (s_r ?_)))))))
      obtain ⟨h', eh, rest⟩ := tail H gH EH H3 Ha Hb Hc w p3 h3 g3 P3 E3 b3 hp3
      rw [ic, r_11, eh]
      exact q_r ⟨h', rfl, rest⟩
end MBO
