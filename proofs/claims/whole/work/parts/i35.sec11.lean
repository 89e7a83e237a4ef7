/-! THE REFERENCE READS: section 11 by rules -/
/-- a data: m, memory, place, size, where -/
abbrev tDa : Type := Nat × Nat × Nat × Nat × Nat
def sp_daA (B : Nat → Nat) (e mm p : Nat) : sp_O Nat := if mm = 2 then sp_num B e p else .inr (0, p)
def sp_daB (B : Nat → Nat) (e : Nat) (d : Bool) (mm p : Nat) : sp_O Unit := if mm = 1 then .inr ((), p) else sp_b (sp_ex B e d false (e + 1) [] p) fun _ p1 => .inr ((), p1)
def sp_da (B : Nat → Nat) (e : Nat) (d : Bool) (p : Nat) : sp_O tDa := sp_b (sp_num B e p) fun mm p1 => if 2 < mm then .inl (7, p) else sp_b (sp_daA B e mm p1) fun tb p2 => sp_b (sp_daB B e d mm p2) fun _ p3 => sp_b (sp_num B e p3) fun sz p4 => if p4 + sz ≤ e then .inr ((mm, tb, p2, sz, p4), p4 + sz) else .inl (1, e)
def sp_daS (B : Nat → Nat) (e : Nat) (d : Bool) (p : Nat) : sp_O (List tDa) := sp_b (sp_num B e p) fun c p1 => sp_rows (sp_da B e d) c p1
def daA (mm : Nat) : Nat := if mm = 1 then 0 else 1
def pDa (m : Nat) (h : pm_H) (i : Nat) (a : tDa) : Prop := pm_I h (m + 30) i = Int32.ofNat (daA a.1) ∧ pm_L h (m + 31) i = Int64.ofNat a.2.1 ∧ pm_I h (m + 32) i = Int32.ofNat a.2.2.1 ∧ pm_I h (m + 34) i = Int32.ofNat a.2.2.2.1 ∧ pm_I h (m + 33) i = Int32.ofNat a.2.2.2.2
def daI (m eo el i p x y : Nat) : Prop := epI m eo el p x y ∨ (m + 30 ≤ x ∧ x ≤ m + 34 ∧ y = i)
def daL (m i x y : Nat) : Prop := x = m + 31 ∧ y = i
def rDaI (m eo el p x y : Nat) : Prop := epI m eo el p x y ∨ (m + 30 ≤ x ∧ x ≤ m + 34)
def rDaL (m x _ : Nat) : Prop := x = m + 31
def hDaI (m eo el p x y : Nat) : Prop := rDaI m eo el p x y ∨ (x = m ∧ y = 44)
def hDaL (m x y : Nat) : Prop := rDaL m x y ∨ (x = m ∧ y = 43)
def cDa (c m n el : Nat) (o : Int32) (h : pm_H) (l : List tDa) (p : Nat) : Prop := (c ≤ 64 → cR (pDa m) h l) ∧ mE h n el p ∧ pm_I h m 3 = o
theorem da_m {m eo el i p p1 x y : Nat} (hp : p ≤ p1) (z : daI m eo el i p1 x y) : daI m eo el i p x y := z.elim (fun z => .inl (ep_m hp z)) .inr
theorem rDa_m {m eo el p p1 x y : Nat} (hp : p ≤ p1) (z : rDaI m eo el p1 x y) : rDaI m eo el p x y := z.elim (fun z => .inl (ep_m hp z)) .inr
theorem sp_skip {α : Type} {B : Nat → Nat} {e p r : Nat} {o : sp_O α} : (if p + (r + 1) ≤ e then o else .inl (1, e)) = sp_b (sp_next B e p) fun _ p1 => if p1 + r ≤ e then o else .inl (1, e) := by
  unfold sp_next
  by_cases c : p < e
  · rw [if_pos c, sp_br, show p + (r + 1) = p + 1 + r by omega]
  · rw [if_neg c, if_neg (by omega)]
    rfl
section MDA
variable {n b m eo el e : Nat} {B : Nat → Nat} {d : Bool}
theorem da_y {h h' : pm_H} {i p : Nat} (C : mC h n b m eo el e d B) (g : gF (daI m eo el i p) (daL m i) h h') : yF m eo el h h' := gF_y (mC_m C) (mC_eo C) (mC_el C) (gF_m g (fun x y z => by unfold daI epI at z; unfold yI; omega) (fun x y z => by unfold daL at z; unfold yL; omega))
theorem hDa_y {h h' : pm_H} {p : Nat} (C : mC h n b m eo el e d B) (g : gF (hDaI m eo el p) (hDaL m) h h') : yF m eo el h h' := gF_y (mC_m C) (mC_eo C) (mC_el C) (gF_m g (fun x y z => by unfold hDaI rDaI epI at z; unfold yI; omega) (fun x y z => by unfold hDaL rDaL at z; unfold yL; omega))
theorem da_loop {β : Type} {R : β → Nat → pm_H → Prop} {F : pm_H → Prop} {o : sp_O β} (f q : Int32) {c k sz : Nat} {i : Int32} {G : pm_H} (hs : sz < 4294967296) (C : mC G n b m eo el e d B) (hF : F G) : ∀ (r j p : Nat), j + r = sz → p ≤ e → (p + r ≤ e → ms_Q F R (pm_lim sX16_readsDatas (.inr (.inr (.inr (.inr (592, Int64.ofNat c, Int64.ofNat k, i, Int64.ofNat sz, Int64.ofNat sz, rm G (Int32.ofNat (p + r)) f q)))))) o) → ms_Q F R (pm_lim sX16_readsDatas (.inr (.inr (.inr (.inr (592, Int64.ofNat c, Int64.ofNat k, i, Int64.ofNat sz, Int64.ofNat j, rm G (Int32.ofNat p) f q)))))) (if p + r ≤ e then o else .inl (1, e)) := by
  intro r
  induction r with
  | zero =>
    intro j p hj hp ct
    rw [if_pos (by omega)]
    have := ct (by omega)
    rw [show j = sz by omega]
    exact this
  | succ r ih =>
    intro j p hj hp ct
    rw [sp_skip (B := B)]
    refine s_w (aX16_readsDatas_4 ..) ?_
    unfold tX16_readsDatas_177
    refine s_f (show ¬ Int64.ofNat sz ≤ Int64.ofNat j by rw [ll_le (by omega) (by omega)]; omega) (s_t C.1.1 ?_)
    refine s_c (MR_Q (ms_next C.1 C.2.2.2.2.1 C.2.2.2.2.2.1 hp f q)) (fun h' z => by rw [z]; exact hF) ?_
    intro v p1 r1 e1 er
    subst er
    obtain ⟨b1, b2, b3⟩ := sp_next_b e1
    refine s_l (s_n ?_)
    rw [show Int64.ofNat j + 1 = Int64.ofNat (j + 1) from ll_ad j 1]
    refine ih (j + 1) p1 (by omega) (by omega) (fun z => ?_)
    have := ct (by omega)
    rw [show p1 + r = p + (r + 1) by omega]
    exact this
theorem q_da (f q : Int32) {c : Nat} (hc : c < 4294967296) {o : Int32} (k p : Nat) (h : pm_H) (l : List tDa) (F : pm_H → Prop) (R : List tDa → Nat → pm_H → Prop) (o' : tDa → Nat → sp_O (List tDa)) (hk : k < c) (C : mC h n b m eo el e d B) (hp : p ≤ e) (hl : l.length = k) (cn : cDa c m n el o h l p) (hF : ∀ h', yF m eo el h h' → F h') (next : ∀ a p' h', sp_da B e d p = .inr (a, p') → gF (rDaI m eo el p) (rDaL m) h h' → cDa c m n el o h' (l ++ [a]) p' → p < p' → p' ≤ e → ms_Q F R (pm_lim sX16_readsDatas (.inl (592, Int64.ofNat c, Int64.ofNat (k + 1), rm h' (Int32.ofNat p') f q))) (o' a p')) : ms_Q F R (pm_lim sX16_readsDatas (.inl (592, Int64.ofNat c, Int64.ofNat k, rm h (Int32.ofNat p) f q))) (sp_b (sp_da B e d p) o') := by
  have hm : 648 < m := mC_m C
  obtain ⟨d1, d2, d3⟩ := mC_d C
  obtain ⟨s1, s2⟩ := mC_s C
  have K : pm_kd h 592 = 16 := C.1.1
  have rr := C.1.2.1
  have km := C.1.2.2.1
  have k1 : Int64.ofNat k + 1 = Int64.ofNat (k + 1) := ll_ad k 1
  have m30 : m + 30 ≠ 592 := by omega
  have m32 : m + 32 ≠ 592 := by omega
  have m33 : m + 33 ≠ 592 := by omega
  have m34 : m + 34 ≠ 592 := by omega
  obtain ⟨cn1, cn2, cn3⟩ := cn
  refine s_w (aX16_readsDatas_0 ..) ?_
  unfold tX16_readsDatas_27
  refine s_f (show ¬ Int64.ofNat c ≤ Int64.ofNat k by rw [ll_le (by omega) (by omega)]; omega) (s_t K (s_l ?_))
  unfold sp_da at next ⊢
  rw [sp_ba]
  refine s_c (MR_Q (ms_num C.1 C.2.2.2.2.1 C.2.2.2.2.2.1 hp f q)) (fun h' z => by rw [z]; exact hF _ (yF_r m eo el h)) ?_
  intro mm p1 r e1 er
  subst er
  have nv := sp_num_v C.1.2.2.2.2.2.2.2.2.2 e1
  obtain ⟨b1, hp1⟩ := sp_num_b hp e1
  rw [e1, sp_br] at next
  by_cases c2 : 2 < mm
  · rw [if_pos c2]
    refine s_f (show ¬ Int64.ofNat mm ≤ 2 by rw [n6_2, ll_le (by omega) (by omega)]; omega) (s_t K ?_)
    rw [sp_bl]
    exact q_stop (γ := Nat) C (hF h (yF_r m eo el h)) rfl rfl
  · rw [if_neg c2] at next ⊢
    refine s_t (show Int64.ofNat mm ≤ 2 by rw [n6_2, ll_le (by omega) (by omega)]; omega) (s_n (s_w (aX16_readsDatas_1 ..) ?_))
    unfold tX16_readsDatas_62
    rw [sp_ba]
    have main : ∀ i, i < 64 → (c ≤ 64 → i = k) → ms_Q F R (pm_lim sX16_readsDatas (.inr (.inr (.inl (592, Int64.ofNat c, Int64.ofNat k, Int64.ofNat mm, Int32.ofNat i, rm h (Int32.ofNat p1) f q))))) (sp_b (sp_daA B e mm p1) fun tb p2 => sp_b (sp_b (sp_daB B e d mm p2) fun _ p3 => sp_b (sp_num B e p3) fun sz p4 => if p4 + sz ≤ e then .inr ((mm, tb, p2, sz, p4), p4 + sz) else .inl (1, e)) o') := by
      intro i hi ik
      have ic : (Int32.ofNat i).toNatClampNeg = i := nn_cm (by omega)
      have ki : ∀ ln, ln = 64 → pm_in (Int32.ofNat i) ln := fun ln z => by rw [nn_in (by omega)]; omega
      obtain ⟨r45, k45, l45⟩ := mP_45 C.2.2.1
      obtain ⟨r46, k46, l46⟩ := mP_46 C.2.2.1
      obtain ⟨r47, k47, l47⟩ := mP_47 C.2.2.1
      have x1 : (Int64.ofNat mm = 1) = (mm = 1) := by rw [n6_1]; exact ll_eq (by omega) (by decide)
      have x2 : (Int64.ofNat mm = 2) = (mm = 2) := by rw [n6_2]; exact ll_eq (by omega) (by decide)
      -- from the size on
      have tail : ∀ (tb pl p3 : Nat) (G : pm_H), p1 ≤ p3 → p3 ≤ e → gF (daI m eo el i p) (daL m i) h G → mE G n el p3 → pm_I G m 3 = pm_I h m 3 → pm_I G (m + 30) i = Int32.ofNat (daA mm) → pm_L G (m + 31) i = Int64.ofNat tb → pm_I G (m + 32) i = Int32.ofNat pl → ∀ (sz p4 : Nat), sp_num B e p3 = .inr (sz, p4) → (∀ a p', (if p4 + sz ≤ e then (.inr ((mm, tb, pl, sz, p4), p4 + sz) : sp_O tDa) else .inl (1, e)) = .inr (a, p') → sp_b (sp_daA B e mm p1) (fun tb p2 => sp_b (sp_daB B e d mm p2) fun _ p3 => sp_b (sp_num B e p3) fun sz p4 => if p4 + sz ≤ e then (.inr ((mm, tb, p2, sz, p4), p4 + sz) : sp_O tDa) else .inl (1, e)) = .inr (a, p')) → ms_Q F R (pm_lim sX16_readsDatas (.inr (.inr (.inr (.inr (592, Int64.ofNat c, Int64.ofNat k, Int32.ofNat i, Int64.ofNat sz, 0, rm (pm_setI G (m + 33) i (Int32.ofNat p4)) (Int32.ofNat p4) f q)))))) (sp_b (if p4 + sz ≤ e then .inr ((mm, tb, pl, sz, p4), p4 + sz) else .inl (1, e)) o') := by
        intro tb pl p3 G h1 h2 g EG G3 Ga Gt Gp sz p4 ez re
        obtain ⟨z1, z2⟩ := sp_num_b h2 ez
        have yG := da_y C g
        have CG := mC_F C yG
        have nz := sp_num_v CG.1.2.2.2.2.2.2.2.2.2 ez
        have g5 : gF (daI m eo el i p) (daL m i) h (pm_setI G (m + 33) i (Int32.ofNat p4)) := gF_t g (gF_I _ _ (by unfold daI; omega))
        have y5 := da_y C g5
        have C5 := mC_F C y5
        obtain ⟨r49, k49, l49⟩ := mP_49 C5.2.2.1
        have sp : sp_b (if p4 + sz ≤ e then (.inr ((mm, tb, pl, sz, p4), p4 + sz) : sp_O tDa) else .inl (1, e)) o' = if p4 + sz ≤ e then o' (mm, tb, pl, sz, p4) (p4 + sz) else .inl (1, e) := by
          split <;> rfl
        rw [sp]
        refine da_loop f q nz C5 (hF _ y5) sz 0 p4 (Nat.zero_add _) z2 (fun le => ?_)
        refine s_w (aX16_readsDatas_4 ..) ?_
        unfold tX16_readsDatas_177
        refine s_t (Int64.le_refl _) (s_t C5.1.1 (s_b C5.1.2.1 (s_t C5.1.2.2.1 (s_b r49 (s_t k49 (s_t (ki _ l49) (s_l (s_n ?_))))))))
        rw [ic, ll_t3, k1, rm_a _ _ _ _ _ m34]
        have w : ∀ x, x ≠ m + 33 → x ≠ m + 34 → ∀ y, pm_I (pm_setI (pm_setI G (m + 33) i (Int32.ofNat p4)) (m + 34) i (Int32.ofNat sz)) x y = pm_I G x y := fun x a1 a2 y => by rw [ev_II, if_neg a2, ev_II, if_neg a1]
        refine next (mm, tb, pl, sz, p4) (p4 + sz) _ (re _ _ (by rw [if_pos le])) (gF_m (gF_t g5 (gF_I _ _ (by unfold daI; omega))) (fun x y z => z.elim (fun z => .inl z) (fun z => .inr ⟨z.1, z.2.1⟩)) (fun x y z => z.1)) ⟨fun cc => ?_, mE_m (mE_k EG (fun y => w _ (by omega) (by omega) y)) (by omega), ?_⟩ (by omega) le
        · have ik := ik cc
          subst ik
          have u : ∀ x y, m + 30 ≤ x ∧ x ≤ m + 34 → y ≠ i → pm_I (pm_setI (pm_setI G (m + 33) i (Int32.ofNat p4)) (m + 34) i (Int32.ofNat sz)) x y = pm_I h x y ∧ pm_L (pm_setI (pm_setI G (m + 33) i (Int32.ofNat p4)) (m + 34) i (Int32.ofNat sz)) x y = pm_L h x y := fun x y hx hy => by
            refine ⟨?_, ?_⟩
            · have a1 : pm_I (pm_setI (pm_setI G (m + 33) i (Int32.ofNat p4)) (m + 34) i (Int32.ofNat sz)) x y = pm_I G x y := by
                rw [ev_II, ev_II]
                repeat' split
                all_goals first | rfl | (exfalso; omega)
              rw [a1, g.2.2.2.2.1 x y (by unfold daI epI; omega)]
            · rw [ev_LI, ev_LI, g.2.2.2.2.2 x y (by unfold daL; omega)]
          refine cR_app (cn1 cc) (fun j x hj z => ?_) (fun _ => ?_)
          · rw [hl] at hj
            unfold pDa at z ⊢
            rw [(u (m + 30) j (by omega) hj).1, (u (m + 31) j (by omega) hj).2, (u (m + 32) j (by omega) hj).1, (u (m + 34) j (by omega) hj).1, (u (m + 33) j (by omega) hj).1]
            exact z
          · rw [hl]
            refine ⟨?_, ?_, ?_, ?_, ?_⟩
            · rw [w _ (by omega) (by omega)]; exact Ga
            · rw [ev_LI, ev_LI]; exact Gt
            · rw [w _ (by omega) (by omega)]; exact Gp
            · rw [ev_II, if_pos rfl, if_pos rfl]
            · rw [ev_II, if_neg (by omega), ev_II, if_pos rfl, if_pos rfl]
        · rw [w _ (by omega) (by omega)]; exact G3.trans cn3
      have hH : ∀ (tb pl p2 : Nat), p1 ≤ p2 → ∃ G, pm_setI (pm_setL (pm_setI h (m + 30) i (Int32.ofNat (daA mm))) (m + 31) i (Int64.ofNat tb)) (m + 32) i (Int32.ofNat pl) = G ∧ gF (daI m eo el i p) (daL m i) h G ∧ mE G n el p2 ∧ pm_I G m 3 = pm_I h m 3 ∧ pm_I G (m + 30) i = Int32.ofNat (daA mm) ∧ pm_L G (m + 31) i = Int64.ofNat tb ∧ pm_I G (m + 32) i = Int32.ofNat pl := by
        intro tb pl p2 h1
        refine ⟨_, rfl, gF_t (gF_t (gF_I _ _ (by unfold daI; omega)) (gF_L _ _ ⟨rfl, rfl⟩)) (gF_I _ _ (by unfold daI; omega)), mE_k (mE_m cn2 (by omega)) (fun y => by rw [ev_II, if_neg (by omega), ev_IL, ev_II, if_neg (by omega)]), ?_, ?_, ?_, ?_⟩
        · rw [ev_II, if_neg (by omega), ev_IL, ev_II, if_neg (by omega)]
        · rw [ev_II, if_neg (by omega), ev_IL, ev_II, if_pos rfl, if_pos rfl]
        · rw [ev_LI, ev_LL, if_pos rfl, if_pos rfl]
        · rw [ev_II, if_pos rfl, if_pos rfl]
      have g1 : gF (daI m eo el i p) (daL m i) h (pm_setI h (m + 30) i (Int32.ofNat (daA mm))) := gF_I _ _ (by unfold daI; omega)
      have y1 := da_y C g1
      have C1 := mC_F C y1
      have st100 : ms_Q F R (pm_lim sX16_readsDatas (.inr (.inr (.inr (.inl (592, Int64.ofNat c, Int64.ofNat k, Int64.ofNat mm, Int32.ofNat i, Int32.ofNat (daA mm), Int32.ofNat i, m + 30, rm h (Int32.ofNat p1) f q)))))) (sp_b (sp_daA B e mm p1) fun tb p2 => sp_b (sp_b (sp_daB B e d mm p2) fun _ p3 => sp_b (sp_num B e p3) fun sz p4 => if p4 + sz ≤ e then .inr ((mm, tb, p2, sz, p4), p4 + sz) else .inl (1, e)) o') := by
        have da1 : daA mm ≤ 1 := by unfold daA; split <;> omega
        refine s_w (aX16_readsDatas_3 ..) ?_
        unfold tX16_readsDatas_100
        simp only [vp_b01 da1, ic, rm_a _ _ _ _ _ m30]
        refine s_t k45 (s_t (ki _ l45) (s_t K (s_b rr (s_t km (s_b r46 ?_)))))
        by_cases m2 : mm = 2
        · have da : sp_daA B e mm p1 = sp_num B e p1 := by unfold sp_daA; rw [if_pos m2]
          have db : ∀ p2, sp_daB B e d mm p2 = sp_b (sp_ex B e d false (e + 1) [] p2) fun _ p1 => .inr ((), p1) := fun p2 => by unfold sp_daB; rw [if_neg (by omega)]
          simp only [da, db, sp_ba, sp_br] at tail ⊢
          refine s_t (show Int64.ofNat mm = 2 by rw [x2]; exact m2) ?_
          refine s_c (MR_Q (ms_num C1.1 C1.2.2.2.2.1 C1.2.2.2.2.2.1 hp1 f q)) (fun h' z => by rw [z]; exact hF _ y1) ?_
          intro tb p2 r e2 er
          subst er
          obtain ⟨c1, c2'⟩ := sp_num_b hp1 e2
          obtain ⟨G, eG, gG, EG, G3, Ga, Gt, Gp⟩ := hH tb p2 p2 (by omega)
          have yG := da_y C gG
          have CG := mC_F C yG
          refine s_t k46 (s_t (ki _ l46) (s_t K (s_b rr (s_t km (s_b r47 (s_l (s_t k47 (s_t (ki _ l47) (s_f (show ¬ Int64.ofNat mm = 1 by rw [x1]; omega) ?_)))))))))
          rw [rm_sL, r_11, rm_a _ _ _ _ _ m32, eG]
          refine s_c (ms_ex CG EG c2' false f q) (fun h' z => hF _ (yF_t yG z)) ?_
          rintro v3 p3 r e3 ⟨h3, er, g3, P3, E3, b3, hp3⟩
          subst er
          have w : ∀ x y, m + 30 ≤ x ∧ x ≤ m + 34 → pm_I h3 x y = pm_I G x y := fun x y hx => g3.2.2.2.2.1 x y (by unfold exI; omega)
          have g03 : gF (daI m eo el i p) (daL m i) h h3 := gF_t gG (gF_m g3 (fun x y z => .inl (exI_ep (by omega) z)) (fun x y z => z.elim))
          have C3 := mC_F C (da_y C g03)
          obtain ⟨r48, k48, l48⟩ := mP_48 C3.2.2.1
          refine s_t C3.1.1 ?_
          refine s_c (MR_Q (ms_num C3.1 C3.2.2.2.2.1 C3.2.2.2.2.2.1 hp3 f q)) (fun h' z => by rw [z]; exact hF _ (da_y C g03)) ?_
          intro sz p4 r e4 er
          subst er
          refine s_t C3.1.1 (s_b C3.1.2.1 (s_t C3.1.2.2.1 (s_b r48 (s_l (s_t k48 (s_t (ki _ l48) (s_n ?_)))))))
          have t := tail tb p2 p3 h3 (by omega) hp3 g03 E3 (by rw [P3.2.2.2.2.2.2.1, ex_nf e3]; exact G3) (by rw [w _ _ (by omega)]; exact Ga) (by rw [g3.2.2.2.2.2 _ _ (fun z => z)]; exact Gt) (by rw [w _ _ (by omega)]; exact Gp) sz p4 e4 (fun a p' z => by rw [e2, sp_br, e3, sp_br, e4, sp_br]; exact z)
          show ms_Q F R (pm_lim sX16_readsDatas (.inr (.inr (.inr (.inr (592, Int64.ofNat c, Int64.ofNat k, Int32.ofNat i, Int64.ofNat sz, 0, pm_setI (rm h3 (Int32.ofNat p4) f q) (m + 33) i (Int32.ofNat p4))))))) _
          rw [rm_a _ _ _ _ _ m33]
          exact t
        · have da : sp_daA B e mm p1 = .inr (0, p1) := by unfold sp_daA; rw [if_neg m2]
          refine s_f (show ¬ Int64.ofNat mm = 2 by rw [x2]; exact m2) ?_
          obtain ⟨G, eG, gG, EG, G3, Ga, Gt, Gp⟩ := hH 0 p1 p1 (Nat.le_refl _)
          have eG' : pm_setI (pm_setL (pm_setI h (m + 30) i (Int32.ofNat (daA mm))) (m + 31) i 0) (m + 32) i (Int32.ofNat p1) = G := eG
          have yG := da_y C gG
          have CG := mC_F C yG
          refine s_t k46 (s_t (ki _ l46) (s_b r47 (s_l (s_t k47 (s_t (ki _ l47) ?_)))))
          rw [rm_sL, r_11, rm_a _ _ _ _ _ m32, eG']
          by_cases m1 : mm = 1
          · have db : ∀ p2, sp_daB B e d mm p2 = .inr ((), p2) := fun p2 => by unfold sp_daB; rw [if_pos m1]
            simp only [da, db, sp_ba, sp_br] at tail ⊢
            obtain ⟨r48, k48, l48⟩ := mP_48 CG.2.2.1
            refine s_t (show Int64.ofNat mm = 1 by rw [x1]; exact m1) ?_
            refine s_c (MR_Q (ms_num CG.1 CG.2.2.2.2.1 CG.2.2.2.2.2.1 hp1 f q)) (fun h' z => by rw [z]; exact hF _ yG) ?_
            intro sz p4 r e4 er
            subst er
            refine s_t CG.1.1 (s_b CG.1.2.1 (s_t CG.1.2.2.1 (s_b r48 (s_l (s_t k48 (s_t (ki _ l48) (s_n ?_)))))))
            have t := tail 0 p1 p1 G (Nat.le_refl _) hp1 gG EG G3 Ga Gt Gp sz p4 e4 (fun a p' z => by rw [e4, sp_br]; exact z)
            show ms_Q F R (pm_lim sX16_readsDatas (.inr (.inr (.inr (.inr (592, Int64.ofNat c, Int64.ofNat k, Int32.ofNat i, Int64.ofNat sz, 0, pm_setI (rm G (Int32.ofNat p4) f q) (m + 33) i (Int32.ofNat p4))))))) _
            rw [rm_a _ _ _ _ _ m33]
            exact t
          · have db : ∀ p2, sp_daB B e d mm p2 = sp_b (sp_ex B e d false (e + 1) [] p2) fun _ p1 => .inr ((), p1) := fun p2 => by unfold sp_daB; rw [if_neg m1]
            simp only [da, db, sp_ba, sp_br] at tail ⊢
            refine s_f (show ¬ Int64.ofNat mm = 1 by rw [x1]; exact m1) ?_
            refine s_c (ms_ex CG EG hp1 false f q) (fun h' z => hF _ (yF_t yG z)) ?_
            rintro v3 p3 r e3 ⟨h3, er, g3, P3, E3, b3, hp3⟩
            subst er
            have w : ∀ x y, m + 30 ≤ x ∧ x ≤ m + 34 → pm_I h3 x y = pm_I G x y := fun x y hx => g3.2.2.2.2.1 x y (by unfold exI; omega)
            have g03 : gF (daI m eo el i p) (daL m i) h h3 := gF_t gG (gF_m g3 (fun x y z => .inl (exI_ep (by omega) z)) (fun x y z => z.elim))
            have C3 := mC_F C (da_y C g03)
            obtain ⟨r48, k48, l48⟩ := mP_48 C3.2.2.1
            refine s_t C3.1.1 ?_
            refine s_c (MR_Q (ms_num C3.1 C3.2.2.2.2.1 C3.2.2.2.2.2.1 hp3 f q)) (fun h' z => by rw [z]; exact hF _ (da_y C g03)) ?_
            intro sz p4 r e4 er
            subst er
            refine s_t C3.1.1 (s_b C3.1.2.1 (s_t C3.1.2.2.1 (s_b r48 (s_l (s_t k48 (s_t (ki _ l48) (s_n ?_)))))))
            have t := tail 0 p1 p3 h3 (by omega) hp3 g03 E3 (by rw [P3.2.2.2.2.2.2.1, ex_nf e3]; exact G3) (by rw [w _ _ (by omega)]; exact Ga) (by rw [g3.2.2.2.2.2 _ _ (fun z => z)]; exact Gt) (by rw [w _ _ (by omega)]; exact Gp) sz p4 e4 (fun a p' z => by rw [e3, sp_br, e4, sp_br]; exact z)
            show ms_Q F R (pm_lim sX16_readsDatas (.inr (.inr (.inr (.inr (592, Int64.ofNat c, Int64.ofNat k, Int32.ofNat i, Int64.ofNat sz, 0, pm_setI (rm h3 (Int32.ofNat p4) f q) (m + 33) i (Int32.ofNat p4))))))) _
            rw [rm_a _ _ _ _ _ m33]
            exact t
      refine s_w (aX16_readsDatas_2 ..) ?_
      unfold tX16_readsDatas_77
      refine s_t K (s_b rr (s_t km (s_b r45 ?_)))
      by_cases m1 : mm = 1
      · refine s_t (show Int64.ofNat mm = 1 by rw [x1]; exact m1) (s_n ?_)
        have z : daA mm = 0 := by unfold daA; rw [if_pos m1]
        rw [z] at st100
        exact st100
      · refine s_f (show ¬ Int64.ofNat mm = 1 by rw [x1]; exact m1) (s_n ?_)
        have z : daA mm = 1 := by unfold daA; rw [if_neg m1]
        rw [z] at st100
        exact st100
    by_cases k6 : k < 64
    · refine s_f (show ¬ (64 : Int64) ≤ Int64.ofNat k by rw [n6_64, ll_le (by omega) (by omega)]; omega) (s_n ?_)
      rw [ll_t3]
      exact main k k6 (fun _ => rfl)
    · refine s_t (show (64 : Int64) ≤ Int64.ofNat k by rw [n6_64, ll_le (by omega) (by omega)]; omega) (s_n ?_)
      exact main 63 (by decide) (fun z => by omega)
end MDA
