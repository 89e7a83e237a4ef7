/-! THE REFERENCE READS: section 1 whole, by rules -/
abbrev tTy : Type := List Nat × List Nat
def sp_ty (B : Nat → Nat) (e p : Nat) : sp_O tTy := sp_b (sp_next B e p) fun c p1 => if c = 96 then sp_b (sp_trL B e p1) fun ps p2 => sp_b (sp_trL B e p2) fun rs p3 => .inr ((ps, rs), p3) else .inl (8, p)
def bigT (a : tTy) : Bool := decide (16 < a.1.length) || decide (16 < a.2.length)
def pTy (m : Nat) (h : pm_H) (i : Nat) (a : tTy) : Prop := pm_I h (m + 2) i = Int32.ofNat (m16 a.1.length) ∧ pm_I h (m + 3) i = Int32.ofNat (m16 a.2.length) ∧ pRow m h (32 * i) a.1 ∧ pRow m h (32 * i + 16) a.2
def tyI (m x y : Nat) : Prop := (m + 2 ≤ x ∧ x ≤ m + 4) ∨ (x = m ∧ y = 3)
def cTy (m : Nat) (o id : Int32) (h : pm_H) (l : List tTy) : Prop := cR (pTy m) h l ∧ pm_I h m 3 = xv o id (l.any bigT) ∧ pm_I h 592 13 = id
theorem sp_next_b {B : Nat → Nat} {e p v p' : Nat} (q : sp_next B e p = .inr (v, p')) : p < e ∧ v = B p ∧ p' = p + 1 := by
  unfold sp_next at q
  split at q
  · cases q; exact ⟨by assumption, rfl, rfl⟩
  · cases q
theorem pRow_k {m : Nat} {h h' : pm_H} {t : Nat} {l : List Nat} (c : pRow m h t l) (keep : ∀ y, t ≤ y → y < t + 16 → pm_I h' (m + 4) y = pm_I h (m + 4) y) : pRow m h' t l := fun k x e hk => by rw [keep _ (by omega) (by omega)]; exact c k x e hk
theorem any_app {α : Type} (f : α → Bool) (l : List α) (a : α) : (l ++ [a]).any f = (l.any f || f a) := by rw [List.any_append, List.any_cons, List.any_nil, Bool.or_false]
section MTY
variable {n b m eo el e : Nat} {B : Nat → Nat} {d : Bool}
theorem tyI_y {h h' : pm_H} (C : mC h n b m eo el e d B) (g : gF (tyI m) trL h h') : yF m eo el h h' := gF_y (mC_m C) (mC_eo C) (mC_el C) (gF_m g (fun x y z => by unfold tyI at z; unfold yI; omega) (fun x y z => z.elim))
theorem trI_ty {h h' : pm_H} {to : Option Nat} (g : gF (trI m to) trL h h') : gF (tyI m) trL h h' := gF_m g (fun x y z => by unfold trI at z; unfold tyI; omega) (fun x y z => z)
theorem q_stop {σ α ρ : Type} {s : σ → Option (σ ⊕ ((Nat × pm_H) ⊕ ρ))} {F : pm_H → Prop} {R : α → Nat → ρ → Prop} {γ : Type} {k : pm_H → Option (σ ⊕ ((Nat × pm_H) ⊕ ρ))} {h : pm_H} {a v : Int32} {w pl : Nat} {f q : Int32} (C : mC h n b m eo el e d B) (hF : F h) (ev : v = Int32.ofNat pl) {ww : Int32} (ew : ww = Int32.ofNat w) : ms_Q F R (ev_k s ((fX16_stops (rm h a f q) 592 ww v).bind fun x => pt_s x k)) (.inl (w, pl)) := by
  rw [ms_stops C.1]
  exact ⟨h, a, hF, by rw [ev, ew]; rfl⟩
theorem q_ty_2 (f q : Int32) {c k p : Nat} {h : pm_H} {l : List tTy} {o id : Int32} {F : pm_H → Prop} {R : List tTy → Nat → pm_H → Prop} {o' : tTy → Nat → sp_O (List tTy)} (hc : c < 4294967296) (hk : k < c) (C : mC h n b m eo el e d B) (hp : p ≤ e) (hl : l.length = k) (cn : cTy m o id h l) (hF : ∀ h', yF m eo el h h' → F h') (next : ∀ ps p1 rs p2 h', sp_trL B e p = .inr (ps, p1) → sp_trL B e p1 = .inr (rs, p2) → gF (tyI m) trL h h' → cTy m o id h' (l ++ [(ps, rs)]) → p < p2 → p2 ≤ e → ms_Q F R (pm_lim sX16_readsTypes (.inl (592, Int64.ofNat c, Int64.ofNat (k + 1), rm h' (Int32.ofNat p2) f q))) (o' (ps, rs) p2)) : ms_Q F R (pm_lim sX16_readsTypes (.inr (.inl (592, Int64.ofNat c, Int64.ofNat k, rm h (Int32.ofNat p) f q)))) (sp_b (sp_trL B e p) fun ps p2 => sp_b (sp_trL B e p2) fun rs p3 => o' (ps, rs) p3) := by
  have hm : 648 < m := mC_m C
  have K : pm_kd h 592 = 16 := C.1.1
  have rr := C.1.2.1
  have km := C.1.2.2.1
  have k1 : Int64.ofNat k + 1 = Int64.ofNat (k + 1) := ll_ad k 1
  obtain ⟨cn1, cn2, cn3⟩ := cn
  refine s_w (aX16_readsTypes_1 ..) ?_
  unfold tX16_readsTypes_50
  by_cases k6 : k < 64
  · refine s_f (show ¬ (64 : Int64) ≤ Int64.ofNat k by rw [n6_64, ll_le (by omega) (by omega)]; omega) (s_n (s_w (aX16_readsTypes_2 ..) ?_))
    unfold tX16_readsTypes_64
    rw [ll_t3]
    refine s_t (show (0 : Int32) ≤ Int32.ofNat k by rw [n3_0, nn_le (by decide) (by omega)]; omega) (s_n (s_w (aX16_readsTypes_3 ..) ?_))
    unfold tX16_readsTypes_81
    rw [n3_32, nn_ml]
    refine s_t K ?_
    refine s_c (ms_tr C hp f q (to := some (32 * k)) (fun t z => by cases z; omega)) hF ?_
    rintro ps p1 r e1 ⟨h1, er, g1, c1, i1, b1, b2⟩
    subst er
    have C1 := mC_F C (trI_y C g1)
    refine s_t (show (0 : Int32) ≤ Int32.ofNat k by rw [n3_0, nn_le (by decide) (by omega)]; omega) ?_
    refine s_t (show pm_kd h1 592 = 16 from C1.1.1) ?_
    rw [n3_16, nn_ad]
    refine s_c (ms_tr C1 b2 f q (to := some (32 * k + 16)) (fun t z => by cases z; omega)) (fun h' y => hF h' (yF_t (trI_y C g1) y)) ?_
    rintro rs p2 r e2 ⟨h2, er, g2, c2, i2, b3, b4⟩
    subst er
    have C2 := mC_F C1 (trI_y C1 g2)
    obtain ⟨r5, k5, l5⟩ := mP_5 C2.2.2.1
    obtain ⟨r6, k6', l6⟩ := mP_6 C2.2.2.1
    have kc : (Int32.ofNat k).toNatClampNeg = k := nn_cm (by omega)
    have ki : ∀ ln, ln = 64 → pm_in (Int32.ofNat k) ln := fun ln z => by rw [nn_in (by omega)]; omega
    refine s_f (show ¬ Int32.ofNat k < 0 by rw [n3_0, nn_lt (by omega) (by omega)]; omega) (s_t C2.1.1 (s_b C2.1.2.1 (s_t C2.1.2.2.1 (s_b r5 (s_t k5 (s_t (ki _ l5) (s_b r6 (s_t k6' (s_t (ki _ l6) (s_l (s_n ?_)))))))))))
    show ms_Q F R (pm_lim sX16_readsTypes (.inl (592, Int64.ofNat c, Int64.ofNat k + 1, pm_setI (pm_setI (rm h2 (Int32.ofNat p2) f q) (m + 2) (Int32.ofNat k).toNatClampNeg (Int32.ofNat (m16 ps.length))) (m + 3) (Int32.ofNat k).toNatClampNeg (Int32.ofNat (m16 rs.length))))) (o' (ps, rs) p2)
    have m2 : m + 2 ≠ 592 := by omega
    have m3 : m + 3 ≠ 592 := by omega
    rw [kc, k1, rm_a _ _ _ _ _ m2, rm_a _ _ _ _ _ m3]
    have g : gF (tyI m) trL h (pm_setI (pm_setI h2 (m + 2) k (Int32.ofNat (m16 ps.length))) (m + 3) k (Int32.ofNat (m16 rs.length))) := gF_t (gF_t (trI_ty g1) (trI_ty g2)) (gF_t (gF_I _ _ (by unfold tyI; omega)) (gF_I _ _ (by unfold tyI; omega)))
    have eI2 : ∀ y, y < 32 * k ∨ 32 * k + 32 ≤ y → pm_I h2 (m + 4) y = pm_I h (m + 4) y := fun y hy => by
      rw [g2.2.2.2.2.1 (m + 4) y (fun z => ?_), g1.2.2.2.2.1 (m + 4) y (fun z => ?_)]
      · rcases z with z | ⟨-, t, z, z2⟩
        · omega
        · cases z; omega
      · rcases z with z | ⟨-, t, z, z2⟩
        · omega
        · cases z; omega
    have eI3 : ∀ y, 32 * k ≤ y → y < 32 * k + 16 → pm_I h2 (m + 4) y = pm_I h1 (m + 4) y := fun y hy hy2 => by
      rw [g2.2.2.2.2.1 (m + 4) y (fun z => ?_)]
      rcases z with z | ⟨-, t, z, z2⟩
      · omega
      · cases z; omega
    have eP : ∀ x y, x = m + 2 ∨ x = m + 3 → pm_I h2 x y = pm_I h x y := fun x y hx => by
      rw [g2.2.2.2.2.1 x y (fun z => by unfold trI at z; omega), g1.2.2.2.2.1 x y (fun z => by unfold trI at z; omega)]
    refine next ps p1 rs p2 _ e1 e2 g ⟨?_, ?_, ?_⟩ (by omega) b4
    · refine cR_app cn1 (fun i x hi z => ?_) (fun hi => ?_)
      · rw [hl] at hi
        unfold pTy at z ⊢
        refine ⟨?_, ?_, pRow_k z.2.2.1 (fun y hy hy2 => ?_), pRow_k z.2.2.2 (fun y hy hy2 => ?_)⟩
        · rw [ev_II, if_neg (by omega), ev_II, if_pos rfl, if_neg hi, eP _ _ (.inl rfl)]; exact z.1
        · rw [ev_II, if_pos rfl, if_neg hi, ev_II, if_neg (by omega), eP _ _ (.inr rfl)]; exact z.2.1
        · rw [ev_II, if_neg (by omega), ev_II, if_neg (by omega), eI2 y (by omega)]
        · rw [ev_II, if_neg (by omega), ev_II, if_neg (by omega), eI2 y (by omega)]
      · rw [hl]
        unfold pTy
        refine ⟨?_, ?_, pRow_k (c1 _ rfl) (fun y hy hy2 => ?_), pRow_k (c2 _ rfl) (fun y hy hy2 => ?_)⟩
        · rw [ev_II, if_neg (by omega), ev_II, if_pos rfl, if_pos rfl]
        · rw [ev_II, if_pos rfl, if_pos rfl]
        · rw [ev_II, if_neg (by omega), ev_II, if_neg (by omega), eI3 y hy hy2]
        · rw [ev_II, if_neg (by omega), ev_II, if_neg (by omega)]
    · have j2 : pm_I h1 592 13 = id := (g1.2.2.2.2.1 592 13 (fun z => by unfold trI at z; omega)).trans cn3
      rw [ev_II, if_neg (by omega), ev_II, if_neg (by omega), i2, i1, j2, cn2, cn3, xv_or, xv_or, any_app]
      rfl
    · rw [ev_II, if_neg (by omega), ev_II, if_neg (by omega), g2.2.2.2.2.1 592 13 (fun z => by unfold trI at z; omega), g1.2.2.2.2.1 592 13 (fun z => by unfold trI at z; omega)]
      exact cn3
  · refine s_t (show (64 : Int64) ≤ Int64.ofNat k by rw [n6_64, ll_le (by omega) (by omega)]; omega) (s_n (s_w (aX16_readsTypes_2 ..) ?_))
    unfold tX16_readsTypes_64
    refine s_f (show ¬ (0 : Int32) ≤ -1 by decide) (s_n (s_w (aX16_readsTypes_3 ..) ?_))
    unfold tX16_readsTypes_81
    refine s_t K ?_
    refine s_c (ms_tr C hp f q (to := none) (fun t z => by cases z)) hF ?_
    rintro ps p1 r e1 ⟨h1, er, g1, c1, i1, b1, b2⟩
    subst er
    have C1 := mC_F C (trI_y C g1)
    refine s_f (show ¬ (0 : Int32) ≤ -1 by decide) (s_t (show pm_kd h1 592 = 16 from C1.1.1) ?_)
    refine s_c (ms_tr C1 b2 f q (to := none) (fun t z => by cases z)) (fun h' y => hF h' (yF_t (trI_y C g1) y)) ?_
    rintro rs p2 r e2 ⟨h2, er, g2, c2, i2, b3, b4⟩
    subst er
    refine s_t (show (-1 : Int32) < 0 by decide) (s_l (s_n ?_))
    show ms_Q F R (pm_lim sX16_readsTypes (.inl (592, Int64.ofNat c, Int64.ofNat k + 1, rm h2 (Int32.ofNat p2) f q))) (o' (ps, rs) p2)
    rw [k1]
    have eI : ∀ x y, x ≠ m → pm_I h2 x y = pm_I h x y := fun x y hx => by
      rw [g2.2.2.2.2.1 x y (fun z => ?_), g1.2.2.2.2.1 x y (fun z => ?_)]
      · rcases z with z | ⟨-, t, z, z2⟩
        · omega
        · cases z
      · rcases z with z | ⟨-, t, z, z2⟩
        · omega
        · cases z
    refine next ps p1 rs p2 _ e1 e2 (gF_t (trI_ty g1) (trI_ty g2)) ⟨?_, ?_, ?_⟩ (by omega) b4
    · refine cR_app cn1 (fun i x hi z => ?_) (fun hi => by omega)
      unfold pTy at z ⊢
      refine ⟨?_, ?_, pRow_k z.2.2.1 (fun y hy hy2 => eI _ _ (by omega)), pRow_k z.2.2.2 (fun y hy hy2 => eI _ _ (by omega))⟩
      · rw [eI _ _ (by omega)]; exact z.1
      · rw [eI _ _ (by omega)]; exact z.2.1
    · have j2 : pm_I h1 592 13 = id := (g1.2.2.2.2.1 592 13 (fun z => by unfold trI at z; omega)).trans cn3
      rw [i2, i1, j2, cn2, cn3, xv_or, xv_or, any_app]
      rfl
    · rw [eI _ _ (by omega)]; exact cn3
theorem q_ty (f q : Int32) {c : Nat} (hc : c < 4294967296) {o id : Int32} (k p : Nat) (h : pm_H) (l : List tTy) (F : pm_H → Prop) (R : List tTy → Nat → pm_H → Prop) (o' : tTy → Nat → sp_O (List tTy)) (hk : k < c) (C : mC h n b m eo el e d B) (hp : p ≤ e) (hl : l.length = k) (cn : cTy m o id h l) (hF : ∀ h', yF m eo el h h' → F h') (next : ∀ a p' h', sp_ty B e p = .inr (a, p') → gF (tyI m) trL h h' → cTy m o id h' (l ++ [a]) → p < p' → p' ≤ e → ms_Q F R (pm_lim sX16_readsTypes (.inl (592, Int64.ofNat c, Int64.ofNat (k + 1), rm h' (Int32.ofNat p') f q))) (o' a p')) : ms_Q F R (pm_lim sX16_readsTypes (.inl (592, Int64.ofNat c, Int64.ofNat k, rm h (Int32.ofNat p) f q))) (sp_b (sp_ty B e p) o') := by
  have K : pm_kd h 592 = 16 := C.1.1
  have hb := C.1.2.2.2.2.2.2.2.2.2
  refine s_w (aX16_readsTypes_0 ..) ?_
  unfold tX16_readsTypes_19
  refine s_f (show ¬ Int64.ofNat c ≤ Int64.ofNat k by rw [ll_le (by omega) (by omega)]; omega) (s_t K ?_)
  unfold sp_ty at next ⊢
  rw [sp_ba]
  refine s_c (MR_Q (ms_next C.1 C.2.2.2.2.1 C.2.2.2.2.2.1 hp f q)) (fun h' z => by rw [z]; exact hF _ (yF_r m eo el h)) ?_
  intro v1 p1 r e1 er
  subst er
  obtain ⟨b1, b2, b3⟩ := sp_next_b e1
  have v1l : v1 < 256 := by rw [b2]; exact hb p
  rw [e1, sp_br] at next
  by_cases c9 : v1 = 96
  · rw [if_pos c9] at next ⊢
    refine s_t (show Int32.ofNat v1 = 96 by rw [c9]; rfl) (s_n ?_)
    rw [sp_ba]
    have e : (fun v p => sp_b (sp_b (sp_trL B e p) fun rs p3 => (.inr ((v, rs), p3) : sp_O tTy)) o') = fun ps p2 => sp_b (sp_trL B e p2) fun rs p3 => o' (ps, rs) p3 := by
      funext v p
      rw [sp_ba]
      rfl
    rw [e]
    refine q_ty_2 f q hc hk C (by omega) hl cn hF (fun ps p2 rs p3 h' e2 e3 g cn' b4 b5 => next (ps, rs) p3 h' ?_ g cn' (by omega) b5)
    rw [e2, sp_br, e3, sp_br]
  · rw [if_neg c9]
    refine s_f (show ¬ Int32.ofNat v1 = 96 by rw [show (96 : Int32) = Int32.ofNat 96 from rfl, nn_eq (by omega) (by omega)]; exact c9) (s_t K ?_)
    rw [sp_bl]
    refine q_stop (γ := Nat) C (hF h (yF_r m eo el h)) ?_ rfl
    show Int32.ofNat p1 - 1 = Int32.ofNat p
    rw [n3_1, nn_sb (by omega)]
    exact congrArg Int32.ofNat (by omega)
end MTY
