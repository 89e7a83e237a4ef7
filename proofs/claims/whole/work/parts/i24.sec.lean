/-! THE REFERENCE READS: the sections 2, 3, 4, 5, 7 whole, by rules -/
/-- what reading the section writes -/
def hFnI (m x y : Nat) : Prop := sFnI m x y ∨ (x = m ∧ (y = 15 ∨ y = 3))
def hFnL (m x y : Nat) : Prop := sFnL m x y ∨ (x = m ∧ y = 14)
def sp_fnS (B : Nat → Nat) (e p : Nat) : sp_O (List tFn) := sp_b (sp_num B e p) fun c p1 => sp_rows (sp_fn B e) c p1
theorem hFn_y {n b m eo el e : Nat} {B : Nat → Nat} {d : Bool} {h h' : pm_H} (C : mC h n b m eo el e d B) (g : gF (hFnI m) (hFnL m) h h') : yF m eo el h h' := gF_y (mC_m C) (mC_eo C) (mC_el C) (gF_m g (fun x y z => by unfold hFnI sFnI at z; unfold yI; omega) (fun x y z => by unfold hFnL sFnL at z; unfold yL; omega))
theorem ms_hFn {n b m eo el e : Nat} {B : Nat → Nat} {d : Bool} {h : pm_H} {p : Nat} (C : mC h n b m eo el e d B) (hp : p ≤ e) (f q : Int32) : ms_Q (fun h' => yF m eo el h h') (fun l p' r => ∃ h', r = rm h' (Int32.ofNat p') f q ∧ gF (hFnI m) (hFnL m) h h' ∧ cR (pFn m) h' l ∧ pm_I h' m 15 = Int32.ofNat (k64 l.length) ∧ pm_I h' m 3 = pm_I (kp h m l.length) m 3 ∧ pm_L h' m 14 = Int64.ofNat l.length ∧ l.length < 4294967296 ∧ p < p' ∧ p' ≤ e) (fX16_readsFunctions (rm h (Int32.ofNat p) f q) 592) (sp_fnS B e p) := by
  have hm : 648 < m := mC_m C
  have K : pm_kd h 592 = 16 := C.1.1
  have rr := C.1.2.1
  have km := C.1.2.2.1
  have hb := C.1.2.2.2.2.2.2.2.2.2
  unfold fX16_readsFunctions sp_fnS
  refine q_t K (q_c (MR_Q (ms_num C.1 C.2.2.2.2.1 C.2.2.2.2.2.1 hp f q)) (fun h' z => by rw [z]; exact yF_r m eo el h) ?_)
  intro v1 p1 r e1 er
  subst er
  obtain ⟨b1, hp1⟩ := sp_num_b hp e1
  have nv := sp_num_v hb e1
  refine q_t K (q_b rr ?_)
  refine q_t km ?_
  have g0 : gF (hFnI m) (hFnL m) h (pm_setL h m 14 (Int64.ofNat v1)) := gF_L _ _ (by unfold hFnL; omega)
  have C0 := mC_F C (hFn_y C g0)
  rw [rm_sL]
  refine q_b (ms_kept C0.1 nv _ f q) (q_t (show pm_kd (kp (pm_setL h m 14 (Int64.ofNat v1)) m v1) m = 14 by rw [(kp_x (pm_setL h m 14 (Int64.ofNat v1)) m eo el v1).2.1]; exact km) ?_)
  have m5 : m ≠ 592 := by omega
  have g1 : gF (hFnI m) (hFnL m) h (pm_setI (kp (pm_setL h m 14 (Int64.ofNat v1)) m v1) m 15 (Int32.ofNat (k64 v1))) := by
    refine gF_t g0 (gF_t ?_ (gF_I _ _ (by unfold hFnI; omega)))
    unfold kp
    split
    · exact gF_r _ _ _
    · unfold xc
      split
      · exact gF_r _ _ _
      · exact gF_I _ _ (by unfold hFnI; omega)
  have y1 := hFn_y C g1

  have k3 : pm_I (kp (pm_setL h m 14 (Int64.ofNat v1)) m v1) m 3 = pm_I (kp h m v1) m 3 := by
    unfold kp xc
    split
    · rfl
    · show pm_I (if 0 ≤ pm_I h m 3 then (pm_setL h m 14 (Int64.ofNat v1)) else pm_setI (pm_setL h m 14 (Int64.ofNat v1)) m 3 (pm_I h 592 13)) m 3 = _
      split
      · rfl
      · rw [ev_II, ev_II, if_pos rfl, if_pos rfl, if_pos rfl, if_pos rfl]
  rw [rm_a _ _ _ _ _ m5]
  have L := q_rows (s := sX16_readsFunctions) (f := f) (q := q) (st := fun k H => ((592, Int64.ofNat v1, Int64.ofNat k, H))) (row := sp_fn B e) (Cn := fun h l => cR (pFn m) h l) (AI := sFnI m) (AL := sFnL m) (c := v1) (fun h h' C g => gF_y (mC_m C) (mC_eo C) (mC_el C) (gF_m g (fun x y z => by unfold sFnI at z; unfold yI; omega) (fun x y z => by unfold sFnL at z; unfold yL; omega))) (fun H => by rw [ev_lm, aX16_readsFunctions_0]; unfold tX16_readsFunctions_27; rw [if_pos (Int64.le_refl _)]; rfl) (fun k p h l F R o' hk C hp hl cn hF next => q_Fn f q nv k p h l F R o' hk C hp hl cn hF next) v1 0 p1 _ [] (Nat.zero_add _) (mC_F C y1) hp1 rfl (cR_0 _ _)
  refine q_w L (fun h' y => yF_t y1 y) ?_
  rintro l p2 r e2 ⟨h', er, g2, cn, ln, hp2, hp3⟩
  have z : ∀ y, pm_I h' m y = pm_I (pm_setI (kp (pm_setL h m 14 (Int64.ofNat v1)) m v1) m 15 (Int32.ofNat (k64 v1))) m y := fun y => g2.2.2.2.2.1 m y (by unfold sFnI; omega)
  refine ⟨h', er, gF_t g1 (gF_m g2 (fun x y z => .inl z) (fun x y z => .inl z)), cn, ?_, ?_, ?_, by rw [ln]; exact nv, by omega, hp3⟩
  · rw [z, ev_II, if_pos rfl, if_pos rfl, ln]
  · rw [z, ev_II, if_pos rfl, if_neg (by decide), ln]
    exact k3
  · rw [g2.2.2.2.2.2 m 14 (by unfold sFnL; omega), ev_LI, ln]
    have kL : pm_L (kp (pm_setL h m 14 (Int64.ofNat v1)) m v1) = pm_L (pm_setL h m 14 (Int64.ofNat v1)) := (kp_x (pm_setL h m 14 (Int64.ofNat v1)) m eo el v1).2.2.2.2.1
    rw [kL, ev_LL, if_pos rfl, if_pos rfl]
/-- what reading the section writes -/
def hTbI (m x y : Nat) : Prop := sTbI m x y ∨ (x = m ∧ (y = 17 ∨ y = 3))
def hTbL (m x y : Nat) : Prop := sTbL m x y
def sp_tbS (B : Nat → Nat) (e p : Nat) : sp_O (List tTb) := sp_b (sp_num B e p) fun c p1 => sp_rows (sp_tb B e) c p1
theorem hTb_y {n b m eo el e : Nat} {B : Nat → Nat} {d : Bool} {h h' : pm_H} (C : mC h n b m eo el e d B) (g : gF (hTbI m) (hTbL m) h h') : yF m eo el h h' := gF_y (mC_m C) (mC_eo C) (mC_el C) (gF_m g (fun x y z => by unfold hTbI sTbI at z; unfold yI; omega) (fun x y z => by unfold hTbL sTbL at z; unfold yL; omega))
theorem ms_hTb {n b m eo el e : Nat} {B : Nat → Nat} {d : Bool} {h : pm_H} {p : Nat} (C : mC h n b m eo el e d B) (hp : p ≤ e) (f q : Int32) : ms_Q (fun h' => yF m eo el h h') (fun l p' r => ∃ h', r = rm h' (Int32.ofNat p') f q ∧ gF (hTbI m) (hTbL m) h h' ∧ cR (pTb m) h' l ∧ pm_I h' m 17 = Int32.ofNat (k64 l.length) ∧ pm_I h' m 3 = pm_I (kp h m l.length) m 3 ∧ l.length < 4294967296 ∧ p < p' ∧ p' ≤ e) (fX16_readsTables (rm h (Int32.ofNat p) f q) 592) (sp_tbS B e p) := by
  have hm : 648 < m := mC_m C
  have K : pm_kd h 592 = 16 := C.1.1
  have rr := C.1.2.1
  have km := C.1.2.2.1
  have hb := C.1.2.2.2.2.2.2.2.2.2
  unfold fX16_readsTables sp_tbS
  refine q_t K (q_c (MR_Q (ms_num C.1 C.2.2.2.2.1 C.2.2.2.2.2.1 hp f q)) (fun h' z => by rw [z]; exact yF_r m eo el h) ?_)
  intro v1 p1 r e1 er
  subst er
  obtain ⟨b1, hp1⟩ := sp_num_b hp e1
  have nv := sp_num_v hb e1
  refine q_t K (q_b rr ?_)
  have g0 : gF (hTbI m) (hTbL m) h h := gF_r _ _ h
  have C0 := C
  refine q_b (ms_kept C0.1 nv _ f q) (q_t (show pm_kd (kp h m v1) m = 14 by rw [(kp_x h m eo el v1).2.1]; exact km) ?_)
  have m5 : m ≠ 592 := by omega
  have g1 : gF (hTbI m) (hTbL m) h (pm_setI (kp h m v1) m 17 (Int32.ofNat (k64 v1))) := by
    refine gF_t g0 (gF_t ?_ (gF_I _ _ (by unfold hTbI; omega)))
    unfold kp
    split
    · exact gF_r _ _ _
    · unfold xc
      split
      · exact gF_r _ _ _
      · exact gF_I _ _ (by unfold hTbI; omega)
  have y1 := hTb_y C g1

  rw [rm_a _ _ _ _ _ m5]
  have L := q_rows (s := sX16_readsTables) (f := f) (q := q) (st := fun k H => ((592, Int64.ofNat v1, Int64.ofNat k, H))) (row := sp_tb B e) (Cn := fun h l => cR (pTb m) h l) (AI := sTbI m) (AL := sTbL m) (c := v1) (fun h h' C g => gF_y (mC_m C) (mC_eo C) (mC_el C) (gF_m g (fun x y z => by unfold sTbI at z; unfold yI; omega) (fun x y z => by unfold sTbL at z; unfold yL; omega))) (fun H => by rw [ev_lm, aX16_readsTables_0]; unfold tX16_readsTables_19; rw [if_pos (Int64.le_refl _)]; rfl) (fun k p h l F R o' hk C hp hl cn hF next => q_Tb f q nv k p h l F R o' hk C hp hl cn hF next) v1 0 p1 _ [] (Nat.zero_add _) (mC_F C y1) hp1 rfl (cR_0 _ _)
  refine q_w L (fun h' y => yF_t y1 y) ?_
  rintro l p2 r e2 ⟨h', er, g2, cn, ln, hp2, hp3⟩
  have z : ∀ y, pm_I h' m y = pm_I (pm_setI (kp h m v1) m 17 (Int32.ofNat (k64 v1))) m y := fun y => g2.2.2.2.2.1 m y (by unfold sTbI; omega)
  refine ⟨h', er, gF_t g1 (gF_m g2 (fun x y z => .inl z) (fun x y z => z)), cn, ?_, ?_, by rw [ln]; exact nv, by omega, hp3⟩
  · rw [z, ev_II, if_pos rfl, if_pos rfl, ln]
  · rw [z, ev_II, if_pos rfl, if_neg (by decide), ln]
/-- what reading the section writes -/
def hMmI (m x y : Nat) : Prop := sMmI m x y ∨ (x = m ∧ (y = 21 ∨ y = 3))
def hMmL (m x y : Nat) : Prop := sMmL m x y
def sp_mmS (B : Nat → Nat) (e p : Nat) : sp_O (List tMm) := sp_b (sp_num B e p) fun c p1 => sp_rows (sp_mm B e) c p1
theorem hMm_y {n b m eo el e : Nat} {B : Nat → Nat} {d : Bool} {h h' : pm_H} (C : mC h n b m eo el e d B) (g : gF (hMmI m) (hMmL m) h h') : yF m eo el h h' := gF_y (mC_m C) (mC_eo C) (mC_el C) (gF_m g (fun x y z => by unfold hMmI sMmI at z; unfold yI; omega) (fun x y z => by unfold hMmL sMmL at z; unfold yL; omega))
theorem ms_hMm {n b m eo el e : Nat} {B : Nat → Nat} {d : Bool} {h : pm_H} {p : Nat} (C : mC h n b m eo el e d B) (hp : p ≤ e) (f q : Int32) : ms_Q (fun h' => yF m eo el h h') (fun l p' r => ∃ h', r = rm h' (Int32.ofNat p') f q ∧ gF (hMmI m) (hMmL m) h h' ∧ cR (pMm m) h' l ∧ pm_I h' m 21 = Int32.ofNat (k64 l.length) ∧ pm_I h' m 3 = pm_I (kp h m l.length) m 3 ∧ l.length < 4294967296 ∧ p < p' ∧ p' ≤ e) (fX16_readsMemories (rm h (Int32.ofNat p) f q) 592) (sp_mmS B e p) := by
  have hm : 648 < m := mC_m C
  have K : pm_kd h 592 = 16 := C.1.1
  have rr := C.1.2.1
  have km := C.1.2.2.1
  have hb := C.1.2.2.2.2.2.2.2.2.2
  unfold fX16_readsMemories sp_mmS
  refine q_t K (q_c (MR_Q (ms_num C.1 C.2.2.2.2.1 C.2.2.2.2.2.1 hp f q)) (fun h' z => by rw [z]; exact yF_r m eo el h) ?_)
  intro v1 p1 r e1 er
  subst er
  obtain ⟨b1, hp1⟩ := sp_num_b hp e1
  have nv := sp_num_v hb e1
  refine q_t K (q_b rr ?_)
  have g0 : gF (hMmI m) (hMmL m) h h := gF_r _ _ h
  have C0 := C
  refine q_b (ms_kept C0.1 nv _ f q) (q_t (show pm_kd (kp h m v1) m = 14 by rw [(kp_x h m eo el v1).2.1]; exact km) ?_)
  have m5 : m ≠ 592 := by omega
  have g1 : gF (hMmI m) (hMmL m) h (pm_setI (kp h m v1) m 21 (Int32.ofNat (k64 v1))) := by
    refine gF_t g0 (gF_t ?_ (gF_I _ _ (by unfold hMmI; omega)))
    unfold kp
    split
    · exact gF_r _ _ _
    · unfold xc
      split
      · exact gF_r _ _ _
      · exact gF_I _ _ (by unfold hMmI; omega)
  have y1 := hMm_y C g1

  rw [rm_a _ _ _ _ _ m5]
  have L := q_rows (s := sX16_readsMemories) (f := f) (q := q) (st := fun k H => ((592, Int64.ofNat v1, Int64.ofNat k, H))) (row := sp_mm B e) (Cn := fun h l => cR (pMm m) h l) (AI := sMmI m) (AL := sMmL m) (c := v1) (fun h h' C g => gF_y (mC_m C) (mC_eo C) (mC_el C) (gF_m g (fun x y z => by unfold sMmI at z; unfold yI; omega) (fun x y z => by unfold sMmL at z; unfold yL; omega))) (fun H => by rw [ev_lm, aX16_readsMemories_0]; unfold tX16_readsMemories_19; rw [if_pos (Int64.le_refl _)]; rfl) (fun k p h l F R o' hk C hp hl cn hF next => q_Mm f q nv k p h l F R o' hk C hp hl cn hF next) v1 0 p1 _ [] (Nat.zero_add _) (mC_F C y1) hp1 rfl (cR_0 _ _)
  refine q_w L (fun h' y => yF_t y1 y) ?_
  rintro l p2 r e2 ⟨h', er, g2, cn, ln, hp2, hp3⟩
  have z : ∀ y, pm_I h' m y = pm_I (pm_setI (kp h m v1) m 21 (Int32.ofNat (k64 v1))) m y := fun y => g2.2.2.2.2.1 m y (by unfold sMmI; omega)
  refine ⟨h', er, gF_t g1 (gF_m g2 (fun x y z => .inl z) (fun x y z => z)), cn, ?_, ?_, by rw [ln]; exact nv, by omega, hp3⟩
  · rw [z, ev_II, if_pos rfl, if_pos rfl, ln]
  · rw [z, ev_II, if_pos rfl, if_neg (by decide), ln]
/-- what reading the section writes -/
def hXpI (m x y : Nat) : Prop := sXpI m x y ∨ (x = m ∧ (y = 28 ∨ y = 3))
def hXpL (m x y : Nat) : Prop := sXpL m x y
def sp_xpS (B : Nat → Nat) (e p : Nat) : sp_O (List tXp) := sp_b (sp_num B e p) fun c p1 => sp_rows (sp_xp B e) c p1
theorem hXp_y {n b m eo el e : Nat} {B : Nat → Nat} {d : Bool} {h h' : pm_H} (C : mC h n b m eo el e d B) (g : gF (hXpI m) (hXpL m) h h') : yF m eo el h h' := gF_y (mC_m C) (mC_eo C) (mC_el C) (gF_m g (fun x y z => by unfold hXpI sXpI at z; unfold yI; omega) (fun x y z => by unfold hXpL sXpL at z; unfold yL; omega))
theorem ms_hXp {n b m eo el e : Nat} {B : Nat → Nat} {d : Bool} {h : pm_H} {p : Nat} (C : mC h n b m eo el e d B) (hp : p ≤ e) (f q : Int32) : ms_Q (fun h' => yF m eo el h h') (fun l p' r => ∃ h', r = rm h' (Int32.ofNat p') f q ∧ gF (hXpI m) (hXpL m) h h' ∧ cR (pXp m) h' l ∧ pm_I h' m 28 = Int32.ofNat (k64 l.length) ∧ pm_I h' m 3 = pm_I (kp h m l.length) m 3 ∧ l.length < 4294967296 ∧ p < p' ∧ p' ≤ e) (fX16_readsExports (rm h (Int32.ofNat p) f q) 592) (sp_xpS B e p) := by
  have hm : 648 < m := mC_m C
  have K : pm_kd h 592 = 16 := C.1.1
  have rr := C.1.2.1
  have km := C.1.2.2.1
  have hb := C.1.2.2.2.2.2.2.2.2.2
  unfold fX16_readsExports sp_xpS
  refine q_t K (q_c (MR_Q (ms_num C.1 C.2.2.2.2.1 C.2.2.2.2.2.1 hp f q)) (fun h' z => by rw [z]; exact yF_r m eo el h) ?_)
  intro v1 p1 r e1 er
  subst er
  obtain ⟨b1, hp1⟩ := sp_num_b hp e1
  have nv := sp_num_v hb e1
  refine q_t K (q_b rr ?_)
  have g0 : gF (hXpI m) (hXpL m) h h := gF_r _ _ h
  have C0 := C
  refine q_b (ms_kept C0.1 nv _ f q) (q_t (show pm_kd (kp h m v1) m = 14 by rw [(kp_x h m eo el v1).2.1]; exact km) ?_)
  have m5 : m ≠ 592 := by omega
  have g1 : gF (hXpI m) (hXpL m) h (pm_setI (kp h m v1) m 28 (Int32.ofNat (k64 v1))) := by
    refine gF_t g0 (gF_t ?_ (gF_I _ _ (by unfold hXpI; omega)))
    unfold kp
    split
    · exact gF_r _ _ _
    · unfold xc
      split
      · exact gF_r _ _ _
      · exact gF_I _ _ (by unfold hXpI; omega)
  have y1 := hXp_y C g1

  rw [rm_a _ _ _ _ _ m5]
  have L := q_rows (s := sX16_readsExports) (f := f) (q := q) (st := fun k H => ((592, Int64.ofNat v1, Int64.ofNat k, H))) (row := sp_xp B e) (Cn := fun h l => cR (pXp m) h l) (AI := sXpI m) (AL := sXpL m) (c := v1) (fun h h' C g => gF_y (mC_m C) (mC_eo C) (mC_el C) (gF_m g (fun x y z => by unfold sXpI at z; unfold yI; omega) (fun x y z => by unfold sXpL at z; unfold yL; omega))) (fun H => by rw [ev_lm, aX16_readsExports_0]; unfold tX16_readsExports_19; rw [if_pos (Int64.le_refl _)]; rfl) (fun k p h l F R o' hk C hp hl cn hF next => q_Xp f q nv k p h l F R o' hk C hp hl cn hF next) v1 0 p1 _ [] (Nat.zero_add _) (mC_F C y1) hp1 rfl (cR_0 _ _)
  refine q_w L (fun h' y => yF_t y1 y) ?_
  rintro l p2 r e2 ⟨h', er, g2, cn, ln, hp2, hp3⟩
  have z : ∀ y, pm_I h' m y = pm_I (pm_setI (kp h m v1) m 28 (Int32.ofNat (k64 v1))) m y := fun y => g2.2.2.2.2.1 m y (by unfold sXpI; omega)
  refine ⟨h', er, gF_t g1 (gF_m g2 (fun x y z => .inl z) (fun x y z => z)), cn, ?_, ?_, by rw [ln]; exact nv, by omega, hp3⟩
  · rw [z, ev_II, if_pos rfl, if_pos rfl, ln]
  · rw [z, ev_II, if_pos rfl, if_neg (by decide), ln]
/-- what reading the section writes -/
def hImpI (m x y : Nat) : Prop := i2I m x y ∨ (x = m ∧ (y = 8 ∨ y = 3))
def hImpL (m x y : Nat) : Prop := i2L m x y
def sp_impS (B : Nat → Nat) (e p : Nat) : sp_O (List tImp) := sp_b (sp_num B e p) fun c p1 => sp_rows (sp_imp B e) c p1
theorem hImp_y {n b m eo el e : Nat} {B : Nat → Nat} {d : Bool} {h h' : pm_H} (C : mC h n b m eo el e d B) (g : gF (hImpI m) (hImpL m) h h') : yF m eo el h h' := gF_y (mC_m C) (mC_eo C) (mC_el C) (gF_m g (fun x y z => by unfold hImpI i2I at z; unfold yI; omega) (fun x y z => by unfold hImpL i2L at z; unfold yL; omega))
theorem ms_hImp {n b m eo el e : Nat} {B : Nat → Nat} {d : Bool} {h : pm_H} {p : Nat} (C : mC h n b m eo el e d B) (hp : p ≤ e) (f q : Int32) : ms_Q (fun h' => yF m eo el h h') (fun l p' r => ∃ h', r = rm h' (Int32.ofNat p') f q ∧ gF (hImpI m) (hImpL m) h h' ∧ cR (pImp m) h' l ∧ pm_I h' m 8 = Int32.ofNat (k64 l.length) ∧ pm_I h' m 3 = pm_I (kp h m l.length) m 3 ∧ l.length < 4294967296 ∧ p < p' ∧ p' ≤ e) (fX16_readsImports (rm h (Int32.ofNat p) f q) 592) (sp_impS B e p) := by
  have hm : 648 < m := mC_m C
  have K : pm_kd h 592 = 16 := C.1.1
  have rr := C.1.2.1
  have km := C.1.2.2.1
  have hb := C.1.2.2.2.2.2.2.2.2.2
  unfold fX16_readsImports sp_impS
  refine q_t K (q_c (MR_Q (ms_num C.1 C.2.2.2.2.1 C.2.2.2.2.2.1 hp f q)) (fun h' z => by rw [z]; exact yF_r m eo el h) ?_)
  intro v1 p1 r e1 er
  subst er
  obtain ⟨b1, hp1⟩ := sp_num_b hp e1
  have nv := sp_num_v hb e1
  refine q_t K (q_b rr ?_)
  have g0 : gF (hImpI m) (hImpL m) h h := gF_r _ _ h
  have C0 := C
  refine q_b (ms_kept C0.1 nv _ f q) (q_t (show pm_kd (kp h m v1) m = 14 by rw [(kp_x h m eo el v1).2.1]; exact km) ?_)
  have m5 : m ≠ 592 := by omega
  have g1 : gF (hImpI m) (hImpL m) h (pm_setI (kp h m v1) m 8 (Int32.ofNat (k64 v1))) := by
    refine gF_t g0 (gF_t ?_ (gF_I _ _ (by unfold hImpI; omega)))
    unfold kp
    split
    · exact gF_r _ _ _
    · unfold xc
      split
      · exact gF_r _ _ _
      · exact gF_I _ _ (by unfold hImpI; omega)
  have y1 := hImp_y C g1

  rw [rm_a _ _ _ _ _ m5]
  have L := q_rows (s := sX16_readsImports) (f := f) (q := q) (st := fun k H => (.inl (592, Int64.ofNat v1, Int64.ofNat k, H))) (row := sp_imp B e) (Cn := fun h l => cR (pImp m) h l) (AI := i2I m) (AL := i2L m) (c := v1) (fun h h' C g => gF_y (mC_m C) (mC_eo C) (mC_el C) (gF_m g (fun x y z => by unfold i2I at z; unfold yI; omega) (fun x y z => by unfold i2L at z; unfold yL; omega))) (fun H => by rw [ev_lm, aX16_readsImports_0]; unfold tX16_readsImports_19; rw [if_pos (Int64.le_refl _)]; rfl) (fun k p h l F R o' hk C hp hl cn hF next => q_imp f q nv k p h l F R o' hk C hp hl cn hF next) v1 0 p1 _ [] (Nat.zero_add _) (mC_F C y1) hp1 rfl (cR_0 _ _)
  refine q_w L (fun h' y => yF_t y1 y) ?_
  rintro l p2 r e2 ⟨h', er, g2, cn, ln, hp2, hp3⟩
  have z : ∀ y, pm_I h' m y = pm_I (pm_setI (kp h m v1) m 8 (Int32.ofNat (k64 v1))) m y := fun y => g2.2.2.2.2.1 m y (by unfold i2I; omega)
  refine ⟨h', er, gF_t g1 (gF_m g2 (fun x y z => .inl z) (fun x y z => z)), cn, ?_, ?_, by rw [ln]; exact nv, by omega, hp3⟩
  · rw [z, ev_II, if_pos rfl, if_pos rfl, ln]
  · rw [z, ev_II, if_pos rfl, if_neg (by decide), ln]
