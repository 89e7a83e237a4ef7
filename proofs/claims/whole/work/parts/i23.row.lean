/-! THE REFERENCE READS: the rows of the sections 3, 4, 5, 7 by rules -/
/-- a function: its type -/
abbrev tFn : Type := Nat
def pFn (m : Nat) (h : pm_H) (i : Nat) (a : tFn) : Prop := pm_L h (m + 10) i = Int64.ofNat a
def upFn (h : pm_H) (m k : Nat) (a : tFn) : pm_H := if k < 64 then pm_setL h (m + 10) k (Int64.ofNat a) else h
/-- what reading its rows writes -/
def sFnI (m x y : Nat) : Prop := (m + 10 ≤ x ∧ x ≤ m + 10)
def sFnL (m x y : Nat) : Prop := (m + 10 ≤ x ∧ x ≤ m + 10)
theorem upFn_F {m : Nat} {h : pm_H} (k : Nat) (a : tFn) : gF (sFnI m) (sFnL m) h (upFn h m k a) := by
  unfold upFn
  split
  · exact (gF_L _ _ (by unfold sFnL; omega))
  · exact gF_r _ _ h
theorem pFn_k {m : Nat} {h h' : pm_H} (hm : 648 < m) (eI : ∀ x y, x ≠ 592 → pm_I h' x y = pm_I h x y) (eL : ∀ x y, x ≠ 592 → pm_L h' x y = pm_L h x y) (i : Nat) (a : tFn) (q : pFn m h i a) : pFn m h' i a := by
  unfold pFn at q ⊢
  rw [eL (m + 10) _ (by omega)]
  exact q
theorem pFn_u {m : Nat} {h : pm_H} {l : List tFn} {a : tFn} (c : cR (pFn m) h l) : cR (pFn m) (upFn h m l.length a) (l ++ [a]) := by
  refine cR_app c (fun i x hi q => ?_) (fun hi => ?_)
  · unfold upFn
    split
    · unfold pFn at q ⊢
      simp (disch := omega) only [ev_II, ev_IL, ev_LI, ev_LL, b_eqf, if_false, ite_self]
      exact q
    · exact q
  · unfold upFn
    rw [if_pos hi]
    unfold pFn
    simp (disch := omega) only [ev_II, ev_IL, ev_LI, ev_LL, b_eqf, if_false, if_true, and_self]
/-- a table: type, least, greatest -/
abbrev tTb : Type := Nat × Nat × Int64
def pTb (m : Nat) (h : pm_H) (i : Nat) (a : tTb) : Prop := pm_I h (m + 11) i = Int32.ofNat a.1 ∧ pm_L h (m + 12) i = Int64.ofNat a.2.1 ∧ pm_L h (m + 13) i = a.2.2
def upTb (h : pm_H) (m k : Nat) (a : tTb) : pm_H := if k < 64 then pm_setL (pm_setL (pm_setI h (m + 11) k (Int32.ofNat a.1)) (m + 12) k (Int64.ofNat a.2.1)) (m + 13) k (a.2.2) else h
/-- what reading its rows writes -/
def sTbI (m x y : Nat) : Prop := (m + 11 ≤ x ∧ x ≤ m + 13)
def sTbL (m x y : Nat) : Prop := (x = 592 ∧ (y = 17 ∨ y = 18)) ∨ (m + 11 ≤ x ∧ x ≤ m + 13)
theorem upTb_F {m : Nat} {h : pm_H} (k : Nat) (a : tTb) : gF (sTbI m) (sTbL m) h (upTb h m k a) := by
  unfold upTb
  split
  · exact (gF_t (gF_t (gF_I _ _ (by unfold sTbI; omega)) (gF_L _ _ (by unfold sTbL; omega))) (gF_L _ _ (by unfold sTbL; omega)))
  · exact gF_r _ _ h
theorem pTb_k {m : Nat} {h h' : pm_H} (hm : 648 < m) (eI : ∀ x y, x ≠ 592 → pm_I h' x y = pm_I h x y) (eL : ∀ x y, x ≠ 592 → pm_L h' x y = pm_L h x y) (i : Nat) (a : tTb) (q : pTb m h i a) : pTb m h' i a := by
  unfold pTb at q ⊢
  rw [eI (m + 11) _ (by omega), eL (m + 12) _ (by omega), eL (m + 13) _ (by omega)]
  exact q
theorem pTb_u {m : Nat} {h : pm_H} {l : List tTb} {a : tTb} (c : cR (pTb m) h l) : cR (pTb m) (upTb h m l.length a) (l ++ [a]) := by
  refine cR_app c (fun i x hi q => ?_) (fun hi => ?_)
  · unfold upTb
    split
    · unfold pTb at q ⊢
      simp (disch := omega) only [ev_II, ev_IL, ev_LI, ev_LL, b_eqf, if_false, ite_self]
      exact q
    · exact q
  · unfold upTb
    rw [if_pos hi]
    unfold pTb
    simp (disch := omega) only [ev_II, ev_IL, ev_LI, ev_LL, b_eqf, if_false, if_true, and_self]
/-- a memory: least, greatest -/
abbrev tMm : Type := Nat × Int64
def pMm (m : Nat) (h : pm_H) (i : Nat) (a : tMm) : Prop := pm_L h (m + 14) i = Int64.ofNat a.1 ∧ pm_L h (m + 15) i = a.2
def upMm (h : pm_H) (m k : Nat) (a : tMm) : pm_H := if k < 64 then pm_setL (pm_setL h (m + 14) k (Int64.ofNat a.1)) (m + 15) k (a.2) else h
/-- what reading its rows writes -/
def sMmI (m x y : Nat) : Prop := (m + 14 ≤ x ∧ x ≤ m + 15)
def sMmL (m x y : Nat) : Prop := (x = 592 ∧ (y = 17 ∨ y = 18)) ∨ (m + 14 ≤ x ∧ x ≤ m + 15)
theorem upMm_F {m : Nat} {h : pm_H} (k : Nat) (a : tMm) : gF (sMmI m) (sMmL m) h (upMm h m k a) := by
  unfold upMm
  split
  · exact (gF_t (gF_L _ _ (by unfold sMmL; omega)) (gF_L _ _ (by unfold sMmL; omega)))
  · exact gF_r _ _ h
theorem pMm_k {m : Nat} {h h' : pm_H} (hm : 648 < m) (eI : ∀ x y, x ≠ 592 → pm_I h' x y = pm_I h x y) (eL : ∀ x y, x ≠ 592 → pm_L h' x y = pm_L h x y) (i : Nat) (a : tMm) (q : pMm m h i a) : pMm m h' i a := by
  unfold pMm at q ⊢
  rw [eL (m + 14) _ (by omega), eL (m + 15) _ (by omega)]
  exact q
theorem pMm_u {m : Nat} {h : pm_H} {l : List tMm} {a : tMm} (c : cR (pMm m) h l) : cR (pMm m) (upMm h m l.length a) (l ++ [a]) := by
  refine cR_app c (fun i x hi q => ?_) (fun hi => ?_)
  · unfold upMm
    split
    · unfold pMm at q ⊢
      simp (disch := omega) only [ev_II, ev_IL, ev_LI, ev_LL, b_eqf, if_false, ite_self]
      exact q
    · exact q
  · unfold upMm
    rw [if_pos hi]
    unfold pMm
    simp (disch := omega) only [ev_II, ev_IL, ev_LI, ev_LL, b_eqf, if_false, if_true, and_self]
/-- an export: where its name is, how long, kind, number -/
abbrev tXp : Type := Nat × Nat × Nat × Nat
def pXp (m : Nat) (h : pm_H) (i : Nat) (a : tXp) : Prop := pm_I h (m + 19) i = Int32.ofNat a.1 ∧ pm_I h (m + 20) i = Int32.ofNat a.2.1 ∧ pm_I h (m + 21) i = Int32.ofNat a.2.2.1 ∧ pm_L h (m + 22) i = Int64.ofNat a.2.2.2
def upXp (h : pm_H) (m k : Nat) (a : tXp) : pm_H := if k < 64 then pm_setL (pm_setI (pm_setI (pm_setI h (m + 19) k (Int32.ofNat a.1)) (m + 20) k (Int32.ofNat a.2.1)) (m + 21) k (Int32.ofNat a.2.2.1)) (m + 22) k (Int64.ofNat a.2.2.2) else h
/-- what reading its rows writes -/
def sXpI (m x y : Nat) : Prop := (x = 592 ∧ y = 16) ∨ (m + 19 ≤ x ∧ x ≤ m + 22)
def sXpL (m x y : Nat) : Prop := (m + 19 ≤ x ∧ x ≤ m + 22)
theorem upXp_F {m : Nat} {h : pm_H} (k : Nat) (a : tXp) : gF (sXpI m) (sXpL m) h (upXp h m k a) := by
  unfold upXp
  split
  · exact (gF_t (gF_t (gF_t (gF_I _ _ (by unfold sXpI; omega)) (gF_I _ _ (by unfold sXpI; omega))) (gF_I _ _ (by unfold sXpI; omega))) (gF_L _ _ (by unfold sXpL; omega)))
  · exact gF_r _ _ h
theorem pXp_k {m : Nat} {h h' : pm_H} (hm : 648 < m) (eI : ∀ x y, x ≠ 592 → pm_I h' x y = pm_I h x y) (eL : ∀ x y, x ≠ 592 → pm_L h' x y = pm_L h x y) (i : Nat) (a : tXp) (q : pXp m h i a) : pXp m h' i a := by
  unfold pXp at q ⊢
  rw [eI (m + 19) _ (by omega), eI (m + 20) _ (by omega), eI (m + 21) _ (by omega), eL (m + 22) _ (by omega)]
  exact q
theorem pXp_u {m : Nat} {h : pm_H} {l : List tXp} {a : tXp} (c : cR (pXp m) h l) : cR (pXp m) (upXp h m l.length a) (l ++ [a]) := by
  refine cR_app c (fun i x hi q => ?_) (fun hi => ?_)
  · unfold upXp
    split
    · unfold pXp at q ⊢
      simp (disch := omega) only [ev_II, ev_IL, ev_LI, ev_LL, b_eqf, if_false, ite_self]
      exact q
    · exact q
  · unfold upXp
    rw [if_pos hi]
    unfold pXp
    simp (disch := omega) only [ev_II, ev_IL, ev_LI, ev_LL, b_eqf, if_false, if_true, and_self]
def sp_fn (B : Nat → Nat) (e p : Nat) : sp_O tFn := sp_b (sp_num B e p) fun v p1 => .inr (v, p1)
def sp_tb (B : Nat → Nat) (e p : Nat) : sp_O tTb := sp_b (sp_byte sp_isR 8 B e p) fun t p1 => sp_b (sp_lim B e p1) fun l p2 => .inr ((t, l.1, l.2), p2)
def sp_mm (B : Nat → Nat) (e p : Nat) : sp_O tMm := sp_b (sp_lim B e p) fun l p1 => .inr ((l.1, l.2), p1)
def sp_xp (B : Nat → Nat) (e p : Nat) : sp_O tXp := sp_b (sp_name B e p) fun a p1 => sp_b (sp_byte (fun c => decide (c ≤ 3)) 7 B e p1) fun t p2 => sp_b (sp_num B e p2) fun v p3 => .inr ((a, p1 - a, t, v), p3)
section MROW
variable {n b m eo el e : Nat} {B : Nat → Nat} {d : Bool}
theorem q_Fn (f q : Int32) {c : Nat} (hc : c < 4294967296) (k p : Nat) (h : pm_H) (l : List tFn) (F : pm_H → Prop) (R : List tFn → Nat → pm_H → Prop) (o' : tFn → Nat → sp_O (List tFn)) (hk : k < c) (C : mC h n b m eo el e d B) (hp : p ≤ e) (hl : l.length = k) (cn : cR (pFn m) h l) (hF : ∀ h', yF m eo el h h' → F h') (next : ∀ a p' h', sp_fn B e p = .inr (a, p') → gF (sFnI m) (sFnL m) h h' → cR (pFn m) h' (l ++ [a]) → p < p' → p' ≤ e → ms_Q F R (pm_lim sX16_readsFunctions (592, Int64.ofNat c, Int64.ofNat (k + 1), rm h' (Int32.ofNat p') f q)) (o' a p')) : ms_Q F R (pm_lim sX16_readsFunctions (592, Int64.ofNat c, Int64.ofNat k, rm h (Int32.ofNat p) f q)) (sp_b (sp_fn B e p) o') := by
  have hm : 648 < m := mC_m C
  have K : pm_kd h 592 = 16 := C.1.1
  have rr := C.1.2.1
  have km := C.1.2.2.1
  have hb := C.1.2.2.2.2.2.2.2.2.2
  have k1 : Int64.ofNat k + 1 = Int64.ofNat (k + 1) := ll_ad k 1
  have kc : k < 64 → (Int64.ofNat k).toInt32.toNatClampNeg = k := fun z => by rw [ll_t3, nn_cm (by omega)]
  refine s_w (aX16_readsFunctions_0 ..) ?_
  unfold tX16_readsFunctions_27
  refine s_f (show ¬ Int64.ofNat c ≤ Int64.ofNat k by rw [ll_le (by omega) (by omega)]; omega) ?_
  refine s_t (K) ?_
  unfold sp_fn
  rw [sp_ba]
  refine s_c (MR_Q (ms_num C.1 C.2.2.2.2.1 C.2.2.2.2.2.1 hp f q)) (fun h' z => by rw [z]; exact hF _ (yF_r m eo el h)) ?_
  intro v1 p1 r e1 er
  subst er
  obtain ⟨b1, hp1⟩ := sp_num_b hp e1
  have er0 : sp_fn B e p = .inr (v1, p1) := by unfold sp_fn; rw [e1, sp_br]
  have eI : ∀ x y, x ≠ 592 → pm_I h x y = pm_I h x y := fun x y hx => by simp only [ev_II, ev_IL, if_neg hx]
  have eL : ∀ x y, x ≠ 592 → pm_L h x y = pm_L h x y := fun x y hx => by simp only [ev_LI, ev_LL, if_neg hx]
  have nx := next v1 p1 (upFn h m k v1) er0 (gF_t (gF_r _ _ h) (upFn_F k v1)) (by rw [← hl]; exact pFn_u (fun i x z hi => pFn_k hm eI eL i x (cn i x z hi))) (by omega) hp1
  obtain ⟨r16, k16, l16⟩ := mP_16 C.2.2.1
  have ki : ∀ ln, ln = 64 → k < 64 → pm_in (Int64.ofNat k).toInt32 ln := fun ln z z2 => by rw [ll_t3, nn_in (by omega)]; omega
  by_cases k6 : k < 64
  · refine s_f (show ¬ (64 : Int64) ≤ Int64.ofNat k by rw [n6_64, ll_le (by omega) (by omega)]; omega) ?_
    refine s_t (K) ?_
    refine s_b rr ?_
    refine s_t (km) ?_
    refine s_b r16 ?_
    refine s_t (k16) ?_
    refine s_t (ki _ l16 k6) ?_
    refine s_l ?_
    refine s_n ?_
    unfold upFn at nx
    rw [if_pos k6] at nx
    simp (disch := omega) only [kc k6, k1, ev_LL, ev_LI, ev_II, ev_IL, r_L, r_11, b_eqf, b_eqt, if_false, if_true, rm_sL, rm_a]
    exact nx
  · refine s_t (show (64 : Int64) ≤ Int64.ofNat k by rw [n6_64, ll_le (by omega) (by omega)]; omega) ?_
    refine s_l ?_
    refine s_n ?_
    unfold upFn at nx
    rw [if_neg k6] at nx
    rw [k1]
    exact nx
theorem q_Tb (f q : Int32) {c : Nat} (hc : c < 4294967296) (k p : Nat) (h : pm_H) (l : List tTb) (F : pm_H → Prop) (R : List tTb → Nat → pm_H → Prop) (o' : tTb → Nat → sp_O (List tTb)) (hk : k < c) (C : mC h n b m eo el e d B) (hp : p ≤ e) (hl : l.length = k) (cn : cR (pTb m) h l) (hF : ∀ h', yF m eo el h h' → F h') (next : ∀ a p' h', sp_tb B e p = .inr (a, p') → gF (sTbI m) (sTbL m) h h' → cR (pTb m) h' (l ++ [a]) → p < p' → p' ≤ e → ms_Q F R (pm_lim sX16_readsTables (592, Int64.ofNat c, Int64.ofNat (k + 1), rm h' (Int32.ofNat p') f q)) (o' a p')) : ms_Q F R (pm_lim sX16_readsTables (592, Int64.ofNat c, Int64.ofNat k, rm h (Int32.ofNat p) f q)) (sp_b (sp_tb B e p) o') := by
  have hm : 648 < m := mC_m C
  have K : pm_kd h 592 = 16 := C.1.1
  have rr := C.1.2.1
  have km := C.1.2.2.1
  have hb := C.1.2.2.2.2.2.2.2.2.2
  have k1 : Int64.ofNat k + 1 = Int64.ofNat (k + 1) := ll_ad k 1
  have kc : k < 64 → (Int64.ofNat k).toInt32.toNatClampNeg = k := fun z => by rw [ll_t3, nn_cm (by omega)]
  refine s_w (aX16_readsTables_0 ..) ?_
  unfold tX16_readsTables_19
  refine s_f (show ¬ Int64.ofNat c ≤ Int64.ofNat k by rw [ll_le (by omega) (by omega)]; omega) ?_
  refine s_t (K) ?_
  unfold sp_tb
  rw [sp_ba]
  refine s_c (MR_Q (ms_ref C.1 C.2.2.2.2.1 C.2.2.2.2.2.1 hp f q)) (fun h' z => by rw [z]; exact hF _ (yF_r m eo el h)) ?_
  intro v1 p1 r e1 er
  subst er
  obtain ⟨b1, hp1⟩ := sp_byte_b hp e1
  refine s_t (K) ?_
  rw [sp_ba]
  refine s_c (ms_lim C hp1 f q) (fun h' z => hF _ z) ?_
  rintro v2 p2 r e2 ⟨er, -, b2, hp2⟩
  subst er
  obtain ⟨C2a, y2a⟩ := mC_L C (.inl rfl) (Int64.ofNat v2.1)
  obtain ⟨C2, y2b⟩ := mC_L C2a (.inr rfl) v2.2
  have er0 : sp_tb B e p = .inr ((v1, v2.1, v2.2), p2) := by unfold sp_tb; rw [e1, sp_br, e2, sp_br]
  have eI : ∀ x y, x ≠ 592 → pm_I (pm_setL (pm_setL h 592 17 (Int64.ofNat v2.1)) 592 18 v2.2) x y = pm_I h x y := fun x y hx => by simp only [ev_II, ev_IL, if_neg hx]
  have eL : ∀ x y, x ≠ 592 → pm_L (pm_setL (pm_setL h 592 17 (Int64.ofNat v2.1)) 592 18 v2.2) x y = pm_L h x y := fun x y hx => by simp only [ev_LI, ev_LL, if_neg hx]
  have nx := next (v1, v2.1, v2.2) p2 (upTb (pm_setL (pm_setL h 592 17 (Int64.ofNat v2.1)) 592 18 v2.2) m k (v1, v2.1, v2.2)) er0 (gF_t (gF_t (gF_L _ _ (by unfold sTbL; omega)) (gF_L _ _ (by unfold sTbL; omega))) (upTb_F k (v1, v2.1, v2.2))) (by rw [← hl]; exact pTb_u (fun i x z hi => pTb_k hm eI eL i x (cn i x z hi))) (by omega) hp2
  obtain ⟨r18, k18, l18⟩ := mP_18 C2.2.2.1
  obtain ⟨r19, k19, l19⟩ := mP_19 C2.2.2.1
  obtain ⟨r20, k20, l20⟩ := mP_20 C2.2.2.1
  have ki : ∀ ln, ln = 64 → k < 64 → pm_in (Int64.ofNat k).toInt32 ln := fun ln z z2 => by rw [ll_t3, nn_in (by omega)]; omega
  by_cases k6 : k < 64
  · refine s_f (show ¬ (64 : Int64) ≤ Int64.ofNat k by rw [n6_64, ll_le (by omega) (by omega)]; omega) ?_
    refine s_t (K) ?_
    refine s_b rr ?_
    refine s_t (km) ?_
    refine s_b r18 ?_
    refine s_t (k18) ?_
    refine s_t (ki _ l18 k6) ?_
    refine s_b r19 ?_
    refine s_l ?_
    refine s_t (k19) ?_
    refine s_t (ki _ l19 k6) ?_
    refine s_b r20 ?_
    refine s_l ?_
    refine s_t (k20) ?_
    refine s_t (ki _ l20 k6) ?_
    refine s_l ?_
    refine s_n ?_
    unfold upTb at nx
    rw [if_pos k6] at nx
    simp (disch := omega) only [kc k6, k1, ev_LL, ev_LI, ev_II, ev_IL, r_L, r_11, b_eqf, b_eqt, if_false, if_true, rm_sL, rm_a]
    exact nx
  · refine s_t (show (64 : Int64) ≤ Int64.ofNat k by rw [n6_64, ll_le (by omega) (by omega)]; omega) ?_
    refine s_l ?_
    refine s_n ?_
    unfold upTb at nx
    rw [if_neg k6] at nx
    rw [k1]
    exact nx
theorem q_Mm (f q : Int32) {c : Nat} (hc : c < 4294967296) (k p : Nat) (h : pm_H) (l : List tMm) (F : pm_H → Prop) (R : List tMm → Nat → pm_H → Prop) (o' : tMm → Nat → sp_O (List tMm)) (hk : k < c) (C : mC h n b m eo el e d B) (hp : p ≤ e) (hl : l.length = k) (cn : cR (pMm m) h l) (hF : ∀ h', yF m eo el h h' → F h') (next : ∀ a p' h', sp_mm B e p = .inr (a, p') → gF (sMmI m) (sMmL m) h h' → cR (pMm m) h' (l ++ [a]) → p < p' → p' ≤ e → ms_Q F R (pm_lim sX16_readsMemories (592, Int64.ofNat c, Int64.ofNat (k + 1), rm h' (Int32.ofNat p') f q)) (o' a p')) : ms_Q F R (pm_lim sX16_readsMemories (592, Int64.ofNat c, Int64.ofNat k, rm h (Int32.ofNat p) f q)) (sp_b (sp_mm B e p) o') := by
  have hm : 648 < m := mC_m C
  have K : pm_kd h 592 = 16 := C.1.1
  have rr := C.1.2.1
  have km := C.1.2.2.1
  have hb := C.1.2.2.2.2.2.2.2.2.2
  have k1 : Int64.ofNat k + 1 = Int64.ofNat (k + 1) := ll_ad k 1
  have kc : k < 64 → (Int64.ofNat k).toInt32.toNatClampNeg = k := fun z => by rw [ll_t3, nn_cm (by omega)]
  refine s_w (aX16_readsMemories_0 ..) ?_
  unfold tX16_readsMemories_19
  refine s_f (show ¬ Int64.ofNat c ≤ Int64.ofNat k by rw [ll_le (by omega) (by omega)]; omega) ?_
  refine s_t (K) ?_
  unfold sp_mm
  rw [sp_ba]
  refine s_c (ms_lim C hp f q) (fun h' z => hF _ z) ?_
  rintro v1 p1 r e1 ⟨er, -, b1, hp1⟩
  subst er
  obtain ⟨C1a, y1a⟩ := mC_L C (.inl rfl) (Int64.ofNat v1.1)
  obtain ⟨C1, y1b⟩ := mC_L C1a (.inr rfl) v1.2
  have er0 : sp_mm B e p = .inr ((v1.1, v1.2), p1) := by unfold sp_mm; rw [e1, sp_br]
  have eI : ∀ x y, x ≠ 592 → pm_I (pm_setL (pm_setL h 592 17 (Int64.ofNat v1.1)) 592 18 v1.2) x y = pm_I h x y := fun x y hx => by simp only [ev_II, ev_IL, if_neg hx]
  have eL : ∀ x y, x ≠ 592 → pm_L (pm_setL (pm_setL h 592 17 (Int64.ofNat v1.1)) 592 18 v1.2) x y = pm_L h x y := fun x y hx => by simp only [ev_LI, ev_LL, if_neg hx]
  have nx := next (v1.1, v1.2) p1 (upMm (pm_setL (pm_setL h 592 17 (Int64.ofNat v1.1)) 592 18 v1.2) m k (v1.1, v1.2)) er0 (gF_t (gF_t (gF_L _ _ (by unfold sMmL; omega)) (gF_L _ _ (by unfold sMmL; omega))) (upMm_F k (v1.1, v1.2))) (by rw [← hl]; exact pMm_u (fun i x z hi => pMm_k hm eI eL i x (cn i x z hi))) (by omega) hp1
  obtain ⟨r22, k22, l22⟩ := mP_22 C1.2.2.1
  obtain ⟨r23, k23, l23⟩ := mP_23 C1.2.2.1
  have ki : ∀ ln, ln = 64 → k < 64 → pm_in (Int64.ofNat k).toInt32 ln := fun ln z z2 => by rw [ll_t3, nn_in (by omega)]; omega
  by_cases k6 : k < 64
  · refine s_f (show ¬ (64 : Int64) ≤ Int64.ofNat k by rw [n6_64, ll_le (by omega) (by omega)]; omega) ?_
    refine s_t (K) ?_
    refine s_b rr ?_
    refine s_t (km) ?_
    refine s_b r22 ?_
    refine s_l ?_
    refine s_t (k22) ?_
    refine s_t (ki _ l22 k6) ?_
    refine s_b r23 ?_
    refine s_l ?_
    refine s_t (k23) ?_
    refine s_t (ki _ l23 k6) ?_
    refine s_l ?_
    refine s_n ?_
    unfold upMm at nx
    rw [if_pos k6] at nx
    simp (disch := omega) only [kc k6, k1, ev_LL, ev_LI, ev_II, ev_IL, r_L, r_11, b_eqf, b_eqt, if_false, if_true, rm_sL, rm_a]
    exact nx
  · refine s_t (show (64 : Int64) ≤ Int64.ofNat k by rw [n6_64, ll_le (by omega) (by omega)]; omega) ?_
    refine s_l ?_
    refine s_n ?_
    unfold upMm at nx
    rw [if_neg k6] at nx
    rw [k1]
    exact nx
theorem q_Xp (f q : Int32) {c : Nat} (hc : c < 4294967296) (k p : Nat) (h : pm_H) (l : List tXp) (F : pm_H → Prop) (R : List tXp → Nat → pm_H → Prop) (o' : tXp → Nat → sp_O (List tXp)) (hk : k < c) (C : mC h n b m eo el e d B) (hp : p ≤ e) (hl : l.length = k) (cn : cR (pXp m) h l) (hF : ∀ h', yF m eo el h h' → F h') (next : ∀ a p' h', sp_xp B e p = .inr (a, p') → gF (sXpI m) (sXpL m) h h' → cR (pXp m) h' (l ++ [a]) → p < p' → p' ≤ e → ms_Q F R (pm_lim sX16_readsExports (592, Int64.ofNat c, Int64.ofNat (k + 1), rm h' (Int32.ofNat p') f q)) (o' a p')) : ms_Q F R (pm_lim sX16_readsExports (592, Int64.ofNat c, Int64.ofNat k, rm h (Int32.ofNat p) f q)) (sp_b (sp_xp B e p) o') := by
  have hm : 648 < m := mC_m C
  have K : pm_kd h 592 = 16 := C.1.1
  have rr := C.1.2.1
  have km := C.1.2.2.1
  have hb := C.1.2.2.2.2.2.2.2.2.2
  have k1 : Int64.ofNat k + 1 = Int64.ofNat (k + 1) := ll_ad k 1
  have kc : k < 64 → (Int64.ofNat k).toInt32.toNatClampNeg = k := fun z => by rw [ll_t3, nn_cm (by omega)]
  refine s_w (aX16_readsExports_0 ..) ?_
  unfold tX16_readsExports_19
  refine s_f (show ¬ Int64.ofNat c ≤ Int64.ofNat k by rw [ll_le (by omega) (by omega)]; omega) ?_
  refine s_t (K) ?_
  unfold sp_xp
  rw [sp_ba]
  refine s_c (ms_name' C hp f q) (fun h' z => hF _ z) ?_
  rintro v1 p1 r e1 ⟨er, b1, hp1, n1⟩
  subst er
  obtain ⟨C1, y1⟩ := mC_16 C (Int32.ofNat v1)
  refine s_t (K) ?_
  refine s_l ?_
  refine s_l ?_
  rw [sp_ba]
  refine s_c (MR_Q (ms_small C1.1 C1.2.2.2.2.1 C1.2.2.2.2.2.1 hp1 f q (t := 3) (by decide))) (fun h' z => by rw [z]; exact hF _ (y1)) ?_
  intro v2 p2 r e2 er
  subst er
  obtain ⟨b2, hp2⟩ := sp_byte_b hp1 e2
  have v2l : v2 ≤ 3 := of_decide_eq_true b2.2.2.2
  refine s_t (K) ?_
  rw [sp_ba]
  refine s_c (MR_Q (ms_num C1.1 C1.2.2.2.2.1 C1.2.2.2.2.2.1 hp2 f q)) (fun h' z => by rw [z]; exact hF _ (y1)) ?_
  intro v3 p3 r e3 er
  subst er
  obtain ⟨b3, hp3⟩ := sp_num_b hp2 e3
  have er0 : sp_xp B e p = .inr ((v1, p1 - v1, v2, v3), p3) := by unfold sp_xp; rw [e1, sp_br, e2, sp_br, e3, sp_br]
  have eI : ∀ x y, x ≠ 592 → pm_I (pm_setI h 592 16 (Int32.ofNat v1)) x y = pm_I h x y := fun x y hx => by simp only [ev_II, ev_IL, if_neg hx]
  have eL : ∀ x y, x ≠ 592 → pm_L (pm_setI h 592 16 (Int32.ofNat v1)) x y = pm_L h x y := fun x y hx => by simp only [ev_LI, ev_LL, if_neg hx]
  have nx := next (v1, p1 - v1, v2, v3) p3 (upXp (pm_setI h 592 16 (Int32.ofNat v1)) m k (v1, p1 - v1, v2, v3)) er0 (gF_t (gF_I _ _ (by unfold sXpI; omega)) (upXp_F k (v1, p1 - v1, v2, v3))) (by rw [← hl]; exact pXp_u (fun i x z hi => pXp_k hm eI eL i x (cn i x z hi))) (by omega) hp3
  obtain ⟨r29, k29, l29⟩ := mP_29 C1.2.2.1
  obtain ⟨r30, k30, l30⟩ := mP_30 C1.2.2.1
  obtain ⟨r31, k31, l31⟩ := mP_31 C1.2.2.1
  obtain ⟨r32, k32, l32⟩ := mP_32 C1.2.2.1
  have ki : ∀ ln, ln = 64 → k < 64 → pm_in (Int64.ofNat k).toInt32 ln := fun ln z z2 => by rw [ll_t3, nn_in (by omega)]; omega
  by_cases k6 : k < 64
  · refine s_f (show ¬ (64 : Int64) ≤ Int64.ofNat k by rw [n6_64, ll_le (by omega) (by omega)]; omega) ?_
    refine s_t (K) ?_
    refine s_b rr ?_
    refine s_t (km) ?_
    refine s_b r29 ?_
    refine s_t (k29) ?_
    refine s_t (ki _ l29 k6) ?_
    refine s_b r30 ?_
    refine s_l ?_
    refine s_t (k30) ?_
    refine s_t (ki _ l30 k6) ?_
    refine s_b r31 ?_
    refine s_t (k31) ?_
    refine s_t (ki _ l31 k6) ?_
    refine s_b r32 ?_
    refine s_t (k32) ?_
    refine s_t (ki _ l32 k6) ?_
    refine s_l ?_
    refine s_n ?_
    unfold upXp at nx
    rw [if_pos k6] at nx
    simp (disch := omega) only [kc k6, k1, ev_LL, ev_LI, ev_II, ev_IL, r_L, r_11, b_eqf, b_eqt, if_false, if_true, r_16, nn_sb, rm_sL, rm_a]
    exact nx
  · refine s_t (show (64 : Int64) ≤ Int64.ofNat k by rw [n6_64, ll_le (by omega) (by omega)]; omega) ?_
    refine s_l ?_
    refine s_n ?_
    unfold upXp at nx
    rw [if_neg k6] at nx
    rw [k1]
    exact nx
end MROW
