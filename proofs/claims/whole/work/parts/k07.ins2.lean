/-! THE CLASS READS: the rest of an instruction -/
section CINS2
variable {h : pm_H} {n b mm e p : Nat} {B : Nat → Nat} {o oa l : Int32} {x y : Int64}
theorem cd_sll (K : pm_kd h 19 = 9) {f : Int32} (hf : f ≠ 0) (a q : Int32) (i : Int64) : cd_Q wH (iF h) f q (pm_lim sX9_selected (19, i, rc (ri h o oa l x y) a f q)) := by
  refine z_w (aX9_selected_0 ..) ?_
  unfold tX9_selected_32
  exact z_t K (z_i (fun _ => z_r (y_r (a := a) rfl ⟨_, _, _, _, _, rfl⟩)) (fun _ => z_f (show ¬ pm_I (rc (ri h o oa l x y) a f q) 19 3 = 0 from hf) (z_r (y_r (a := a) rfl ⟨_, _, _, _, _, rfl⟩))))
theorem cd_sel (K : pm_kd h 19 = 9) {f : Int32} (hf : f ≠ 0) (a q : Int32) : cd_Q wH (iF h) f q (fX9_selected (rc (ri h o oa l x y) a f q) 19) := by
  unfold fX9_selected
  refine y_t K (y_b (cd_num (h := ri h _ _ _ _ _) K hf a q 32 (by decide)) (y_t K ?_))
  rw [ci_8, cx_lim K]
  exact y_i (fun _ => cd_sll K hf _ _ _) (fun _ => y_i (fun _ => cd_sll K hf _ _ _) (fun _ => y_b rfl (cd_sll K hf _ _ _)))
theorem cs_sll {β : Type} {R : β → Nat → pm_H → Prop} {kk : Nat → Nat → sp_O β} (C : cS h n b mm B) (ie : pm_I h 19 2 = Int32.ofNat e) (he : e ≤ n) (q : Int32) {c : Nat} (hc : c < 4294967296) : ∀ j k t p : Nat, k + j = c → p ≤ e → (∀ t' p', p ≤ p' → p' ≤ e → cs_Q wH (iF h) R (some (rc (ri h o oa l (Int64.ofNat c) (Int64.ofNat t')) (Int32.ofNat p') 0 q)) (kk t' p')) → cs_Q wH (iF h) R (pm_lim sX9_selected (19, Int64.ofNat k, rc (ri h o oa l (Int64.ofNat c) (Int64.ofNat t)) (Int32.ofNat p) 0 q)) (sp_b (sp_tys B e j t p) kk) := by
  have K := C.1
  intro j
  induction j with
  | zero =>
    intro k t p hk hp Z
    refine v_w (aX9_selected_0 ..) ?_
    unfold tX9_selected_32 sp_tys
    exact v_t K (v_t (show Int64.ofNat c ≤ Int64.ofNat k by rw [ll_le (by omega) (by omega)]; omega) (v_r (Z t p (Nat.le_refl _) hp)))
  | succ j ih =>
    intro k t p hk hp Z
    refine v_w (aX9_selected_0 ..) ?_
    unfold tX9_selected_32 sp_tys
    rw [sp_bb]
    refine v_t K (v_f (show ¬ Int64.ofNat c ≤ Int64.ofNat k by rw [ll_le (by omega) (by omega)]; omega) (v_t rfl (v_p (cs_vt (cS_ri C) ie he hp q) (fun r1 a f q hf => z_t K (z_l (z_n ?_))) ?_)))
    · rw [ci_9]; exact cd_sll K hf _ _ _
    · intro v p1 r e1 er
      subst er
      have pb := sp_byte_b hp e1
      refine v_t K (v_l (v_n ?_))
      have vb := C.2.2.2.2.2.2.2.2.2 p
      rw [ci_9, show Int64.ofNat k + 1 = Int64.ofNat (k + 1) from ll_ad k 1, show ((Int32.ofNat v, rc (ri h o oa l (Int64.ofNat c) (Int64.ofNat t)) (Int32.ofNat p1) 0 q).1).toInt64 = Int64.ofNat v from nn_t6 (by omega)]
      exact ih (k + 1) v p1 (by omega) (by omega) (fun t' p' h1 h2 => Z t' p' (by omega) h2)
theorem cs_sel {ob : Bool} (C : cS h n b mm B) (ie : pm_I h 19 2 = Int32.ofNat e) (he : e ≤ n) (hp : p ≤ e) (ib : (pm_I h 19 16 = 0) = (ob = false)) (op : Nat) (q : Int32) : cs_Q wH (iF h) (cRI h oa l ob q) (fX9_selected (rc (ri h (Int32.ofNat op) oa l x 0) (Int32.ofNat p) 0 q) 19) (sp_b (sp_num B e p) fun x p1 => sp_b (sp_tys B e x 0 p1) fun t p2 => .inr ((op, Int64.ofNat x, Int64.ofNat t, decide (x ≠ 1)), p2)) := by
  have K := C.1
  have n4 := C.2.2.2.2.2.2.1
  unfold fX9_selected
  refine u_t K (u_p (cs_num (cS_ri C) ie he hp q) (fun r1 a f q hf => y_t K ?_) ?_)
  · rw [ci_8, cx_lim K]
    exact y_i (fun _ => cd_sll K hf _ _ _) (fun _ => y_i (fun _ => cd_sll K hf _ _ _) (fun _ => y_b rfl (cd_sll K hf _ _ _)))
  · intro v p1 r e1 er
    subst er
    have pb := sp_num_b hp e1
    have vl : v < 4294967296 := sp_nu_v C.2.2.2.2.2.2.2.2.2 (by decide) (by decide) (by decide) e1
    refine u_t K ?_
    rw [ci_8, cx_lim K]
    by_cases c1 : ob = true
    · subst c1
      refine u_f (show ¬ pm_I h 19 16 = 0 by rw [ib]; decide) ?_
      by_cases c2 : v = 1
      · refine u_t (show Int64.ofNat v = Int64.ofNat 1 by rw [c2]) ?_
        refine cs_sll C ie he q vl v 0 0 p1 (by omega) (by omega) (fun t' p' _ _ => u_r ?_)
        show _ = rc (ri h (Int32.ofNat op) oa (xv l (pm_I h 19 11) (decide (v ≠ 1) && true)) _ _) _ _ _
        rw [decide_eq_false (fun z => z c2)]
        rfl
      · refine u_f (show ¬ Int64.ofNat v = Int64.ofNat 1 by rw [ll_eq (by omega) (by decide)]; exact c2) (u_b rfl ?_)
        refine cs_sll C ie he q vl v 0 0 p1 (by omega) (by omega) (fun t' p' _ _ => u_r ?_)
        show _ = rc (ri h (Int32.ofNat op) oa (xv l (pm_I h 19 11) (decide (v ≠ 1) && true)) _ _) _ _ _
        rw [decide_eq_true c2]
        rfl
    · have c1 : ob = false := by cases ob <;> simp_all
      subst c1
      refine u_t (show pm_I h 19 16 = 0 by rw [ib]) ?_
      refine cs_sll C ie he q vl v 0 0 p1 (by omega) (by omega) (fun t' p' _ _ => u_r ?_)
      show _ = rc (ri h (Int32.ofNat op) oa (xv l (pm_I h 19 11) (decide (v ≠ 1) && false)) _ _) _ _ _
      rw [Bool.and_false]
      rfl
theorem cd_les (K : pm_kd h 19 = 9) {f : Int32} (hf : f ≠ 0) (q : Int32) {N : Nat} (hN : N ≤ 8) : ∀ (j i : Nat) (a : Int32) (v : Int64), i + j = N → cd_Q (fun r : Int64 × pm_H => r.2) (fun h' => h' = h) f q (pm_lim sX9_lowestFirst (19, Int32.ofNat N, v, Int32.ofNat i, rc h a f q)) := by
  intro j
  induction j with
  | zero =>
    intro i a v hi
    refine z_w (aX9_lowestFirst_0 ..) ?_
    unfold tX9_lowestFirst_5
    exact z_t (show Int32.ofNat N ≤ Int32.ofNat i by rw [nn_le (by omega) (by omega)]; omega) (z_r (y_r (a := a) rfl rfl))
  | succ j ih =>
    intro i a v hi
    refine z_w (aX9_lowestFirst_0 ..) ?_
    unfold tX9_lowestFirst_5
    refine z_f (show ¬ Int32.ofNat N ≤ Int32.ofNat i by rw [nn_le (by omega) (by omega)]; omega) (z_t K (z_b (cd_next K hf a q) (z_l (z_l (z_n ?_)))))
    rw [show Int32.ofNat i + 1 = Int32.ofNat (i + 1) from nn_ad i 1]
    exact ih (i + 1) _ _ (by omega)
theorem cd_low (K : pm_kd h 19 = 9) {f : Int32} (hf : f ≠ 0) (a q : Int32) {N : Nat} (hN : N ≤ 8) : cd_Q (fun r : Int64 × pm_H => r.2) (fun h' => h' = h) f q (fX9_lowestFirst (rc h a f q) 19 (Int32.ofNat N)) := cd_les K hf q hN N 0 a 0 (by omega)
theorem cs_les (C : cS h n b mm B) (ie : pm_I h 19 2 = Int32.ofNat e) (he : e ≤ n) (q : Int32) {N : Nat} (hN : N ≤ 8) : ∀ (j i v p : Nat), i + j = N → v < 2 ^ (8 * i) → p ≤ e → cs_Q (fun r : Int64 × pm_H => r.2) (fun h' => h' = h) (cR64 h q) (pm_lim sX9_lowestFirst (19, Int32.ofNat N, Int64.ofNat v, Int32.ofNat i, rc h (Int32.ofNat p) 0 q)) (sp_les B e j i v p) := by
  have K := C.1
  have hb := C.2.2.2.2.2.2.2.2.2
  intro j
  induction j with
  | zero =>
    intro i v p hi hv hp
    refine v_w (aX9_lowestFirst_0 ..) ?_
    unfold tX9_lowestFirst_5 sp_les
    exact v_t (show Int32.ofNat N ≤ Int32.ofNat i by rw [nn_le (by omega) (by omega)]; omega) (v_r (u_r rfl))
  | succ j ih =>
    intro i v p hi hv hp
    refine v_w (aX9_lowestFirst_0 ..) ?_
    unfold tX9_lowestFirst_5 sp_les
    refine v_f (show ¬ Int32.ofNat N ≤ Int32.ofNat i by rw [nn_le (by omega) (by omega)]; omega) (v_t K (v_p (cs_next C ie he hp q) (fun r1 a f q hf => z_l (z_l (z_n ?_))) ?_))
    · rw [show Int32.ofNat i + 1 = Int32.ofNat (i + 1) from nn_ad i 1]
      exact cd_les K hf q hN j (i + 1) _ _ (by omega)
    · intro c p1 r e1 er
      subst er
      obtain ⟨b1, b2, b3⟩ := sp_next_b e1
      have cl : c < 256 := by rw [b2]; exact hb p
      have p2 : 2 ^ (8 * (i + 1)) = 256 * 2 ^ (8 * i) := by rw [Nat.mul_succ, Nat.pow_add, Nat.mul_comm]
      have m2 : c * 2 ^ (8 * i) ≤ 255 * 2 ^ (8 * i) := Nat.mul_le_mul_right _ (by omega)
      have p3 : 2 ^ (8 * (i + 1)) ≤ 2 ^ 64 := Nat.pow_le_pow_right (by decide) (by omega)
      have p4 : (2 : Nat) ^ 64 = 18446744073709551616 := by decide
      have po := ll_or (v := v) (a := c) (t := 8 * i) (by omega) hv (by omega)
      refine v_l (v_l (v_n ?_))
      dsimp only
      rw [show Int32.ofNat i + 1 = Int32.ofNat (i + 1) from nn_ad i 1, show (8 : Int32) * Int32.ofNat i = Int32.ofNat (8 * i) from nn_ml 8 i, nn_t6 (show 8 * i < 2147483648 by omega), show (63 : Int64) = Int64.ofNat 63 from rfl, ll_m63, Nat.mod_eq_of_lt (show 8 * i < 64 by omega), nn_t6 (show c < 2147483648 by omega), po]
      exact ih (i + 1) _ p1 (by omega) (by omega) (by omega)
theorem cs_low (C : cS h n b mm B) (ie : pm_I h 19 2 = Int32.ofNat e) (he : e ≤ n) (hp : p ≤ e) (q : Int32) {N : Nat} (hN : N ≤ 8) : cs_Q (fun r : Int64 × pm_H => r.2) (fun h' => h' = h) (cR64 h q) (fX9_lowestFirst (rc h (Int32.ofNat p) 0 q) 19 (Int32.ofNat N)) (sp_les B e N 0 0 p) := cs_les C ie he q hN N 0 0 p (by omega) (by decide) hp
theorem cd_155 (K : pm_kd h 19 = 9) {f : Int32} (hf : f ≠ 0) (a q : Int32) (v : Int64) : cd_Q wH (iF h) f q (fX9_longInstruction_b155 (rc (ri h o oa l x y) a f q) 19 v) := by
  have Y : ∀ a, cd_Q wH (iF h) f q (some (rc (ri h o oa l x y) a f q)) := fun a => y_r (a := a) rfl ⟨_, _, _, _, _, rfl⟩
  have N : ∀ a (k : Int32 × pm_H → Option pm_H), (∀ r1 a, cd_Q wH (iF h) f q (k (r1, rc (ri h o oa l x y) a f q))) → cd_Q wH (iF h) f q (if pm_kd (rc (ri h o oa l x y) a f q) 19 = 9 then (fX9_nextUpTo (rc (ri h o oa l x y) a f q) 19 0).bind k else none) := fun a k z => y_t K (y_p (cd_nut (h := ri h o oa l x y) K hf a q 0) z)
  unfold fX9_longInstruction_b155
  exact y_i (fun _ => N _ _ fun _ a => y_i (fun _ => N _ _ fun _ a => Y a) (fun _ => Y a)) (fun _ => y_i (fun _ => N _ _ fun _ a => y_i (fun _ => N _ _ fun _ a => Y a) (fun _ => Y a)) (fun _ => y_i (fun _ => N _ _ fun _ a => y_i (fun _ => N _ _ fun _ a => Y a) (fun _ => Y a)) (fun _ => y_i (fun _ => N _ _ fun _ a => Y a) (fun _ => Y a))))
theorem cd_145 (K : pm_kd h 19 = 9) {f : Int32} (hf : f ≠ 0) (a q : Int32) (v : Int64) : cd_Q wH (iF h) f q (fX9_longInstruction_b145 (rc (ri h o oa l x y) a f q) 19 v) := by
  unfold fX9_longInstruction_b145
  refine y_t K (y_b (cd_num (h := ri h _ _ _ _ _) K hf a q 32 (by decide)) (y_t K ?_))
  rw [ci_9]
  exact cd_155 K hf _ _ _
theorem cd_129 (K : pm_kd h 19 = 9) {f : Int32} (hf : f ≠ 0) (a q : Int32) (v : Int64) : cd_Q wH (iF h) f q (fX9_longInstruction_b129 (rc (ri h o oa l x y) a f q) 19 v) := by
  unfold fX9_longInstruction_b129
  exact y_i (fun _ => cd_145 K hf _ _ _) (fun _ => y_i (fun _ => cd_145 K hf _ _ _) (fun _ => cd_155 K hf _ _ _))
theorem cd_63 (K : pm_kd h 19 = 9) {f : Int32} (hf : f ≠ 0) (a q : Int32) (v : Int64) : cd_Q wH (iF h) f q (fX9_longInstruction_b63 (rc (ri h o oa l x y) a f q) 19 v) := by
  unfold fX9_longInstruction_b63
  exact y_t K (y_f (show ¬ pm_I (rc (ri h o oa l x y) a f q) 19 3 = 0 from hf) (y_r (a := a) rfl ⟨_, _, _, _, _, rfl⟩))
theorem cd_25 (K : pm_kd h 19 = 9) (rm0 : pm_R h 19 0 = some mm) (km : pm_kd h mm = 7) {f : Int32} (hf : f ≠ 0) (a q : Int32) (v : Int64) : cd_Q wH (iF h) f q (fX9_longInstruction_b25 (rc (ri h o oa l x y) a f q) 19 v) := by
  have F : cd_Q wH (iF h) f q (fX9_longInstruction_b41 (rc (ri h o oa l x y) a f q) 19 v) := by
    unfold fX9_longInstruction_b41
    exact y_t K (y_b rm0 (y_t km (y_i (fun _ => cd_63 K hf _ _ _) (fun _ => y_b (cd_fail (h := ri h _ _ _ _ _) K hf _ _ _ _) (cd_63 K hf _ _ _)))))
  unfold fX9_longInstruction_b25
  exact y_i (fun _ => F) (fun _ => y_i (fun _ => F) (fun _ => cd_63 K hf _ _ _))
theorem cd_long (K : pm_kd h 19 = 9) (rm0 : pm_R h 19 0 = some mm) (km : pm_kd h mm = 7) {f : Int32} (hf : f ≠ 0) (a q : Int32) : cd_Q wH (iF h) f q (fX9_longInstruction (rc (ri h o oa l x y) a f q) 19) := by
  unfold fX9_longInstruction
  exact y_t K (y_b (cd_num (h := ri h _ _ _ _ _) K hf a q 32 (by decide)) (y_i (fun _ => cd_25 K rm0 km hf _ _ _) (fun _ => y_t K (y_b (cd_fail (h := ri h _ _ _ _ _) K hf _ _ _ _) (cd_25 K rm0 km hf _ _ _)))))
theorem cs_155 (v : Nat) (hv : v ≤ 17) (v1 : v ≠ 8) (v2 : v ≠ 10) (v3 : v ≠ 11) (H : pm_H) : fX9_longInstruction_b155 H 19 (Int64.ofNat v) = some H := by
  have N : ∀ k, k < 100 → v ≠ k → ¬ Int64.ofNat v = Int64.ofNat k := fun k hk z => by rw [ll_eq (by omega) (by omega)]; exact z
  unfold fX9_longInstruction_b155
  exact e9_f (N 8 (by decide) v1) (e9_f (N 10 (by decide) v2) (e9_f (N 11 (by decide) v3) (e9_f (N 10 (by decide) v2) rfl)))
theorem cs_129 (v : Nat) (hv : v ≤ 17) (v1 : v ≠ 12) (v2 : v ≠ 14) (H : pm_H) : fX9_longInstruction_b129 H 19 (Int64.ofNat v) = fX9_longInstruction_b155 H 19 (Int64.ofNat v) := by
  have N : ∀ k, k < 100 → v ≠ k → ¬ Int64.ofNat v = Int64.ofNat k := fun k hk z => by rw [ll_eq (by omega) (by omega)]; exact z
  unfold fX9_longInstruction_b129
  exact e9_f (N 12 (by decide) v1) (e9_f (N 14 (by decide) v2) rfl)
theorem cs_long {ob d : Bool} (C : cS h n b mm B) (ie : pm_I h 19 2 = Int32.ofNat e) (he : e ≤ n) (hp : p ≤ e) (dt : (0 ≤ pm_L h mm 14) = (d = true)) (op p0 : Nat) (q : Int32) : cs_Q wH (iF h) (cRI h (Int32.ofNat p0) l ob q) (fX9_longInstruction (rc (ri h (Int32.ofNat op) (Int32.ofNat p0) l 0 0) (Int32.ofNat p) 0 q) 19) (sp_fur B e d p0 p) := by
  have C' := C
  obtain ⟨K, rm0, km, -⟩ := C
  have m9 : mm ≠ 19 := fun z => by rw [z, K] at km; exact absurd km (by decide)
  have n4 := C'.2.2.2.2.2.2.1
  unfold fX9_longInstruction sp_fur
  refine u_t K (u_p (cs_num (cS_ri C') ie he hp q) (fun r1 a f q hf => y_i (fun _ => cd_25 K rm0 km hf _ _ _) (fun _ => y_t K (y_b (cd_fail (h := ri h _ _ _ _ _) K hf _ _ _ _) (cd_25 K rm0 km hf _ _ _)))) ?_)
  intro v p1 r e1 er
  subst er
  have pb := sp_num_b hp e1
  have vl : v < 4294967296 := sp_nu_v C'.2.2.2.2.2.2.2.2.2 (by decide) (by decide) (by decide) e1
  by_cases c17 : 17 < v
  · rw [if_pos c17]
    refine u_f (show ¬ Int64.ofNat v ≤ Int64.ofNat 17 by rw [ll_le (by omega) (by decide)]; omega) (u_t K (u_b (cs_fail (h := ri h _ _ _ _ _) K _ _ _ _) ?_))
    exact ⟨by decide, cd_25 (h := h) K rm0 km (by decide) _ _ _⟩
  rw [if_neg c17]
  refine u_t (show Int64.ofNat v ≤ Int64.ofNat 17 by rw [ll_le (by omega) (by decide)]; omega) ?_
  have EQ : ∀ k, k < 100 → (Int64.ofNat v = Int64.ofNat k) = (v = k) := fun k hk => ll_eq (by omega) (by omega)
  have N : ∀ k, k < 100 → v ≠ k → ¬ Int64.ofNat v = Int64.ofNat k := fun k hk z => by rw [EQ k hk]; exact z
  have T : ∀ k, v = k → Int64.ofNat v = Int64.ofNat k := fun k z => by rw [z]
  have mL : pm_L (rc (ri h (Int32.ofNat op) (Int32.ofNat p0) l 0 0) (Int32.ofNat p1) 0 q) mm 14 = pm_L h mm 14 := congrFun (ri_xL h (Int32.ofNat op) (Int32.ofNat p0) l 0 0 m9) 14
  -- behind the looking at section 12
  have G63 : ∀ {o2 : sp_O sp_I}, cs_Q wH (iF h) (cRI h (Int32.ofNat p0) l ob q) (fX9_longInstruction_b91 (rc (ri h (Int32.ofNat op) (Int32.ofNat p0) l 0 0) (Int32.ofNat p1) 0 q) 19 (Int64.ofNat v) (if 8 ≤ v then 300 else 200) (Int32.ofNat v) 19) o2 → cs_Q wH (iF h) (cRI h (Int32.ofNat p0) l ob q) (fX9_longInstruction_b63 (rc (ri h (Int32.ofNat op) (Int32.ofNat p0) l 0 0) (Int32.ofNat p1) 0 q) 19 (Int64.ofNat v)) o2 := by
    intro o2 Q
    unfold fX9_longInstruction_b63
    rw [ll_t3]
    refine u_t K (u_t rfl ?_)
    by_cases c8 : 8 ≤ v
    · rw [if_pos c8] at Q
      exact u_t (show Int64.ofNat 8 ≤ Int64.ofNat v by rw [ll_le (by decide) (by omega)]; exact c8) Q
    · rw [if_neg c8] at Q
      exact u_f (show ¬ Int64.ofNat 8 ≤ Int64.ofNat v by rw [ll_le (by decide) (by omega)]; exact c8) Q
  have G25 : ∀ {o2 : sp_O sp_I}, cs_Q wH (iF h) (cRI h (Int32.ofNat p0) l ob q) (fX9_longInstruction_b91 (rc (ri h (Int32.ofNat op) (Int32.ofNat p0) l 0 0) (Int32.ofNat p1) 0 q) 19 (Int64.ofNat v) (if 8 ≤ v then 300 else 200) (Int32.ofNat v) 19) o2 → cs_Q wH (iF h) (cRI h (Int32.ofNat p0) l ob q) (fX9_longInstruction_b25 (rc (ri h (Int32.ofNat op) (Int32.ofNat p0) l 0 0) (Int32.ofNat p1) 0 q) 19 (Int64.ofNat v)) (if (v = 8 ∨ v = 9) ∧ d = false then .inl (11, p0) else o2) := by
    intro o2 Q
    have G41 : (v = 8 ∨ v = 9) → cs_Q wH (iF h) (cRI h (Int32.ofNat p0) l ob q) (fX9_longInstruction_b41 (rc (ri h (Int32.ofNat op) (Int32.ofNat p0) l 0 0) (Int32.ofNat p1) 0 q) 19 (Int64.ofNat v)) (if (v = 8 ∨ v = 9) ∧ d = false then .inl (11, p0) else o2) := by
      intro hv
      unfold fX9_longInstruction_b41
      refine u_t K (u_b rm0 (u_t km ?_))
      by_cases cd : d = true
      · rw [if_neg (show ¬ ((v = 8 ∨ v = 9) ∧ d = false) from fun z => by rw [cd] at z; exact absurd z.2 (by decide))]
        exact u_t (by rw [mL, dt]; exact cd) (G63 Q)
      · have cd' : d = false := by cases d <;> simp_all
        rw [if_pos (show (v = 8 ∨ v = 9) ∧ d = false from ⟨hv, cd'⟩)]
        refine u_f (by rw [mL, dt]; exact cd) (u_b (cs_fail (h := ri h _ _ _ _ _) K _ _ _ _) ?_)
        exact ⟨by decide, cd_63 (h := h) K (by decide) _ _ _⟩
    unfold fX9_longInstruction_b25
    by_cases c8 : v = 8
    · exact u_t (T 8 c8) (G41 (.inl c8))
    · refine u_f (N 8 (by decide) c8) ?_
      by_cases c9 : v = 9
      · exact u_t (T 9 c9) (G41 (.inr c9))
      · refine u_f (N 9 (by decide) c9) ?_
        rw [if_neg (show ¬ ((v = 8 ∨ v = 9) ∧ d = false) by omega)]
        exact G63 Q
  dsimp only
  refine G25 ?_
  unfold fX9_longInstruction_b91
  have RR : ∀ (x y : Int64) (p2 : Nat) (w : Nat), cs_Q wH (iF h) (cRI h (Int32.ofNat p0) l ob q) (some (rc (ri h (Int32.ofNat w) (Int32.ofNat p0) l x y) (Int32.ofNat p2) 0 q)) (.inr ((w, x, y, false), p2)) := fun x y p2 w => u_r rfl
  have NUT : ∀ (x y : Int64) (w p2 : Nat) (k : Int32 × pm_H → Option pm_H) (k' : Nat → Nat → sp_O sp_I), p2 ≤ e → (∀ r1 a f q, f ≠ 0 → cd_Q wH (iF h) f q (k (r1, rc (ri h (Int32.ofNat w) (Int32.ofNat p0) l x y) a f q))) → (∀ v1 p3, p3 ≤ e → cs_Q wH (iF h) (cRI h (Int32.ofNat p0) l ob q) (k (Int32.ofNat v1, rc (ri h (Int32.ofNat w) (Int32.ofNat p0) l x y) (Int32.ofNat p3) 0 q)) (k' v1 p3)) → cs_Q wH (iF h) (cRI h (Int32.ofNat p0) l ob q) (if pm_kd (rc (ri h (Int32.ofNat w) (Int32.ofNat p0) l x y) (Int32.ofNat p2) 0 q) 19 = 9 then (fX9_nextUpTo (rc (ri h (Int32.ofNat w) (Int32.ofNat p0) l x y) (Int32.ofNat p2) 0 q) 19 0).bind k else none) (sp_b (sp_byte (fun c => decide (c ≤ 0)) 7 B e p2) k') := by
    intro x y w p2 k k' h2 D Z
    refine u_t K (u_p (cs_nut (cS_ri C') ie he h2 q (k := 0) (by decide)) D ?_)
    intro v1 p3 r e3 er
    subst er
    exact Z v1 p3 (sp_byte_b h2 e3).2
  have Y : ∀ (x y : Int64) (w : Nat) (a f q : Int32), cd_Q wH (iF h) f q (some (rc (ri h (Int32.ofNat w) (Int32.ofNat p0) l x y) a f q)) := fun x y w a f q => y_r (a := a) rfl ⟨_, _, _, _, _, rfl⟩
  have DN : ∀ (x y : Int64) (w : Nat) (a f q : Int32) (k : Int32 × pm_H → Option pm_H), f ≠ 0 → (∀ r1 a, cd_Q wH (iF h) f q (k (r1, rc (ri h (Int32.ofNat w) (Int32.ofNat p0) l x y) a f q))) → cd_Q wH (iF h) f q (if pm_kd (rc (ri h (Int32.ofNat w) (Int32.ofNat p0) l x y) a f q) 19 = 9 then (fX9_nextUpTo (rc (ri h (Int32.ofNat w) (Int32.ofNat p0) l x y) a f q) 19 0).bind k else none) := fun x y w a f q k hf z => y_t K (y_p (cd_nut (h := ri h (Int32.ofNat w) (Int32.ofNat p0) l x y) K hf a q 0) z)
  by_cases c8 : v < 8
  · rw [if_pos c8, if_neg (show ¬ 8 ≤ v by omega)]
    refine u_l (u_t K (u_t (show Int64.ofNat v < Int64.ofNat 8 by rw [ll_lt (by omega) (by decide)]; exact c8) ?_))
    rw [ci_6, cs_129 v (by omega) (by omega) (by omega), cs_155 v (by omega) (by omega) (by omega) (by omega), show Int32.ofNat v + 200 = Int32.ofNat (200 + v) from (nn_ad v 200).trans (by rw [Nat.add_comm])]
    exact RR _ _ _ _
  rw [if_neg c8, if_pos (show 8 ≤ v by omega)]
  have op3 : Int32.ofNat v + 300 = Int32.ofNat (300 + v) := (nn_ad v 300).trans (by rw [Nat.add_comm])
  refine u_l (u_t K (u_f (show ¬ Int64.ofNat v < Int64.ofNat 8 by rw [ll_lt (by omega) (by decide)]; exact c8) ?_))
  rw [ci_6, op3]
  by_cases v10 : v = 10
  · refine u_t (T 10 v10) ?_
    rw [cs_129 v (by omega) (by omega) (by omega), if_neg (show ¬ v = 8 by omega), if_pos v10]
    unfold fX9_longInstruction_b155
    refine u_f (N 8 (by decide) (by omega)) (u_t (T 10 v10) (NUT _ _ _ _ _ _ (by omega) (fun r1 a f q hf => y_t (T 10 v10) (DN _ _ _ _ _ _ _ hf fun _ a => Y _ _ _ _ _ _)) (fun v1 p3 h3 => u_t (T 10 v10) (NUT _ _ _ _ _ _ h3 (fun r1 a f q hf => Y _ _ _ _ _ _) (fun v2 p4 h4 => RR _ _ _ _)))))
  refine u_f (N 10 (by decide) v10) ?_
  by_cases v11 : v = 11
  · refine u_t (T 11 v11) ?_
    rw [cs_129 v (by omega) (by omega) (by omega), if_neg (show ¬ v = 8 by omega), if_neg v10, if_pos v11]
    unfold fX9_longInstruction_b155
    refine u_f (N 8 (by decide) (by omega)) (u_f (N 10 (by decide) v10) (u_t (T 11 v11) (NUT _ _ _ _ _ _ (by omega) (fun r1 a f q hf => y_f (N 10 (by decide) v10) (Y _ _ _ _ _ _)) (fun v1 p3 h3 => u_f (N 10 (by decide) v10) (RR _ _ _ _)))))
  refine u_f (N 11 (by decide) v11) (u_t K ?_)
  by_cases v8 : v = 8
  · rw [if_pos v8]
    refine u_p (cs_num (cS_ri C') ie he (by omega) q) (fun r1 a f q hf => y_t K ?_) ?_
    · rw [ci_8]; exact cd_129 K hf _ _ _
    intro v1 p2 r e2 er
    subst er
    have pb2 := sp_num_b (show p1 ≤ e by omega) e2
    refine u_t K ?_
    rw [ci_8, cs_129 v (by omega) (by omega) (by omega)]
    unfold fX9_longInstruction_b155
    refine u_t (T 8 v8) (NUT _ _ _ _ _ _ (by omega) (fun r1 a f q hf => y_f (N 10 (by decide) v10) (Y _ _ _ _ _ _)) (fun v1 p3 h3 => u_f (N 10 (by decide) v10) (RR _ _ _ _)))
  rw [if_neg v8, if_neg v10, if_neg v11]
  by_cases v12 : v = 12 ∨ v = 14
  · rw [if_pos v12]
    refine u_p (cs_num (cS_ri C') ie he (by omega) q) (fun r1 a f q hf => y_t K ?_) ?_
    · rw [ci_8]; exact cd_129 K hf _ _ _
    intro v1 p2 r e2 er
    subst er
    have pb2 := sp_num_b (show p1 ≤ e by omega) e2
    refine u_t K ?_
    rw [ci_8]
    have G145 : cs_Q wH (iF h) (cRI h (Int32.ofNat p0) l ob q) (fX9_longInstruction_b145 (rc (ri h (Int32.ofNat (300 + v)) (Int32.ofNat p0) l (Int64.ofNat v1) 0) (Int32.ofNat p2) 0 q) 19 (Int64.ofNat v)) (sp_b (sp_num B e p2) fun y p3 => .inr ((300 + v, Int64.ofNat v1, Int64.ofNat y, false), p3)) := by
      unfold fX9_longInstruction_b145
      refine u_t K (u_p (cs_num (cS_ri C') ie he (by omega) q) (fun r1 a f q hf => y_t K ?_) ?_)
      · rw [ci_9]; exact cd_155 K hf _ _ _
      intro v2 p3 r e3 er
      subst er
      refine u_t K ?_
      rw [ci_9, cs_155 v (by omega) (by omega) (by omega) (by omega)]
      exact RR _ _ _ _
    unfold fX9_longInstruction_b129
    rcases v12 with v12 | v12
    · exact u_t (T 12 v12) G145
    · exact u_f (N 12 (by decide) (by omega)) (u_t (T 14 v12) G145)
  · rw [if_neg v12]
    refine u_p (cs_num (cS_ri C') ie he (by omega) q) (fun r1 a f q hf => y_t K ?_) ?_
    · rw [ci_8]; exact cd_129 K hf _ _ _
    intro v1 p2 r e2 er
    subst er
    refine u_t K ?_
    rw [ci_8, cs_129 v (by omega) (by omega) (by omega), cs_155 v (by omega) (by omega) (by omega) (by omega)]
    exact RR _ _ _ _
end CINS2
