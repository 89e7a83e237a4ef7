/-! THE CLASS READS: loops' rules; a byte; a number without sign -/
section CLOOP
variable {α β γ ρ σ : Type} {w : ρ → pm_H} {F : pm_H → Prop} {R : β → Nat → ρ → Prop} {o : sp_O β} {f q : Int32} {s : σ → Option (σ ⊕ ρ)}
theorem v_t {c : Prop} {i : Decidable c} {a b : Option (σ ⊕ ρ)} (h : c) (Q : cs_Q w F R (ev_k s a) o) : cs_Q w F R (ev_k s (@ite _ c i a b)) o := by rw [if_pos h]; exact Q
theorem v_f {c : Prop} {i : Decidable c} {a b : Option (σ ⊕ ρ)} (h : ¬ c) (Q : cs_Q w F R (ev_k s b) o) : cs_Q w F R (ev_k s (@ite _ c i a b)) o := by rw [if_neg h]; exact Q
theorem v_l {δ : Type} {e : δ} {k : δ → Option (σ ⊕ ρ)} (Q : cs_Q w F R (ev_k s (k e)) o) : cs_Q w F R (ev_k s (pm_let e k)) o := Q
theorem v_b {δ : Type} {x : Option δ} {v : δ} {k : δ → Option (σ ⊕ ρ)} (e : x = some v) (Q : cs_Q w F R (ev_k s (k v)) o) : cs_Q w F R (ev_k s (x.bind k)) o := by rw [e]; exact Q
theorem v_n {y : σ} (Q : cs_Q w F R (pm_lim s y) o) : cs_Q w F R (ev_k s (some (.inl y))) o := Q
theorem v_r {r : ρ} (Q : cs_Q w F R (some r) o) : cs_Q w F R (ev_k s (some (.inr r))) o := Q
theorem v_w {x : σ} {v : Option (σ ⊕ ρ)} (e : s x = v) (Q : cs_Q w F R (ev_k s v) o) : cs_Q w F R (pm_lim s x) o := by rw [ev_lm, e]; exact Q
theorem z_t {c : Prop} {i : Decidable c} {a b : Option (σ ⊕ ρ)} (h : c) (Q : cd_Q w F f q (ev_k s a)) : cd_Q w F f q (ev_k s (@ite _ c i a b)) := by rw [if_pos h]; exact Q
theorem z_f {c : Prop} {i : Decidable c} {a b : Option (σ ⊕ ρ)} (h : ¬ c) (Q : cd_Q w F f q (ev_k s b)) : cd_Q w F f q (ev_k s (@ite _ c i a b)) := by rw [if_neg h]; exact Q
theorem z_i {c : Prop} {i : Decidable c} {a b : Option (σ ⊕ ρ)} (P : c → cd_Q w F f q (ev_k s a)) (Q : ¬ c → cd_Q w F f q (ev_k s b)) : cd_Q w F f q (ev_k s (@ite _ c i a b)) := by
  by_cases h : c
  · rw [if_pos h]; exact P h
  · rw [if_neg h]; exact Q h
theorem z_l {δ : Type} {e : δ} {k : δ → Option (σ ⊕ ρ)} (Q : cd_Q w F f q (ev_k s (k e))) : cd_Q w F f q (ev_k s (pm_let e k)) := Q
theorem z_b {δ : Type} {x : Option δ} {v : δ} {k : δ → Option (σ ⊕ ρ)} (e : x = some v) (Q : cd_Q w F f q (ev_k s (k v))) : cd_Q w F f q (ev_k s (x.bind k)) := by rw [e]; exact Q
theorem z_n {y : σ} (Q : cd_Q w F f q (pm_lim s y)) : cd_Q w F f q (ev_k s (some (.inl y))) := Q
theorem z_r {r : ρ} (Q : cd_Q w F f q (some r)) : cd_Q w F f q (ev_k s (some (.inr r))) := Q
theorem z_w {x : σ} {v : Option (σ ⊕ ρ)} (e : s x = v) (Q : cd_Q w F f q (ev_k s v)) : cd_Q w F f q (pm_lim s x) := by rw [ev_lm, e]; exact Q
theorem z_c {w1 : γ → pm_H} {F1 : pm_H → Prop} {x : Option γ} {k : γ → Option (σ ⊕ ρ)} (Q : cd_Q w1 F1 f q x) (K : ∀ r h' a, w1 r = rc h' a f q → F1 h' → cd_Q w F f q (ev_k s (k r))) : cd_Q w F f q (ev_k s (x.bind k)) := by
  obtain ⟨r, h', a, e, ew, hF⟩ := Q
  rw [e]
  exact K r h' a ew hF
theorem v_c {w1 : γ → pm_H} {F1 : pm_H → Prop} {R1 : α → Nat → γ → Prop} {x : Option γ} {k : γ → Option (σ ⊕ ρ)} {o1 : sp_O α} {k' : α → Nat → sp_O β} (Q : cs_Q w1 F1 R1 x o1) (D : ∀ r h' a f q, f ≠ 0 → w1 r = rc h' a f q → F1 h' → cd_Q w F f q (ev_k s (k r))) (K : ∀ v p r, o1 = .inr (v, p) → R1 v p r → cs_Q w F R (ev_k s (k r)) (k' v p)) : cs_Q w F R (ev_k s (x.bind k)) (sp_b o1 k') := by
  cases o1 with
  | inl z =>
    obtain ⟨hn, r, h', a, e, ew, hF⟩ := Q
    rw [e]
    refine ⟨hn, D r h' a _ _ (fun z => ?_) ew hF⟩
    rw [n3_0, nn_eq (by omega) (by decide)] at z
    omega
  | inr z =>
    obtain ⟨r, e, hR⟩ := Q
    rw [e]
    exact K z.1 z.2 r rfl hR
end CLOOP
theorem sp_byte_n (ok : Nat → Bool) (w : Nat) (B : Nat → Nat) (e p : Nat) : sp_byte ok w B e p = sp_b (sp_next B e p) fun v p1 => if ok v = true then .inr (v, p1) else .inl (w, p) := by
  unfold sp_byte sp_next
  by_cases c : p < e
  · rw [if_pos c, if_pos c]; rfl
  · rw [if_neg c, if_neg c]; rfl
theorem sp_nu_n (B : Nat → Nat) (e N k v p : Nat) : sp_nu B e (N + 1) k v p = sp_b (sp_next B e p) fun c p1 => if N = 0 ∧ 15 < c then .inl (4, p) else if c < 128 then .inr (v + c * 2 ^ (7 * k), p1) else sp_nu B e N (k + 1) (v + c % 128 * 2 ^ (7 * k)) p1 := by
  rw [sp_nu]
  unfold sp_next
  by_cases c : p < e
  · rw [if_pos c, if_pos c]; rfl
  · rw [if_neg c, if_neg c]; rfl
theorem c9_val : ∀ c : Fin 256, fX9_isValue (Int32.ofNat c.val) = if sp_isT c.val = true then 1 else 0 := by decide +kernel
theorem c9_ref : ∀ c : Fin 256, fX9_isReference (Int32.ofNat c.val) = if sp_isR c.val = true then 1 else 0 := by decide +kernel
theorem c9_end : ∀ c : Fin 256, fX9_endsNumber (Int32.ofNat c.val) (32 - Int32.ofNat 28) 0 = if 15 < c.val then 0 else 1 := by decide +kernel
section CBYTE
variable {h : pm_H} {n b mm e p : Nat} {B : Nat → Nat}
abbrev cR32 (h : pm_H) (q : Int32) : Nat → Nat → Int32 × pm_H → Prop := fun v p' r => r = (Int32.ofNat v, rc h (Int32.ofNat p') 0 q)
abbrev cR64 (h : pm_H) (q : Int32) : Nat → Nat → Int64 × pm_H → Prop := fun v p' r => r = (Int64.ofNat v, rc h (Int32.ofNat p') 0 q)
theorem c_m1 {p p1 : Nat} (e : p1 = p + 1) (hp : p < 2147483647) : Int32.ofNat p1 - 1 = Int32.ofNat p := by
  rw [show (1 : Int32) = Int32.ofNat 1 from rfl, nn_sb (by omega)]
  exact congrArg Int32.ofNat (by omega)
theorem cs_vt (C : cS h n b mm B) (ie : pm_I h 19 2 = Int32.ofNat e) (he : e ≤ n) (hp : p ≤ e) (q : Int32) : cs_Q (fun r : Int32 × pm_H => r.2) (fun h' => h' = h) (cR32 h q) (fX9_valueType (rc h (Int32.ofNat p) 0 q) 19) (sp_byte sp_isT 8 B e p) := by
  have K : pm_kd h 19 = 9 := C.1
  have n4 : n ≤ 40960 := C.2.2.2.2.2.2.1
  have hb := C.2.2.2.2.2.2.2.2.2
  rw [sp_byte_n]
  unfold fX9_valueType
  refine u_t K (u_c (cs_next C ie he hp q) ?_ ?_)
  · rintro ⟨r1, r2⟩ h' a f q' hf er hF
    subst hF
    have er : r2 = _ := er
    subst er
    exact y_l (y_i (fun _ => y_t K (y_b (cd_fail K hf _ _ _ _) (y_r (a := a) rfl rfl))) (fun _ => y_r (a := a) rfl rfl))
  · intro v p1 r e1 er
    subst er
    obtain ⟨b1, b2, b3⟩ := sp_next_b e1
    have vl : v < 256 := by rw [b2]; exact hb p
    have iv : fX9_isValue (Int32.ofNat v) = if sp_isT v = true then 1 else 0 := c9_val ⟨v, vl⟩
    refine u_l ?_
    by_cases c : sp_isT v = true
    · refine u_f (show ¬ fX9_isValue (Int32.ofNat v) = 0 by rw [iv, if_pos c]; decide) ?_
      rw [if_pos c]
      exact u_r rfl
    · refine u_t (show fX9_isValue (Int32.ofNat v) = 0 by rw [iv, if_neg c]) (u_t K (u_b (cs_fail K _ _ _ _) ?_))
      rw [if_neg c]
      exact u_x (h' := h) (a := Int32.ofNat p1) (by decide) (congrArg (rc h (Int32.ofNat p1) 8) (c_m1 (by omega) (by omega))) rfl
theorem cd_vt (K : pm_kd h 19 = 9) {f : Int32} (hf : f ≠ 0) (a q : Int32) : cd_Q (fun r : Int32 × pm_H => r.2) (fun h' => h' = h) f q (fX9_valueType (rc h a f q) 19) := by
  unfold fX9_valueType
  exact y_t K (y_b (cd_next K hf a q) (y_l (y_i (fun _ => y_t K (y_b (cd_fail K hf _ _ _ _) (y_r (a := a) rfl rfl))) (fun _ => y_r (a := a) rfl rfl))))
theorem cs_rt (C : cS h n b mm B) (ie : pm_I h 19 2 = Int32.ofNat e) (he : e ≤ n) (hp : p ≤ e) (q : Int32) : cs_Q (fun r : Int32 × pm_H => r.2) (fun h' => h' = h) (cR32 h q) (fX9_referenceType (rc h (Int32.ofNat p) 0 q) 19) (sp_byte sp_isR 8 B e p) := by
  have K : pm_kd h 19 = 9 := C.1
  have n4 : n ≤ 40960 := C.2.2.2.2.2.2.1
  have hb := C.2.2.2.2.2.2.2.2.2
  rw [sp_byte_n]
  unfold fX9_referenceType
  refine u_t K (u_c (cs_next C ie he hp q) ?_ ?_)
  · rintro ⟨r1, r2⟩ h' a f q' hf er hF
    subst hF
    have er : r2 = _ := er
    subst er
    exact y_l (y_i (fun _ => y_t K (y_b (cd_fail K hf _ _ _ _) (y_r (a := a) rfl rfl))) (fun _ => y_r (a := a) rfl rfl))
  · intro v p1 r e1 er
    subst er
    obtain ⟨b1, b2, b3⟩ := sp_next_b e1
    have vl : v < 256 := by rw [b2]; exact hb p
    have iv : fX9_isReference (Int32.ofNat v) = if sp_isR v = true then 1 else 0 := c9_ref ⟨v, vl⟩
    refine u_l ?_
    by_cases c : sp_isR v = true
    · refine u_f (show ¬ fX9_isReference (Int32.ofNat v) = 0 by rw [iv, if_pos c]; decide) ?_
      rw [if_pos c]
      exact u_r rfl
    · refine u_t (show fX9_isReference (Int32.ofNat v) = 0 by rw [iv, if_neg c]) (u_t K (u_b (cs_fail K _ _ _ _) ?_))
      rw [if_neg c]
      exact u_x (h' := h) (a := Int32.ofNat p1) (by decide) (congrArg (rc h (Int32.ofNat p1) 8) (c_m1 (by omega) (by omega))) rfl
theorem cd_rt (K : pm_kd h 19 = 9) {f : Int32} (hf : f ≠ 0) (a q : Int32) : cd_Q (fun r : Int32 × pm_H => r.2) (fun h' => h' = h) f q (fX9_referenceType (rc h a f q) 19) := by
  unfold fX9_referenceType
  exact y_t K (y_b (cd_next K hf a q) (y_l (y_i (fun _ => y_t K (y_b (cd_fail K hf _ _ _ _) (y_r (a := a) rfl rfl))) (fun _ => y_r (a := a) rfl rfl))))
theorem cd_num (K : pm_kd h 19 = 9) {f : Int32} (hf : f ≠ 0) (a q k : Int32) (hk : 0 < (if 0 ≤ k then k else 0 - k)) : fX9_number (rc h a f q) 19 k = some (0, rc h a f q) := by
  have hk2 : ¬ (if 0 ≤ k then k else 0 - k) ≤ 0 := Int32.not_le.mpr hk
  show pm_lim sX9_number (.inl (19, k, (if 0 ≤ k then k else 0 - k), 0, 0, rc h a f q)) = _
  rw [ev_lm, aX9_number_0]
  unfold tX9_number_10
  rw [if_neg hk2, if_pos (show pm_kd (rc h a f q) 19 = 9 from K), if_neg (show ¬ pm_I (rc h a f q) 19 3 = 0 from hf)]
  rfl
theorem cs_nu (C : cS h n b mm B) (ie : pm_I h 19 2 = Int32.ofNat e) (he : e ≤ n) (q : Int32) : ∀ (N k v p : Nat), 0 < N → k + N = 5 → v < 2 ^ (7 * k) → p ≤ e → cs_Q (fun r : Int64 × pm_H => r.2) (fun h' => h' = h) (cR64 h q) (pm_lim sX9_number (.inl (19, 32, 32, Int64.ofNat v, Int32.ofNat (7 * k), rc h (Int32.ofNat p) 0 q))) (sp_nu B e N k v p) := by
  have K : pm_kd h 19 = 9 := C.1
  have n4 : n ≤ 40960 := C.2.2.2.2.2.2.1
  have hb := C.2.2.2.2.2.2.2.2.2
  intro N
  induction N with
  | zero => intro k v p h0; omega
  | succ N ih =>
    intro k v p h0 hk hv hp
    have k4 : k ≤ 4 := by omega
    rw [sp_nu_n]
    refine v_w (aX9_number_0 ..) ?_
    unfold tX9_number_10
    refine v_f (show ¬ (32 : Int32) ≤ Int32.ofNat (7 * k) by rw [show (32 : Int32) = Int32.ofNat 32 from rfl, nn_le (by decide) (by omega)]; omega) (v_t K (v_t rfl (v_l (v_c (cs_next C ie he hp q) ?_ ?_))))
    · rintro ⟨r1, r2⟩ h' a f q' hf er hF
      subst hF
      have er : r2 = _ := er
      subst er
      exact z_t K (z_f (show ¬ pm_I (rc h' a f q') 19 3 = 0 from hf) (z_r (y_r (a := a) rfl rfl)))
    · intro c p1 r e1 er
      subst er
      obtain ⟨b1, b2, b3⟩ := sp_next_b e1
      have cl : c < 256 := by rw [b2]; exact hb p
      -- the last step
      have S83 : (N = 0 → c < 128) → cs_Q (fun r : Int64 × pm_H => r.2) (fun h' => h' = h) (cR64 h q) (pm_lim sX9_number (.inr (.inl (19, 32, 32, Int64.ofNat v, Int32.ofNat (7 * k), Int32.ofNat c, rc h (Int32.ofNat p1) 0 q)))) (if c < 128 then .inr (v + c * 2 ^ (7 * k), p1) else sp_nu B e N (k + 1) (v + c % 128 * 2 ^ (7 * k)) p1) := by
        intro hN
        have pl : 2 ^ (7 * k) ≤ 2 ^ (7 * 4) := Nat.pow_le_pow_right (by decide) (by omega)
        have p4 : (2 : Nat) ^ (7 * 4) = 268435456 := by decide
        have p2 : 2 ^ (7 * (k + 1)) = 128 * 2 ^ (7 * k) := by rw [Nat.mul_succ, Nat.pow_add, Nat.mul_comm]
        have m2 : c % 128 * 2 ^ (7 * k) ≤ 127 * 2 ^ (7 * k) := Nat.mul_le_mul_right _ (by omega)
        have por := ll_or (v := v) (a := c % 128) (t := 7 * k) (by omega) hv (by omega)
        have e7 : 7 * k % 64 = 7 * k := Nat.mod_eq_of_lt (by omega)
        have ey : Int64.ofNat v ||| ((Int32.ofNat c &&& 127).toInt64 <<< ((Int32.ofNat (7 * k)).toInt64 &&& 63)) = Int64.ofNat (v + c % 128 * 2 ^ (7 * k)) := by
          rw [show (127 : Int32) = Int32.ofNat 127 from rfl, nn_m127, nn_t6 (by omega), nn_t6 (by omega), show (63 : Int64) = Int64.ofNat 63 from rfl, ll_m63, e7, por]
        refine v_w (aX9_number_1 ..) ?_
        unfold tX9_number_83
        refine v_l ?_
        rw [ey]
        by_cases c8 : c < 128
        · refine v_f (show ¬ (128 : Int32) ≤ Int32.ofNat c by rw [show (128 : Int32) = Int32.ofNat 128 from rfl, nn_le (by decide) (by omega)]; omega) (v_t (by decide) (v_r ?_))
          rw [if_pos c8, Nat.mod_eq_of_lt c8]
          exact u_r rfl
        · refine v_t (show (128 : Int32) ≤ Int32.ofNat c by rw [show (128 : Int32) = Int32.ofNat 128 from rfl, nn_le (by decide) (by omega)]; omega) (v_l (v_n ?_))
          rw [if_neg c8, show Int32.ofNat (7 * k) + 7 = Int32.ofNat (7 * (k + 1)) from nn_ad (7 * k) 7]
          exact ih (k + 1) _ p1 (by omega) (by omega) (by omega) (by omega)
      refine v_t K (v_t rfl ?_)
      by_cases k3 : k = 4
      · subst k3
        have N0 : N = 0 := by omega
        refine v_f (by decide) (v_t (by decide) (v_n (v_w (aX9_number_2 ..) ?_)))
        unfold tX9_number_68
        have ev : fX9_endsNumber (Int32.ofNat c) (32 - Int32.ofNat (7 * 4)) 0 = if 15 < c then 0 else 1 := c9_end ⟨c, cl⟩
        refine v_l ?_
        by_cases cc : 15 < c
        · refine v_t (by rw [ev, if_pos cc]) (v_t K (v_b (cs_fail K _ _ _ _) (v_r ?_)))
          rw [if_pos ⟨N0, cc⟩]
          exact u_x (h' := h) (a := Int32.ofNat p1) (by decide) rfl rfl
        · refine v_f (by rw [ev, if_neg cc]; decide) (v_n ?_)
          rw [if_neg (fun z => cc z.2)]
          exact S83 (fun _ => by omega)
      · refine v_t (show Int32.ofNat (7 * k) + 7 < 32 by rw [show Int32.ofNat (7 * k) + 7 = Int32.ofNat (7 * k + 7) from nn_ad (7 * k) 7, show (32 : Int32) = Int32.ofNat 32 from rfl, nn_lt (by omega) (by decide)]; omega) (v_n ?_)
        rw [if_neg (fun z => by omega)]
        exact S83 (fun z => by omega)
theorem cs_num (C : cS h n b mm B) (ie : pm_I h 19 2 = Int32.ofNat e) (he : e ≤ n) (hp : p ≤ e) (q : Int32) : cs_Q (fun r : Int64 × pm_H => r.2) (fun h' => h' = h) (cR64 h q) (fX9_number (rc h (Int32.ofNat p) 0 q) 19 32) (sp_num B e p) := cs_nu C ie he q 5 0 0 p (by decide) (by decide) (by decide) hp
end CBYTE
