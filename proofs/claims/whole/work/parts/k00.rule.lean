/-! THE CLASS READS: rules. A fault stays in the Reader; behind it nothing counts but that it stays -/
/-- dead: the fault f at q stays -/
def cd_Q {ρ : Type} (w : ρ → pm_H) (F : pm_H → Prop) (f q : Int32) (x : Option ρ) : Prop := ∃ r h' a, x = some r ∧ w r = rc h' a f q ∧ F h'
/-- alive: as the document's reading o says -/
def cs_Q {α ρ : Type} (w : ρ → pm_H) (F : pm_H → Prop) (R : α → Nat → ρ → Prop) (x : Option ρ) (o : sp_O α) : Prop := match o with
  | .inl (f, pl) => (0 < f ∧ f < 100) ∧ cd_Q w F (Int32.ofNat f) (Int32.ofNat pl) x
  | .inr (v, p) => ∃ r, x = some r ∧ R v p r
section CRULE
variable {α β γ ρ σ : Type} {w : ρ → pm_H} {F : pm_H → Prop} {R : β → Nat → ρ → Prop} {o : sp_O β} {f q : Int32}
theorem u_t {c : Prop} {i : Decidable c} {a b : Option ρ} (h : c) (Q : cs_Q w F R a o) : cs_Q w F R (@ite _ c i a b) o := by rw [if_pos h]; exact Q
theorem u_f {c : Prop} {i : Decidable c} {a b : Option ρ} (h : ¬ c) (Q : cs_Q w F R b o) : cs_Q w F R (@ite _ c i a b) o := by rw [if_neg h]; exact Q
theorem u_l {δ : Type} {e : δ} {k : δ → Option ρ} (Q : cs_Q w F R (k e) o) : cs_Q w F R (pm_let e k) o := Q
theorem u_b {δ : Type} {x : Option δ} {v : δ} {k : δ → Option ρ} (e : x = some v) (Q : cs_Q w F R (k v) o) : cs_Q w F R (x.bind k) o := by rw [e]; exact Q
theorem u_r {r : ρ} {v : β} {p : Nat} (h : R v p r) : cs_Q w F R (some r) (.inr (v, p)) := ⟨r, rfl, h⟩
theorem u_x {r : ρ} {h' : pm_H} {a : Int32} {n pl : Nat} (hn : 0 < n ∧ n < 100) (e : w r = rc h' a (Int32.ofNat n) (Int32.ofNat pl)) (hF : F h') : cs_Q w F R (some r) (.inl (n, pl)) := ⟨hn, r, h', a, rfl, e, hF⟩
theorem y_t {c : Prop} {i : Decidable c} {a b : Option ρ} (h : c) (Q : cd_Q w F f q a) : cd_Q w F f q (@ite _ c i a b) := by rw [if_pos h]; exact Q
theorem y_f {c : Prop} {i : Decidable c} {a b : Option ρ} (h : ¬ c) (Q : cd_Q w F f q b) : cd_Q w F f q (@ite _ c i a b) := by rw [if_neg h]; exact Q
theorem y_i {c : Prop} {i : Decidable c} {a b : Option ρ} (P : c → cd_Q w F f q a) (Q : ¬ c → cd_Q w F f q b) : cd_Q w F f q (@ite _ c i a b) := by
  by_cases h : c
  · rw [if_pos h]; exact P h
  · rw [if_neg h]; exact Q h
theorem y_l {δ : Type} {e : δ} {k : δ → Option ρ} (Q : cd_Q w F f q (k e)) : cd_Q w F f q (pm_let e k) := Q
theorem y_b {δ : Type} {x : Option δ} {v : δ} {k : δ → Option ρ} (e : x = some v) (Q : cd_Q w F f q (k v)) : cd_Q w F f q (x.bind k) := by rw [e]; exact Q
theorem y_r {r : ρ} {h' : pm_H} {a : Int32} (e : w r = rc h' a f q) (hF : F h') : cd_Q w F f q (some r) := ⟨r, h', a, rfl, e, hF⟩
/-- a call behind a fault -/
theorem y_c {w1 : γ → pm_H} {F1 : pm_H → Prop} {x : Option γ} {k : γ → Option ρ} (Q : cd_Q w1 F1 f q x) (K : ∀ r h' a, w1 r = rc h' a f q → F1 h' → cd_Q w F f q (k r)) : cd_Q w F f q (x.bind k) := by
  obtain ⟨r, h', a, e, ew, hF⟩ := Q
  rw [e]
  exact K r h' a ew hF
/-- a call -/
theorem u_c {w1 : γ → pm_H} {F1 : pm_H → Prop} {R1 : α → Nat → γ → Prop} {x : Option γ} {k : γ → Option ρ} {o1 : sp_O α} {k' : α → Nat → sp_O β} (Q : cs_Q w1 F1 R1 x o1) (D : ∀ r h' a f q, f ≠ 0 → w1 r = rc h' a f q → F1 h' → cd_Q w F f q (k r)) (K : ∀ v p r, o1 = .inr (v, p) → R1 v p r → cs_Q w F R (k r) (k' v p)) : cs_Q w F R (x.bind k) (sp_b o1 k') := by
  cases o1 with
  | inl z =>
    obtain ⟨hn, r, h', a, e, ew, hF⟩ := Q
    rw [e]
    refine ⟨hn, D r h' a _ _ (fun z => ?_) ew hF⟩
    rw [n3_0, nn_eq (by omega) (by decide)] at z
    omega
  | inr z =>
    obtain ⟨r, e, hR⟩ := Q
    rw [e]
    exact K z.1 z.2 r rfl hR
theorem u_w {F1 : pm_H → Prop} {R1 : β → Nat → ρ → Prop} {x : Option ρ} (Q : cs_Q w F1 R1 x o) (hF : ∀ h, F1 h → F h) (hR : ∀ v p r, o = .inr (v, p) → R1 v p r → R v p r) : cs_Q w F R x o := by
  cases o with
  | inl z =>
    obtain ⟨hn, r, h', a, e, ew, hF1⟩ := Q
    exact ⟨hn, r, h', a, e, ew, hF h' hF1⟩
  | inr z =>
    obtain ⟨r, e, h1⟩ := Q
    exact ⟨r, e, hR z.1 z.2 r rfl h1⟩
end CRULE
/-- the Reader, its Module mm with the bytes b -/
def cS (h : pm_H) (n b mm : Nat) (B : Nat → Nat) : Prop := pm_kd h 19 = 9 ∧ pm_R h 19 0 = some mm ∧ pm_kd h mm = 7 ∧ pm_R h mm 0 = some b ∧ pm_kd h b = 33 ∧ pm_ln h b = n ∧ n ≤ 40960 ∧ b ≠ 19 ∧ (∀ i, i < n → pm_I h b i &&& 255 = Int32.ofNat (B i)) ∧ ∀ i, B i < 256
section CREAD
variable {h : pm_H} {n b mm e p : Nat} {B : Nat → Nat}
theorem cs_fail (K : pm_kd h 19 = 9) (a v pl q : Int32) : fX9_fail (rc h a 0 q) 19 v pl = some (rc h a v pl) := by
  unfold fX9_fail
  rw [if_pos (show pm_kd (rc h a 0 q) 19 = 9 from K), if_pos (show pm_I (rc h a 0 q) 19 3 = 0 from rfl), rc_s3, rc_s4]
theorem cd_fail (K : pm_kd h 19 = 9) {f : Int32} (hf : f ≠ 0) (a v pl q : Int32) : fX9_fail (rc h a f q) 19 v pl = some (rc h a f q) := by
  unfold fX9_fail
  rw [if_pos (show pm_kd (rc h a f q) 19 = 9 from K), if_neg (show ¬ pm_I (rc h a f q) 19 3 = 0 from hf)]
theorem cd_next (K : pm_kd h 19 = 9) {f : Int32} (hf : f ≠ 0) (a q : Int32) : fX9_next (rc h a f q) 19 = some (0, rc h a f q) := by
  unfold fX9_next
  rw [if_pos (show pm_kd (rc h a f q) 19 = 9 from K), if_neg (show ¬ pm_I (rc h a f q) 19 3 = 0 from hf)]
theorem cs_next (C : cS h n b mm B) (ie : pm_I h 19 2 = Int32.ofNat e) (he : e ≤ n) (hp : p ≤ e) (q : Int32) : cs_Q (fun r : Int32 × pm_H => r.2) (fun h' => h' = h) (fun v p' r => r = (Int32.ofNat v, rc h (Int32.ofNat p') 0 q)) (fX9_next (rc h (Int32.ofNat p) 0 q) 19) (sp_next B e p) := by
  obtain ⟨K, rm0, km, rb, kb, lb, hn, b9, hB, hB2⟩ := C
  unfold fX9_next sp_next
  have i2 : pm_I (rc h (Int32.ofNat p) 0 q) 19 2 = Int32.ofNat e := ie
  refine u_t K (u_t rfl (u_f (show ¬ Int32.ofNat p < 0 by rw [n3_0, nn_lt (by omega) (by decide)]; omega) ?_))
  by_cases c : p < e
  · refine u_f (show ¬ pm_I (rc h (Int32.ofNat p) 0 q) 19 2 ≤ Int32.ofNat p by rw [i2, nn_le (by omega) (by omega)]; omega) (u_b rm0 (u_t km (u_b rb (u_t kb (u_t (show Int32.ofNat p < Int32.ofNat (pm_ln h b) by rw [lb, nn_lt (by omega) (by omega)]; omega) (u_l (u_l ?_)))))))
    rw [if_pos c]
    have e1 : pm_setI (rc h (Int32.ofNat p) 0 q) 19 1 (pm_I (rc h (Int32.ofNat p) 0 q) 19 1 + 1) = rc h (Int32.ofNat (p + 1)) 0 q := by
      rw [rc_s1]
      exact congrArg (fun z => rc h z 0 q) (nn_ad p 1)
    rw [e1]
    have e2 : pm_I (rc h (Int32.ofNat (p + 1)) 0 q) 19 1 - 1 = Int32.ofNat p := by
      show Int32.ofNat (p + 1) - Int32.ofNat 1 = _
      rw [nn_sb (by omega)]
      exact congrArg Int32.ofNat (by omega)
    rw [e2]
    refine u_t (show pm_in (Int32.ofNat p) (pm_ln h b) by rw [lb, nn_in (by omega)]; omega) (u_r ?_)
    rw [nn_cm (by omega), rc_x _ _ _ _ b9, hB p (by omega)]
  · refine u_t (show pm_I (rc h (Int32.ofNat p) 0 q) 19 2 ≤ Int32.ofNat p by rw [i2, nn_le (by omega) (by omega)]; omega) (u_l ?_)
    rw [if_neg c]
    refine u_x (h' := h) (a := Int32.ofNat p) (by decide) ?_ rfl
    show pm_setI (pm_setI (rc h (Int32.ofNat p) 0 q) 19 3 1) 19 4 (pm_I (pm_setI (rc h (Int32.ofNat p) 0 q) 19 3 1) 19 2) = _
    rw [rc_s3, rc_s4]
    exact congrArg (rc h (Int32.ofNat p) 1) ie
end CREAD
