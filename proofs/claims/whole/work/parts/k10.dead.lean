/-! THE CLASS READS: rows, behind a fault -/
/-- nothing is made, no reference written -/
def nF (h h' : pm_H) : Prop := pm_sz h' = pm_sz h ∧ pm_kd h' = pm_kd h ∧ pm_ln h' = pm_ln h ∧ pm_R h' = pm_R h
theorem nF_r (h : pm_H) : nF h h := ⟨rfl, rfl, rfl, rfl⟩
theorem nF_t {a b c : pm_H} (p : nF a b) (q : nF b c) : nF a c := ⟨q.1.trans p.1, q.2.1.trans p.2.1, q.2.2.1.trans p.2.2.1, q.2.2.2.trans p.2.2.2⟩
theorem nF_g {AI AL : Nat → Nat → Prop} {h h' : pm_H} (g : gF AI AL h h') : nF h h' := ⟨g.1, g.2.1, g.2.2.1, g.2.2.2.1⟩
theorem nF_i {h h' : pm_H} (z : iF h h') : nF h h' := nF_g (exF_i (me := 0) z)
theorem nF_sI {h h1 : pm_H} (g : nF h h1) {x k : Nat} {v : Int32} : nF h (pm_setI h1 x k v) := g
theorem nF_sL {h h1 : pm_H} (g : nF h h1) {x k : Nat} {v : Int64} : nF h (pm_setL h1 x k v) := g
theorem rc_f0 {h : pm_H} {a f q : Int32} (hf : f ≠ 0) : ¬ pm_I (rc h a f q) 19 3 = 0 := hf
/-- a row's place written, if there is one -/
def sL (h : pm_H) (x k : Nat) (v : Int64) : pm_H := if k < pm_ln h x then pm_setL h x k v else h
def sI (h : pm_H) (x k : Nat) (v : Int32) : pm_H := if k < pm_ln h x then pm_setI h x k v else h
theorem nF_dL (h : pm_H) (x k : Nat) (v : Int64) : nF h (sL h x k v) := by unfold sL; split <;> exact ⟨rfl, rfl, rfl, rfl⟩
theorem nF_dI (h : pm_H) (x k : Nat) (v : Int32) : nF h (sI h x k v) := by unfold sI; split <;> exact ⟨rfl, rfl, rfl, rfl⟩
section SET
variable {h : pm_H} {x : Nat} {a f q : Int32}
theorem st6_e (k35 : pm_kd h x = 35) (hl : pm_ln h x < 2147483648) {k : Nat} (hk : k < 2147483648) (v : Int64) : fX12_setItem_ (rc h a f q) x (Int32.ofNat k) v = some (rc (sL h x k v) a f q) := by
  unfold fX12_setItem_ sL
  refine e9_f (show ¬ Int32.ofNat k < 0 by rw [n3_0, nn_lt hk (by decide)]; omega) (e9_t k35 ?_)
  by_cases c : k < pm_ln h x
  · rw [if_pos c]
    refine e9_f (show ¬ Int32.ofNat (pm_ln h x) ≤ Int32.ofNat k by rw [nn_le hl hk]; omega) (e9_t (show pm_in (Int32.ofNat k) (pm_ln h x) by rw [nn_in hk]; exact c) ?_)
    rw [nn_cm hk]
    rfl
  · rw [if_neg c]
    exact e9_t (show Int32.ofNat (pm_ln h x) ≤ Int32.ofNat k by rw [nn_le hl hk]; omega) rfl
theorem st3_e (k34 : pm_kd h x = 34) (x9 : x ≠ 19) (hl : pm_ln h x < 2147483648) {k : Nat} (hk : k < 2147483648) (v : Int32) : fX12_setItem (rc h a f q) x (Int32.ofNat k) v = some (rc (sI h x k v) a f q) := by
  unfold fX12_setItem sI
  refine e9_f (show ¬ Int32.ofNat k < 0 by rw [n3_0, nn_lt hk (by decide)]; omega) (e9_t k34 ?_)
  by_cases c : k < pm_ln h x
  · rw [if_pos c]
    refine e9_f (show ¬ Int32.ofNat (pm_ln h x) ≤ Int32.ofNat k by rw [nn_le hl hk]; omega) (e9_t (show pm_in (Int32.ofNat k) (pm_ln h x) by rw [nn_in hk]; exact c) ?_)
    rw [nn_cm hk, rc_a _ _ _ _ _ x9]
  · rw [if_neg c]
    exact e9_t (show Int32.ofNat (pm_ln h x) ≤ Int32.ofNat k by rw [nn_le hl hk]; omega) rfl
theorem st6_x (k35 : pm_kd h x = 35) (hl : pm_ln h x < 2147483648) (k : Int32) (v : Int64) : ∃ h2, fX12_setItem_ (rc h a f q) x k v = some (rc h2 a f q) ∧ nF h h2 := by
  by_cases c : k < 0
  · exact ⟨h, by unfold fX12_setItem_; exact e9_t c rfl, nF_r h⟩
  · obtain ⟨j, hj, rfl⟩ := n9_of c
    exact ⟨_, st6_e k35 hl hj v, nF_dL ..⟩
theorem st3_x (k34 : pm_kd h x = 34) (x9 : x ≠ 19) (hl : pm_ln h x < 2147483648) (k : Int32) (v : Int32) : ∃ h2, fX12_setItem (rc h a f q) x k v = some (rc h2 a f q) ∧ nF h h2 := by
  by_cases c : k < 0
  · exact ⟨h, by unfold fX12_setItem; exact e9_t c rfl, nF_r h⟩
  · obtain ⟨j, hj, rfl⟩ := n9_of c
    exact ⟨_, st3_e k34 x9 hl hj v, nF_dI ..⟩
end SET
/-- an array of a kind, of a length that is none too great -/
def aK (h : pm_H) (x k : Nat) : Prop := pm_kd h x = k ∧ pm_ln h x < 2147483648
/-- what of the Reader and its Module is where: shape sh, else me, sections sc, types ty, the spaces .. -/
def dW (h : pm_H) (b mm me sh : Nat) : Prop := pm_kd h 19 = 9 ∧ pm_R h 19 0 = some mm ∧ pm_kd h mm = 7 ∧ pm_R h mm 0 = some b ∧ pm_kd h b = 33 ∧ pm_R h 19 17 = some me ∧ (pm_kd h me = 32 ∧ pm_ln h me = 20481) ∧ pm_R h 19 18 = some sh ∧ (pm_kd h sh = 34 ∧ pm_ln h sh = 34)
section DEX
variable {h : pm_H} {b mm me : Nat}
theorem cd_exm (m2 : me ≠ 19) (K : pm_kd h 19 = 9) (rm0 : pm_R h 19 0 = some mm) (km : pm_kd h mm = 7) (rb : pm_R h mm 0 = some b) (kb : pm_kd h b = 33) {f : Int32} (hf : f ≠ 0) (a q x1 x2 : Int32) : cd_Q wH (nF h) f q (pm_lim sX9_expression (.inl (19, x1, x2, rc h a f q))) := by
  refine z_w (aX9_expression_0 ..) ?_
  unfold tX9_expression_11
  refine z_t K (z_b rm0 (z_t km (z_b rb (z_t kb ?_))))
  exact z_i (fun _ => z_r (y_r (a := a) rfl (nF_r h))) (fun _ => z_i (fun _ => z_r (y_r (a := a) rfl (nF_r h))) (fun _ => z_f (show ¬ pm_I (rc h a f q) 19 3 = 0 from hf) (z_r (y_r (a := a) rfl (nF_r h)))))
theorem cd_expr (CD : (pm_kd h 19 = 9 ∧ pm_R h 19 0 = some mm ∧ pm_kd h mm = 7 ∧ pm_R h mm 0 = some b ∧ pm_kd h b = 33) ∧ pm_R h 19 17 = some me ∧ pm_kd h me = 32 ∧ pm_ln h me = 20481) {f : Int32} (hf : f ≠ 0) (a q : Int32) : cd_Q wH (nF h) f q (fX9_expression (rc h a f q) 19) := by
  obtain ⟨⟨K, rm0, km, rb, kb⟩, r17, kme, lme⟩ := CD
  have m2 : me ≠ 19 := fun z => by rw [z, K] at kme; exact absurd kme (by decide)
  unfold fX9_expression
  refine y_t K (y_b r17 (y_t kme (y_t (show pm_in 0 (pm_ln h me) by rw [lme]; decide) ?_)))
  rw [rc_a _ _ _ _ _ m2]
  obtain ⟨r, h2, a2, e, ew, hF⟩ := cd_exm (h := pm_setI h me (0 : Int32).toNatClampNeg (vp_nar .boolean 0)) m2 K rm0 km rb kb hf a q 0 0
  exact ⟨r, h2, a2, e, ew, hF⟩
end DEX
section DRULE
variable {γ ρ σ : Type} {w : ρ → pm_H} {F : pm_H → Prop} {f q a : Int32} {h h1 : pm_H} {s : σ → Option (σ ⊕ ρ)}
theorem gk (g : nF h h1) {x c : Nat} (K : pm_kd h x = c) : pm_kd h1 x = c := by rw [g.2.1]; exact K
theorem gR (g : nF h h1) {x j : Nat} {o : Option Nat} (K : pm_R h x j = o) : pm_R h1 x j = o := by rw [g.2.2.2]; exact K
theorem gl (g : nF h h1) {x c : Nat} (K : pm_ln h x = c) : pm_ln h1 x = c := by rw [g.2.2.1]; exact K
theorem gA (g : nF h h1) {x c : Nat} (K : aK h x c) : aK h1 x c := ⟨gk g K.1, by rw [g.2.2.1]; exact K.2⟩

theorem y_k (g : nF h h1) {x c : Nat} {A B : Option ρ} (K : pm_kd h x = c) (Q : cd_Q w F f q (A)) : cd_Q w F f q (if pm_kd (rc h1 a f q) x = c then A else B) := y_t (gk g K : pm_kd (rc h1 a f q) x = c) Q
theorem y_R (g : nF h h1) {x j v : Nat} {k : Nat → Option ρ} (K : pm_R h x j = some v) (Q : cd_Q w F f q (k v)) : cd_Q w F f q ((pm_R (rc h1 a f q) x j).bind k) := y_b (gR g K : pm_R (rc h1 a f q) x j = some v) Q
theorem y_num (g : nF h h1) (K : pm_kd h 19 = 9) (hf : f ≠ 0) {i : Int32} (hi : 0 < (if 0 ≤ i then i else 0 - i)) {k : Int64 × pm_H → Option ρ} (Q : cd_Q w F f q (k (0, rc h1 a f q))) : cd_Q w F f q ((fX9_number (rc h1 a f q) 19 i).bind k) := y_b (cd_num (h := h1) (gk g K) hf a q i hi) Q
theorem y_fail (g : nF h h1) (K : pm_kd h 19 = 9) (hf : f ≠ 0) {v pl : Int32} {k : pm_H → Option ρ} (Q : cd_Q w F f q (k (rc h1 a f q))) : cd_Q w F f q ((fX9_fail (rc h1 a f q) 19 v pl).bind k) := y_b (cd_fail (h := h1) (gk g K) hf a v pl q) Q
theorem y_skip (g : nF h h1) (K : pm_kd h 19 = 9) (hf : f ≠ 0) {v : Int64} {k : pm_H → Option ρ} (Q : cd_Q w F f q (k (rc h1 a f q))) : cd_Q w F f q ((fX9_skip (rc h1 a f q) 19 v).bind k) := y_b (cd_skip (h := h1) (gk g K) hf a q v) Q
theorem y_next (g : nF h h1) (K : pm_kd h 19 = 9) (hf : f ≠ 0) {k : Int32 × pm_H → Option ρ} (Q : cd_Q w F f q (k (0, rc h1 a f q))) : cd_Q w F f q ((fX9_next (rc h1 a f q) 19).bind k) := y_b (cd_next (h := h1) (gk g K) hf a q) Q
theorem y_vt (g : nF h h1) (K : pm_kd h 19 = 9) (hf : f ≠ 0) {k : Int32 × pm_H → Option ρ} (Q : ∀ r1 a, cd_Q w F f q (k (r1, rc h1 a f q))) : cd_Q w F f q ((fX9_valueType (rc h1 a f q) 19).bind k) := y_p (cd_vt (h := h1) (gk g K) hf a q) Q
theorem y_rt (g : nF h h1) (K : pm_kd h 19 = 9) (hf : f ≠ 0) {k : Int32 × pm_H → Option ρ} (Q : ∀ r1 a, cd_Q w F f q (k (r1, rc h1 a f q))) : cd_Q w F f q ((fX9_referenceType (rc h1 a f q) 19).bind k) := y_p (cd_rt (h := h1) (gk g K) hf a q) Q
theorem y_name (g : nF h h1) (K : pm_kd h 19 = 9) (hf : f ≠ 0) {k : Int32 × pm_H → Option ρ} (Q : ∀ r1 a, cd_Q w F f q (k (r1, rc h1 a f q))) : cd_Q w F f q ((fX9_name (rc h1 a f q) 19).bind k) := y_p (cd_name (h := h1) (gk g K) hf a q) Q
theorem y_nut (g : nF h h1) (K : pm_kd h 19 = 9) (hf : f ≠ 0) {i : Int32} {k : Int32 × pm_H → Option ρ} (Q : ∀ r1 a, cd_Q w F f q (k (r1, rc h1 a f q))) : cd_Q w F f q ((fX9_nextUpTo (rc h1 a f q) 19 i).bind k) := y_p (cd_nut (h := h1) (gk g K) hf a q i) Q
theorem y_lim (g : nF h h1) (K : pm_kd h 19 = 9) {k : pm_H → Option ρ} (Q : ∀ h2, nF h h2 → cd_Q w F f q (k (rc h2 a f q))) : cd_Q w F f q ((fX9_exceedLimit (rc h1 a f q) 19).bind k) := by
  have e := cx_lim (h := h1) (o := pm_I h1 19 6) (oa := pm_I h1 19 7) (l := pm_I h1 19 5) (x := pm_L h1 19 8) (y := pm_L h1 19 9) (gk g K) a f q
  rw [ri_eta] at e
  exact y_b e (Q _ (nF_t g (nF_i ⟨_, _, _, _, _, rfl⟩)))
theorem y_expr {b mm me : Nat} (g : nF h h1) (CD : (pm_kd h 19 = 9 ∧ pm_R h 19 0 = some mm ∧ pm_kd h mm = 7 ∧ pm_R h mm 0 = some b ∧ pm_kd h b = 33) ∧ pm_R h 19 17 = some me ∧ pm_kd h me = 32 ∧ pm_ln h me = 20481) (hf : f ≠ 0) {k : pm_H → Option ρ} (Q : ∀ h2 a, nF h h2 → cd_Q w F f q (k (rc h2 a f q))) : cd_Q w F f q ((fX9_expression (rc h1 a f q) 19).bind k) := by
  obtain ⟨r, h2, a2, e, ew, hF⟩ := cd_expr (h := h1) ⟨⟨gk g CD.1.1, gR g CD.1.2.1, gk g CD.1.2.2.1, gR g CD.1.2.2.2.1, gk g CD.1.2.2.2.2⟩, gR g CD.2.1, gk g CD.2.2.1, gl g CD.2.2.2⟩ hf a q
  have ew : r = rc h2 a2 f q := ew
  subst ew
  exact y_b e (Q h2 a2 (nF_t g hF))
theorem y_st6 (g : nF h h1) {x : Nat} (k35 : pm_kd h x = 35) (hl : pm_ln h x < 2147483648) {i : Int32} {v : Int64} {k : pm_H → Option ρ} (Q : ∀ h2, nF h h2 → cd_Q w F f q (k (rc h2 a f q))) : cd_Q w F f q ((fX12_setItem_ (rc h1 a f q) x i v).bind k) := by
  obtain ⟨h2, e, g2⟩ := st6_x (h := h1) (x := x) (a := a) (f := f) (q := q) (gk g k35) (by rw [g.2.2.1]; exact hl) i v
  exact y_b e (Q h2 (nF_t g g2))
theorem y_st3 (g : nF h h1) {x : Nat} (k34 : pm_kd h x = 34) (hl : pm_ln h x < 2147483648 ∧ x ≠ 19) {i : Int32} {v : Int32} {k : pm_H → Option ρ} (Q : ∀ h2, nF h h2 → cd_Q w F f q (k (rc h2 a f q))) : cd_Q w F f q ((fX12_setItem (rc h1 a f q) x i v).bind k) := by
  obtain ⟨h2, e, g2⟩ := st3_x (h := h1) (x := x) (a := a) (f := f) (q := q) (gk g k34) hl.2 (by rw [g.2.2.1]; exact hl.1) i v
  exact y_b e (Q h2 (nF_t g g2))
theorem z_k (g : nF h h1) {x c : Nat} {A B : Option (σ ⊕ ρ)} (K : pm_kd h x = c) (Q : cd_Q w F f q (ev_k s (A))) : cd_Q w F f q (ev_k s (if pm_kd (rc h1 a f q) x = c then A else B)) := z_t (gk g K : pm_kd (rc h1 a f q) x = c) Q
theorem z_R (g : nF h h1) {x j v : Nat} {k : Nat → Option (σ ⊕ ρ)} (K : pm_R h x j = some v) (Q : cd_Q w F f q (ev_k s (k v))) : cd_Q w F f q (ev_k s ((pm_R (rc h1 a f q) x j).bind k)) := z_b (gR g K : pm_R (rc h1 a f q) x j = some v) Q
theorem z_num (g : nF h h1) (K : pm_kd h 19 = 9) (hf : f ≠ 0) {i : Int32} (hi : 0 < (if 0 ≤ i then i else 0 - i)) {k : Int64 × pm_H → Option (σ ⊕ ρ)} (Q : cd_Q w F f q (ev_k s (k (0, rc h1 a f q)))) : cd_Q w F f q (ev_k s ((fX9_number (rc h1 a f q) 19 i).bind k)) := z_b (cd_num (h := h1) (gk g K) hf a q i hi) Q
theorem z_fail (g : nF h h1) (K : pm_kd h 19 = 9) (hf : f ≠ 0) {v pl : Int32} {k : pm_H → Option (σ ⊕ ρ)} (Q : cd_Q w F f q (ev_k s (k (rc h1 a f q)))) : cd_Q w F f q (ev_k s ((fX9_fail (rc h1 a f q) 19 v pl).bind k)) := z_b (cd_fail (h := h1) (gk g K) hf a v pl q) Q
theorem z_skip (g : nF h h1) (K : pm_kd h 19 = 9) (hf : f ≠ 0) {v : Int64} {k : pm_H → Option (σ ⊕ ρ)} (Q : cd_Q w F f q (ev_k s (k (rc h1 a f q)))) : cd_Q w F f q (ev_k s ((fX9_skip (rc h1 a f q) 19 v).bind k)) := z_b (cd_skip (h := h1) (gk g K) hf a q v) Q
theorem z_next (g : nF h h1) (K : pm_kd h 19 = 9) (hf : f ≠ 0) {k : Int32 × pm_H → Option (σ ⊕ ρ)} (Q : cd_Q w F f q (ev_k s (k (0, rc h1 a f q)))) : cd_Q w F f q (ev_k s ((fX9_next (rc h1 a f q) 19).bind k)) := z_b (cd_next (h := h1) (gk g K) hf a q) Q
theorem z_vt (g : nF h h1) (K : pm_kd h 19 = 9) (hf : f ≠ 0) {k : Int32 × pm_H → Option (σ ⊕ ρ)} (Q : ∀ r1 a, cd_Q w F f q (ev_k s (k (r1, rc h1 a f q)))) : cd_Q w F f q (ev_k s ((fX9_valueType (rc h1 a f q) 19).bind k)) := z_p (cd_vt (h := h1) (gk g K) hf a q) Q
theorem z_rt (g : nF h h1) (K : pm_kd h 19 = 9) (hf : f ≠ 0) {k : Int32 × pm_H → Option (σ ⊕ ρ)} (Q : ∀ r1 a, cd_Q w F f q (ev_k s (k (r1, rc h1 a f q)))) : cd_Q w F f q (ev_k s ((fX9_referenceType (rc h1 a f q) 19).bind k)) := z_p (cd_rt (h := h1) (gk g K) hf a q) Q
theorem z_name (g : nF h h1) (K : pm_kd h 19 = 9) (hf : f ≠ 0) {k : Int32 × pm_H → Option (σ ⊕ ρ)} (Q : ∀ r1 a, cd_Q w F f q (ev_k s (k (r1, rc h1 a f q)))) : cd_Q w F f q (ev_k s ((fX9_name (rc h1 a f q) 19).bind k)) := z_p (cd_name (h := h1) (gk g K) hf a q) Q
theorem z_nut (g : nF h h1) (K : pm_kd h 19 = 9) (hf : f ≠ 0) {i : Int32} {k : Int32 × pm_H → Option (σ ⊕ ρ)} (Q : ∀ r1 a, cd_Q w F f q (ev_k s (k (r1, rc h1 a f q)))) : cd_Q w F f q (ev_k s ((fX9_nextUpTo (rc h1 a f q) 19 i).bind k)) := z_p (cd_nut (h := h1) (gk g K) hf a q i) Q
theorem z_lim (g : nF h h1) (K : pm_kd h 19 = 9) {k : pm_H → Option (σ ⊕ ρ)} (Q : ∀ h2, nF h h2 → cd_Q w F f q (ev_k s (k (rc h2 a f q)))) : cd_Q w F f q (ev_k s ((fX9_exceedLimit (rc h1 a f q) 19).bind k)) := by
  have e := cx_lim (h := h1) (o := pm_I h1 19 6) (oa := pm_I h1 19 7) (l := pm_I h1 19 5) (x := pm_L h1 19 8) (y := pm_L h1 19 9) (gk g K) a f q
  rw [ri_eta] at e
  exact z_b e (Q _ (nF_t g (nF_i ⟨_, _, _, _, _, rfl⟩)))
theorem z_expr {b mm me : Nat} (g : nF h h1) (CD : (pm_kd h 19 = 9 ∧ pm_R h 19 0 = some mm ∧ pm_kd h mm = 7 ∧ pm_R h mm 0 = some b ∧ pm_kd h b = 33) ∧ pm_R h 19 17 = some me ∧ pm_kd h me = 32 ∧ pm_ln h me = 20481) (hf : f ≠ 0) {k : pm_H → Option (σ ⊕ ρ)} (Q : ∀ h2 a, nF h h2 → cd_Q w F f q (ev_k s (k (rc h2 a f q)))) : cd_Q w F f q (ev_k s ((fX9_expression (rc h1 a f q) 19).bind k)) := by
  obtain ⟨r, h2, a2, e, ew, hF⟩ := cd_expr (h := h1) ⟨⟨gk g CD.1.1, gR g CD.1.2.1, gk g CD.1.2.2.1, gR g CD.1.2.2.2.1, gk g CD.1.2.2.2.2⟩, gR g CD.2.1, gk g CD.2.2.1, gl g CD.2.2.2⟩ hf a q
  have ew : r = rc h2 a2 f q := ew
  subst ew
  exact z_b e (Q h2 a2 (nF_t g hF))
theorem z_st6 (g : nF h h1) {x : Nat} (k35 : pm_kd h x = 35) (hl : pm_ln h x < 2147483648) {i : Int32} {v : Int64} {k : pm_H → Option (σ ⊕ ρ)} (Q : ∀ h2, nF h h2 → cd_Q w F f q (ev_k s (k (rc h2 a f q)))) : cd_Q w F f q (ev_k s ((fX12_setItem_ (rc h1 a f q) x i v).bind k)) := by
  obtain ⟨h2, e, g2⟩ := st6_x (h := h1) (x := x) (a := a) (f := f) (q := q) (gk g k35) (by rw [g.2.2.1]; exact hl) i v
  exact z_b e (Q h2 (nF_t g g2))
theorem z_st3 (g : nF h h1) {x : Nat} (k34 : pm_kd h x = 34) (hl : pm_ln h x < 2147483648 ∧ x ≠ 19) {i : Int32} {v : Int32} {k : pm_H → Option (σ ⊕ ρ)} (Q : ∀ h2, nF h h2 → cd_Q w F f q (ev_k s (k (rc h2 a f q)))) : cd_Q w F f q (ev_k s ((fX12_setItem (rc h1 a f q) x i v).bind k)) := by
  obtain ⟨h2, e, g2⟩ := st3_x (h := h1) (x := x) (a := a) (f := f) (q := q) (gk g k34) hl.2 (by rw [g.2.2.1]; exact hl.1) i v
  exact z_b e (Q h2 (nF_t g g2))
end DRULE
