/-! RULES: the reference against a parser, step by step -/
theorem MR_Q {α β : Type} {h : pm_H} {f q : Int32} {g : α → β} {x : Option ((Nat × pm_H) ⊕ (β × pm_H))} {o : sp_O α} (M : MR h 595 f q g x o) : ms_Q (fun h' => h' = h) (fun v p' r => r = (g v, rm h (Int32.ofNat p') f q)) x o := by
  cases o with
  | inl w =>
    obtain ⟨a, e⟩ := M
    exact ⟨h, a, rfl, e⟩
  | inr v => exact ⟨_, M, rfl⟩
section RULES
variable {α β γ ρ σ : Type} {F : pm_H → Prop} {R : β → Nat → ρ → Prop} {s : σ → Option (σ ⊕ ((Nat × pm_H) ⊕ ρ))} {o : sp_O β}
theorem q_t {c : Prop} {i : Decidable c} {a b : Option ((Nat × pm_H) ⊕ ρ)} (h : c) (q : ms_Q F R a o) : ms_Q F R (@ite _ c i a b) o := by rw [if_pos h]; exact q
theorem q_f {c : Prop} {i : Decidable c} {a b : Option ((Nat × pm_H) ⊕ ρ)} (h : ¬ c) (q : ms_Q F R b o) : ms_Q F R (@ite _ c i a b) o := by rw [if_neg h]; exact q
theorem q_l {δ : Type} {e : δ} {k : δ → Option ((Nat × pm_H) ⊕ ρ)} (q : ms_Q F R (k e) o) : ms_Q F R (pm_let e k) o := q
theorem q_b {δ : Type} {x : Option δ} {v : δ} {k : δ → Option ((Nat × pm_H) ⊕ ρ)} (e : x = some v) (q : ms_Q F R (k v) o) : ms_Q F R (x.bind k) o := by rw [e]; exact q
theorem q_c {F1 : pm_H → Prop} {R1 : α → Nat → γ → Prop} {x : Option ((Nat × pm_H) ⊕ γ)} {k : γ → Option ((Nat × pm_H) ⊕ ρ)} {o1 : sp_O α} {k' : α → Nat → sp_O β} (Q : ms_Q F1 R1 x o1) (hF : ∀ h, F1 h → F h) (hk : ∀ v p r, o1 = .inr (v, p) → R1 v p r → ms_Q F R (k r) (k' v p)) : ms_Q F R (x.bind fun w => pt_k w k) (sp_b o1 k') := by
  cases o1 with
  | inl w =>
    obtain ⟨h', a, f, e⟩ := Q
    rw [e]
    exact ⟨h', a, hF h' f, rfl⟩
  | inr v =>
    obtain ⟨r, e, g⟩ := Q
    rw [e]
    exact hk v.1 v.2 r rfl g
theorem s_t {c : Prop} {i : Decidable c} {a b : Option (σ ⊕ ((Nat × pm_H) ⊕ ρ))} (h : c) (q : ms_Q F R (ev_k s a) o) : ms_Q F R (ev_k s (@ite _ c i a b)) o := by rw [if_pos h]; exact q
theorem s_f {c : Prop} {i : Decidable c} {a b : Option (σ ⊕ ((Nat × pm_H) ⊕ ρ))} (h : ¬ c) (q : ms_Q F R (ev_k s b) o) : ms_Q F R (ev_k s (@ite _ c i a b)) o := by rw [if_neg h]; exact q
theorem s_l {δ : Type} {e : δ} {k : δ → Option (σ ⊕ ((Nat × pm_H) ⊕ ρ))} (q : ms_Q F R (ev_k s (k e)) o) : ms_Q F R (ev_k s (pm_let e k)) o := q
theorem s_b {δ : Type} {x : Option δ} {v : δ} {k : δ → Option (σ ⊕ ((Nat × pm_H) ⊕ ρ))} (e : x = some v) (q : ms_Q F R (ev_k s (k v)) o) : ms_Q F R (ev_k s (x.bind k)) o := by rw [e]; exact q
theorem s_c {F1 : pm_H → Prop} {R1 : α → Nat → γ → Prop} {x : Option ((Nat × pm_H) ⊕ γ)} {k : γ → Option (σ ⊕ ((Nat × pm_H) ⊕ ρ))} {o1 : sp_O α} {k' : α → Nat → sp_O β} (Q : ms_Q F1 R1 x o1) (hF : ∀ h, F1 h → F h) (hk : ∀ v p r, o1 = .inr (v, p) → R1 v p r → ms_Q F R (ev_k s (k r)) (k' v p)) : ms_Q F R (ev_k s (x.bind fun w => pt_s w k)) (sp_b o1 k') := by
  cases o1 with
  | inl w =>
    obtain ⟨h', a, f, e⟩ := Q
    rw [e]
    exact ⟨h', a, hF h' f, rfl⟩
  | inr v =>
    obtain ⟨r, e, g⟩ := Q
    rw [e]
    exact hk v.1 v.2 r rfl g
theorem s_n {y : σ} (q : ms_Q F R (pm_lim s y) o) : ms_Q F R (ev_k s (some (.inl y))) o := q
theorem s_r {r : (Nat × pm_H) ⊕ ρ} (q : ms_Q F R (some r) o) : ms_Q F R (ev_k s (some (.inr r))) o := q
theorem s_w {x : σ} {v : Option (σ ⊕ ((Nat × pm_H) ⊕ ρ))} (e : s x = v) (q : ms_Q F R (ev_k s v) o) : ms_Q F R (pm_lim s x) o := by rw [ev_lm, e]; exact q
theorem q_r {r : ρ} {v : β} {p : Nat} (h : R v p r) : ms_Q F R (some (.inr r)) (.inr (v, p)) := ⟨r, rfl, h⟩
/-- weaker -/
theorem q_w {F1 : pm_H → Prop} {R1 : β → Nat → ρ → Prop} {x : Option ((Nat × pm_H) ⊕ ρ)} (Q : ms_Q F1 R1 x o) (hF : ∀ h, F1 h → F h) (hR : ∀ v p r, o = .inr (v, p) → R1 v p r → R v p r) : ms_Q F R x o := by
  cases o with
  | inl w =>
    obtain ⟨h', a, f, e⟩ := Q
    exact ⟨h', a, hF h' f, e⟩
  | inr v =>
    obtain ⟨r, e, g⟩ := Q
    exact ⟨r, e, hR v.1 v.2 r rfl g⟩
/-- a loop's call as the last thing -/
theorem q_cl {F1 : pm_H → Prop} {R1 : α → Nat → ρ → Prop} {x : Option ((Nat × pm_H) ⊕ ρ)} {o1 : sp_O α} {k' : α → Nat → sp_O β} (Q : ms_Q F1 R1 x o1) (hF : ∀ h, F1 h → F h) (hk : ∀ v p r, o1 = .inr (v, p) → R1 v p r → ms_Q F R (some (.inr r)) (k' v p)) : ms_Q F R x (sp_b o1 k') := by
  cases o1 with
  | inl w =>
    obtain ⟨h', a, f, e⟩ := Q
    exact ⟨h', a, hF h' f, e⟩
  | inr v =>
    obtain ⟨r, e, g⟩ := Q
    rw [e]
    exact hk v.1 v.2 r rfl g
end RULES
/-- rows of things, one behind the other -/
def sp_rows {α : Type} (row : Nat → sp_O α) : Nat → Nat → sp_O (List α)
  | 0, p => .inr ([], p)
  | j + 1, p => sp_b (row p) fun a p1 => sp_b (sp_rows row j p1) fun l p2 => .inr (a :: l, p2)
/-- since h only what AI (ints) and AL (longs) name was written -/
def gF (AI AL : Nat → Nat → Prop) (h h' : pm_H) : Prop := pm_sz h' = pm_sz h ∧ pm_kd h' = pm_kd h ∧ pm_ln h' = pm_ln h ∧ pm_R h' = pm_R h ∧ (∀ x y, ¬ AI x y → pm_I h' x y = pm_I h x y) ∧ ∀ x y, ¬ AL x y → pm_L h' x y = pm_L h x y
theorem gF_r (AI AL : Nat → Nat → Prop) (h : pm_H) : gF AI AL h h := ⟨rfl, rfl, rfl, rfl, fun _ _ _ => rfl, fun _ _ _ => rfl⟩
theorem gF_t {AI AL : Nat → Nat → Prop} {a b c : pm_H} (p : gF AI AL a b) (q : gF AI AL b c) : gF AI AL a c := ⟨q.1.trans p.1, q.2.1.trans p.2.1, q.2.2.1.trans p.2.2.1, q.2.2.2.1.trans p.2.2.2.1, fun x y n => (q.2.2.2.2.1 x y n).trans (p.2.2.2.2.1 x y n), fun x y n => (q.2.2.2.2.2 x y n).trans (p.2.2.2.2.2 x y n)⟩
theorem gF_I {AI AL : Nat → Nat → Prop} (h : pm_H) {a k : Nat} (v : Int32) (z : AI a k) : gF AI AL h (pm_setI h a k v) := by
  refine ⟨rfl, rfl, rfl, rfl, fun x y n => ?_, fun _ _ _ => rfl⟩
  rw [ev_II]
  by_cases e : x = a
  · rw [if_pos e, if_neg (fun e2 => n (by rw [e, e2]; exact z))]
  · rw [if_neg e]
theorem gF_L {AI AL : Nat → Nat → Prop} (h : pm_H) {a k : Nat} (v : Int64) (z : AL a k) : gF AI AL h (pm_setL h a k v) := by
  refine ⟨rfl, rfl, rfl, rfl, fun _ _ _ => rfl, fun x y n => ?_⟩
  rw [ev_LL]
  by_cases e : x = a
  · rw [if_pos e, if_neg (fun e2 => n (by rw [e, e2]; exact z))]
  · rw [if_neg e]
theorem gF_m {AI AL BI BL : Nat → Nat → Prop} {h h' : pm_H} (p : gF AI AL h h') (a : ∀ x y, AI x y → BI x y) (b : ∀ x y, AL x y → BL x y) : gF BI BL h h' := ⟨p.1, p.2.1, p.2.2.1, p.2.2.2.1, fun x y n => p.2.2.2.2.1 x y (fun z => n (a x y z)), fun x y n => p.2.2.2.2.2 x y (fun z => n (b x y z))⟩
/-- what yF allows -/
def yI (m eo el x y : Nat) : Prop := (x = 592 ∧ y = 16) ∨ x = 596 ∨ x = 597 ∨ x = eo ∨ x = el ∨ x = m ∨ (m + 2 ≤ x ∧ x ≤ m + 39)
def yL (m x y : Nat) : Prop := (x = 592 ∧ (y = 17 ∨ y = 18)) ∨ x = m ∨ (m + 2 ≤ x ∧ x ≤ m + 39)
theorem gF_y {m eo el : Nat} {h h' : pm_H} (hm : 648 < m) (h1 : 648 < eo) (h2 : 648 < el) (p : gF (yI m eo el) (yL m) h h') : yF m eo el h h' := by
  refine ⟨p.1, p.2.1, p.2.2.1, p.2.2.2.1, fun x y a b c d e f g => ⟨p.2.2.2.2.1 x y ?_, p.2.2.2.2.2 x y ?_⟩, fun y hy => p.2.2.2.2.1 592 y ?_, fun y ha hb => p.2.2.2.2.2 592 y ?_⟩
  · unfold yI; omega
  · unfold yL; omega
  · unfold yI; omega
  · unfold yL; omega
theorem q_rows {σ α : Type} {s : σ → Option (σ ⊕ ((Nat × pm_H) ⊕ pm_H))} {n b m eo el e : Nat} {d : Bool} {B : Nat → Nat} {f q : Int32} {st : Nat → pm_H → σ} {row : Nat → sp_O α} {Cn : pm_H → List α → Prop} {AI AL : Nat → Nat → Prop} {c : Nat} (ay : ∀ h h', mC h n b m eo el e d B → gF AI AL h h' → yF m eo el h h') (done : ∀ H, pm_lim s (st c H) = some (.inr H))
    (step : ∀ (k p : Nat) (h : pm_H) (l : List α) (F : pm_H → Prop) (R : List α → Nat → pm_H → Prop) (o' : α → Nat → sp_O (List α)), k < c → mC h n b m eo el e d B → p ≤ e → l.length = k → Cn h l → (∀ h', yF m eo el h h' → F h') → (∀ a p' h', row p = .inr (a, p') → gF AI AL h h' → Cn h' (l ++ [a]) → p < p' → p' ≤ e → ms_Q F R (pm_lim s (st (k + 1) (rm h' (Int32.ofNat p') f q))) (o' a p')) → ms_Q F R (pm_lim s (st k (rm h (Int32.ofNat p) f q))) (sp_b (row p) o')) :
    ∀ (j k p : Nat) (h : pm_H) (l : List α), k + j = c → mC h n b m eo el e d B → p ≤ e → l.length = k → Cn h l → ms_Q (fun h' => yF m eo el h h') (fun l' p' r => ∃ h', r = rm h' (Int32.ofNat p') f q ∧ gF AI AL h h' ∧ Cn h' (l ++ l') ∧ l'.length = j ∧ p ≤ p' ∧ p' ≤ e) (pm_lim s (st k (rm h (Int32.ofNat p) f q))) (sp_rows row j p) := by
  intro j
  induction j with
  | zero =>
    intro k p h l hk C hp hl cn
    rw [show k = c by omega, done]
    exact q_r ⟨h, rfl, gF_r AI AL h, by rw [List.append_nil]; exact cn, rfl, Nat.le_refl _, hp⟩
  | succ j ih =>
    intro k p h l hk C hp hl cn
    unfold sp_rows
    refine step k p h l _ _ _ (by omega) C hp hl cn (fun h' y => y) (fun a p' h' e1 g cn' hp1 hp2 => ?_)
    have y := ay h h' C g
    refine q_cl (ih (k + 1) p' h' (l ++ [a]) (by omega) (mC_F C y) hp2 (by rw [List.length_append, hl]; rfl) cn') (fun h2 y2 => yF_t y y2) ?_
    rintro v p2 r e2 ⟨h2, er, g2, cn2, ln, hp3, hp4⟩
    exact q_r ⟨h2, er, gF_t g g2, by rw [List.append_assoc] at cn2; exact cn2, by rw [List.length_cons, ln], by omega, hp4⟩
