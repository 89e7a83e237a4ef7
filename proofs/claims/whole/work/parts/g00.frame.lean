/-! REGIONS: A is closed under references, and all that is made from now on lies in A. What is called with arguments in A changes nothing outside A; kinds and lengths of old cells stay. -/
def pr_F (A : Nat → Prop) (h0 h : pm_H) : Prop := (∀ a, pm_sz h0 ≤ a → A a) ∧ pm_sz h0 ≤ pm_sz h ∧ (∀ a, A a → ∀ k b, pm_R h a k = some b → A b) ∧ (∀ a, a < pm_sz h0 → pm_kd h a = pm_kd h0 a ∧ pm_ln h a = pm_ln h0 a) ∧ ∀ a, ¬ A a → pm_I h a = pm_I h0 a ∧ pm_L h a = pm_L h0 a ∧ pm_R h a = pm_R h0 a
def pt_RI (A : Nat → Prop) (h0 : pm_H) (r : (Nat × pm_H) ⊕ (Int32 × pm_H)) : Prop := match r with
  | .inl z => pr_F A h0 z.2 ∧ A z.1
  | .inr v => pr_F A h0 v.2
def pt_RJ (A : Nat → Prop) (h0 : pm_H) (r : (Nat × pm_H) ⊕ (Int64 × pm_H)) : Prop := match r with
  | .inl z => pr_F A h0 z.2 ∧ A z.1
  | .inr v => pr_F A h0 v.2
def pt_RV (A : Nat → Prop) (h0 : pm_H) (r : (Nat × pm_H) ⊕ pm_H) : Prop := match r with
  | .inl z => pr_F A h0 z.2 ∧ A z.1
  | .inr v => pr_F A h0 v
section PRF
variable {A : Nat → Prop} {h0 h : pm_H} {a : Nat}
theorem pr_rf (up : ∀ a, pm_sz h ≤ a → A a) (cl : ∀ a, A a → ∀ k b, pm_R h a k = some b → A b) : pr_F A h h := ⟨up, Nat.le_refl _, cl, fun _ _ => ⟨rfl, rfl⟩, fun _ _ => ⟨rfl, rfl, rfl⟩⟩
theorem pr_c (F : pr_F A h0 h) (ha : A a) {k b : Nat} (e : pm_R h a k = some b) : A b := F.2.2.1 a ha k b e
theorem pr_n (F : pr_F A h0 h) : A (pm_sz h) := F.1 _ F.2.1
theorem pr_ne (ha : A a) {x : Nat} (hx : ¬ A x) : x ≠ a := fun e => hx (e ▸ ha)
theorem pr_sI (F : pr_F A h0 h) (ha : A a) {k : Nat} {v : Int32} : pr_F A h0 (pm_setI h a k v) :=
  ⟨F.1, F.2.1, F.2.2.1, F.2.2.2.1, fun x hx => ⟨(pm_u2_n _ _ (pr_ne ha hx)).trans (F.2.2.2.2 x hx).1, (F.2.2.2.2 x hx).2⟩⟩
theorem pr_sL (F : pr_F A h0 h) (ha : A a) {k : Nat} {v : Int64} : pr_F A h0 (pm_setL h a k v) :=
  ⟨F.1, F.2.1, F.2.2.1, F.2.2.2.1, fun x hx => ⟨(F.2.2.2.2 x hx).1, (pm_u2_n _ _ (pr_ne ha hx)).trans (F.2.2.2.2 x hx).2.1, (F.2.2.2.2 x hx).2.2⟩⟩
theorem pr_sO (F : pr_F A h0 h) (ha : A a) {k : Nat} {o : Option Nat} (ho : ∀ v, o = some v → A v) : pr_F A h0 (pm_setR h a k o) := by
  refine ⟨F.1, F.2.1, fun x hx j b e => ?_, F.2.2.2.1, fun x hx => ⟨(F.2.2.2.2 x hx).1, (F.2.2.2.2 x hx).2.1, (pm_u2_n _ _ (pr_ne ha hx)).trans (F.2.2.2.2 x hx).2.2⟩⟩
  have e' : pm_u2 (pm_R h) a k o x j = some b := e
  unfold pm_u2 at e'
  split at e'
  · split at e'
    · exact ho b e'
    · exact F.2.2.1 x hx j b e'
  · exact F.2.2.1 x hx j b e'
theorem pr_sR (F : pr_F A h0 h) (ha : A a) {k v : Nat} (hv : A v) : pr_F A h0 (pm_setR h a k (some v)) := pr_sO F ha (fun w e => (Option.some.inj e) ▸ hv)
theorem pr_new (F : pr_F A h0 h) {q n : Nat} : pr_F A h0 (pm_new h q n) := by
  refine ⟨F.1, Nat.le_succ_of_le F.2.1, fun x hx j b e => ?_, fun x hx => ?_, fun x hx => ?_⟩
  · have e' : pm_row (pm_R h) (pm_sz h) (fun _ => none) x j = some b := e
    unfold pm_row at e'
    split at e'
    · cases e'
    · exact F.2.2.1 x hx j b e'
  · have hn : x ≠ pm_sz h := Nat.ne_of_lt (Nat.lt_of_lt_of_le hx F.2.1)
    exact ⟨(pm_u1_n _ _ hn).trans (F.2.2.2.1 x hx).1, (pm_u1_n _ _ hn).trans (F.2.2.2.1 x hx).2⟩
  · have hn := pr_ne (pr_n F) hx
    exact ⟨(pm_row_n _ _ hn).trans (F.2.2.2.2 x hx).1, (pm_row_n _ _ hn).trans (F.2.2.2.2 x hx).2.1, (pm_row_n _ _ hn).trans (F.2.2.2.2 x hx).2.2⟩
theorem pr_clo (F : pr_F A h0 h) (ha : A a) {t : Nat} : pr_F A h0 (pm_cl h a t) := by
  refine ⟨F.1, Nat.le_succ_of_le F.2.1, fun x hx j b e => ?_, fun x hx => ?_, fun x hx => ?_⟩
  · have e' : pm_row (pm_R h) (pm_sz h) (pm_R h a) x j = some b := e
    unfold pm_row at e'
    split at e'
    · exact F.2.2.1 a ha j b e'
    · exact F.2.2.1 x hx j b e'
  · have hn : x ≠ pm_sz h := Nat.ne_of_lt (Nat.lt_of_lt_of_le hx F.2.1)
    exact ⟨(pm_u1_n _ _ hn).trans (F.2.2.2.1 x hx).1, (pm_u1_n _ _ hn).trans (F.2.2.2.1 x hx).2⟩
  · have hn := pr_ne (pr_n F) hx
    exact ⟨(pm_row_n _ _ hn).trans (F.2.2.2.2 x hx).1, (pm_row_n _ _ hn).trans (F.2.2.2.2 x hx).2.1, (pm_row_n _ _ hn).trans (F.2.2.2.2 x hx).2.2⟩
theorem pr_ma (F : pr_F A h0 h) {t u N i : Nat} : pr_F A h0 (pm_ma h t u N i) := by
  induction i with
  | zero => exact pr_new F
  | succ i ih => exact pr_sR (pr_new ih) (pr_n F) (pr_n ih)
theorem pr_flt (F : pr_F A h0 h) : pr_F A h0 (pm_flt h) := pr_sR (pr_sI (pr_sI (pr_new F) (pr_n F)) (pr_n F)) (pr_n F) (pr_n F)
theorem pr_cpI (F : pr_F A h0 h) (ha : A a) {s p d n : Nat} : pr_F A h0 (pm_cpI h s p a d n) :=
  ⟨F.1, F.2.1, F.2.2.1, F.2.2.2.1, fun x hx => ⟨(pm_row_n _ _ (pr_ne ha hx)).trans (F.2.2.2.2 x hx).1, (F.2.2.2.2 x hx).2⟩⟩
theorem pr_cpL (F : pr_F A h0 h) (ha : A a) {s p d n : Nat} : pr_F A h0 (pm_cpL h s p a d n) :=
  ⟨F.1, F.2.1, F.2.2.1, F.2.2.2.1, fun x hx => ⟨(F.2.2.2.2 x hx).1, (pm_row_n _ _ (pr_ne ha hx)).trans (F.2.2.2.2 x hx).2.1, (F.2.2.2.2 x hx).2.2⟩⟩
end PRF
