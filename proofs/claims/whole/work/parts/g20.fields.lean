/-! FIELDS: which fields of which classes, and which kinds of arrays, a function may write; all else of old cells stays -/
abbrev pw_c (c k : Nat) : Nat := if c < 32 then 128 * c + k else 128 * c
/-- no kind and no reference beyond the size -/
def pw_J (h : pm_H) : Prop := ∀ a, pm_sz h ≤ a → pm_kd h a = 31 ∧ ∀ k, pm_R h a k = none
/-- fields that may hold references, as far as it matters: none in arrays of numbers, three in the Reader -/
abbrev pw_N (c k : Nat) : Prop := (32 ≤ c ∧ c < 36) ∨ (c = 9 ∧ k ≠ 0 ∧ k ≠ 17 ∧ k ≠ 18)
def pw_F (L : List Nat) (h0 h : pm_H) : Prop := pm_sz h0 ≤ pm_sz h ∧ (∀ a, a < pm_sz h0 → pm_kd h a = pm_kd h0 a ∧ pm_ln h a = pm_ln h0 a) ∧ (∀ a k, a < pm_sz h0 → ¬ pw_c (pm_kd h0 a) k ∈ L → pm_I h a k = pm_I h0 a k ∧ pm_L h a k = pm_L h0 a k ∧ pm_R h a k = pm_R h0 a k) ∧ (pw_J h0 → pw_J h) ∧ ∀ a k, a < pm_sz h0 → pw_N (pm_kd h0 a) k → pm_R h a k = pm_R h0 a k
def pt_WI (L : List Nat) (h0 : pm_H) (r : (Nat × pm_H) ⊕ (Int32 × pm_H)) : Prop := match r with
  | .inl z => pw_F L h0 z.2
  | .inr v => pw_F L h0 v.2
def pt_WJ (L : List Nat) (h0 : pm_H) (r : (Nat × pm_H) ⊕ (Int64 × pm_H)) : Prop := match r with
  | .inl z => pw_F L h0 z.2
  | .inr v => pw_F L h0 v.2
def pt_WV (L : List Nat) (h0 : pm_H) (r : (Nat × pm_H) ⊕ pm_H) : Prop := match r with
  | .inl z => pw_F L h0 z.2
  | .inr v => pw_F L h0 v
section PWF
variable {L L' : List Nat} {h0 h h' : pm_H} {a c k : Nat} {q : Nat → Nat}
theorem pkI (D : pm_kd h = q) {b j : Nat} {v : Int32} : pm_kd (pm_setI h b j v) = q := D
theorem pkL (D : pm_kd h = q) {b j : Nat} {v : Int64} : pm_kd (pm_setL h b j v) = q := D
theorem pkR (D : pm_kd h = q) {b j : Nat} {v : Option Nat} : pm_kd (pm_setR h b j v) = q := D
theorem pkCI (D : pm_kd h = q) {s p b d n : Nat} : pm_kd (pm_cpI h s p b d n) = q := D
theorem pkCL (D : pm_kd h = q) {s p b d n : Nat} : pm_kd (pm_cpL h s p b d n) = q := D
theorem pw_rf (h : pm_H) : pw_F L h h := ⟨Nat.le_refl _, fun _ _ => ⟨rfl, rfl⟩, fun _ _ _ _ => ⟨rfl, rfl, rfl⟩, fun j => j, fun _ _ _ _ => rfl⟩
theorem pw_t (s : (L'.all fun x => L.contains x) = true) (F : pw_F L h0 h) (G : pw_F L' h h') : pw_F L h0 h' := by
  refine ⟨Nat.le_trans F.1 G.1, fun a ha => ?_, fun a k ha hw => ?_, fun j => G.2.2.2.1 (F.2.2.2.1 j), fun a k ha h1 => (G.2.2.2.2 a k (Nat.lt_of_lt_of_le ha F.1) (by rw [(F.2.1 a ha).1]; exact h1)).trans (F.2.2.2.2 a k ha h1)⟩
  · have g := G.2.1 a (Nat.lt_of_lt_of_le ha F.1)
    have f := F.2.1 a ha
    exact ⟨g.1.trans f.1, g.2.trans f.2⟩
  · have f := F.2.2.1 a k ha hw
    have hk := (F.2.1 a ha).1
    have g := G.2.2.1 a k (Nat.lt_of_lt_of_le ha F.1) (fun q => by
      rw [hk] at q
      have := List.all_eq_true.mp s _ q
      exact hw (List.contains_iff_mem.mp this))
    exact ⟨g.1.trans f.1, g.2.1.trans f.2.1, g.2.2.trans f.2.2⟩
theorem pw_w (F : pw_F L h0 h) (h2 : pm_H) (hz : pm_sz h2 = pm_sz h) (hk : pm_kd h2 = pm_kd h) (hl : pm_ln h2 = pm_ln h) (e : ∀ x j, ¬ (x < pm_sz h0 ∧ pw_c (pm_kd h0 x) j ∈ L) → x < pm_sz h0 → pm_I h2 x j = pm_I h x j ∧ pm_L h2 x j = pm_L h x j ∧ pm_R h2 x j = pm_R h x j) (eJ : pw_J h → pw_J h2) (eK : ∀ x k, pw_N (pm_kd h x) k → pm_R h2 x k = pm_R h x k) : pw_F L h0 h2 := by
  refine ⟨by rw [hz]; exact F.1, fun x hx => by rw [hk, hl]; exact F.2.1 x hx, fun x j hx hw => ?_, fun j => eJ (F.2.2.2.1 j), fun x k hx h1 => (eK x k (by rw [(F.2.1 x hx).1]; exact h1)).trans (F.2.2.2.2 x k hx h1)⟩
  have f := F.2.2.1 x j hx hw
  have g := e x j (fun q => hw q.2) hx
  exact ⟨g.1.trans f.1, g.2.1.trans f.2.1, g.2.2.trans f.2.2⟩
theorem pw_ne (F : pw_F L h0 h) (kf : pm_kd h a = c) (hw : pw_c c k ∈ L) {x j : Nat} (q : ¬ (x < pm_sz h0 ∧ pw_c (pm_kd h0 x) j ∈ L)) (hx : x < pm_sz h0) : ¬ (x = a ∧ j = k) := by
  rintro ⟨rfl, rfl⟩
  refine q ⟨hx, ?_⟩
  rw [← (F.2.1 x hx).1, kf]
  exact hw
theorem pw_u2 {α : Type} (f : Nat → Nat → α) (v : α) {x j : Nat} (n : ¬ (x = a ∧ j = k)) : pm_u2 f a k v x j = f x j := by
  unfold pm_u2
  split
  · split
    · exact absurd ⟨‹_›, ‹_›⟩ n
    · rfl
  · rfl
theorem pw_sI (F : pw_F L h0 h) (D : pm_kd h = q) (kf : q a = c) (hw : pw_c c k ∈ L) {v : Int32} (hc : c ≠ 31 := by decide) : pw_F L h0 (pm_setI h a k v) := pw_w F _ rfl rfl rfl (fun _ _ z hx => ⟨pw_u2 _ _ (pw_ne F ((congrFun D _).trans kf) hw z hx), rfl, rfl⟩) (fun j => j) fun _ _ _ => rfl
theorem pw_sL (F : pw_F L h0 h) (D : pm_kd h = q) (kf : q a = c) (hw : pw_c c k ∈ L) {v : Int64} (hc : c ≠ 31 := by decide) : pw_F L h0 (pm_setL h a k v) := pw_w F _ rfl rfl rfl (fun _ _ z hx => ⟨rfl, pw_u2 _ _ (pw_ne F ((congrFun D _).trans kf) hw z hx), rfl⟩) (fun j => j) fun _ _ _ => rfl
theorem pw_sR (F : pw_F L h0 h) (D : pm_kd h = q) (kf : q a = c) (hw : pw_c c k ∈ L) {v : Option Nat} (hc : c ≠ 31 := by decide) (hK : ¬ pw_N c k := by decide) : pw_F L h0 (pm_setR h a k v) := pw_w F _ rfl rfl rfl (fun _ _ z hx => ⟨rfl, rfl, pw_u2 _ _ (pw_ne F ((congrFun D _).trans kf) hw z hx)⟩) (fun j x hx => ⟨(j x hx).1, fun i => (congrFun (pm_u2_n _ _ (fun z => hc (((congrFun D _).trans kf).symm.trans ((congrArg (pm_kd h) z.symm).trans (j x hx).1)))) i).trans ((j x hx).2 i)⟩) fun x j h1 => pw_u2 _ _ (fun z => by
  obtain ⟨z1, z2⟩ := z
  have e : pm_kd h x = c := by rw [z1]; exact (congrFun D _).trans kf
  rw [e, z2] at h1
  exact hK h1)
theorem pw_cc (h32 : 32 ≤ c) : pw_c c k = 128 * c := if_neg (Nat.not_lt.mpr h32)
theorem pw_aI (F : pw_F L h0 h) (D : pm_kd h = q) (kf : q a = c) (h32 : 32 ≤ c) (hw : 128 * c ∈ L) {v : Int32} : pw_F L h0 (pm_setI h a k v) := pw_sI F D kf (by rw [pw_cc h32]; exact hw) (fun z => by rw [z] at h32; exact absurd h32 (by decide))
theorem pw_aL (F : pw_F L h0 h) (D : pm_kd h = q) (kf : q a = c) (h32 : 32 ≤ c) (hw : 128 * c ∈ L) {v : Int64} : pw_F L h0 (pm_setL h a k v) := pw_sL F D kf (by rw [pw_cc h32]; exact hw) (fun z => by rw [z] at h32; exact absurd h32 (by decide))
theorem pw_aR (F : pw_F L h0 h) (D : pm_kd h = q) (kf : q a = c) (h32 : 32 ≤ c) (hw : 128 * c ∈ L) {v : Option Nat} (hK : 36 ≤ c := by decide) : pw_F L h0 (pm_setR h a k v) := pw_sR F D kf (by rw [pw_cc h32]; exact hw) (fun z => by rw [z] at h32; exact absurd h32 (by decide)) (fun z => by unfold pw_N at z; omega)
theorem pw_neA (F : pw_F L h0 h) (kf : pm_kd h a = c) (h32 : 32 ≤ c) (hw : 128 * c ∈ L) {x j : Nat} (q : ¬ (x < pm_sz h0 ∧ pw_c (pm_kd h0 x) j ∈ L)) (hx : x < pm_sz h0) : x ≠ a := by
  rintro rfl
  refine q ⟨hx, ?_⟩
  rw [← (F.2.1 x hx).1, kf, pw_cc h32]
  exact hw
theorem pw_cpI (F : pw_F L h0 h) (D : pm_kd h = q) (kf : q a = c) (h32 : 32 ≤ c) (hw : 128 * c ∈ L) {s p d n : Nat} : pw_F L h0 (pm_cpI h s p a d n) := pw_w F _ rfl rfl rfl (fun _ _ z hx => ⟨congrFun (pm_row_n _ _ (pw_neA F ((congrFun D _).trans kf) h32 hw z hx)) _, rfl, rfl⟩) (fun j => j) fun _ _ _ => rfl
theorem pw_cpL (F : pw_F L h0 h) (D : pm_kd h = q) (kf : q a = c) (h32 : 32 ≤ c) (hw : 128 * c ∈ L) {s p d n : Nat} : pw_F L h0 (pm_cpL h s p a d n) := pw_w F _ rfl rfl rfl (fun _ _ z hx => ⟨rfl, congrFun (pm_row_n _ _ (pw_neA F ((congrFun D _).trans kf) h32 hw z hx)) _, rfl⟩) (fun j => j) fun _ _ _ => rfl
/-- a new cell behind the last -/
theorem pw_nw (F : pw_F L h0 h) (h2 : pm_H) (hz : pm_sz h2 = pm_sz h + 1) (e : ∀ x, x ≠ pm_sz h → pm_kd h2 x = pm_kd h x ∧ pm_ln h2 x = pm_ln h x ∧ pm_I h2 x = pm_I h x ∧ pm_L h2 x = pm_L h x ∧ pm_R h2 x = pm_R h x) : pw_F L h0 h2 := by
  have hn : ∀ x, x < pm_sz h0 → x ≠ pm_sz h := fun x hx => Nat.ne_of_lt (Nat.lt_of_lt_of_le hx F.1)
  refine ⟨by rw [hz]; exact Nat.le_succ_of_le F.1, fun x hx => ?_, fun x j hx hw => ?_, fun j x hx => ?_, fun x k hx h1 => (congrFun (e x (hn x hx)).2.2.2.2 k).trans (F.2.2.2.2 x k hx h1)⟩
  · have g := e x (hn x hx)
    exact ⟨g.1.trans (F.2.1 x hx).1, g.2.1.trans (F.2.1 x hx).2⟩
  · have g := e x (hn x hx)
    have f := F.2.2.1 x j hx hw
    exact ⟨(congrFun g.2.2.1 j).trans f.1, (congrFun g.2.2.2.1 j).trans f.2.1, (congrFun g.2.2.2.2 j).trans f.2.2⟩
  · rw [hz] at hx
    have g := e x (by omega)
    have q := F.2.2.2.1 j x (by omega)
    exact ⟨g.1.trans q.1, fun i => (congrFun g.2.2.2.2 i).trans (q.2 i)⟩
theorem pw_new (F : pw_F L h0 h) {q n : Nat} : pw_F L h0 (pm_new h q n) := pw_nw F _ rfl fun _ hx => ⟨pm_u1_n _ _ hx, pm_u1_n _ _ hx, pm_row_n _ _ hx, pm_row_n _ _ hx, pm_row_n _ _ hx⟩
theorem pw_clo (F : pw_F L h0 h) {t : Nat} : pw_F L h0 (pm_cl h a t) := pw_nw F _ rfl fun _ hx => ⟨pm_u1_n _ _ hx, pm_u1_n _ _ hx, pm_row_n _ _ hx, pm_row_n _ _ hx, pm_row_n _ _ hx⟩
theorem pw_flt (F : pw_F L h0 h) : pw_F L h0 (pm_flt h) := pw_nw F _ rfl fun _ hx => ⟨pm_u1_n _ _ hx, pm_u1_n _ _ hx, (pm_u2_n _ _ hx).trans ((pm_u2_n _ _ hx).trans (pm_row_n _ _ hx)), pm_row_n _ _ hx, (pm_u2_n _ _ hx).trans (pm_row_n _ _ hx)⟩
theorem pw_ma0 (h : pm_H) (t u N : Nat) : ∀ i x, x < pm_sz h → pm_kd (pm_ma h t u N i) x = pm_kd h x ∧ pm_ln (pm_ma h t u N i) x = pm_ln h x ∧ pm_I (pm_ma h t u N i) x = pm_I h x ∧ pm_L (pm_ma h t u N i) x = pm_L h x ∧ pm_R (pm_ma h t u N i) x = pm_R h x := by
  intro i
  induction i with
  | zero => exact fun x hx => have hn := Nat.ne_of_lt hx; ⟨pm_u1_n _ _ hn, pm_u1_n _ _ hn, pm_row_n _ _ hn, pm_row_n _ _ hn, pm_row_n _ _ hn⟩
  | succ i ih =>
    intro x hx
    obtain ⟨i1, i2, i3, i4, i5⟩ := ih x hx
    have h1 : x ≠ pm_sz (pm_ma h t u N i) := by rw [(pm_ma_f h t u N i).1]; omega
    have h2 : x ≠ pm_sz h := Nat.ne_of_lt hx
    exact ⟨(pm_u1_n _ _ h1).trans i1, (pm_u1_n _ _ h1).trans i2, (pm_row_n _ _ h1).trans i3, (pm_row_n _ _ h1).trans i4, (pm_u2_n _ _ h2).trans ((pm_row_n _ _ h1).trans i5)⟩
theorem pw_maJ (h : pm_H) (t u N : Nat) (J : pw_J h) : ∀ i, pw_J (pm_ma h t u N i) := by
  intro i
  induction i with
  | zero =>
    intro x hx
    have hx : pm_sz h + 1 ≤ x := hx
    have hn : x ≠ pm_sz h := by omega
    exact ⟨(pm_u1_n _ _ hn).trans (J x (by omega)).1, fun k => (congrFun (show pm_R (pm_ma h t u N 0) x = pm_R h x from pm_row_n _ _ hn) k).trans ((J x (by omega)).2 k)⟩
  | succ i ih =>
    intro x hx
    rw [(pm_ma_f h t u N (i + 1)).1] at hx
    have sz := (pm_ma_f h t u N i).1
    have h1 : x ≠ pm_sz (pm_ma h t u N i) := by omega
    have h2 : x ≠ pm_sz h := by omega
    have q := ih x (by omega)
    exact ⟨(pm_u1_n _ _ h1).trans q.1, fun k => (congrFun (show pm_R (pm_ma h t u N (i + 1)) x = pm_R (pm_ma h t u N i) x from (pm_u2_n _ _ h2).trans (pm_row_n _ _ h1)) k).trans (q.2 k)⟩
theorem pw_ma (F : pw_F L h0 h) {t u N i : Nat} : pw_F L h0 (pm_ma h t u N i) := by
  have hlt : ∀ x, x < pm_sz h0 → x < pm_sz h := fun x hx => Nat.lt_of_lt_of_le hx F.1
  refine ⟨by rw [(pm_ma_f h t u N i).1]; have := F.1; omega, fun x hx => ?_, fun x j hx hw => ?_, fun j => pw_maJ h t u N (F.2.2.2.1 j) i, fun x k hx h1 => (congrFun (pw_ma0 h t u N i x (hlt x hx)).2.2.2.2 k).trans (F.2.2.2.2 x k hx h1)⟩
  · have g := pw_ma0 h t u N i x (hlt x hx)
    exact ⟨g.1.trans (F.2.1 x hx).1, g.2.1.trans (F.2.1 x hx).2⟩
  · have g := pw_ma0 h t u N i x (hlt x hx)
    have f := F.2.2.1 x j hx hw
    exact ⟨(congrFun g.2.2.1 j).trans f.1, (congrFun g.2.2.2.1 j).trans f.2.1, (congrFun g.2.2.2.2 j).trans f.2.2⟩
end PWF
