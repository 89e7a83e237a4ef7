/-! THE REFERENCE CHECKS: what it needs, what it writes -/
def vX (h : pm_H) : Prop := (pm_R h 592 20 = some 598 ∧ pm_kd h 598 = 32 ∧ pm_ln h 598 = 128) ∧ (pm_R h 592 22 = some 599 ∧ pm_kd h 599 = 34 ∧ pm_ln h 599 = 1001) ∧ (pm_R h 592 25 = some 600 ∧ pm_kd h 600 = 34 ∧ pm_ln h 600 = 200) ∧ (pm_R h 592 26 = some 601 ∧ pm_kd h 601 = 35 ∧ pm_ln h 601 = 200) ∧ (pm_R h 592 27 = some 602 ∧ pm_kd h 602 = 34 ∧ pm_ln h 602 = 200) ∧ (pm_R h 592 28 = some 603 ∧ pm_kd h 603 = 32 ∧ pm_ln h 603 = 200) ∧ (pm_R h 592 32 = some 604 ∧ pm_kd h 604 = 34 ∧ pm_ln h 604 = 16)
def vAI (m x y : Nat) : Prop := (x = 592 ∧ (y = 19 ∨ y = 23 ∨ y = 24 ∨ y = 29 ∨ y = 30 ∨ y = 31 ∨ y = 21)) ∨ (598 ≤ x ∧ x ≤ 604) ∨ x = m + 39
def vAL (x _ : Nat) : Prop := x = 601
abbrev vF (m : Nat) : pm_H → pm_H → Prop := gF (vAI m) vAL
def vC (h : pm_H) (n b m eo el : Nat) (B : Nat → Nat) (M : tMd) : Prop := mS h n b m 595 B ∧ mP h m ∧ mD m n eo el h M n ∧ vX h ∧ 648 < m ∧ m + 39 < b ∧ m + 39 < eo ∧ m + 39 < el
/-- a plan says what it said -/
theorem mD_k {m n eo el p : Nat} {h h' : pm_H} {M : tMd} (kI : ∀ x y, (m ≤ x ∧ x ≤ m + 38) ∨ x = eo ∨ x = el → pm_I h' x y = pm_I h x y) (kL : ∀ x y, m ≤ x ∧ x ≤ m + 38 → pm_L h' x y = pm_L h x y) (D : mD m n eo el h M p) : mD m n eo el h' M p := by
  obtain ⟨d1, d2, d3, d4, d5, d6, d7, d8, d9, d10, d11, d12, d13, d14, d15, d16, d17⟩ := D
  have iI : ∀ {a c : Nat}, m ≤ a → c ≤ m + 38 → ∀ x y, a ≤ x → x ≤ c → pm_I h' x y = pm_I h x y := fun h1 h2 x y h3 h4 => kI x y (by omega)
  have iL : ∀ {a c : Nat}, m ≤ a → c ≤ m + 38 → ∀ x y, a ≤ x → x ≤ c → pm_L h' x y = pm_L h x y := fun h1 h2 x y h3 h4 => kL x y (by omega)
  have m0 : ∀ y, pm_I h' m y = pm_I h m y := fun y => kI m y (by omega)
  have l0 : ∀ y, pm_L h' m y = pm_L h m y := fun y => kL m y (by omega)
  exact ⟨dTy_k (iI (by omega) (by omega)) (m0 4) d1, dImp_k (iI (by omega) (by omega)) (iL (by omega) (by omega)) (m0 8) d2, dFn_k (iL (by omega) (by omega)) (m0 15) (l0 14) d3, dTb_k (iI (by omega) (by omega)) (iL (by omega) (by omega)) (m0 17) d4, dMm_k (iL (by omega) (by omega)) (m0 21) d5, dGl_k (iI (by omega) (by omega)) (m0 24) d6, dXp_k (iI (by omega) (by omega)) (iL (by omega) (by omega)) (m0 28) d7, dEl_k (iI (by omega) (by omega)) (iL (by omega) (by omega)) (m0 34) d8, dDa_k (iI (by omega) (by omega)) (iL (by omega) (by omega)) (m0 44) (l0 43) d9, dBo_k (iI (by omega) (by omega)) (iL (by omega) (by omega)) (l0 50) (fun y _ => kI eo y (.inr (.inl rfl))) (fun y _ => kI el y (.inr (.inr rfl))) (Nat.le_refl p) d10, (l0 33).trans d11, (l0 42).trans d12, fun i hi => (kI (m + 1) i (by omega)).trans (d13 i hi), (m0 3).trans d14, ⟨fun a ha => by
    obtain ⟨c, c1, c2⟩ := d15.1 a ha
    exact ⟨c, c1, (kI el a (.inr (.inr rfl))).trans c2⟩, fun y h1 h2 => (kI el y (.inr (.inr rfl))).trans (d15.2 y h1 h2)⟩, d16, d17⟩
section VCTX
variable {h h' : pm_H} {n b m eo el : Nat} {B : Nat → Nat} {M : tMd}
theorem vX_F (X : vX h) (F : vF m h h') : vX h' := by
  unfold vX at X ⊢
  rw [F.2.1, F.2.2.1, F.2.2.2.1]
  exact X
theorem vC_F (C : vC h n b m eo el B M) (F : vF m h h') : vC h' n b m eo el B M := by
  obtain ⟨S, P, D, X, h1, h2, h3, h4⟩ := C
  have nI : ∀ x y, 648 < x → x ≠ m + 39 → pm_I h' x y = pm_I h x y := fun x y hx hn => F.2.2.2.2.1 x y (by unfold vAI; omega)
  have nL : ∀ x y, 648 < x → pm_L h' x y = pm_L h x y := fun x y hx => F.2.2.2.2.2 x y (by unfold vAL; omega)
  refine ⟨?_, ?_, mD_k (fun x y hx => nI x y (by omega) (by omega)) (fun x y hx => nL x y (by omega)) D, vX_F X F, h1, h2, h3, h4⟩
  · obtain ⟨k, rr, km, rb, kb, lb, n4, rs, hB, hb⟩ := S
    unfold mS
    rw [F.2.1, F.2.2.1, F.2.2.2.1]
    exact ⟨k, rr, km, rb, kb, lb, n4, rs, fun i hi => by rw [nI b i (by omega) (by omega)]; exact hB i hi, hb⟩
  · unfold mP at P ⊢
    rw [F.2.1, F.2.2.1, F.2.2.2.1]
    exact P
theorem vF_lk (h : pm_H) (v : Int32) : vF m h (pm_setI h 592 19 v) := gF_I h v (.inl ⟨rfl, by omega⟩)
theorem v_stops (C : mS h n b m 595 B) (f pl : Int32) : fX16_stops h 592 f pl = some (.inl (595, rm h (pm_I h 592 11) f pl)) := by
  have e := ms_stops C (pm_I h 592 11) (pm_I h 592 7) (pm_I h 592 8) f pl
  rwa [rm_eta] at e
theorem v_stop {α γ : Type} {F : pm_H → Prop} {R : α → Nat → γ → Prop} {k : pm_H → Option ((Nat × pm_H) ⊕ γ)} {f pl : Nat} (C : mS h n b m 595 B) (hF : F h) {v w : Int32} (hv : v = Int32.ofNat f) (hw : w = Int32.ofNat pl) : ms_Q F R ((fX16_stops h 592 v w).bind fun z => pt_k z k) (.inl (f, pl)) := by
  rw [v_stops C, hv, hw]
  exact ⟨h, _, hF, rfl⟩
end VCTX
/-- a type as the reference keeps it -/
def rT (t : Nat) : Int32 := if t = 0 then -1 else Int32.ofNat t
def onR (h : pm_H) : List Nat → Prop
  | [] => True
  | t :: s => pm_I h 599 s.length = rT t ∧ onR h s
def onL (h : pm_H) : List tLb → Prop
  | [] => True
  | l :: ls => (pm_I h 600 ls.length = Int32.ofNat l.1 ∧ pm_L h 601 ls.length = mbt l.2.1 ∧ pm_I h 602 ls.length = Int32.ofNat l.2.2.1 ∧ pm_I h 603 ls.length = if l.2.2.2.1 = true then 1 else 0) ∧ onL h ls
def wfL : List tLb → Nat → Prop
  | [], _ => True
  | l :: ls, s => l.2.2.1 ≤ s ∧ wfL ls l.2.2.1
/-- a label's type -/
def wfT (M : tMd) (t : Int64) : Prop := (0 ≤ t ∧ t.toNatClampNeg < M.1.length) ∨ ∃ c : Nat, (c = 64 ∨ isT c) ∧ t = Int64.ofInt ((c : Int) - 128)
def wfK (M : tMd) (K : tK) : Prop := wfL K.2.1 K.1.length ∧ (∀ l, l ∈ K.2.1 → wfT M l.2.1 ∧ l.1 ≤ 5) ∧ (∀ t, t ∈ K.1 → t = 0 ∨ isT t) ∧ K.1.length ≤ 1000 ∧ K.2.1.length ≤ 200
def vK (h : pm_H) (p : Nat) (K : tK) : Prop := pm_I h 592 23 = Int32.ofNat K.1.length ∧ pm_I h 592 24 = Int32.ofNat K.2.1.length ∧ pm_I h 592 31 = Int32.ofNat p ∧ onR h K.1 ∧ onL h K.2.1
theorem onR_k {h h' : pm_H} : ∀ {s : List Nat}, (∀ y, y < s.length → pm_I h' 599 y = pm_I h 599 y) → onR h s → onR h' s
  | [], _, _ => trivial
  | _ :: s, k, q => ⟨(k s.length (Nat.lt_succ_self _)).trans q.1, onR_k (fun y hy => k y (Nat.lt_succ_of_lt hy)) q.2⟩
theorem onL_k {h h' : pm_H} : ∀ {s : List tLb}, (∀ y, y < s.length → pm_I h' 600 y = pm_I h 600 y ∧ pm_L h' 601 y = pm_L h 601 y ∧ pm_I h' 602 y = pm_I h 602 y ∧ pm_I h' 603 y = pm_I h 603 y) → onL h s → onL h' s
  | [], _, _ => trivial
  | _ :: s, k, q => by
    have z := k s.length (Nat.lt_succ_self _)
    exact ⟨⟨z.1.trans q.1.1, z.2.1.trans q.1.2.1, z.2.2.1.trans q.1.2.2.1, z.2.2.2.trans q.1.2.2.2⟩, onL_k (fun y hy => k y (Nat.lt_succ_of_lt hy)) q.2⟩
theorem rT_eq {t w : Nat} (ht : t = 0 ∨ isT t) (hw : w = 0 ∨ isT w) : (w = 0 ∨ t = 0 ∨ t = w) ↔ (Int32.ofNat w = 0 ∨ rT t = -1 ∨ rT t = Int32.ofNat w) := by
  have hlt : ∀ {t : Nat}, t = 0 ∨ isT t → t < 128 := fun {t} z => by
    rcases z with z | z
    · omega
    · have z : sp_isT t = true := z
      unfold sp_isT sp_isR at z
      simp only [Bool.or_eq_true, Bool.and_eq_true, beq_iff_eq, decide_eq_true_eq] at z
      omega
  have h1 := hlt ht
  have h2 := hlt hw
  have A : (Int32.ofNat w = 0) = (w = 0) := nn_eq (by omega) (by decide)
  have N : ∀ x : Nat, x < 128 → ¬ Int32.ofNat x = -1 := fun x hx => (by decide : ∀ x : Fin 128, ¬ Int32.ofNat x.val = -1) ⟨x, hx⟩
  rw [A]
  unfold rT
  by_cases c : t = 0
  · rw [if_pos c]
    exact ⟨fun _ => .inr (.inl rfl), fun _ => .inr (.inl c)⟩
  · rw [if_neg c, nn_eq (by omega) (by omega)]
    constructor
    · rintro (z | z | z)
      · exact .inl z
      · exact absurd z c
      · exact .inr (.inr z)
    · rintro (z | z | z)
      · exact .inl z
      · exact absurd z (N t h1)
      · exact .inr (.inr z)
