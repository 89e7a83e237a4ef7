/-! PART II: THE CLASS CHECKS: what it needs, what it writes, what it tells -/
def xAI (bo co x y : Nat) : Prop := (x = 24 ∧ y = 1) ∨ (x = 22 ∧ (y = 0 ∨ y = 1 ∨ y = 6 ∨ y = 10)) ∨ x = 24 ∨ x = 25 ∨ x = 28 ∨ (x = bo ∧ y = 2) ∨ x = co
abbrev xAL (_ _ : Nat) : Prop := False
abbrev xFr (bo co : Nat) : pm_H → pm_H → Prop := gF (xAI bo co) xAL
/-- the Checker's own cells; dd what is declared, bo the body, co its code, with room for cap rows -/
def xQ (h : pm_H) (mm bo co dd cap nf : Nat) : Prop :=
  (pm_kd h 22 = 1 ∧ pm_R h 22 2 = some mm ∧ pm_R h 22 3 = some 19) ∧
  (pm_R h 22 4 = some dd ∧ pm_kd h dd = 32 ∧ pm_ln h dd = nf) ∧
  (pm_R h 22 5 = some 24 ∧ pm_kd h 24 = 34 ∧ pm_ln h 24 = 1000) ∧
  (pm_R h 22 9 = some 25 ∧ pm_kd h 25 = 34 ∧ pm_ln h 25 = 1400) ∧
  (pm_R h 22 11 = some 26 ∧ pm_kd h 26 = 34 ∧ pm_ln h 26 = 1016) ∧
  (pm_R h 22 13 = some 27 ∧ pm_kd h 27 = 34 ∧ pm_ln h 27 = 2000) ∧
  (pm_R h 22 15 = some 28 ∧ pm_kd h 28 = 34 ∧ pm_ln h 28 = 16) ∧
  (pm_R h 22 16 = some 29 ∧ pm_kd h 29 = 36 ∧ pm_ln h 29 = 128 ∧ pm_R h 29 64 = some 164 ∧ ∀ j, j < 17 → pm_R h 29 (111 + j) = some (165 + j)) ∧
  (pm_kd h 164 = 34 ∧ pm_ln h 164 = 2 ∧ pm_I h 164 0 = 0 ∧ pm_I h 164 1 = 0 ∧ ∀ j, j < 17 → pm_kd h (165 + j) = 34 ∧ pm_ln h (165 + j) = 3 ∧ pm_I h (165 + j) 0 = 0 ∧ pm_I h (165 + j) 1 = 1 ∧ pm_I h (165 + j) 2 = Int32.ofNat (111 + j)) ∧
  (pm_R h 22 17 = some bo ∧ pm_kd h bo = 0 ∧ pm_R h bo 1 = some co ∧ pm_kd h co = 34 ∧ pm_ln h co = 5 * cap ∧ cap ≤ 40960)
def xC (h : pm_H) (n b mm lo hi bo co dd cap : Nat) (B : Nat → Nat) (M : tMd) : Prop := cS h n b mm B ∧ cMx h mm lo hi 0 M ∧ xQ h mm bo co dd cap (spF M).length ∧ (648 < mm ∧ mm < b ∧ b < lo ∧ lo < hi ∧ hi ≤ bo ∧ hi ≤ co ∧ hi ≤ dd) ∧ pm_I h 19 2 = Int32.ofNat n
/-- the instruction that was read, the operands that there were -/
def xI (h : pm_H) (p : Nat) (v : sp_I) (hb : Int32) : Prop := pm_I h 19 6 = Int32.ofNat v.1 ∧ pm_I h 19 7 = Int32.ofNat p ∧ pm_L h 19 8 = v.2.1 ∧ pm_L h 19 9 = v.2.2.1 ∧ pm_I h 22 7 = hb
def oRw (h : pm_H) : List Nat → Prop
  | [] => True
  | t :: s => pm_I h 24 s.length = Int32.ofNat t ∧ oRw h s
def oL (h : pm_H) : List tLb → Prop
  | [] => True
  | l :: ls => (pm_I h 25 (7 * ls.length) = Int32.ofNat l.1 ∧ pm_I h 25 (7 * ls.length + 1) = l.2.1.toInt32 ∧ pm_I h 25 (7 * ls.length + 2) = Int32.ofNat l.2.2.1 ∧ pm_I h 25 (7 * ls.length + 3) = iN l.2.2.2.1 ∧ pm_I h 25 (7 * ls.length + 4) = iN l.2.2.2.2.1 ∧ pm_I h 25 (7 * ls.length + 5) = kPtr l.2.2.2.2.2.1 ∧ pm_I h 25 (7 * ls.length + 6) = l.2.2.2.2.2.2) ∧ oL h ls
def oW (h : pm_H) (co : Nat) (rs : List tRw) : Prop := ∀ i r, rs[i]? = some r → pm_I h co (5 * i) = r.1 ∧ pm_I h co (5 * i + 1) = r.2.1 ∧ pm_I h co (5 * i + 2) = r.2.2.1 ∧ pm_I h co (5 * i + 3) = r.2.2.2.1 ∧ pm_I h co (5 * i + 4) = r.2.2.2.2
def xK (h : pm_H) (bo co : Nat) (K : tK) : Prop := pm_I h 22 0 = 0 ∧ pm_I h 22 6 = Int32.ofNat K.1.length ∧ pm_I h 22 10 = Int32.ofNat K.2.1.length ∧ pm_I h bo 2 = Int32.ofNat K.2.2.length ∧ oRw h K.1 ∧ oL h K.2.1 ∧ oW h co K.2.2
/-- the labels' types stand there, also behind a fault -/
def xT (h : pm_H) (Ts : List Int64) : Prop := pm_I h 22 10 = Int32.ofNat Ts.length ∧ ∀ i t, Ts[i]? = some t → pm_I h 25 (7 * (Ts.length - 1 - i) + 1) = t.toInt32
def tyL (K : tK) : List Int64 := K.2.1.map fun l => l.2.1
/-- a heap on the way: dead, or alive with a state -/
def xS (h0 : pm_H) (M : tMd) (bo co : Nat) (Ts : List Int64) (o : sp_O tK) (r : pm_H) : Prop := xFr bo co h0 r ∧ match o with
  | .inl w => (0 < w.1 ∧ w.1 < 100) ∧ pm_I r 22 0 = Int32.ofNat w.1 ∧ pm_I r 22 1 = Int32.ofNat w.2 ∧ xT r Ts
  | .inr v => xK r bo co v.1 ∧ wfK M v.1 ∧ tyL v.1 = Ts
theorem iN_0 (g : Bool) : (iN g = 0) = (g = false) := by cases g <;> exact propext ⟨fun _ => by first | rfl | (exact absurd ‹_› (by decide)), fun _ => by first | rfl | (exact absurd ‹_› (by decide))⟩
section XCTX
variable {h h' : pm_H} {n b mm lo hi bo co dd cap : Nat} {B : Nat → Nat} {M : tMd} {Ts : List Int64} {o : sp_O tK} {p : Nat} {v : sp_I} {hb : Int32}
theorem xFr_k (C : xC h n b mm lo hi bo co dd cap B M) (F : xFr bo co h h') : kC lo hi h h' := fun x h1 h2 => by
  obtain ⟨-, -, -, ⟨a1, a2, a3, a4, a5, a6, a7⟩, -⟩ := C
  exact ⟨by rw [F.2.1], by rw [F.2.2.1], funext fun y => F.2.2.2.2.1 x y (by unfold xAI; omega), funext fun y => F.2.2.2.2.2 x y (fun z => z), by rw [F.2.2.2.1]⟩
theorem xC_F (C : xC h n b mm lo hi bo co dd cap B M) (F : xFr bo co h h') : xC h' n b mm lo hi bo co dd cap B M := by
  have K := xFr_k C F
  obtain ⟨S, X, Q, ⟨a1, a2, a3, a4, a5, a6, a7⟩, e⟩ := C
  have kd := F.2.1
  have ln := F.2.2.1
  have rr := F.2.2.2.1
  have kI : ∀ x y, ¬ xAI bo co x y → pm_I h' x y = pm_I h x y := F.2.2.2.2.1
  refine ⟨?_, cMx_k K (Nat.le_refl _) (.inl rfl) (fun j s _ _ _ => by rw [rr]) (by decide) (F.2.2.2.2.2 mm 13 (fun z => z)) (F.2.2.2.2.2 mm 14 (fun z => z)) X, ?_, ⟨a1, a2, a3, a4, a5, a6, a7⟩, (kI 19 2 (by unfold xAI; omega)).trans e⟩
  · obtain ⟨s1, s2, s3, s4, s5, s6, s7, s8, s9, s10⟩ := S
    unfold cS
    rw [kd, ln, rr]
    exact ⟨s1, s2, s3, s4, s5, s6, s7, s8, fun i hi => by rw [kI b i (by unfold xAI; omega)]; exact s9 i hi, s10⟩
  · unfold xQ at Q ⊢
    rw [kd, ln, rr]
    obtain ⟨q1, q2, q3, q4, q5, q6, q7, q8, ⟨w1, w2, w3, w4, w5⟩, q10⟩ := Q
    exact ⟨q1, q2, q3, q4, q5, q6, q7, q8, ⟨w1, w2, (kI 164 0 (by unfold xAI; omega)).trans w3, (kI 164 1 (by unfold xAI; omega)).trans w4, fun j hj => by
      obtain ⟨z1, z2, z3, z4, z5⟩ := w5 j hj
      exact ⟨z1, z2, (kI _ 0 (by unfold xAI; omega)).trans z3, (kI _ 1 (by unfold xAI; omega)).trans z4, (kI _ 2 (by unfold xAI; omega)).trans z5⟩⟩, q10⟩
theorem xI_F (C : xC h n b mm lo hi bo co dd cap B M) (I : xI h p v hb) (F : xFr bo co h h') : xI h' p v hb := by
  obtain ⟨i1, i2, i3, i4, i5⟩ := I
  obtain ⟨-, -, -, ⟨a1, a2, a3, a4, a5, a6, a7⟩, -⟩ := C
  have kI : ∀ x y, ¬ xAI bo co x y → pm_I h' x y = pm_I h x y := F.2.2.2.2.1
  have kL : ∀ x y, pm_L h' x y = pm_L h x y := fun x y => F.2.2.2.2.2 x y (fun z => z)
  exact ⟨(kI 19 6 (by unfold xAI; omega)).trans i1, (kI 19 7 (by unfold xAI; omega)).trans i2, (kL 19 8).trans i3, (kL 19 9).trans i4, (kI 22 7 (by unfold xAI; omega)).trans i5⟩
theorem oRw_k : ∀ {s : List Nat}, (∀ y, y < s.length → pm_I h' 24 y = pm_I h 24 y) → oRw h s → oRw h' s
  | [], _, _ => trivial
  | _ :: s, k, q => ⟨(k s.length (Nat.lt_succ_self _)).trans q.1, oRw_k (fun y hy => k y (Nat.lt_succ_of_lt hy)) q.2⟩
theorem oL_k : ∀ {s : List tLb}, (∀ y, y < 7 * s.length → pm_I h' 25 y = pm_I h 25 y) → oL h s → oL h' s
  | [], _, _ => trivial
  | _ :: s, k, q => by
    obtain ⟨⟨q1, q2, q3, q4, q5, q6, q7⟩, q8⟩ := q
    have k' : ∀ j, j < 7 → pm_I h' 25 (7 * s.length + j) = pm_I h 25 (7 * s.length + j) := fun j hj => k _ (by rw [List.length_cons]; omega)
    exact ⟨⟨(k' 0 (by decide)).trans q1, (k' 1 (by decide)).trans q2, (k' 2 (by decide)).trans q3, (k' 3 (by decide)).trans q4, (k' 4 (by decide)).trans q5, (k' 5 (by decide)).trans q6, (k' 6 (by decide)).trans q7⟩, oL_k (fun y hy => k y (by rw [List.length_cons]; omega)) q8⟩
theorem oL_x : ∀ {ls : List tLb} {x : Nat}, oL h ls → x < ls.length → pm_I h 25 (7 * (ls.length - 1 - x)) = Int32.ofNat (ls.getD x lb0).1 ∧ pm_I h 25 (7 * (ls.length - 1 - x) + 1) = (ls.getD x lb0).2.1.toInt32 ∧ pm_I h 25 (7 * (ls.length - 1 - x) + 2) = Int32.ofNat (ls.getD x lb0).2.2.1 ∧ pm_I h 25 (7 * (ls.length - 1 - x) + 3) = iN (ls.getD x lb0).2.2.2.1 ∧ pm_I h 25 (7 * (ls.length - 1 - x) + 4) = iN (ls.getD x lb0).2.2.2.2.1 ∧ pm_I h 25 (7 * (ls.length - 1 - x) + 5) = kPtr (ls.getD x lb0).2.2.2.2.2.1 ∧ pm_I h 25 (7 * (ls.length - 1 - x) + 6) = (ls.getD x lb0).2.2.2.2.2.2
  | [], x, _, hx => absurd hx (Nat.not_lt_zero _)
  | l :: ls, 0, q, _ => by
    rw [show (l :: ls).length - 1 - 0 = ls.length from rfl]
    exact q.1
  | l :: ls, x + 1, q, hx => by
    have := oL_x (x := x) q.2 (Nat.lt_of_succ_lt_succ hx)
    rw [show (l :: ls).length - 1 - (x + 1) = ls.length - 1 - x by rw [List.length_cons]; omega]
    exact this
theorem tyL_l (K : tK) : (tyL K).length = K.2.1.length := List.length_map _
theorem tyL_g {K : tK} {x : Nat} (hx : x < K.2.1.length) : (tyL K)[x]? = some (K.2.1.getD x lb0).2.1 := by
  unfold tyL
  rw [List.getElem?_map, List.getElem?_eq_getElem hx, List.getD_eq_getElem?_getD, List.getElem?_eq_getElem hx]
  rfl
theorem xK_T {r : pm_H} {K : tK} (V : xK r bo co K) : xT r (tyL K) := by
  obtain ⟨v1, v2, v3, v4, v5, v6, v7⟩ := V
  refine ⟨by rw [tyL_l]; exact v3, fun i t hi => ?_⟩
  have il : i < K.2.1.length := by have := some_lt hi; rwa [tyL_l] at this
  rw [tyL_g il] at hi
  cases hi
  rw [tyL_l]
  exact (oL_x v6 il).2.1
theorem xS_T {r : pm_H} {h0 : pm_H} (S : xS h0 M bo co Ts o r) : xT r Ts := by
  obtain ⟨-, S⟩ := S
  cases o with
  | inl w => exact S.2.2.2
  | inr v => rw [← S.2.2]; exact xK_T S.1
theorem xS_C {r h0 : pm_H} (C : xC h0 n b mm lo hi bo co dd cap B M) (S : xS h0 M bo co Ts o r) : xC r n b mm lo hi bo co dd cap B M := xC_F C S.1
theorem xS_I {r h0 : pm_H} (C : xC h0 n b mm lo hi bo co dd cap B M) (I : xI h0 p v hb) (S : xS h0 M bo co Ts o r) : xI r p v hb := xI_F C I S.1
end XCTX
