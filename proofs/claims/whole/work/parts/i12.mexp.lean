/-! THE REFERENCE READS: expressions -/
/-- the rows that reading an expression writes: nests (596, 597), ends eo and elses el of the plan m; sc its sections -/
def mX (h : pm_H) (n m eo el sc : Nat) : Prop := pm_R h 592 14 = some 596 ∧ pm_kd h 596 = 34 ∧ pm_ln h 596 = 40962 ∧ pm_R h 592 15 = some 597 ∧ pm_kd h 597 = 34 ∧ pm_ln h 597 = 40962 ∧ pm_R h m 56 = some eo ∧ pm_kd h eo = 34 ∧ pm_ln h eo = n ∧ pm_R h m 57 = some el ∧ pm_kd h el = 34 ∧ pm_ln h el = n ∧ pm_R h m 2 = some sc ∧ pm_kd h sc = 34 ∧ pm_ln h sc = 13 ∧ 648 < eo ∧ 648 < el ∧ 648 < m ∧ 648 < sc ∧ eo ≠ el ∧ sc ≠ eo ∧ sc ≠ el
/-- the nests stand at places of the bytes, and so do the elses -/
def mJ (h : pm_H) (n el k : Nat) : Prop := (∀ i, 1 ≤ i → i < k → ∃ a, a < n ∧ pm_I h 597 i = Int32.ofNat a) ∧ ∀ a, a < n → ∃ c, c < n ∧ pm_I h el a = Int32.ofNat c
/-- since h nothing else was written -/
def xF (m eo el : Nat) (h h' : pm_H) : Prop := pm_sz h' = pm_sz h ∧ pm_kd h' = pm_kd h ∧ pm_ln h' = pm_ln h ∧ pm_R h' = pm_R h ∧ pm_L h' = pm_L h ∧ ∀ x y, x ≠ 596 → x ≠ 597 → x ≠ eo → x ≠ el → (x = m → y ≠ 3) → pm_I h' x y = pm_I h x y
theorem xF_r (m eo el : Nat) (h : pm_H) : xF m eo el h h := ⟨rfl, rfl, rfl, rfl, rfl, fun _ _ _ _ _ _ _ => rfl⟩
theorem xF_t {m eo el : Nat} {h1 h2 h3 : pm_H} (p : xF m eo el h1 h2) (q : xF m eo el h2 h3) : xF m eo el h1 h3 := ⟨q.1.trans p.1, q.2.1.trans p.2.1, q.2.2.1.trans p.2.2.1, q.2.2.2.1.trans p.2.2.2.1, q.2.2.2.2.1.trans p.2.2.2.2.1, fun x y a b c d e => (q.2.2.2.2.2 x y a b c d e).trans (p.2.2.2.2.2 x y a b c d e)⟩
theorem xF_I {m eo el : Nat} (h : pm_H) {a k : Nat} {v : Int32} (ha : a = 596 ∨ a = 597 ∨ a = eo ∨ a = el ∨ (a = m ∧ k = 3)) : xF m eo el h (pm_setI h a k v) := by
  refine ⟨rfl, rfl, rfl, rfl, rfl, fun x y h1 h2 h3 h4 h5 => ?_⟩
  rw [ev_II]
  by_cases z : x = a
  · rw [if_pos z, if_neg (by omega)]
  · rw [if_neg z]
def xpop (h : pm_H) (eo el k p : Nat) : pm_H := if pm_I h el (pm_I h 597 k).toNatClampNeg ≤ 0 then pm_setI h eo (pm_I h 597 k).toNatClampNeg (Int32.ofNat p) else pm_setI (pm_setI h eo (pm_I h 597 k).toNatClampNeg (Int32.ofNat p)) eo (pm_I h el (pm_I h 597 k).toNatClampNeg).toNatClampNeg (Int32.ofNat p)
/-- an expression, with what it writes: k nests stand open -/
def sp_xh (B : Nat → Nat) (e : Nat) (d ob : Bool) (m eo el : Nat) : Nat → Nat → pm_H → Nat → sp_O pm_H
  | 0, _, _, _ => .inl (0, 0)
  | N + 1, k, h, p => if p < e then (if B p = 11 then (if k = 1 then .inr (h, p + 1) else sp_xh B e d ob m eo el N (k - 1) (xpop h eo el (k - 1) p) (p + 1))
    else if 2 ≤ B p ∧ B p ≤ 4 then sp_b (sp_blk B e (p + 1)) fun _ p2 => sp_xh B e d ob m eo el N (k + 1) (pm_setI (pm_setI h 596 k (Int32.ofNat (B p))) 597 k (Int32.ofNat p)) p2
    else if B p = 5 then (if pm_I h 596 (k - 1) = 4 then sp_xh B e d ob m eo el N k (pm_setI (pm_setI h 596 (k - 1) 5) el (pm_I h 597 (k - 1)).toNatClampNeg (Int32.ofNat p)) (p + 1) else .inl (10, p))
    else sp_b (sp_ops B e d (B p) p (p + 1)) fun v p2 => sp_xh B e d ob m eo el N k (xcb h m ob v.2.2.2) p2) else .inl (1, e)
theorem nn_p1 {k : Nat} (hk : 1 ≤ k) : Int32.ofNat k + (-1) = Int32.ofNat (k - 1) := by
  have e : Int32.ofNat k = Int32.ofNat (k - 1) + Int32.ofNat 1 := by rw [nn_ad]; congr 1; omega
  rw [e, Int32.add_assoc]
  exact Int32.add_zero _
section MEXP
variable {n b m s e eo el sc : Nat} {B : Nat → Nat} {d : Bool}
theorem mX_b {h : pm_H} (C : mS h n b m s B) (X : mX h n m eo el sc) : b ≠ 596 ∧ b ≠ 597 ∧ b ≠ eo ∧ b ≠ el ∧ b ≠ sc := by
  have kb := C.2.2.2.2.1
  obtain ⟨x1, x2, x3, x4, x5, x6, x7, x8, x9, x10, x11, x12, x13, x14, x15, x16⟩ := X
  refine ⟨fun z => ?_, fun z => ?_, fun z => ?_, fun z => ?_, fun z => ?_⟩
  · rw [z, x2] at kb; exact absurd kb (by decide)
  · rw [z, x5] at kb; exact absurd kb (by decide)
  · rw [z, x8] at kb; exact absurd kb (by decide)
  · rw [z, x11] at kb; exact absurd kb (by decide)
  · rw [z, x14] at kb; exact absurd kb (by decide)
theorem xcb_F (h : pm_H) (ob x : Bool) : xF m eo el h (xcb h m ob x) := by
  unfold xcb
  cases x with
  | false => exact xF_r m eo el h
  | true =>
    cases ob with
    | false => exact xF_r m eo el h
    | true =>
      show xF m eo el h (xc h m)
      unfold xc
      split
      · exact xF_r m eo el h
      · exact xF_I h (by omega)
theorem xc_F (h : pm_H) : xF m eo el h (xc h m) := xcb_F h true true
/-- all that is kept by such writes -/
theorem xF_mS {h h' : pm_H} {s : Nat} (C : mS h n b m s B) (X : mX h n m eo el sc) (F : xF m eo el h h') : mS h' n b m s B ∧ mX h' n m eo el sc ∧ (∀ y, pm_I h' 592 y = pm_I h 592 y) ∧ ∀ y, pm_I h' sc y = pm_I h sc y := by
  have nb := mX_b C X
  have nm := mS_nm C
  have n5 := mS_nb C
  obtain ⟨x1, x2, x3, x4, x5, x6, x7, x8, x9, x10, x11, x12, x13, x14, x15, x16, x17, x18, x19, x20, x21, x22⟩ := X
  obtain ⟨k, rr, km, rb, kb, lb, n4, rs, hB, hb⟩ := C
  obtain ⟨f1, f2, f3, f4, f5, f6⟩ := F
  have ms2 : sc ≠ m := fun z => by rw [z, km] at x14; exact absurd x14 (by decide)
  refine ⟨⟨?_, ?_, ?_, ?_, ?_, ?_, n4, ?_, fun i hi => ?_, hb⟩, ⟨?_, ?_, ?_, ?_, ?_, ?_, ?_, ?_, ?_, ?_, ?_, ?_, ?_, ?_, ?_, x16, x17, x18, x19, x20, x21, x22⟩, fun y => ?_, fun y => ?_⟩
  all_goals first
    | (rw [f2]; assumption)
    | (rw [f3]; assumption)
    | (rw [f4]; assumption)
    | (rw [f6 b i nb.1 nb.2.1 nb.2.2.1 nb.2.2.2.1 (fun z => absurd z.symm nm)]; exact hB i hi)
    | exact f6 592 y (by decide) (by decide) (by omega) (by omega) (fun z => absurd z (by omega))
    | exact f6 sc y (by omega) (by omega) (by omega) (by omega) (fun z => absurd z ms2)
end MEXP
