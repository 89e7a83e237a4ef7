/-! WHAT A METHOD THAT MAKES NOTHING KEEPS: number, kinds and lengths of the cells -/
def pm_S3 (a b : pm_H) : Prop := pm_sz a = pm_sz b ∧ pm_kd a = pm_kd b ∧ pm_ln a = pm_ln b
theorem pm_S3.rf (h : pm_H) : pm_S3 h h := ⟨rfl, rfl, rfl⟩
theorem pm_S3.trans {a b c : pm_H} (x : pm_S3 a b) (y : pm_S3 b c) : pm_S3 a c := ⟨x.1.trans y.1, x.2.1.trans y.2.1, x.2.2.trans y.2.2⟩
def pt_SI (r : (Nat × pm_H) ⊕ (Int32 × pm_H)) (h : pm_H) : Prop := match r with
  | .inl z => pm_S3 z.2 h
  | .inr v => pm_S3 v.2 h
def pt_SJ (r : (Nat × pm_H) ⊕ (Int64 × pm_H)) (h : pm_H) : Prop := match r with
  | .inl z => pm_S3 z.2 h
  | .inr v => pm_S3 v.2 h
def pt_SV (r : (Nat × pm_H) ⊕ pm_H) (h : pm_H) : Prop := match r with
  | .inl z => pm_S3 z.2 h
  | .inr v => pm_S3 v h
theorem pt_SI.trans {r : (Nat × pm_H) ⊕ (Int32 × pm_H)} {b c : pm_H} (x : pt_SI r b) (y : pm_S3 b c) : pt_SI r c := by cases r <;> exact pm_S3.trans x y
theorem pt_SJ.trans {r : (Nat × pm_H) ⊕ (Int64 × pm_H)} {b c : pm_H} (x : pt_SJ r b) (y : pm_S3 b c) : pt_SJ r c := by cases r <;> exact pm_S3.trans x y
theorem pt_SV.trans {r : (Nat × pm_H) ⊕ pm_H} {b c : pm_H} (x : pt_SV r b) (y : pm_S3 b c) : pt_SV r c := by cases r <;> exact pm_S3.trans x y
/-- slots in all -/
def pm_us (h : pm_H) : Nat := ((List.range (pm_sz h)).map (fun a => if pm_kd h a < 32 then pm_fN (pm_kd h a) else pm_ln h a)).sum
theorem pm_S3.us {a b : pm_H} (x : pm_S3 a b) : pm_us a = pm_us b := by
  unfold pm_us
  rw [x.1, x.2.1, x.2.2]
theorem pm_us_new (h : pm_H) (q n : Nat) : pm_us (pm_new h q n) = pm_us h + (if q < 32 then pm_fN q else n) := by
  unfold pm_us
  show ((List.range (pm_sz h + 1)).map _).sum = _
  rw [List.range_succ, List.map_append, List.sum_append]
  have e1 : (List.range (pm_sz h)).map (fun a => if pm_kd (pm_new h q n) a < 32 then pm_fN (pm_kd (pm_new h q n) a) else pm_ln (pm_new h q n) a) = (List.range (pm_sz h)).map (fun a => if pm_kd h a < 32 then pm_fN (pm_kd h a) else pm_ln h a) := by
    apply List.map_congr_left
    intro a ha
    have hn : a ≠ pm_sz h := Nat.ne_of_lt (List.mem_range.mp ha)
    show (if pm_u1 (pm_kd h) (pm_sz h) q a < 32 then pm_fN (pm_u1 (pm_kd h) (pm_sz h) q a) else pm_u1 (pm_ln h) (pm_sz h) n a) = _
    rw [pm_u1_n _ _ hn, pm_u1_n _ _ hn]
  rw [e1]
  congr 1
  show (if pm_u1 (pm_kd h) (pm_sz h) q (pm_sz h) < 32 then pm_fN (pm_u1 (pm_kd h) (pm_sz h) q (pm_sz h)) else pm_u1 (pm_ln h) (pm_sz h) n (pm_sz h)) + 0 = _
  rw [pm_u1_s, pm_u1_s]
  rfl
/-- b has at least a's cells -/
def pm_Le (a b : pm_H) : Prop := pm_sz a ≤ pm_sz b ∧ pm_us a ≤ pm_us b
theorem pm_Le.rf (h : pm_H) : pm_Le h h := ⟨Nat.le_refl _, Nat.le_refl _⟩
theorem pm_Le.trans {a b c : pm_H} (x : pm_Le a b) (y : pm_Le b c) : pm_Le a c := ⟨Nat.le_trans x.1 y.1, Nat.le_trans x.2 y.2⟩
theorem pm_S3.le {a b : pm_H} (x : pm_S3 a b) : pm_Le b a := ⟨Nat.le_of_eq x.1.symm, Nat.le_of_eq x.us.symm⟩
theorem pm_Le_new (h : pm_H) (q n : Nat) : pm_Le h (pm_new h q n) := ⟨Nat.le_succ _, by rw [pm_us_new]; exact Nat.le_add_right _ _⟩
