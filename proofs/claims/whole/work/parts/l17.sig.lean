/-! INSTRUCTIONS that stand alone, one kind after the other -/
section SG
variable {M : tMd} {Dc : Nat → Bool} {lt : Nat → Option Nat} {op x y : Nat}
theorem sg_28 (h : op = 28) : kSg M Dc lt op x y = some (127, y, y, y) := by
  unfold kSg
  rw [if_pos (show op = 28 by omega)]
theorem sg_loc (h : 32 ≤ op ∧ op ≤ 34) : kSg M Dc lt op x y = (match lt x with
    | none => none
    | some t => if op = 32 then some (0, 0, 0, t) else if op = 33 then some (t, 0, 0, 0) else some (t, 0, 0, t)) := by
  unfold kSg
  rw [if_neg (show ¬ (op = 28) by omega), if_pos (show op ≤ 34 by omega)]
  rfl
theorem sg_glo (h : 35 ≤ op ∧ op ≤ 36) : kSg M Dc lt op x y = (match (spG M)[x]? with
    | none => none
    | some g => if op = 35 then some (0, 0, 0, g.1.2.1) else if g.1.2.2.2.2 = 0 then none else some (g.1.2.1, 0, 0, 0)) := by
  unfold kSg
  rw [if_neg (show ¬ (op = 28) by omega), if_neg (show ¬ (op ≤ 34) by omega), if_pos (show op ≤ 36 by omega)]
  rfl
theorem sg_tab (h : 37 ≤ op ∧ op ≤ 38) : kSg M Dc lt op x y = (match (spT M)[x]? with
    | none => none
    | some t => if op = 37 then some (127, 0, 0, t.2.1) else some (t.2.1, 127, 0, 0)) := by
  unfold kSg
  rw [if_neg (show ¬ (op = 28) by omega), if_neg (show ¬ (op ≤ 34) by omega), if_neg (show ¬ (op ≤ 36) by omega), if_pos (show op ≤ 38 by omega)]
  rfl
theorem sg_acc (h : 40 ≤ op ∧ op ≤ 62) : kSg M Dc lt op x y = (if (spM M).length = 0 ∨ kWid op < x then none else if op < 54 then some (127, 0, 0, kAcT op) else some (kAcT op, 127, 0, 0)) := by
  unfold kSg
  rw [if_neg (show ¬ (op = 28) by omega), if_neg (show ¬ (op ≤ 34) by omega), if_neg (show ¬ (op ≤ 36) by omega), if_neg (show ¬ (op ≤ 38) by omega), if_pos (show op ≤ 62 by omega)]
theorem sg_mem (h : 63 ≤ op ∧ op ≤ 64) : kSg M Dc lt op x y = (if (spM M).length = 0 then none else if op = 63 then some (0, 0, 0, 127) else some (127, 0, 0, 127)) := by
  unfold kSg
  rw [if_neg (show ¬ (op = 28) by omega), if_neg (show ¬ (op ≤ 34) by omega), if_neg (show ¬ (op ≤ 36) by omega), if_neg (show ¬ (op ≤ 38) by omega), if_neg (show ¬ (op ≤ 62) by omega), if_pos (show op ≤ 64 by omega)]
theorem sg_opr (h : 69 ≤ op ∧ op < 208) : kSg M Dc lt op x y = some (127 - kOpT op, (if kTwo op = true then 127 - kOpT op else 0), 0, 127 - kRsT op) := by
  unfold kSg
  rw [if_neg (show ¬ (op = 28) by omega), if_neg (show ¬ (op ≤ 34) by omega), if_neg (show ¬ (op ≤ 36) by omega), if_neg (show ¬ (op ≤ 38) by omega), if_neg (show ¬ (op ≤ 62) by omega), if_neg (show ¬ (op ≤ 64) by omega), if_pos (show op < 208 by omega)]
theorem sg_210 (h : op = 210) : kSg M Dc lt op x y = (if x < (spF M).length ∧ Dc x = true then some (0, 0, 0, 112) else none) := by
  unfold kSg
  rw [if_neg (show ¬ (op = 28) by omega), if_neg (show ¬ (op ≤ 34) by omega), if_neg (show ¬ (op ≤ 36) by omega), if_neg (show ¬ (op ≤ 38) by omega), if_neg (show ¬ (op ≤ 62) by omega), if_neg (show ¬ (op ≤ 64) by omega), if_neg (show ¬ (op < 208) by omega), if_pos (show op = 210 by omega)]
theorem sg_308 (h : op = 308) : kSg M Dc lt op x y = (if x < M.2.2.2.2.2.2.2.2.1.length ∧ 0 < (spM M).length then some (127, 127, 127, 0) else none) := by
  unfold kSg
  rw [if_neg (show ¬ (op = 28) by omega), if_neg (show ¬ (op ≤ 34) by omega), if_neg (show ¬ (op ≤ 36) by omega), if_neg (show ¬ (op ≤ 38) by omega), if_neg (show ¬ (op ≤ 62) by omega), if_neg (show ¬ (op ≤ 64) by omega), if_neg (show ¬ (op < 208) by omega), if_neg (show ¬ (op = 210) by omega), if_pos (show op = 308 by omega)]
theorem sg_309 (h : op = 309) : kSg M Dc lt op x y = (if x < M.2.2.2.2.2.2.2.2.1.length then some (0, 0, 0, 0) else none) := by
  unfold kSg
  rw [if_neg (show ¬ (op = 28) by omega), if_neg (show ¬ (op ≤ 34) by omega), if_neg (show ¬ (op ≤ 36) by omega), if_neg (show ¬ (op ≤ 38) by omega), if_neg (show ¬ (op ≤ 62) by omega), if_neg (show ¬ (op ≤ 64) by omega), if_neg (show ¬ (op < 208) by omega), if_neg (show ¬ (op = 210) by omega), if_neg (show ¬ (op = 308) by omega), if_pos (show op = 309 by omega)]
theorem sg_310 (h : 310 ≤ op ∧ op ≤ 311) : kSg M Dc lt op x y = (if 0 < (spM M).length then some (127, 127, 127, 0) else none) := by
  unfold kSg
  rw [if_neg (show ¬ (op = 28) by omega), if_neg (show ¬ (op ≤ 34) by omega), if_neg (show ¬ (op ≤ 36) by omega), if_neg (show ¬ (op ≤ 38) by omega), if_neg (show ¬ (op ≤ 62) by omega), if_neg (show ¬ (op ≤ 64) by omega), if_neg (show ¬ (op < 208) by omega), if_neg (show ¬ (op = 210) by omega), if_neg (show ¬ (op = 308) by omega), if_neg (show ¬ (op = 309) by omega), if_pos (show op ≤ 311 by omega)]
theorem sg_312 (h : op = 312) : kSg M Dc lt op x y = (match M.2.2.2.2.2.2.2.1[x]?, (spT M)[y]? with
    | some e, some t => if e.2.2.1.1 = t.2.1 then some (127, 127, 127, 0) else none
    | _, _ => none) := by
  unfold kSg
  rw [if_neg (show ¬ (op = 28) by omega), if_neg (show ¬ (op ≤ 34) by omega), if_neg (show ¬ (op ≤ 36) by omega), if_neg (show ¬ (op ≤ 38) by omega), if_neg (show ¬ (op ≤ 62) by omega), if_neg (show ¬ (op ≤ 64) by omega), if_neg (show ¬ (op < 208) by omega), if_neg (show ¬ (op = 210) by omega), if_neg (show ¬ (op = 308) by omega), if_neg (show ¬ (op = 309) by omega), if_neg (show ¬ (op ≤ 311) by omega), if_pos (show op = 312 by omega)]
  rfl
theorem sg_313 (h : op = 313) : kSg M Dc lt op x y = (if x < M.2.2.2.2.2.2.2.1.length then some (0, 0, 0, 0) else none) := by
  unfold kSg
  rw [if_neg (show ¬ (op = 28) by omega), if_neg (show ¬ (op ≤ 34) by omega), if_neg (show ¬ (op ≤ 36) by omega), if_neg (show ¬ (op ≤ 38) by omega), if_neg (show ¬ (op ≤ 62) by omega), if_neg (show ¬ (op ≤ 64) by omega), if_neg (show ¬ (op < 208) by omega), if_neg (show ¬ (op = 210) by omega), if_neg (show ¬ (op = 308) by omega), if_neg (show ¬ (op = 309) by omega), if_neg (show ¬ (op ≤ 311) by omega), if_neg (show ¬ (op = 312) by omega), if_pos (show op = 313 by omega)]
theorem sg_314 (h : op = 314) : kSg M Dc lt op x y = (match (spT M)[x]?, (spT M)[y]? with
    | some e, some t => if e.2.1 = t.2.1 then some (127, 127, 127, 0) else none
    | _, _ => none) := by
  unfold kSg
  rw [if_neg (show ¬ (op = 28) by omega), if_neg (show ¬ (op ≤ 34) by omega), if_neg (show ¬ (op ≤ 36) by omega), if_neg (show ¬ (op ≤ 38) by omega), if_neg (show ¬ (op ≤ 62) by omega), if_neg (show ¬ (op ≤ 64) by omega), if_neg (show ¬ (op < 208) by omega), if_neg (show ¬ (op = 210) by omega), if_neg (show ¬ (op = 308) by omega), if_neg (show ¬ (op = 309) by omega), if_neg (show ¬ (op ≤ 311) by omega), if_neg (show ¬ (op = 312) by omega), if_neg (show ¬ (op = 313) by omega), if_pos (show op = 314 by omega)]
  rfl
theorem sg_315 (h : 315 ≤ op) : kSg M Dc lt op x y = (match (spT M)[x]? with
    | none => none
    | some t => if op = 315 then some (127, t.2.1, 0, 127) else if op = 316 then some (0, 0, 0, 127) else some (127, t.2.1, 127, 0)) := by
  unfold kSg
  rw [if_neg (show ¬ (op = 28) by omega), if_neg (show ¬ (op ≤ 34) by omega), if_neg (show ¬ (op ≤ 36) by omega), if_neg (show ¬ (op ≤ 38) by omega), if_neg (show ¬ (op ≤ 62) by omega), if_neg (show ¬ (op ≤ 64) by omega), if_neg (show ¬ (op < 208) by omega), if_neg (show ¬ (op = 210) by omega), if_neg (show ¬ (op = 308) by omega), if_neg (show ¬ (op = 309) by omega), if_neg (show ¬ (op ≤ 311) by omega), if_neg (show ¬ (op = 312) by omega), if_neg (show ¬ (op = 313) by omega), if_neg (show ¬ (op = 314) by omega)]
  rfl
end SG
section NM
variable {B : Nat → Nat} {n : Nat} {M : tMd} {Dc : Nat → Bool} {lt : Nat → Option Nat} {v : sp_I} {K : tK}
theorem nm_1 (h : v.1 = 0 ∨ v.1 = 1 ∨ v.1 = 5 ∨ v.1 = 11 ∨ v.1 = 15 ∨ v.1 = 26 ∨ v.1 = 27 ∨ (65 ≤ v.1 ∧ v.1 ≤ 68) ∨ v.1 = 208 ∨ v.1 = 209) : kNm B n M Dc lt v K = true := by unfold kNm; rw [if_pos h]
theorem nm_b (h : 2 ≤ v.1 ∧ v.1 ≤ 4) : kNm B n M Dc lt v K = !decide (0 ≤ v.2.1 ∧ M.1.length ≤ v.2.1.toNatClampNeg) := by unfold kNm; rw [if_neg (by omega), if_pos (by omega)]
theorem nm_12 (h : 12 ≤ v.1 ∧ v.1 ≤ 13) : kNm B n M Dc lt v K = decide (v.2.1.toNatClampNeg < K.2.1.length) := by unfold kNm; rw [if_neg (by omega), if_neg (by omega), if_pos (by omega)]
theorem nm_14 (h : v.1 = 14) : kNm B n M Dc lt v K = !(kDl B n v.2.1.toNatClampNeg v.2.2.1.toNatClampNeg).any (fun x => decide (K.2.1.length ≤ x)) := by unfold kNm; rw [if_neg (by omega), if_neg (by omega), if_neg (by omega), if_pos h]
theorem nm_16 (h : v.1 = 16) : kNm B n M Dc lt v K = decide (v.2.1.toNatClampNeg < (spF M).length) := by unfold kNm; rw [if_neg (by omega), if_neg (by omega), if_neg (by omega), if_neg (by omega), if_pos h]
theorem nm_17 (h : v.1 = 17) : kNm B n M Dc lt v K = (decide (v.2.1.toNatClampNeg < M.1.length) && (match (spT M)[v.2.2.1.toNatClampNeg]? with
    | none => false
    | some t => decide (t.2.1 = 112))) := by unfold kNm; rw [if_neg (by omega), if_neg (by omega), if_neg (by omega), if_neg (by omega), if_neg (by omega), if_pos h]; rfl
theorem nm_s (h : v.1 = 28 ∨ (32 ≤ v.1 ∧ v.1 ≤ 64) ∨ (69 ≤ v.1 ∧ v.1 < 208) ∨ 210 ≤ v.1) : kNm B n M Dc lt v K = (kSg M Dc lt v.1 v.2.1.toNatClampNeg v.2.2.1.toNatClampNeg).isSome := by unfold kNm; rw [if_neg (by omega), if_neg (by omega), if_neg (by omega), if_neg (by omega), if_neg (by omega), if_neg (by omega)]
end NM
