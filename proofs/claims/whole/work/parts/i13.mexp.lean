/-! THE REFERENCE READS: expressions, step by step -/
theorem r_let {α β : Type} (e : α) (k : α → β) : pm_let e k = k e := (rfl)
theorem r_bs {α β : Type} (v : α) (k : α → Option β) : (some v).bind k = k v := (rfl)
theorem r_sr {α ρ σ : Type} (w : α) (k : α → Option (σ ⊕ ((Nat × pm_H) ⊕ ρ))) : pt_s (.inr w) k = k w := (rfl)
theorem r_sl {α ρ σ : Type} (z : Nat × pm_H) (k : α → Option (σ ⊕ ((Nat × pm_H) ⊕ ρ))) : pt_s (.inl z) k = some (.inr (.inl z)) := (rfl)
theorem r_kl {σ ρ : Type} (s : σ → Option (σ ⊕ ρ)) (y : σ) : ev_k s (some (.inl y)) = pm_lim s y := (rfl)
theorem r_kr {σ ρ : Type} (s : σ → Option (σ ⊕ ρ)) (r : ρ) : ev_k s (some (.inr r)) = some r := (rfl)
theorem r_kd (h : pm_H) (p f q : Int32) : pm_kd (rm h p f q) = pm_kd h := (rfl)
theorem r_R (h : pm_H) (p f q : Int32) : pm_R (rm h p f q) = pm_R h := (rfl)
theorem r_ln (h : pm_H) (p f q : Int32) : pm_ln (rm h p f q) = pm_ln h := (rfl)
theorem r_11 (h : pm_H) (p f q : Int32) : pm_I (rm h p f q) 592 11 = p := (rfl)
theorem r_kdI (h : pm_H) (a k x : Nat) (v : Int32) : pm_kd (pm_setI h a k v) x = pm_kd h x := (rfl)
theorem r_lnI (h : pm_H) (a k x : Nat) (v : Int32) : pm_ln (pm_setI h a k v) x = pm_ln h x := (rfl)
theorem r_RI (h : pm_H) (a k x y : Nat) (v : Int32) : pm_R (pm_setI h a k v) x y = pm_R h x y := (rfl)
theorem r_II (h : pm_H) (a k x y : Nat) (v : Int32) : pm_I (pm_setI h a k v) x y = if x = a then (if y = k then v else pm_I h x y) else pm_I h x y := (rfl)
section MEXP
variable {n b m e eo el sc k p : Nat} {B : Nat → Nat} {h : pm_H} {f q o : Int32}
set_option maxHeartbeats 4000000 in
theorem mx_end (C : mS h n b m 595 B) (X : mX h n m eo el sc) (hl : p < e) (he : e ≤ n) (k1 : 1 ≤ k) (kp : k ≤ p + 1) (nx : fX16_next (rm h (Int32.ofNat p) f q) 592 = some (.inr (Int32.ofNat (B p), rm h (Int32.ofNat (p + 1)) f q))) (c11 : B p = 11) (ck : k = 1) : pm_lim sX16_expression (.inl (592, o, Int32.ofNat k, rm h (Int32.ofNat p) f q)) = some (.inr (rm h (Int32.ofNat (p + 1)) f q)) := by
  have st := ms_stops C
  have k16 := C.1
  have rr := C.2.1
  have km := C.2.2.1
  have n4 := C.2.2.2.2.2.2.1
  have b0 := C.2.2.2.2.2.2.2.2.2 p
  have kk := nn_p1 k1
  obtain ⟨x1, x2, x3, x4, x5, x6, x7, x8, x9, x10, x11, x12, x13, x14, x15, x16, x17, x18, x19, x20, x21, x22⟩ := X
  rw [ev_lm, aX16_expression_0]; unfold tX16_expression_9; simp only [k16, rr, km, x1, x2, x3, x4, x5, x6, x7, x8, x9, x10, x11, x12, nx, ↓reduceIte, r_bs, ↓r_let, r_sr, r_sl, r_kl, r_kr, r_kdI, r_lnI, r_RI, r_kd, r_R, r_ln, r_11]; (try simp (disch := omega) only [kk, r_kd, r_R, r_ln, r_11, r_kdI, r_lnI, r_RI, n3_0, n3_11, nn_m31, nn_m63, nn_m15, nn_m7, nn_m127, ll_m63, Nat.reduceMod, Nat.reduceAdd, Nat.reduceMul, Nat.reduceSub, nn_sr6, nn_sl6, nn_le, nn_lt, nn_eq, nn_ad, nn_ml, nn_sb, nn_cm, nn_in, nn_t6, ll_le, ll_lt, ll_eq, ll_ad, ll_ml, ll_sb, ll_t3, ↓reduceIte, r_kl, r_kr, ↓r_let, r_bs, r_sr, r_sl, b_let, b_lef, b_ltt, b_ltf, b_eqt, b_eqf, and_true, true_and, and_false, false_and, or_true, true_or, or_false, false_or, not_true_eq_false, not_false_eq_true])
  rw [ev_lm, aX16_expression_0]; unfold tX16_expression_9; simp only [k16, rr, km, x1, x2, x3, x4, x5, x6, x7, x8, x9, x10, x11, x12, nx, ↓reduceIte, r_bs, ↓r_let, r_sr, r_sl, r_kl, r_kr, r_kdI, r_lnI, r_RI, r_kd, r_R, r_ln, r_11]; (try simp (disch := omega) only [kk, r_kd, r_R, r_ln, r_11, r_kdI, r_lnI, r_RI, n3_0, n3_11, nn_m31, nn_m63, nn_m15, nn_m7, nn_m127, ll_m63, Nat.reduceMod, Nat.reduceAdd, Nat.reduceMul, Nat.reduceSub, nn_sr6, nn_sl6, nn_le, nn_lt, nn_eq, nn_ad, nn_ml, nn_sb, nn_cm, nn_in, nn_t6, ll_le, ll_lt, ll_eq, ll_ad, ll_ml, ll_sb, ll_t3, ↓reduceIte, r_kl, r_kr, ↓r_let, r_bs, r_sr, r_sl, b_let, b_lef, b_ltt, b_ltf, b_eqt, b_eqf, and_true, true_and, and_false, false_and, or_true, true_or, or_false, false_or, not_true_eq_false, not_false_eq_true])
set_option maxHeartbeats 4000000 in
theorem mx_pop0 (C : mS h n b m 595 B) (X : mX h n m eo el sc) (hl : p < e) (he : e ≤ n) (k1 : 1 ≤ k) (kp : k ≤ p + 1) (nx : fX16_next (rm h (Int32.ofNat p) f q) 592 = some (.inr (Int32.ofNat (B p), rm h (Int32.ofNat (p + 1)) f q))) (c11 : B p = 11) (ck : k ≠ 1) {a : Nat} (ha : a < n) (ja : pm_I h 597 (k - 1) = Int32.ofNat a) (jc : pm_I h el a = Int32.ofNat 0) : pm_lim sX16_expression (.inl (592, o, Int32.ofNat k, rm h (Int32.ofNat p) f q)) = pm_lim sX16_expression (.inl (592, o, Int32.ofNat (k - 1), rm (pm_setI h eo a (Int32.ofNat p)) (Int32.ofNat (p + 1)) f q)) := by
  have st := ms_stops C
  have k16 := C.1
  have rr := C.2.1
  have km := C.2.2.1
  have n4 := C.2.2.2.2.2.2.1
  have b0 := C.2.2.2.2.2.2.2.2.2 p
  have kk := nn_p1 k1
  obtain ⟨x1, x2, x3, x4, x5, x6, x7, x8, x9, x10, x11, x12, x13, x14, x15, x16, x17, x18, x19, x20, x21, x22⟩ := X
  rw [ev_lm, aX16_expression_0]; unfold tX16_expression_9; simp only [k16, rr, km, x1, x2, x3, x4, x5, x6, x7, x8, x9, x10, x11, x12, nx, ↓reduceIte, r_bs, ↓r_let, r_sr, r_sl, r_kl, r_kr, r_kdI, r_lnI, r_RI, r_kd, r_R, r_ln, r_11]; (try simp (disch := omega) only [kk, ja, jc, rm_x, rm_a, r_II, r_kd, r_R, r_ln, r_11, r_kdI, r_lnI, r_RI, n3_0, n3_11, nn_m31, nn_m63, nn_m15, nn_m7, nn_m127, ll_m63, Nat.reduceMod, Nat.reduceAdd, Nat.reduceMul, Nat.reduceSub, nn_sr6, nn_sl6, nn_le, nn_lt, nn_eq, nn_ad, nn_ml, nn_sb, nn_cm, nn_in, nn_t6, ll_le, ll_lt, ll_eq, ll_ad, ll_ml, ll_sb, ll_t3, ↓reduceIte, r_kl, r_kr, ↓r_let, r_bs, r_sr, r_sl, b_let, b_lef, b_ltt, b_ltf, b_eqt, b_eqf, and_true, true_and, and_false, false_and, or_true, true_or, or_false, false_or, not_true_eq_false, not_false_eq_true])
set_option maxHeartbeats 4000000 in
theorem mx_pop1 (C : mS h n b m 595 B) (X : mX h n m eo el sc) (hl : p < e) (he : e ≤ n) (k1 : 1 ≤ k) (kp : k ≤ p + 1) (nx : fX16_next (rm h (Int32.ofNat p) f q) 592 = some (.inr (Int32.ofNat (B p), rm h (Int32.ofNat (p + 1)) f q))) (c11 : B p = 11) (ck : k ≠ 1) {a c : Nat} (ha : a < n) (hc : c < n) (c0 : c ≠ 0) (ja : pm_I h 597 (k - 1) = Int32.ofNat a) (jc : pm_I h el a = Int32.ofNat c) : pm_lim sX16_expression (.inl (592, o, Int32.ofNat k, rm h (Int32.ofNat p) f q)) = pm_lim sX16_expression (.inl (592, o, Int32.ofNat (k - 1), rm (pm_setI (pm_setI h eo a (Int32.ofNat p)) eo c (Int32.ofNat p)) (Int32.ofNat (p + 1)) f q)) := by
  have st := ms_stops C
  have k16 := C.1
  have rr := C.2.1
  have km := C.2.2.1
  have n4 := C.2.2.2.2.2.2.1
  have b0 := C.2.2.2.2.2.2.2.2.2 p
  have kk := nn_p1 k1
  obtain ⟨x1, x2, x3, x4, x5, x6, x7, x8, x9, x10, x11, x12, x13, x14, x15, x16, x17, x18, x19, x20, x21, x22⟩ := X
  rw [ev_lm, aX16_expression_0]; unfold tX16_expression_9; simp only [k16, rr, km, x1, x2, x3, x4, x5, x6, x7, x8, x9, x10, x11, x12, nx, ↓reduceIte, r_bs, ↓r_let, r_sr, r_sl, r_kl, r_kr, r_kdI, r_lnI, r_RI, r_kd, r_R, r_ln, r_11]; (try simp (disch := omega) only [kk, ja, jc, rm_x, rm_a, r_II, r_kd, r_R, r_ln, r_11, r_kdI, r_lnI, r_RI, n3_0, n3_11, nn_m31, nn_m63, nn_m15, nn_m7, nn_m127, ll_m63, Nat.reduceMod, Nat.reduceAdd, Nat.reduceMul, Nat.reduceSub, nn_sr6, nn_sl6, nn_le, nn_lt, nn_eq, nn_ad, nn_ml, nn_sb, nn_cm, nn_in, nn_t6, ll_le, ll_lt, ll_eq, ll_ad, ll_ml, ll_sb, ll_t3, ↓reduceIte, r_kl, r_kr, ↓r_let, r_bs, r_sr, r_sl, b_let, b_lef, b_ltt, b_ltf, b_eqt, b_eqf, and_true, true_and, and_false, false_and, or_true, true_or, or_false, false_or, not_true_eq_false, not_false_eq_true])
set_option maxHeartbeats 4000000 in
theorem mx_blk (C : mS h n b m 595 B) (X : mX h n m eo el sc) (hl : p < e) (he : e ≤ n) (k1 : 1 ≤ k) (kp : k ≤ p + 1) (nx : fX16_next (rm h (Int32.ofNat p) f q) 592 = some (.inr (Int32.ofNat (B p), rm h (Int32.ofNat (p + 1)) f q))) (c2 : 2 ≤ B p) (c4 : B p ≤ 4) {p2 : Nat} (y1 : fX16_blockType (rm h (Int32.ofNat (p + 1)) f q) 592 = some (.inr (rm h (Int32.ofNat p2) f q))) : pm_lim sX16_expression (.inl (592, o, Int32.ofNat k, rm h (Int32.ofNat p) f q)) = pm_lim sX16_expression (.inl (592, o, Int32.ofNat (k + 1), rm (pm_setI (pm_setI h 596 k (Int32.ofNat (B p))) 597 k (Int32.ofNat p)) (Int32.ofNat p2) f q)) := by
  have st := ms_stops C
  have k16 := C.1
  have rr := C.2.1
  have km := C.2.2.1
  have n4 := C.2.2.2.2.2.2.1
  have b0 := C.2.2.2.2.2.2.2.2.2 p
  have kk := nn_p1 k1
  obtain ⟨x1, x2, x3, x4, x5, x6, x7, x8, x9, x10, x11, x12, x13, x14, x15, x16, x17, x18, x19, x20, x21, x22⟩ := X
  rw [ev_lm, aX16_expression_0]; unfold tX16_expression_9; simp only [k16, rr, km, x1, x2, x3, x4, x5, x6, x7, x8, x9, x10, x11, x12, nx, ↓reduceIte, r_bs, ↓r_let, r_sr, r_sl, r_kl, r_kr, r_kdI, r_lnI, r_RI, r_kd, r_R, r_ln, r_11]; (try simp (disch := omega) only [y1, rm_x, rm_a, r_II, k16, x1, x2, x3, x4, x5, x6, r_kd, r_R, r_ln, r_11, r_kdI, r_lnI, r_RI, n3_0, n3_1, n3_2, n3_4, n3_11, nn_m31, nn_m63, nn_m15, nn_m7, nn_m127, ll_m63, Nat.reduceMod, Nat.reduceAdd, Nat.reduceMul, Nat.reduceSub, nn_sr6, nn_sl6, nn_le, nn_lt, nn_eq, nn_ad, nn_ml, nn_sb, nn_cm, nn_in, nn_t6, ll_le, ll_lt, ll_eq, ll_ad, ll_ml, ll_sb, ll_t3, ↓reduceIte, r_kl, r_kr, ↓r_let, r_bs, r_sr, r_sl, b_let, b_lef, b_ltt, b_ltf, b_eqt, b_eqf, and_true, true_and, and_false, false_and, or_true, true_or, or_false, false_or, not_true_eq_false, not_false_eq_true])
set_option maxHeartbeats 4000000 in
theorem mx_blkf (C : mS h n b m 595 B) (X : mX h n m eo el sc) (hl : p < e) (he : e ≤ n) (k1 : 1 ≤ k) (kp : k ≤ p + 1) (nx : fX16_next (rm h (Int32.ofNat p) f q) 592 = some (.inr (Int32.ofNat (B p), rm h (Int32.ofNat (p + 1)) f q))) (c2 : 2 ≤ B p) (c4 : B p ≤ 4) {z : Nat × pm_H} (y1 : fX16_blockType (rm h (Int32.ofNat (p + 1)) f q) 592 = some (.inl z)) : pm_lim sX16_expression (.inl (592, o, Int32.ofNat k, rm h (Int32.ofNat p) f q)) = some (.inl z) := by
  have st := ms_stops C
  have k16 := C.1
  have rr := C.2.1
  have km := C.2.2.1
  have n4 := C.2.2.2.2.2.2.1
  have b0 := C.2.2.2.2.2.2.2.2.2 p
  have kk := nn_p1 k1
  obtain ⟨x1, x2, x3, x4, x5, x6, x7, x8, x9, x10, x11, x12, x13, x14, x15, x16, x17, x18, x19, x20, x21, x22⟩ := X
  rw [ev_lm, aX16_expression_0]; unfold tX16_expression_9; simp only [k16, rr, km, x1, x2, x3, x4, x5, x6, x7, x8, x9, x10, x11, x12, nx, ↓reduceIte, r_bs, ↓r_let, r_sr, r_sl, r_kl, r_kr, r_kdI, r_lnI, r_RI, r_kd, r_R, r_ln, r_11]; (try simp (disch := omega) only [y1, k16, r_kd, r_R, r_ln, r_11, r_kdI, r_lnI, r_RI, n3_0, n3_2, n3_4, n3_11, nn_m31, nn_m63, nn_m15, nn_m7, nn_m127, ll_m63, Nat.reduceMod, Nat.reduceAdd, Nat.reduceMul, Nat.reduceSub, nn_sr6, nn_sl6, nn_le, nn_lt, nn_eq, nn_ad, nn_ml, nn_sb, nn_cm, nn_in, nn_t6, ll_le, ll_lt, ll_eq, ll_ad, ll_ml, ll_sb, ll_t3, ↓reduceIte, r_kl, r_kr, ↓r_let, r_bs, r_sr, r_sl, b_let, b_lef, b_ltt, b_ltf, b_eqt, b_eqf, and_true, true_and, and_false, false_and, or_true, true_or, or_false, false_or, not_true_eq_false, not_false_eq_true])
set_option maxHeartbeats 4000000 in
theorem mx_go (C : mS h n b m 595 B) (X : mX h n m eo el sc) (hl : p < e) (he : e ≤ n) (k1 : 1 ≤ k) (kp : k ≤ p + 1) (nx : fX16_next (rm h (Int32.ofNat p) f q) 592 = some (.inr (Int32.ofNat (B p), rm h (Int32.ofNat (p + 1)) f q))) (c11 : B p ≠ 11) (c24 : ¬ (2 ≤ B p ∧ B p ≤ 4)) : pm_lim sX16_expression (.inl (592, o, Int32.ofNat k, rm h (Int32.ofNat p) f q)) = pm_lim sX16_expression (.inr (592, o, Int32.ofNat k, Int32.ofNat p, Int32.ofNat (B p), rm h (Int32.ofNat (p + 1)) f q)) := by
  have st := ms_stops C
  have k16 := C.1
  have rr := C.2.1
  have km := C.2.2.1
  have n4 := C.2.2.2.2.2.2.1
  have b0 := C.2.2.2.2.2.2.2.2.2 p
  have kk := nn_p1 k1
  obtain ⟨x1, x2, x3, x4, x5, x6, x7, x8, x9, x10, x11, x12, x13, x14, x15, x16, x17, x18, x19, x20, x21, x22⟩ := X
  by_cases cs : B p < 2
  · rw [ev_lm, aX16_expression_0]; unfold tX16_expression_9; simp only [k16, rr, km, x1, x2, x3, x4, x5, x6, x7, x8, x9, x10, x11, x12, nx, ↓reduceIte, r_bs, ↓r_let, r_sr, r_sl, r_kl, r_kr, r_kdI, r_lnI, r_RI, r_kd, r_R, r_ln, r_11]; (try simp (disch := omega) only [r_kd, r_R, r_ln, r_11, r_kdI, r_lnI, r_RI, n3_0, n3_2, n3_4, n3_11, nn_m31, nn_m63, nn_m15, nn_m7, nn_m127, ll_m63, Nat.reduceMod, Nat.reduceAdd, Nat.reduceMul, Nat.reduceSub, nn_sr6, nn_sl6, nn_le, nn_lt, nn_eq, nn_ad, nn_ml, nn_sb, nn_cm, nn_in, nn_t6, ll_le, ll_lt, ll_eq, ll_ad, ll_ml, ll_sb, ll_t3, ↓reduceIte, r_kl, r_kr, ↓r_let, r_bs, r_sr, r_sl, b_let, b_lef, b_ltt, b_ltf, b_eqt, b_eqf, and_true, true_and, and_false, false_and, or_true, true_or, or_false, false_or, not_true_eq_false, not_false_eq_true])
  · rw [ev_lm, aX16_expression_0]; unfold tX16_expression_9; simp only [k16, rr, km, x1, x2, x3, x4, x5, x6, x7, x8, x9, x10, x11, x12, nx, ↓reduceIte, r_bs, ↓r_let, r_sr, r_sl, r_kl, r_kr, r_kdI, r_lnI, r_RI, r_kd, r_R, r_ln, r_11]; (try simp (disch := omega) only [r_kd, r_R, r_ln, r_11, r_kdI, r_lnI, r_RI, n3_0, n3_2, n3_4, n3_11, nn_m31, nn_m63, nn_m15, nn_m7, nn_m127, ll_m63, Nat.reduceMod, Nat.reduceAdd, Nat.reduceMul, Nat.reduceSub, nn_sr6, nn_sl6, nn_le, nn_lt, nn_eq, nn_ad, nn_ml, nn_sb, nn_cm, nn_in, nn_t6, ll_le, ll_lt, ll_eq, ll_ad, ll_ml, ll_sb, ll_t3, ↓reduceIte, r_kl, r_kr, ↓r_let, r_bs, r_sr, r_sl, b_let, b_lef, b_ltt, b_ltf, b_eqt, b_eqf, and_true, true_and, and_false, false_and, or_true, true_or, or_false, false_or, not_true_eq_false, not_false_eq_true])
set_option maxHeartbeats 4000000 in
theorem mx_else (C : mS h n b m 595 B) (X : mX h n m eo el sc) (hl : p < e) (he : e ≤ n) (k1 : 1 ≤ k) (kp : k ≤ p + 1) (c5 : B p = 5) {a : Nat} (ha : a < n) (k2 : k ≠ 1) (j4 : pm_I h 596 (k - 1) = Int32.ofNat 4) (ja : pm_I h 597 (k - 1) = Int32.ofNat a) : pm_lim sX16_expression (.inr (592, o, Int32.ofNat k, Int32.ofNat p, Int32.ofNat (B p), rm h (Int32.ofNat (p + 1)) f q)) = pm_lim sX16_expression (.inl (592, o, Int32.ofNat k, rm (pm_setI (pm_setI h 596 (k - 1) (Int32.ofNat 5)) el a (Int32.ofNat p)) (Int32.ofNat (p + 1)) f q)) := by
  have st := ms_stops C
  have k16 := C.1
  have rr := C.2.1
  have km := C.2.2.1
  have n4 := C.2.2.2.2.2.2.1
  have b0 := C.2.2.2.2.2.2.2.2.2 p
  have kk := nn_p1 k1
  obtain ⟨x1, x2, x3, x4, x5, x6, x7, x8, x9, x10, x11, x12, x13, x14, x15, x16, x17, x18, x19, x20, x21, x22⟩ := X
  rw [ev_lm, aX16_expression_1]; unfold tX16_expression_137; simp only [k16, rr, km, x1, x2, x3, x4, x5, x6, x7, x8, x9, x10, x11, x12, ↓reduceIte, r_bs, ↓r_let, r_sr, r_sl, r_kl, r_kr, r_kdI, r_lnI, r_RI, r_kd, r_R, r_ln, r_11]; (try simp (disch := omega) only [j4, ja, rm_x, rm_a, r_II, k16, rr, km, x1, x2, x3, x4, x5, x6, x10, x11, x12, r_kd, r_R, r_ln, r_11, r_kdI, r_lnI, r_RI, n3_1, n3_4, n3_5, nn_m31, nn_m63, nn_m15, nn_m7, nn_m127, ll_m63, Nat.reduceMod, Nat.reduceAdd, Nat.reduceMul, Nat.reduceSub, nn_sr6, nn_sl6, nn_le, nn_lt, nn_eq, nn_ad, nn_ml, nn_sb, nn_cm, nn_in, nn_t6, ll_le, ll_lt, ll_eq, ll_ad, ll_ml, ll_sb, ll_t3, ↓reduceIte, r_kl, r_kr, ↓r_let, r_bs, r_sr, r_sl, b_let, b_lef, b_ltt, b_ltf, b_eqt, b_eqf, and_true, true_and, and_false, false_and, or_true, true_or, or_false, false_or, not_true_eq_false, not_false_eq_true])
set_option maxHeartbeats 4000000 in
theorem mx_elsef (C : mS h n b m 595 B) (X : mX h n m eo el sc) (hl : p < e) (he : e ≤ n) (k1 : 1 ≤ k) (kp : k ≤ p + 1) (c5 : B p = 5) (j4 : (pm_I h 596 (k - 1) = Int32.ofNat 4) = False) : pm_lim sX16_expression (.inr (592, o, Int32.ofNat k, Int32.ofNat p, Int32.ofNat (B p), rm h (Int32.ofNat (p + 1)) f q)) = some (.inl (595, rm h (Int32.ofNat (p + 1)) (Int32.ofNat 10) (Int32.ofNat p))) := by
  have st := ms_stops C
  have k16 := C.1
  have rr := C.2.1
  have km := C.2.2.1
  have n4 := C.2.2.2.2.2.2.1
  have b0 := C.2.2.2.2.2.2.2.2.2 p
  have kk := nn_p1 k1
  obtain ⟨x1, x2, x3, x4, x5, x6, x7, x8, x9, x10, x11, x12, x13, x14, x15, x16, x17, x18, x19, x20, x21, x22⟩ := X
  rw [ev_lm, aX16_expression_1]; unfold tX16_expression_137; simp only [k16, rr, km, x1, x2, x3, x4, x5, x6, x7, x8, x9, x10, x11, x12, ↓reduceIte, r_bs, ↓r_let, r_sr, r_sl, r_kl, r_kr, r_kdI, r_lnI, r_RI, r_kd, r_R, r_ln, r_11]; (try simp (disch := omega) only [j4, rm_x, st, k16, x1, x2, x3, r_kd, r_R, r_ln, r_11, r_kdI, r_lnI, r_RI, n3_1, n3_4, n3_5, n3_10, nn_m31, nn_m63, nn_m15, nn_m7, nn_m127, ll_m63, Nat.reduceMod, Nat.reduceAdd, Nat.reduceMul, Nat.reduceSub, nn_sr6, nn_sl6, nn_le, nn_lt, nn_eq, nn_ad, nn_ml, nn_sb, nn_cm, nn_in, nn_t6, ll_le, ll_lt, ll_eq, ll_ad, ll_ml, ll_sb, ll_t3, ↓reduceIte, r_kl, r_kr, ↓r_let, r_bs, r_sr, r_sl, b_let, b_lef, b_ltt, b_ltf, b_eqt, b_eqf, and_true, true_and, and_false, false_and, or_true, true_or, or_false, false_or, not_true_eq_false, not_false_eq_true])
set_option maxHeartbeats 4000000 in
theorem mx_ops (C : mS h n b m 595 B) (X : mX h n m eo el sc) (hl : p < e) (he : e ≤ n) (k1 : 1 ≤ k) (kp : k ≤ p + 1) (c5 : B p ≠ 5) {r : pm_H} (y1 : fX16_operands (rm h (Int32.ofNat (p + 1)) f q) 592 (Int32.ofNat (B p)) (Int32.ofNat p) o = some (.inr r)) : pm_lim sX16_expression (.inr (592, o, Int32.ofNat k, Int32.ofNat p, Int32.ofNat (B p), rm h (Int32.ofNat (p + 1)) f q)) = pm_lim sX16_expression (.inl (592, o, Int32.ofNat k, r)) := by
  have st := ms_stops C
  have k16 := C.1
  have rr := C.2.1
  have km := C.2.2.1
  have n4 := C.2.2.2.2.2.2.1
  have b0 := C.2.2.2.2.2.2.2.2.2 p
  have kk := nn_p1 k1
  obtain ⟨x1, x2, x3, x4, x5, x6, x7, x8, x9, x10, x11, x12, x13, x14, x15, x16, x17, x18, x19, x20, x21, x22⟩ := X
  rw [ev_lm, aX16_expression_1]; unfold tX16_expression_137; simp only [k16, rr, km, x1, x2, x3, x4, x5, x6, x7, x8, x9, x10, x11, x12, ↓reduceIte, r_bs, ↓r_let, r_sr, r_sl, r_kl, r_kr, r_kdI, r_lnI, r_RI, r_kd, r_R, r_ln, r_11]; (try simp (disch := omega) only [y1, k16, r_kd, r_R, r_ln, r_11, r_kdI, r_lnI, r_RI, n3_5, nn_m31, nn_m63, nn_m15, nn_m7, nn_m127, ll_m63, Nat.reduceMod, Nat.reduceAdd, Nat.reduceMul, Nat.reduceSub, nn_sr6, nn_sl6, nn_le, nn_lt, nn_eq, nn_ad, nn_ml, nn_sb, nn_cm, nn_in, nn_t6, ll_le, ll_lt, ll_eq, ll_ad, ll_ml, ll_sb, ll_t3, ↓reduceIte, r_kl, r_kr, ↓r_let, r_bs, r_sr, r_sl, b_let, b_lef, b_ltt, b_ltf, b_eqt, b_eqf, and_true, true_and, and_false, false_and, or_true, true_or, or_false, false_or, not_true_eq_false, not_false_eq_true])
set_option maxHeartbeats 4000000 in
theorem mx_opsf (C : mS h n b m 595 B) (X : mX h n m eo el sc) (hl : p < e) (he : e ≤ n) (k1 : 1 ≤ k) (kp : k ≤ p + 1) (c5 : B p ≠ 5) {z : Nat × pm_H} (y1 : fX16_operands (rm h (Int32.ofNat (p + 1)) f q) 592 (Int32.ofNat (B p)) (Int32.ofNat p) o = some (.inl z)) : pm_lim sX16_expression (.inr (592, o, Int32.ofNat k, Int32.ofNat p, Int32.ofNat (B p), rm h (Int32.ofNat (p + 1)) f q)) = some (.inl z) := by
  have st := ms_stops C
  have k16 := C.1
  have rr := C.2.1
  have km := C.2.2.1
  have n4 := C.2.2.2.2.2.2.1
  have b0 := C.2.2.2.2.2.2.2.2.2 p
  have kk := nn_p1 k1
  obtain ⟨x1, x2, x3, x4, x5, x6, x7, x8, x9, x10, x11, x12, x13, x14, x15, x16, x17, x18, x19, x20, x21, x22⟩ := X
  rw [ev_lm, aX16_expression_1]; unfold tX16_expression_137; simp only [k16, rr, km, x1, x2, x3, x4, x5, x6, x7, x8, x9, x10, x11, x12, ↓reduceIte, r_bs, ↓r_let, r_sr, r_sl, r_kl, r_kr, r_kdI, r_lnI, r_RI, r_kd, r_R, r_ln, r_11]; (try simp (disch := omega) only [y1, k16, r_kd, r_R, r_ln, r_11, r_kdI, r_lnI, r_RI, n3_5, nn_m31, nn_m63, nn_m15, nn_m7, nn_m127, ll_m63, Nat.reduceMod, Nat.reduceAdd, Nat.reduceMul, Nat.reduceSub, nn_sr6, nn_sl6, nn_le, nn_lt, nn_eq, nn_ad, nn_ml, nn_sb, nn_cm, nn_in, nn_t6, ll_le, ll_lt, ll_eq, ll_ad, ll_ml, ll_sb, ll_t3, ↓reduceIte, r_kl, r_kr, ↓r_let, r_bs, r_sr, r_sl, b_let, b_lef, b_ltt, b_ltf, b_eqt, b_eqf, and_true, true_and, and_false, false_and, or_true, true_or, or_false, false_or, not_true_eq_false, not_false_eq_true])
end MEXP
