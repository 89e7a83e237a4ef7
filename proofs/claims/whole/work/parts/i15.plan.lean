/-! THE REFERENCE'S PLAN: where its rows lie; what reading a section may write -/
def pRf : Nat → Nat := fun y => match y with
  | 2 => 1
  | 5 => 2
  | 6 => 3
  | 7 => 4
  | 9 => 5
  | 10 => 6
  | 11 => 7
  | 12 => 8
  | 13 => 9
  | 16 => 10
  | 18 => 11
  | 19 => 12
  | 20 => 13
  | 22 => 14
  | 23 => 15
  | 25 => 16
  | 26 => 17
  | 27 => 18
  | 29 => 19
  | 30 => 20
  | 31 => 21
  | 32 => 22
  | 35 => 23
  | 36 => 24
  | 37 => 25
  | 38 => 26
  | 39 => 27
  | 40 => 28
  | 41 => 29
  | 45 => 30
  | 46 => 31
  | 47 => 32
  | 48 => 33
  | 49 => 34
  | 51 => 35
  | 52 => 36
  | 53 => 37
  | 54 => 38
  | 55 => 39
  | _ => 0
def pKd : Nat → Nat := fun j => match j with
  | 1 => 34
  | 2 => 34
  | 3 => 34
  | 4 => 34
  | 5 => 34
  | 6 => 35
  | 7 => 35
  | 8 => 35
  | 9 => 32
  | 10 => 35
  | 11 => 34
  | 12 => 35
  | 13 => 35
  | 14 => 35
  | 15 => 35
  | 16 => 34
  | 17 => 32
  | 18 => 34
  | 19 => 34
  | 20 => 34
  | 21 => 34
  | 22 => 35
  | 23 => 34
  | 24 => 35
  | 25 => 34
  | 26 => 34
  | 27 => 32
  | 28 => 34
  | 29 => 34
  | 30 => 32
  | 31 => 35
  | 32 => 34
  | 33 => 34
  | 34 => 34
  | 35 => 34
  | 36 => 35
  | 37 => 34
  | 38 => 34
  | 39 => 34
  | _ => 0
def pLn : Nat → Nat := fun j => match j with
  | 1 => 13
  | 4 => 2048
  | _ => 64
def mP (h : pm_H) (m : Nat) : Prop := (∀ y, pRf y ≠ 0 → pm_R h m y = some (m + pRf y)) ∧ ∀ j, 1 ≤ j → j ≤ 39 → pm_kd h (m + j) = pKd j ∧ pm_ln h (m + j) = pLn j
theorem mP_2 {h : pm_H} {m : Nat} (P : mP h m) : pm_R h m 2 = some (m + 1) ∧ pm_kd h (m + 1) = 34 ∧ pm_ln h (m + 1) = 13 := ⟨P.1 2 (by decide), (P.2 1 (by decide) (by decide)).1, (P.2 1 (by decide) (by decide)).2⟩
theorem mP_5 {h : pm_H} {m : Nat} (P : mP h m) : pm_R h m 5 = some (m + 2) ∧ pm_kd h (m + 2) = 34 ∧ pm_ln h (m + 2) = 64 := ⟨P.1 5 (by decide), (P.2 2 (by decide) (by decide)).1, (P.2 2 (by decide) (by decide)).2⟩
theorem mP_6 {h : pm_H} {m : Nat} (P : mP h m) : pm_R h m 6 = some (m + 3) ∧ pm_kd h (m + 3) = 34 ∧ pm_ln h (m + 3) = 64 := ⟨P.1 6 (by decide), (P.2 3 (by decide) (by decide)).1, (P.2 3 (by decide) (by decide)).2⟩
theorem mP_7 {h : pm_H} {m : Nat} (P : mP h m) : pm_R h m 7 = some (m + 4) ∧ pm_kd h (m + 4) = 34 ∧ pm_ln h (m + 4) = 2048 := ⟨P.1 7 (by decide), (P.2 4 (by decide) (by decide)).1, (P.2 4 (by decide) (by decide)).2⟩
theorem mP_9 {h : pm_H} {m : Nat} (P : mP h m) : pm_R h m 9 = some (m + 5) ∧ pm_kd h (m + 5) = 34 ∧ pm_ln h (m + 5) = 64 := ⟨P.1 9 (by decide), (P.2 5 (by decide) (by decide)).1, (P.2 5 (by decide) (by decide)).2⟩
theorem mP_10 {h : pm_H} {m : Nat} (P : mP h m) : pm_R h m 10 = some (m + 6) ∧ pm_kd h (m + 6) = 35 ∧ pm_ln h (m + 6) = 64 := ⟨P.1 10 (by decide), (P.2 6 (by decide) (by decide)).1, (P.2 6 (by decide) (by decide)).2⟩
theorem mP_11 {h : pm_H} {m : Nat} (P : mP h m) : pm_R h m 11 = some (m + 7) ∧ pm_kd h (m + 7) = 35 ∧ pm_ln h (m + 7) = 64 := ⟨P.1 11 (by decide), (P.2 7 (by decide) (by decide)).1, (P.2 7 (by decide) (by decide)).2⟩
theorem mP_12 {h : pm_H} {m : Nat} (P : mP h m) : pm_R h m 12 = some (m + 8) ∧ pm_kd h (m + 8) = 35 ∧ pm_ln h (m + 8) = 64 := ⟨P.1 12 (by decide), (P.2 8 (by decide) (by decide)).1, (P.2 8 (by decide) (by decide)).2⟩
theorem mP_13 {h : pm_H} {m : Nat} (P : mP h m) : pm_R h m 13 = some (m + 9) ∧ pm_kd h (m + 9) = 32 ∧ pm_ln h (m + 9) = 64 := ⟨P.1 13 (by decide), (P.2 9 (by decide) (by decide)).1, (P.2 9 (by decide) (by decide)).2⟩
theorem mP_16 {h : pm_H} {m : Nat} (P : mP h m) : pm_R h m 16 = some (m + 10) ∧ pm_kd h (m + 10) = 35 ∧ pm_ln h (m + 10) = 64 := ⟨P.1 16 (by decide), (P.2 10 (by decide) (by decide)).1, (P.2 10 (by decide) (by decide)).2⟩
theorem mP_18 {h : pm_H} {m : Nat} (P : mP h m) : pm_R h m 18 = some (m + 11) ∧ pm_kd h (m + 11) = 34 ∧ pm_ln h (m + 11) = 64 := ⟨P.1 18 (by decide), (P.2 11 (by decide) (by decide)).1, (P.2 11 (by decide) (by decide)).2⟩
theorem mP_19 {h : pm_H} {m : Nat} (P : mP h m) : pm_R h m 19 = some (m + 12) ∧ pm_kd h (m + 12) = 35 ∧ pm_ln h (m + 12) = 64 := ⟨P.1 19 (by decide), (P.2 12 (by decide) (by decide)).1, (P.2 12 (by decide) (by decide)).2⟩
theorem mP_20 {h : pm_H} {m : Nat} (P : mP h m) : pm_R h m 20 = some (m + 13) ∧ pm_kd h (m + 13) = 35 ∧ pm_ln h (m + 13) = 64 := ⟨P.1 20 (by decide), (P.2 13 (by decide) (by decide)).1, (P.2 13 (by decide) (by decide)).2⟩
theorem mP_22 {h : pm_H} {m : Nat} (P : mP h m) : pm_R h m 22 = some (m + 14) ∧ pm_kd h (m + 14) = 35 ∧ pm_ln h (m + 14) = 64 := ⟨P.1 22 (by decide), (P.2 14 (by decide) (by decide)).1, (P.2 14 (by decide) (by decide)).2⟩
theorem mP_23 {h : pm_H} {m : Nat} (P : mP h m) : pm_R h m 23 = some (m + 15) ∧ pm_kd h (m + 15) = 35 ∧ pm_ln h (m + 15) = 64 := ⟨P.1 23 (by decide), (P.2 15 (by decide) (by decide)).1, (P.2 15 (by decide) (by decide)).2⟩
theorem mP_25 {h : pm_H} {m : Nat} (P : mP h m) : pm_R h m 25 = some (m + 16) ∧ pm_kd h (m + 16) = 34 ∧ pm_ln h (m + 16) = 64 := ⟨P.1 25 (by decide), (P.2 16 (by decide) (by decide)).1, (P.2 16 (by decide) (by decide)).2⟩
theorem mP_26 {h : pm_H} {m : Nat} (P : mP h m) : pm_R h m 26 = some (m + 17) ∧ pm_kd h (m + 17) = 32 ∧ pm_ln h (m + 17) = 64 := ⟨P.1 26 (by decide), (P.2 17 (by decide) (by decide)).1, (P.2 17 (by decide) (by decide)).2⟩
theorem mP_27 {h : pm_H} {m : Nat} (P : mP h m) : pm_R h m 27 = some (m + 18) ∧ pm_kd h (m + 18) = 34 ∧ pm_ln h (m + 18) = 64 := ⟨P.1 27 (by decide), (P.2 18 (by decide) (by decide)).1, (P.2 18 (by decide) (by decide)).2⟩
theorem mP_29 {h : pm_H} {m : Nat} (P : mP h m) : pm_R h m 29 = some (m + 19) ∧ pm_kd h (m + 19) = 34 ∧ pm_ln h (m + 19) = 64 := ⟨P.1 29 (by decide), (P.2 19 (by decide) (by decide)).1, (P.2 19 (by decide) (by decide)).2⟩
theorem mP_30 {h : pm_H} {m : Nat} (P : mP h m) : pm_R h m 30 = some (m + 20) ∧ pm_kd h (m + 20) = 34 ∧ pm_ln h (m + 20) = 64 := ⟨P.1 30 (by decide), (P.2 20 (by decide) (by decide)).1, (P.2 20 (by decide) (by decide)).2⟩
theorem mP_31 {h : pm_H} {m : Nat} (P : mP h m) : pm_R h m 31 = some (m + 21) ∧ pm_kd h (m + 21) = 34 ∧ pm_ln h (m + 21) = 64 := ⟨P.1 31 (by decide), (P.2 21 (by decide) (by decide)).1, (P.2 21 (by decide) (by decide)).2⟩
theorem mP_32 {h : pm_H} {m : Nat} (P : mP h m) : pm_R h m 32 = some (m + 22) ∧ pm_kd h (m + 22) = 35 ∧ pm_ln h (m + 22) = 64 := ⟨P.1 32 (by decide), (P.2 22 (by decide) (by decide)).1, (P.2 22 (by decide) (by decide)).2⟩
theorem mP_35 {h : pm_H} {m : Nat} (P : mP h m) : pm_R h m 35 = some (m + 23) ∧ pm_kd h (m + 23) = 34 ∧ pm_ln h (m + 23) = 64 := ⟨P.1 35 (by decide), (P.2 23 (by decide) (by decide)).1, (P.2 23 (by decide) (by decide)).2⟩
theorem mP_36 {h : pm_H} {m : Nat} (P : mP h m) : pm_R h m 36 = some (m + 24) ∧ pm_kd h (m + 24) = 35 ∧ pm_ln h (m + 24) = 64 := ⟨P.1 36 (by decide), (P.2 24 (by decide) (by decide)).1, (P.2 24 (by decide) (by decide)).2⟩
theorem mP_37 {h : pm_H} {m : Nat} (P : mP h m) : pm_R h m 37 = some (m + 25) ∧ pm_kd h (m + 25) = 34 ∧ pm_ln h (m + 25) = 64 := ⟨P.1 37 (by decide), (P.2 25 (by decide) (by decide)).1, (P.2 25 (by decide) (by decide)).2⟩
theorem mP_38 {h : pm_H} {m : Nat} (P : mP h m) : pm_R h m 38 = some (m + 26) ∧ pm_kd h (m + 26) = 34 ∧ pm_ln h (m + 26) = 64 := ⟨P.1 38 (by decide), (P.2 26 (by decide) (by decide)).1, (P.2 26 (by decide) (by decide)).2⟩
theorem mP_39 {h : pm_H} {m : Nat} (P : mP h m) : pm_R h m 39 = some (m + 27) ∧ pm_kd h (m + 27) = 32 ∧ pm_ln h (m + 27) = 64 := ⟨P.1 39 (by decide), (P.2 27 (by decide) (by decide)).1, (P.2 27 (by decide) (by decide)).2⟩
theorem mP_40 {h : pm_H} {m : Nat} (P : mP h m) : pm_R h m 40 = some (m + 28) ∧ pm_kd h (m + 28) = 34 ∧ pm_ln h (m + 28) = 64 := ⟨P.1 40 (by decide), (P.2 28 (by decide) (by decide)).1, (P.2 28 (by decide) (by decide)).2⟩
theorem mP_41 {h : pm_H} {m : Nat} (P : mP h m) : pm_R h m 41 = some (m + 29) ∧ pm_kd h (m + 29) = 34 ∧ pm_ln h (m + 29) = 64 := ⟨P.1 41 (by decide), (P.2 29 (by decide) (by decide)).1, (P.2 29 (by decide) (by decide)).2⟩
theorem mP_45 {h : pm_H} {m : Nat} (P : mP h m) : pm_R h m 45 = some (m + 30) ∧ pm_kd h (m + 30) = 32 ∧ pm_ln h (m + 30) = 64 := ⟨P.1 45 (by decide), (P.2 30 (by decide) (by decide)).1, (P.2 30 (by decide) (by decide)).2⟩
theorem mP_46 {h : pm_H} {m : Nat} (P : mP h m) : pm_R h m 46 = some (m + 31) ∧ pm_kd h (m + 31) = 35 ∧ pm_ln h (m + 31) = 64 := ⟨P.1 46 (by decide), (P.2 31 (by decide) (by decide)).1, (P.2 31 (by decide) (by decide)).2⟩
theorem mP_47 {h : pm_H} {m : Nat} (P : mP h m) : pm_R h m 47 = some (m + 32) ∧ pm_kd h (m + 32) = 34 ∧ pm_ln h (m + 32) = 64 := ⟨P.1 47 (by decide), (P.2 32 (by decide) (by decide)).1, (P.2 32 (by decide) (by decide)).2⟩
theorem mP_48 {h : pm_H} {m : Nat} (P : mP h m) : pm_R h m 48 = some (m + 33) ∧ pm_kd h (m + 33) = 34 ∧ pm_ln h (m + 33) = 64 := ⟨P.1 48 (by decide), (P.2 33 (by decide) (by decide)).1, (P.2 33 (by decide) (by decide)).2⟩
theorem mP_49 {h : pm_H} {m : Nat} (P : mP h m) : pm_R h m 49 = some (m + 34) ∧ pm_kd h (m + 34) = 34 ∧ pm_ln h (m + 34) = 64 := ⟨P.1 49 (by decide), (P.2 34 (by decide) (by decide)).1, (P.2 34 (by decide) (by decide)).2⟩
theorem mP_51 {h : pm_H} {m : Nat} (P : mP h m) : pm_R h m 51 = some (m + 35) ∧ pm_kd h (m + 35) = 34 ∧ pm_ln h (m + 35) = 64 := ⟨P.1 51 (by decide), (P.2 35 (by decide) (by decide)).1, (P.2 35 (by decide) (by decide)).2⟩
theorem mP_52 {h : pm_H} {m : Nat} (P : mP h m) : pm_R h m 52 = some (m + 36) ∧ pm_kd h (m + 36) = 35 ∧ pm_ln h (m + 36) = 64 := ⟨P.1 52 (by decide), (P.2 36 (by decide) (by decide)).1, (P.2 36 (by decide) (by decide)).2⟩
theorem mP_53 {h : pm_H} {m : Nat} (P : mP h m) : pm_R h m 53 = some (m + 37) ∧ pm_kd h (m + 37) = 34 ∧ pm_ln h (m + 37) = 64 := ⟨P.1 53 (by decide), (P.2 37 (by decide) (by decide)).1, (P.2 37 (by decide) (by decide)).2⟩
theorem mP_54 {h : pm_H} {m : Nat} (P : mP h m) : pm_R h m 54 = some (m + 38) ∧ pm_kd h (m + 38) = 34 ∧ pm_ln h (m + 38) = 64 := ⟨P.1 54 (by decide), (P.2 38 (by decide) (by decide)).1, (P.2 38 (by decide) (by decide)).2⟩
theorem mP_55 {h : pm_H} {m : Nat} (P : mP h m) : pm_R h m 55 = some (m + 39) ∧ pm_kd h (m + 39) = 34 ∧ pm_ln h (m + 39) = 64 := ⟨P.1 55 (by decide), (P.2 39 (by decide) (by decide)).1, (P.2 39 (by decide) (by decide)).2⟩
/-- since h only this was written: 16, 17, 18 of the reference, nests, ends, elses, the plan m but for its sections -/
def yF (m eo el : Nat) (h h' : pm_H) : Prop := pm_sz h' = pm_sz h ∧ pm_kd h' = pm_kd h ∧ pm_ln h' = pm_ln h ∧ pm_R h' = pm_R h ∧ (∀ x y, x ≠ 592 → x ≠ 596 → x ≠ 597 → x ≠ eo → x ≠ el → x ≠ m → ¬ (m + 2 ≤ x ∧ x ≤ m + 39) → pm_I h' x y = pm_I h x y ∧ pm_L h' x y = pm_L h x y) ∧ (∀ y, y ≠ 16 → pm_I h' 592 y = pm_I h 592 y) ∧ ∀ y, y ≠ 17 → y ≠ 18 → pm_L h' 592 y = pm_L h 592 y
theorem yF_r (m eo el : Nat) (h : pm_H) : yF m eo el h h := ⟨rfl, rfl, rfl, rfl, fun _ _ _ _ _ _ _ _ _ => ⟨rfl, rfl⟩, fun _ _ => rfl, fun _ _ _ => rfl⟩
theorem yF_t {m eo el : Nat} {h1 h2 h3 : pm_H} (p : yF m eo el h1 h2) (q : yF m eo el h2 h3) : yF m eo el h1 h3 := ⟨q.1.trans p.1, q.2.1.trans p.2.1, q.2.2.1.trans p.2.2.1, q.2.2.2.1.trans p.2.2.2.1, fun x y a b c d e f g => ⟨(q.2.2.2.2.1 x y a b c d e f g).1.trans (p.2.2.2.2.1 x y a b c d e f g).1, (q.2.2.2.2.1 x y a b c d e f g).2.trans (p.2.2.2.2.1 x y a b c d e f g).2⟩, fun y a => (q.2.2.2.2.2.1 y a).trans (p.2.2.2.2.2.1 y a), fun y a b => (q.2.2.2.2.2.2 y a b).trans (p.2.2.2.2.2.2 y a b)⟩
theorem yF_I {m eo el : Nat} (h : pm_H) {a k : Nat} {v : Int32} (hm : 648 < m) (ha : (a = 592 ∧ k = 16) ∨ a = 596 ∨ a = 597 ∨ (648 < a ∧ (a = eo ∨ a = el)) ∨ a = m ∨ (m + 2 ≤ a ∧ a ≤ m + 39)) : yF m eo el h (pm_setI h a k v) := by
  refine ⟨rfl, rfl, rfl, rfl, fun x y h1 h2 h3 h4 h5 h6 h7 => ⟨?_, rfl⟩, fun y hy => ?_, fun y _ _ => rfl⟩
  · rw [ev_II, if_neg (by omega)]
  · rw [ev_II]
    by_cases z : 592 = a
    · rw [if_pos z, if_neg (by omega)]
    · rw [if_neg z]
theorem yF_L {m eo el : Nat} (h : pm_H) {a k : Nat} {v : Int64} (hm : 648 < m) (ha : (a = 592 ∧ (k = 17 ∨ k = 18)) ∨ a = m ∨ (m + 2 ≤ a ∧ a ≤ m + 39)) : yF m eo el h (pm_setL h a k v) := by
  refine ⟨rfl, rfl, rfl, rfl, fun x y h1 h2 h3 h4 h5 h6 h7 => ⟨rfl, ?_⟩, fun y hy => rfl, fun y h1 h2 => ?_⟩
  · rw [ev_LL, if_neg (by omega)]
  · rw [ev_LL]
    by_cases z : 592 = a
    · rw [if_pos z, if_neg (by omega)]
    · rw [if_neg z]
theorem yF_x {m eo el : Nat} {h h' : pm_H} (hm : 648 < m) (h1 : 648 < eo) (h2 : 648 < el) (F : xF m eo el h h') : yF m eo el h h' := by
  obtain ⟨f1, f2, f3, f4, f5, f6⟩ := F
  refine ⟨f1, f2, f3, f4, fun x y a b c d e f g => ⟨f6 x y b c d e (fun z => absurd z f), by rw [f5]⟩, fun y _ => f6 592 y (by decide) (by decide) (by omega) (by omega) (fun z => absurd z (by omega)), fun y _ _ => by rw [f5]⟩
/-- all that reading a section needs: the end e of the part, d: section 12 was there -/
def mC (h : pm_H) (n b m eo el e : Nat) (d : Bool) (B : Nat → Nat) : Prop := mS h n b m 595 B ∧ mX h n m eo el (m + 1) ∧ mP h m ∧ (m + 39 < b ∧ m + 39 < eo ∧ m + 39 < el) ∧ pm_I h 592 12 = Int32.ofNat e ∧ e ≤ n ∧ (Int32.ofNat 0 ≤ pm_I h (m + 1) 12) = (d = true)
theorem mC_F {h h' : pm_H} {n b m eo el e : Nat} {d : Bool} {B : Nat → Nat} (C : mC h n b m eo el e d B) (F : yF m eo el h h') : mC h' n b m eo el e d B := by
  obtain ⟨S, X, P, ⟨z1, z2, z3⟩, ie, he, hd⟩ := C
  have nb := mX_b S X
  have n5 := mS_nb S
  obtain ⟨x1, x2, x3, x4, x5, x6, x7, x8, x9, x10, x11, x12, x13, x14, x15, x16, x17, x18, x19, x20, x21, x22⟩ := X
  obtain ⟨k, rr, km, rb, kb, lb, n4, rs, hB, hb⟩ := S
  obtain ⟨f1, f2, f3, f4, f5, f6, f7⟩ := F
  refine ⟨⟨?_, ?_, ?_, ?_, ?_, ?_, n4, ?_, fun i hi => ?_, hb⟩, ⟨?_, ?_, ?_, ?_, ?_, ?_, ?_, ?_, ?_, ?_, ?_, ?_, ?_, ?_, ?_, x16, x17, x18, x19, x20, x21, x22⟩, ⟨fun y hy => ?_, fun j h1 h2 => ?_⟩, ⟨z1, z2, z3⟩, ?_, he, ?_⟩
  case refine_8 => rw [(f5 b i n5 nb.1 nb.2.1 nb.2.2.1 nb.2.2.2.1 (by omega) (by omega)).1]; exact hB i hi
  case refine_24 => rw [f4]; exact P.1 y hy
  case refine_25 => rw [f2, f3]; exact P.2 j h1 h2
  case refine_26 => rw [f6 12 (by decide)]; exact ie
  case refine_27 => rw [(f5 (m + 1) 12 (by omega) (by omega) (by omega) (by omega) (by omega) (by omega) (by omega)).1]; exact hd
  all_goals first
    | (rw [f2]; assumption)
    | (rw [f3]; assumption)
    | (rw [f4]; assumption)

