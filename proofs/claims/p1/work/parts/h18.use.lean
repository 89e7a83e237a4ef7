/-! THE ROOM at the start -/
def pu_s (h : pm_H) (x : Nat) : Nat := if pm_kd h x < 32 then pm_fN (pm_kd h x) else pm_ln h x
theorem pu_us (h : pm_H) : pm_us h = ((List.range (pm_sz h)).map (pu_s h)).sum := rfl
theorem pu_Z {h : pm_H} {x q n : Nat} (z : pe_Z h x q n) : pu_s h x = if q < 32 then pm_fN q else n := by unfold pu_s; rw [z.1, z.2.1]
theorem pu_k {h : pm_H} {x q : Nat} (k : pm_kd h x = q) (hq : q < 32) : pu_s h x = pm_fN q := by unfold pu_s; rw [k, if_pos hq]
theorem pu_r {h : pm_H} {x q n : Nat} (k : pm_kd h x = q) (l : pm_ln h x = n) (hq : ¬ q < 32) : pu_s h x = n := by unfold pu_s; rw [k, if_neg hq, l]
theorem pu_le {f b : Nat → Nat} : ∀ {l : List Nat}, (∀ x, x ∈ l → f x ≤ b x) → (l.map f).sum ≤ (l.map b).sum
  | [], _ => Nat.le_refl _
  | x :: l, h => by
    rw [List.map_cons, List.map_cons, List.sum_cons, List.sum_cons]
    exact Nat.add_le_add (h x (List.mem_cons_self ..)) (pu_le (fun y hy => h y (List.mem_cons_of_mem _ hy)))
theorem pu_bd {h : pm_H} {n : Nat} {b : Nat → Nat} (hn : pm_sz h = n) (hb : ∀ x, x < n → pu_s h x ≤ b x) : pm_us h ≤ ((List.range n).map b).sum := by
  rw [pu_us, hn]
  exact pu_le (fun x hx => hb x (List.mem_range.mp hx))
theorem pu_pre (f : Nat → Nat) (n m : Nat) (h : n ≤ m) : ((List.range n).map f).sum ≤ ((List.range m).map f).sum := by
  induction m with
  | zero => rw [Nat.le_zero.mp h]; exact Nat.le_refl _
  | succ m ih =>
    by_cases e : n = m + 1
    · rw [e]; exact Nat.le_refl _
    · have := ih (by omega)
      rw [List.range_succ, List.map_append, List.sum_append]
      omega
theorem pu_mono {h h' : pm_H} {a : Nat} (K : pe_K h h' a) : pm_us h ≤ pm_us h' := by
  rw [pu_us, pu_us]
  refine Nat.le_trans (pu_le (b := pu_s h') (fun x hx => Nat.le_of_eq ?_)) (pu_pre _ _ _ K.1)
  have hx := List.mem_range.mp hx
  unfold pu_s
  by_cases e : x = a
  · rw [e, K.2.1, K.2.2.1]
  · have q := K.2.2.2 x hx e
    rw [q.1, q.2.1]
def pb_L : List (Nat × Nat) := [(0, pm_fN 12), (1, 40960), (2, 16), (3, 128), (4, 16), (5, pm_fN 7), (6, 0), (7, 13), (8, 0), (9, 0), (10, 0), (11, 0), (12, 0), (13, 0), (14, 0), (15, 0), (16, 0), (17, 0), (18, 0), (19, pm_fN 9), (20, 20481), (21, 34), (22, pm_fN 1), (23, 0), (24, 1000), (25, 1400), (26, 1016), (27, 2000), (28, 16), (29, 128), (158, pm_fN 0), (159, 2), (160, 0), (161, 0), (162, 0), (163, 0), (164, 2), (182, pm_fN 10), (183, pm_fN 11), (184, 32), (185, 32), (186, 32), (187, 32), (220, pm_fN 6), (221, 16), (222, 16), (223, 128), (352, 256), (353, 256), (354, 256), (355, 512), (356, 512), (357, 512), (358, 512), (359, 512), (360, 16), (361, pm_fN 8), (362, pm_fN 4), (363, 0), (364, 0), (365, 0), (366, 0), (367, 0), (368, 0), (369, 0), (370, pm_fN 0), (371, 2), (372, 0), (373, 0), (374, 0), (375, 0), (376, pm_fN 5), (377, 16), (378, 4096), (379, 200), (380, pm_fN 0), (381, 2), (382, 0), (383, 0), (384, 0), (385, 0), (386, pm_fN 2), (387, 0), (388, 0), (389, 0), (390, 0), (391, 1001), (592, pm_fN 16), (593, 40980), (594, 16), (595, pm_fN 13), (596, 40962), (597, 40962), (598, 128), (599, 1001), (600, 200), (601, 200), (602, 200), (603, 200), (604, 16), (605, pm_fN 15), (606, pm_fN 15), (607, 512), (608, 512), (609, 512), (610, 512), (611, 512), (612, 512), (613, 512), (614, 32), (615, 32), (616, 32), (617, 32768), (618, 16), (619, 16), (620, 128), (621, 524288), (622, 256), (623, 256), (624, 256), (625, 16), (626, 2048), (627, 2048), (628, 2048), (629, 2048), (630, 1024), (631, 1024), (632, 1024), (633, 2048), (634, 64), (635, 64), (636, 16), (637, 16), (638, 200), (639, 200), (640, 200), (641, 200), (642, 200), (643, 200), (644, 4096), (645, 40000), (646, 40000), (647, 40000), (648, 40000)]
def pb (x : Nat) : Nat := if 392 ≤ x ∧ x < 592 then pm_fN 3 else if 224 ≤ x ∧ x < 352 then 0 else if 188 ≤ x ∧ x < 220 then 0 else if 165 ≤ x ∧ x < 182 then 3 else if 30 ≤ x ∧ x < 158 then 0 else (match pb_L.lookup x with | some v => v | none => 0)
def pb_X : List Nat := [0, 1, 2, 3, 4, 5, 6, 7, 8, 9, 10, 11, 12, 13, 14, 15, 16, 17, 18, 19, 20, 21, 22, 23, 24, 25, 26, 27, 28, 29, 158, 159, 160, 161, 162, 163, 164, 182, 183, 184, 185, 186, 187, 220, 221, 222, 223, 352, 353, 354, 355, 356, 357, 358, 359, 360, 361, 362, 363, 364, 365, 366, 367, 368, 369, 370, 371, 372, 373, 374, 375, 376, 377, 378, 379, 380, 381, 382, 383, 384, 385, 386, 387, 388, 389, 390, 391, 592, 593, 594, 595, 596, 597, 598, 599, 600, 601, 602, 603, 604, 605, 606, 607, 608, 609, 610, 611, 612, 613, 614, 615, 616, 617, 618, 619, 620, 621, 622, 623, 624, 625, 626, 627, 628, 629, 630, 631, 632, 633, 634, 635, 636, 637, 638, 639, 640, 641, 642, 643, 644, 645, 646, 647, 648]
theorem pb_all : ∀ x, x < 649 → x ∈ pb_X ∨ (30 ≤ x ∧ x < 158) ∨ (165 ≤ x ∧ x < 182) ∨ (188 ≤ x ∧ x < 220) ∨ (224 ≤ x ∧ x < 352) ∨ (392 ≤ x ∧ x < 592) := by decide +kernel
theorem pb_one {h : pm_H} (P : pj_X12 h 0 1) (Q : pj_X16 h 592 593) : ∀ x, x ∈ pb_X → pu_s h x ≤ pb x := by
  unfold pb_X
  refine List.forall_mem_cons.mpr ⟨Nat.le_of_eq (Eq.trans (show pu_s h 0 = _ from (pu_k P.1 (by decide))) (by decide +kernel)), ?_⟩
  refine List.forall_mem_cons.mpr ⟨Nat.le_of_eq (Eq.trans (show pu_s h 1 = _ from (pu_Z P.2.2.2.2.1)) (by decide +kernel)), ?_⟩
  refine List.forall_mem_cons.mpr ⟨Nat.le_of_eq (Eq.trans (show pu_s h 2 = _ from (pu_r P.2.2.2.2.2.1.1 P.2.2.2.2.2.1.2.1 (by decide))) (by decide +kernel)), ?_⟩
  refine List.forall_mem_cons.mpr ⟨Nat.le_of_eq (Eq.trans (show pu_s h 3 = _ from (pu_Z P.2.2.2.2.2.2.1)) (by decide +kernel)), ?_⟩
  refine List.forall_mem_cons.mpr ⟨Nat.le_of_eq (Eq.trans (show pu_s h 4 = _ from (pu_Z P.2.2.2.2.2.2.2.1)) (by decide +kernel)), ?_⟩
  refine List.forall_mem_cons.mpr ⟨Nat.le_of_eq (Eq.trans (show pu_s h 5 = _ from (pu_k P.2.2.2.2.2.2.2.2.2.1.1 (by decide))) (by decide +kernel)), ?_⟩
  refine List.forall_mem_cons.mpr ⟨Nat.le_of_eq (Eq.trans (show pu_s h 6 = _ from (pu_Z P.2.2.2.2.2.2.2.2.1)) (by decide +kernel)), ?_⟩
  refine List.forall_mem_cons.mpr ⟨Nat.le_of_eq (Eq.trans (show pu_s h 7 = _ from (pu_r P.2.2.2.2.2.2.2.2.2.1.2.2.2.2.1.1 P.2.2.2.2.2.2.2.2.2.1.2.2.2.2.1.2.1 (by decide))) (by decide +kernel)), ?_⟩
  refine List.forall_mem_cons.mpr ⟨Nat.le_of_eq (Eq.trans (show pu_s h 8 = _ from (pu_Z P.2.2.2.2.2.2.2.2.2.1.2.2.2.2.2.1)) (by decide +kernel)), ?_⟩
  refine List.forall_mem_cons.mpr ⟨Nat.le_of_eq (Eq.trans (show pu_s h 9 = _ from (pu_Z P.2.2.2.2.2.2.2.2.2.1.2.2.2.2.2.2.1)) (by decide +kernel)), ?_⟩
  refine List.forall_mem_cons.mpr ⟨Nat.le_of_eq (Eq.trans (show pu_s h 10 = _ from (pu_Z P.2.2.2.2.2.2.2.2.2.1.2.2.2.2.2.2.2.1)) (by decide +kernel)), ?_⟩
  refine List.forall_mem_cons.mpr ⟨Nat.le_of_eq (Eq.trans (show pu_s h 11 = _ from (pu_Z P.2.2.2.2.2.2.2.2.2.1.2.2.2.2.2.2.2.2.1)) (by decide +kernel)), ?_⟩
  refine List.forall_mem_cons.mpr ⟨Nat.le_of_eq (Eq.trans (show pu_s h 12 = _ from (pu_Z P.2.2.2.2.2.2.2.2.2.1.2.2.2.2.2.2.2.2.2.1)) (by decide +kernel)), ?_⟩
  refine List.forall_mem_cons.mpr ⟨Nat.le_of_eq (Eq.trans (show pu_s h 13 = _ from (pu_Z P.2.2.2.2.2.2.2.2.2.1.2.2.2.2.2.2.2.2.2.2.1)) (by decide +kernel)), ?_⟩
  refine List.forall_mem_cons.mpr ⟨Nat.le_of_eq (Eq.trans (show pu_s h 14 = _ from (pu_Z P.2.2.2.2.2.2.2.2.2.1.2.2.2.2.2.2.2.2.2.2.2.1)) (by decide +kernel)), ?_⟩
  refine List.forall_mem_cons.mpr ⟨Nat.le_of_eq (Eq.trans (show pu_s h 15 = _ from (pu_Z P.2.2.2.2.2.2.2.2.2.1.2.2.2.2.2.2.2.2.2.2.2.2.1)) (by decide +kernel)), ?_⟩
  refine List.forall_mem_cons.mpr ⟨Nat.le_of_eq (Eq.trans (show pu_s h 16 = _ from (pu_Z P.2.2.2.2.2.2.2.2.2.1.2.2.2.2.2.2.2.2.2.2.2.2.2.1)) (by decide +kernel)), ?_⟩
  refine List.forall_mem_cons.mpr ⟨Nat.le_of_eq (Eq.trans (show pu_s h 17 = _ from (pu_Z P.2.2.2.2.2.2.2.2.2.1.2.2.2.2.2.2.2.2.2.2.2.2.2.2.1)) (by decide +kernel)), ?_⟩
  refine List.forall_mem_cons.mpr ⟨Nat.le_of_eq (Eq.trans (show pu_s h 18 = _ from (pu_Z P.2.2.2.2.2.2.2.2.2.1.2.2.2.2.2.2.2.2.2.2.2.2.2.2.2)) (by decide +kernel)), ?_⟩
  refine List.forall_mem_cons.mpr ⟨Nat.le_of_eq (Eq.trans (show pu_s h 19 = _ from (pu_k P.2.2.2.2.2.2.2.2.2.2.1.1 (by decide))) (by decide +kernel)), ?_⟩
  refine List.forall_mem_cons.mpr ⟨Nat.le_of_eq (Eq.trans (show pu_s h 20 = _ from (pu_Z P.2.2.2.2.2.2.2.2.2.2.1.2.2.2.2.1)) (by decide +kernel)), ?_⟩
  refine List.forall_mem_cons.mpr ⟨Nat.le_of_eq (Eq.trans (show pu_s h 21 = _ from (pu_Z P.2.2.2.2.2.2.2.2.2.2.1.2.2.2.2.2)) (by decide +kernel)), ?_⟩
  refine List.forall_mem_cons.mpr ⟨Nat.le_of_eq (Eq.trans (show pu_s h 22 = _ from (pu_k P.2.2.2.2.2.2.2.2.2.2.2.1.1 (by decide))) (by decide +kernel)), ?_⟩
  refine List.forall_mem_cons.mpr ⟨Nat.le_of_eq (Eq.trans (show pu_s h 23 = _ from (pu_Z P.2.2.2.2.2.2.2.2.2.2.2.1.2.2.2.2.1.1)) (by decide +kernel)), ?_⟩
  refine List.forall_mem_cons.mpr ⟨Nat.le_of_eq (Eq.trans (show pu_s h 24 = _ from (pu_Z P.2.2.2.2.2.2.2.2.2.2.2.1.2.2.2.2.1.2.1)) (by decide +kernel)), ?_⟩
  refine List.forall_mem_cons.mpr ⟨Nat.le_of_eq (Eq.trans (show pu_s h 25 = _ from (pu_Z P.2.2.2.2.2.2.2.2.2.2.2.1.2.2.2.2.1.2.2.1)) (by decide +kernel)), ?_⟩
  refine List.forall_mem_cons.mpr ⟨Nat.le_of_eq (Eq.trans (show pu_s h 26 = _ from (pu_Z P.2.2.2.2.2.2.2.2.2.2.2.1.2.2.2.2.1.2.2.2.1)) (by decide +kernel)), ?_⟩
  refine List.forall_mem_cons.mpr ⟨Nat.le_of_eq (Eq.trans (show pu_s h 27 = _ from (pu_Z P.2.2.2.2.2.2.2.2.2.2.2.1.2.2.2.2.1.2.2.2.2.1)) (by decide +kernel)), ?_⟩
  refine List.forall_mem_cons.mpr ⟨Nat.le_of_eq (Eq.trans (show pu_s h 28 = _ from (pu_Z P.2.2.2.2.2.2.2.2.2.2.2.1.2.2.2.2.1.2.2.2.2.2)) (by decide +kernel)), ?_⟩
  refine List.forall_mem_cons.mpr ⟨Nat.le_of_eq (Eq.trans (show pu_s h 29 = _ from (pu_r P.2.2.2.2.2.2.2.2.2.2.2.1.2.2.2.2.2.1.1 P.2.2.2.2.2.2.2.2.2.2.2.1.2.2.2.2.2.1.2.1 (by decide))) (by decide +kernel)), ?_⟩
  refine List.forall_mem_cons.mpr ⟨Nat.le_of_eq (Eq.trans (show pu_s h 158 = _ from (pu_k P.2.2.2.2.2.2.2.2.2.2.2.1.2.2.2.2.2.2.2.1.1 (by decide))) (by decide +kernel)), ?_⟩
  refine List.forall_mem_cons.mpr ⟨Nat.le_of_eq (Eq.trans (show pu_s h 159 = _ from (pu_Z P.2.2.2.2.2.2.2.2.2.2.2.1.2.2.2.2.2.2.2.2.1.1)) (by decide +kernel)), ?_⟩
  refine List.forall_mem_cons.mpr ⟨Nat.le_of_eq (Eq.trans (show pu_s h 160 = _ from (pu_Z P.2.2.2.2.2.2.2.2.2.2.2.1.2.2.2.2.2.2.2.2.1.2.1)) (by decide +kernel)), ?_⟩
  refine List.forall_mem_cons.mpr ⟨Nat.le_of_eq (Eq.trans (show pu_s h 161 = _ from (pu_Z P.2.2.2.2.2.2.2.2.2.2.2.1.2.2.2.2.2.2.2.2.1.2.2.1)) (by decide +kernel)), ?_⟩
  refine List.forall_mem_cons.mpr ⟨Nat.le_of_eq (Eq.trans (show pu_s h 162 = _ from (pu_Z P.2.2.2.2.2.2.2.2.2.2.2.1.2.2.2.2.2.2.2.2.1.2.2.2.1)) (by decide +kernel)), ?_⟩
  refine List.forall_mem_cons.mpr ⟨Nat.le_of_eq (Eq.trans (show pu_s h 163 = _ from (pu_Z P.2.2.2.2.2.2.2.2.2.2.2.1.2.2.2.2.2.2.2.2.1.2.2.2.2.1)) (by decide +kernel)), ?_⟩
  refine List.forall_mem_cons.mpr ⟨Nat.le_of_eq (Eq.trans (show pu_s h 164 = _ from (pu_Z P.2.2.2.2.2.2.2.2.2.2.2.1.2.2.2.2.2.2.2.2.1.2.2.2.2.2)) (by decide +kernel)), ?_⟩
  refine List.forall_mem_cons.mpr ⟨Nat.le_of_eq (Eq.trans (show pu_s h 182 = _ from (pu_k P.2.2.2.2.2.2.2.2.2.2.2.2.1.1 (by decide))) (by decide +kernel)), ?_⟩
  refine List.forall_mem_cons.mpr ⟨Nat.le_of_eq (Eq.trans (show pu_s h 183 = _ from (pu_k P.2.2.2.2.2.2.2.2.2.2.2.2.1.2.2.2.2.1.1 (by decide))) (by decide +kernel)), ?_⟩
  refine List.forall_mem_cons.mpr ⟨Nat.le_of_eq (Eq.trans (show pu_s h 184 = _ from (pu_Z P.2.2.2.2.2.2.2.2.2.2.2.2.1.2.2.2.2.2.1.1)) (by decide +kernel)), ?_⟩
  refine List.forall_mem_cons.mpr ⟨Nat.le_of_eq (Eq.trans (show pu_s h 185 = _ from (pu_Z P.2.2.2.2.2.2.2.2.2.2.2.2.1.2.2.2.2.2.1.2.1)) (by decide +kernel)), ?_⟩
  refine List.forall_mem_cons.mpr ⟨Nat.le_of_eq (Eq.trans (show pu_s h 186 = _ from (pu_Z P.2.2.2.2.2.2.2.2.2.2.2.2.1.2.2.2.2.2.1.2.2.1)) (by decide +kernel)), ?_⟩
  refine List.forall_mem_cons.mpr ⟨Nat.le_of_eq (Eq.trans (show pu_s h 187 = _ from (pu_r P.2.2.2.2.2.2.2.2.2.2.2.2.1.2.2.2.2.2.1.2.2.2.1 P.2.2.2.2.2.2.2.2.2.2.2.2.1.2.2.2.2.2.1.2.2.2.2.1 (by decide))) (by decide +kernel)), ?_⟩
  refine List.forall_mem_cons.mpr ⟨Nat.le_of_eq (Eq.trans (show pu_s h 220 = _ from (pu_k P.2.2.2.2.2.2.2.2.2.2.2.2.1.2.2.2.2.2.2.1.1 (by decide))) (by decide +kernel)), ?_⟩
  refine List.forall_mem_cons.mpr ⟨Nat.le_of_eq (Eq.trans (show pu_s h 221 = _ from (pu_Z P.2.2.2.2.2.2.2.2.2.2.2.2.1.2.2.2.2.2.2.2.1.1)) (by decide +kernel)), ?_⟩
  refine List.forall_mem_cons.mpr ⟨Nat.le_of_eq (Eq.trans (show pu_s h 222 = _ from (pu_Z P.2.2.2.2.2.2.2.2.2.2.2.2.1.2.2.2.2.2.2.2.1.2.1)) (by decide +kernel)), ?_⟩
  refine List.forall_mem_cons.mpr ⟨Nat.le_of_eq (Eq.trans (show pu_s h 223 = _ from (pu_r P.2.2.2.2.2.2.2.2.2.2.2.2.1.2.2.2.2.2.2.2.1.2.2.1 P.2.2.2.2.2.2.2.2.2.2.2.2.1.2.2.2.2.2.2.2.1.2.2.2.1 (by decide))) (by decide +kernel)), ?_⟩
  refine List.forall_mem_cons.mpr ⟨Nat.le_of_eq (Eq.trans (show pu_s h 352 = _ from (pu_Z P.2.2.2.2.2.2.2.2.2.2.2.2.1.2.2.2.2.2.2.2.2.1.1)) (by decide +kernel)), ?_⟩
  refine List.forall_mem_cons.mpr ⟨Nat.le_of_eq (Eq.trans (show pu_s h 353 = _ from (pu_Z P.2.2.2.2.2.2.2.2.2.2.2.2.1.2.2.2.2.2.2.2.2.1.2.1)) (by decide +kernel)), ?_⟩
  refine List.forall_mem_cons.mpr ⟨Nat.le_of_eq (Eq.trans (show pu_s h 354 = _ from (pu_Z P.2.2.2.2.2.2.2.2.2.2.2.2.1.2.2.2.2.2.2.2.2.1.2.2.1)) (by decide +kernel)), ?_⟩
  refine List.forall_mem_cons.mpr ⟨Nat.le_of_eq (Eq.trans (show pu_s h 355 = _ from (pu_r P.2.2.2.2.2.2.2.2.2.2.2.2.1.2.2.2.2.2.2.2.2.2.1.1 P.2.2.2.2.2.2.2.2.2.2.2.2.1.2.2.2.2.2.2.2.2.2.1.2.1 (by decide))) (by decide +kernel)), ?_⟩
  refine List.forall_mem_cons.mpr ⟨Nat.le_of_eq (Eq.trans (show pu_s h 356 = _ from (pu_r P.2.2.2.2.2.2.2.2.2.2.2.2.1.2.2.2.2.2.2.2.2.2.2.1.1 P.2.2.2.2.2.2.2.2.2.2.2.2.1.2.2.2.2.2.2.2.2.2.2.1.2.1 (by decide))) (by decide +kernel)), ?_⟩
  refine List.forall_mem_cons.mpr ⟨Nat.le_of_eq (Eq.trans (show pu_s h 357 = _ from (pu_Z P.2.2.2.2.2.2.2.2.2.2.2.2.1.2.2.2.2.2.2.2.2.1.2.2.2.1)) (by decide +kernel)), ?_⟩
  refine List.forall_mem_cons.mpr ⟨Nat.le_of_eq (Eq.trans (show pu_s h 358 = _ from (pu_Z P.2.2.2.2.2.2.2.2.2.2.2.2.1.2.2.2.2.2.2.2.2.1.2.2.2.2.1)) (by decide +kernel)), ?_⟩
  refine List.forall_mem_cons.mpr ⟨Nat.le_of_eq (Eq.trans (show pu_s h 359 = _ from (pu_Z P.2.2.2.2.2.2.2.2.2.2.2.2.1.2.2.2.2.2.2.2.2.1.2.2.2.2.2.1)) (by decide +kernel)), ?_⟩
  refine List.forall_mem_cons.mpr ⟨Nat.le_of_eq (Eq.trans (show pu_s h 360 = _ from (pu_r P.2.2.2.2.2.2.2.2.2.2.2.2.1.2.2.2.2.2.2.2.2.2.2.2.1.1 P.2.2.2.2.2.2.2.2.2.2.2.2.1.2.2.2.2.2.2.2.2.2.2.2.1.2.1 (by decide))) (by decide +kernel)), ?_⟩
  refine List.forall_mem_cons.mpr ⟨Nat.le_of_eq (Eq.trans (show pu_s h 361 = _ from (pu_Z P.2.2.2.2.2.2.2.2.2.2.2.2.1.2.2.2.2.2.2.2.2.1.2.2.2.2.2.2)) (by decide +kernel)), ?_⟩
  refine List.forall_mem_cons.mpr ⟨Nat.le_of_eq (Eq.trans (show pu_s h 362 = _ from (pu_k P.2.2.2.2.2.2.2.2.2.2.2.2.1.2.2.2.2.2.2.2.2.2.2.2.2.1.1 (by decide))) (by decide +kernel)), ?_⟩
  refine List.forall_mem_cons.mpr ⟨Nat.le_of_eq (Eq.trans (show pu_s h 363 = _ from (pu_Z P.2.2.2.2.2.2.2.2.2.2.2.2.1.2.2.2.2.2.2.2.2.2.2.2.2.2.1.1)) (by decide +kernel)), ?_⟩
  refine List.forall_mem_cons.mpr ⟨Nat.le_of_eq (Eq.trans (show pu_s h 364 = _ from (pu_Z P.2.2.2.2.2.2.2.2.2.2.2.2.1.2.2.2.2.2.2.2.2.2.2.2.2.2.1.2.1)) (by decide +kernel)), ?_⟩
  refine List.forall_mem_cons.mpr ⟨Nat.le_of_eq (Eq.trans (show pu_s h 365 = _ from (pu_Z P.2.2.2.2.2.2.2.2.2.2.2.2.1.2.2.2.2.2.2.2.2.2.2.2.2.2.1.2.2.1)) (by decide +kernel)), ?_⟩
  refine List.forall_mem_cons.mpr ⟨Nat.le_of_eq (Eq.trans (show pu_s h 366 = _ from (pu_Z P.2.2.2.2.2.2.2.2.2.2.2.2.1.2.2.2.2.2.2.2.2.2.2.2.2.2.1.2.2.2.1)) (by decide +kernel)), ?_⟩
  refine List.forall_mem_cons.mpr ⟨Nat.le_of_eq (Eq.trans (show pu_s h 367 = _ from (pu_r P.2.2.2.2.2.2.2.2.2.2.2.2.1.2.2.2.2.2.2.2.2.2.2.2.2.2.1.2.2.2.2.1.1 P.2.2.2.2.2.2.2.2.2.2.2.2.1.2.2.2.2.2.2.2.2.2.2.2.2.2.1.2.2.2.2.1.2 (by decide))) (by decide +kernel)), ?_⟩
  refine List.forall_mem_cons.mpr ⟨Nat.le_of_eq (Eq.trans (show pu_s h 368 = _ from (pu_Z P.2.2.2.2.2.2.2.2.2.2.2.2.1.2.2.2.2.2.2.2.2.2.2.2.2.2.1.2.2.2.2.2.1)) (by decide +kernel)), ?_⟩
  refine List.forall_mem_cons.mpr ⟨Nat.le_of_eq (Eq.trans (show pu_s h 369 = _ from (pu_Z P.2.2.2.2.2.2.2.2.2.2.2.2.1.2.2.2.2.2.2.2.2.2.2.2.2.2.1.2.2.2.2.2.2)) (by decide +kernel)), ?_⟩
  refine List.forall_mem_cons.mpr ⟨Nat.le_of_eq (Eq.trans (show pu_s h 370 = _ from (pu_k P.2.2.2.2.2.2.2.2.2.2.2.2.1.2.2.2.2.2.2.2.2.2.2.2.2.2.2.1.1 (by decide))) (by decide +kernel)), ?_⟩
  refine List.forall_mem_cons.mpr ⟨Nat.le_of_eq (Eq.trans (show pu_s h 371 = _ from (pu_Z P.2.2.2.2.2.2.2.2.2.2.2.2.1.2.2.2.2.2.2.2.2.2.2.2.2.2.2.2.1)) (by decide +kernel)), ?_⟩
  refine List.forall_mem_cons.mpr ⟨Nat.le_of_eq (Eq.trans (show pu_s h 372 = _ from (pu_Z P.2.2.2.2.2.2.2.2.2.2.2.2.1.2.2.2.2.2.2.2.2.2.2.2.2.2.2.2.2.1)) (by decide +kernel)), ?_⟩
  refine List.forall_mem_cons.mpr ⟨Nat.le_of_eq (Eq.trans (show pu_s h 373 = _ from (pu_Z P.2.2.2.2.2.2.2.2.2.2.2.2.1.2.2.2.2.2.2.2.2.2.2.2.2.2.2.2.2.2.1)) (by decide +kernel)), ?_⟩
  refine List.forall_mem_cons.mpr ⟨Nat.le_of_eq (Eq.trans (show pu_s h 374 = _ from (pu_Z P.2.2.2.2.2.2.2.2.2.2.2.2.1.2.2.2.2.2.2.2.2.2.2.2.2.2.2.2.2.2.2.1)) (by decide +kernel)), ?_⟩
  refine List.forall_mem_cons.mpr ⟨Nat.le_of_eq (Eq.trans (show pu_s h 375 = _ from (pu_Z P.2.2.2.2.2.2.2.2.2.2.2.2.1.2.2.2.2.2.2.2.2.2.2.2.2.2.2.2.2.2.2.2)) (by decide +kernel)), ?_⟩
  refine List.forall_mem_cons.mpr ⟨Nat.le_of_eq (Eq.trans (show pu_s h 376 = _ from (pu_k P.2.2.2.2.2.2.2.2.2.2.2.2.2.1 (by decide))) (by decide +kernel)), ?_⟩
  refine List.forall_mem_cons.mpr ⟨Nat.le_of_eq (Eq.trans (show pu_s h 377 = _ from (pu_Z P.2.2.2.2.2.2.2.2.2.2.2.2.2.2.2.2.2.1.1)) (by decide +kernel)), ?_⟩
  refine List.forall_mem_cons.mpr ⟨Nat.le_of_eq (Eq.trans (show pu_s h 378 = _ from (pu_Z P.2.2.2.2.2.2.2.2.2.2.2.2.2.2.2.2.2.1.2)) (by decide +kernel)), ?_⟩
  refine List.forall_mem_cons.mpr ⟨Nat.le_of_eq (Eq.trans (show pu_s h 379 = _ from (pu_r P.2.2.2.2.2.2.2.2.2.2.2.2.2.2.2.2.2.2.1.1 P.2.2.2.2.2.2.2.2.2.2.2.2.2.2.2.2.2.2.1.2.1 (by decide))) (by decide +kernel)), ?_⟩
  refine List.forall_mem_cons.mpr ⟨Nat.le_of_eq (Eq.trans (show pu_s h 380 = _ from (pu_k P.2.2.2.2.2.2.2.2.2.2.2.2.2.2.2.2.2.2.2.1.1 (by decide))) (by decide +kernel)), ?_⟩
  refine List.forall_mem_cons.mpr ⟨Nat.le_of_eq (Eq.trans (show pu_s h 381 = _ from (pu_Z P.2.2.2.2.2.2.2.2.2.2.2.2.2.2.2.2.2.2.2.2.1.1)) (by decide +kernel)), ?_⟩
  refine List.forall_mem_cons.mpr ⟨Nat.le_of_eq (Eq.trans (show pu_s h 382 = _ from (pu_Z P.2.2.2.2.2.2.2.2.2.2.2.2.2.2.2.2.2.2.2.2.1.2.1)) (by decide +kernel)), ?_⟩
  refine List.forall_mem_cons.mpr ⟨Nat.le_of_eq (Eq.trans (show pu_s h 383 = _ from (pu_Z P.2.2.2.2.2.2.2.2.2.2.2.2.2.2.2.2.2.2.2.2.1.2.2.1)) (by decide +kernel)), ?_⟩
  refine List.forall_mem_cons.mpr ⟨Nat.le_of_eq (Eq.trans (show pu_s h 384 = _ from (pu_Z P.2.2.2.2.2.2.2.2.2.2.2.2.2.2.2.2.2.2.2.2.1.2.2.2.1)) (by decide +kernel)), ?_⟩
  refine List.forall_mem_cons.mpr ⟨Nat.le_of_eq (Eq.trans (show pu_s h 385 = _ from (pu_Z P.2.2.2.2.2.2.2.2.2.2.2.2.2.2.2.2.2.2.2.2.1.2.2.2.2)) (by decide +kernel)), ?_⟩
  refine List.forall_mem_cons.mpr ⟨Nat.le_of_eq (Eq.trans (show pu_s h 386 = _ from (pu_k P.2.2.2.2.2.2.2.2.2.2.2.2.2.2.2.2.2.2.2.2.2.1.1 (by decide))) (by decide +kernel)), ?_⟩
  refine List.forall_mem_cons.mpr ⟨Nat.le_of_eq (Eq.trans (show pu_s h 387 = _ from (pu_Z P.2.2.2.2.2.2.2.2.2.2.2.2.2.2.2.2.2.2.2.2.2.2.1.1)) (by decide +kernel)), ?_⟩
  refine List.forall_mem_cons.mpr ⟨Nat.le_of_eq (Eq.trans (show pu_s h 388 = _ from (pu_Z P.2.2.2.2.2.2.2.2.2.2.2.2.2.2.2.2.2.2.2.2.2.2.1.2.1)) (by decide +kernel)), ?_⟩
  refine List.forall_mem_cons.mpr ⟨Nat.le_of_eq (Eq.trans (show pu_s h 389 = _ from (pu_Z P.2.2.2.2.2.2.2.2.2.2.2.2.2.2.2.2.2.2.2.2.2.2.1.2.2.1)) (by decide +kernel)), ?_⟩
  refine List.forall_mem_cons.mpr ⟨Nat.le_of_eq (Eq.trans (show pu_s h 390 = _ from (pu_Z P.2.2.2.2.2.2.2.2.2.2.2.2.2.2.2.2.2.2.2.2.2.2.1.2.2.2.1)) (by decide +kernel)), ?_⟩
  refine List.forall_mem_cons.mpr ⟨Nat.le_of_eq (Eq.trans (show pu_s h 391 = _ from (pu_Z P.2.2.2.2.2.2.2.2.2.2.2.2.2.2.2.2.2.2.2.2.2.2.1.2.2.2.2)) (by decide +kernel)), ?_⟩
  refine List.forall_mem_cons.mpr ⟨Nat.le_of_eq (Eq.trans (show pu_s h 592 = _ from (pu_k Q.1 (by decide))) (by decide +kernel)), ?_⟩
  refine List.forall_mem_cons.mpr ⟨Nat.le_of_eq (Eq.trans (show pu_s h 593 = _ from (pu_Z Q.2.2.2.2.2.2.1)) (by decide +kernel)), ?_⟩
  refine List.forall_mem_cons.mpr ⟨Nat.le_of_eq (Eq.trans (show pu_s h 594 = _ from (pu_Z Q.2.2.2.2.2.2.2.1)) (by decide +kernel)), ?_⟩
  refine List.forall_mem_cons.mpr ⟨Nat.le_of_eq (Eq.trans (show pu_s h 595 = _ from (pu_k Q.2.2.2.2.2.1 (by decide))) (by decide +kernel)), ?_⟩
  refine List.forall_mem_cons.mpr ⟨Nat.le_of_eq (Eq.trans (show pu_s h 596 = _ from (pu_Z Q.2.2.2.2.2.2.2.2.1)) (by decide +kernel)), ?_⟩
  refine List.forall_mem_cons.mpr ⟨Nat.le_of_eq (Eq.trans (show pu_s h 597 = _ from (pu_Z Q.2.2.2.2.2.2.2.2.2.1)) (by decide +kernel)), ?_⟩
  refine List.forall_mem_cons.mpr ⟨Nat.le_of_eq (Eq.trans (show pu_s h 598 = _ from (pu_Z Q.2.2.2.2.2.2.2.2.2.2.1)) (by decide +kernel)), ?_⟩
  refine List.forall_mem_cons.mpr ⟨Nat.le_of_eq (Eq.trans (show pu_s h 599 = _ from (pu_Z Q.2.2.2.2.2.2.2.2.2.2.2.1)) (by decide +kernel)), ?_⟩
  refine List.forall_mem_cons.mpr ⟨Nat.le_of_eq (Eq.trans (show pu_s h 600 = _ from (pu_Z Q.2.2.2.2.2.2.2.2.2.2.2.2.1)) (by decide +kernel)), ?_⟩
  refine List.forall_mem_cons.mpr ⟨Nat.le_of_eq (Eq.trans (show pu_s h 601 = _ from (pu_Z Q.2.2.2.2.2.2.2.2.2.2.2.2.2.1)) (by decide +kernel)), ?_⟩
  refine List.forall_mem_cons.mpr ⟨Nat.le_of_eq (Eq.trans (show pu_s h 602 = _ from (pu_Z Q.2.2.2.2.2.2.2.2.2.2.2.2.2.2.1)) (by decide +kernel)), ?_⟩
  refine List.forall_mem_cons.mpr ⟨Nat.le_of_eq (Eq.trans (show pu_s h 603 = _ from (pu_Z Q.2.2.2.2.2.2.2.2.2.2.2.2.2.2.2.1)) (by decide +kernel)), ?_⟩
  refine List.forall_mem_cons.mpr ⟨Nat.le_of_eq (Eq.trans (show pu_s h 604 = _ from (pu_Z Q.2.2.2.2.2.2.2.2.2.2.2.2.2.2.2.2.1)) (by decide +kernel)), ?_⟩
  refine List.forall_mem_cons.mpr ⟨Nat.le_of_eq (Eq.trans (show pu_s h 605 = _ from (pu_Z Q.2.2.2.2.2.2.2.2.2.2.2.2.2.2.2.2.2.1)) (by decide +kernel)), ?_⟩
  refine List.forall_mem_cons.mpr ⟨Nat.le_of_eq (Eq.trans (show pu_s h 606 = _ from (pu_Z Q.2.2.2.2.2.2.2.2.2.2.2.2.2.2.2.2.2.2.1)) (by decide +kernel)), ?_⟩
  refine List.forall_mem_cons.mpr ⟨Nat.le_of_eq (Eq.trans (show pu_s h 607 = _ from (pu_Z Q.2.2.2.2.2.2.2.2.2.2.2.2.2.2.2.2.2.2.2.1)) (by decide +kernel)), ?_⟩
  refine List.forall_mem_cons.mpr ⟨Nat.le_of_eq (Eq.trans (show pu_s h 608 = _ from (pu_Z Q.2.2.2.2.2.2.2.2.2.2.2.2.2.2.2.2.2.2.2.2.1)) (by decide +kernel)), ?_⟩
  refine List.forall_mem_cons.mpr ⟨Nat.le_of_eq (Eq.trans (show pu_s h 609 = _ from (pu_Z Q.2.2.2.2.2.2.2.2.2.2.2.2.2.2.2.2.2.2.2.2.2.1)) (by decide +kernel)), ?_⟩
  refine List.forall_mem_cons.mpr ⟨Nat.le_of_eq (Eq.trans (show pu_s h 610 = _ from (pu_Z Q.2.2.2.2.2.2.2.2.2.2.2.2.2.2.2.2.2.2.2.2.2.2.1)) (by decide +kernel)), ?_⟩
  refine List.forall_mem_cons.mpr ⟨Nat.le_of_eq (Eq.trans (show pu_s h 611 = _ from (pu_r Q.2.2.2.2.1.1 Q.2.2.2.2.1.2.1 (by decide))) (by decide +kernel)), ?_⟩
  refine List.forall_mem_cons.mpr ⟨Nat.le_of_eq (Eq.trans (show pu_s h 612 = _ from (pu_Z Q.2.2.2.2.2.2.2.2.2.2.2.2.2.2.2.2.2.2.2.2.2.2.2.1)) (by decide +kernel)), ?_⟩
  refine List.forall_mem_cons.mpr ⟨Nat.le_of_eq (Eq.trans (show pu_s h 613 = _ from (pu_Z Q.2.2.2.2.2.2.2.2.2.2.2.2.2.2.2.2.2.2.2.2.2.2.2.2.1)) (by decide +kernel)), ?_⟩
  refine List.forall_mem_cons.mpr ⟨Nat.le_of_eq (Eq.trans (show pu_s h 614 = _ from (pu_Z Q.2.2.2.2.2.2.2.2.2.2.2.2.2.2.2.2.2.2.2.2.2.2.2.2.2.1)) (by decide +kernel)), ?_⟩
  refine List.forall_mem_cons.mpr ⟨Nat.le_of_eq (Eq.trans (show pu_s h 615 = _ from (pu_Z Q.2.2.2.2.2.2.2.2.2.2.2.2.2.2.2.2.2.2.2.2.2.2.2.2.2.2.1)) (by decide +kernel)), ?_⟩
  refine List.forall_mem_cons.mpr ⟨Nat.le_of_eq (Eq.trans (show pu_s h 616 = _ from (pu_Z Q.2.2.2.2.2.2.2.2.2.2.2.2.2.2.2.2.2.2.2.2.2.2.2.2.2.2.2.1)) (by decide +kernel)), ?_⟩
  refine List.forall_mem_cons.mpr ⟨Nat.le_of_eq (Eq.trans (show pu_s h 617 = _ from (pu_Z Q.2.2.2.2.2.2.2.2.2.2.2.2.2.2.2.2.2.2.2.2.2.2.2.2.2.2.2.2.1)) (by decide +kernel)), ?_⟩
  refine List.forall_mem_cons.mpr ⟨Nat.le_of_eq (Eq.trans (show pu_s h 618 = _ from (pu_Z Q.2.2.2.2.2.2.2.2.2.2.2.2.2.2.2.2.2.2.2.2.2.2.2.2.2.2.2.2.2.1)) (by decide +kernel)), ?_⟩
  refine List.forall_mem_cons.mpr ⟨Nat.le_of_eq (Eq.trans (show pu_s h 619 = _ from (pu_Z Q.2.2.2.2.2.2.2.2.2.2.2.2.2.2.2.2.2.2.2.2.2.2.2.2.2.2.2.2.2.2.1)) (by decide +kernel)), ?_⟩
  refine List.forall_mem_cons.mpr ⟨Nat.le_of_eq (Eq.trans (show pu_s h 620 = _ from (pu_Z Q.2.2.2.2.2.2.2.2.2.2.2.2.2.2.2.2.2.2.2.2.2.2.2.2.2.2.2.2.2.2.2.1)) (by decide +kernel)), ?_⟩
  refine List.forall_mem_cons.mpr ⟨Nat.le_of_eq (Eq.trans (show pu_s h 621 = _ from (pu_Z Q.2.2.2.2.2.2.2.2.2.2.2.2.2.2.2.2.2.2.2.2.2.2.2.2.2.2.2.2.2.2.2.2.1)) (by decide +kernel)), ?_⟩
  refine List.forall_mem_cons.mpr ⟨Nat.le_of_eq (Eq.trans (show pu_s h 622 = _ from (pu_Z Q.2.2.2.2.2.2.2.2.2.2.2.2.2.2.2.2.2.2.2.2.2.2.2.2.2.2.2.2.2.2.2.2.2.1)) (by decide +kernel)), ?_⟩
  refine List.forall_mem_cons.mpr ⟨Nat.le_of_eq (Eq.trans (show pu_s h 623 = _ from (pu_Z Q.2.2.2.2.2.2.2.2.2.2.2.2.2.2.2.2.2.2.2.2.2.2.2.2.2.2.2.2.2.2.2.2.2.2.1)) (by decide +kernel)), ?_⟩
  refine List.forall_mem_cons.mpr ⟨Nat.le_of_eq (Eq.trans (show pu_s h 624 = _ from (pu_Z Q.2.2.2.2.2.2.2.2.2.2.2.2.2.2.2.2.2.2.2.2.2.2.2.2.2.2.2.2.2.2.2.2.2.2.2.1)) (by decide +kernel)), ?_⟩
  refine List.forall_mem_cons.mpr ⟨Nat.le_of_eq (Eq.trans (show pu_s h 625 = _ from (pu_Z Q.2.2.2.2.2.2.2.2.2.2.2.2.2.2.2.2.2.2.2.2.2.2.2.2.2.2.2.2.2.2.2.2.2.2.2.2.1)) (by decide +kernel)), ?_⟩
  refine List.forall_mem_cons.mpr ⟨Nat.le_of_eq (Eq.trans (show pu_s h 626 = _ from (pu_Z Q.2.2.2.2.2.2.2.2.2.2.2.2.2.2.2.2.2.2.2.2.2.2.2.2.2.2.2.2.2.2.2.2.2.2.2.2.2.1)) (by decide +kernel)), ?_⟩
  refine List.forall_mem_cons.mpr ⟨Nat.le_of_eq (Eq.trans (show pu_s h 627 = _ from (pu_Z Q.2.2.2.2.2.2.2.2.2.2.2.2.2.2.2.2.2.2.2.2.2.2.2.2.2.2.2.2.2.2.2.2.2.2.2.2.2.2.1)) (by decide +kernel)), ?_⟩
  refine List.forall_mem_cons.mpr ⟨Nat.le_of_eq (Eq.trans (show pu_s h 628 = _ from (pu_Z Q.2.2.2.2.2.2.2.2.2.2.2.2.2.2.2.2.2.2.2.2.2.2.2.2.2.2.2.2.2.2.2.2.2.2.2.2.2.2.2.1)) (by decide +kernel)), ?_⟩
  refine List.forall_mem_cons.mpr ⟨Nat.le_of_eq (Eq.trans (show pu_s h 629 = _ from (pu_Z Q.2.2.2.2.2.2.2.2.2.2.2.2.2.2.2.2.2.2.2.2.2.2.2.2.2.2.2.2.2.2.2.2.2.2.2.2.2.2.2.2.1)) (by decide +kernel)), ?_⟩
  refine List.forall_mem_cons.mpr ⟨Nat.le_of_eq (Eq.trans (show pu_s h 630 = _ from (pu_Z Q.2.2.2.2.2.2.2.2.2.2.2.2.2.2.2.2.2.2.2.2.2.2.2.2.2.2.2.2.2.2.2.2.2.2.2.2.2.2.2.2.2.1)) (by decide +kernel)), ?_⟩
  refine List.forall_mem_cons.mpr ⟨Nat.le_of_eq (Eq.trans (show pu_s h 631 = _ from (pu_Z Q.2.2.2.2.2.2.2.2.2.2.2.2.2.2.2.2.2.2.2.2.2.2.2.2.2.2.2.2.2.2.2.2.2.2.2.2.2.2.2.2.2.2.1)) (by decide +kernel)), ?_⟩
  refine List.forall_mem_cons.mpr ⟨Nat.le_of_eq (Eq.trans (show pu_s h 632 = _ from (pu_Z Q.2.2.2.2.2.2.2.2.2.2.2.2.2.2.2.2.2.2.2.2.2.2.2.2.2.2.2.2.2.2.2.2.2.2.2.2.2.2.2.2.2.2.2.1)) (by decide +kernel)), ?_⟩
  refine List.forall_mem_cons.mpr ⟨Nat.le_of_eq (Eq.trans (show pu_s h 633 = _ from (pu_Z Q.2.2.2.2.2.2.2.2.2.2.2.2.2.2.2.2.2.2.2.2.2.2.2.2.2.2.2.2.2.2.2.2.2.2.2.2.2.2.2.2.2.2.2.2.1)) (by decide +kernel)), ?_⟩
  refine List.forall_mem_cons.mpr ⟨Nat.le_of_eq (Eq.trans (show pu_s h 634 = _ from (pu_Z Q.2.2.2.2.2.2.2.2.2.2.2.2.2.2.2.2.2.2.2.2.2.2.2.2.2.2.2.2.2.2.2.2.2.2.2.2.2.2.2.2.2.2.2.2.2.1)) (by decide +kernel)), ?_⟩
  refine List.forall_mem_cons.mpr ⟨Nat.le_of_eq (Eq.trans (show pu_s h 635 = _ from (pu_Z Q.2.2.2.2.2.2.2.2.2.2.2.2.2.2.2.2.2.2.2.2.2.2.2.2.2.2.2.2.2.2.2.2.2.2.2.2.2.2.2.2.2.2.2.2.2.2.1)) (by decide +kernel)), ?_⟩
  refine List.forall_mem_cons.mpr ⟨Nat.le_of_eq (Eq.trans (show pu_s h 636 = _ from (pu_Z Q.2.2.2.2.2.2.2.2.2.2.2.2.2.2.2.2.2.2.2.2.2.2.2.2.2.2.2.2.2.2.2.2.2.2.2.2.2.2.2.2.2.2.2.2.2.2.2.1)) (by decide +kernel)), ?_⟩
  refine List.forall_mem_cons.mpr ⟨Nat.le_of_eq (Eq.trans (show pu_s h 637 = _ from (pu_Z Q.2.2.2.2.2.2.2.2.2.2.2.2.2.2.2.2.2.2.2.2.2.2.2.2.2.2.2.2.2.2.2.2.2.2.2.2.2.2.2.2.2.2.2.2.2.2.2.2.1)) (by decide +kernel)), ?_⟩
  refine List.forall_mem_cons.mpr ⟨Nat.le_of_eq (Eq.trans (show pu_s h 638 = _ from (pu_Z Q.2.2.2.2.2.2.2.2.2.2.2.2.2.2.2.2.2.2.2.2.2.2.2.2.2.2.2.2.2.2.2.2.2.2.2.2.2.2.2.2.2.2.2.2.2.2.2.2.2.1)) (by decide +kernel)), ?_⟩
  refine List.forall_mem_cons.mpr ⟨Nat.le_of_eq (Eq.trans (show pu_s h 639 = _ from (pu_Z Q.2.2.2.2.2.2.2.2.2.2.2.2.2.2.2.2.2.2.2.2.2.2.2.2.2.2.2.2.2.2.2.2.2.2.2.2.2.2.2.2.2.2.2.2.2.2.2.2.2.2.1)) (by decide +kernel)), ?_⟩
  refine List.forall_mem_cons.mpr ⟨Nat.le_of_eq (Eq.trans (show pu_s h 640 = _ from (pu_Z Q.2.2.2.2.2.2.2.2.2.2.2.2.2.2.2.2.2.2.2.2.2.2.2.2.2.2.2.2.2.2.2.2.2.2.2.2.2.2.2.2.2.2.2.2.2.2.2.2.2.2.2.1)) (by decide +kernel)), ?_⟩
  refine List.forall_mem_cons.mpr ⟨Nat.le_of_eq (Eq.trans (show pu_s h 641 = _ from (pu_Z Q.2.2.2.2.2.2.2.2.2.2.2.2.2.2.2.2.2.2.2.2.2.2.2.2.2.2.2.2.2.2.2.2.2.2.2.2.2.2.2.2.2.2.2.2.2.2.2.2.2.2.2.2.1)) (by decide +kernel)), ?_⟩
  refine List.forall_mem_cons.mpr ⟨Nat.le_of_eq (Eq.trans (show pu_s h 642 = _ from (pu_Z Q.2.2.2.2.2.2.2.2.2.2.2.2.2.2.2.2.2.2.2.2.2.2.2.2.2.2.2.2.2.2.2.2.2.2.2.2.2.2.2.2.2.2.2.2.2.2.2.2.2.2.2.2.2.1)) (by decide +kernel)), ?_⟩
  refine List.forall_mem_cons.mpr ⟨Nat.le_of_eq (Eq.trans (show pu_s h 643 = _ from (pu_Z Q.2.2.2.2.2.2.2.2.2.2.2.2.2.2.2.2.2.2.2.2.2.2.2.2.2.2.2.2.2.2.2.2.2.2.2.2.2.2.2.2.2.2.2.2.2.2.2.2.2.2.2.2.2.2.1)) (by decide +kernel)), ?_⟩
  refine List.forall_mem_cons.mpr ⟨Nat.le_of_eq (Eq.trans (show pu_s h 644 = _ from (pu_Z Q.2.2.2.2.2.2.2.2.2.2.2.2.2.2.2.2.2.2.2.2.2.2.2.2.2.2.2.2.2.2.2.2.2.2.2.2.2.2.2.2.2.2.2.2.2.2.2.2.2.2.2.2.2.2.2.1)) (by decide +kernel)), ?_⟩
  refine List.forall_mem_cons.mpr ⟨Nat.le_of_eq (Eq.trans (show pu_s h 645 = _ from (pu_Z Q.2.2.2.2.2.2.2.2.2.2.2.2.2.2.2.2.2.2.2.2.2.2.2.2.2.2.2.2.2.2.2.2.2.2.2.2.2.2.2.2.2.2.2.2.2.2.2.2.2.2.2.2.2.2.2.2.1)) (by decide +kernel)), ?_⟩
  refine List.forall_mem_cons.mpr ⟨Nat.le_of_eq (Eq.trans (show pu_s h 646 = _ from (pu_Z Q.2.2.2.2.2.2.2.2.2.2.2.2.2.2.2.2.2.2.2.2.2.2.2.2.2.2.2.2.2.2.2.2.2.2.2.2.2.2.2.2.2.2.2.2.2.2.2.2.2.2.2.2.2.2.2.2.2.1)) (by decide +kernel)), ?_⟩
  refine List.forall_mem_cons.mpr ⟨Nat.le_of_eq (Eq.trans (show pu_s h 647 = _ from (pu_Z Q.2.2.2.2.2.2.2.2.2.2.2.2.2.2.2.2.2.2.2.2.2.2.2.2.2.2.2.2.2.2.2.2.2.2.2.2.2.2.2.2.2.2.2.2.2.2.2.2.2.2.2.2.2.2.2.2.2.2.1)) (by decide +kernel)), ?_⟩
  refine List.forall_mem_cons.mpr ⟨Nat.le_of_eq (Eq.trans (show pu_s h 648 = _ from (pu_Z Q.2.2.2.2.2.2.2.2.2.2.2.2.2.2.2.2.2.2.2.2.2.2.2.2.2.2.2.2.2.2.2.2.2.2.2.2.2.2.2.2.2.2.2.2.2.2.2.2.2.2.2.2.2.2.2.2.2.2.2)) (by decide +kernel)), ?_⟩
  exact fun _ hx => nomatch hx
theorem pb_us {h : pm_H} (P : pj_X12 h 0 1) (Q : pj_X16 h 592 593) (hs : pm_sz h = 649) : pm_us h ≤ ((List.range 649).map pb).sum := by
  refine pu_bd hs (fun x hx => ?_)
  rcases pb_all x hx with e | e | e | e | e | e
  · exact pb_one P Q x e
  · have ex : 30 + (x - 30) = x := by omega
    have t : pu_s h (30 + (x - 30)) = _ := pu_Z ((P.2.2.2.2.2.2.2.2.2.2.2.1.2.2.2.2.2.2.1 (x - 30) (by omega)))
    rw [ex] at t
    exact Nat.le_trans (Nat.le_of_eq (t.trans (by decide : _ = 0))) (Nat.zero_le _)
  · have ex : 165 + (x - 165) = x := by omega
    have t : pu_s h (165 + (x - 165)) = _ := pu_r (P.2.2.2.2.2.2.2.2.2.2.2.1.2.2.2.2.2.2.2.2.2 (x - 165) (by omega)).1 (P.2.2.2.2.2.2.2.2.2.2.2.1.2.2.2.2.2.2.2.2.2 (x - 165) (by omega)).2.1 (by decide)
    rw [ex] at t
    refine Nat.le_of_eq (t.trans ?_)
    unfold pb
    rw [if_neg (by omega), if_neg (by omega), if_neg (by omega), if_pos (by omega)]
  · have ex : 188 + (x - 188) = x := by omega
    have t : pu_s h (188 + (x - 188)) = _ := pu_Z ((P.2.2.2.2.2.2.2.2.2.2.2.2.1.2.2.2.2.2.1.2.2.2.2.2.2 (x - 188) (by omega)))
    rw [ex] at t
    exact Nat.le_trans (Nat.le_of_eq (t.trans (by decide : _ = 0))) (Nat.zero_le _)
  · have ex : 224 + (x - 224) = x := by omega
    have t : pu_s h (224 + (x - 224)) = _ := pu_Z ((P.2.2.2.2.2.2.2.2.2.2.2.2.1.2.2.2.2.2.2.2.1.2.2.2.2.2 (x - 224) (by omega)))
    rw [ex] at t
    exact Nat.le_trans (Nat.le_of_eq (t.trans (by decide : _ = 0))) (Nat.zero_le _)
  · have ex : 392 + (x - 392) = x := by omega
    have t : pu_s h (392 + (x - 392)) = _ := pu_k (P.2.2.2.2.2.2.2.2.2.2.2.2.2.2.2.2.2.2.2.2.2.2.2 (x - 392) (by omega)).1 (by decide)
    rw [ex] at t
    refine Nat.le_of_eq (t.trans ?_)
    unfold pb
    rw [if_pos (by omega)]
theorem pb_sum : ((List.range 649).map pb).sum ≤ 1100000 := by decide +kernel
