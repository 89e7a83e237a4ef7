/-! THE CLASS CHECKS: an instruction -/
theorem aA_e (h : pm_H) : aA h (pm_I h 19 1) = h := by
  unfold aA
  refine (congrArg (fun z => (pm_sz h, pm_kd h, pm_ln h, z, pm_L h, pm_R h)) (funext fun x => funext fun y => ?_) : _ = (pm_sz h, pm_kd h, pm_ln h, pm_I h, pm_L h, pm_R h))
  show (if x = 19 then (if y = 1 then pm_I h 19 1 else pm_I h x y) else pm_I h x y) = pm_I h x y
  repeat' split
  all_goals first | rfl | (subst_vars; rfl)
section XINS
variable {h0 r r' : pm_H} {n b mm lo hi bo co dd cap : Nat} {B : Nat → Nat} {M : tMd} {Ts : List Int64} {o : sp_O tK} {p p2 w s f x y z i j k lc ty : Nat} {v : sp_I} {hb : Int32} {K : tK} {t : Int64} {D : Bool} {Dc : Nat → Bool} {lt : Nat → Option Nat}
theorem oth_cho {op : Nat} (k1 : pm_kd r 22 = 1) (h : op ≤ 28) (e : fX1_choice r 22 (Int32.ofNat op) = some r') : fX1_other r 22 (Int32.ofNat op) = some r' := by
  unfold fX1_other
  exact e9_f (by rw [show (28 : Int32) = Int32.ofNat 28 from rfl, nn_lt (by decide) (by omega)]; omega) (e9_t k1 (e9_b e rfl))
theorem oth_var {op : Nat} (k1 : pm_kd r 22 = 1) (h : 28 < op ∧ op ≤ 36) (e : fX1_variable r 22 (Int32.ofNat op) = some r') : fX1_other r 22 (Int32.ofNat op) = some r' := by
  unfold fX1_other
  exact e9_t (by rw [show (28 : Int32) = Int32.ofNat 28 from rfl, nn_lt (by decide) (by omega)]; omega) (e9_f (by rw [show (36 : Int32) = Int32.ofNat 36 from rfl, nn_lt (by decide) (by omega)]; omega) (e9_t k1 (e9_b e rfl)))
theorem oth_mem {op : Nat} (k1 : pm_kd r 22 = 1) (h : 40 ≤ op ∧ op ≤ 64) (e : fX1_memoryAccess r 22 (Int32.ofNat op) = some r') : fX1_other r 22 (Int32.ofNat op) = some r' := by
  unfold fX1_other
  exact e9_t (by rw [show (28 : Int32) = Int32.ofNat 28 from rfl, nn_lt (by decide) (by omega)]; omega) (e9_t (by rw [show (36 : Int32) = Int32.ofNat 36 from rfl, nn_lt (by decide) (by omega)]; omega) (e9_f (by rw [show (40 : Int32) = Int32.ofNat 40 from rfl, nn_lt (by omega) (by decide)]; omega) (e9_f (by rw [show (64 : Int32) = Int32.ofNat 64 from rfl, nn_lt (by decide) (by omega)]; omega) (e9_t k1 (e9_b e rfl)))))
theorem oth_48 {op : Nat} (h : op < 2147483648) (h2 : (36 < op ∧ op < 40) ∨ 64 < op) (e : fX1_other_b48 r 22 (Int32.ofNat op) = some r') : fX1_other r 22 (Int32.ofNat op) = some r' := by
  unfold fX1_other
  refine e9_t (by rw [show (28 : Int32) = Int32.ofNat 28 from rfl, nn_lt (by decide) (by omega)]; omega) (e9_t (by rw [show (36 : Int32) = Int32.ofNat 36 from rfl, nn_lt (by decide) (by omega)]; omega) ?_)
  by_cases c : op < 40
  · exact e9_t (by rw [show (40 : Int32) = Int32.ofNat 40 from rfl, nn_lt (by omega) (by decide)]; exact c) e
  · exact e9_f (by rw [show (40 : Int32) = Int32.ofNat 40 from rfl, nn_lt (by omega) (by decide)]; exact c) (e9_t (by rw [show (64 : Int32) = Int32.ofNat 64 from rfl, nn_lt (by decide) (by omega)]; omega) e)
theorem oth_opr {op : Nat} (k1 : pm_kd r 22 = 1) (h : 69 ≤ op ∧ op < 208) (e : fX1_operator r 22 (Int32.ofNat op) = some r') : fX1_other r 22 (Int32.ofNat op) = some r' := by
  refine oth_48 (by omega) (.inr (by omega)) ?_
  unfold fX1_other_b48
  exact e9_f (by rw [show (69 : Int32) = Int32.ofNat 69 from rfl, nn_lt (by omega) (by decide)]; omega) (e9_f (by rw [show (208 : Int32) = Int32.ofNat 208 from rfl, nn_le (by decide) (by omega)]; omega) (e9_t k1 (e9_b e rfl)))
theorem oth_69 {op : Nat} (h : op < 2147483648) (h2 : (36 < op ∧ op < 40) ∨ (64 < op ∧ op < 69) ∨ 208 ≤ op) (e : fX1_other_b69 r 22 (Int32.ofNat op) = some r') : fX1_other r 22 (Int32.ofNat op) = some r' := by
  refine oth_48 h (by omega) ?_
  unfold fX1_other_b48
  by_cases c : op < 69
  · exact e9_t (by rw [show (69 : Int32) = Int32.ofNat 69 from rfl, nn_lt (by omega) (by decide)]; exact c) e
  · exact e9_f (by rw [show (69 : Int32) = Int32.ofNat 69 from rfl, nn_lt (by omega) (by decide)]; exact c) (e9_t (by rw [show (208 : Int32) = Int32.ofNat 208 from rfl, nn_le (by decide) (by omega)]; omega) e)
theorem oth_102 {op : Nat} (h : op < 2147483648) (h2 : (36 < op ∧ op < 40) ∨ 208 ≤ op) (e : fX1_other_b102 r 22 (Int32.ofNat op) = some r') : fX1_other r 22 (Int32.ofNat op) = some r' := by
  refine oth_69 h (by omega) ?_
  unfold fX1_other_b69
  by_cases c : op < 65
  · exact e9_t (by rw [show (65 : Int32) = Int32.ofNat 65 from rfl, nn_lt (by omega) (by decide)]; exact c) e
  · exact e9_f (by rw [show (65 : Int32) = Int32.ofNat 65 from rfl, nn_lt (by omega) (by decide)]; exact c) (e9_t (by rw [show (68 : Int32) = Int32.ofNat 68 from rfl, nn_lt (by decide) (by omega)]; omega) e)
theorem oth_ref {op : Nat} (k1 : pm_kd r 22 = 1) (h : 208 ≤ op ∧ op ≤ 210) (e : fX1_reference r 22 (Int32.ofNat op) = some r') : fX1_other r 22 (Int32.ofNat op) = some r' := by
  refine oth_102 (by omega) (by omega) ?_
  unfold fX1_other_b102
  exact e9_f (by rw [show (208 : Int32) = Int32.ofNat 208 from rfl, nn_lt (by omega) (by decide)]; omega) (e9_f (by rw [show (210 : Int32) = Int32.ofNat 210 from rfl, nn_lt (by decide) (by omega)]; omega) (e9_t k1 (e9_b e rfl)))
theorem oth_124 {op : Nat} (h : op < 2147483648) (h2 : (36 < op ∧ op < 40) ∨ 210 < op) (e : fX1_other_b124 r 22 (Int32.ofNat op) = some r') : fX1_other r 22 (Int32.ofNat op) = some r' := by
  refine oth_102 h (by omega) ?_
  unfold fX1_other_b102
  by_cases c : op < 208
  · exact e9_t (by rw [show (208 : Int32) = Int32.ofNat 208 from rfl, nn_lt (by omega) (by decide)]; exact c) e
  · exact e9_f (by rw [show (208 : Int32) = Int32.ofNat 208 from rfl, nn_lt (by omega) (by decide)]; exact c) (e9_t (by rw [show (210 : Int32) = Int32.ofNat 210 from rfl, nn_lt (by decide) (by omega)]; omega) e)
theorem oth_tba {op : Nat} (k1 : pm_kd r 22 = 1) (h : op = 37 ∨ op = 38 ∨ (312 ≤ op ∧ op ≤ 317)) (e : fX1_tableAccess r 22 (Int32.ofNat op) = some r') : fX1_other r 22 (Int32.ofNat op) = some r' := by
  refine oth_124 (by omega) (by omega) ?_
  unfold fX1_other_b124
  by_cases c37 : op = 37
  · exact e9_t (by rw [c37]; rfl) (e9_t k1 (e9_b e rfl))
  · refine e9_f (by rw [show (37 : Int32) = Int32.ofNat 37 from rfl, nn_eq (by omega) (by decide)]; exact c37) ?_
    by_cases c38 : op = 38
    · exact e9_t (by rw [c38]; rfl) (e9_t k1 (e9_b e rfl))
    · exact e9_f (by rw [show (38 : Int32) = Int32.ofNat 38 from rfl, nn_eq (by omega) (by decide)]; exact c38) (e9_f (by rw [show (312 : Int32) = Int32.ofNat 312 from rfl, nn_lt (by omega) (by decide)]; omega) (e9_t k1 (e9_b e rfl)))
theorem oth_str {op : Nat} (k1 : pm_kd r 22 = 1) (h : 308 ≤ op ∧ op ≤ 311) (e : fX1_stretch r 22 (Int32.ofNat op) = some r') : fX1_other r 22 (Int32.ofNat op) = some r' := by
  refine oth_124 (by omega) (by omega) ?_
  unfold fX1_other_b124
  exact e9_f (by rw [show (37 : Int32) = Int32.ofNat 37 from rfl, nn_eq (by omega) (by decide)]; omega) (e9_f (by rw [show (38 : Int32) = Int32.ofNat 38 from rfl, nn_eq (by omega) (by decide)]; omega) (e9_t (by rw [show (312 : Int32) = Int32.ofNat 312 from rfl, nn_lt (by omega) (by decide)]; omega) (e9_t k1 (e9_b e rfl))))
theorem oth_con {op : Nat} {X : Int64} (k1 : pm_kd r 22 = 1) (k3 : pm_R r 22 3 = some 19) (k9 : pm_kd r 19 = 9) (h : 65 ≤ op ∧ op ≤ 68) (hX : pm_L r 19 8 = X) (e : fX1_constantIn r 22 (Int32.ofNat (192 - op)) X = some r') : fX1_other r 22 (Int32.ofNat op) = some r' := by
  refine oth_69 (by omega) (by omega) ?_
  unfold fX1_other_b69
  refine e9_f (by rw [show (65 : Int32) = Int32.ofNat 65 from rfl, nn_lt (by omega) (by decide)]; omega) (e9_f (by rw [show (68 : Int32) = Int32.ofNat 68 from rfl, nn_lt (by decide) (by omega)]; omega) (e9_t k1 (e9_b k3 (e9_t k9 ?_))))
  rw [hX, show (127 : Int32) - (Int32.ofNat op - 65) = Int32.ofNat (192 - op) by rw [show (65 : Int32) = Int32.ofNat 65 from rfl, show (127 : Int32) = Int32.ofNat 127 from rfl, nn_sb (by omega), nn_sb (by omega)]; congr 1; omega]
  exact e9_b e rfl
theorem ctl_2 (k1 : pm_kd r 22 = 1) (e : fX1_beginBlock r 22 = some r') : fX1_control r 22 (Int32.ofNat 2) = some r' := by
  unfold fX1_control fX1_control_b0
  exact e9_f (by decide) (e9_f (by decide) (e9_t rfl (e9_t k1 (e9_b e rfl))))
theorem ctl_3 (k1 : pm_kd r 22 = 1) (e : fX1_beginBlock r 22 = some r') : fX1_control r 22 (Int32.ofNat 3) = some r' := by
  unfold fX1_control fX1_control_b0
  exact e9_f (by decide) (e9_f (by decide) (e9_f (by decide) (e9_t rfl (e9_t k1 (e9_b e rfl)))))
theorem ctl_4 (k1 : pm_kd r 22 = 1) (e : fX1_beginBlock r 22 = some r') : fX1_control r 22 (Int32.ofNat 4) = some r' := by
  unfold fX1_control fX1_control_b0
  exact e9_f (by decide) (e9_f (by decide) (e9_f (by decide) (e9_f (by decide) (e9_t rfl (e9_t k1 (e9_b e rfl))))))
theorem ctl_5 (k1 : pm_kd r 22 = 1) (e : fX1_otherwise r 22 = some r') : fX1_control r 22 (Int32.ofNat 5) = some r' := by
  unfold fX1_control fX1_control_b0
  exact e9_f (by decide) (e9_f (by decide) (e9_f (by decide) (e9_f (by decide) (e9_f (by decide) (e9_t rfl (e9_t k1 (e9_b e rfl)))))))
theorem ctl_11 (k1 : pm_kd r 22 = 1) (e : fX1_endBlock r 22 = some r') : fX1_control r 22 (Int32.ofNat 11) = some r' := by
  unfold fX1_control fX1_control_b0
  exact e9_f (by decide) (e9_f (by decide) (e9_f (by decide) (e9_f (by decide) (e9_f (by decide) (e9_f (by decide) (e9_f (by decide) (e9_f (by decide) (e9_f (by decide) (e9_f (by decide) (e9_f (by decide) (e9_t rfl (e9_t k1 (e9_b e rfl)))))))))))))
theorem ctl_14 (k1 : pm_kd r 22 = 1) (e : fX1_branchByTable r 22 = some r') : fX1_control r 22 (Int32.ofNat 14) = some r' := by
  unfold fX1_control fX1_control_b0
  exact e9_f (by decide) (e9_f (by decide) (e9_f (by decide) (e9_f (by decide) (e9_f (by decide) (e9_f (by decide) (e9_f (by decide) (e9_f (by decide) (e9_f (by decide) (e9_f (by decide) (e9_f (by decide) (e9_f (by decide) (e9_f (by decide) (e9_f (by decide) (e9_t rfl (e9_t k1 (e9_b e rfl))))))))))))))))
theorem ctl_16 (k1 : pm_kd r 22 = 1) (e : fX1_callDirectly r 22 = some r') : fX1_control r 22 (Int32.ofNat 16) = some r' := by
  unfold fX1_control fX1_control_b0
  exact e9_f (by decide) (e9_f (by decide) (e9_f (by decide) (e9_f (by decide) (e9_f (by decide) (e9_f (by decide) (e9_f (by decide) (e9_f (by decide) (e9_f (by decide) (e9_f (by decide) (e9_f (by decide) (e9_f (by decide) (e9_f (by decide) (e9_f (by decide) (e9_f (by decide) (e9_f (by decide) (e9_t rfl (e9_t k1 (e9_b e rfl))))))))))))))))))
theorem ctl_17 (k1 : pm_kd r 22 = 1) (e : fX1_callByTable r 22 = some r') : fX1_control r 22 (Int32.ofNat 17) = some r' := by
  unfold fX1_control fX1_control_b0
  exact e9_f (by decide) (e9_f (by decide) (e9_f (by decide) (e9_f (by decide) (e9_f (by decide) (e9_f (by decide) (e9_f (by decide) (e9_f (by decide) (e9_f (by decide) (e9_f (by decide) (e9_f (by decide) (e9_f (by decide) (e9_f (by decide) (e9_f (by decide) (e9_f (by decide) (e9_f (by decide) (e9_f (by decide) (e9_t k1 (e9_b e rfl))))))))))))))))))
theorem ctl_12 {X : Int64} (k1 : pm_kd r 22 = 1) (k3 : pm_R r 22 3 = some 19) (k9 : pm_kd r 19 = 9) (hX : pm_L r 19 8 = X) (e : fX1_branch r 22 X = some r') : fX1_control r 22 (Int32.ofNat 12) = some r' := by
  unfold fX1_control fX1_control_b0
  rw [← hX] at e
  exact e9_f (by decide) (e9_f (by decide) (e9_f (by decide) (e9_f (by decide) (e9_f (by decide) (e9_f (by decide) (e9_f (by decide) (e9_f (by decide) (e9_f (by decide) (e9_f (by decide) (e9_f (by decide) (e9_f (by decide) (e9_t rfl (e9_t k1 (e9_b k3 (e9_t k9 (e9_b e rfl))))))))))))))))
theorem ctl_13 {X : Int64} (k1 : pm_kd r 22 = 1) (k3 : pm_R r 22 3 = some 19) (k9 : pm_kd r 19 = 9) (hX : pm_L r 19 8 = X) (e : fX1_branch r 22 X = some r') : fX1_control r 22 (Int32.ofNat 13) = some r' := by
  unfold fX1_control fX1_control_b0
  rw [← hX] at e
  exact e9_f (by decide) (e9_f (by decide) (e9_f (by decide) (e9_f (by decide) (e9_f (by decide) (e9_f (by decide) (e9_f (by decide) (e9_f (by decide) (e9_f (by decide) (e9_f (by decide) (e9_f (by decide) (e9_f (by decide) (e9_f (by decide) (e9_t rfl (e9_t k1 (e9_b k3 (e9_t k9 (e9_b e rfl)))))))))))))))))
theorem ctl_15 {r1 r2 : pm_H} (k1 : pm_kd r 22 = 1) (e1 : fX1_takeWanted r 22 0 = some r1) (k2 : pm_kd r1 22 = 1) (e2 : fX1_emitBranch r1 22 12 0 = some r2) (k3 : pm_kd r2 22 = 1) (e3 : fX1_die r2 22 = some r') : fX1_control r 22 (Int32.ofNat 15) = some r' := by
  unfold fX1_control fX1_control_b0
  refine e9_f (by decide) (e9_f (by decide) (e9_f (by decide) (e9_f (by decide) (e9_f (by decide) (e9_f (by decide) (e9_f (by decide) (e9_f (by decide) (e9_f (by decide) (e9_f (by decide) (e9_f (by decide) (e9_f (by decide) (e9_f (by decide) (e9_f (by decide) (e9_f (by decide) (e9_t rfl (e9_t k1 (e9_b e1 ?_)))))))))))))))))
  unfold fX1_control_b153
  refine e9_t k2 (e9_b e2 ?_)
  unfold fX1_control_b160
  exact e9_t k3 (e9_b e3 rfl)
theorem ctl_0 {r1 : pm_H} (k1 : pm_kd r 22 = 1) (e1 : fX1_emitPlain r 22 0 0 = some r1) (k2 : pm_kd r1 22 = 1) (e2 : fX1_die r1 22 = some r') : fX1_control r 22 (Int32.ofNat 0) = some r' := by
  unfold fX1_control fX1_control_b0
  exact e9_t rfl (e9_t k1 (e9_b e1 (e9_t k2 (e9_b e2 rfl))))
theorem ctl_1 (k1 : pm_kd r 22 = 1) (e1 : fX1_emitPlain r 22 0 0 = some r') : fX1_control r 22 (Int32.ofNat 1) = some r' := by
  unfold fX1_control fX1_control_b0
  exact e9_f (by decide) (e9_t rfl (e9_t k1 (e9_b e1 rfl)))
end XINS
