/-! READING: the Reader (cell 19) and the reference (cell 592), with place, fault and the place of the fault set -/
/-- the class's Reader -/
def rc (h : pm_H) (p f q : Int32) : pm_H := (pm_sz h, pm_kd h, pm_ln h, fun x y => if x = 19 then (if y = 1 then p else if y = 3 then f else if y = 4 then q else pm_I h x y) else pm_I h x y, pm_L h, pm_R h)
section RC
variable (h : pm_H) (p f q v : Int32)
theorem rc_sz : pm_sz (rc h p f q) = pm_sz h := rfl
theorem rc_kd : pm_kd (rc h p f q) = pm_kd h := rfl
theorem rc_ln : pm_ln (rc h p f q) = pm_ln h := rfl
theorem rc_L : pm_L (rc h p f q) = pm_L h := rfl
theorem rc_R : pm_R (rc h p f q) = pm_R h := rfl
theorem rc_1 : pm_I (rc h p f q) 19 1 = p := rfl
theorem rc_3 : pm_I (rc h p f q) 19 3 = f := rfl
theorem rc_4 : pm_I (rc h p f q) 19 4 = q := rfl
theorem rc_0 : pm_I (rc h p f q) 19 0 = pm_I h 19 0 := rfl
theorem rc_2 : pm_I (rc h p f q) 19 2 = pm_I h 19 2 := rfl
theorem rc_5 : pm_I (rc h p f q) 19 5 = pm_I h 19 5 := rfl
theorem rc_6 : pm_I (rc h p f q) 19 6 = pm_I h 19 6 := rfl
theorem rc_7 : pm_I (rc h p f q) 19 7 = pm_I h 19 7 := rfl
theorem rc_10 : pm_I (rc h p f q) 19 10 = pm_I h 19 10 := rfl
theorem rc_11 : pm_I (rc h p f q) 19 11 = pm_I h 19 11 := rfl
theorem rc_12 : pm_I (rc h p f q) 19 12 = pm_I h 19 12 := rfl
theorem rc_13 : pm_I (rc h p f q) 19 13 = pm_I h 19 13 := rfl
theorem rc_15 : pm_I (rc h p f q) 19 15 = pm_I h 19 15 := rfl
theorem rc_16 : pm_I (rc h p f q) 19 16 = pm_I h 19 16 := rfl
theorem rc_y {y : Nat} (h1 : y ≠ 1) (h2 : y ≠ 3) (h3 : y ≠ 4) : pm_I (rc h p f q) 19 y = pm_I h 19 y := by
  show (if (19 : Nat) = 19 then (if y = 1 then p else if y = 3 then f else if y = 4 then q else pm_I h 19 y) else pm_I h 19 y) = pm_I h 19 y
  rw [if_pos rfl, if_neg h1, if_neg h2, if_neg h3]
theorem rc_x {x : Nat} (hx : x ≠ 19) : pm_I (rc h p f q) x = pm_I h x := by funext y; show (if x = 19 then _ else _) = _; rw [if_neg hx]
theorem rc_s1 : pm_setI (rc h p f q) 19 1 v = rc h v f q := by
  refine congrArg (fun z => (pm_sz h, pm_kd h, pm_ln h, z, pm_L h, pm_R h)) (funext fun x => funext fun y => ?_)
  show (if x = 19 then (if y = 1 then v else (if x = 19 then (if y = 1 then p else if y = 3 then f else if y = 4 then q else pm_I h x y) else pm_I h x y)) else (if x = 19 then (if y = 1 then p else if y = 3 then f else if y = 4 then q else pm_I h x y) else pm_I h x y)) = (if x = 19 then (if y = 1 then v else if y = 3 then f else if y = 4 then q else pm_I h x y) else pm_I h x y)
  repeat' split
  all_goals first | rfl | (exfalso; omega)
theorem rc_s3 : pm_setI (rc h p f q) 19 3 v = rc h p v q := by
  refine congrArg (fun z => (pm_sz h, pm_kd h, pm_ln h, z, pm_L h, pm_R h)) (funext fun x => funext fun y => ?_)
  show (if x = 19 then (if y = 3 then v else (if x = 19 then (if y = 1 then p else if y = 3 then f else if y = 4 then q else pm_I h x y) else pm_I h x y)) else (if x = 19 then (if y = 1 then p else if y = 3 then f else if y = 4 then q else pm_I h x y) else pm_I h x y)) = (if x = 19 then (if y = 1 then p else if y = 3 then v else if y = 4 then q else pm_I h x y) else pm_I h x y)
  repeat' split
  all_goals first | rfl | (exfalso; omega)
theorem rc_s4 : pm_setI (rc h p f q) 19 4 v = rc h p f v := by
  refine congrArg (fun z => (pm_sz h, pm_kd h, pm_ln h, z, pm_L h, pm_R h)) (funext fun x => funext fun y => ?_)
  show (if x = 19 then (if y = 4 then v else (if x = 19 then (if y = 1 then p else if y = 3 then f else if y = 4 then q else pm_I h x y) else pm_I h x y)) else (if x = 19 then (if y = 1 then p else if y = 3 then f else if y = 4 then q else pm_I h x y) else pm_I h x y)) = (if x = 19 then (if y = 1 then p else if y = 3 then f else if y = 4 then v else pm_I h x y) else pm_I h x y)
  repeat' split
  all_goals first | rfl | (exfalso; omega)
theorem rc_rc (p1 f1 q1 : Int32) : rc (rc h p f q) p1 f1 q1 = rc h p1 f1 q1 := by
  refine congrArg (fun z => (pm_sz h, pm_kd h, pm_ln h, z, pm_L h, pm_R h)) (funext fun x => funext fun y => ?_)
  show (if x = 19 then (if y = 1 then p1 else if y = 3 then f1 else if y = 4 then q1 else (if x = 19 then (if y = 1 then p else if y = 3 then f else if y = 4 then q else pm_I h x y) else pm_I h x y)) else (if x = 19 then (if y = 1 then p else if y = 3 then f else if y = 4 then q else pm_I h x y) else pm_I h x y)) = (if x = 19 then (if y = 1 then p1 else if y = 3 then f1 else if y = 4 then q1 else pm_I h x y) else pm_I h x y)
  repeat' split
  all_goals first | rfl | (exfalso; omega)
theorem rc_eta : rc h (pm_I h 19 1) (pm_I h 19 3) (pm_I h 19 4) = h := by
  refine (congrArg (fun z => (pm_sz h, pm_kd h, pm_ln h, z, pm_L h, pm_R h)) (funext fun x => funext fun y => ?_) : _ = (pm_sz h, pm_kd h, pm_ln h, pm_I h, pm_L h, pm_R h))
  show (if x = 19 then (if y = 1 then pm_I h 19 1 else if y = 3 then pm_I h 19 3 else if y = 4 then pm_I h 19 4 else pm_I h x y) else pm_I h x y) = pm_I h x y
  repeat' split
  all_goals first | rfl | (subst_vars; rfl)
theorem rc_o {y : Nat} (h1 : y ≠ 1) (h2 : y ≠ 3) (h3 : y ≠ 4) : pm_setI (rc h p f q) 19 y v = rc (pm_setI h 19 y v) p f q := by
  refine congrArg (fun z => (pm_sz h, pm_kd h, pm_ln h, z, pm_L h, pm_R h)) (funext fun x => funext fun k => ?_)
  show (if x = 19 then (if k = y then v else (if x = 19 then (if k = 1 then p else if k = 3 then f else if k = 4 then q else pm_I h x k) else pm_I h x k)) else (if x = 19 then (if k = 1 then p else if k = 3 then f else if k = 4 then q else pm_I h x k) else pm_I h x k)) = (if x = 19 then (if k = 1 then p else if k = 3 then f else if k = 4 then q else (if x = 19 then (if k = y then v else pm_I h x k) else pm_I h x k)) else (if x = 19 then (if k = y then v else pm_I h x k) else pm_I h x k))
  repeat' split
  all_goals first | rfl | (exfalso; omega)
theorem rc_a {x y : Nat} (h1 : x ≠ 19) : pm_setI (rc h p f q) x y v = rc (pm_setI h x y v) p f q := by
  refine congrArg (fun z => (pm_sz h, pm_kd h, pm_ln h, z, pm_L h, pm_R h)) (funext fun z => funext fun k => ?_)
  show (if z = x then (if k = y then v else (if z = 19 then (if k = 1 then p else if k = 3 then f else if k = 4 then q else pm_I h z k) else pm_I h z k)) else (if z = 19 then (if k = 1 then p else if k = 3 then f else if k = 4 then q else pm_I h z k) else pm_I h z k)) = (if z = 19 then (if k = 1 then p else if k = 3 then f else if k = 4 then q else (if z = x then (if k = y then v else pm_I h z k) else pm_I h z k)) else (if z = x then (if k = y then v else pm_I h z k) else pm_I h z k))
  repeat' split
  all_goals first | rfl | (exfalso; omega)
theorem rc_sL (x y : Nat) (w : Int64) : pm_setL (rc h p f q) x y w = rc (pm_setL h x y w) p f q := rfl
theorem rc_sR (x y : Nat) (w : Option Nat) : pm_setR (rc h p f q) x y w = rc (pm_setR h x y w) p f q := rfl
end RC
/-- the reference -/
def rm (h : pm_H) (p f q : Int32) : pm_H := (pm_sz h, pm_kd h, pm_ln h, fun x y => if x = 592 then (if y = 11 then p else if y = 7 then f else if y = 8 then q else pm_I h x y) else pm_I h x y, pm_L h, pm_R h)
section RM
variable (h : pm_H) (p f q v : Int32)
theorem rm_sz : pm_sz (rm h p f q) = pm_sz h := rfl
theorem rm_kd : pm_kd (rm h p f q) = pm_kd h := rfl
theorem rm_ln : pm_ln (rm h p f q) = pm_ln h := rfl
theorem rm_L : pm_L (rm h p f q) = pm_L h := rfl
theorem rm_R : pm_R (rm h p f q) = pm_R h := rfl
theorem rm_11 : pm_I (rm h p f q) 592 11 = p := rfl
theorem rm_7 : pm_I (rm h p f q) 592 7 = f := rfl
theorem rm_8 : pm_I (rm h p f q) 592 8 = q := rfl
theorem rm_1 : pm_I (rm h p f q) 592 1 = pm_I h 592 1 := rfl
theorem rm_2 : pm_I (rm h p f q) 592 2 = pm_I h 592 2 := rfl
theorem rm_3 : pm_I (rm h p f q) 592 3 = pm_I h 592 3 := rfl
theorem rm_6 : pm_I (rm h p f q) 592 6 = pm_I h 592 6 := rfl
theorem rm_12 : pm_I (rm h p f q) 592 12 = pm_I h 592 12 := rfl
theorem rm_13 : pm_I (rm h p f q) 592 13 = pm_I h 592 13 := rfl
theorem rm_16 : pm_I (rm h p f q) 592 16 = pm_I h 592 16 := rfl
theorem rm_y {y : Nat} (h1 : y ≠ 11) (h2 : y ≠ 7) (h3 : y ≠ 8) : pm_I (rm h p f q) 592 y = pm_I h 592 y := by
  show (if (592 : Nat) = 592 then (if y = 11 then p else if y = 7 then f else if y = 8 then q else pm_I h 592 y) else pm_I h 592 y) = pm_I h 592 y
  rw [if_pos rfl, if_neg h1, if_neg h2, if_neg h3]
theorem rm_x {x : Nat} (hx : x ≠ 592) : pm_I (rm h p f q) x = pm_I h x := by funext y; show (if x = 592 then _ else _) = _; rw [if_neg hx]
theorem rm_s11 : pm_setI (rm h p f q) 592 11 v = rm h v f q := by
  refine congrArg (fun z => (pm_sz h, pm_kd h, pm_ln h, z, pm_L h, pm_R h)) (funext fun x => funext fun y => ?_)
  show (if x = 592 then (if y = 11 then v else (if x = 592 then (if y = 11 then p else if y = 7 then f else if y = 8 then q else pm_I h x y) else pm_I h x y)) else (if x = 592 then (if y = 11 then p else if y = 7 then f else if y = 8 then q else pm_I h x y) else pm_I h x y)) = (if x = 592 then (if y = 11 then v else if y = 7 then f else if y = 8 then q else pm_I h x y) else pm_I h x y)
  repeat' split
  all_goals first | rfl | (exfalso; omega)
theorem rm_s7 : pm_setI (rm h p f q) 592 7 v = rm h p v q := by
  refine congrArg (fun z => (pm_sz h, pm_kd h, pm_ln h, z, pm_L h, pm_R h)) (funext fun x => funext fun y => ?_)
  show (if x = 592 then (if y = 7 then v else (if x = 592 then (if y = 11 then p else if y = 7 then f else if y = 8 then q else pm_I h x y) else pm_I h x y)) else (if x = 592 then (if y = 11 then p else if y = 7 then f else if y = 8 then q else pm_I h x y) else pm_I h x y)) = (if x = 592 then (if y = 11 then p else if y = 7 then v else if y = 8 then q else pm_I h x y) else pm_I h x y)
  repeat' split
  all_goals first | rfl | (exfalso; omega)
theorem rm_s8 : pm_setI (rm h p f q) 592 8 v = rm h p f v := by
  refine congrArg (fun z => (pm_sz h, pm_kd h, pm_ln h, z, pm_L h, pm_R h)) (funext fun x => funext fun y => ?_)
  show (if x = 592 then (if y = 8 then v else (if x = 592 then (if y = 11 then p else if y = 7 then f else if y = 8 then q else pm_I h x y) else pm_I h x y)) else (if x = 592 then (if y = 11 then p else if y = 7 then f else if y = 8 then q else pm_I h x y) else pm_I h x y)) = (if x = 592 then (if y = 11 then p else if y = 7 then f else if y = 8 then v else pm_I h x y) else pm_I h x y)
  repeat' split
  all_goals first | rfl | (exfalso; omega)
theorem rm_rm (p1 f1 q1 : Int32) : rm (rm h p f q) p1 f1 q1 = rm h p1 f1 q1 := by
  refine congrArg (fun z => (pm_sz h, pm_kd h, pm_ln h, z, pm_L h, pm_R h)) (funext fun x => funext fun y => ?_)
  show (if x = 592 then (if y = 11 then p1 else if y = 7 then f1 else if y = 8 then q1 else (if x = 592 then (if y = 11 then p else if y = 7 then f else if y = 8 then q else pm_I h x y) else pm_I h x y)) else (if x = 592 then (if y = 11 then p else if y = 7 then f else if y = 8 then q else pm_I h x y) else pm_I h x y)) = (if x = 592 then (if y = 11 then p1 else if y = 7 then f1 else if y = 8 then q1 else pm_I h x y) else pm_I h x y)
  repeat' split
  all_goals first | rfl | (exfalso; omega)
theorem rm_eta : rm h (pm_I h 592 11) (pm_I h 592 7) (pm_I h 592 8) = h := by
  refine (congrArg (fun z => (pm_sz h, pm_kd h, pm_ln h, z, pm_L h, pm_R h)) (funext fun x => funext fun y => ?_) : _ = (pm_sz h, pm_kd h, pm_ln h, pm_I h, pm_L h, pm_R h))
  show (if x = 592 then (if y = 11 then pm_I h 592 11 else if y = 7 then pm_I h 592 7 else if y = 8 then pm_I h 592 8 else pm_I h x y) else pm_I h x y) = pm_I h x y
  repeat' split
  all_goals first | rfl | (subst_vars; rfl)
theorem rm_o {y : Nat} (h1 : y ≠ 11) (h2 : y ≠ 7) (h3 : y ≠ 8) : pm_setI (rm h p f q) 592 y v = rm (pm_setI h 592 y v) p f q := by
  refine congrArg (fun z => (pm_sz h, pm_kd h, pm_ln h, z, pm_L h, pm_R h)) (funext fun x => funext fun k => ?_)
  show (if x = 592 then (if k = y then v else (if x = 592 then (if k = 11 then p else if k = 7 then f else if k = 8 then q else pm_I h x k) else pm_I h x k)) else (if x = 592 then (if k = 11 then p else if k = 7 then f else if k = 8 then q else pm_I h x k) else pm_I h x k)) = (if x = 592 then (if k = 11 then p else if k = 7 then f else if k = 8 then q else (if x = 592 then (if k = y then v else pm_I h x k) else pm_I h x k)) else (if x = 592 then (if k = y then v else pm_I h x k) else pm_I h x k))
  repeat' split
  all_goals first | rfl | (exfalso; omega)
theorem rm_a {x y : Nat} (h1 : x ≠ 592) : pm_setI (rm h p f q) x y v = rm (pm_setI h x y v) p f q := by
  refine congrArg (fun z => (pm_sz h, pm_kd h, pm_ln h, z, pm_L h, pm_R h)) (funext fun z => funext fun k => ?_)
  show (if z = x then (if k = y then v else (if z = 592 then (if k = 11 then p else if k = 7 then f else if k = 8 then q else pm_I h z k) else pm_I h z k)) else (if z = 592 then (if k = 11 then p else if k = 7 then f else if k = 8 then q else pm_I h z k) else pm_I h z k)) = (if z = 592 then (if k = 11 then p else if k = 7 then f else if k = 8 then q else (if z = x then (if k = y then v else pm_I h z k) else pm_I h z k)) else (if z = x then (if k = y then v else pm_I h z k) else pm_I h z k))
  repeat' split
  all_goals first | rfl | (exfalso; omega)
theorem rm_sL (x y : Nat) (w : Int64) : pm_setL (rm h p f q) x y w = rm (pm_setL h x y w) p f q := rfl
theorem rm_sR (x y : Nat) (w : Option Nat) : pm_setR (rm h p f q) x y w = rm (pm_setR h x y w) p f q := rfl
end RM
