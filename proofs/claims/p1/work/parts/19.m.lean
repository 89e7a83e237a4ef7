theorem dX16_newFunction_0 : decode cX16_newFunction 0 = .ok (.aload_n 0, 1) := by decide +kernel
theorem dX16_newFunction_1 : decode cX16_newFunction 1 = .ok (.getfield 68, 3) := by decide +kernel
theorem dX16_newFunction_4 : decode cX16_newFunction 4 = .ok (.aload_n 0, 1) := by decide +kernel
theorem dX16_newFunction_5 : decode cX16_newFunction 5 = .ok (.getfield 977, 3) := by decide +kernel
theorem dX16_newFunction_8 : decode cX16_newFunction 8 = .ok (.iload_n 1, 1) := by decide +kernel
theorem dX16_newFunction_9 : decode cX16_newFunction 9 = .ok (.iastore, 1) := by decide +kernel
theorem dX16_newFunction_10 : decode cX16_newFunction 10 = .ok (.aload_n 0, 1) := by decide +kernel
theorem dX16_newFunction_11 : decode cX16_newFunction 11 = .ok (.getfield 71, 3) := by decide +kernel
theorem dX16_newFunction_14 : decode cX16_newFunction 14 = .ok (.aload_n 0, 1) := by decide +kernel
theorem dX16_newFunction_15 : decode cX16_newFunction 15 = .ok (.getfield 977, 3) := by decide +kernel
theorem dX16_newFunction_18 : decode cX16_newFunction 18 = .ok (.iload_n 2, 1) := by decide +kernel
theorem dX16_newFunction_19 : decode cX16_newFunction 19 = .ok (.iastore, 1) := by decide +kernel
theorem dX16_newFunction_20 : decode cX16_newFunction 20 = .ok (.aload_n 0, 1) := by decide +kernel
theorem dX16_newFunction_21 : decode cX16_newFunction 21 = .ok (.getfield 74, 3) := by decide +kernel
theorem dX16_newFunction_24 : decode cX16_newFunction 24 = .ok (.aload_n 0, 1) := by decide +kernel
theorem dX16_newFunction_25 : decode cX16_newFunction 25 = .ok (.getfield 977, 3) := by decide +kernel
theorem dX16_newFunction_28 : decode cX16_newFunction 28 = .ok (.iload_n 3, 1) := by decide +kernel
theorem dX16_newFunction_29 : decode cX16_newFunction 29 = .ok (.iastore, 1) := by decide +kernel
theorem dX16_newFunction_30 : decode cX16_newFunction 30 = .ok (.aload_n 0, 1) := by decide +kernel
theorem dX16_newFunction_31 : decode cX16_newFunction 31 = .ok (.getfield 77, 3) := by decide +kernel
theorem dX16_newFunction_34 : decode cX16_newFunction 34 = .ok (.aload_n 0, 1) := by decide +kernel
theorem dX16_newFunction_35 : decode cX16_newFunction 35 = .ok (.getfield 977, 3) := by decide +kernel
theorem dX16_newFunction_38 : decode cX16_newFunction 38 = .ok (.iload 4, 2) := by decide +kernel
theorem dX16_newFunction_40 : decode cX16_newFunction 40 = .ok (.iastore, 1) := by decide +kernel
theorem dX16_newFunction_41 : decode cX16_newFunction 41 = .ok (.aload_n 0, 1) := by decide +kernel
theorem dX16_newFunction_42 : decode cX16_newFunction 42 = .ok (.getfield 80, 3) := by decide +kernel
theorem dX16_newFunction_45 : decode cX16_newFunction 45 = .ok (.aload_n 0, 1) := by decide +kernel
theorem dX16_newFunction_46 : decode cX16_newFunction 46 = .ok (.getfield 977, 3) := by decide +kernel
theorem dX16_newFunction_49 : decode cX16_newFunction 49 = .ok (.iload 5, 2) := by decide +kernel
theorem dX16_newFunction_51 : decode cX16_newFunction 51 = .ok (.iastore, 1) := by decide +kernel
theorem dX16_newFunction_52 : decode cX16_newFunction 52 = .ok (.aload_n 0, 1) := by decide +kernel
theorem dX16_newFunction_53 : decode cX16_newFunction 53 = .ok (.dup, 1) := by decide +kernel
theorem dX16_newFunction_54 : decode cX16_newFunction 54 = .ok (.getfield 977, 3) := by decide +kernel
theorem dX16_newFunction_57 : decode cX16_newFunction 57 = .ok (.iconst 1, 1) := by decide +kernel
theorem dX16_newFunction_58 : decode cX16_newFunction 58 = .ok (.iadd, 1) := by decide +kernel
theorem dX16_newFunction_59 : decode cX16_newFunction 59 = .ok (.putfield 977, 3) := by decide +kernel
theorem dX16_newFunction_62 : decode cX16_newFunction 62 = .ok (.aload_n 0, 1) := by decide +kernel
theorem dX16_newFunction_63 : decode cX16_newFunction 63 = .ok (.getfield 977, 3) := by decide +kernel
theorem dX16_newFunction_66 : decode cX16_newFunction 66 = .ok (.iconst 1, 1) := by decide +kernel
theorem dX16_newFunction_67 : decode cX16_newFunction 67 = .ok (.isub, 1) := by decide +kernel
theorem dX16_newFunction_68 : decode cX16_newFunction 68 = .ok (.ireturn, 1) := by decide +kernel
def fX16_newFunction (h : pm_H) (a0 : Nat) (p1 : Int32) (p2 : Int32) (p3 : Int32) (p4 : Int32) (p5 : Int32) : Option (Int32 × pm_H) := if pm_kd h a0 = 16 then (pm_R h a0 37).bind fun v2 => if pm_kd h v2 = 34 then if pm_in (pm_I h a0 36) (pm_ln h v2) then (pm_R (pm_setI h v2 ((pm_I h a0 36).toNatClampNeg) p1) a0 38).bind fun v6 => if pm_kd (pm_setI h v2 ((pm_I h a0 36).toNatClampNeg) p1) v6 = 34 then if pm_in (pm_I (pm_setI h v2 ((pm_I h a0 36).toNatClampNeg) p1) a0 36) (pm_ln (pm_setI h v2 ((pm_I h a0 36).toNatClampNeg) p1) v6) then (pm_R (pm_setI (pm_setI h v2 ((pm_I h a0 36).toNatClampNeg) p1) v6 ((pm_I (pm_setI h v2 ((pm_I h a0 36).toNatClampNeg) p1) a0 36).toNatClampNeg) p2) a0 39).bind fun v10 => if pm_kd (pm_setI (pm_setI h v2 ((pm_I h a0 36).toNatClampNeg) p1) v6 ((pm_I (pm_setI h v2 ((pm_I h a0 36).toNatClampNeg) p1) a0 36).toNatClampNeg) p2) v10 = 34 then if pm_in (pm_I (pm_setI (pm_setI h v2 ((pm_I h a0 36).toNatClampNeg) p1) v6 ((pm_I (pm_setI h v2 ((pm_I h a0 36).toNatClampNeg) p1) a0 36).toNatClampNeg) p2) a0 36) (pm_ln (pm_setI (pm_setI h v2 ((pm_I h a0 36).toNatClampNeg) p1) v6 ((pm_I (pm_setI h v2 ((pm_I h a0 36).toNatClampNeg) p1) a0 36).toNatClampNeg) p2) v10) then (pm_R (pm_setI (pm_setI (pm_setI h v2 ((pm_I h a0 36).toNatClampNeg) p1) v6 ((pm_I (pm_setI h v2 ((pm_I h a0 36).toNatClampNeg) p1) a0 36).toNatClampNeg) p2) v10 ((pm_I (pm_setI (pm_setI h v2 ((pm_I h a0 36).toNatClampNeg) p1) v6 ((pm_I (pm_setI h v2 ((pm_I h a0 36).toNatClampNeg) p1) a0 36).toNatClampNeg) p2) a0 36).toNatClampNeg) p3) a0 40).bind fun v14 => if pm_kd (pm_setI (pm_setI (pm_setI h v2 ((pm_I h a0 36).toNatClampNeg) p1) v6 ((pm_I (pm_setI h v2 ((pm_I h a0 36).toNatClampNeg) p1) a0 36).toNatClampNeg) p2) v10 ((pm_I (pm_setI (pm_setI h v2 ((pm_I h a0 36).toNatClampNeg) p1) v6 ((pm_I (pm_setI h v2 ((pm_I h a0 36).toNatClampNeg) p1) a0 36).toNatClampNeg) p2) a0 36).toNatClampNeg) p3) v14 = 34 then if pm_in (pm_I (pm_setI (pm_setI (pm_setI h v2 ((pm_I h a0 36).toNatClampNeg) p1) v6 ((pm_I (pm_setI h v2 ((pm_I h a0 36).toNatClampNeg) p1) a0 36).toNatClampNeg) p2) v10 ((pm_I (pm_setI (pm_setI h v2 ((pm_I h a0 36).toNatClampNeg) p1) v6 ((pm_I (pm_setI h v2 ((pm_I h a0 36).toNatClampNeg) p1) a0 36).toNatClampNeg) p2) a0 36).toNatClampNeg) p3) a0 36) (pm_ln (pm_setI (pm_setI (pm_setI h v2 ((pm_I h a0 36).toNatClampNeg) p1) v6 ((pm_I (pm_setI h v2 ((pm_I h a0 36).toNatClampNeg) p1) a0 36).toNatClampNeg) p2) v10 ((pm_I (pm_setI (pm_setI h v2 ((pm_I h a0 36).toNatClampNeg) p1) v6 ((pm_I (pm_setI h v2 ((pm_I h a0 36).toNatClampNeg) p1) a0 36).toNatClampNeg) p2) a0 36).toNatClampNeg) p3) v14) then (pm_R (pm_setI (pm_setI (pm_setI (pm_setI h v2 ((pm_I h a0 36).toNatClampNeg) p1) v6 ((pm_I (pm_setI h v2 ((pm_I h a0 36).toNatClampNeg) p1) a0 36).toNatClampNeg) p2) v10 ((pm_I (pm_setI (pm_setI h v2 ((pm_I h a0 36).toNatClampNeg) p1) v6 ((pm_I (pm_setI h v2 ((pm_I h a0 36).toNatClampNeg) p1) a0 36).toNatClampNeg) p2) a0 36).toNatClampNeg) p3) v14 ((pm_I (pm_setI (pm_setI (pm_setI h v2 ((pm_I h a0 36).toNatClampNeg) p1) v6 ((pm_I (pm_setI h v2 ((pm_I h a0 36).toNatClampNeg) p1) a0 36).toNatClampNeg) p2) v10 ((pm_I (pm_setI (pm_setI h v2 ((pm_I h a0 36).toNatClampNeg) p1) v6 ((pm_I (pm_setI h v2 ((pm_I h a0 36).toNatClampNeg) p1) a0 36).toNatClampNeg) p2) a0 36).toNatClampNeg) p3) a0 36).toNatClampNeg) p4) a0 41).bind fun v18 => if pm_kd (pm_setI (pm_setI (pm_setI (pm_setI h v2 ((pm_I h a0 36).toNatClampNeg) p1) v6 ((pm_I (pm_setI h v2 ((pm_I h a0 36).toNatClampNeg) p1) a0 36).toNatClampNeg) p2) v10 ((pm_I (pm_setI (pm_setI h v2 ((pm_I h a0 36).toNatClampNeg) p1) v6 ((pm_I (pm_setI h v2 ((pm_I h a0 36).toNatClampNeg) p1) a0 36).toNatClampNeg) p2) a0 36).toNatClampNeg) p3) v14 ((pm_I (pm_setI (pm_setI (pm_setI h v2 ((pm_I h a0 36).toNatClampNeg) p1) v6 ((pm_I (pm_setI h v2 ((pm_I h a0 36).toNatClampNeg) p1) a0 36).toNatClampNeg) p2) v10 ((pm_I (pm_setI (pm_setI h v2 ((pm_I h a0 36).toNatClampNeg) p1) v6 ((pm_I (pm_setI h v2 ((pm_I h a0 36).toNatClampNeg) p1) a0 36).toNatClampNeg) p2) a0 36).toNatClampNeg) p3) a0 36).toNatClampNeg) p4) v18 = 34 then if pm_in (pm_I (pm_setI (pm_setI (pm_setI (pm_setI h v2 ((pm_I h a0 36).toNatClampNeg) p1) v6 ((pm_I (pm_setI h v2 ((pm_I h a0 36).toNatClampNeg) p1) a0 36).toNatClampNeg) p2) v10 ((pm_I (pm_setI (pm_setI h v2 ((pm_I h a0 36).toNatClampNeg) p1) v6 ((pm_I (pm_setI h v2 ((pm_I h a0 36).toNatClampNeg) p1) a0 36).toNatClampNeg) p2) a0 36).toNatClampNeg) p3) v14 ((pm_I (pm_setI (pm_setI (pm_setI h v2 ((pm_I h a0 36).toNatClampNeg) p1) v6 ((pm_I (pm_setI h v2 ((pm_I h a0 36).toNatClampNeg) p1) a0 36).toNatClampNeg) p2) v10 ((pm_I (pm_setI (pm_setI h v2 ((pm_I h a0 36).toNatClampNeg) p1) v6 ((pm_I (pm_setI h v2 ((pm_I h a0 36).toNatClampNeg) p1) a0 36).toNatClampNeg) p2) a0 36).toNatClampNeg) p3) a0 36).toNatClampNeg) p4) a0 36) (pm_ln (pm_setI (pm_setI (pm_setI (pm_setI h v2 ((pm_I h a0 36).toNatClampNeg) p1) v6 ((pm_I (pm_setI h v2 ((pm_I h a0 36).toNatClampNeg) p1) a0 36).toNatClampNeg) p2) v10 ((pm_I (pm_setI (pm_setI h v2 ((pm_I h a0 36).toNatClampNeg) p1) v6 ((pm_I (pm_setI h v2 ((pm_I h a0 36).toNatClampNeg) p1) a0 36).toNatClampNeg) p2) a0 36).toNatClampNeg) p3) v14 ((pm_I (pm_setI (pm_setI (pm_setI h v2 ((pm_I h a0 36).toNatClampNeg) p1) v6 ((pm_I (pm_setI h v2 ((pm_I h a0 36).toNatClampNeg) p1) a0 36).toNatClampNeg) p2) v10 ((pm_I (pm_setI (pm_setI h v2 ((pm_I h a0 36).toNatClampNeg) p1) v6 ((pm_I (pm_setI h v2 ((pm_I h a0 36).toNatClampNeg) p1) a0 36).toNatClampNeg) p2) a0 36).toNatClampNeg) p3) a0 36).toNatClampNeg) p4) v18) then pm_let ((pm_I (pm_setI (pm_setI (pm_setI (pm_setI (pm_setI h v2 ((pm_I h a0 36).toNatClampNeg) p1) v6 ((pm_I (pm_setI h v2 ((pm_I h a0 36).toNatClampNeg) p1) a0 36).toNatClampNeg) p2) v10 ((pm_I (pm_setI (pm_setI h v2 ((pm_I h a0 36).toNatClampNeg) p1) v6 ((pm_I (pm_setI h v2 ((pm_I h a0 36).toNatClampNeg) p1) a0 36).toNatClampNeg) p2) a0 36).toNatClampNeg) p3) v14 ((pm_I (pm_setI (pm_setI (pm_setI h v2 ((pm_I h a0 36).toNatClampNeg) p1) v6 ((pm_I (pm_setI h v2 ((pm_I h a0 36).toNatClampNeg) p1) a0 36).toNatClampNeg) p2) v10 ((pm_I (pm_setI (pm_setI h v2 ((pm_I h a0 36).toNatClampNeg) p1) v6 ((pm_I (pm_setI h v2 ((pm_I h a0 36).toNatClampNeg) p1) a0 36).toNatClampNeg) p2) a0 36).toNatClampNeg) p3) a0 36).toNatClampNeg) p4) v18 ((pm_I (pm_setI (pm_setI (pm_setI (pm_setI h v2 ((pm_I h a0 36).toNatClampNeg) p1) v6 ((pm_I (pm_setI h v2 ((pm_I h a0 36).toNatClampNeg) p1) a0 36).toNatClampNeg) p2) v10 ((pm_I (pm_setI (pm_setI h v2 ((pm_I h a0 36).toNatClampNeg) p1) v6 ((pm_I (pm_setI h v2 ((pm_I h a0 36).toNatClampNeg) p1) a0 36).toNatClampNeg) p2) a0 36).toNatClampNeg) p3) v14 ((pm_I (pm_setI (pm_setI (pm_setI h v2 ((pm_I h a0 36).toNatClampNeg) p1) v6 ((pm_I (pm_setI h v2 ((pm_I h a0 36).toNatClampNeg) p1) a0 36).toNatClampNeg) p2) v10 ((pm_I (pm_setI (pm_setI h v2 ((pm_I h a0 36).toNatClampNeg) p1) v6 ((pm_I (pm_setI h v2 ((pm_I h a0 36).toNatClampNeg) p1) a0 36).toNatClampNeg) p2) a0 36).toNatClampNeg) p3) a0 36).toNatClampNeg) p4) a0 36).toNatClampNeg) p5) a0 36) + 1) fun y22 => some (((pm_I (pm_setI (pm_setI (pm_setI (pm_setI (pm_setI (pm_setI h v2 ((pm_I h a0 36).toNatClampNeg) p1) v6 ((pm_I (pm_setI h v2 ((pm_I h a0 36).toNatClampNeg) p1) a0 36).toNatClampNeg) p2) v10 ((pm_I (pm_setI (pm_setI h v2 ((pm_I h a0 36).toNatClampNeg) p1) v6 ((pm_I (pm_setI h v2 ((pm_I h a0 36).toNatClampNeg) p1) a0 36).toNatClampNeg) p2) a0 36).toNatClampNeg) p3) v14 ((pm_I (pm_setI (pm_setI (pm_setI h v2 ((pm_I h a0 36).toNatClampNeg) p1) v6 ((pm_I (pm_setI h v2 ((pm_I h a0 36).toNatClampNeg) p1) a0 36).toNatClampNeg) p2) v10 ((pm_I (pm_setI (pm_setI h v2 ((pm_I h a0 36).toNatClampNeg) p1) v6 ((pm_I (pm_setI h v2 ((pm_I h a0 36).toNatClampNeg) p1) a0 36).toNatClampNeg) p2) a0 36).toNatClampNeg) p3) a0 36).toNatClampNeg) p4) v18 ((pm_I (pm_setI (pm_setI (pm_setI (pm_setI h v2 ((pm_I h a0 36).toNatClampNeg) p1) v6 ((pm_I (pm_setI h v2 ((pm_I h a0 36).toNatClampNeg) p1) a0 36).toNatClampNeg) p2) v10 ((pm_I (pm_setI (pm_setI h v2 ((pm_I h a0 36).toNatClampNeg) p1) v6 ((pm_I (pm_setI h v2 ((pm_I h a0 36).toNatClampNeg) p1) a0 36).toNatClampNeg) p2) a0 36).toNatClampNeg) p3) v14 ((pm_I (pm_setI (pm_setI (pm_setI h v2 ((pm_I h a0 36).toNatClampNeg) p1) v6 ((pm_I (pm_setI h v2 ((pm_I h a0 36).toNatClampNeg) p1) a0 36).toNatClampNeg) p2) v10 ((pm_I (pm_setI (pm_setI h v2 ((pm_I h a0 36).toNatClampNeg) p1) v6 ((pm_I (pm_setI h v2 ((pm_I h a0 36).toNatClampNeg) p1) a0 36).toNatClampNeg) p2) a0 36).toNatClampNeg) p3) a0 36).toNatClampNeg) p4) a0 36).toNatClampNeg) p5) a0 36 y22) a0 36) - 1, pm_setI (pm_setI (pm_setI (pm_setI (pm_setI (pm_setI h v2 ((pm_I h a0 36).toNatClampNeg) p1) v6 ((pm_I (pm_setI h v2 ((pm_I h a0 36).toNatClampNeg) p1) a0 36).toNatClampNeg) p2) v10 ((pm_I (pm_setI (pm_setI h v2 ((pm_I h a0 36).toNatClampNeg) p1) v6 ((pm_I (pm_setI h v2 ((pm_I h a0 36).toNatClampNeg) p1) a0 36).toNatClampNeg) p2) a0 36).toNatClampNeg) p3) v14 ((pm_I (pm_setI (pm_setI (pm_setI h v2 ((pm_I h a0 36).toNatClampNeg) p1) v6 ((pm_I (pm_setI h v2 ((pm_I h a0 36).toNatClampNeg) p1) a0 36).toNatClampNeg) p2) v10 ((pm_I (pm_setI (pm_setI h v2 ((pm_I h a0 36).toNatClampNeg) p1) v6 ((pm_I (pm_setI h v2 ((pm_I h a0 36).toNatClampNeg) p1) a0 36).toNatClampNeg) p2) a0 36).toNatClampNeg) p3) a0 36).toNatClampNeg) p4) v18 ((pm_I (pm_setI (pm_setI (pm_setI (pm_setI h v2 ((pm_I h a0 36).toNatClampNeg) p1) v6 ((pm_I (pm_setI h v2 ((pm_I h a0 36).toNatClampNeg) p1) a0 36).toNatClampNeg) p2) v10 ((pm_I (pm_setI (pm_setI h v2 ((pm_I h a0 36).toNatClampNeg) p1) v6 ((pm_I (pm_setI h v2 ((pm_I h a0 36).toNatClampNeg) p1) a0 36).toNatClampNeg) p2) a0 36).toNatClampNeg) p3) v14 ((pm_I (pm_setI (pm_setI (pm_setI h v2 ((pm_I h a0 36).toNatClampNeg) p1) v6 ((pm_I (pm_setI h v2 ((pm_I h a0 36).toNatClampNeg) p1) a0 36).toNatClampNeg) p2) v10 ((pm_I (pm_setI (pm_setI h v2 ((pm_I h a0 36).toNatClampNeg) p1) v6 ((pm_I (pm_setI h v2 ((pm_I h a0 36).toNatClampNeg) p1) a0 36).toNatClampNeg) p2) a0 36).toNatClampNeg) p3) a0 36).toNatClampNeg) p4) a0 36).toNatClampNeg) p5) a0 36 y22)) else none else none else none else none else none else none else none else none else none else none else none
set_option maxHeartbeats 4000000 in
set_option maxRecDepth 100000 in
theorem ctX16_newFunction {l : Launch} {G : pm_Gl} {h : pm_H} {a0 : Nat} {p1 : Int32} {p2 : Int32} {p3 : Int32} {p4 : Int32} {p5 : Int32} {r : (Int32 × pm_H)} {Qr : Option Value → pm_H → Prop} (hf : fX16_newFunction h a0 p1 p2 p3 p4 p5 = some r) (q : Qr (some (.int r.1)) r.2) : pm_Ct l G mX16_newFunction [.ref a0, .int p1, .int p2, .int p3, .int p4, .int p5] h 0 0 Qr := by
  refine pm_body pnX16 (Nat.le_of_ble_eq_true rfl) (fun g C X => ?_)
  have C : pm_C g cX16_newFunction RX16 := C
  show pm_G g 0 [(0, .ref a0), (1, .int p1), (2, .int p2), (3, .int p3), (4, .int p4), (5, .int p5)] [] h 0 0
  unfold fX16_newFunction at hf
  refine pm_aload_n C dX16_newFunction_0 rfl rfl ?_
  obtain ⟨k1, hf⟩ := pm_if hf
  obtain ⟨v2, e3, hf⟩ := pm_bd hf
  refine pm_getR C dX16_newFunction_1 flX16_68 rfl k1 e3 ?_
  refine pm_aload_n C dX16_newFunction_4 rfl rfl ?_
  refine pm_getI C dX16_newFunction_5 flX16_977 rfl k1 rfl ?_
  refine pm_iload_n C dX16_newFunction_8 rfl rfl ?_
  obtain ⟨k4, hf⟩ := pm_if hf
  obtain ⟨u5, hf⟩ := pm_if hf
  refine pm_iast C dX16_newFunction_9 k4 u5 ?_
  refine pm_aload_n C dX16_newFunction_10 rfl rfl ?_
  obtain ⟨v6, e7, hf⟩ := pm_bd hf
  refine pm_getR C dX16_newFunction_11 flX16_71 rfl k1 e7 ?_
  refine pm_aload_n C dX16_newFunction_14 rfl rfl ?_
  refine pm_getI C dX16_newFunction_15 flX16_977 rfl k1 rfl ?_
  refine pm_iload_n C dX16_newFunction_18 rfl rfl ?_
  obtain ⟨k8, hf⟩ := pm_if hf
  obtain ⟨u9, hf⟩ := pm_if hf
  refine pm_iast C dX16_newFunction_19 k8 u9 ?_
  refine pm_aload_n C dX16_newFunction_20 rfl rfl ?_
  obtain ⟨v10, e11, hf⟩ := pm_bd hf
  refine pm_getR C dX16_newFunction_21 flX16_74 rfl k1 e11 ?_
  refine pm_aload_n C dX16_newFunction_24 rfl rfl ?_
  refine pm_getI C dX16_newFunction_25 flX16_977 rfl k1 rfl ?_
  refine pm_iload_n C dX16_newFunction_28 rfl rfl ?_
  obtain ⟨k12, hf⟩ := pm_if hf
  obtain ⟨u13, hf⟩ := pm_if hf
  refine pm_iast C dX16_newFunction_29 k12 u13 ?_
  refine pm_aload_n C dX16_newFunction_30 rfl rfl ?_
  obtain ⟨v14, e15, hf⟩ := pm_bd hf
  refine pm_getR C dX16_newFunction_31 flX16_77 rfl k1 e15 ?_
  refine pm_aload_n C dX16_newFunction_34 rfl rfl ?_
  refine pm_getI C dX16_newFunction_35 flX16_977 rfl k1 rfl ?_
  refine pm_iload C dX16_newFunction_38 rfl ?_
  obtain ⟨k16, hf⟩ := pm_if hf
  obtain ⟨u17, hf⟩ := pm_if hf
  refine pm_iast C dX16_newFunction_40 k16 u17 ?_
  refine pm_aload_n C dX16_newFunction_41 rfl rfl ?_
  obtain ⟨v18, e19, hf⟩ := pm_bd hf
  refine pm_getR C dX16_newFunction_42 flX16_80 rfl k1 e19 ?_
  refine pm_aload_n C dX16_newFunction_45 rfl rfl ?_
  refine pm_getI C dX16_newFunction_46 flX16_977 rfl k1 rfl ?_
  refine pm_iload C dX16_newFunction_49 rfl ?_
  obtain ⟨k20, hf⟩ := pm_if hf
  obtain ⟨u21, hf⟩ := pm_if hf
  refine pm_iast C dX16_newFunction_51 k20 u21 ?_
  refine pm_aload_n C dX16_newFunction_52 rfl rfl ?_
  refine pm_dup C dX16_newFunction_53 rfl ?_
  refine pm_getI C dX16_newFunction_54 flX16_977 rfl k1 rfl ?_
  refine pm_iconst (v := 1) C dX16_newFunction_57 (by decide) ?_
  refine pm_iadd C dX16_newFunction_58 ?_
  obtain ⟨y22, e23, hf⟩ := pm_lt hf
  refine pm_topI e23 ?_
  refine pm_putI C dX16_newFunction_59 flX16_977 rfl rfl k1 rfl rfl ?_
  refine pm_aload_n C dX16_newFunction_62 rfl rfl ?_
  refine pm_getI C dX16_newFunction_63 flX16_977 rfl k1 rfl ?_
  refine pm_iconst (v := 1) C dX16_newFunction_66 (by decide) ?_
  refine pm_isub C dX16_newFunction_67 ?_
  cases hf
  exact pm_iret C X dX16_newFunction_68 rfl (Nat.le_refl _) (Nat.le_refl _) q
theorem dX16_noneOf_0 : decode cX16_noneOf 0 = .ok (.iload_n 0, 1) := by decide +kernel
theorem dX16_noneOf_1 : decode cX16_noneOf 1 = .ok (.iconst 2, 1) := by decide +kernel
theorem dX16_noneOf_2 : decode cX16_noneOf 2 = .ok (.if_icmp .ne 9, 3) := by decide +kernel
theorem dX16_noneOf_5 : decode cX16_noneOf 5 = .ok (.ldc2_w 861, 3) := by decide +kernel
theorem dX16_noneOf_8 : decode cX16_noneOf 8 = .ok (.goto 6, 3) := by decide +kernel
theorem dX16_noneOf_11 : decode cX16_noneOf 11 = .ok (.ldc2_w 863, 3) := by decide +kernel
theorem dX16_noneOf_14 : decode cX16_noneOf 14 = .ok (.lreturn, 1) := by decide +kernel
def fX16_noneOf (p1 : Int32) : Int64 := if p1 = 2 then (2143289344) else (9221120237041090560)
set_option maxHeartbeats 4000000 in
set_option maxRecDepth 100000 in
theorem ctX16_noneOf {l : Launch} {G : pm_Gl} {h : pm_H} {p1 : Int32} {r : Int64} {Qr : Option Value → pm_H → Prop} (hf : fX16_noneOf p1 = r) (q : Qr (some (.long r)) h) : pm_Ct l G mX16_noneOf [.int p1] h 0 0 Qr := by
  refine pm_body pnX16 (Nat.le_of_ble_eq_true rfl) (fun g C X => ?_)
  have C : pm_C g cX16_noneOf RX16 := C
  show pm_G g 0 [(0, .int p1)] [] h 0 0
  unfold fX16_noneOf at hf
  refine pm_iload_n C dX16_noneOf_0 rfl rfl ?_
  refine pm_iconst (v := 2) C dX16_noneOf_1 (by decide) ?_
  refine pm_icmp_ne (tgt := 11) C dX16_noneOf_2 (by decide) (fun c1 => ?_) (fun c1 => ?_)
  · have hf := pm_ie hf c1
    refine pm_ldc2 C dX16_noneOf_11 cnX16_863 ?_
    subst hf
    exact pm_lret C X dX16_noneOf_14 rfl (Nat.le_refl _) (Nat.le_refl _) q
  · have hf := pm_it hf c1
    refine pm_ldc2 C dX16_noneOf_5 cnX16_861 ?_
    refine pm_goto (tgt := 14) C dX16_noneOf_8 (by decide) ?_
    subst hf
    exact pm_lret C X dX16_noneOf_14 rfl (Nat.le_refl _) (Nat.le_refl _) q
theorem dX16_ones_0 : decode cX16_ones 0 = .ok (.iconst 0, 1) := by decide +kernel
theorem dX16_ones_1 : decode cX16_ones 1 = .ok (.istore_n 2, 1) := by decide +kernel
theorem dX16_ones_2 : decode cX16_ones 2 = .ok (.iconst 0, 1) := by decide +kernel
theorem dX16_ones_3 : decode cX16_ones 3 = .ok (.istore_n 3, 1) := by decide +kernel
theorem dX16_ones_4 : decode cX16_ones 4 = .ok (.iload_n 3, 1) := by decide +kernel
theorem dX16_ones_5 : decode cX16_ones 5 = .ok (.bipush 64, 2) := by decide +kernel
theorem dX16_ones_7 : decode cX16_ones 7 = .ok (.if_icmp .ge 18, 3) := by decide +kernel
theorem dX16_ones_10 : decode cX16_ones 10 = .ok (.iload_n 2, 1) := by decide +kernel
theorem dX16_ones_11 : decode cX16_ones 11 = .ok (.lload_n 0, 1) := by decide +kernel
theorem dX16_ones_12 : decode cX16_ones 12 = .ok (.iload_n 3, 1) := by decide +kernel
theorem dX16_ones_13 : decode cX16_ones 13 = .ok (.lushr, 1) := by decide +kernel
theorem dX16_ones_14 : decode cX16_ones 14 = .ok (.lconst 1, 1) := by decide +kernel
theorem dX16_ones_15 : decode cX16_ones 15 = .ok (.land, 1) := by decide +kernel
theorem dX16_ones_16 : decode cX16_ones 16 = .ok (.l2i, 1) := by decide +kernel
theorem dX16_ones_17 : decode cX16_ones 17 = .ok (.iadd, 1) := by decide +kernel
theorem dX16_ones_18 : decode cX16_ones 18 = .ok (.istore_n 2, 1) := by decide +kernel
theorem dX16_ones_19 : decode cX16_ones 19 = .ok (.iinc 3 1, 3) := by decide +kernel
theorem dX16_ones_22 : decode cX16_ones 22 = .ok (.goto (-18), 3) := by decide +kernel
theorem dX16_ones_25 : decode cX16_ones 25 = .ok (.iload_n 2, 1) := by decide +kernel
theorem dX16_ones_26 : decode cX16_ones 26 = .ok (.ireturn, 1) := by decide +kernel
def tX16_ones_4 (x0 : Int64) (x2 : Int32) (x3 : Int32) : Option (((Int64 × Int32 × Int32)) ⊕ Int32) := if 64 ≤ x3 then (some (.inr (x2))) else (pm_let (x2 + ((((x0.toUInt64 >>> (x3.toInt64.toUInt64 &&& Int64.toUInt64 63)).toInt64) &&& 1).toInt32)) fun y2 => pm_let (x3 + 1) fun y4 => some (.inl ((x0, y2, y4))))
def sX16_ones : ((Int64 × Int32 × Int32)) → Option (((Int64 × Int32 × Int32)) ⊕ Int32) := fun z => match z with
  | (x0, x2, x3) => tX16_ones_4 x0 x2 x3
noncomputable def fX16_ones (p1 : Int64) : Option Int32 := pm_lim sX16_ones ((p1, 0, 0))
set_option maxHeartbeats 4000000 in
set_option maxRecDepth 100000 in
theorem lpX16_ones {g : pm_Gm} {l : Launch} {G : pm_Gl} {Qr : Option Value → pm_H → Prop} (C : pm_C g cX16_ones RX16) (X : pm_X g l G mX16_ones 0 0 Qr) {h : pm_H} {r : Int32} (q : Qr (some (.int r)) h) : ∀ n : Nat, (∀ (x0 : Int64) (x2 : Int32) (x3 : Int32), pm_iter sX16_ones n (x0, x2, x3) = some r → pm_G g 4 [(0, .long x0), (2, .int x2), (3, .int x3)] [] h 0 0) := by
  intro n
  induction n with
  | zero => exact fun _ _ _ hf => (by cases hf)
  | succ n ih =>
    refine fun x0 x2 x3 hf => ?_
    obtain ⟨y, hf, hi⟩ := pm_iter_s hf
    have hf : tX16_ones_4 x0 x2 x3 = some y := hf
    unfold tX16_ones_4 at hf
    refine pm_iload_n C dX16_ones_4 rfl rfl ?_
    refine pm_bipush (v := 64) C dX16_ones_5 (by decide) ?_
    refine pm_icmp_ge (tgt := 25) C dX16_ones_7 (by decide) (fun c1 => ?_) (fun c1 => ?_)
    · have hf := pm_it hf c1
      refine pm_iload_n C dX16_ones_25 rfl rfl ?_
      cases hf
      cases hi
      exact pm_iret C X dX16_ones_26 rfl (Nat.le_refl _) (Nat.le_refl _) q
    · have hf := pm_ie hf c1
      refine pm_iload_n C dX16_ones_10 rfl rfl ?_
      refine pm_lload_n C dX16_ones_11 rfl rfl ?_
      refine pm_iload_n C dX16_ones_12 rfl rfl ?_
      refine pm_lushr C dX16_ones_13 ?_
      refine pm_lconst (v := 1) C dX16_ones_14 (by decide) ?_
      refine pm_land C dX16_ones_15 ?_
      refine pm_l2i C dX16_ones_16 ?_
      refine pm_iadd C dX16_ones_17 ?_
      obtain ⟨y2, e3, hf⟩ := pm_lt hf
      refine pm_topI e3 ?_
      refine pm_istore_n (lv' := [(2, .int y2), (0, .long x0), (3, .int x3)]) C dX16_ones_18 rfl (pm_nl X (by decide)) rfl ?_
      obtain ⟨y4, e5, hf⟩ := pm_lt hf
      refine pm_iinc (v := y4) (lv' := [(3, .int y4), (2, .int y2), (0, .long x0)]) C dX16_ones_19 rfl ((congrArg (x3 + ·) (by decide : Int32.ofInt 1 = 1)).trans e5) (pm_nl X (by decide)) rfl ?_
      refine pm_goto (tgt := 4) C dX16_ones_22 (by decide) ?_
      cases hf
      exact pm_sub [2, 1, 0] rfl (ih x0 y2 y4 hi)
set_option maxHeartbeats 4000000 in
set_option maxRecDepth 100000 in
theorem ctX16_ones {l : Launch} {G : pm_Gl} {h : pm_H} {p1 : Int64} {r : Int32} {Qr : Option Value → pm_H → Prop} (hf : fX16_ones p1 = some r) (q : Qr (some (.int r)) h) : pm_Ct l G mX16_ones [.long p1] h 0 0 Qr := by
  refine pm_body pnX16 (Nat.le_of_ble_eq_true rfl) (fun g C X => ?_)
  have C : pm_C g cX16_ones RX16 := C
  show pm_G g 0 [(0, .long p1)] [] h 0 0
  unfold fX16_ones at hf
  refine pm_iconst (v := 0) C dX16_ones_0 (by decide) ?_
  refine pm_istore_n (lv' := [(2, .int 0), (0, .long p1)]) C dX16_ones_1 rfl (pm_nl X (by decide)) rfl ?_
  refine pm_iconst (v := 0) C dX16_ones_2 (by decide) ?_
  refine pm_istore_n (lv' := [(3, .int 0), (2, .int 0), (0, .long p1)]) C dX16_ones_3 rfl (pm_nl X (by decide)) rfl ?_
  obtain ⟨n, hn⟩ := pm_lim_iter hf
  exact pm_sub [2, 1, 0] rfl ((lpX16_ones C X q n) p1 0 0 hn)
theorem dX16_opens_0 : decode cX16_opens 0 = .ok (.aload_n 0, 1) := by decide +kernel
theorem dX16_opens_1 : decode cX16_opens 1 = .ok (.getfield 195, 3) := by decide +kernel
theorem dX16_opens_4 : decode cX16_opens 4 = .ok (.aload_n 0, 1) := by decide +kernel
theorem dX16_opens_5 : decode cX16_opens 5 = .ok (.getfield 1086, 3) := by decide +kernel
theorem dX16_opens_8 : decode cX16_opens 8 = .ok (.iload_n 1, 1) := by decide +kernel
theorem dX16_opens_9 : decode cX16_opens 9 = .ok (.iastore, 1) := by decide +kernel
theorem dX16_opens_10 : decode cX16_opens 10 = .ok (.aload_n 0, 1) := by decide +kernel
theorem dX16_opens_11 : decode cX16_opens 11 = .ok (.getfield 198, 3) := by decide +kernel
theorem dX16_opens_14 : decode cX16_opens 14 = .ok (.aload_n 0, 1) := by decide +kernel
theorem dX16_opens_15 : decode cX16_opens 15 = .ok (.getfield 1086, 3) := by decide +kernel
theorem dX16_opens_18 : decode cX16_opens 18 = .ok (.aload_n 0, 1) := by decide +kernel
theorem dX16_opens_19 : decode cX16_opens 19 = .ok (.getfield 1104, 3) := by decide +kernel
theorem dX16_opens_22 : decode cX16_opens 22 = .ok (.iload_n 3, 1) := by decide +kernel
theorem dX16_opens_23 : decode cX16_opens 23 = .ok (.isub, 1) := by decide +kernel
theorem dX16_opens_24 : decode cX16_opens 24 = .ok (.iastore, 1) := by decide +kernel
theorem dX16_opens_25 : decode cX16_opens 25 = .ok (.aload_n 0, 1) := by decide +kernel
theorem dX16_opens_26 : decode cX16_opens 26 = .ok (.getfield 201, 3) := by decide +kernel
theorem dX16_opens_29 : decode cX16_opens 29 = .ok (.aload_n 0, 1) := by decide +kernel
theorem dX16_opens_30 : decode cX16_opens 30 = .ok (.getfield 1086, 3) := by decide +kernel
theorem dX16_opens_33 : decode cX16_opens 33 = .ok (.iload_n 2, 1) := by decide +kernel
theorem dX16_opens_34 : decode cX16_opens 34 = .ok (.iastore, 1) := by decide +kernel
theorem dX16_opens_35 : decode cX16_opens 35 = .ok (.aload_n 0, 1) := by decide +kernel
theorem dX16_opens_36 : decode cX16_opens 36 = .ok (.getfield 204, 3) := by decide +kernel
theorem dX16_opens_39 : decode cX16_opens 39 = .ok (.aload_n 0, 1) := by decide +kernel
theorem dX16_opens_40 : decode cX16_opens 40 = .ok (.getfield 1086, 3) := by decide +kernel
theorem dX16_opens_43 : decode cX16_opens 43 = .ok (.iload 4, 2) := by decide +kernel
theorem dX16_opens_45 : decode cX16_opens 45 = .ok (.bastore, 1) := by decide +kernel
theorem dX16_opens_46 : decode cX16_opens 46 = .ok (.aload_n 0, 1) := by decide +kernel
theorem dX16_opens_47 : decode cX16_opens 47 = .ok (.dup, 1) := by decide +kernel
theorem dX16_opens_48 : decode cX16_opens 48 = .ok (.getfield 1086, 3) := by decide +kernel
theorem dX16_opens_51 : decode cX16_opens 51 = .ok (.iconst 1, 1) := by decide +kernel
theorem dX16_opens_52 : decode cX16_opens 52 = .ok (.iadd, 1) := by decide +kernel
theorem dX16_opens_53 : decode cX16_opens 53 = .ok (.putfield 1086, 3) := by decide +kernel
theorem dX16_opens_56 : decode cX16_opens 56 = .ok (.return_, 1) := by decide +kernel
def fX16_opens (h : pm_H) (a0 : Nat) (p1 : Int32) (p2 : Int32) (p3 : Int32) (p4 : Int32) : Option pm_H := if pm_kd h a0 = 16 then (pm_R h a0 97).bind fun v2 => if pm_kd h v2 = 34 then if pm_in (pm_I h a0 96) (pm_ln h v2) then (pm_R (pm_setI h v2 ((pm_I h a0 96).toNatClampNeg) p1) a0 98).bind fun v6 => pm_let ((pm_I (pm_setI h v2 ((pm_I h a0 96).toNatClampNeg) p1) a0 93) - p3) fun y8 => if pm_kd (pm_setI h v2 ((pm_I h a0 96).toNatClampNeg) p1) v6 = 34 then if pm_in (pm_I (pm_setI h v2 ((pm_I h a0 96).toNatClampNeg) p1) a0 96) (pm_ln (pm_setI h v2 ((pm_I h a0 96).toNatClampNeg) p1) v6) then (pm_R (pm_setI (pm_setI h v2 ((pm_I h a0 96).toNatClampNeg) p1) v6 ((pm_I (pm_setI h v2 ((pm_I h a0 96).toNatClampNeg) p1) a0 96).toNatClampNeg) y8) a0 99).bind fun v12 => if pm_kd (pm_setI (pm_setI h v2 ((pm_I h a0 96).toNatClampNeg) p1) v6 ((pm_I (pm_setI h v2 ((pm_I h a0 96).toNatClampNeg) p1) a0 96).toNatClampNeg) y8) v12 = 34 then if pm_in (pm_I (pm_setI (pm_setI h v2 ((pm_I h a0 96).toNatClampNeg) p1) v6 ((pm_I (pm_setI h v2 ((pm_I h a0 96).toNatClampNeg) p1) a0 96).toNatClampNeg) y8) a0 96) (pm_ln (pm_setI (pm_setI h v2 ((pm_I h a0 96).toNatClampNeg) p1) v6 ((pm_I (pm_setI h v2 ((pm_I h a0 96).toNatClampNeg) p1) a0 96).toNatClampNeg) y8) v12) then (pm_R (pm_setI (pm_setI (pm_setI h v2 ((pm_I h a0 96).toNatClampNeg) p1) v6 ((pm_I (pm_setI h v2 ((pm_I h a0 96).toNatClampNeg) p1) a0 96).toNatClampNeg) y8) v12 ((pm_I (pm_setI (pm_setI h v2 ((pm_I h a0 96).toNatClampNeg) p1) v6 ((pm_I (pm_setI h v2 ((pm_I h a0 96).toNatClampNeg) p1) a0 96).toNatClampNeg) y8) a0 96).toNatClampNeg) p2) a0 100).bind fun v16 => if pm_kd (pm_setI (pm_setI (pm_setI h v2 ((pm_I h a0 96).toNatClampNeg) p1) v6 ((pm_I (pm_setI h v2 ((pm_I h a0 96).toNatClampNeg) p1) a0 96).toNatClampNeg) y8) v12 ((pm_I (pm_setI (pm_setI h v2 ((pm_I h a0 96).toNatClampNeg) p1) v6 ((pm_I (pm_setI h v2 ((pm_I h a0 96).toNatClampNeg) p1) a0 96).toNatClampNeg) y8) a0 96).toNatClampNeg) p2) v16 = 32 then if pm_in (pm_I (pm_setI (pm_setI (pm_setI h v2 ((pm_I h a0 96).toNatClampNeg) p1) v6 ((pm_I (pm_setI h v2 ((pm_I h a0 96).toNatClampNeg) p1) a0 96).toNatClampNeg) y8) v12 ((pm_I (pm_setI (pm_setI h v2 ((pm_I h a0 96).toNatClampNeg) p1) v6 ((pm_I (pm_setI h v2 ((pm_I h a0 96).toNatClampNeg) p1) a0 96).toNatClampNeg) y8) a0 96).toNatClampNeg) p2) a0 96) (pm_ln (pm_setI (pm_setI (pm_setI h v2 ((pm_I h a0 96).toNatClampNeg) p1) v6 ((pm_I (pm_setI h v2 ((pm_I h a0 96).toNatClampNeg) p1) a0 96).toNatClampNeg) y8) v12 ((pm_I (pm_setI (pm_setI h v2 ((pm_I h a0 96).toNatClampNeg) p1) v6 ((pm_I (pm_setI h v2 ((pm_I h a0 96).toNatClampNeg) p1) a0 96).toNatClampNeg) y8) a0 96).toNatClampNeg) p2) v16) then pm_let ((pm_I (pm_setI (pm_setI (pm_setI (pm_setI h v2 ((pm_I h a0 96).toNatClampNeg) p1) v6 ((pm_I (pm_setI h v2 ((pm_I h a0 96).toNatClampNeg) p1) a0 96).toNatClampNeg) y8) v12 ((pm_I (pm_setI (pm_setI h v2 ((pm_I h a0 96).toNatClampNeg) p1) v6 ((pm_I (pm_setI h v2 ((pm_I h a0 96).toNatClampNeg) p1) a0 96).toNatClampNeg) y8) a0 96).toNatClampNeg) p2) v16 ((pm_I (pm_setI (pm_setI (pm_setI h v2 ((pm_I h a0 96).toNatClampNeg) p1) v6 ((pm_I (pm_setI h v2 ((pm_I h a0 96).toNatClampNeg) p1) a0 96).toNatClampNeg) y8) v12 ((pm_I (pm_setI (pm_setI h v2 ((pm_I h a0 96).toNatClampNeg) p1) v6 ((pm_I (pm_setI h v2 ((pm_I h a0 96).toNatClampNeg) p1) a0 96).toNatClampNeg) y8) a0 96).toNatClampNeg) p2) a0 96).toNatClampNeg) (vp_nar .boolean p4)) a0 96) + 1) fun y20 => some (pm_setI (pm_setI (pm_setI (pm_setI (pm_setI h v2 ((pm_I h a0 96).toNatClampNeg) p1) v6 ((pm_I (pm_setI h v2 ((pm_I h a0 96).toNatClampNeg) p1) a0 96).toNatClampNeg) y8) v12 ((pm_I (pm_setI (pm_setI h v2 ((pm_I h a0 96).toNatClampNeg) p1) v6 ((pm_I (pm_setI h v2 ((pm_I h a0 96).toNatClampNeg) p1) a0 96).toNatClampNeg) y8) a0 96).toNatClampNeg) p2) v16 ((pm_I (pm_setI (pm_setI (pm_setI h v2 ((pm_I h a0 96).toNatClampNeg) p1) v6 ((pm_I (pm_setI h v2 ((pm_I h a0 96).toNatClampNeg) p1) a0 96).toNatClampNeg) y8) v12 ((pm_I (pm_setI (pm_setI h v2 ((pm_I h a0 96).toNatClampNeg) p1) v6 ((pm_I (pm_setI h v2 ((pm_I h a0 96).toNatClampNeg) p1) a0 96).toNatClampNeg) y8) a0 96).toNatClampNeg) p2) a0 96).toNatClampNeg) (vp_nar .boolean p4)) a0 96 y20) else none else none else none else none else none else none else none else none else none
set_option maxHeartbeats 4000000 in
set_option maxRecDepth 100000 in
theorem ctX16_opens {l : Launch} {G : pm_Gl} {h : pm_H} {a0 : Nat} {p1 : Int32} {p2 : Int32} {p3 : Int32} {p4 : Int32} {r : pm_H} {Qr : Option Value → pm_H → Prop} (hf : fX16_opens h a0 p1 p2 p3 p4 = some r) (q : Qr none r) : pm_Ct l G mX16_opens [.ref a0, .int p1, .int p2, .int p3, .int p4] h 0 0 Qr := by
  refine pm_body pnX16 (Nat.le_of_ble_eq_true rfl) (fun g C X => ?_)
  have C : pm_C g cX16_opens RX16 := C
  show pm_G g 0 [(0, .ref a0), (1, .int p1), (2, .int p2), (3, .int p3), (4, .int p4)] [] h 0 0
  unfold fX16_opens at hf
  refine pm_aload_n C dX16_opens_0 rfl rfl ?_
  obtain ⟨k1, hf⟩ := pm_if hf
  obtain ⟨v2, e3, hf⟩ := pm_bd hf
  refine pm_getR C dX16_opens_1 flX16_195 rfl k1 e3 ?_
  refine pm_aload_n C dX16_opens_4 rfl rfl ?_
  refine pm_getI C dX16_opens_5 flX16_1086 rfl k1 rfl ?_
  refine pm_iload_n C dX16_opens_8 rfl rfl ?_
  obtain ⟨k4, hf⟩ := pm_if hf
  obtain ⟨u5, hf⟩ := pm_if hf
  refine pm_iast C dX16_opens_9 k4 u5 ?_
  refine pm_aload_n C dX16_opens_10 rfl rfl ?_
  obtain ⟨v6, e7, hf⟩ := pm_bd hf
  refine pm_getR C dX16_opens_11 flX16_198 rfl k1 e7 ?_
  refine pm_aload_n C dX16_opens_14 rfl rfl ?_
  refine pm_getI C dX16_opens_15 flX16_1086 rfl k1 rfl ?_
  refine pm_aload_n C dX16_opens_18 rfl rfl ?_
  refine pm_getI C dX16_opens_19 flX16_1104 rfl k1 rfl ?_
  refine pm_iload_n C dX16_opens_22 rfl rfl ?_
  refine pm_isub C dX16_opens_23 ?_
  obtain ⟨y8, e9, hf⟩ := pm_lt hf
  refine pm_topI e9 ?_
  obtain ⟨k10, hf⟩ := pm_if hf
  obtain ⟨u11, hf⟩ := pm_if hf
  refine pm_iast C dX16_opens_24 k10 u11 ?_
  refine pm_aload_n C dX16_opens_25 rfl rfl ?_
  obtain ⟨v12, e13, hf⟩ := pm_bd hf
  refine pm_getR C dX16_opens_26 flX16_201 rfl k1 e13 ?_
  refine pm_aload_n C dX16_opens_29 rfl rfl ?_
  refine pm_getI C dX16_opens_30 flX16_1086 rfl k1 rfl ?_
  refine pm_iload_n C dX16_opens_33 rfl rfl ?_
  obtain ⟨k14, hf⟩ := pm_if hf
  obtain ⟨u15, hf⟩ := pm_if hf
  refine pm_iast C dX16_opens_34 k14 u15 ?_
  refine pm_aload_n C dX16_opens_35 rfl rfl ?_
  obtain ⟨v16, e17, hf⟩ := pm_bd hf
  refine pm_getR C dX16_opens_36 flX16_204 rfl k1 e17 ?_
  refine pm_aload_n C dX16_opens_39 rfl rfl ?_
  refine pm_getI C dX16_opens_40 flX16_1086 rfl k1 rfl ?_
  refine pm_iload C dX16_opens_43 rfl ?_
  obtain ⟨k18, hf⟩ := pm_if hf
  obtain ⟨u19, hf⟩ := pm_if hf
  refine pm_zast C dX16_opens_45 k18 u19 ?_
  refine pm_aload_n C dX16_opens_46 rfl rfl ?_
  refine pm_dup C dX16_opens_47 rfl ?_
  refine pm_getI C dX16_opens_48 flX16_1086 rfl k1 rfl ?_
  refine pm_iconst (v := 1) C dX16_opens_51 (by decide) ?_
  refine pm_iadd C dX16_opens_52 ?_
  obtain ⟨y20, e21, hf⟩ := pm_lt hf
  refine pm_topI e21 ?_
  refine pm_putI C dX16_opens_53 flX16_1086 rfl rfl k1 rfl rfl ?_
  cases hf
  exact pm_vret C X dX16_opens_56 rfl (Nat.le_refl _) (Nat.le_refl _) q
theorem dX16_operandOf_0 : decode cX16_operandOf 0 = .ok (.iload_n 0, 1) := by decide +kernel
theorem dX16_operandOf_1 : decode cX16_operandOf 1 = .ok (.bipush 103, 2) := by decide +kernel
theorem dX16_operandOf_3 : decode cX16_operandOf 3 = .ok (.if_icmp .ge 41, 3) := by decide +kernel
theorem dX16_operandOf_6 : decode cX16_operandOf 6 = .ok (.iload_n 0, 1) := by decide +kernel
theorem dX16_operandOf_7 : decode cX16_operandOf 7 = .ok (.bipush 69, 2) := by decide +kernel
theorem dX16_operandOf_9 : decode cX16_operandOf 9 = .ok (.if_icmp .eq 9, 3) := by decide +kernel
theorem dX16_operandOf_12 : decode cX16_operandOf 12 = .ok (.iload_n 0, 1) := by decide +kernel
theorem dX16_operandOf_13 : decode cX16_operandOf 13 = .ok (.bipush 80, 2) := by decide +kernel
theorem dX16_operandOf_15 : decode cX16_operandOf 15 = .ok (.if_icmp .ge 7, 3) := by decide +kernel
theorem dX16_operandOf_18 : decode cX16_operandOf 18 = .ok (.iconst 0, 1) := by decide +kernel
theorem dX16_operandOf_19 : decode cX16_operandOf 19 = .ok (.goto 24, 3) := by decide +kernel
theorem dX16_operandOf_22 : decode cX16_operandOf 22 = .ok (.iload_n 0, 1) := by decide +kernel
theorem dX16_operandOf_23 : decode cX16_operandOf 23 = .ok (.bipush 91, 2) := by decide +kernel
theorem dX16_operandOf_25 : decode cX16_operandOf 25 = .ok (.if_icmp .ge 7, 3) := by decide +kernel
theorem dX16_operandOf_28 : decode cX16_operandOf 28 = .ok (.iconst 1, 1) := by decide +kernel
theorem dX16_operandOf_29 : decode cX16_operandOf 29 = .ok (.goto 14, 3) := by decide +kernel
theorem dX16_operandOf_32 : decode cX16_operandOf 32 = .ok (.iload_n 0, 1) := by decide +kernel
theorem dX16_operandOf_33 : decode cX16_operandOf 33 = .ok (.bipush 97, 2) := by decide +kernel
theorem dX16_operandOf_35 : decode cX16_operandOf 35 = .ok (.if_icmp .ge 7, 3) := by decide +kernel
theorem dX16_operandOf_38 : decode cX16_operandOf 38 = .ok (.iconst 2, 1) := by decide +kernel
theorem dX16_operandOf_39 : decode cX16_operandOf 39 = .ok (.goto 4, 3) := by decide +kernel
theorem dX16_operandOf_42 : decode cX16_operandOf 42 = .ok (.iconst 3, 1) := by decide +kernel
theorem dX16_operandOf_43 : decode cX16_operandOf 43 = .ok (.ireturn, 1) := by decide +kernel
theorem dX16_operandOf_44 : decode cX16_operandOf 44 = .ok (.iload_n 0, 1) := by decide +kernel
theorem dX16_operandOf_45 : decode cX16_operandOf 45 = .ok (.sipush 167, 3) := by decide +kernel
theorem dX16_operandOf_48 : decode cX16_operandOf 48 = .ok (.if_icmp .ge 37, 3) := by decide +kernel
theorem dX16_operandOf_51 : decode cX16_operandOf 51 = .ok (.iload_n 0, 1) := by decide +kernel
theorem dX16_operandOf_52 : decode cX16_operandOf 52 = .ok (.bipush 121, 2) := by decide +kernel
theorem dX16_operandOf_54 : decode cX16_operandOf 54 = .ok (.if_icmp .ge 7, 3) := by decide +kernel
theorem dX16_operandOf_57 : decode cX16_operandOf 57 = .ok (.iconst 0, 1) := by decide +kernel
theorem dX16_operandOf_58 : decode cX16_operandOf 58 = .ok (.goto 26, 3) := by decide +kernel
theorem dX16_operandOf_61 : decode cX16_operandOf 61 = .ok (.iload_n 0, 1) := by decide +kernel
theorem dX16_operandOf_62 : decode cX16_operandOf 62 = .ok (.sipush 139, 3) := by decide +kernel
theorem dX16_operandOf_65 : decode cX16_operandOf 65 = .ok (.if_icmp .ge 7, 3) := by decide +kernel
theorem dX16_operandOf_68 : decode cX16_operandOf 68 = .ok (.iconst 1, 1) := by decide +kernel
theorem dX16_operandOf_69 : decode cX16_operandOf 69 = .ok (.goto 15, 3) := by decide +kernel
theorem dX16_operandOf_72 : decode cX16_operandOf 72 = .ok (.iload_n 0, 1) := by decide +kernel
theorem dX16_operandOf_73 : decode cX16_operandOf 73 = .ok (.sipush 153, 3) := by decide +kernel
theorem dX16_operandOf_76 : decode cX16_operandOf 76 = .ok (.if_icmp .ge 7, 3) := by decide +kernel
theorem dX16_operandOf_79 : decode cX16_operandOf 79 = .ok (.iconst 2, 1) := by decide +kernel
theorem dX16_operandOf_80 : decode cX16_operandOf 80 = .ok (.goto 4, 3) := by decide +kernel
theorem dX16_operandOf_83 : decode cX16_operandOf 83 = .ok (.iconst 3, 1) := by decide +kernel
theorem dX16_operandOf_84 : decode cX16_operandOf 84 = .ok (.ireturn, 1) := by decide +kernel
theorem dX16_operandOf_85 : decode cX16_operandOf 85 = .ok (.iload_n 0, 1) := by decide +kernel
theorem dX16_operandOf_86 : decode cX16_operandOf 86 = .ok (.tableswitch 176 167 205 #[172, 174, 174, 176, 176, 170, 170, 174, 174, 176, 176, 170, 170, 172, 172, 176, 170, 170, 172, 172, 174, 174, 176, 170, 172, 170, 170, 172, 172, 172, 176, 176, 176, 174, 174, 176, 176, 174, 174], 170) := by decide +kernel
theorem dX16_operandOf_256 : decode cX16_operandOf 256 = .ok (.iconst 0, 1) := by decide +kernel
theorem dX16_operandOf_257 : decode cX16_operandOf 257 = .ok (.ireturn, 1) := by decide +kernel
theorem dX16_operandOf_258 : decode cX16_operandOf 258 = .ok (.iconst 1, 1) := by decide +kernel
theorem dX16_operandOf_259 : decode cX16_operandOf 259 = .ok (.ireturn, 1) := by decide +kernel
theorem dX16_operandOf_260 : decode cX16_operandOf 260 = .ok (.iconst 2, 1) := by decide +kernel
theorem dX16_operandOf_261 : decode cX16_operandOf 261 = .ok (.ireturn, 1) := by decide +kernel
theorem dX16_operandOf_262 : decode cX16_operandOf 262 = .ok (.iconst 3, 1) := by decide +kernel
theorem dX16_operandOf_263 : decode cX16_operandOf 263 = .ok (.ireturn, 1) := by decide +kernel
def fX16_operandOf (p1 : Int32) : Int32 := if 103 ≤ p1 then (if 167 ≤ p1 then (if p1 = 167 then (1) else (if p1 = 168 then (2) else (if p1 = 169 then (2) else (if p1 = 170 then (3) else (if p1 = 171 then (3) else (if p1 = 172 then (0) else (if p1 = 173 then (0) else (if p1 = 174 then (2) else (if p1 = 175 then (2) else (if p1 = 176 then (3) else (if p1 = 177 then (3) else (if p1 = 178 then (0) else (if p1 = 179 then (0) else (if p1 = 180 then (1) else (if p1 = 181 then (1) else (if p1 = 182 then (3) else (if p1 = 183 then (0) else (if p1 = 184 then (0) else (if p1 = 185 then (1) else (if p1 = 186 then (1) else (if p1 = 187 then (2) else (if p1 = 188 then (2) else (if p1 = 189 then (3) else (if p1 = 190 then (0) else (if p1 = 191 then (1) else (if p1 = 192 then (0) else (if p1 = 193 then (0) else (if p1 = 194 then (1) else (if p1 = 195 then (1) else (if p1 = 196 then (1) else (if p1 = 197 then (3) else (if p1 = 198 then (3) else (if p1 = 199 then (3) else (if p1 = 200 then (2) else (if p1 = 201 then (2) else (if p1 = 202 then (3) else (if p1 = 203 then (3) else (if p1 = 204 then (2) else (if p1 = 205 then (2) else (3)))))))))))))))))))))))))))))))))))))))) else (if 121 ≤ p1 then (if 139 ≤ p1 then (if 153 ≤ p1 then (3) else (2)) else (1)) else (0))) else (if p1 = 69 then (0) else (if 80 ≤ p1 then (if 91 ≤ p1 then (if 97 ≤ p1 then (3) else (2)) else (1)) else (0)))
set_option maxHeartbeats 4000000 in
set_option maxRecDepth 100000 in
theorem ctX16_operandOf {l : Launch} {G : pm_Gl} {h : pm_H} {p1 : Int32} {r : Int32} {Qr : Option Value → pm_H → Prop} (hf : fX16_operandOf p1 = r) (q : Qr (some (.int r)) h) : pm_Ct l G mX16_operandOf [.int p1] h 0 0 Qr := by
  refine pm_body pnX16 (Nat.le_of_ble_eq_true rfl) (fun g C X => ?_)
  have C : pm_C g cX16_operandOf RX16 := C
  show pm_G g 0 [(0, .int p1)] [] h 0 0
  unfold fX16_operandOf at hf
  refine pm_iload_n C dX16_operandOf_0 rfl rfl ?_
  refine pm_bipush (v := 103) C dX16_operandOf_1 (by decide) ?_
  refine pm_icmp_ge (tgt := 44) C dX16_operandOf_3 (by decide) (fun c1 => ?_) (fun c1 => ?_)
  · have hf := pm_it hf c1
    refine pm_iload_n C dX16_operandOf_44 rfl rfl ?_
    refine pm_sipush (v := 167) C dX16_operandOf_45 (by decide) ?_
    refine pm_icmp_ge (tgt := 85) C dX16_operandOf_48 (by decide) (fun c2 => ?_) (fun c2 => ?_)
    · have hf := pm_it hf c2
      refine pm_iload_n C dX16_operandOf_85 rfl rfl ?_
      by_cases c3 : p1 = 167
      · have hf := pm_it hf c3
        refine pm_tableIn (tgt := 258) C dX16_operandOf_86 (by rw [c3]; decide) (by rw [c3]; decide) (by rw [c3]; rfl) (by decide) ?_
        refine pm_iconst (v := 1) C dX16_operandOf_258 (by decide) ?_
        subst hf
        exact pm_iret C X dX16_operandOf_259 rfl (Nat.le_refl _) (Nat.le_refl _) q
      have hf := pm_ie hf c3
      by_cases c4 : p1 = 168
      · have hf := pm_it hf c4
        refine pm_tableIn (tgt := 260) C dX16_operandOf_86 (by rw [c4]; decide) (by rw [c4]; decide) (by rw [c4]; rfl) (by decide) ?_
        refine pm_iconst (v := 2) C dX16_operandOf_260 (by decide) ?_
        subst hf
        exact pm_iret C X dX16_operandOf_261 rfl (Nat.le_refl _) (Nat.le_refl _) q
      have hf := pm_ie hf c4
      by_cases c5 : p1 = 169
      · have hf := pm_it hf c5
        refine pm_tableIn (tgt := 260) C dX16_operandOf_86 (by rw [c5]; decide) (by rw [c5]; decide) (by rw [c5]; rfl) (by decide) ?_
        refine pm_iconst (v := 2) C dX16_operandOf_260 (by decide) ?_
        subst hf
        exact pm_iret C X dX16_operandOf_261 rfl (Nat.le_refl _) (Nat.le_refl _) q
      have hf := pm_ie hf c5
      by_cases c6 : p1 = 170
      · have hf := pm_it hf c6
        refine pm_tableIn (tgt := 262) C dX16_operandOf_86 (by rw [c6]; decide) (by rw [c6]; decide) (by rw [c6]; rfl) (by decide) ?_
        refine pm_iconst (v := 3) C dX16_operandOf_262 (by decide) ?_
        subst hf
        exact pm_iret C X dX16_operandOf_263 rfl (Nat.le_refl _) (Nat.le_refl _) q
      have hf := pm_ie hf c6
      by_cases c7 : p1 = 171
      · have hf := pm_it hf c7
        refine pm_tableIn (tgt := 262) C dX16_operandOf_86 (by rw [c7]; decide) (by rw [c7]; decide) (by rw [c7]; rfl) (by decide) ?_
        refine pm_iconst (v := 3) C dX16_operandOf_262 (by decide) ?_
        subst hf
        exact pm_iret C X dX16_operandOf_263 rfl (Nat.le_refl _) (Nat.le_refl _) q
      have hf := pm_ie hf c7
      by_cases c8 : p1 = 172
      · have hf := pm_it hf c8
        refine pm_tableIn (tgt := 256) C dX16_operandOf_86 (by rw [c8]; decide) (by rw [c8]; decide) (by rw [c8]; rfl) (by decide) ?_
        refine pm_iconst (v := 0) C dX16_operandOf_256 (by decide) ?_
        subst hf
        exact pm_iret C X dX16_operandOf_257 rfl (Nat.le_refl _) (Nat.le_refl _) q
      have hf := pm_ie hf c8
      by_cases c9 : p1 = 173
      · have hf := pm_it hf c9
        refine pm_tableIn (tgt := 256) C dX16_operandOf_86 (by rw [c9]; decide) (by rw [c9]; decide) (by rw [c9]; rfl) (by decide) ?_
        refine pm_iconst (v := 0) C dX16_operandOf_256 (by decide) ?_
        subst hf
        exact pm_iret C X dX16_operandOf_257 rfl (Nat.le_refl _) (Nat.le_refl _) q
      have hf := pm_ie hf c9
      by_cases c10 : p1 = 174
      · have hf := pm_it hf c10
        refine pm_tableIn (tgt := 260) C dX16_operandOf_86 (by rw [c10]; decide) (by rw [c10]; decide) (by rw [c10]; rfl) (by decide) ?_
        refine pm_iconst (v := 2) C dX16_operandOf_260 (by decide) ?_
        subst hf
        exact pm_iret C X dX16_operandOf_261 rfl (Nat.le_refl _) (Nat.le_refl _) q
      have hf := pm_ie hf c10
      by_cases c11 : p1 = 175
      · have hf := pm_it hf c11
        refine pm_tableIn (tgt := 260) C dX16_operandOf_86 (by rw [c11]; decide) (by rw [c11]; decide) (by rw [c11]; rfl) (by decide) ?_
        refine pm_iconst (v := 2) C dX16_operandOf_260 (by decide) ?_
        subst hf
        exact pm_iret C X dX16_operandOf_261 rfl (Nat.le_refl _) (Nat.le_refl _) q
      have hf := pm_ie hf c11
      by_cases c12 : p1 = 176
      · have hf := pm_it hf c12
        refine pm_tableIn (tgt := 262) C dX16_operandOf_86 (by rw [c12]; decide) (by rw [c12]; decide) (by rw [c12]; rfl) (by decide) ?_
        refine pm_iconst (v := 3) C dX16_operandOf_262 (by decide) ?_
        subst hf
        exact pm_iret C X dX16_operandOf_263 rfl (Nat.le_refl _) (Nat.le_refl _) q
      have hf := pm_ie hf c12
      by_cases c13 : p1 = 177
      · have hf := pm_it hf c13
        refine pm_tableIn (tgt := 262) C dX16_operandOf_86 (by rw [c13]; decide) (by rw [c13]; decide) (by rw [c13]; rfl) (by decide) ?_
        refine pm_iconst (v := 3) C dX16_operandOf_262 (by decide) ?_
        subst hf
        exact pm_iret C X dX16_operandOf_263 rfl (Nat.le_refl _) (Nat.le_refl _) q
      have hf := pm_ie hf c13
      by_cases c14 : p1 = 178
      · have hf := pm_it hf c14
        refine pm_tableIn (tgt := 256) C dX16_operandOf_86 (by rw [c14]; decide) (by rw [c14]; decide) (by rw [c14]; rfl) (by decide) ?_
        refine pm_iconst (v := 0) C dX16_operandOf_256 (by decide) ?_
        subst hf
        exact pm_iret C X dX16_operandOf_257 rfl (Nat.le_refl _) (Nat.le_refl _) q
      have hf := pm_ie hf c14
      by_cases c15 : p1 = 179
      · have hf := pm_it hf c15
        refine pm_tableIn (tgt := 256) C dX16_operandOf_86 (by rw [c15]; decide) (by rw [c15]; decide) (by rw [c15]; rfl) (by decide) ?_
        refine pm_iconst (v := 0) C dX16_operandOf_256 (by decide) ?_
        subst hf
        exact pm_iret C X dX16_operandOf_257 rfl (Nat.le_refl _) (Nat.le_refl _) q
      have hf := pm_ie hf c15
      by_cases c16 : p1 = 180
      · have hf := pm_it hf c16
        refine pm_tableIn (tgt := 258) C dX16_operandOf_86 (by rw [c16]; decide) (by rw [c16]; decide) (by rw [c16]; rfl) (by decide) ?_
        refine pm_iconst (v := 1) C dX16_operandOf_258 (by decide) ?_
        subst hf
        exact pm_iret C X dX16_operandOf_259 rfl (Nat.le_refl _) (Nat.le_refl _) q
      have hf := pm_ie hf c16
      by_cases c17 : p1 = 181
      · have hf := pm_it hf c17
        refine pm_tableIn (tgt := 258) C dX16_operandOf_86 (by rw [c17]; decide) (by rw [c17]; decide) (by rw [c17]; rfl) (by decide) ?_
        refine pm_iconst (v := 1) C dX16_operandOf_258 (by decide) ?_
        subst hf
        exact pm_iret C X dX16_operandOf_259 rfl (Nat.le_refl _) (Nat.le_refl _) q
      have hf := pm_ie hf c17
      by_cases c18 : p1 = 182
      · have hf := pm_it hf c18
        refine pm_tableIn (tgt := 262) C dX16_operandOf_86 (by rw [c18]; decide) (by rw [c18]; decide) (by rw [c18]; rfl) (by decide) ?_
        refine pm_iconst (v := 3) C dX16_operandOf_262 (by decide) ?_
        subst hf
        exact pm_iret C X dX16_operandOf_263 rfl (Nat.le_refl _) (Nat.le_refl _) q
      have hf := pm_ie hf c18
      by_cases c19 : p1 = 183
      · have hf := pm_it hf c19
        refine pm_tableIn (tgt := 256) C dX16_operandOf_86 (by rw [c19]; decide) (by rw [c19]; decide) (by rw [c19]; rfl) (by decide) ?_
        refine pm_iconst (v := 0) C dX16_operandOf_256 (by decide) ?_
        subst hf
        exact pm_iret C X dX16_operandOf_257 rfl (Nat.le_refl _) (Nat.le_refl _) q
      have hf := pm_ie hf c19
      by_cases c20 : p1 = 184
      · have hf := pm_it hf c20
        refine pm_tableIn (tgt := 256) C dX16_operandOf_86 (by rw [c20]; decide) (by rw [c20]; decide) (by rw [c20]; rfl) (by decide) ?_
        refine pm_iconst (v := 0) C dX16_operandOf_256 (by decide) ?_
        subst hf
        exact pm_iret C X dX16_operandOf_257 rfl (Nat.le_refl _) (Nat.le_refl _) q
      have hf := pm_ie hf c20
      by_cases c21 : p1 = 185
      · have hf := pm_it hf c21
        refine pm_tableIn (tgt := 258) C dX16_operandOf_86 (by rw [c21]; decide) (by rw [c21]; decide) (by rw [c21]; rfl) (by decide) ?_
        refine pm_iconst (v := 1) C dX16_operandOf_258 (by decide) ?_
        subst hf
        exact pm_iret C X dX16_operandOf_259 rfl (Nat.le_refl _) (Nat.le_refl _) q
      have hf := pm_ie hf c21
      by_cases c22 : p1 = 186
      · have hf := pm_it hf c22
        refine pm_tableIn (tgt := 258) C dX16_operandOf_86 (by rw [c22]; decide) (by rw [c22]; decide) (by rw [c22]; rfl) (by decide) ?_
        refine pm_iconst (v := 1) C dX16_operandOf_258 (by decide) ?_
        subst hf
        exact pm_iret C X dX16_operandOf_259 rfl (Nat.le_refl _) (Nat.le_refl _) q
      have hf := pm_ie hf c22
      by_cases c23 : p1 = 187
      · have hf := pm_it hf c23
        refine pm_tableIn (tgt := 260) C dX16_operandOf_86 (by rw [c23]; decide) (by rw [c23]; decide) (by rw [c23]; rfl) (by decide) ?_
        refine pm_iconst (v := 2) C dX16_operandOf_260 (by decide) ?_
        subst hf
        exact pm_iret C X dX16_operandOf_261 rfl (Nat.le_refl _) (Nat.le_refl _) q
      have hf := pm_ie hf c23
      by_cases c24 : p1 = 188
      · have hf := pm_it hf c24
        refine pm_tableIn (tgt := 260) C dX16_operandOf_86 (by rw [c24]; decide) (by rw [c24]; decide) (by rw [c24]; rfl) (by decide) ?_
        refine pm_iconst (v := 2) C dX16_operandOf_260 (by decide) ?_
        subst hf
        exact pm_iret C X dX16_operandOf_261 rfl (Nat.le_refl _) (Nat.le_refl _) q
      have hf := pm_ie hf c24
      by_cases c25 : p1 = 189
      · have hf := pm_it hf c25
        refine pm_tableIn (tgt := 262) C dX16_operandOf_86 (by rw [c25]; decide) (by rw [c25]; decide) (by rw [c25]; rfl) (by decide) ?_
        refine pm_iconst (v := 3) C dX16_operandOf_262 (by decide) ?_
        subst hf
        exact pm_iret C X dX16_operandOf_263 rfl (Nat.le_refl _) (Nat.le_refl _) q
      have hf := pm_ie hf c25
      by_cases c26 : p1 = 190
      · have hf := pm_it hf c26
        refine pm_tableIn (tgt := 256) C dX16_operandOf_86 (by rw [c26]; decide) (by rw [c26]; decide) (by rw [c26]; rfl) (by decide) ?_
        refine pm_iconst (v := 0) C dX16_operandOf_256 (by decide) ?_
        subst hf
        exact pm_iret C X dX16_operandOf_257 rfl (Nat.le_refl _) (Nat.le_refl _) q
      have hf := pm_ie hf c26
      by_cases c27 : p1 = 191
      · have hf := pm_it hf c27
        refine pm_tableIn (tgt := 258) C dX16_operandOf_86 (by rw [c27]; decide) (by rw [c27]; decide) (by rw [c27]; rfl) (by decide) ?_
        refine pm_iconst (v := 1) C dX16_operandOf_258 (by decide) ?_
        subst hf
        exact pm_iret C X dX16_operandOf_259 rfl (Nat.le_refl _) (Nat.le_refl _) q
      have hf := pm_ie hf c27
      by_cases c28 : p1 = 192
      · have hf := pm_it hf c28
        refine pm_tableIn (tgt := 256) C dX16_operandOf_86 (by rw [c28]; decide) (by rw [c28]; decide) (by rw [c28]; rfl) (by decide) ?_
        refine pm_iconst (v := 0) C dX16_operandOf_256 (by decide) ?_
        subst hf
        exact pm_iret C X dX16_operandOf_257 rfl (Nat.le_refl _) (Nat.le_refl _) q
      have hf := pm_ie hf c28
      by_cases c29 : p1 = 193
      · have hf := pm_it hf c29
        refine pm_tableIn (tgt := 256) C dX16_operandOf_86 (by rw [c29]; decide) (by rw [c29]; decide) (by rw [c29]; rfl) (by decide) ?_
        refine pm_iconst (v := 0) C dX16_operandOf_256 (by decide) ?_
        subst hf
        exact pm_iret C X dX16_operandOf_257 rfl (Nat.le_refl _) (Nat.le_refl _) q
      have hf := pm_ie hf c29
      by_cases c30 : p1 = 194
      · have hf := pm_it hf c30
        refine pm_tableIn (tgt := 258) C dX16_operandOf_86 (by rw [c30]; decide) (by rw [c30]; decide) (by rw [c30]; rfl) (by decide) ?_
        refine pm_iconst (v := 1) C dX16_operandOf_258 (by decide) ?_
        subst hf
        exact pm_iret C X dX16_operandOf_259 rfl (Nat.le_refl _) (Nat.le_refl _) q
      have hf := pm_ie hf c30
      by_cases c31 : p1 = 195
      · have hf := pm_it hf c31
        refine pm_tableIn (tgt := 258) C dX16_operandOf_86 (by rw [c31]; decide) (by rw [c31]; decide) (by rw [c31]; rfl) (by decide) ?_
        refine pm_iconst (v := 1) C dX16_operandOf_258 (by decide) ?_
        subst hf
        exact pm_iret C X dX16_operandOf_259 rfl (Nat.le_refl _) (Nat.le_refl _) q
      have hf := pm_ie hf c31
      by_cases c32 : p1 = 196
      · have hf := pm_it hf c32
        refine pm_tableIn (tgt := 258) C dX16_operandOf_86 (by rw [c32]; decide) (by rw [c32]; decide) (by rw [c32]; rfl) (by decide) ?_
        refine pm_iconst (v := 1) C dX16_operandOf_258 (by decide) ?_
        subst hf
        exact pm_iret C X dX16_operandOf_259 rfl (Nat.le_refl _) (Nat.le_refl _) q
      have hf := pm_ie hf c32
      by_cases c33 : p1 = 197
      · have hf := pm_it hf c33
        refine pm_tableIn (tgt := 262) C dX16_operandOf_86 (by rw [c33]; decide) (by rw [c33]; decide) (by rw [c33]; rfl) (by decide) ?_
        refine pm_iconst (v := 3) C dX16_operandOf_262 (by decide) ?_
        subst hf
        exact pm_iret C X dX16_operandOf_263 rfl (Nat.le_refl _) (Nat.le_refl _) q
      have hf := pm_ie hf c33
      by_cases c34 : p1 = 198
      · have hf := pm_it hf c34
        refine pm_tableIn (tgt := 262) C dX16_operandOf_86 (by rw [c34]; decide) (by rw [c34]; decide) (by rw [c34]; rfl) (by decide) ?_
        refine pm_iconst (v := 3) C dX16_operandOf_262 (by decide) ?_
        subst hf
        exact pm_iret C X dX16_operandOf_263 rfl (Nat.le_refl _) (Nat.le_refl _) q
      have hf := pm_ie hf c34
      by_cases c35 : p1 = 199
      · have hf := pm_it hf c35
        refine pm_tableIn (tgt := 262) C dX16_operandOf_86 (by rw [c35]; decide) (by rw [c35]; decide) (by rw [c35]; rfl) (by decide) ?_
        refine pm_iconst (v := 3) C dX16_operandOf_262 (by decide) ?_
        subst hf
        exact pm_iret C X dX16_operandOf_263 rfl (Nat.le_refl _) (Nat.le_refl _) q
      have hf := pm_ie hf c35
      by_cases c36 : p1 = 200
      · have hf := pm_it hf c36
        refine pm_tableIn (tgt := 260) C dX16_operandOf_86 (by rw [c36]; decide) (by rw [c36]; decide) (by rw [c36]; rfl) (by decide) ?_
        refine pm_iconst (v := 2) C dX16_operandOf_260 (by decide) ?_
        subst hf
        exact pm_iret C X dX16_operandOf_261 rfl (Nat.le_refl _) (Nat.le_refl _) q
      have hf := pm_ie hf c36
      by_cases c37 : p1 = 201
      · have hf := pm_it hf c37
        refine pm_tableIn (tgt := 260) C dX16_operandOf_86 (by rw [c37]; decide) (by rw [c37]; decide) (by rw [c37]; rfl) (by decide) ?_
        refine pm_iconst (v := 2) C dX16_operandOf_260 (by decide) ?_
        subst hf
        exact pm_iret C X dX16_operandOf_261 rfl (Nat.le_refl _) (Nat.le_refl _) q
      have hf := pm_ie hf c37
      by_cases c38 : p1 = 202
      · have hf := pm_it hf c38
        refine pm_tableIn (tgt := 262) C dX16_operandOf_86 (by rw [c38]; decide) (by rw [c38]; decide) (by rw [c38]; rfl) (by decide) ?_
        refine pm_iconst (v := 3) C dX16_operandOf_262 (by decide) ?_
        subst hf
        exact pm_iret C X dX16_operandOf_263 rfl (Nat.le_refl _) (Nat.le_refl _) q
      have hf := pm_ie hf c38
      by_cases c39 : p1 = 203
      · have hf := pm_it hf c39
        refine pm_tableIn (tgt := 262) C dX16_operandOf_86 (by rw [c39]; decide) (by rw [c39]; decide) (by rw [c39]; rfl) (by decide) ?_
        refine pm_iconst (v := 3) C dX16_operandOf_262 (by decide) ?_
        subst hf
        exact pm_iret C X dX16_operandOf_263 rfl (Nat.le_refl _) (Nat.le_refl _) q
      have hf := pm_ie hf c39
      by_cases c40 : p1 = 204
      · have hf := pm_it hf c40
        refine pm_tableIn (tgt := 260) C dX16_operandOf_86 (by rw [c40]; decide) (by rw [c40]; decide) (by rw [c40]; rfl) (by decide) ?_
        refine pm_iconst (v := 2) C dX16_operandOf_260 (by decide) ?_
        subst hf
        exact pm_iret C X dX16_operandOf_261 rfl (Nat.le_refl _) (Nat.le_refl _) q
      have hf := pm_ie hf c40
      by_cases c41 : p1 = 205
      · have hf := pm_it hf c41
        refine pm_tableIn (tgt := 260) C dX16_operandOf_86 (by rw [c41]; decide) (by rw [c41]; decide) (by rw [c41]; rfl) (by decide) ?_
        refine pm_iconst (v := 2) C dX16_operandOf_260 (by decide) ?_
        subst hf
        exact pm_iret C X dX16_operandOf_261 rfl (Nat.le_refl _) (Nat.le_refl _) q
      have hf := pm_ie hf c41
      have nc3 := lv_neT c3 (by decide : (167 : Int32).toInt = 167)
      have nc4 := lv_neT c4 (by decide : (168 : Int32).toInt = 168)
      have nc5 := lv_neT c5 (by decide : (169 : Int32).toInt = 169)
      have nc6 := lv_neT c6 (by decide : (170 : Int32).toInt = 170)
      have nc7 := lv_neT c7 (by decide : (171 : Int32).toInt = 171)
      have nc8 := lv_neT c8 (by decide : (172 : Int32).toInt = 172)
      have nc9 := lv_neT c9 (by decide : (173 : Int32).toInt = 173)
      have nc10 := lv_neT c10 (by decide : (174 : Int32).toInt = 174)
      have nc11 := lv_neT c11 (by decide : (175 : Int32).toInt = 175)
      have nc12 := lv_neT c12 (by decide : (176 : Int32).toInt = 176)
      have nc13 := lv_neT c13 (by decide : (177 : Int32).toInt = 177)
      have nc14 := lv_neT c14 (by decide : (178 : Int32).toInt = 178)
      have nc15 := lv_neT c15 (by decide : (179 : Int32).toInt = 179)
      have nc16 := lv_neT c16 (by decide : (180 : Int32).toInt = 180)
      have nc17 := lv_neT c17 (by decide : (181 : Int32).toInt = 181)
      have nc18 := lv_neT c18 (by decide : (182 : Int32).toInt = 182)
      have nc19 := lv_neT c19 (by decide : (183 : Int32).toInt = 183)
      have nc20 := lv_neT c20 (by decide : (184 : Int32).toInt = 184)
      have nc21 := lv_neT c21 (by decide : (185 : Int32).toInt = 185)
      have nc22 := lv_neT c22 (by decide : (186 : Int32).toInt = 186)
      have nc23 := lv_neT c23 (by decide : (187 : Int32).toInt = 187)
      have nc24 := lv_neT c24 (by decide : (188 : Int32).toInt = 188)
      have nc25 := lv_neT c25 (by decide : (189 : Int32).toInt = 189)
      have nc26 := lv_neT c26 (by decide : (190 : Int32).toInt = 190)
      have nc27 := lv_neT c27 (by decide : (191 : Int32).toInt = 191)
      have nc28 := lv_neT c28 (by decide : (192 : Int32).toInt = 192)
      have nc29 := lv_neT c29 (by decide : (193 : Int32).toInt = 193)
      have nc30 := lv_neT c30 (by decide : (194 : Int32).toInt = 194)
      have nc31 := lv_neT c31 (by decide : (195 : Int32).toInt = 195)
      have nc32 := lv_neT c32 (by decide : (196 : Int32).toInt = 196)
      have nc33 := lv_neT c33 (by decide : (197 : Int32).toInt = 197)
      have nc34 := lv_neT c34 (by decide : (198 : Int32).toInt = 198)
      have nc35 := lv_neT c35 (by decide : (199 : Int32).toInt = 199)
      have nc36 := lv_neT c36 (by decide : (200 : Int32).toInt = 200)
      have nc37 := lv_neT c37 (by decide : (201 : Int32).toInt = 201)
      have nc38 := lv_neT c38 (by decide : (202 : Int32).toInt = 202)
      have nc39 := lv_neT c39 (by decide : (203 : Int32).toInt = 203)
      have nc40 := lv_neT c40 (by decide : (204 : Int32).toInt = 204)
      have nc41 := lv_neT c41 (by decide : (205 : Int32).toInt = 205)
      refine pm_tableOut (tgt := 262) C dX16_operandOf_86 (by omega) (by decide) ?_
      refine pm_iconst (v := 3) C dX16_operandOf_262 (by decide) ?_
      subst hf
      exact pm_iret C X dX16_operandOf_263 rfl (Nat.le_refl _) (Nat.le_refl _) q
    · have hf := pm_ie hf c2
      refine pm_iload_n C dX16_operandOf_51 rfl rfl ?_
      refine pm_bipush (v := 121) C dX16_operandOf_52 (by decide) ?_
      refine pm_icmp_ge (tgt := 61) C dX16_operandOf_54 (by decide) (fun c42 => ?_) (fun c42 => ?_)
      · have hf := pm_it hf c42
        refine pm_iload_n C dX16_operandOf_61 rfl rfl ?_
        refine pm_sipush (v := 139) C dX16_operandOf_62 (by decide) ?_
        refine pm_icmp_ge (tgt := 72) C dX16_operandOf_65 (by decide) (fun c43 => ?_) (fun c43 => ?_)
        · have hf := pm_it hf c43
          refine pm_iload_n C dX16_operandOf_72 rfl rfl ?_
          refine pm_sipush (v := 153) C dX16_operandOf_73 (by decide) ?_
          refine pm_icmp_ge (tgt := 83) C dX16_operandOf_76 (by decide) (fun c44 => ?_) (fun c44 => ?_)
          · have hf := pm_it hf c44
            refine pm_iconst (v := 3) C dX16_operandOf_83 (by decide) ?_
            subst hf
            exact pm_iret C X dX16_operandOf_84 rfl (Nat.le_refl _) (Nat.le_refl _) q
          · have hf := pm_ie hf c44
            refine pm_iconst (v := 2) C dX16_operandOf_79 (by decide) ?_
            refine pm_goto (tgt := 84) C dX16_operandOf_80 (by decide) ?_
            subst hf
            exact pm_iret C X dX16_operandOf_84 rfl (Nat.le_refl _) (Nat.le_refl _) q
        · have hf := pm_ie hf c43
          refine pm_iconst (v := 1) C dX16_operandOf_68 (by decide) ?_
          refine pm_goto (tgt := 84) C dX16_operandOf_69 (by decide) ?_
          subst hf
          exact pm_iret C X dX16_operandOf_84 rfl (Nat.le_refl _) (Nat.le_refl _) q
      · have hf := pm_ie hf c42
        refine pm_iconst (v := 0) C dX16_operandOf_57 (by decide) ?_
        refine pm_goto (tgt := 84) C dX16_operandOf_58 (by decide) ?_
        subst hf
        exact pm_iret C X dX16_operandOf_84 rfl (Nat.le_refl _) (Nat.le_refl _) q
  · have hf := pm_ie hf c1
    refine pm_iload_n C dX16_operandOf_6 rfl rfl ?_
    refine pm_bipush (v := 69) C dX16_operandOf_7 (by decide) ?_
    refine pm_icmp_eq (tgt := 18) C dX16_operandOf_9 (by decide) (fun c45 => ?_) (fun c45 => ?_)
    · have hf := pm_it hf c45
      refine pm_iconst (v := 0) C dX16_operandOf_18 (by decide) ?_
      refine pm_goto (tgt := 43) C dX16_operandOf_19 (by decide) ?_
      subst hf
      exact pm_iret C X dX16_operandOf_43 rfl (Nat.le_refl _) (Nat.le_refl _) q
    · have hf := pm_ie hf c45
      refine pm_iload_n C dX16_operandOf_12 rfl rfl ?_
      refine pm_bipush (v := 80) C dX16_operandOf_13 (by decide) ?_
      refine pm_icmp_ge (tgt := 22) C dX16_operandOf_15 (by decide) (fun c46 => ?_) (fun c46 => ?_)
      · have hf := pm_it hf c46
        refine pm_iload_n C dX16_operandOf_22 rfl rfl ?_
        refine pm_bipush (v := 91) C dX16_operandOf_23 (by decide) ?_
        refine pm_icmp_ge (tgt := 32) C dX16_operandOf_25 (by decide) (fun c47 => ?_) (fun c47 => ?_)
        · have hf := pm_it hf c47
          refine pm_iload_n C dX16_operandOf_32 rfl rfl ?_
          refine pm_bipush (v := 97) C dX16_operandOf_33 (by decide) ?_
          refine pm_icmp_ge (tgt := 42) C dX16_operandOf_35 (by decide) (fun c48 => ?_) (fun c48 => ?_)
          · have hf := pm_it hf c48
            refine pm_iconst (v := 3) C dX16_operandOf_42 (by decide) ?_
            subst hf
            exact pm_iret C X dX16_operandOf_43 rfl (Nat.le_refl _) (Nat.le_refl _) q
          · have hf := pm_ie hf c48
            refine pm_iconst (v := 2) C dX16_operandOf_38 (by decide) ?_
            refine pm_goto (tgt := 43) C dX16_operandOf_39 (by decide) ?_
            subst hf
            exact pm_iret C X dX16_operandOf_43 rfl (Nat.le_refl _) (Nat.le_refl _) q
        · have hf := pm_ie hf c47
          refine pm_iconst (v := 1) C dX16_operandOf_28 (by decide) ?_
          refine pm_goto (tgt := 43) C dX16_operandOf_29 (by decide) ?_
          subst hf
          exact pm_iret C X dX16_operandOf_43 rfl (Nat.le_refl _) (Nat.le_refl _) q
      · have hf := pm_ie hf c46
        refine pm_iconst (v := 0) C dX16_operandOf_18 (by decide) ?_
        refine pm_goto (tgt := 43) C dX16_operandOf_19 (by decide) ?_
        subst hf
        exact pm_iret C X dX16_operandOf_43 rfl (Nat.le_refl _) (Nat.le_refl _) q
theorem dX16_parameterAt_0 : decode cX16_parameterAt 0 = .ok (.aload_n 0, 1) := by decide +kernel
theorem dX16_parameterAt_1 : decode cX16_parameterAt 1 = .ok (.getfield 221, 3) := by decide +kernel
theorem dX16_parameterAt_4 : decode cX16_parameterAt 4 = .ok (.getfield 374, 3) := by decide +kernel
theorem dX16_parameterAt_7 : decode cX16_parameterAt 7 = .ok (.bipush 32, 2) := by decide +kernel
theorem dX16_parameterAt_9 : decode cX16_parameterAt 9 = .ok (.lload_n 1, 1) := by decide +kernel
theorem dX16_parameterAt_10 : decode cX16_parameterAt 10 = .ok (.l2i, 1) := by decide +kernel
theorem dX16_parameterAt_11 : decode cX16_parameterAt 11 = .ok (.imul, 1) := by decide +kernel
theorem dX16_parameterAt_12 : decode cX16_parameterAt 12 = .ok (.iload_n 3, 1) := by decide +kernel
theorem dX16_parameterAt_13 : decode cX16_parameterAt 13 = .ok (.iadd, 1) := by decide +kernel
theorem dX16_parameterAt_14 : decode cX16_parameterAt 14 = .ok (.iaload, 1) := by decide +kernel
theorem dX16_parameterAt_15 : decode cX16_parameterAt 15 = .ok (.ireturn, 1) := by decide +kernel
def fX16_parameterAt (h : pm_H) (a0 : Nat) (p1 : Int64) (p2 : Int32) : Option Int32 := if pm_kd h a0 = 16 then (pm_R h a0 10).bind fun v2 => if pm_kd h v2 = 14 then (pm_R h v2 7).bind fun v5 => pm_let ((32 * p1.toInt32) + p2) fun y7 => if pm_kd h v5 = 34 then if pm_in y7 (pm_ln h v5) then some (pm_I h v5 y7.toNatClampNeg) else none else none else none else none
set_option maxHeartbeats 4000000 in
set_option maxRecDepth 100000 in
theorem ctX16_parameterAt {l : Launch} {G : pm_Gl} {h : pm_H} {a0 : Nat} {p1 : Int64} {p2 : Int32} {r : Int32} {Qr : Option Value → pm_H → Prop} (hf : fX16_parameterAt h a0 p1 p2 = some r) (q : Qr (some (.int r)) h) : pm_Ct l G mX16_parameterAt [.ref a0, .long p1, .int p2] h 0 0 Qr := by
  refine pm_body pnX16 (Nat.le_of_ble_eq_true rfl) (fun g C X => ?_)
  have C : pm_C g cX16_parameterAt RX16 := C
  show pm_G g 0 [(0, .ref a0), (1, .long p1), (3, .int p2)] [] h 0 0
  unfold fX16_parameterAt at hf
  refine pm_aload_n C dX16_parameterAt_0 rfl rfl ?_
  obtain ⟨k1, hf⟩ := pm_if hf
  obtain ⟨v2, e3, hf⟩ := pm_bd hf
  refine pm_getR C dX16_parameterAt_1 flX16_221 rfl k1 e3 ?_
  obtain ⟨k4, hf⟩ := pm_if hf
  obtain ⟨v5, e6, hf⟩ := pm_bd hf
  refine pm_getR C dX16_parameterAt_4 flX16_374 rfl k4 e6 ?_
  refine pm_bipush (v := 32) C dX16_parameterAt_7 (by decide) ?_
  refine pm_lload_n C dX16_parameterAt_9 rfl rfl ?_
  refine pm_l2i C dX16_parameterAt_10 ?_
  refine pm_imul C dX16_parameterAt_11 ?_
  refine pm_iload_n C dX16_parameterAt_12 rfl rfl ?_
  refine pm_iadd C dX16_parameterAt_13 ?_
  obtain ⟨y7, e8, hf⟩ := pm_lt hf
  refine pm_topI e8 ?_
  obtain ⟨k9, hf⟩ := pm_if hf
  obtain ⟨u10, hf⟩ := pm_if hf
  refine pm_iald C dX16_parameterAt_14 k9 u10 rfl ?_
  cases hf
  exact pm_iret C X dX16_parameterAt_15 rfl (Nat.le_refl _) (Nat.le_refl _) q
theorem dX16_parametersOf_0 : decode cX16_parametersOf 0 = .ok (.lload_n 1, 1) := by decide +kernel
theorem dX16_parametersOf_1 : decode cX16_parametersOf 1 = .ok (.lconst 0, 1) := by decide +kernel
theorem dX16_parametersOf_2 : decode cX16_parametersOf 2 = .ok (.lcmp, 1) := by decide +kernel
theorem dX16_parametersOf_3 : decode cX16_parametersOf 3 = .ok (.ifCond .ge 7, 3) := by decide +kernel
theorem dX16_parametersOf_6 : decode cX16_parametersOf 6 = .ok (.iconst 0, 1) := by decide +kernel
theorem dX16_parametersOf_7 : decode cX16_parametersOf 7 = .ok (.goto 13, 3) := by decide +kernel
theorem dX16_parametersOf_10 : decode cX16_parametersOf 10 = .ok (.aload_n 0, 1) := by decide +kernel
theorem dX16_parametersOf_11 : decode cX16_parametersOf 11 = .ok (.getfield 221, 3) := by decide +kernel
theorem dX16_parametersOf_14 : decode cX16_parametersOf 14 = .ok (.getfield 387, 3) := by decide +kernel
theorem dX16_parametersOf_17 : decode cX16_parametersOf 17 = .ok (.lload_n 1, 1) := by decide +kernel
theorem dX16_parametersOf_18 : decode cX16_parametersOf 18 = .ok (.l2i, 1) := by decide +kernel
theorem dX16_parametersOf_19 : decode cX16_parametersOf 19 = .ok (.iaload, 1) := by decide +kernel
theorem dX16_parametersOf_20 : decode cX16_parametersOf 20 = .ok (.ireturn, 1) := by decide +kernel
def fX16_parametersOf (h : pm_H) (a0 : Nat) (p1 : Int64) : Option Int32 := if 0 ≤ p1 then (if pm_kd h a0 = 16 then (pm_R h a0 10).bind fun v3 => if pm_kd h v3 = 14 then (pm_R h v3 5).bind fun v6 => if pm_kd h v6 = 34 then if pm_in p1.toInt32 (pm_ln h v6) then some (pm_I h v6 p1.toInt32.toNatClampNeg) else none else none else none else none) else (some 0)
set_option maxHeartbeats 4000000 in
set_option maxRecDepth 100000 in
theorem ctX16_parametersOf {l : Launch} {G : pm_Gl} {h : pm_H} {a0 : Nat} {p1 : Int64} {r : Int32} {Qr : Option Value → pm_H → Prop} (hf : fX16_parametersOf h a0 p1 = some r) (q : Qr (some (.int r)) h) : pm_Ct l G mX16_parametersOf [.ref a0, .long p1] h 0 0 Qr := by
  refine pm_body pnX16 (Nat.le_of_ble_eq_true rfl) (fun g C X => ?_)
  have C : pm_C g cX16_parametersOf RX16 := C
  show pm_G g 0 [(0, .ref a0), (1, .long p1)] [] h 0 0
  unfold fX16_parametersOf at hf
  refine pm_lload_n C dX16_parametersOf_0 rfl rfl ?_
  refine pm_lconst (v := 0) C dX16_parametersOf_1 (by decide) ?_
  refine pm_lcmp C dX16_parametersOf_2 ?_
  refine pm_if_ge (tgt := 10) C dX16_parametersOf_3 (by decide) (fun c1 => ?_) (fun c1 => ?_)
  · have hf := pm_it hf ((pm_lg_ge _ _).mp c1)
    refine pm_aload_n C dX16_parametersOf_10 rfl rfl ?_
    obtain ⟨k2, hf⟩ := pm_if hf
    obtain ⟨v3, e4, hf⟩ := pm_bd hf
    refine pm_getR C dX16_parametersOf_11 flX16_221 rfl k2 e4 ?_
    obtain ⟨k5, hf⟩ := pm_if hf
    obtain ⟨v6, e7, hf⟩ := pm_bd hf
    refine pm_getR C dX16_parametersOf_14 flX16_387 rfl k5 e7 ?_
    refine pm_lload_n C dX16_parametersOf_17 rfl rfl ?_
    refine pm_l2i C dX16_parametersOf_18 ?_
    obtain ⟨k8, hf⟩ := pm_if hf
    obtain ⟨u9, hf⟩ := pm_if hf
    refine pm_iald C dX16_parametersOf_19 k8 u9 rfl ?_
    cases hf
    exact pm_iret C X dX16_parametersOf_20 rfl (Nat.le_refl _) (Nat.le_refl _) q
  · have hf := pm_ie hf ((fun z => c1 ((pm_lg_ge _ _).mpr z)))
    refine pm_iconst (v := 0) C dX16_parametersOf_6 (by decide) ?_
    refine pm_goto (tgt := 20) C dX16_parametersOf_7 (by decide) ?_
    cases hf
    exact pm_iret C X dX16_parametersOf_20 rfl (Nat.le_refl _) (Nat.le_refl _) q
theorem dX16_placeOf_0 : decode cX16_placeOf 0 = .ok (.ldc_w 290, 3) := by decide +kernel
theorem dX16_placeOf_3 : decode cX16_placeOf 3 = .ok (.aload_n 0, 1) := by decide +kernel
theorem dX16_placeOf_4 : decode cX16_placeOf 4 = .ok (.getfield 115, 3) := by decide +kernel
theorem dX16_placeOf_7 : decode cX16_placeOf 7 = .ok (.bipush 8, 2) := by decide +kernel
theorem dX16_placeOf_9 : decode cX16_placeOf 9 = .ok (.iload_n 1, 1) := by decide +kernel
theorem dX16_placeOf_10 : decode cX16_placeOf 10 = .ok (.imul, 1) := by decide +kernel
theorem dX16_placeOf_11 : decode cX16_placeOf 11 = .ok (.lload_n 2, 1) := by decide +kernel
theorem dX16_placeOf_12 : decode cX16_placeOf 12 = .ok (.bipush 16, 2) := by decide +kernel
theorem dX16_placeOf_14 : decode cX16_placeOf 14 = .ok (.lshr, 1) := by decide +kernel
theorem dX16_placeOf_15 : decode cX16_placeOf 15 = .ok (.l2i, 1) := by decide +kernel
theorem dX16_placeOf_16 : decode cX16_placeOf 16 = .ok (.iadd, 1) := by decide +kernel
theorem dX16_placeOf_17 : decode cX16_placeOf 17 = .ok (.iaload, 1) := by decide +kernel
theorem dX16_placeOf_18 : decode cX16_placeOf 18 = .ok (.imul, 1) := by decide +kernel
theorem dX16_placeOf_19 : decode cX16_placeOf 19 = .ok (.lload_n 2, 1) := by decide +kernel
theorem dX16_placeOf_20 : decode cX16_placeOf 20 = .ok (.ldc2_w 1059, 3) := by decide +kernel
theorem dX16_placeOf_23 : decode cX16_placeOf 23 = .ok (.land, 1) := by decide +kernel
theorem dX16_placeOf_24 : decode cX16_placeOf 24 = .ok (.l2i, 1) := by decide +kernel
theorem dX16_placeOf_25 : decode cX16_placeOf 25 = .ok (.iadd, 1) := by decide +kernel
theorem dX16_placeOf_26 : decode cX16_placeOf 26 = .ok (.ireturn, 1) := by decide +kernel
def fX16_placeOf (h : pm_H) (a0 : Nat) (p1 : Int32) (p2 : Int64) : Option Int32 := if pm_kd h a0 = 16 then (pm_R h a0 56).bind fun v2 => pm_let ((8 * p1) + ((p2 >>> ((16 : Int32).toInt64 &&& 63)).toInt32)) fun y4 => if pm_kd h v2 = 34 then if pm_in y4 (pm_ln h v2) then some ((65536 * (pm_I h v2 y4.toNatClampNeg)) + ((p2 &&& 65535).toInt32)) else none else none else none
set_option maxHeartbeats 4000000 in
set_option maxRecDepth 100000 in
theorem ctX16_placeOf {l : Launch} {G : pm_Gl} {h : pm_H} {a0 : Nat} {p1 : Int32} {p2 : Int64} {r : Int32} {Qr : Option Value → pm_H → Prop} (hf : fX16_placeOf h a0 p1 p2 = some r) (q : Qr (some (.int r)) h) : pm_Ct l G mX16_placeOf [.ref a0, .int p1, .long p2] h 0 0 Qr := by
  refine pm_body pnX16 (Nat.le_of_ble_eq_true rfl) (fun g C X => ?_)
  have C : pm_C g cX16_placeOf RX16 := C
  show pm_G g 0 [(0, .ref a0), (1, .int p1), (2, .long p2)] [] h 0 0
  unfold fX16_placeOf at hf
  refine pm_ldcw C dX16_placeOf_0 cnX16_290 ?_
  refine pm_aload_n C dX16_placeOf_3 rfl rfl ?_
  obtain ⟨k1, hf⟩ := pm_if hf
  obtain ⟨v2, e3, hf⟩ := pm_bd hf
  refine pm_getR C dX16_placeOf_4 flX16_115 rfl k1 e3 ?_
  refine pm_bipush (v := 8) C dX16_placeOf_7 (by decide) ?_
  refine pm_iload_n C dX16_placeOf_9 rfl rfl ?_
  refine pm_imul C dX16_placeOf_10 ?_
  refine pm_lload_n C dX16_placeOf_11 rfl rfl ?_
  refine pm_bipush (v := 16) C dX16_placeOf_12 (by decide) ?_
  refine pm_lshr C dX16_placeOf_14 ?_
  refine pm_l2i C dX16_placeOf_15 ?_
  refine pm_iadd C dX16_placeOf_16 ?_
  obtain ⟨y4, e5, hf⟩ := pm_lt hf
  refine pm_topI e5 ?_
  obtain ⟨k6, hf⟩ := pm_if hf
  obtain ⟨u7, hf⟩ := pm_if hf
  refine pm_iald C dX16_placeOf_17 k6 u7 rfl ?_
  refine pm_imul C dX16_placeOf_18 ?_
  refine pm_lload_n C dX16_placeOf_19 rfl rfl ?_
  refine pm_ldc2 C dX16_placeOf_20 cnX16_1059 ?_
  refine pm_land C dX16_placeOf_23 ?_
  refine pm_l2i C dX16_placeOf_24 ?_
  refine pm_iadd C dX16_placeOf_25 ?_
  cases hf
  exact pm_iret C X dX16_placeOf_26 rfl (Nat.le_refl _) (Nat.le_refl _) q
theorem dX16_plain_0 : decode cX16_plain 0 = .ok (.iload_n 0, 1) := by decide +kernel
theorem dX16_plain_1 : decode cX16_plain 1 = .ok (.tableswitch 71 3 11 #[51, 55, 59, 71, 71, 71, 71, 63, 67], 51) := by decide +kernel
theorem dX16_plain_52 : decode cX16_plain 52 = .ok (.lload_n 1, 1) := by decide +kernel
theorem dX16_plain_53 : decode cX16_plain 53 = .ok (.lload_n 3, 1) := by decide +kernel
theorem dX16_plain_54 : decode cX16_plain 54 = .ok (.ladd, 1) := by decide +kernel
theorem dX16_plain_55 : decode cX16_plain 55 = .ok (.lreturn, 1) := by decide +kernel
theorem dX16_plain_56 : decode cX16_plain 56 = .ok (.lload_n 1, 1) := by decide +kernel
theorem dX16_plain_57 : decode cX16_plain 57 = .ok (.lload_n 3, 1) := by decide +kernel
theorem dX16_plain_58 : decode cX16_plain 58 = .ok (.lsub, 1) := by decide +kernel
theorem dX16_plain_59 : decode cX16_plain 59 = .ok (.lreturn, 1) := by decide +kernel
theorem dX16_plain_60 : decode cX16_plain 60 = .ok (.lload_n 1, 1) := by decide +kernel
theorem dX16_plain_61 : decode cX16_plain 61 = .ok (.lload_n 3, 1) := by decide +kernel
theorem dX16_plain_62 : decode cX16_plain 62 = .ok (.lmul, 1) := by decide +kernel
theorem dX16_plain_63 : decode cX16_plain 63 = .ok (.lreturn, 1) := by decide +kernel
theorem dX16_plain_64 : decode cX16_plain 64 = .ok (.lload_n 1, 1) := by decide +kernel
theorem dX16_plain_65 : decode cX16_plain 65 = .ok (.lload_n 3, 1) := by decide +kernel
theorem dX16_plain_66 : decode cX16_plain 66 = .ok (.land, 1) := by decide +kernel
theorem dX16_plain_67 : decode cX16_plain 67 = .ok (.lreturn, 1) := by decide +kernel
theorem dX16_plain_68 : decode cX16_plain 68 = .ok (.lload_n 1, 1) := by decide +kernel
theorem dX16_plain_69 : decode cX16_plain 69 = .ok (.lload_n 3, 1) := by decide +kernel
theorem dX16_plain_70 : decode cX16_plain 70 = .ok (.lor, 1) := by decide +kernel
theorem dX16_plain_71 : decode cX16_plain 71 = .ok (.lreturn, 1) := by decide +kernel
theorem dX16_plain_72 : decode cX16_plain 72 = .ok (.lload_n 1, 1) := by decide +kernel
theorem dX16_plain_73 : decode cX16_plain 73 = .ok (.lload_n 3, 1) := by decide +kernel
theorem dX16_plain_74 : decode cX16_plain 74 = .ok (.lxor, 1) := by decide +kernel
theorem dX16_plain_75 : decode cX16_plain 75 = .ok (.lreturn, 1) := by decide +kernel
def fX16_plain (p1 : Int32) (p2 : Int64) (p3 : Int64) : Int64 := if p1 = 3 then (p2 + p3) else (if p1 = 4 then (p2 - p3) else (if p1 = 5 then (p2 * p3) else (if p1 = 6 then (p2 ^^^ p3) else (if p1 = 7 then (p2 ^^^ p3) else (if p1 = 8 then (p2 ^^^ p3) else (if p1 = 9 then (p2 ^^^ p3) else (if p1 = 10 then (p2 &&& p3) else (if p1 = 11 then (p2 ||| p3) else (p2 ^^^ p3)))))))))
set_option maxHeartbeats 4000000 in
set_option maxRecDepth 100000 in
theorem ctX16_plain {l : Launch} {G : pm_Gl} {h : pm_H} {p1 : Int32} {p2 : Int64} {p3 : Int64} {r : Int64} {Qr : Option Value → pm_H → Prop} (hf : fX16_plain p1 p2 p3 = r) (q : Qr (some (.long r)) h) : pm_Ct l G mX16_plain [.int p1, .long p2, .long p3] h 0 0 Qr := by
  refine pm_body pnX16 (Nat.le_of_ble_eq_true rfl) (fun g C X => ?_)
  have C : pm_C g cX16_plain RX16 := C
  show pm_G g 0 [(0, .int p1), (1, .long p2), (3, .long p3)] [] h 0 0
  unfold fX16_plain at hf
  refine pm_iload_n C dX16_plain_0 rfl rfl ?_
  by_cases c1 : p1 = 3
  · have hf := pm_it hf c1
    refine pm_tableIn (tgt := 52) C dX16_plain_1 (by rw [c1]; decide) (by rw [c1]; decide) (by rw [c1]; rfl) (by decide) ?_
    refine pm_lload_n C dX16_plain_52 rfl rfl ?_
    refine pm_lload_n C dX16_plain_53 rfl rfl ?_
    refine pm_ladd C dX16_plain_54 ?_
    subst hf
    exact pm_lret C X dX16_plain_55 rfl (Nat.le_refl _) (Nat.le_refl _) q
  have hf := pm_ie hf c1
  by_cases c2 : p1 = 4
  · have hf := pm_it hf c2
    refine pm_tableIn (tgt := 56) C dX16_plain_1 (by rw [c2]; decide) (by rw [c2]; decide) (by rw [c2]; rfl) (by decide) ?_
    refine pm_lload_n C dX16_plain_56 rfl rfl ?_
    refine pm_lload_n C dX16_plain_57 rfl rfl ?_
    refine pm_lsub C dX16_plain_58 ?_
    subst hf
    exact pm_lret C X dX16_plain_59 rfl (Nat.le_refl _) (Nat.le_refl _) q
  have hf := pm_ie hf c2
  by_cases c3 : p1 = 5
  · have hf := pm_it hf c3
    refine pm_tableIn (tgt := 60) C dX16_plain_1 (by rw [c3]; decide) (by rw [c3]; decide) (by rw [c3]; rfl) (by decide) ?_
    refine pm_lload_n C dX16_plain_60 rfl rfl ?_
    refine pm_lload_n C dX16_plain_61 rfl rfl ?_
    refine pm_lmul C dX16_plain_62 ?_
    subst hf
    exact pm_lret C X dX16_plain_63 rfl (Nat.le_refl _) (Nat.le_refl _) q
  have hf := pm_ie hf c3
  by_cases c4 : p1 = 6
  · have hf := pm_it hf c4
    refine pm_tableIn (tgt := 72) C dX16_plain_1 (by rw [c4]; decide) (by rw [c4]; decide) (by rw [c4]; rfl) (by decide) ?_
    refine pm_lload_n C dX16_plain_72 rfl rfl ?_
    refine pm_lload_n C dX16_plain_73 rfl rfl ?_
    refine pm_lxor C dX16_plain_74 ?_
    subst hf
    exact pm_lret C X dX16_plain_75 rfl (Nat.le_refl _) (Nat.le_refl _) q
  have hf := pm_ie hf c4
  by_cases c5 : p1 = 7
  · have hf := pm_it hf c5
    refine pm_tableIn (tgt := 72) C dX16_plain_1 (by rw [c5]; decide) (by rw [c5]; decide) (by rw [c5]; rfl) (by decide) ?_
    refine pm_lload_n C dX16_plain_72 rfl rfl ?_
    refine pm_lload_n C dX16_plain_73 rfl rfl ?_
    refine pm_lxor C dX16_plain_74 ?_
    subst hf
    exact pm_lret C X dX16_plain_75 rfl (Nat.le_refl _) (Nat.le_refl _) q
  have hf := pm_ie hf c5
  by_cases c6 : p1 = 8
  · have hf := pm_it hf c6
    refine pm_tableIn (tgt := 72) C dX16_plain_1 (by rw [c6]; decide) (by rw [c6]; decide) (by rw [c6]; rfl) (by decide) ?_
    refine pm_lload_n C dX16_plain_72 rfl rfl ?_
    refine pm_lload_n C dX16_plain_73 rfl rfl ?_
    refine pm_lxor C dX16_plain_74 ?_
    subst hf
    exact pm_lret C X dX16_plain_75 rfl (Nat.le_refl _) (Nat.le_refl _) q
  have hf := pm_ie hf c6
  by_cases c7 : p1 = 9
  · have hf := pm_it hf c7
    refine pm_tableIn (tgt := 72) C dX16_plain_1 (by rw [c7]; decide) (by rw [c7]; decide) (by rw [c7]; rfl) (by decide) ?_
    refine pm_lload_n C dX16_plain_72 rfl rfl ?_
    refine pm_lload_n C dX16_plain_73 rfl rfl ?_
    refine pm_lxor C dX16_plain_74 ?_
    subst hf
    exact pm_lret C X dX16_plain_75 rfl (Nat.le_refl _) (Nat.le_refl _) q
  have hf := pm_ie hf c7
  by_cases c8 : p1 = 10
  · have hf := pm_it hf c8
    refine pm_tableIn (tgt := 64) C dX16_plain_1 (by rw [c8]; decide) (by rw [c8]; decide) (by rw [c8]; rfl) (by decide) ?_
    refine pm_lload_n C dX16_plain_64 rfl rfl ?_
    refine pm_lload_n C dX16_plain_65 rfl rfl ?_
    refine pm_land C dX16_plain_66 ?_
    subst hf
    exact pm_lret C X dX16_plain_67 rfl (Nat.le_refl _) (Nat.le_refl _) q
  have hf := pm_ie hf c8
  by_cases c9 : p1 = 11
  · have hf := pm_it hf c9
    refine pm_tableIn (tgt := 68) C dX16_plain_1 (by rw [c9]; decide) (by rw [c9]; decide) (by rw [c9]; rfl) (by decide) ?_
    refine pm_lload_n C dX16_plain_68 rfl rfl ?_
    refine pm_lload_n C dX16_plain_69 rfl rfl ?_
    refine pm_lor C dX16_plain_70 ?_
    subst hf
    exact pm_lret C X dX16_plain_71 rfl (Nat.le_refl _) (Nat.le_refl _) q
  have hf := pm_ie hf c9
  have nc1 := lv_neT c1 (by decide : (3 : Int32).toInt = 3)
  have nc2 := lv_neT c2 (by decide : (4 : Int32).toInt = 4)
  have nc3 := lv_neT c3 (by decide : (5 : Int32).toInt = 5)
  have nc4 := lv_neT c4 (by decide : (6 : Int32).toInt = 6)
  have nc5 := lv_neT c5 (by decide : (7 : Int32).toInt = 7)
  have nc6 := lv_neT c6 (by decide : (8 : Int32).toInt = 8)
  have nc7 := lv_neT c7 (by decide : (9 : Int32).toInt = 9)
  have nc8 := lv_neT c8 (by decide : (10 : Int32).toInt = 10)
  have nc9 := lv_neT c9 (by decide : (11 : Int32).toInt = 11)
  refine pm_tableOut (tgt := 72) C dX16_plain_1 (by omega) (by decide) ?_
  refine pm_lload_n C dX16_plain_72 rfl rfl ?_
  refine pm_lload_n C dX16_plain_73 rfl rfl ?_
  refine pm_lxor C dX16_plain_74 ?_
  subst hf
  exact pm_lret C X dX16_plain_75 rfl (Nat.le_refl _) (Nat.le_refl _) q
theorem dX16_planOf_0 : decode cX16_planOf 0 = .ok (.aload_n 0, 1) := by decide +kernel
theorem dX16_planOf_1 : decode cX16_planOf 1 = .ok (.getfield 16, 3) := by decide +kernel
theorem dX16_planOf_4 : decode cX16_planOf 4 = .ok (.aload_n 0, 1) := by decide +kernel
theorem dX16_planOf_5 : decode cX16_planOf 5 = .ok (.getfield 68, 3) := by decide +kernel
theorem dX16_planOf_8 : decode cX16_planOf 8 = .ok (.iload_n 1, 1) := by decide +kernel
theorem dX16_planOf_9 : decode cX16_planOf 9 = .ok (.iaload, 1) := by decide +kernel
theorem dX16_planOf_10 : decode cX16_planOf 10 = .ok (.aaload, 1) := by decide +kernel
theorem dX16_planOf_11 : decode cX16_planOf 11 = .ok (.areturn, 1) := by decide +kernel
def fX16_planOf (h : pm_H) (a0 : Nat) (p1 : Int32) : Option Nat := if pm_kd h a0 = 16 then (pm_R h a0 4).bind fun v2 => (pm_R h a0 37).bind fun v4 => if pm_kd h v4 = 34 then if pm_in p1 (pm_ln h v4) then pm_let (pm_I h v4 p1.toNatClampNeg) fun y8 => if pm_kd h v2 = 42 then if pm_in y8 (pm_ln h v2) then (pm_R h v2 y8.toNatClampNeg).bind fun v12 => some v12 else none else none else none else none else none
set_option maxHeartbeats 4000000 in
set_option maxRecDepth 100000 in
theorem ctX16_planOf {l : Launch} {G : pm_Gl} {h : pm_H} {a0 : Nat} {p1 : Int32} {r : Nat} {Qr : Option Value → pm_H → Prop} (hf : fX16_planOf h a0 p1 = some r) (q : Qr (some (.ref r)) h) : pm_Ct l G mX16_planOf [.ref a0, .int p1] h 0 0 Qr := by
  refine pm_body pnX16 (Nat.le_of_ble_eq_true rfl) (fun g C X => ?_)
  have C : pm_C g cX16_planOf RX16 := C
  show pm_G g 0 [(0, .ref a0), (1, .int p1)] [] h 0 0
  unfold fX16_planOf at hf
  refine pm_aload_n C dX16_planOf_0 rfl rfl ?_
  obtain ⟨k1, hf⟩ := pm_if hf
  obtain ⟨v2, e3, hf⟩ := pm_bd hf
  refine pm_getR C dX16_planOf_1 flX16_16 rfl k1 e3 ?_
  refine pm_aload_n C dX16_planOf_4 rfl rfl ?_
  obtain ⟨v4, e5, hf⟩ := pm_bd hf
  refine pm_getR C dX16_planOf_5 flX16_68 rfl k1 e5 ?_
  refine pm_iload_n C dX16_planOf_8 rfl rfl ?_
  obtain ⟨k6, hf⟩ := pm_if hf
  obtain ⟨u7, hf⟩ := pm_if hf
  refine pm_iald C dX16_planOf_9 k6 u7 rfl ?_
  obtain ⟨y8, e9, hf⟩ := pm_lt hf
  refine pm_topI e9 ?_
  obtain ⟨k10, hf⟩ := pm_if hf
  obtain ⟨u11, hf⟩ := pm_if hf
  obtain ⟨v12, e13, hf⟩ := pm_bd hf
  refine pm_ald (t := 10) C dX16_planOf_10 (by decide) rfl k10 u11 e13 ?_
  cases hf
  exact pm_aret C X dX16_planOf_11 rfl (Or.inl ⟨_, rfl⟩) (Nat.le_refl _) (Nat.le_refl _) q
theorem dX16_pop_0 : decode cX16_pop 0 = .ok (.aload_n 0, 1) := by decide +kernel
theorem dX16_pop_1 : decode cX16_pop 1 = .ok (.dup, 1) := by decide +kernel
theorem dX16_pop_2 : decode cX16_pop 2 = .ok (.getfield 1104, 3) := by decide +kernel
theorem dX16_pop_5 : decode cX16_pop 5 = .ok (.iconst 1, 1) := by decide +kernel
theorem dX16_pop_6 : decode cX16_pop 6 = .ok (.isub, 1) := by decide +kernel
theorem dX16_pop_7 : decode cX16_pop 7 = .ok (.putfield 1104, 3) := by decide +kernel
theorem dX16_pop_10 : decode cX16_pop 10 = .ok (.aload_n 0, 1) := by decide +kernel
theorem dX16_pop_11 : decode cX16_pop 11 = .ok (.getfield 191, 3) := by decide +kernel
theorem dX16_pop_14 : decode cX16_pop 14 = .ok (.aload_n 0, 1) := by decide +kernel
theorem dX16_pop_15 : decode cX16_pop 15 = .ok (.getfield 1104, 3) := by decide +kernel
theorem dX16_pop_18 : decode cX16_pop 18 = .ok (.laload, 1) := by decide +kernel
theorem dX16_pop_19 : decode cX16_pop 19 = .ok (.lreturn, 1) := by decide +kernel
def fX16_pop (h : pm_H) (a0 : Nat) : Option (Int64 × pm_H) := if pm_kd h a0 = 16 then pm_let ((pm_I h a0 93) - 1) fun y2 => (pm_R (pm_setI h a0 93 y2) a0 92).bind fun v4 => pm_let (pm_I (pm_setI h a0 93 y2) a0 93) fun y6 => if pm_kd (pm_setI h a0 93 y2) v4 = 35 then if pm_in y6 (pm_ln (pm_setI h a0 93 y2) v4) then some ((pm_L (pm_setI h a0 93 y2) v4 y6.toNatClampNeg, pm_setI h a0 93 y2)) else none else none else none
set_option maxHeartbeats 4000000 in
set_option maxRecDepth 100000 in
theorem ctX16_pop {l : Launch} {G : pm_Gl} {h : pm_H} {a0 : Nat} {r : (Int64 × pm_H)} {Qr : Option Value → pm_H → Prop} (hf : fX16_pop h a0 = some r) (q : Qr (some (.long r.1)) r.2) : pm_Ct l G mX16_pop [.ref a0] h 0 0 Qr := by
  refine pm_body pnX16 (Nat.le_of_ble_eq_true rfl) (fun g C X => ?_)
  have C : pm_C g cX16_pop RX16 := C
  show pm_G g 0 [(0, .ref a0)] [] h 0 0
  unfold fX16_pop at hf
  refine pm_aload_n C dX16_pop_0 rfl rfl ?_
  refine pm_dup C dX16_pop_1 rfl ?_
  obtain ⟨k1, hf⟩ := pm_if hf
  refine pm_getI C dX16_pop_2 flX16_1104 rfl k1 rfl ?_
  refine pm_iconst (v := 1) C dX16_pop_5 (by decide) ?_
  refine pm_isub C dX16_pop_6 ?_
  obtain ⟨y2, e3, hf⟩ := pm_lt hf
  refine pm_topI e3 ?_
  refine pm_putI C dX16_pop_7 flX16_1104 rfl rfl k1 rfl rfl ?_
  refine pm_aload_n C dX16_pop_10 rfl rfl ?_
  obtain ⟨v4, e5, hf⟩ := pm_bd hf
  refine pm_getR C dX16_pop_11 flX16_191 rfl k1 e5 ?_
  refine pm_aload_n C dX16_pop_14 rfl rfl ?_
  refine pm_getI C dX16_pop_15 flX16_1104 rfl k1 rfl ?_
  obtain ⟨y6, e7, hf⟩ := pm_lt hf
  refine pm_topI e7 ?_
  obtain ⟨k8, hf⟩ := pm_if hf
  obtain ⟨u9, hf⟩ := pm_if hf
  refine pm_lald C dX16_pop_18 k8 u9 rfl ?_
  cases hf
  exact pm_lret C X dX16_pop_19 rfl (Nat.le_refl _) (Nat.le_refl _) q
theorem dX16_push_0 : decode cX16_push 0 = .ok (.aload_n 0, 1) := by decide +kernel
theorem dX16_push_1 : decode cX16_push 1 = .ok (.getfield 191, 3) := by decide +kernel
theorem dX16_push_4 : decode cX16_push 4 = .ok (.aload_n 0, 1) := by decide +kernel
theorem dX16_push_5 : decode cX16_push 5 = .ok (.getfield 1104, 3) := by decide +kernel
theorem dX16_push_8 : decode cX16_push 8 = .ok (.lload_n 1, 1) := by decide +kernel
theorem dX16_push_9 : decode cX16_push 9 = .ok (.lastore, 1) := by decide +kernel
theorem dX16_push_10 : decode cX16_push 10 = .ok (.aload_n 0, 1) := by decide +kernel
theorem dX16_push_11 : decode cX16_push 11 = .ok (.dup, 1) := by decide +kernel
theorem dX16_push_12 : decode cX16_push 12 = .ok (.getfield 1104, 3) := by decide +kernel
theorem dX16_push_15 : decode cX16_push 15 = .ok (.iconst 1, 1) := by decide +kernel
theorem dX16_push_16 : decode cX16_push 16 = .ok (.iadd, 1) := by decide +kernel
theorem dX16_push_17 : decode cX16_push 17 = .ok (.putfield 1104, 3) := by decide +kernel
theorem dX16_push_20 : decode cX16_push 20 = .ok (.return_, 1) := by decide +kernel
def fX16_push (h : pm_H) (a0 : Nat) (p1 : Int64) : Option pm_H := if pm_kd h a0 = 16 then (pm_R h a0 92).bind fun v2 => if pm_kd h v2 = 35 then if pm_in (pm_I h a0 93) (pm_ln h v2) then pm_let ((pm_I (pm_setL h v2 ((pm_I h a0 93).toNatClampNeg) p1) a0 93) + 1) fun y6 => some (pm_setI (pm_setL h v2 ((pm_I h a0 93).toNatClampNeg) p1) a0 93 y6) else none else none else none
set_option maxHeartbeats 4000000 in
set_option maxRecDepth 100000 in
theorem ctX16_push {l : Launch} {G : pm_Gl} {h : pm_H} {a0 : Nat} {p1 : Int64} {r : pm_H} {Qr : Option Value → pm_H → Prop} (hf : fX16_push h a0 p1 = some r) (q : Qr none r) : pm_Ct l G mX16_push [.ref a0, .long p1] h 0 0 Qr := by
  refine pm_body pnX16 (Nat.le_of_ble_eq_true rfl) (fun g C X => ?_)
  have C : pm_C g cX16_push RX16 := C
  show pm_G g 0 [(0, .ref a0), (1, .long p1)] [] h 0 0
  unfold fX16_push at hf
  refine pm_aload_n C dX16_push_0 rfl rfl ?_
  obtain ⟨k1, hf⟩ := pm_if hf
  obtain ⟨v2, e3, hf⟩ := pm_bd hf
  refine pm_getR C dX16_push_1 flX16_191 rfl k1 e3 ?_
  refine pm_aload_n C dX16_push_4 rfl rfl ?_
  refine pm_getI C dX16_push_5 flX16_1104 rfl k1 rfl ?_
  refine pm_lload_n C dX16_push_8 rfl rfl ?_
  obtain ⟨k4, hf⟩ := pm_if hf
  obtain ⟨u5, hf⟩ := pm_if hf
  refine pm_last C dX16_push_9 k4 u5 ?_
  refine pm_aload_n C dX16_push_10 rfl rfl ?_
  refine pm_dup C dX16_push_11 rfl ?_
  refine pm_getI C dX16_push_12 flX16_1104 rfl k1 rfl ?_
  refine pm_iconst (v := 1) C dX16_push_15 (by decide) ?_
  refine pm_iadd C dX16_push_16 ?_
  obtain ⟨y6, e7, hf⟩ := pm_lt hf
  refine pm_topI e7 ?_
  refine pm_putI C dX16_push_17 flX16_1104 rfl rfl k1 rfl rfl ?_
  cases hf
  exact pm_vret C X dX16_push_20 rfl (Nat.le_refl _) (Nat.le_refl _) q
theorem dX16_puts_0 : decode cX16_puts 0 = .ok (.bipush 24, 2) := by decide +kernel
theorem dX16_puts_2 : decode cX16_puts 2 = .ok (.istore_n 2, 1) := by decide +kernel
theorem dX16_puts_3 : decode cX16_puts 3 = .ok (.iload_n 2, 1) := by decide +kernel
theorem dX16_puts_4 : decode cX16_puts 4 = .ok (.ifCond .lt 32, 3) := by decide +kernel
theorem dX16_puts_7 : decode cX16_puts 7 = .ok (.aload_n 0, 1) := by decide +kernel
theorem dX16_puts_8 : decode cX16_puts 8 = .ok (.getfield 10, 3) := by decide +kernel
theorem dX16_puts_11 : decode cX16_puts 11 = .ok (.aload_n 0, 1) := by decide +kernel
theorem dX16_puts_12 : decode cX16_puts 12 = .ok (.getfield 215, 3) := by decide +kernel
theorem dX16_puts_15 : decode cX16_puts 15 = .ok (.iload_n 1, 1) := by decide +kernel
theorem dX16_puts_16 : decode cX16_puts 16 = .ok (.iload_n 2, 1) := by decide +kernel
theorem dX16_puts_17 : decode cX16_puts 17 = .ok (.ishr, 1) := by decide +kernel
theorem dX16_puts_18 : decode cX16_puts 18 = .ok (.i2b, 1) := by decide +kernel
theorem dX16_puts_19 : decode cX16_puts 19 = .ok (.bastore, 1) := by decide +kernel
theorem dX16_puts_20 : decode cX16_puts 20 = .ok (.aload_n 0, 1) := by decide +kernel
theorem dX16_puts_21 : decode cX16_puts 21 = .ok (.dup, 1) := by decide +kernel
theorem dX16_puts_22 : decode cX16_puts 22 = .ok (.getfield 215, 3) := by decide +kernel
theorem dX16_puts_25 : decode cX16_puts 25 = .ok (.iconst 1, 1) := by decide +kernel
theorem dX16_puts_26 : decode cX16_puts 26 = .ok (.iadd, 1) := by decide +kernel
theorem dX16_puts_27 : decode cX16_puts 27 = .ok (.putfield 215, 3) := by decide +kernel
theorem dX16_puts_30 : decode cX16_puts 30 = .ok (.iinc 2 (-8), 3) := by decide +kernel
theorem dX16_puts_33 : decode cX16_puts 33 = .ok (.goto (-30), 3) := by decide +kernel
theorem dX16_puts_36 : decode cX16_puts 36 = .ok (.return_, 1) := by decide +kernel
def tX16_puts_3 (x0 : Nat) (x1 : Int32) (x2 : Int32) (h : pm_H) : Option (((Nat × Int32 × Int32 × pm_H)) ⊕ pm_H) := if x2 < 0 then (some (.inr (h))) else (if pm_kd h x0 = 16 then (pm_R h x0 0).bind fun v3 => pm_let ((x1 >>> (x2 &&& 31)).toInt8.toInt32) fun y5 => if pm_kd h v3 = 33 then if pm_in (pm_I h x0 1) (pm_ln h v3) then pm_let ((pm_I (pm_setI h v3 ((pm_I h x0 1).toNatClampNeg) (vp_nar .byte y5)) x0 1) + 1) fun y9 => pm_let (x2 + (-8)) fun y11 => some (.inl ((x0, x1, y11, pm_setI (pm_setI h v3 ((pm_I h x0 1).toNatClampNeg) (vp_nar .byte y5)) x0 1 y9))) else none else none else none)
def sX16_puts : ((Nat × Int32 × Int32 × pm_H)) → Option (((Nat × Int32 × Int32 × pm_H)) ⊕ pm_H) := fun z => match z with
  | (x0, x1, x2, h) => tX16_puts_3 x0 x1 x2 h
noncomputable def fX16_puts (h : pm_H) (a0 : Nat) (p1 : Int32) : Option pm_H := pm_lim sX16_puts ((a0, p1, 24, h))
set_option maxHeartbeats 4000000 in
set_option maxRecDepth 100000 in
theorem lpX16_puts {g : pm_Gm} {l : Launch} {G : pm_Gl} {Qr : Option Value → pm_H → Prop} (C : pm_C g cX16_puts RX16) (X : pm_X g l G mX16_puts 0 0 Qr) {r : pm_H} (q : Qr none r) : ∀ n : Nat, (∀ (x0 : Nat) (x1 : Int32) (x2 : Int32) (h : pm_H), pm_iter sX16_puts n (x0, x1, x2, h) = some r → pm_G g 3 [(0, .ref x0), (1, .int x1), (2, .int x2)] [] h 0 0) := by
  intro n
  induction n with
  | zero => exact fun _ _ _ _ hf => (by cases hf)
  | succ n ih =>
    refine fun x0 x1 x2 h hf => ?_
    obtain ⟨y, hf, hi⟩ := pm_iter_s hf
    have hf : tX16_puts_3 x0 x1 x2 h = some y := hf
    unfold tX16_puts_3 at hf
    refine pm_iload_n C dX16_puts_3 rfl rfl ?_
    refine pm_if_lt (tgt := 36) C dX16_puts_4 (by decide) (fun c1 => ?_) (fun c1 => ?_)
    · have hf := pm_it hf c1
      cases hf
      cases hi
      exact pm_vret C X dX16_puts_36 rfl (Nat.le_refl _) (Nat.le_refl _) q
    · have hf := pm_ie hf c1
      refine pm_aload_n C dX16_puts_7 rfl rfl ?_
      obtain ⟨k2, hf⟩ := pm_if hf
      obtain ⟨v3, e4, hf⟩ := pm_bd hf
      refine pm_getR C dX16_puts_8 flX16_10 rfl k2 e4 ?_
      refine pm_aload_n C dX16_puts_11 rfl rfl ?_
      refine pm_getI C dX16_puts_12 flX16_215 rfl k2 rfl ?_
      refine pm_iload_n C dX16_puts_15 rfl rfl ?_
      refine pm_iload_n C dX16_puts_16 rfl rfl ?_
      refine pm_ishr C dX16_puts_17 ?_
      refine pm_i2b C dX16_puts_18 ?_
      obtain ⟨y5, e6, hf⟩ := pm_lt hf
      refine pm_topI e6 ?_
      obtain ⟨k7, hf⟩ := pm_if hf
      obtain ⟨u8, hf⟩ := pm_if hf
      refine pm_bast C dX16_puts_19 k7 u8 ?_
      refine pm_aload_n C dX16_puts_20 rfl rfl ?_
      refine pm_dup C dX16_puts_21 rfl ?_
      refine pm_getI C dX16_puts_22 flX16_215 rfl k2 rfl ?_
      refine pm_iconst (v := 1) C dX16_puts_25 (by decide) ?_
      refine pm_iadd C dX16_puts_26 ?_
      obtain ⟨y9, e10, hf⟩ := pm_lt hf
      refine pm_topI e10 ?_
      refine pm_putI C dX16_puts_27 flX16_215 rfl rfl k2 rfl rfl ?_
      obtain ⟨y11, e12, hf⟩ := pm_lt hf
      refine pm_iinc (v := y11) (lv' := [(2, .int y11), (0, .ref x0), (1, .int x1)]) C dX16_puts_30 rfl ((congrArg (x2 + ·) (by decide : Int32.ofInt (-8) = (-8))).trans e12) (pm_nl X (by decide)) rfl ?_
      refine pm_goto (tgt := 3) C dX16_puts_33 (by decide) ?_
      cases hf
      exact pm_sub [1, 2, 0] rfl (ih x0 x1 y11 (pm_setI (pm_setI h v3 ((pm_I h x0 1).toNatClampNeg) (vp_nar .byte y5)) x0 1 y9) hi)
set_option maxHeartbeats 4000000 in
set_option maxRecDepth 100000 in
theorem ctX16_puts {l : Launch} {G : pm_Gl} {h : pm_H} {a0 : Nat} {p1 : Int32} {r : pm_H} {Qr : Option Value → pm_H → Prop} (hf : fX16_puts h a0 p1 = some r) (q : Qr none r) : pm_Ct l G mX16_puts [.ref a0, .int p1] h 0 0 Qr := by
  refine pm_body pnX16 (Nat.le_of_ble_eq_true rfl) (fun g C X => ?_)
  have C : pm_C g cX16_puts RX16 := C
  show pm_G g 0 [(0, .ref a0), (1, .int p1)] [] h 0 0
  unfold fX16_puts at hf
  refine pm_bipush (v := 24) C dX16_puts_0 (by decide) ?_
  refine pm_istore_n (lv' := [(2, .int 24), (0, .ref a0), (1, .int p1)]) C dX16_puts_2 rfl (pm_nl X (by decide)) rfl ?_
  obtain ⟨n, hn⟩ := pm_lim_iter hf
  exact pm_sub [1, 2, 0] rfl ((lpX16_puts C X q n) a0 p1 24 h hn)
theorem dX16_rank_0 : decode cX16_rank 0 = .ok (.iload_n 0, 1) := by decide +kernel
theorem dX16_rank_1 : decode cX16_rank 1 = .ok (.bipush 12, 2) := by decide +kernel
theorem dX16_rank_3 : decode cX16_rank 3 = .ok (.if_icmp .ne 8, 3) := by decide +kernel
theorem dX16_rank_6 : decode cX16_rank 6 = .ok (.bipush 10, 2) := by decide +kernel
theorem dX16_rank_8 : decode cX16_rank 8 = .ok (.goto 26, 3) := by decide +kernel
theorem dX16_rank_11 : decode cX16_rank 11 = .ok (.iload_n 0, 1) := by decide +kernel
theorem dX16_rank_12 : decode cX16_rank 12 = .ok (.bipush 10, 2) := by decide +kernel
theorem dX16_rank_14 : decode cX16_rank 14 = .ok (.if_icmp .ne 8, 3) := by decide +kernel
theorem dX16_rank_17 : decode cX16_rank 17 = .ok (.bipush 11, 2) := by decide +kernel
theorem dX16_rank_19 : decode cX16_rank 19 = .ok (.goto 15, 3) := by decide +kernel
theorem dX16_rank_22 : decode cX16_rank 22 = .ok (.iload_n 0, 1) := by decide +kernel
theorem dX16_rank_23 : decode cX16_rank 23 = .ok (.bipush 11, 2) := by decide +kernel
theorem dX16_rank_25 : decode cX16_rank 25 = .ok (.if_icmp .ne 8, 3) := by decide +kernel
theorem dX16_rank_28 : decode cX16_rank 28 = .ok (.bipush 12, 2) := by decide +kernel
theorem dX16_rank_30 : decode cX16_rank 30 = .ok (.goto 4, 3) := by decide +kernel
theorem dX16_rank_33 : decode cX16_rank 33 = .ok (.iload_n 0, 1) := by decide +kernel
theorem dX16_rank_34 : decode cX16_rank 34 = .ok (.ireturn, 1) := by decide +kernel
def fX16_rank (p1 : Int32) : Int32 := if p1 = 12 then (10) else (if p1 = 10 then (11) else (if p1 = 11 then (12) else (p1)))
set_option maxHeartbeats 4000000 in
set_option maxRecDepth 100000 in
theorem ctX16_rank {l : Launch} {G : pm_Gl} {h : pm_H} {p1 : Int32} {r : Int32} {Qr : Option Value → pm_H → Prop} (hf : fX16_rank p1 = r) (q : Qr (some (.int r)) h) : pm_Ct l G mX16_rank [.int p1] h 0 0 Qr := by
  refine pm_body pnX16 (Nat.le_of_ble_eq_true rfl) (fun g C X => ?_)
  have C : pm_C g cX16_rank RX16 := C
  show pm_G g 0 [(0, .int p1)] [] h 0 0
  unfold fX16_rank at hf
  refine pm_iload_n C dX16_rank_0 rfl rfl ?_
  refine pm_bipush (v := 12) C dX16_rank_1 (by decide) ?_
  refine pm_icmp_ne (tgt := 11) C dX16_rank_3 (by decide) (fun c1 => ?_) (fun c1 => ?_)
  · have hf := pm_ie hf c1
    refine pm_iload_n C dX16_rank_11 rfl rfl ?_
    refine pm_bipush (v := 10) C dX16_rank_12 (by decide) ?_
    refine pm_icmp_ne (tgt := 22) C dX16_rank_14 (by decide) (fun c2 => ?_) (fun c2 => ?_)
    · have hf := pm_ie hf c2
      refine pm_iload_n C dX16_rank_22 rfl rfl ?_
      refine pm_bipush (v := 11) C dX16_rank_23 (by decide) ?_
      refine pm_icmp_ne (tgt := 33) C dX16_rank_25 (by decide) (fun c3 => ?_) (fun c3 => ?_)
      · have hf := pm_ie hf c3
        refine pm_iload_n C dX16_rank_33 rfl rfl ?_
        subst hf
        exact pm_iret C X dX16_rank_34 rfl (Nat.le_refl _) (Nat.le_refl _) q
      · have hf := pm_it hf c3
        refine pm_bipush (v := 12) C dX16_rank_28 (by decide) ?_
        refine pm_goto (tgt := 34) C dX16_rank_30 (by decide) ?_
        subst hf
        exact pm_iret C X dX16_rank_34 rfl (Nat.le_refl _) (Nat.le_refl _) q
    · have hf := pm_it hf c2
      refine pm_bipush (v := 11) C dX16_rank_17 (by decide) ?_
      refine pm_goto (tgt := 34) C dX16_rank_19 (by decide) ?_
      subst hf
      exact pm_iret C X dX16_rank_34 rfl (Nat.le_refl _) (Nat.le_refl _) q
  · have hf := pm_it hf c1
    refine pm_bipush (v := 10) C dX16_rank_6 (by decide) ?_
    refine pm_goto (tgt := 34) C dX16_rank_8 (by decide) ?_
    subst hf
    exact pm_iret C X dX16_rank_34 rfl (Nat.le_refl _) (Nat.le_refl _) q
theorem dX16_resultAt_0 : decode cX16_resultAt 0 = .ok (.lload_n 1, 1) := by decide +kernel
theorem dX16_resultAt_1 : decode cX16_resultAt 1 = .ok (.lconst 0, 1) := by decide +kernel
theorem dX16_resultAt_2 : decode cX16_resultAt 2 = .ok (.lcmp, 1) := by decide +kernel
theorem dX16_resultAt_3 : decode cX16_resultAt 3 = .ok (.ifCond .ge 9, 3) := by decide +kernel
theorem dX16_resultAt_6 : decode cX16_resultAt 6 = .ok (.lload_n 1, 1) := by decide +kernel
theorem dX16_resultAt_7 : decode cX16_resultAt 7 = .ok (.lneg, 1) := by decide +kernel
theorem dX16_resultAt_8 : decode cX16_resultAt 8 = .ok (.l2i, 1) := by decide +kernel
theorem dX16_resultAt_9 : decode cX16_resultAt 9 = .ok (.goto 21, 3) := by decide +kernel
theorem dX16_resultAt_12 : decode cX16_resultAt 12 = .ok (.aload_n 0, 1) := by decide +kernel
theorem dX16_resultAt_13 : decode cX16_resultAt 13 = .ok (.getfield 221, 3) := by decide +kernel
theorem dX16_resultAt_16 : decode cX16_resultAt 16 = .ok (.getfield 374, 3) := by decide +kernel
theorem dX16_resultAt_19 : decode cX16_resultAt 19 = .ok (.bipush 32, 2) := by decide +kernel
theorem dX16_resultAt_21 : decode cX16_resultAt 21 = .ok (.lload_n 1, 1) := by decide +kernel
theorem dX16_resultAt_22 : decode cX16_resultAt 22 = .ok (.l2i, 1) := by decide +kernel
theorem dX16_resultAt_23 : decode cX16_resultAt 23 = .ok (.imul, 1) := by decide +kernel
theorem dX16_resultAt_24 : decode cX16_resultAt 24 = .ok (.bipush 16, 2) := by decide +kernel
theorem dX16_resultAt_26 : decode cX16_resultAt 26 = .ok (.iadd, 1) := by decide +kernel
theorem dX16_resultAt_27 : decode cX16_resultAt 27 = .ok (.iload_n 3, 1) := by decide +kernel
theorem dX16_resultAt_28 : decode cX16_resultAt 28 = .ok (.iadd, 1) := by decide +kernel
theorem dX16_resultAt_29 : decode cX16_resultAt 29 = .ok (.iaload, 1) := by decide +kernel
theorem dX16_resultAt_30 : decode cX16_resultAt 30 = .ok (.ireturn, 1) := by decide +kernel
def fX16_resultAt (h : pm_H) (a0 : Nat) (p1 : Int64) (p2 : Int32) : Option Int32 := if 0 ≤ p1 then (if pm_kd h a0 = 16 then (pm_R h a0 10).bind fun v3 => if pm_kd h v3 = 14 then (pm_R h v3 7).bind fun v6 => pm_let (((32 * p1.toInt32) + 16) + p2) fun y8 => if pm_kd h v6 = 34 then if pm_in y8 (pm_ln h v6) then some (pm_I h v6 y8.toNatClampNeg) else none else none else none else none) else (some ((-p1).toInt32))
set_option maxHeartbeats 4000000 in
set_option maxRecDepth 100000 in
theorem ctX16_resultAt {l : Launch} {G : pm_Gl} {h : pm_H} {a0 : Nat} {p1 : Int64} {p2 : Int32} {r : Int32} {Qr : Option Value → pm_H → Prop} (hf : fX16_resultAt h a0 p1 p2 = some r) (q : Qr (some (.int r)) h) : pm_Ct l G mX16_resultAt [.ref a0, .long p1, .int p2] h 0 0 Qr := by
  refine pm_body pnX16 (Nat.le_of_ble_eq_true rfl) (fun g C X => ?_)
  have C : pm_C g cX16_resultAt RX16 := C
  show pm_G g 0 [(0, .ref a0), (1, .long p1), (3, .int p2)] [] h 0 0
  unfold fX16_resultAt at hf
  refine pm_lload_n C dX16_resultAt_0 rfl rfl ?_
  refine pm_lconst (v := 0) C dX16_resultAt_1 (by decide) ?_
  refine pm_lcmp C dX16_resultAt_2 ?_
  refine pm_if_ge (tgt := 12) C dX16_resultAt_3 (by decide) (fun c1 => ?_) (fun c1 => ?_)
  · have hf := pm_it hf ((pm_lg_ge _ _).mp c1)
    refine pm_aload_n C dX16_resultAt_12 rfl rfl ?_
    obtain ⟨k2, hf⟩ := pm_if hf
    obtain ⟨v3, e4, hf⟩ := pm_bd hf
    refine pm_getR C dX16_resultAt_13 flX16_221 rfl k2 e4 ?_
    obtain ⟨k5, hf⟩ := pm_if hf
    obtain ⟨v6, e7, hf⟩ := pm_bd hf
    refine pm_getR C dX16_resultAt_16 flX16_374 rfl k5 e7 ?_
    refine pm_bipush (v := 32) C dX16_resultAt_19 (by decide) ?_
    refine pm_lload_n C dX16_resultAt_21 rfl rfl ?_
    refine pm_l2i C dX16_resultAt_22 ?_
    refine pm_imul C dX16_resultAt_23 ?_
    refine pm_bipush (v := 16) C dX16_resultAt_24 (by decide) ?_
    refine pm_iadd C dX16_resultAt_26 ?_
    refine pm_iload_n C dX16_resultAt_27 rfl rfl ?_
    refine pm_iadd C dX16_resultAt_28 ?_
    obtain ⟨y8, e9, hf⟩ := pm_lt hf
    refine pm_topI e9 ?_
    obtain ⟨k10, hf⟩ := pm_if hf
    obtain ⟨u11, hf⟩ := pm_if hf
    refine pm_iald C dX16_resultAt_29 k10 u11 rfl ?_
    cases hf
    exact pm_iret C X dX16_resultAt_30 rfl (Nat.le_refl _) (Nat.le_refl _) q
  · have hf := pm_ie hf ((fun z => c1 ((pm_lg_ge _ _).mpr z)))
    refine pm_lload_n C dX16_resultAt_6 rfl rfl ?_
    refine pm_lneg C dX16_resultAt_7 ?_
    refine pm_l2i C dX16_resultAt_8 ?_
    refine pm_goto (tgt := 30) C dX16_resultAt_9 (by decide) ?_
    cases hf
    exact pm_iret C X dX16_resultAt_30 rfl (Nat.le_refl _) (Nat.le_refl _) q
theorem dX16_resultOf_0 : decode cX16_resultOf 0 = .ok (.iload_n 0, 1) := by decide +kernel
theorem dX16_resultOf_1 : decode cX16_resultOf 1 = .ok (.bipush 103, 2) := by decide +kernel
theorem dX16_resultOf_3 : decode cX16_resultOf 3 = .ok (.if_icmp .ge 5, 3) := by decide +kernel
theorem dX16_resultOf_6 : decode cX16_resultOf 6 = .ok (.iconst 0, 1) := by decide +kernel
theorem dX16_resultOf_7 : decode cX16_resultOf 7 = .ok (.ireturn, 1) := by decide +kernel
theorem dX16_resultOf_8 : decode cX16_resultOf 8 = .ok (.iload_n 0, 1) := by decide +kernel
theorem dX16_resultOf_9 : decode cX16_resultOf 9 = .ok (.sipush 167, 3) := by decide +kernel
theorem dX16_resultOf_12 : decode cX16_resultOf 12 = .ok (.if_icmp .ge 8, 3) := by decide +kernel
theorem dX16_resultOf_15 : decode cX16_resultOf 15 = .ok (.iload_n 0, 1) := by decide +kernel
theorem dX16_resultOf_16 : decode cX16_resultOf 16 = .ok (.invokestatic 753, 3) := by decide +kernel
theorem dX16_resultOf_19 : decode cX16_resultOf 19 = .ok (.ireturn, 1) := by decide +kernel
theorem dX16_resultOf_20 : decode cX16_resultOf 20 = .ok (.iload_n 0, 1) := by decide +kernel
theorem dX16_resultOf_21 : decode cX16_resultOf 21 = .ok (.sipush 172, 3) := by decide +kernel
theorem dX16_resultOf_24 : decode cX16_resultOf 24 = .ok (.if_icmp .lt 38, 3) := by decide +kernel
theorem dX16_resultOf_27 : decode cX16_resultOf 27 = .ok (.iload_n 0, 1) := by decide +kernel
theorem dX16_resultOf_28 : decode cX16_resultOf 28 = .ok (.sipush 188, 3) := by decide +kernel
theorem dX16_resultOf_31 : decode cX16_resultOf 31 = .ok (.if_icmp .eq 31, 3) := by decide +kernel
theorem dX16_resultOf_34 : decode cX16_resultOf 34 = .ok (.iload_n 0, 1) := by decide +kernel
theorem dX16_resultOf_35 : decode cX16_resultOf 35 = .ok (.sipush 192, 3) := by decide +kernel
theorem dX16_resultOf_38 : decode cX16_resultOf 38 = .ok (.if_icmp .eq 24, 3) := by decide +kernel
theorem dX16_resultOf_41 : decode cX16_resultOf 41 = .ok (.iload_n 0, 1) := by decide +kernel
theorem dX16_resultOf_42 : decode cX16_resultOf 42 = .ok (.sipush 193, 3) := by decide +kernel
theorem dX16_resultOf_45 : decode cX16_resultOf 45 = .ok (.if_icmp .eq 17, 3) := by decide +kernel
theorem dX16_resultOf_48 : decode cX16_resultOf 48 = .ok (.iload_n 0, 1) := by decide +kernel
theorem dX16_resultOf_49 : decode cX16_resultOf 49 = .ok (.sipush 200, 3) := by decide +kernel
theorem dX16_resultOf_52 : decode cX16_resultOf 52 = .ok (.if_icmp .lt 12, 3) := by decide +kernel
theorem dX16_resultOf_55 : decode cX16_resultOf 55 = .ok (.iload_n 0, 1) := by decide +kernel
theorem dX16_resultOf_56 : decode cX16_resultOf 56 = .ok (.sipush 204, 3) := by decide +kernel
theorem dX16_resultOf_59 : decode cX16_resultOf 59 = .ok (.if_icmp .ge 5, 3) := by decide +kernel
theorem dX16_resultOf_62 : decode cX16_resultOf 62 = .ok (.iconst 0, 1) := by decide +kernel
theorem dX16_resultOf_63 : decode cX16_resultOf 63 = .ok (.ireturn, 1) := by decide +kernel
theorem dX16_resultOf_64 : decode cX16_resultOf 64 = .ok (.iload_n 0, 1) := by decide +kernel
theorem dX16_resultOf_65 : decode cX16_resultOf 65 = .ok (.sipush 178, 3) := by decide +kernel
theorem dX16_resultOf_68 : decode cX16_resultOf 68 = .ok (.if_icmp .lt 17, 3) := by decide +kernel
theorem dX16_resultOf_71 : decode cX16_resultOf 71 = .ok (.iload_n 0, 1) := by decide +kernel
theorem dX16_resultOf_72 : decode cX16_resultOf 72 = .ok (.sipush 189, 3) := by decide +kernel
theorem dX16_resultOf_75 : decode cX16_resultOf 75 = .ok (.if_icmp .eq 10, 3) := by decide +kernel
theorem dX16_resultOf_78 : decode cX16_resultOf 78 = .ok (.iload_n 0, 1) := by decide +kernel
theorem dX16_resultOf_79 : decode cX16_resultOf 79 = .ok (.sipush 193, 3) := by decide +kernel
theorem dX16_resultOf_82 : decode cX16_resultOf 82 = .ok (.if_icmp .le 5, 3) := by decide +kernel
theorem dX16_resultOf_85 : decode cX16_resultOf 85 = .ok (.iconst 1, 1) := by decide +kernel
theorem dX16_resultOf_86 : decode cX16_resultOf 86 = .ok (.ireturn, 1) := by decide +kernel
theorem dX16_resultOf_87 : decode cX16_resultOf 87 = .ok (.iload_n 0, 1) := by decide +kernel
theorem dX16_resultOf_88 : decode cX16_resultOf 88 = .ok (.sipush 183, 3) := by decide +kernel
theorem dX16_resultOf_91 : decode cX16_resultOf 91 = .ok (.if_icmp .lt 10, 3) := by decide +kernel
theorem dX16_resultOf_94 : decode cX16_resultOf 94 = .ok (.iload_n 0, 1) := by decide +kernel
theorem dX16_resultOf_95 : decode cX16_resultOf 95 = .ok (.sipush 190, 3) := by decide +kernel
theorem dX16_resultOf_98 : decode cX16_resultOf 98 = .ok (.if_icmp .ne 7, 3) := by decide +kernel
theorem dX16_resultOf_101 : decode cX16_resultOf 101 = .ok (.iconst 2, 1) := by decide +kernel
theorem dX16_resultOf_102 : decode cX16_resultOf 102 = .ok (.goto 4, 3) := by decide +kernel
theorem dX16_resultOf_105 : decode cX16_resultOf 105 = .ok (.iconst 3, 1) := by decide +kernel
theorem dX16_resultOf_106 : decode cX16_resultOf 106 = .ok (.ireturn, 1) := by decide +kernel
def fX16_resultOf_b64 (x0 : Int32) : Int32 := if x0 < 178 then (1) else (if x0 = 189 then (1) else (if x0 ≤ 193 then (if x0 < 183 then (2) else (if x0 = 190 then (2) else (3))) else (1)))
def fX16_resultOf (p1 : Int32) : Int32 := if 103 ≤ p1 then (if 167 ≤ p1 then (if p1 < 172 then (0) else (if p1 = 188 then (0) else (if p1 = 192 then (0) else (if p1 = 193 then (0) else (if p1 < 200 then (fX16_resultOf_b64 p1) else (if 204 ≤ p1 then (fX16_resultOf_b64 p1) else (0))))))) else (pm_let (fX16_operandOf p1) fun v9 => v9)) else (0)
set_option maxHeartbeats 4000000 in
set_option maxRecDepth 100000 in
theorem bX16_resultOf_64 {g : pm_Gm} {l : Launch} {G : pm_Gl} {Qr : Option Value → pm_H → Prop} (C : pm_C g cX16_resultOf RX16) (X : pm_X g l G mX16_resultOf 0 0 Qr) {h : pm_H} {x0 : Int32} {r : Int32} (hf : fX16_resultOf_b64 x0 = r) (q : Qr (some (.int r)) h) : pm_G g 64 [(0, .int x0)] [] h 0 0 := by
  unfold fX16_resultOf_b64 at hf
  refine pm_iload_n C dX16_resultOf_64 rfl rfl ?_
  refine pm_sipush (v := 178) C dX16_resultOf_65 (by decide) ?_
  refine pm_icmp_lt (tgt := 85) C dX16_resultOf_68 (by decide) (fun c11 => ?_) (fun c11 => ?_)
  · have hf := pm_it hf c11
    refine pm_iconst (v := 1) C dX16_resultOf_85 (by decide) ?_
    subst hf
    exact pm_iret C X dX16_resultOf_86 rfl (Nat.le_refl _) (Nat.le_refl _) q
  · have hf := pm_ie hf c11
    refine pm_iload_n C dX16_resultOf_71 rfl rfl ?_
    refine pm_sipush (v := 189) C dX16_resultOf_72 (by decide) ?_
    refine pm_icmp_eq (tgt := 85) C dX16_resultOf_75 (by decide) (fun c12 => ?_) (fun c12 => ?_)
    · have hf := pm_it hf c12
      refine pm_iconst (v := 1) C dX16_resultOf_85 (by decide) ?_
      subst hf
      exact pm_iret C X dX16_resultOf_86 rfl (Nat.le_refl _) (Nat.le_refl _) q
    · have hf := pm_ie hf c12
      refine pm_iload_n C dX16_resultOf_78 rfl rfl ?_
      refine pm_sipush (v := 193) C dX16_resultOf_79 (by decide) ?_
      refine pm_icmp_le (tgt := 87) C dX16_resultOf_82 (by decide) (fun c13 => ?_) (fun c13 => ?_)
      · have hf := pm_it hf c13
        refine pm_iload_n C dX16_resultOf_87 rfl rfl ?_
        refine pm_sipush (v := 183) C dX16_resultOf_88 (by decide) ?_
        refine pm_icmp_lt (tgt := 101) C dX16_resultOf_91 (by decide) (fun c14 => ?_) (fun c14 => ?_)
        · have hf := pm_it hf c14
          refine pm_iconst (v := 2) C dX16_resultOf_101 (by decide) ?_
          refine pm_goto (tgt := 106) C dX16_resultOf_102 (by decide) ?_
          subst hf
          exact pm_iret C X dX16_resultOf_106 rfl (Nat.le_refl _) (Nat.le_refl _) q
        · have hf := pm_ie hf c14
          refine pm_iload_n C dX16_resultOf_94 rfl rfl ?_
          refine pm_sipush (v := 190) C dX16_resultOf_95 (by decide) ?_
          refine pm_icmp_ne (tgt := 105) C dX16_resultOf_98 (by decide) (fun c15 => ?_) (fun c15 => ?_)
          · have hf := pm_ie hf c15
            refine pm_iconst (v := 3) C dX16_resultOf_105 (by decide) ?_
            subst hf
            exact pm_iret C X dX16_resultOf_106 rfl (Nat.le_refl _) (Nat.le_refl _) q
          · have hf := pm_it hf c15
            refine pm_iconst (v := 2) C dX16_resultOf_101 (by decide) ?_
            refine pm_goto (tgt := 106) C dX16_resultOf_102 (by decide) ?_
            subst hf
            exact pm_iret C X dX16_resultOf_106 rfl (Nat.le_refl _) (Nat.le_refl _) q
      · have hf := pm_ie hf c13
        refine pm_iconst (v := 1) C dX16_resultOf_85 (by decide) ?_
        subst hf
        exact pm_iret C X dX16_resultOf_86 rfl (Nat.le_refl _) (Nat.le_refl _) q
set_option maxHeartbeats 4000000 in
set_option maxRecDepth 100000 in
theorem ctX16_resultOf {l : Launch} {G : pm_Gl} {h : pm_H} {p1 : Int32} {r : Int32} {Qr : Option Value → pm_H → Prop} (hf : fX16_resultOf p1 = r) (q : Qr (some (.int r)) h) : pm_Ct l G mX16_resultOf [.int p1] h 0 0 Qr := by
  refine pm_body pnX16 (Nat.le_of_ble_eq_true rfl) (fun g C X => ?_)
  have C : pm_C g cX16_resultOf RX16 := C
  show pm_G g 0 [(0, .int p1)] [] h 0 0
  unfold fX16_resultOf at hf
  refine pm_iload_n C dX16_resultOf_0 rfl rfl ?_
  refine pm_bipush (v := 103) C dX16_resultOf_1 (by decide) ?_
  refine pm_icmp_ge (tgt := 8) C dX16_resultOf_3 (by decide) (fun c1 => ?_) (fun c1 => ?_)
  · have hf := pm_it hf c1
    refine pm_iload_n C dX16_resultOf_8 rfl rfl ?_
    refine pm_sipush (v := 167) C dX16_resultOf_9 (by decide) ?_
    refine pm_icmp_ge (tgt := 20) C dX16_resultOf_12 (by decide) (fun c2 => ?_) (fun c2 => ?_)
    · have hf := pm_it hf c2
      refine pm_iload_n C dX16_resultOf_20 rfl rfl ?_
      refine pm_sipush (v := 172) C dX16_resultOf_21 (by decide) ?_
      refine pm_icmp_lt (tgt := 62) C dX16_resultOf_24 (by decide) (fun c3 => ?_) (fun c3 => ?_)
      · have hf := pm_it hf c3
        refine pm_iconst (v := 0) C dX16_resultOf_62 (by decide) ?_
        subst hf
        exact pm_iret C X dX16_resultOf_63 rfl (Nat.le_refl _) (Nat.le_refl _) q
      · have hf := pm_ie hf c3
        refine pm_iload_n C dX16_resultOf_27 rfl rfl ?_
        refine pm_sipush (v := 188) C dX16_resultOf_28 (by decide) ?_
        refine pm_icmp_eq (tgt := 62) C dX16_resultOf_31 (by decide) (fun c4 => ?_) (fun c4 => ?_)
        · have hf := pm_it hf c4
          refine pm_iconst (v := 0) C dX16_resultOf_62 (by decide) ?_
          subst hf
          exact pm_iret C X dX16_resultOf_63 rfl (Nat.le_refl _) (Nat.le_refl _) q
        · have hf := pm_ie hf c4
          refine pm_iload_n C dX16_resultOf_34 rfl rfl ?_
          refine pm_sipush (v := 192) C dX16_resultOf_35 (by decide) ?_
          refine pm_icmp_eq (tgt := 62) C dX16_resultOf_38 (by decide) (fun c5 => ?_) (fun c5 => ?_)
          · have hf := pm_it hf c5
            refine pm_iconst (v := 0) C dX16_resultOf_62 (by decide) ?_
            subst hf
            exact pm_iret C X dX16_resultOf_63 rfl (Nat.le_refl _) (Nat.le_refl _) q
          · have hf := pm_ie hf c5
            refine pm_iload_n C dX16_resultOf_41 rfl rfl ?_
            refine pm_sipush (v := 193) C dX16_resultOf_42 (by decide) ?_
            refine pm_icmp_eq (tgt := 62) C dX16_resultOf_45 (by decide) (fun c6 => ?_) (fun c6 => ?_)
            · have hf := pm_it hf c6
              refine pm_iconst (v := 0) C dX16_resultOf_62 (by decide) ?_
              subst hf
              exact pm_iret C X dX16_resultOf_63 rfl (Nat.le_refl _) (Nat.le_refl _) q
            · have hf := pm_ie hf c6
              refine pm_iload_n C dX16_resultOf_48 rfl rfl ?_
              refine pm_sipush (v := 200) C dX16_resultOf_49 (by decide) ?_
              refine pm_icmp_lt (tgt := 64) C dX16_resultOf_52 (by decide) (fun c7 => ?_) (fun c7 => ?_)
              · have hf := pm_it hf c7
                exact pm_sub [0] rfl (bX16_resultOf_64 C X hf q)
              · have hf := pm_ie hf c7
                refine pm_iload_n C dX16_resultOf_55 rfl rfl ?_
                refine pm_sipush (v := 204) C dX16_resultOf_56 (by decide) ?_
                refine pm_icmp_ge (tgt := 64) C dX16_resultOf_59 (by decide) (fun c8 => ?_) (fun c8 => ?_)
                · have hf := pm_it hf c8
                  exact pm_sub [0] rfl (bX16_resultOf_64 C X hf q)
                · have hf := pm_ie hf c8
                  refine pm_iconst (v := 0) C dX16_resultOf_62 (by decide) ?_
                  subst hf
                  exact pm_iret C X dX16_resultOf_63 rfl (Nat.le_refl _) (Nat.le_refl _) q
    · have hf := pm_ie hf c2
      refine pm_iload_n C dX16_resultOf_15 rfl rfl ?_
      obtain ⟨v9, e10, hf⟩ := pm_lt hf
      refine pm_callS (as := [.int p1]) (st := []) C X dX16_resultOf_16 lnX16_753 myX16_operandOf stX16_operandOf ⟨by decide, by decide⟩ rfl rfl (Nat.le_of_ble_eq_true rfl) (Nat.le_refl _) (Nat.le_refl _) (ctX16_operandOf e10 ?_)
      show pm_G g 19 [(0, .int p1)] [.int v9] h 0 0
      subst hf
      exact pm_iret C X dX16_resultOf_19 rfl (Nat.le_refl _) (Nat.le_refl _) q
  · have hf := pm_ie hf c1
    refine pm_iconst (v := 0) C dX16_resultOf_6 (by decide) ?_
    subst hf
    exact pm_iret C X dX16_resultOf_7 rfl (Nat.le_refl _) (Nat.le_refl _) q
