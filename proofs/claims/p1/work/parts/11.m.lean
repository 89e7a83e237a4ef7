theorem dJ6_bitCount_0f7a4_0 : decode cJ6_bitCount_0f7a4 0 = .ok (.iload_n 0, 1) := by decide +kernel
theorem dJ6_bitCount_0f7a4_1 : decode cJ6_bitCount_0f7a4 1 = .ok (.iload_n 0, 1) := by decide +kernel
theorem dJ6_bitCount_0f7a4_2 : decode cJ6_bitCount_0f7a4 2 = .ok (.iconst 1, 1) := by decide +kernel
theorem dJ6_bitCount_0f7a4_3 : decode cJ6_bitCount_0f7a4 3 = .ok (.iushr, 1) := by decide +kernel
theorem dJ6_bitCount_0f7a4_4 : decode cJ6_bitCount_0f7a4 4 = .ok (.ldc_w 265, 3) := by decide +kernel
theorem dJ6_bitCount_0f7a4_7 : decode cJ6_bitCount_0f7a4 7 = .ok (.iand, 1) := by decide +kernel
theorem dJ6_bitCount_0f7a4_8 : decode cJ6_bitCount_0f7a4 8 = .ok (.isub, 1) := by decide +kernel
theorem dJ6_bitCount_0f7a4_9 : decode cJ6_bitCount_0f7a4 9 = .ok (.istore_n 0, 1) := by decide +kernel
theorem dJ6_bitCount_0f7a4_10 : decode cJ6_bitCount_0f7a4 10 = .ok (.iload_n 0, 1) := by decide +kernel
theorem dJ6_bitCount_0f7a4_11 : decode cJ6_bitCount_0f7a4 11 = .ok (.ldc_w 266, 3) := by decide +kernel
theorem dJ6_bitCount_0f7a4_14 : decode cJ6_bitCount_0f7a4 14 = .ok (.iand, 1) := by decide +kernel
theorem dJ6_bitCount_0f7a4_15 : decode cJ6_bitCount_0f7a4 15 = .ok (.iload_n 0, 1) := by decide +kernel
theorem dJ6_bitCount_0f7a4_16 : decode cJ6_bitCount_0f7a4 16 = .ok (.iconst 2, 1) := by decide +kernel
theorem dJ6_bitCount_0f7a4_17 : decode cJ6_bitCount_0f7a4 17 = .ok (.iushr, 1) := by decide +kernel
theorem dJ6_bitCount_0f7a4_18 : decode cJ6_bitCount_0f7a4 18 = .ok (.ldc_w 266, 3) := by decide +kernel
theorem dJ6_bitCount_0f7a4_21 : decode cJ6_bitCount_0f7a4 21 = .ok (.iand, 1) := by decide +kernel
theorem dJ6_bitCount_0f7a4_22 : decode cJ6_bitCount_0f7a4 22 = .ok (.iadd, 1) := by decide +kernel
theorem dJ6_bitCount_0f7a4_23 : decode cJ6_bitCount_0f7a4 23 = .ok (.istore_n 0, 1) := by decide +kernel
theorem dJ6_bitCount_0f7a4_24 : decode cJ6_bitCount_0f7a4 24 = .ok (.iload_n 0, 1) := by decide +kernel
theorem dJ6_bitCount_0f7a4_25 : decode cJ6_bitCount_0f7a4 25 = .ok (.iload_n 0, 1) := by decide +kernel
theorem dJ6_bitCount_0f7a4_26 : decode cJ6_bitCount_0f7a4 26 = .ok (.iconst 4, 1) := by decide +kernel
theorem dJ6_bitCount_0f7a4_27 : decode cJ6_bitCount_0f7a4 27 = .ok (.iushr, 1) := by decide +kernel
theorem dJ6_bitCount_0f7a4_28 : decode cJ6_bitCount_0f7a4 28 = .ok (.iadd, 1) := by decide +kernel
theorem dJ6_bitCount_0f7a4_29 : decode cJ6_bitCount_0f7a4 29 = .ok (.ldc_w 267, 3) := by decide +kernel
theorem dJ6_bitCount_0f7a4_32 : decode cJ6_bitCount_0f7a4 32 = .ok (.iand, 1) := by decide +kernel
theorem dJ6_bitCount_0f7a4_33 : decode cJ6_bitCount_0f7a4 33 = .ok (.istore_n 0, 1) := by decide +kernel
theorem dJ6_bitCount_0f7a4_34 : decode cJ6_bitCount_0f7a4 34 = .ok (.iload_n 0, 1) := by decide +kernel
theorem dJ6_bitCount_0f7a4_35 : decode cJ6_bitCount_0f7a4 35 = .ok (.iload_n 0, 1) := by decide +kernel
theorem dJ6_bitCount_0f7a4_36 : decode cJ6_bitCount_0f7a4 36 = .ok (.bipush 8, 2) := by decide +kernel
theorem dJ6_bitCount_0f7a4_38 : decode cJ6_bitCount_0f7a4 38 = .ok (.iushr, 1) := by decide +kernel
theorem dJ6_bitCount_0f7a4_39 : decode cJ6_bitCount_0f7a4 39 = .ok (.iadd, 1) := by decide +kernel
theorem dJ6_bitCount_0f7a4_40 : decode cJ6_bitCount_0f7a4 40 = .ok (.istore_n 0, 1) := by decide +kernel
theorem dJ6_bitCount_0f7a4_41 : decode cJ6_bitCount_0f7a4 41 = .ok (.iload_n 0, 1) := by decide +kernel
theorem dJ6_bitCount_0f7a4_42 : decode cJ6_bitCount_0f7a4 42 = .ok (.iload_n 0, 1) := by decide +kernel
theorem dJ6_bitCount_0f7a4_43 : decode cJ6_bitCount_0f7a4 43 = .ok (.bipush 16, 2) := by decide +kernel
theorem dJ6_bitCount_0f7a4_45 : decode cJ6_bitCount_0f7a4 45 = .ok (.iushr, 1) := by decide +kernel
theorem dJ6_bitCount_0f7a4_46 : decode cJ6_bitCount_0f7a4 46 = .ok (.iadd, 1) := by decide +kernel
theorem dJ6_bitCount_0f7a4_47 : decode cJ6_bitCount_0f7a4 47 = .ok (.istore_n 0, 1) := by decide +kernel
theorem dJ6_bitCount_0f7a4_48 : decode cJ6_bitCount_0f7a4 48 = .ok (.iload_n 0, 1) := by decide +kernel
theorem dJ6_bitCount_0f7a4_49 : decode cJ6_bitCount_0f7a4 49 = .ok (.bipush 63, 2) := by decide +kernel
theorem dJ6_bitCount_0f7a4_51 : decode cJ6_bitCount_0f7a4 51 = .ok (.iand, 1) := by decide +kernel
theorem dJ6_bitCount_0f7a4_52 : decode cJ6_bitCount_0f7a4 52 = .ok (.ireturn, 1) := by decide +kernel
def fJ6_bitCount_0f7a4 (p1 : Int32) : Int32 := pm_let (p1 - (((p1.toUInt32 >>> ((1 : Int32).toUInt32 &&& Int32.toUInt32 31)).toInt32) &&& 1431655765)) fun y1 => pm_let ((y1 &&& 858993459) + (((y1.toUInt32 >>> ((2 : Int32).toUInt32 &&& Int32.toUInt32 31)).toInt32) &&& 858993459)) fun y3 => pm_let ((y3 + ((y3.toUInt32 >>> ((4 : Int32).toUInt32 &&& Int32.toUInt32 31)).toInt32)) &&& 252645135) fun y5 => pm_let (y5 + ((y5.toUInt32 >>> ((8 : Int32).toUInt32 &&& Int32.toUInt32 31)).toInt32)) fun y7 => pm_let (y7 + ((y7.toUInt32 >>> ((16 : Int32).toUInt32 &&& Int32.toUInt32 31)).toInt32)) fun y9 => y9 &&& 63
set_option maxHeartbeats 4000000 in
set_option maxRecDepth 100000 in
theorem ctJ6_bitCount_0f7a4 {l : Launch} {G : pm_Gl} {h : pm_H} {p1 : Int32} {r : Int32} {Qr : Option Value → pm_H → Prop} (hf : fJ6_bitCount_0f7a4 p1 = r) (q : Qr (some (.int r)) h) : pm_Ct l G mJ6_bitCount_0f7a4 [.int p1] h 0 0 Qr := by
  refine pm_body pnJ6 (Nat.le_of_ble_eq_true rfl) (fun g C X => ?_)
  have C : pm_C g cJ6_bitCount_0f7a4 RJ6 := C
  show pm_G g 0 [(0, .int p1)] [] h 0 0
  unfold fJ6_bitCount_0f7a4 at hf
  refine pm_iload_n C dJ6_bitCount_0f7a4_0 rfl rfl ?_
  refine pm_iload_n C dJ6_bitCount_0f7a4_1 rfl rfl ?_
  refine pm_iconst (v := 1) C dJ6_bitCount_0f7a4_2 (by decide) ?_
  refine pm_iushr C dJ6_bitCount_0f7a4_3 ?_
  refine pm_ldcw C dJ6_bitCount_0f7a4_4 cnJ6_265 ?_
  refine pm_iand C dJ6_bitCount_0f7a4_7 ?_
  refine pm_isub C dJ6_bitCount_0f7a4_8 ?_
  obtain ⟨y1, e2, hf⟩ := pm_lt hf
  refine pm_topI e2 ?_
  refine pm_istore_n (lv' := [(0, .int y1)]) C dJ6_bitCount_0f7a4_9 rfl (pm_nl X (by decide)) rfl ?_
  refine pm_iload_n C dJ6_bitCount_0f7a4_10 rfl rfl ?_
  refine pm_ldcw C dJ6_bitCount_0f7a4_11 cnJ6_266 ?_
  refine pm_iand C dJ6_bitCount_0f7a4_14 ?_
  refine pm_iload_n C dJ6_bitCount_0f7a4_15 rfl rfl ?_
  refine pm_iconst (v := 2) C dJ6_bitCount_0f7a4_16 (by decide) ?_
  refine pm_iushr C dJ6_bitCount_0f7a4_17 ?_
  refine pm_ldcw C dJ6_bitCount_0f7a4_18 cnJ6_266 ?_
  refine pm_iand C dJ6_bitCount_0f7a4_21 ?_
  refine pm_iadd C dJ6_bitCount_0f7a4_22 ?_
  obtain ⟨y3, e4, hf⟩ := pm_lt hf
  refine pm_topI e4 ?_
  refine pm_istore_n (lv' := [(0, .int y3)]) C dJ6_bitCount_0f7a4_23 rfl (pm_nl X (by decide)) rfl ?_
  refine pm_iload_n C dJ6_bitCount_0f7a4_24 rfl rfl ?_
  refine pm_iload_n C dJ6_bitCount_0f7a4_25 rfl rfl ?_
  refine pm_iconst (v := 4) C dJ6_bitCount_0f7a4_26 (by decide) ?_
  refine pm_iushr C dJ6_bitCount_0f7a4_27 ?_
  refine pm_iadd C dJ6_bitCount_0f7a4_28 ?_
  refine pm_ldcw C dJ6_bitCount_0f7a4_29 cnJ6_267 ?_
  refine pm_iand C dJ6_bitCount_0f7a4_32 ?_
  obtain ⟨y5, e6, hf⟩ := pm_lt hf
  refine pm_topI e6 ?_
  refine pm_istore_n (lv' := [(0, .int y5)]) C dJ6_bitCount_0f7a4_33 rfl (pm_nl X (by decide)) rfl ?_
  refine pm_iload_n C dJ6_bitCount_0f7a4_34 rfl rfl ?_
  refine pm_iload_n C dJ6_bitCount_0f7a4_35 rfl rfl ?_
  refine pm_bipush (v := 8) C dJ6_bitCount_0f7a4_36 (by decide) ?_
  refine pm_iushr C dJ6_bitCount_0f7a4_38 ?_
  refine pm_iadd C dJ6_bitCount_0f7a4_39 ?_
  obtain ⟨y7, e8, hf⟩ := pm_lt hf
  refine pm_topI e8 ?_
  refine pm_istore_n (lv' := [(0, .int y7)]) C dJ6_bitCount_0f7a4_40 rfl (pm_nl X (by decide)) rfl ?_
  refine pm_iload_n C dJ6_bitCount_0f7a4_41 rfl rfl ?_
  refine pm_iload_n C dJ6_bitCount_0f7a4_42 rfl rfl ?_
  refine pm_bipush (v := 16) C dJ6_bitCount_0f7a4_43 (by decide) ?_
  refine pm_iushr C dJ6_bitCount_0f7a4_45 ?_
  refine pm_iadd C dJ6_bitCount_0f7a4_46 ?_
  obtain ⟨y9, e10, hf⟩ := pm_lt hf
  refine pm_topI e10 ?_
  refine pm_istore_n (lv' := [(0, .int y9)]) C dJ6_bitCount_0f7a4_47 rfl (pm_nl X (by decide)) rfl ?_
  refine pm_iload_n C dJ6_bitCount_0f7a4_48 rfl rfl ?_
  refine pm_bipush (v := 63) C dJ6_bitCount_0f7a4_49 (by decide) ?_
  refine pm_iand C dJ6_bitCount_0f7a4_51 ?_
  subst hf
  exact pm_iret C X dJ6_bitCount_0f7a4_52 rfl (Nat.le_refl _) (Nat.le_refl _) q
theorem dJ6_numberOfLeadingZeros_0f7a4_0 : decode cJ6_numberOfLeadingZeros_0f7a4 0 = .ok (.iload_n 0, 1) := by decide +kernel
theorem dJ6_numberOfLeadingZeros_0f7a4_1 : decode cJ6_numberOfLeadingZeros_0f7a4 1 = .ok (.ifCond .gt 14, 3) := by decide +kernel
theorem dJ6_numberOfLeadingZeros_0f7a4_4 : decode cJ6_numberOfLeadingZeros_0f7a4 4 = .ok (.iload_n 0, 1) := by decide +kernel
theorem dJ6_numberOfLeadingZeros_0f7a4_5 : decode cJ6_numberOfLeadingZeros_0f7a4 5 = .ok (.ifCond .ne 8, 3) := by decide +kernel
theorem dJ6_numberOfLeadingZeros_0f7a4_8 : decode cJ6_numberOfLeadingZeros_0f7a4 8 = .ok (.bipush 32, 2) := by decide +kernel
theorem dJ6_numberOfLeadingZeros_0f7a4_10 : decode cJ6_numberOfLeadingZeros_0f7a4 10 = .ok (.goto 4, 3) := by decide +kernel
theorem dJ6_numberOfLeadingZeros_0f7a4_13 : decode cJ6_numberOfLeadingZeros_0f7a4 13 = .ok (.iconst 0, 1) := by decide +kernel
theorem dJ6_numberOfLeadingZeros_0f7a4_14 : decode cJ6_numberOfLeadingZeros_0f7a4 14 = .ok (.ireturn, 1) := by decide +kernel
theorem dJ6_numberOfLeadingZeros_0f7a4_15 : decode cJ6_numberOfLeadingZeros_0f7a4 15 = .ok (.bipush 31, 2) := by decide +kernel
theorem dJ6_numberOfLeadingZeros_0f7a4_17 : decode cJ6_numberOfLeadingZeros_0f7a4 17 = .ok (.istore_n 1, 1) := by decide +kernel
theorem dJ6_numberOfLeadingZeros_0f7a4_18 : decode cJ6_numberOfLeadingZeros_0f7a4 18 = .ok (.iload_n 0, 1) := by decide +kernel
theorem dJ6_numberOfLeadingZeros_0f7a4_19 : decode cJ6_numberOfLeadingZeros_0f7a4 19 = .ok (.ldc_w 264, 3) := by decide +kernel
theorem dJ6_numberOfLeadingZeros_0f7a4_22 : decode cJ6_numberOfLeadingZeros_0f7a4 22 = .ok (.if_icmp .lt 11, 3) := by decide +kernel
theorem dJ6_numberOfLeadingZeros_0f7a4_25 : decode cJ6_numberOfLeadingZeros_0f7a4 25 = .ok (.iinc 1 (-16), 3) := by decide +kernel
theorem dJ6_numberOfLeadingZeros_0f7a4_28 : decode cJ6_numberOfLeadingZeros_0f7a4 28 = .ok (.iload_n 0, 1) := by decide +kernel
theorem dJ6_numberOfLeadingZeros_0f7a4_29 : decode cJ6_numberOfLeadingZeros_0f7a4 29 = .ok (.bipush 16, 2) := by decide +kernel
theorem dJ6_numberOfLeadingZeros_0f7a4_31 : decode cJ6_numberOfLeadingZeros_0f7a4 31 = .ok (.iushr, 1) := by decide +kernel
theorem dJ6_numberOfLeadingZeros_0f7a4_32 : decode cJ6_numberOfLeadingZeros_0f7a4 32 = .ok (.istore_n 0, 1) := by decide +kernel
theorem dJ6_numberOfLeadingZeros_0f7a4_33 : decode cJ6_numberOfLeadingZeros_0f7a4 33 = .ok (.iload_n 0, 1) := by decide +kernel
theorem dJ6_numberOfLeadingZeros_0f7a4_34 : decode cJ6_numberOfLeadingZeros_0f7a4 34 = .ok (.sipush 256, 3) := by decide +kernel
theorem dJ6_numberOfLeadingZeros_0f7a4_37 : decode cJ6_numberOfLeadingZeros_0f7a4 37 = .ok (.if_icmp .lt 11, 3) := by decide +kernel
theorem dJ6_numberOfLeadingZeros_0f7a4_40 : decode cJ6_numberOfLeadingZeros_0f7a4 40 = .ok (.iinc 1 (-8), 3) := by decide +kernel
theorem dJ6_numberOfLeadingZeros_0f7a4_43 : decode cJ6_numberOfLeadingZeros_0f7a4 43 = .ok (.iload_n 0, 1) := by decide +kernel
theorem dJ6_numberOfLeadingZeros_0f7a4_44 : decode cJ6_numberOfLeadingZeros_0f7a4 44 = .ok (.bipush 8, 2) := by decide +kernel
theorem dJ6_numberOfLeadingZeros_0f7a4_46 : decode cJ6_numberOfLeadingZeros_0f7a4 46 = .ok (.iushr, 1) := by decide +kernel
theorem dJ6_numberOfLeadingZeros_0f7a4_47 : decode cJ6_numberOfLeadingZeros_0f7a4 47 = .ok (.istore_n 0, 1) := by decide +kernel
theorem dJ6_numberOfLeadingZeros_0f7a4_48 : decode cJ6_numberOfLeadingZeros_0f7a4 48 = .ok (.iload_n 0, 1) := by decide +kernel
theorem dJ6_numberOfLeadingZeros_0f7a4_49 : decode cJ6_numberOfLeadingZeros_0f7a4 49 = .ok (.bipush 16, 2) := by decide +kernel
theorem dJ6_numberOfLeadingZeros_0f7a4_51 : decode cJ6_numberOfLeadingZeros_0f7a4 51 = .ok (.if_icmp .lt 10, 3) := by decide +kernel
theorem dJ6_numberOfLeadingZeros_0f7a4_54 : decode cJ6_numberOfLeadingZeros_0f7a4 54 = .ok (.iinc 1 (-4), 3) := by decide +kernel
theorem dJ6_numberOfLeadingZeros_0f7a4_57 : decode cJ6_numberOfLeadingZeros_0f7a4 57 = .ok (.iload_n 0, 1) := by decide +kernel
theorem dJ6_numberOfLeadingZeros_0f7a4_58 : decode cJ6_numberOfLeadingZeros_0f7a4 58 = .ok (.iconst 4, 1) := by decide +kernel
theorem dJ6_numberOfLeadingZeros_0f7a4_59 : decode cJ6_numberOfLeadingZeros_0f7a4 59 = .ok (.iushr, 1) := by decide +kernel
theorem dJ6_numberOfLeadingZeros_0f7a4_60 : decode cJ6_numberOfLeadingZeros_0f7a4 60 = .ok (.istore_n 0, 1) := by decide +kernel
theorem dJ6_numberOfLeadingZeros_0f7a4_61 : decode cJ6_numberOfLeadingZeros_0f7a4 61 = .ok (.iload_n 0, 1) := by decide +kernel
theorem dJ6_numberOfLeadingZeros_0f7a4_62 : decode cJ6_numberOfLeadingZeros_0f7a4 62 = .ok (.iconst 4, 1) := by decide +kernel
theorem dJ6_numberOfLeadingZeros_0f7a4_63 : decode cJ6_numberOfLeadingZeros_0f7a4 63 = .ok (.if_icmp .lt 10, 3) := by decide +kernel
theorem dJ6_numberOfLeadingZeros_0f7a4_66 : decode cJ6_numberOfLeadingZeros_0f7a4 66 = .ok (.iinc 1 (-2), 3) := by decide +kernel
theorem dJ6_numberOfLeadingZeros_0f7a4_69 : decode cJ6_numberOfLeadingZeros_0f7a4 69 = .ok (.iload_n 0, 1) := by decide +kernel
theorem dJ6_numberOfLeadingZeros_0f7a4_70 : decode cJ6_numberOfLeadingZeros_0f7a4 70 = .ok (.iconst 2, 1) := by decide +kernel
theorem dJ6_numberOfLeadingZeros_0f7a4_71 : decode cJ6_numberOfLeadingZeros_0f7a4 71 = .ok (.iushr, 1) := by decide +kernel
theorem dJ6_numberOfLeadingZeros_0f7a4_72 : decode cJ6_numberOfLeadingZeros_0f7a4 72 = .ok (.istore_n 0, 1) := by decide +kernel
theorem dJ6_numberOfLeadingZeros_0f7a4_73 : decode cJ6_numberOfLeadingZeros_0f7a4 73 = .ok (.iload_n 1, 1) := by decide +kernel
theorem dJ6_numberOfLeadingZeros_0f7a4_74 : decode cJ6_numberOfLeadingZeros_0f7a4 74 = .ok (.iload_n 0, 1) := by decide +kernel
theorem dJ6_numberOfLeadingZeros_0f7a4_75 : decode cJ6_numberOfLeadingZeros_0f7a4 75 = .ok (.iconst 1, 1) := by decide +kernel
theorem dJ6_numberOfLeadingZeros_0f7a4_76 : decode cJ6_numberOfLeadingZeros_0f7a4 76 = .ok (.iushr, 1) := by decide +kernel
theorem dJ6_numberOfLeadingZeros_0f7a4_77 : decode cJ6_numberOfLeadingZeros_0f7a4 77 = .ok (.isub, 1) := by decide +kernel
theorem dJ6_numberOfLeadingZeros_0f7a4_78 : decode cJ6_numberOfLeadingZeros_0f7a4 78 = .ok (.ireturn, 1) := by decide +kernel
def fJ6_numberOfLeadingZeros_0f7a4_b61 (x0 : Int32) (x1 : Int32) : Int32 := if x0 < 4 then (x1 - ((x0.toUInt32 >>> ((1 : Int32).toUInt32 &&& Int32.toUInt32 31)).toInt32)) else (pm_let (x1 + (-2)) fun y19 => pm_let ((x0.toUInt32 >>> ((2 : Int32).toUInt32 &&& Int32.toUInt32 31)).toInt32) fun y21 => y19 - ((y21.toUInt32 >>> ((1 : Int32).toUInt32 &&& Int32.toUInt32 31)).toInt32))
def fJ6_numberOfLeadingZeros_0f7a4_b48 (x0 : Int32) (x1 : Int32) : Int32 := if x0 < 16 then (fJ6_numberOfLeadingZeros_0f7a4_b61 x0 x1) else (pm_let (x1 + (-4)) fun y14 => pm_let ((x0.toUInt32 >>> ((4 : Int32).toUInt32 &&& Int32.toUInt32 31)).toInt32) fun y16 => fJ6_numberOfLeadingZeros_0f7a4_b61 y16 y14)
def fJ6_numberOfLeadingZeros_0f7a4_b33 (x0 : Int32) (x1 : Int32) : Int32 := if x0 < 256 then (fJ6_numberOfLeadingZeros_0f7a4_b48 x0 x1) else (pm_let (x1 + (-8)) fun y9 => pm_let ((x0.toUInt32 >>> ((8 : Int32).toUInt32 &&& Int32.toUInt32 31)).toInt32) fun y11 => fJ6_numberOfLeadingZeros_0f7a4_b48 y11 y9)
def fJ6_numberOfLeadingZeros_0f7a4 (p1 : Int32) : Int32 := if 0 < p1 then (if p1 < 65536 then (fJ6_numberOfLeadingZeros_0f7a4_b33 p1 31) else (pm_let (31 + (-16)) fun y3 => pm_let ((p1.toUInt32 >>> ((16 : Int32).toUInt32 &&& Int32.toUInt32 31)).toInt32) fun y5 => fJ6_numberOfLeadingZeros_0f7a4_b33 y5 y3)) else (if p1 = 0 then (32) else (0))
set_option maxHeartbeats 4000000 in
set_option maxRecDepth 100000 in
theorem bJ6_numberOfLeadingZeros_0f7a4_61 {g : pm_Gm} {l : Launch} {G : pm_Gl} {Qr : Option Value → pm_H → Prop} (C : pm_C g cJ6_numberOfLeadingZeros_0f7a4 RJ6) (X : pm_X g l G mJ6_numberOfLeadingZeros_0f7a4 0 0 Qr) {h : pm_H} {x0 : Int32} {x1 : Int32} {r : Int32} (hf : fJ6_numberOfLeadingZeros_0f7a4_b61 x0 x1 = r) (q : Qr (some (.int r)) h) : pm_G g 61 [(0, .int x0), (1, .int x1)] [] h 0 0 := by
  unfold fJ6_numberOfLeadingZeros_0f7a4_b61 at hf
  refine pm_iload_n C dJ6_numberOfLeadingZeros_0f7a4_61 rfl rfl ?_
  refine pm_iconst (v := 4) C dJ6_numberOfLeadingZeros_0f7a4_62 (by decide) ?_
  refine pm_icmp_lt (tgt := 73) C dJ6_numberOfLeadingZeros_0f7a4_63 (by decide) (fun c18 => ?_) (fun c18 => ?_)
  · have hf := pm_it hf c18
    refine pm_iload_n C dJ6_numberOfLeadingZeros_0f7a4_73 rfl rfl ?_
    refine pm_iload_n C dJ6_numberOfLeadingZeros_0f7a4_74 rfl rfl ?_
    refine pm_iconst (v := 1) C dJ6_numberOfLeadingZeros_0f7a4_75 (by decide) ?_
    refine pm_iushr C dJ6_numberOfLeadingZeros_0f7a4_76 ?_
    refine pm_isub C dJ6_numberOfLeadingZeros_0f7a4_77 ?_
    subst hf
    exact pm_iret C X dJ6_numberOfLeadingZeros_0f7a4_78 rfl (Nat.le_refl _) (Nat.le_refl _) q
  · have hf := pm_ie hf c18
    obtain ⟨y19, e20, hf⟩ := pm_lt hf
    refine pm_iinc (v := y19) (lv' := [(1, .int y19), (0, .int x0)]) C dJ6_numberOfLeadingZeros_0f7a4_66 rfl ((congrArg (x1 + ·) (by decide : Int32.ofInt (-2) = (-2))).trans e20) (pm_nl X (by decide)) rfl ?_
    refine pm_iload_n C dJ6_numberOfLeadingZeros_0f7a4_69 rfl rfl ?_
    refine pm_iconst (v := 2) C dJ6_numberOfLeadingZeros_0f7a4_70 (by decide) ?_
    refine pm_iushr C dJ6_numberOfLeadingZeros_0f7a4_71 ?_
    obtain ⟨y21, e22, hf⟩ := pm_lt hf
    refine pm_topI e22 ?_
    refine pm_istore_n (lv' := [(0, .int y21), (1, .int y19)]) C dJ6_numberOfLeadingZeros_0f7a4_72 rfl (pm_nl X (by decide)) rfl ?_
    refine pm_iload_n C dJ6_numberOfLeadingZeros_0f7a4_73 rfl rfl ?_
    refine pm_iload_n C dJ6_numberOfLeadingZeros_0f7a4_74 rfl rfl ?_
    refine pm_iconst (v := 1) C dJ6_numberOfLeadingZeros_0f7a4_75 (by decide) ?_
    refine pm_iushr C dJ6_numberOfLeadingZeros_0f7a4_76 ?_
    refine pm_isub C dJ6_numberOfLeadingZeros_0f7a4_77 ?_
    subst hf
    exact pm_iret C X dJ6_numberOfLeadingZeros_0f7a4_78 rfl (Nat.le_refl _) (Nat.le_refl _) q
set_option maxHeartbeats 4000000 in
set_option maxRecDepth 100000 in
theorem bJ6_numberOfLeadingZeros_0f7a4_48 {g : pm_Gm} {l : Launch} {G : pm_Gl} {Qr : Option Value → pm_H → Prop} (C : pm_C g cJ6_numberOfLeadingZeros_0f7a4 RJ6) (X : pm_X g l G mJ6_numberOfLeadingZeros_0f7a4 0 0 Qr) {h : pm_H} {x0 : Int32} {x1 : Int32} {r : Int32} (hf : fJ6_numberOfLeadingZeros_0f7a4_b48 x0 x1 = r) (q : Qr (some (.int r)) h) : pm_G g 48 [(0, .int x0), (1, .int x1)] [] h 0 0 := by
  unfold fJ6_numberOfLeadingZeros_0f7a4_b48 at hf
  refine pm_iload_n C dJ6_numberOfLeadingZeros_0f7a4_48 rfl rfl ?_
  refine pm_bipush (v := 16) C dJ6_numberOfLeadingZeros_0f7a4_49 (by decide) ?_
  refine pm_icmp_lt (tgt := 61) C dJ6_numberOfLeadingZeros_0f7a4_51 (by decide) (fun c13 => ?_) (fun c13 => ?_)
  · have hf := pm_it hf c13
    exact pm_sub [0, 1] rfl (bJ6_numberOfLeadingZeros_0f7a4_61 C X hf q)
  · have hf := pm_ie hf c13
    obtain ⟨y14, e15, hf⟩ := pm_lt hf
    refine pm_iinc (v := y14) (lv' := [(1, .int y14), (0, .int x0)]) C dJ6_numberOfLeadingZeros_0f7a4_54 rfl ((congrArg (x1 + ·) (by decide : Int32.ofInt (-4) = (-4))).trans e15) (pm_nl X (by decide)) rfl ?_
    refine pm_iload_n C dJ6_numberOfLeadingZeros_0f7a4_57 rfl rfl ?_
    refine pm_iconst (v := 4) C dJ6_numberOfLeadingZeros_0f7a4_58 (by decide) ?_
    refine pm_iushr C dJ6_numberOfLeadingZeros_0f7a4_59 ?_
    obtain ⟨y16, e17, hf⟩ := pm_lt hf
    refine pm_topI e17 ?_
    refine pm_istore_n (lv' := [(0, .int y16), (1, .int y14)]) C dJ6_numberOfLeadingZeros_0f7a4_60 rfl (pm_nl X (by decide)) rfl ?_
    exact pm_sub [0, 1] rfl (bJ6_numberOfLeadingZeros_0f7a4_61 C X hf q)
set_option maxHeartbeats 4000000 in
set_option maxRecDepth 100000 in
theorem bJ6_numberOfLeadingZeros_0f7a4_33 {g : pm_Gm} {l : Launch} {G : pm_Gl} {Qr : Option Value → pm_H → Prop} (C : pm_C g cJ6_numberOfLeadingZeros_0f7a4 RJ6) (X : pm_X g l G mJ6_numberOfLeadingZeros_0f7a4 0 0 Qr) {h : pm_H} {x0 : Int32} {x1 : Int32} {r : Int32} (hf : fJ6_numberOfLeadingZeros_0f7a4_b33 x0 x1 = r) (q : Qr (some (.int r)) h) : pm_G g 33 [(0, .int x0), (1, .int x1)] [] h 0 0 := by
  unfold fJ6_numberOfLeadingZeros_0f7a4_b33 at hf
  refine pm_iload_n C dJ6_numberOfLeadingZeros_0f7a4_33 rfl rfl ?_
  refine pm_sipush (v := 256) C dJ6_numberOfLeadingZeros_0f7a4_34 (by decide) ?_
  refine pm_icmp_lt (tgt := 48) C dJ6_numberOfLeadingZeros_0f7a4_37 (by decide) (fun c8 => ?_) (fun c8 => ?_)
  · have hf := pm_it hf c8
    exact pm_sub [0, 1] rfl (bJ6_numberOfLeadingZeros_0f7a4_48 C X hf q)
  · have hf := pm_ie hf c8
    obtain ⟨y9, e10, hf⟩ := pm_lt hf
    refine pm_iinc (v := y9) (lv' := [(1, .int y9), (0, .int x0)]) C dJ6_numberOfLeadingZeros_0f7a4_40 rfl ((congrArg (x1 + ·) (by decide : Int32.ofInt (-8) = (-8))).trans e10) (pm_nl X (by decide)) rfl ?_
    refine pm_iload_n C dJ6_numberOfLeadingZeros_0f7a4_43 rfl rfl ?_
    refine pm_bipush (v := 8) C dJ6_numberOfLeadingZeros_0f7a4_44 (by decide) ?_
    refine pm_iushr C dJ6_numberOfLeadingZeros_0f7a4_46 ?_
    obtain ⟨y11, e12, hf⟩ := pm_lt hf
    refine pm_topI e12 ?_
    refine pm_istore_n (lv' := [(0, .int y11), (1, .int y9)]) C dJ6_numberOfLeadingZeros_0f7a4_47 rfl (pm_nl X (by decide)) rfl ?_
    exact pm_sub [0, 1] rfl (bJ6_numberOfLeadingZeros_0f7a4_48 C X hf q)
set_option maxHeartbeats 4000000 in
set_option maxRecDepth 100000 in
theorem ctJ6_numberOfLeadingZeros_0f7a4 {l : Launch} {G : pm_Gl} {h : pm_H} {p1 : Int32} {r : Int32} {Qr : Option Value → pm_H → Prop} (hf : fJ6_numberOfLeadingZeros_0f7a4 p1 = r) (q : Qr (some (.int r)) h) : pm_Ct l G mJ6_numberOfLeadingZeros_0f7a4 [.int p1] h 0 0 Qr := by
  refine pm_body pnJ6 (Nat.le_of_ble_eq_true rfl) (fun g C X => ?_)
  have C : pm_C g cJ6_numberOfLeadingZeros_0f7a4 RJ6 := C
  show pm_G g 0 [(0, .int p1)] [] h 0 0
  unfold fJ6_numberOfLeadingZeros_0f7a4 at hf
  refine pm_iload_n C dJ6_numberOfLeadingZeros_0f7a4_0 rfl rfl ?_
  refine pm_if_gt (tgt := 15) C dJ6_numberOfLeadingZeros_0f7a4_1 (by decide) (fun c1 => ?_) (fun c1 => ?_)
  · have hf := pm_it hf c1
    refine pm_bipush (v := 31) C dJ6_numberOfLeadingZeros_0f7a4_15 (by decide) ?_
    refine pm_istore_n (lv' := [(1, .int 31), (0, .int p1)]) C dJ6_numberOfLeadingZeros_0f7a4_17 rfl (pm_nl X (by decide)) rfl ?_
    refine pm_iload_n C dJ6_numberOfLeadingZeros_0f7a4_18 rfl rfl ?_
    refine pm_ldcw C dJ6_numberOfLeadingZeros_0f7a4_19 cnJ6_264 ?_
    refine pm_icmp_lt (tgt := 33) C dJ6_numberOfLeadingZeros_0f7a4_22 (by decide) (fun c2 => ?_) (fun c2 => ?_)
    · have hf := pm_it hf c2
      exact pm_sub [1, 0] rfl (bJ6_numberOfLeadingZeros_0f7a4_33 C X hf q)
    · have hf := pm_ie hf c2
      obtain ⟨y3, e4, hf⟩ := pm_lt hf
      refine pm_iinc (v := y3) (lv' := [(1, .int y3), (0, .int p1)]) C dJ6_numberOfLeadingZeros_0f7a4_25 rfl ((congrArg (31 + ·) (by decide : Int32.ofInt (-16) = (-16))).trans e4) (pm_nl X (by decide)) rfl ?_
      refine pm_iload_n C dJ6_numberOfLeadingZeros_0f7a4_28 rfl rfl ?_
      refine pm_bipush (v := 16) C dJ6_numberOfLeadingZeros_0f7a4_29 (by decide) ?_
      refine pm_iushr C dJ6_numberOfLeadingZeros_0f7a4_31 ?_
      obtain ⟨y5, e6, hf⟩ := pm_lt hf
      refine pm_topI e6 ?_
      refine pm_istore_n (lv' := [(0, .int y5), (1, .int y3)]) C dJ6_numberOfLeadingZeros_0f7a4_32 rfl (pm_nl X (by decide)) rfl ?_
      exact pm_sub [0, 1] rfl (bJ6_numberOfLeadingZeros_0f7a4_33 C X hf q)
  · have hf := pm_ie hf c1
    refine pm_iload_n C dJ6_numberOfLeadingZeros_0f7a4_4 rfl rfl ?_
    refine pm_if_ne (tgt := 13) C dJ6_numberOfLeadingZeros_0f7a4_5 (by decide) (fun c7 => ?_) (fun c7 => ?_)
    · have hf := pm_ie hf c7
      refine pm_iconst (v := 0) C dJ6_numberOfLeadingZeros_0f7a4_13 (by decide) ?_
      subst hf
      exact pm_iret C X dJ6_numberOfLeadingZeros_0f7a4_14 rfl (Nat.le_refl _) (Nat.le_refl _) q
    · have hf := pm_it hf c7
      refine pm_bipush (v := 32) C dJ6_numberOfLeadingZeros_0f7a4_8 (by decide) ?_
      refine pm_goto (tgt := 14) C dJ6_numberOfLeadingZeros_0f7a4_10 (by decide) ?_
      subst hf
      exact pm_iret C X dJ6_numberOfLeadingZeros_0f7a4_14 rfl (Nat.le_refl _) (Nat.le_refl _) q
theorem dJ6_numberOfTrailingZeros_0f7a4_0 : decode cJ6_numberOfTrailingZeros_0f7a4 0 = .ok (.iload_n 0, 1) := by decide +kernel
theorem dJ6_numberOfTrailingZeros_0f7a4_1 : decode cJ6_numberOfTrailingZeros_0f7a4 1 = .ok (.iconst (-1), 1) := by decide +kernel
theorem dJ6_numberOfTrailingZeros_0f7a4_2 : decode cJ6_numberOfTrailingZeros_0f7a4 2 = .ok (.ixor, 1) := by decide +kernel
theorem dJ6_numberOfTrailingZeros_0f7a4_3 : decode cJ6_numberOfTrailingZeros_0f7a4 3 = .ok (.iload_n 0, 1) := by decide +kernel
theorem dJ6_numberOfTrailingZeros_0f7a4_4 : decode cJ6_numberOfTrailingZeros_0f7a4 4 = .ok (.iconst 1, 1) := by decide +kernel
theorem dJ6_numberOfTrailingZeros_0f7a4_5 : decode cJ6_numberOfTrailingZeros_0f7a4 5 = .ok (.isub, 1) := by decide +kernel
theorem dJ6_numberOfTrailingZeros_0f7a4_6 : decode cJ6_numberOfTrailingZeros_0f7a4 6 = .ok (.iand, 1) := by decide +kernel
theorem dJ6_numberOfTrailingZeros_0f7a4_7 : decode cJ6_numberOfTrailingZeros_0f7a4 7 = .ok (.istore_n 0, 1) := by decide +kernel
theorem dJ6_numberOfTrailingZeros_0f7a4_8 : decode cJ6_numberOfTrailingZeros_0f7a4 8 = .ok (.iload_n 0, 1) := by decide +kernel
theorem dJ6_numberOfTrailingZeros_0f7a4_9 : decode cJ6_numberOfTrailingZeros_0f7a4 9 = .ok (.ifCond .gt 8, 3) := by decide +kernel
theorem dJ6_numberOfTrailingZeros_0f7a4_12 : decode cJ6_numberOfTrailingZeros_0f7a4 12 = .ok (.iload_n 0, 1) := by decide +kernel
theorem dJ6_numberOfTrailingZeros_0f7a4_13 : decode cJ6_numberOfTrailingZeros_0f7a4 13 = .ok (.bipush 32, 2) := by decide +kernel
theorem dJ6_numberOfTrailingZeros_0f7a4_15 : decode cJ6_numberOfTrailingZeros_0f7a4 15 = .ok (.iand, 1) := by decide +kernel
theorem dJ6_numberOfTrailingZeros_0f7a4_16 : decode cJ6_numberOfTrailingZeros_0f7a4 16 = .ok (.ireturn, 1) := by decide +kernel
theorem dJ6_numberOfTrailingZeros_0f7a4_17 : decode cJ6_numberOfTrailingZeros_0f7a4 17 = .ok (.iconst 1, 1) := by decide +kernel
theorem dJ6_numberOfTrailingZeros_0f7a4_18 : decode cJ6_numberOfTrailingZeros_0f7a4 18 = .ok (.istore_n 1, 1) := by decide +kernel
theorem dJ6_numberOfTrailingZeros_0f7a4_19 : decode cJ6_numberOfTrailingZeros_0f7a4 19 = .ok (.iload_n 0, 1) := by decide +kernel
theorem dJ6_numberOfTrailingZeros_0f7a4_20 : decode cJ6_numberOfTrailingZeros_0f7a4 20 = .ok (.ldc_w 264, 3) := by decide +kernel
theorem dJ6_numberOfTrailingZeros_0f7a4_23 : decode cJ6_numberOfTrailingZeros_0f7a4 23 = .ok (.if_icmp .le 11, 3) := by decide +kernel
theorem dJ6_numberOfTrailingZeros_0f7a4_26 : decode cJ6_numberOfTrailingZeros_0f7a4 26 = .ok (.iinc 1 16, 3) := by decide +kernel
theorem dJ6_numberOfTrailingZeros_0f7a4_29 : decode cJ6_numberOfTrailingZeros_0f7a4 29 = .ok (.iload_n 0, 1) := by decide +kernel
theorem dJ6_numberOfTrailingZeros_0f7a4_30 : decode cJ6_numberOfTrailingZeros_0f7a4 30 = .ok (.bipush 16, 2) := by decide +kernel
theorem dJ6_numberOfTrailingZeros_0f7a4_32 : decode cJ6_numberOfTrailingZeros_0f7a4 32 = .ok (.iushr, 1) := by decide +kernel
theorem dJ6_numberOfTrailingZeros_0f7a4_33 : decode cJ6_numberOfTrailingZeros_0f7a4 33 = .ok (.istore_n 0, 1) := by decide +kernel
theorem dJ6_numberOfTrailingZeros_0f7a4_34 : decode cJ6_numberOfTrailingZeros_0f7a4 34 = .ok (.iload_n 0, 1) := by decide +kernel
theorem dJ6_numberOfTrailingZeros_0f7a4_35 : decode cJ6_numberOfTrailingZeros_0f7a4 35 = .ok (.sipush 256, 3) := by decide +kernel
theorem dJ6_numberOfTrailingZeros_0f7a4_38 : decode cJ6_numberOfTrailingZeros_0f7a4 38 = .ok (.if_icmp .le 11, 3) := by decide +kernel
theorem dJ6_numberOfTrailingZeros_0f7a4_41 : decode cJ6_numberOfTrailingZeros_0f7a4 41 = .ok (.iinc 1 8, 3) := by decide +kernel
theorem dJ6_numberOfTrailingZeros_0f7a4_44 : decode cJ6_numberOfTrailingZeros_0f7a4 44 = .ok (.iload_n 0, 1) := by decide +kernel
theorem dJ6_numberOfTrailingZeros_0f7a4_45 : decode cJ6_numberOfTrailingZeros_0f7a4 45 = .ok (.bipush 8, 2) := by decide +kernel
theorem dJ6_numberOfTrailingZeros_0f7a4_47 : decode cJ6_numberOfTrailingZeros_0f7a4 47 = .ok (.iushr, 1) := by decide +kernel
theorem dJ6_numberOfTrailingZeros_0f7a4_48 : decode cJ6_numberOfTrailingZeros_0f7a4 48 = .ok (.istore_n 0, 1) := by decide +kernel
theorem dJ6_numberOfTrailingZeros_0f7a4_49 : decode cJ6_numberOfTrailingZeros_0f7a4 49 = .ok (.iload_n 0, 1) := by decide +kernel
theorem dJ6_numberOfTrailingZeros_0f7a4_50 : decode cJ6_numberOfTrailingZeros_0f7a4 50 = .ok (.bipush 16, 2) := by decide +kernel
theorem dJ6_numberOfTrailingZeros_0f7a4_52 : decode cJ6_numberOfTrailingZeros_0f7a4 52 = .ok (.if_icmp .le 10, 3) := by decide +kernel
theorem dJ6_numberOfTrailingZeros_0f7a4_55 : decode cJ6_numberOfTrailingZeros_0f7a4 55 = .ok (.iinc 1 4, 3) := by decide +kernel
theorem dJ6_numberOfTrailingZeros_0f7a4_58 : decode cJ6_numberOfTrailingZeros_0f7a4 58 = .ok (.iload_n 0, 1) := by decide +kernel
theorem dJ6_numberOfTrailingZeros_0f7a4_59 : decode cJ6_numberOfTrailingZeros_0f7a4 59 = .ok (.iconst 4, 1) := by decide +kernel
theorem dJ6_numberOfTrailingZeros_0f7a4_60 : decode cJ6_numberOfTrailingZeros_0f7a4 60 = .ok (.iushr, 1) := by decide +kernel
theorem dJ6_numberOfTrailingZeros_0f7a4_61 : decode cJ6_numberOfTrailingZeros_0f7a4 61 = .ok (.istore_n 0, 1) := by decide +kernel
theorem dJ6_numberOfTrailingZeros_0f7a4_62 : decode cJ6_numberOfTrailingZeros_0f7a4 62 = .ok (.iload_n 0, 1) := by decide +kernel
theorem dJ6_numberOfTrailingZeros_0f7a4_63 : decode cJ6_numberOfTrailingZeros_0f7a4 63 = .ok (.iconst 4, 1) := by decide +kernel
theorem dJ6_numberOfTrailingZeros_0f7a4_64 : decode cJ6_numberOfTrailingZeros_0f7a4 64 = .ok (.if_icmp .le 10, 3) := by decide +kernel
theorem dJ6_numberOfTrailingZeros_0f7a4_67 : decode cJ6_numberOfTrailingZeros_0f7a4 67 = .ok (.iinc 1 2, 3) := by decide +kernel
theorem dJ6_numberOfTrailingZeros_0f7a4_70 : decode cJ6_numberOfTrailingZeros_0f7a4 70 = .ok (.iload_n 0, 1) := by decide +kernel
theorem dJ6_numberOfTrailingZeros_0f7a4_71 : decode cJ6_numberOfTrailingZeros_0f7a4 71 = .ok (.iconst 2, 1) := by decide +kernel
theorem dJ6_numberOfTrailingZeros_0f7a4_72 : decode cJ6_numberOfTrailingZeros_0f7a4 72 = .ok (.iushr, 1) := by decide +kernel
theorem dJ6_numberOfTrailingZeros_0f7a4_73 : decode cJ6_numberOfTrailingZeros_0f7a4 73 = .ok (.istore_n 0, 1) := by decide +kernel
theorem dJ6_numberOfTrailingZeros_0f7a4_74 : decode cJ6_numberOfTrailingZeros_0f7a4 74 = .ok (.iload_n 1, 1) := by decide +kernel
theorem dJ6_numberOfTrailingZeros_0f7a4_75 : decode cJ6_numberOfTrailingZeros_0f7a4 75 = .ok (.iload_n 0, 1) := by decide +kernel
theorem dJ6_numberOfTrailingZeros_0f7a4_76 : decode cJ6_numberOfTrailingZeros_0f7a4 76 = .ok (.iconst 1, 1) := by decide +kernel
theorem dJ6_numberOfTrailingZeros_0f7a4_77 : decode cJ6_numberOfTrailingZeros_0f7a4 77 = .ok (.iushr, 1) := by decide +kernel
theorem dJ6_numberOfTrailingZeros_0f7a4_78 : decode cJ6_numberOfTrailingZeros_0f7a4 78 = .ok (.iadd, 1) := by decide +kernel
theorem dJ6_numberOfTrailingZeros_0f7a4_79 : decode cJ6_numberOfTrailingZeros_0f7a4 79 = .ok (.ireturn, 1) := by decide +kernel
def fJ6_numberOfTrailingZeros_0f7a4_b49 (x0 : Int32) (x1 : Int32) : Int32 := if x0 ≤ 16 then (if x0 ≤ 4 then (x1 + ((x0.toUInt32 >>> ((1 : Int32).toUInt32 &&& Int32.toUInt32 31)).toInt32)) else (pm_let (x1 + 2) fun y16 => pm_let ((x0.toUInt32 >>> ((2 : Int32).toUInt32 &&& Int32.toUInt32 31)).toInt32) fun y18 => y16 + ((y18.toUInt32 >>> ((1 : Int32).toUInt32 &&& Int32.toUInt32 31)).toInt32))) else (pm_let (x1 + 4) fun y20 => pm_let ((x0.toUInt32 >>> ((4 : Int32).toUInt32 &&& Int32.toUInt32 31)).toInt32) fun y22 => if y22 ≤ 4 then (y20 + ((y22.toUInt32 >>> ((1 : Int32).toUInt32 &&& Int32.toUInt32 31)).toInt32)) else (pm_let (y20 + 2) fun y25 => pm_let ((y22.toUInt32 >>> ((2 : Int32).toUInt32 &&& Int32.toUInt32 31)).toInt32) fun y27 => y25 + ((y27.toUInt32 >>> ((1 : Int32).toUInt32 &&& Int32.toUInt32 31)).toInt32)))
def fJ6_numberOfTrailingZeros_0f7a4_b34 (x0 : Int32) (x1 : Int32) : Int32 := if x0 ≤ 256 then (fJ6_numberOfTrailingZeros_0f7a4_b49 x0 x1) else (pm_let (x1 + 8) fun y10 => pm_let ((x0.toUInt32 >>> ((8 : Int32).toUInt32 &&& Int32.toUInt32 31)).toInt32) fun y12 => fJ6_numberOfTrailingZeros_0f7a4_b49 y12 y10)
def fJ6_numberOfTrailingZeros_0f7a4 (p1 : Int32) : Int32 := pm_let ((p1 ^^^ (-1)) &&& (p1 - 1)) fun y1 => if 0 < y1 then (if y1 ≤ 65536 then (fJ6_numberOfTrailingZeros_0f7a4_b34 y1 1) else (pm_let (1 + 16) fun y5 => pm_let ((y1.toUInt32 >>> ((16 : Int32).toUInt32 &&& Int32.toUInt32 31)).toInt32) fun y7 => fJ6_numberOfTrailingZeros_0f7a4_b34 y7 y5)) else (y1 &&& 32)
set_option maxHeartbeats 4000000 in
set_option maxRecDepth 100000 in
theorem bJ6_numberOfTrailingZeros_0f7a4_49 {g : pm_Gm} {l : Launch} {G : pm_Gl} {Qr : Option Value → pm_H → Prop} (C : pm_C g cJ6_numberOfTrailingZeros_0f7a4 RJ6) (X : pm_X g l G mJ6_numberOfTrailingZeros_0f7a4 0 0 Qr) {h : pm_H} {x0 : Int32} {x1 : Int32} {r : Int32} (hf : fJ6_numberOfTrailingZeros_0f7a4_b49 x0 x1 = r) (q : Qr (some (.int r)) h) : pm_G g 49 [(0, .int x0), (1, .int x1)] [] h 0 0 := by
  unfold fJ6_numberOfTrailingZeros_0f7a4_b49 at hf
  refine pm_iload_n C dJ6_numberOfTrailingZeros_0f7a4_49 rfl rfl ?_
  refine pm_bipush (v := 16) C dJ6_numberOfTrailingZeros_0f7a4_50 (by decide) ?_
  refine pm_icmp_le (tgt := 62) C dJ6_numberOfTrailingZeros_0f7a4_52 (by decide) (fun c14 => ?_) (fun c14 => ?_)
  · have hf := pm_it hf c14
    refine pm_iload_n C dJ6_numberOfTrailingZeros_0f7a4_62 rfl rfl ?_
    refine pm_iconst (v := 4) C dJ6_numberOfTrailingZeros_0f7a4_63 (by decide) ?_
    refine pm_icmp_le (tgt := 74) C dJ6_numberOfTrailingZeros_0f7a4_64 (by decide) (fun c15 => ?_) (fun c15 => ?_)
    · have hf := pm_it hf c15
      refine pm_iload_n C dJ6_numberOfTrailingZeros_0f7a4_74 rfl rfl ?_
      refine pm_iload_n C dJ6_numberOfTrailingZeros_0f7a4_75 rfl rfl ?_
      refine pm_iconst (v := 1) C dJ6_numberOfTrailingZeros_0f7a4_76 (by decide) ?_
      refine pm_iushr C dJ6_numberOfTrailingZeros_0f7a4_77 ?_
      refine pm_iadd C dJ6_numberOfTrailingZeros_0f7a4_78 ?_
      subst hf
      exact pm_iret C X dJ6_numberOfTrailingZeros_0f7a4_79 rfl (Nat.le_refl _) (Nat.le_refl _) q
    · have hf := pm_ie hf c15
      obtain ⟨y16, e17, hf⟩ := pm_lt hf
      refine pm_iinc (v := y16) (lv' := [(1, .int y16), (0, .int x0)]) C dJ6_numberOfTrailingZeros_0f7a4_67 rfl ((congrArg (x1 + ·) (by decide : Int32.ofInt 2 = 2)).trans e17) (pm_nl X (by decide)) rfl ?_
      refine pm_iload_n C dJ6_numberOfTrailingZeros_0f7a4_70 rfl rfl ?_
      refine pm_iconst (v := 2) C dJ6_numberOfTrailingZeros_0f7a4_71 (by decide) ?_
      refine pm_iushr C dJ6_numberOfTrailingZeros_0f7a4_72 ?_
      obtain ⟨y18, e19, hf⟩ := pm_lt hf
      refine pm_topI e19 ?_
      refine pm_istore_n (lv' := [(0, .int y18), (1, .int y16)]) C dJ6_numberOfTrailingZeros_0f7a4_73 rfl (pm_nl X (by decide)) rfl ?_
      refine pm_iload_n C dJ6_numberOfTrailingZeros_0f7a4_74 rfl rfl ?_
      refine pm_iload_n C dJ6_numberOfTrailingZeros_0f7a4_75 rfl rfl ?_
      refine pm_iconst (v := 1) C dJ6_numberOfTrailingZeros_0f7a4_76 (by decide) ?_
      refine pm_iushr C dJ6_numberOfTrailingZeros_0f7a4_77 ?_
      refine pm_iadd C dJ6_numberOfTrailingZeros_0f7a4_78 ?_
      subst hf
      exact pm_iret C X dJ6_numberOfTrailingZeros_0f7a4_79 rfl (Nat.le_refl _) (Nat.le_refl _) q
  · have hf := pm_ie hf c14
    obtain ⟨y20, e21, hf⟩ := pm_lt hf
    refine pm_iinc (v := y20) (lv' := [(1, .int y20), (0, .int x0)]) C dJ6_numberOfTrailingZeros_0f7a4_55 rfl ((congrArg (x1 + ·) (by decide : Int32.ofInt 4 = 4)).trans e21) (pm_nl X (by decide)) rfl ?_
    refine pm_iload_n C dJ6_numberOfTrailingZeros_0f7a4_58 rfl rfl ?_
    refine pm_iconst (v := 4) C dJ6_numberOfTrailingZeros_0f7a4_59 (by decide) ?_
    refine pm_iushr C dJ6_numberOfTrailingZeros_0f7a4_60 ?_
    obtain ⟨y22, e23, hf⟩ := pm_lt hf
    refine pm_topI e23 ?_
    refine pm_istore_n (lv' := [(0, .int y22), (1, .int y20)]) C dJ6_numberOfTrailingZeros_0f7a4_61 rfl (pm_nl X (by decide)) rfl ?_
    refine pm_iload_n C dJ6_numberOfTrailingZeros_0f7a4_62 rfl rfl ?_
    refine pm_iconst (v := 4) C dJ6_numberOfTrailingZeros_0f7a4_63 (by decide) ?_
    refine pm_icmp_le (tgt := 74) C dJ6_numberOfTrailingZeros_0f7a4_64 (by decide) (fun c24 => ?_) (fun c24 => ?_)
    · have hf := pm_it hf c24
      refine pm_iload_n C dJ6_numberOfTrailingZeros_0f7a4_74 rfl rfl ?_
      refine pm_iload_n C dJ6_numberOfTrailingZeros_0f7a4_75 rfl rfl ?_
      refine pm_iconst (v := 1) C dJ6_numberOfTrailingZeros_0f7a4_76 (by decide) ?_
      refine pm_iushr C dJ6_numberOfTrailingZeros_0f7a4_77 ?_
      refine pm_iadd C dJ6_numberOfTrailingZeros_0f7a4_78 ?_
      subst hf
      exact pm_iret C X dJ6_numberOfTrailingZeros_0f7a4_79 rfl (Nat.le_refl _) (Nat.le_refl _) q
    · have hf := pm_ie hf c24
      obtain ⟨y25, e26, hf⟩ := pm_lt hf
      refine pm_iinc (v := y25) (lv' := [(1, .int y25), (0, .int y22)]) C dJ6_numberOfTrailingZeros_0f7a4_67 rfl ((congrArg (y20 + ·) (by decide : Int32.ofInt 2 = 2)).trans e26) (pm_nl X (by decide)) rfl ?_
      refine pm_iload_n C dJ6_numberOfTrailingZeros_0f7a4_70 rfl rfl ?_
      refine pm_iconst (v := 2) C dJ6_numberOfTrailingZeros_0f7a4_71 (by decide) ?_
      refine pm_iushr C dJ6_numberOfTrailingZeros_0f7a4_72 ?_
      obtain ⟨y27, e28, hf⟩ := pm_lt hf
      refine pm_topI e28 ?_
      refine pm_istore_n (lv' := [(0, .int y27), (1, .int y25)]) C dJ6_numberOfTrailingZeros_0f7a4_73 rfl (pm_nl X (by decide)) rfl ?_
      refine pm_iload_n C dJ6_numberOfTrailingZeros_0f7a4_74 rfl rfl ?_
      refine pm_iload_n C dJ6_numberOfTrailingZeros_0f7a4_75 rfl rfl ?_
      refine pm_iconst (v := 1) C dJ6_numberOfTrailingZeros_0f7a4_76 (by decide) ?_
      refine pm_iushr C dJ6_numberOfTrailingZeros_0f7a4_77 ?_
      refine pm_iadd C dJ6_numberOfTrailingZeros_0f7a4_78 ?_
      subst hf
      exact pm_iret C X dJ6_numberOfTrailingZeros_0f7a4_79 rfl (Nat.le_refl _) (Nat.le_refl _) q
set_option maxHeartbeats 4000000 in
set_option maxRecDepth 100000 in
theorem bJ6_numberOfTrailingZeros_0f7a4_34 {g : pm_Gm} {l : Launch} {G : pm_Gl} {Qr : Option Value → pm_H → Prop} (C : pm_C g cJ6_numberOfTrailingZeros_0f7a4 RJ6) (X : pm_X g l G mJ6_numberOfTrailingZeros_0f7a4 0 0 Qr) {h : pm_H} {x0 : Int32} {x1 : Int32} {r : Int32} (hf : fJ6_numberOfTrailingZeros_0f7a4_b34 x0 x1 = r) (q : Qr (some (.int r)) h) : pm_G g 34 [(0, .int x0), (1, .int x1)] [] h 0 0 := by
  unfold fJ6_numberOfTrailingZeros_0f7a4_b34 at hf
  refine pm_iload_n C dJ6_numberOfTrailingZeros_0f7a4_34 rfl rfl ?_
  refine pm_sipush (v := 256) C dJ6_numberOfTrailingZeros_0f7a4_35 (by decide) ?_
  refine pm_icmp_le (tgt := 49) C dJ6_numberOfTrailingZeros_0f7a4_38 (by decide) (fun c9 => ?_) (fun c9 => ?_)
  · have hf := pm_it hf c9
    exact pm_sub [0, 1] rfl (bJ6_numberOfTrailingZeros_0f7a4_49 C X hf q)
  · have hf := pm_ie hf c9
    obtain ⟨y10, e11, hf⟩ := pm_lt hf
    refine pm_iinc (v := y10) (lv' := [(1, .int y10), (0, .int x0)]) C dJ6_numberOfTrailingZeros_0f7a4_41 rfl ((congrArg (x1 + ·) (by decide : Int32.ofInt 8 = 8)).trans e11) (pm_nl X (by decide)) rfl ?_
    refine pm_iload_n C dJ6_numberOfTrailingZeros_0f7a4_44 rfl rfl ?_
    refine pm_bipush (v := 8) C dJ6_numberOfTrailingZeros_0f7a4_45 (by decide) ?_
    refine pm_iushr C dJ6_numberOfTrailingZeros_0f7a4_47 ?_
    obtain ⟨y12, e13, hf⟩ := pm_lt hf
    refine pm_topI e13 ?_
    refine pm_istore_n (lv' := [(0, .int y12), (1, .int y10)]) C dJ6_numberOfTrailingZeros_0f7a4_48 rfl (pm_nl X (by decide)) rfl ?_
    exact pm_sub [0, 1] rfl (bJ6_numberOfTrailingZeros_0f7a4_49 C X hf q)
set_option maxHeartbeats 4000000 in
set_option maxRecDepth 100000 in
theorem ctJ6_numberOfTrailingZeros_0f7a4 {l : Launch} {G : pm_Gl} {h : pm_H} {p1 : Int32} {r : Int32} {Qr : Option Value → pm_H → Prop} (hf : fJ6_numberOfTrailingZeros_0f7a4 p1 = r) (q : Qr (some (.int r)) h) : pm_Ct l G mJ6_numberOfTrailingZeros_0f7a4 [.int p1] h 0 0 Qr := by
  refine pm_body pnJ6 (Nat.le_of_ble_eq_true rfl) (fun g C X => ?_)
  have C : pm_C g cJ6_numberOfTrailingZeros_0f7a4 RJ6 := C
  show pm_G g 0 [(0, .int p1)] [] h 0 0
  unfold fJ6_numberOfTrailingZeros_0f7a4 at hf
  refine pm_iload_n C dJ6_numberOfTrailingZeros_0f7a4_0 rfl rfl ?_
  refine pm_iconst (v := (-1)) C dJ6_numberOfTrailingZeros_0f7a4_1 (by decide) ?_
  refine pm_ixor C dJ6_numberOfTrailingZeros_0f7a4_2 ?_
  refine pm_iload_n C dJ6_numberOfTrailingZeros_0f7a4_3 rfl rfl ?_
  refine pm_iconst (v := 1) C dJ6_numberOfTrailingZeros_0f7a4_4 (by decide) ?_
  refine pm_isub C dJ6_numberOfTrailingZeros_0f7a4_5 ?_
  refine pm_iand C dJ6_numberOfTrailingZeros_0f7a4_6 ?_
  obtain ⟨y1, e2, hf⟩ := pm_lt hf
  refine pm_topI e2 ?_
  refine pm_istore_n (lv' := [(0, .int y1)]) C dJ6_numberOfTrailingZeros_0f7a4_7 rfl (pm_nl X (by decide)) rfl ?_
  refine pm_iload_n C dJ6_numberOfTrailingZeros_0f7a4_8 rfl rfl ?_
  refine pm_if_gt (tgt := 17) C dJ6_numberOfTrailingZeros_0f7a4_9 (by decide) (fun c3 => ?_) (fun c3 => ?_)
  · have hf := pm_it hf c3
    refine pm_iconst (v := 1) C dJ6_numberOfTrailingZeros_0f7a4_17 (by decide) ?_
    refine pm_istore_n (lv' := [(1, .int 1), (0, .int y1)]) C dJ6_numberOfTrailingZeros_0f7a4_18 rfl (pm_nl X (by decide)) rfl ?_
    refine pm_iload_n C dJ6_numberOfTrailingZeros_0f7a4_19 rfl rfl ?_
    refine pm_ldcw C dJ6_numberOfTrailingZeros_0f7a4_20 cnJ6_264 ?_
    refine pm_icmp_le (tgt := 34) C dJ6_numberOfTrailingZeros_0f7a4_23 (by decide) (fun c4 => ?_) (fun c4 => ?_)
    · have hf := pm_it hf c4
      exact pm_sub [1, 0] rfl (bJ6_numberOfTrailingZeros_0f7a4_34 C X hf q)
    · have hf := pm_ie hf c4
      obtain ⟨y5, e6, hf⟩ := pm_lt hf
      refine pm_iinc (v := y5) (lv' := [(1, .int y5), (0, .int y1)]) C dJ6_numberOfTrailingZeros_0f7a4_26 rfl ((congrArg (1 + ·) (by decide : Int32.ofInt 16 = 16)).trans e6) (pm_nl X (by decide)) rfl ?_
      refine pm_iload_n C dJ6_numberOfTrailingZeros_0f7a4_29 rfl rfl ?_
      refine pm_bipush (v := 16) C dJ6_numberOfTrailingZeros_0f7a4_30 (by decide) ?_
      refine pm_iushr C dJ6_numberOfTrailingZeros_0f7a4_32 ?_
      obtain ⟨y7, e8, hf⟩ := pm_lt hf
      refine pm_topI e8 ?_
      refine pm_istore_n (lv' := [(0, .int y7), (1, .int y5)]) C dJ6_numberOfTrailingZeros_0f7a4_33 rfl (pm_nl X (by decide)) rfl ?_
      exact pm_sub [0, 1] rfl (bJ6_numberOfTrailingZeros_0f7a4_34 C X hf q)
  · have hf := pm_ie hf c3
    refine pm_iload_n C dJ6_numberOfTrailingZeros_0f7a4_12 rfl rfl ?_
    refine pm_bipush (v := 32) C dJ6_numberOfTrailingZeros_0f7a4_13 (by decide) ?_
    refine pm_iand C dJ6_numberOfTrailingZeros_0f7a4_15 ?_
    subst hf
    exact pm_iret C X dJ6_numberOfTrailingZeros_0f7a4_16 rfl (Nat.le_refl _) (Nat.le_refl _) q
theorem dJ13_bitCount_95d88_0 : decode cJ13_bitCount_95d88 0 = .ok (.lload_n 0, 1) := by decide +kernel
theorem dJ13_bitCount_95d88_1 : decode cJ13_bitCount_95d88 1 = .ok (.lload_n 0, 1) := by decide +kernel
theorem dJ13_bitCount_95d88_2 : decode cJ13_bitCount_95d88 2 = .ok (.iconst 1, 1) := by decide +kernel
theorem dJ13_bitCount_95d88_3 : decode cJ13_bitCount_95d88 3 = .ok (.lushr, 1) := by decide +kernel
theorem dJ13_bitCount_95d88_4 : decode cJ13_bitCount_95d88 4 = .ok (.ldc2_w 314, 3) := by decide +kernel
theorem dJ13_bitCount_95d88_7 : decode cJ13_bitCount_95d88 7 = .ok (.land, 1) := by decide +kernel
theorem dJ13_bitCount_95d88_8 : decode cJ13_bitCount_95d88 8 = .ok (.lsub, 1) := by decide +kernel
theorem dJ13_bitCount_95d88_9 : decode cJ13_bitCount_95d88 9 = .ok (.lstore_n 0, 1) := by decide +kernel
theorem dJ13_bitCount_95d88_10 : decode cJ13_bitCount_95d88 10 = .ok (.lload_n 0, 1) := by decide +kernel
theorem dJ13_bitCount_95d88_11 : decode cJ13_bitCount_95d88 11 = .ok (.ldc2_w 316, 3) := by decide +kernel
theorem dJ13_bitCount_95d88_14 : decode cJ13_bitCount_95d88 14 = .ok (.land, 1) := by decide +kernel
theorem dJ13_bitCount_95d88_15 : decode cJ13_bitCount_95d88 15 = .ok (.lload_n 0, 1) := by decide +kernel
theorem dJ13_bitCount_95d88_16 : decode cJ13_bitCount_95d88 16 = .ok (.iconst 2, 1) := by decide +kernel
theorem dJ13_bitCount_95d88_17 : decode cJ13_bitCount_95d88 17 = .ok (.lushr, 1) := by decide +kernel
theorem dJ13_bitCount_95d88_18 : decode cJ13_bitCount_95d88 18 = .ok (.ldc2_w 316, 3) := by decide +kernel
theorem dJ13_bitCount_95d88_21 : decode cJ13_bitCount_95d88 21 = .ok (.land, 1) := by decide +kernel
theorem dJ13_bitCount_95d88_22 : decode cJ13_bitCount_95d88 22 = .ok (.ladd, 1) := by decide +kernel
theorem dJ13_bitCount_95d88_23 : decode cJ13_bitCount_95d88 23 = .ok (.lstore_n 0, 1) := by decide +kernel
theorem dJ13_bitCount_95d88_24 : decode cJ13_bitCount_95d88 24 = .ok (.lload_n 0, 1) := by decide +kernel
theorem dJ13_bitCount_95d88_25 : decode cJ13_bitCount_95d88 25 = .ok (.lload_n 0, 1) := by decide +kernel
theorem dJ13_bitCount_95d88_26 : decode cJ13_bitCount_95d88 26 = .ok (.iconst 4, 1) := by decide +kernel
theorem dJ13_bitCount_95d88_27 : decode cJ13_bitCount_95d88 27 = .ok (.lushr, 1) := by decide +kernel
theorem dJ13_bitCount_95d88_28 : decode cJ13_bitCount_95d88 28 = .ok (.ladd, 1) := by decide +kernel
theorem dJ13_bitCount_95d88_29 : decode cJ13_bitCount_95d88 29 = .ok (.ldc2_w 318, 3) := by decide +kernel
theorem dJ13_bitCount_95d88_32 : decode cJ13_bitCount_95d88 32 = .ok (.land, 1) := by decide +kernel
theorem dJ13_bitCount_95d88_33 : decode cJ13_bitCount_95d88 33 = .ok (.lstore_n 0, 1) := by decide +kernel
theorem dJ13_bitCount_95d88_34 : decode cJ13_bitCount_95d88 34 = .ok (.lload_n 0, 1) := by decide +kernel
theorem dJ13_bitCount_95d88_35 : decode cJ13_bitCount_95d88 35 = .ok (.lload_n 0, 1) := by decide +kernel
theorem dJ13_bitCount_95d88_36 : decode cJ13_bitCount_95d88 36 = .ok (.bipush 8, 2) := by decide +kernel
theorem dJ13_bitCount_95d88_38 : decode cJ13_bitCount_95d88 38 = .ok (.lushr, 1) := by decide +kernel
theorem dJ13_bitCount_95d88_39 : decode cJ13_bitCount_95d88 39 = .ok (.ladd, 1) := by decide +kernel
theorem dJ13_bitCount_95d88_40 : decode cJ13_bitCount_95d88 40 = .ok (.lstore_n 0, 1) := by decide +kernel
theorem dJ13_bitCount_95d88_41 : decode cJ13_bitCount_95d88 41 = .ok (.lload_n 0, 1) := by decide +kernel
theorem dJ13_bitCount_95d88_42 : decode cJ13_bitCount_95d88 42 = .ok (.lload_n 0, 1) := by decide +kernel
theorem dJ13_bitCount_95d88_43 : decode cJ13_bitCount_95d88 43 = .ok (.bipush 16, 2) := by decide +kernel
theorem dJ13_bitCount_95d88_45 : decode cJ13_bitCount_95d88 45 = .ok (.lushr, 1) := by decide +kernel
theorem dJ13_bitCount_95d88_46 : decode cJ13_bitCount_95d88 46 = .ok (.ladd, 1) := by decide +kernel
theorem dJ13_bitCount_95d88_47 : decode cJ13_bitCount_95d88 47 = .ok (.lstore_n 0, 1) := by decide +kernel
theorem dJ13_bitCount_95d88_48 : decode cJ13_bitCount_95d88 48 = .ok (.lload_n 0, 1) := by decide +kernel
theorem dJ13_bitCount_95d88_49 : decode cJ13_bitCount_95d88 49 = .ok (.lload_n 0, 1) := by decide +kernel
theorem dJ13_bitCount_95d88_50 : decode cJ13_bitCount_95d88 50 = .ok (.bipush 32, 2) := by decide +kernel
theorem dJ13_bitCount_95d88_52 : decode cJ13_bitCount_95d88 52 = .ok (.lushr, 1) := by decide +kernel
theorem dJ13_bitCount_95d88_53 : decode cJ13_bitCount_95d88 53 = .ok (.ladd, 1) := by decide +kernel
theorem dJ13_bitCount_95d88_54 : decode cJ13_bitCount_95d88 54 = .ok (.lstore_n 0, 1) := by decide +kernel
theorem dJ13_bitCount_95d88_55 : decode cJ13_bitCount_95d88 55 = .ok (.lload_n 0, 1) := by decide +kernel
theorem dJ13_bitCount_95d88_56 : decode cJ13_bitCount_95d88 56 = .ok (.l2i, 1) := by decide +kernel
theorem dJ13_bitCount_95d88_57 : decode cJ13_bitCount_95d88 57 = .ok (.bipush 127, 2) := by decide +kernel
theorem dJ13_bitCount_95d88_59 : decode cJ13_bitCount_95d88 59 = .ok (.iand, 1) := by decide +kernel
theorem dJ13_bitCount_95d88_60 : decode cJ13_bitCount_95d88 60 = .ok (.ireturn, 1) := by decide +kernel
def fJ13_bitCount_95d88 (p1 : Int64) : Int32 := pm_let (p1 - (((p1.toUInt64 >>> ((1 : Int32).toInt64.toUInt64 &&& Int64.toUInt64 63)).toInt64) &&& 6148914691236517205)) fun y1 => pm_let ((y1 &&& 3689348814741910323) + (((y1.toUInt64 >>> ((2 : Int32).toInt64.toUInt64 &&& Int64.toUInt64 63)).toInt64) &&& 3689348814741910323)) fun y3 => pm_let ((y3 + ((y3.toUInt64 >>> ((4 : Int32).toInt64.toUInt64 &&& Int64.toUInt64 63)).toInt64)) &&& 1085102592571150095) fun y5 => pm_let (y5 + ((y5.toUInt64 >>> ((8 : Int32).toInt64.toUInt64 &&& Int64.toUInt64 63)).toInt64)) fun y7 => pm_let (y7 + ((y7.toUInt64 >>> ((16 : Int32).toInt64.toUInt64 &&& Int64.toUInt64 63)).toInt64)) fun y9 => pm_let (y9 + ((y9.toUInt64 >>> ((32 : Int32).toInt64.toUInt64 &&& Int64.toUInt64 63)).toInt64)) fun y11 => y11.toInt32 &&& 127
set_option maxHeartbeats 4000000 in
set_option maxRecDepth 100000 in
theorem ctJ13_bitCount_95d88 {l : Launch} {G : pm_Gl} {h : pm_H} {p1 : Int64} {r : Int32} {Qr : Option Value → pm_H → Prop} (hf : fJ13_bitCount_95d88 p1 = r) (q : Qr (some (.int r)) h) : pm_Ct l G mJ13_bitCount_95d88 [.long p1] h 0 0 Qr := by
  refine pm_body pnJ13 (Nat.le_of_ble_eq_true rfl) (fun g C X => ?_)
  have C : pm_C g cJ13_bitCount_95d88 RJ13 := C
  show pm_G g 0 [(0, .long p1)] [] h 0 0
  unfold fJ13_bitCount_95d88 at hf
  refine pm_lload_n C dJ13_bitCount_95d88_0 rfl rfl ?_
  refine pm_lload_n C dJ13_bitCount_95d88_1 rfl rfl ?_
  refine pm_iconst (v := 1) C dJ13_bitCount_95d88_2 (by decide) ?_
  refine pm_lushr C dJ13_bitCount_95d88_3 ?_
  refine pm_ldc2 C dJ13_bitCount_95d88_4 cnJ13_314 ?_
  refine pm_land C dJ13_bitCount_95d88_7 ?_
  refine pm_lsub C dJ13_bitCount_95d88_8 ?_
  obtain ⟨y1, e2, hf⟩ := pm_lt hf
  refine pm_topL e2 ?_
  refine pm_lstore_n (lv' := [(0, .long y1)]) C dJ13_bitCount_95d88_9 rfl (pm_nl X (by decide)) rfl ?_
  refine pm_lload_n C dJ13_bitCount_95d88_10 rfl rfl ?_
  refine pm_ldc2 C dJ13_bitCount_95d88_11 cnJ13_316 ?_
  refine pm_land C dJ13_bitCount_95d88_14 ?_
  refine pm_lload_n C dJ13_bitCount_95d88_15 rfl rfl ?_
  refine pm_iconst (v := 2) C dJ13_bitCount_95d88_16 (by decide) ?_
  refine pm_lushr C dJ13_bitCount_95d88_17 ?_
  refine pm_ldc2 C dJ13_bitCount_95d88_18 cnJ13_316 ?_
  refine pm_land C dJ13_bitCount_95d88_21 ?_
  refine pm_ladd C dJ13_bitCount_95d88_22 ?_
  obtain ⟨y3, e4, hf⟩ := pm_lt hf
  refine pm_topL e4 ?_
  refine pm_lstore_n (lv' := [(0, .long y3)]) C dJ13_bitCount_95d88_23 rfl (pm_nl X (by decide)) rfl ?_
  refine pm_lload_n C dJ13_bitCount_95d88_24 rfl rfl ?_
  refine pm_lload_n C dJ13_bitCount_95d88_25 rfl rfl ?_
  refine pm_iconst (v := 4) C dJ13_bitCount_95d88_26 (by decide) ?_
  refine pm_lushr C dJ13_bitCount_95d88_27 ?_
  refine pm_ladd C dJ13_bitCount_95d88_28 ?_
  refine pm_ldc2 C dJ13_bitCount_95d88_29 cnJ13_318 ?_
  refine pm_land C dJ13_bitCount_95d88_32 ?_
  obtain ⟨y5, e6, hf⟩ := pm_lt hf
  refine pm_topL e6 ?_
  refine pm_lstore_n (lv' := [(0, .long y5)]) C dJ13_bitCount_95d88_33 rfl (pm_nl X (by decide)) rfl ?_
  refine pm_lload_n C dJ13_bitCount_95d88_34 rfl rfl ?_
  refine pm_lload_n C dJ13_bitCount_95d88_35 rfl rfl ?_
  refine pm_bipush (v := 8) C dJ13_bitCount_95d88_36 (by decide) ?_
  refine pm_lushr C dJ13_bitCount_95d88_38 ?_
  refine pm_ladd C dJ13_bitCount_95d88_39 ?_
  obtain ⟨y7, e8, hf⟩ := pm_lt hf
  refine pm_topL e8 ?_
  refine pm_lstore_n (lv' := [(0, .long y7)]) C dJ13_bitCount_95d88_40 rfl (pm_nl X (by decide)) rfl ?_
  refine pm_lload_n C dJ13_bitCount_95d88_41 rfl rfl ?_
  refine pm_lload_n C dJ13_bitCount_95d88_42 rfl rfl ?_
  refine pm_bipush (v := 16) C dJ13_bitCount_95d88_43 (by decide) ?_
  refine pm_lushr C dJ13_bitCount_95d88_45 ?_
  refine pm_ladd C dJ13_bitCount_95d88_46 ?_
  obtain ⟨y9, e10, hf⟩ := pm_lt hf
  refine pm_topL e10 ?_
  refine pm_lstore_n (lv' := [(0, .long y9)]) C dJ13_bitCount_95d88_47 rfl (pm_nl X (by decide)) rfl ?_
  refine pm_lload_n C dJ13_bitCount_95d88_48 rfl rfl ?_
  refine pm_lload_n C dJ13_bitCount_95d88_49 rfl rfl ?_
  refine pm_bipush (v := 32) C dJ13_bitCount_95d88_50 (by decide) ?_
  refine pm_lushr C dJ13_bitCount_95d88_52 ?_
  refine pm_ladd C dJ13_bitCount_95d88_53 ?_
  obtain ⟨y11, e12, hf⟩ := pm_lt hf
  refine pm_topL e12 ?_
  refine pm_lstore_n (lv' := [(0, .long y11)]) C dJ13_bitCount_95d88_54 rfl (pm_nl X (by decide)) rfl ?_
  refine pm_lload_n C dJ13_bitCount_95d88_55 rfl rfl ?_
  refine pm_l2i C dJ13_bitCount_95d88_56 ?_
  refine pm_bipush (v := 127) C dJ13_bitCount_95d88_57 (by decide) ?_
  refine pm_iand C dJ13_bitCount_95d88_59 ?_
  subst hf
  exact pm_iret C X dJ13_bitCount_95d88_60 rfl (Nat.le_refl _) (Nat.le_refl _) q
theorem dJ13_compare_74951_0 : decode cJ13_compare_74951 0 = .ok (.lload_n 0, 1) := by decide +kernel
theorem dJ13_compare_74951_1 : decode cJ13_compare_74951 1 = .ok (.lload_n 2, 1) := by decide +kernel
theorem dJ13_compare_74951_2 : decode cJ13_compare_74951 2 = .ok (.lcmp, 1) := by decide +kernel
theorem dJ13_compare_74951_3 : decode cJ13_compare_74951 3 = .ok (.ifCond .ge 7, 3) := by decide +kernel
theorem dJ13_compare_74951_6 : decode cJ13_compare_74951 6 = .ok (.iconst (-1), 1) := by decide +kernel
theorem dJ13_compare_74951_7 : decode cJ13_compare_74951 7 = .ok (.goto 14, 3) := by decide +kernel
theorem dJ13_compare_74951_10 : decode cJ13_compare_74951 10 = .ok (.lload_n 0, 1) := by decide +kernel
theorem dJ13_compare_74951_11 : decode cJ13_compare_74951 11 = .ok (.lload_n 2, 1) := by decide +kernel
theorem dJ13_compare_74951_12 : decode cJ13_compare_74951 12 = .ok (.lcmp, 1) := by decide +kernel
theorem dJ13_compare_74951_13 : decode cJ13_compare_74951 13 = .ok (.ifCond .ne 7, 3) := by decide +kernel
theorem dJ13_compare_74951_16 : decode cJ13_compare_74951 16 = .ok (.iconst 0, 1) := by decide +kernel
theorem dJ13_compare_74951_17 : decode cJ13_compare_74951 17 = .ok (.goto 4, 3) := by decide +kernel
theorem dJ13_compare_74951_20 : decode cJ13_compare_74951 20 = .ok (.iconst 1, 1) := by decide +kernel
theorem dJ13_compare_74951_21 : decode cJ13_compare_74951 21 = .ok (.ireturn, 1) := by decide +kernel
def fJ13_compare_74951 (p1 : Int64) (p2 : Int64) : Int32 := if p2 ≤ p1 then (if p1 = p2 then (0) else (1)) else ((-1))
set_option maxHeartbeats 4000000 in
set_option maxRecDepth 100000 in
theorem ctJ13_compare_74951 {l : Launch} {G : pm_Gl} {h : pm_H} {p1 : Int64} {p2 : Int64} {r : Int32} {Qr : Option Value → pm_H → Prop} (hf : fJ13_compare_74951 p1 p2 = r) (q : Qr (some (.int r)) h) : pm_Ct l G mJ13_compare_74951 [.long p1, .long p2] h 0 0 Qr := by
  refine pm_body pnJ13 (Nat.le_of_ble_eq_true rfl) (fun g C X => ?_)
  have C : pm_C g cJ13_compare_74951 RJ13 := C
  show pm_G g 0 [(0, .long p1), (2, .long p2)] [] h 0 0
  unfold fJ13_compare_74951 at hf
  refine pm_lload_n C dJ13_compare_74951_0 rfl rfl ?_
  refine pm_lload_n C dJ13_compare_74951_1 rfl rfl ?_
  refine pm_lcmp C dJ13_compare_74951_2 ?_
  refine pm_if_ge (tgt := 10) C dJ13_compare_74951_3 (by decide) (fun c1 => ?_) (fun c1 => ?_)
  · have hf := pm_it hf ((pm_lg_ge _ _).mp c1)
    refine pm_lload_n C dJ13_compare_74951_10 rfl rfl ?_
    refine pm_lload_n C dJ13_compare_74951_11 rfl rfl ?_
    refine pm_lcmp C dJ13_compare_74951_12 ?_
    refine pm_if_ne (tgt := 20) C dJ13_compare_74951_13 (by decide) (fun c2 => ?_) (fun c2 => ?_)
    · have hf := pm_ie hf ((fun z => c2 ((pm_lg_eq _ _).mpr z)))
      refine pm_iconst (v := 1) C dJ13_compare_74951_20 (by decide) ?_
      subst hf
      exact pm_iret C X dJ13_compare_74951_21 rfl (Nat.le_refl _) (Nat.le_refl _) q
    · have hf := pm_it hf ((pm_lg_eq _ _).mp c2)
      refine pm_iconst (v := 0) C dJ13_compare_74951_16 (by decide) ?_
      refine pm_goto (tgt := 21) C dJ13_compare_74951_17 (by decide) ?_
      subst hf
      exact pm_iret C X dJ13_compare_74951_21 rfl (Nat.le_refl _) (Nat.le_refl _) q
  · have hf := pm_ie hf ((fun z => c1 ((pm_lg_ge _ _).mpr z)))
    refine pm_iconst (v := (-1)) C dJ13_compare_74951_6 (by decide) ?_
    refine pm_goto (tgt := 21) C dJ13_compare_74951_7 (by decide) ?_
    subst hf
    exact pm_iret C X dJ13_compare_74951_21 rfl (Nat.le_refl _) (Nat.le_refl _) q
theorem dJ13_divideUnsigned_f86c9_0 : decode cJ13_divideUnsigned_f86c9 0 = .ok (.lload_n 2, 1) := by decide +kernel
theorem dJ13_divideUnsigned_f86c9_1 : decode cJ13_divideUnsigned_f86c9 1 = .ok (.lconst 0, 1) := by decide +kernel
theorem dJ13_divideUnsigned_f86c9_2 : decode cJ13_divideUnsigned_f86c9 2 = .ok (.lcmp, 1) := by decide +kernel
theorem dJ13_divideUnsigned_f86c9_3 : decode cJ13_divideUnsigned_f86c9 3 = .ok (.ifCond .lt 38, 3) := by decide +kernel
theorem dJ13_divideUnsigned_f86c9_6 : decode cJ13_divideUnsigned_f86c9 6 = .ok (.lload_n 0, 1) := by decide +kernel
theorem dJ13_divideUnsigned_f86c9_7 : decode cJ13_divideUnsigned_f86c9 7 = .ok (.iconst 1, 1) := by decide +kernel
theorem dJ13_divideUnsigned_f86c9_8 : decode cJ13_divideUnsigned_f86c9 8 = .ok (.lushr, 1) := by decide +kernel
theorem dJ13_divideUnsigned_f86c9_9 : decode cJ13_divideUnsigned_f86c9 9 = .ok (.lload_n 2, 1) := by decide +kernel
theorem dJ13_divideUnsigned_f86c9_10 : decode cJ13_divideUnsigned_f86c9 10 = .ok (.ldiv, 1) := by decide +kernel
theorem dJ13_divideUnsigned_f86c9_11 : decode cJ13_divideUnsigned_f86c9 11 = .ok (.iconst 1, 1) := by decide +kernel
theorem dJ13_divideUnsigned_f86c9_12 : decode cJ13_divideUnsigned_f86c9 12 = .ok (.lshl, 1) := by decide +kernel
theorem dJ13_divideUnsigned_f86c9_13 : decode cJ13_divideUnsigned_f86c9 13 = .ok (.lstore 4, 2) := by decide +kernel
theorem dJ13_divideUnsigned_f86c9_15 : decode cJ13_divideUnsigned_f86c9 15 = .ok (.lload_n 0, 1) := by decide +kernel
theorem dJ13_divideUnsigned_f86c9_16 : decode cJ13_divideUnsigned_f86c9 16 = .ok (.lload 4, 2) := by decide +kernel
theorem dJ13_divideUnsigned_f86c9_18 : decode cJ13_divideUnsigned_f86c9 18 = .ok (.lload_n 2, 1) := by decide +kernel
theorem dJ13_divideUnsigned_f86c9_19 : decode cJ13_divideUnsigned_f86c9 19 = .ok (.lmul, 1) := by decide +kernel
theorem dJ13_divideUnsigned_f86c9_20 : decode cJ13_divideUnsigned_f86c9 20 = .ok (.lsub, 1) := by decide +kernel
theorem dJ13_divideUnsigned_f86c9_21 : decode cJ13_divideUnsigned_f86c9 21 = .ok (.lstore 6, 2) := by decide +kernel
theorem dJ13_divideUnsigned_f86c9_23 : decode cJ13_divideUnsigned_f86c9 23 = .ok (.lload 4, 2) := by decide +kernel
theorem dJ13_divideUnsigned_f86c9_25 : decode cJ13_divideUnsigned_f86c9 25 = .ok (.lload 6, 2) := by decide +kernel
theorem dJ13_divideUnsigned_f86c9_27 : decode cJ13_divideUnsigned_f86c9 27 = .ok (.lload 6, 2) := by decide +kernel
theorem dJ13_divideUnsigned_f86c9_29 : decode cJ13_divideUnsigned_f86c9 29 = .ok (.lload_n 2, 1) := by decide +kernel
theorem dJ13_divideUnsigned_f86c9_30 : decode cJ13_divideUnsigned_f86c9 30 = .ok (.lsub, 1) := by decide +kernel
theorem dJ13_divideUnsigned_f86c9_31 : decode cJ13_divideUnsigned_f86c9 31 = .ok (.ldc2_w 306, 3) := by decide +kernel
theorem dJ13_divideUnsigned_f86c9_34 : decode cJ13_divideUnsigned_f86c9 34 = .ok (.lxor, 1) := by decide +kernel
theorem dJ13_divideUnsigned_f86c9_35 : decode cJ13_divideUnsigned_f86c9 35 = .ok (.lor, 1) := by decide +kernel
theorem dJ13_divideUnsigned_f86c9_36 : decode cJ13_divideUnsigned_f86c9 36 = .ok (.bipush 63, 2) := by decide +kernel
theorem dJ13_divideUnsigned_f86c9_38 : decode cJ13_divideUnsigned_f86c9 38 = .ok (.lushr, 1) := by decide +kernel
theorem dJ13_divideUnsigned_f86c9_39 : decode cJ13_divideUnsigned_f86c9 39 = .ok (.ladd, 1) := by decide +kernel
theorem dJ13_divideUnsigned_f86c9_40 : decode cJ13_divideUnsigned_f86c9 40 = .ok (.lreturn, 1) := by decide +kernel
theorem dJ13_divideUnsigned_f86c9_41 : decode cJ13_divideUnsigned_f86c9 41 = .ok (.lload_n 0, 1) := by decide +kernel
theorem dJ13_divideUnsigned_f86c9_42 : decode cJ13_divideUnsigned_f86c9 42 = .ok (.lload_n 0, 1) := by decide +kernel
theorem dJ13_divideUnsigned_f86c9_43 : decode cJ13_divideUnsigned_f86c9 43 = .ok (.lload_n 2, 1) := by decide +kernel
theorem dJ13_divideUnsigned_f86c9_44 : decode cJ13_divideUnsigned_f86c9 44 = .ok (.lsub, 1) := by decide +kernel
theorem dJ13_divideUnsigned_f86c9_45 : decode cJ13_divideUnsigned_f86c9 45 = .ok (.ldc2_w 306, 3) := by decide +kernel
theorem dJ13_divideUnsigned_f86c9_48 : decode cJ13_divideUnsigned_f86c9 48 = .ok (.lxor, 1) := by decide +kernel
theorem dJ13_divideUnsigned_f86c9_49 : decode cJ13_divideUnsigned_f86c9 49 = .ok (.land, 1) := by decide +kernel
theorem dJ13_divideUnsigned_f86c9_50 : decode cJ13_divideUnsigned_f86c9 50 = .ok (.bipush 63, 2) := by decide +kernel
theorem dJ13_divideUnsigned_f86c9_52 : decode cJ13_divideUnsigned_f86c9 52 = .ok (.lushr, 1) := by decide +kernel
theorem dJ13_divideUnsigned_f86c9_53 : decode cJ13_divideUnsigned_f86c9 53 = .ok (.lreturn, 1) := by decide +kernel
def fJ13_divideUnsigned_f86c9 (p1 : Int64) (p2 : Int64) : Option Int64 := if p2 < 0 then (some (((p1 &&& ((p1 - p2) ^^^ (-1))).toUInt64 >>> ((63 : Int32).toInt64.toUInt64 &&& Int64.toUInt64 63)).toInt64)) else (if ¬ p2 = 0 then pm_let ((((p1.toUInt64 >>> ((1 : Int32).toInt64.toUInt64 &&& Int64.toUInt64 63)).toInt64) / p2) <<< ((1 : Int32).toInt64 &&& 63)) fun y3 => pm_let (p1 - (y3 * p2)) fun y5 => some (y3 + (((y5 ||| ((y5 - p2) ^^^ (-1))).toUInt64 >>> ((63 : Int32).toInt64.toUInt64 &&& Int64.toUInt64 63)).toInt64)) else none)
set_option maxHeartbeats 4000000 in
set_option maxRecDepth 100000 in
theorem ctJ13_divideUnsigned_f86c9 {l : Launch} {G : pm_Gl} {h : pm_H} {p1 : Int64} {p2 : Int64} {r : Int64} {Qr : Option Value → pm_H → Prop} (hf : fJ13_divideUnsigned_f86c9 p1 p2 = some r) (q : Qr (some (.long r)) h) : pm_Ct l G mJ13_divideUnsigned_f86c9 [.long p1, .long p2] h 0 0 Qr := by
  refine pm_body pnJ13 (Nat.le_of_ble_eq_true rfl) (fun g C X => ?_)
  have C : pm_C g cJ13_divideUnsigned_f86c9 RJ13 := C
  show pm_G g 0 [(0, .long p1), (2, .long p2)] [] h 0 0
  unfold fJ13_divideUnsigned_f86c9 at hf
  refine pm_lload_n C dJ13_divideUnsigned_f86c9_0 rfl rfl ?_
  refine pm_lconst (v := 0) C dJ13_divideUnsigned_f86c9_1 (by decide) ?_
  refine pm_lcmp C dJ13_divideUnsigned_f86c9_2 ?_
  refine pm_if_lt (tgt := 41) C dJ13_divideUnsigned_f86c9_3 (by decide) (fun c1 => ?_) (fun c1 => ?_)
  · have hf := pm_it hf ((pm_lg_lt _ _).mp c1)
    refine pm_lload_n C dJ13_divideUnsigned_f86c9_41 rfl rfl ?_
    refine pm_lload_n C dJ13_divideUnsigned_f86c9_42 rfl rfl ?_
    refine pm_lload_n C dJ13_divideUnsigned_f86c9_43 rfl rfl ?_
    refine pm_lsub C dJ13_divideUnsigned_f86c9_44 ?_
    refine pm_ldc2 C dJ13_divideUnsigned_f86c9_45 cnJ13_306 ?_
    refine pm_lxor C dJ13_divideUnsigned_f86c9_48 ?_
    refine pm_land C dJ13_divideUnsigned_f86c9_49 ?_
    refine pm_bipush (v := 63) C dJ13_divideUnsigned_f86c9_50 (by decide) ?_
    refine pm_lushr C dJ13_divideUnsigned_f86c9_52 ?_
    cases hf
    exact pm_lret C X dJ13_divideUnsigned_f86c9_53 rfl (Nat.le_refl _) (Nat.le_refl _) q
  · have hf := pm_ie hf ((fun z => c1 ((pm_lg_lt _ _).mpr z)))
    refine pm_lload_n C dJ13_divideUnsigned_f86c9_6 rfl rfl ?_
    refine pm_iconst (v := 1) C dJ13_divideUnsigned_f86c9_7 (by decide) ?_
    refine pm_lushr C dJ13_divideUnsigned_f86c9_8 ?_
    refine pm_lload_n C dJ13_divideUnsigned_f86c9_9 rfl rfl ?_
    obtain ⟨u2, hf⟩ := pm_if hf
    refine pm_ldiv C dJ13_divideUnsigned_f86c9_10 u2 ?_
    refine pm_iconst (v := 1) C dJ13_divideUnsigned_f86c9_11 (by decide) ?_
    refine pm_lshl C dJ13_divideUnsigned_f86c9_12 ?_
    obtain ⟨y3, e4, hf⟩ := pm_lt hf
    refine pm_topL e4 ?_
    refine pm_lstore (lv' := [(4, .long y3), (0, .long p1), (2, .long p2)]) C dJ13_divideUnsigned_f86c9_13 (pm_nl X (by decide)) rfl ?_
    refine pm_lload_n C dJ13_divideUnsigned_f86c9_15 rfl rfl ?_
    refine pm_lload C dJ13_divideUnsigned_f86c9_16 rfl ?_
    refine pm_lload_n C dJ13_divideUnsigned_f86c9_18 rfl rfl ?_
    refine pm_lmul C dJ13_divideUnsigned_f86c9_19 ?_
    refine pm_lsub C dJ13_divideUnsigned_f86c9_20 ?_
    obtain ⟨y5, e6, hf⟩ := pm_lt hf
    refine pm_topL e6 ?_
    refine pm_lstore (lv' := [(6, .long y5), (4, .long y3), (0, .long p1), (2, .long p2)]) C dJ13_divideUnsigned_f86c9_21 (pm_nl X (by decide)) rfl ?_
    refine pm_lload C dJ13_divideUnsigned_f86c9_23 rfl ?_
    refine pm_lload C dJ13_divideUnsigned_f86c9_25 rfl ?_
    refine pm_lload C dJ13_divideUnsigned_f86c9_27 rfl ?_
    refine pm_lload_n C dJ13_divideUnsigned_f86c9_29 rfl rfl ?_
    refine pm_lsub C dJ13_divideUnsigned_f86c9_30 ?_
    refine pm_ldc2 C dJ13_divideUnsigned_f86c9_31 cnJ13_306 ?_
    refine pm_lxor C dJ13_divideUnsigned_f86c9_34 ?_
    refine pm_lor C dJ13_divideUnsigned_f86c9_35 ?_
    refine pm_bipush (v := 63) C dJ13_divideUnsigned_f86c9_36 (by decide) ?_
    refine pm_lushr C dJ13_divideUnsigned_f86c9_38 ?_
    refine pm_ladd C dJ13_divideUnsigned_f86c9_39 ?_
    cases hf
    exact pm_lret C X dJ13_divideUnsigned_f86c9_40 rfl (Nat.le_refl _) (Nat.le_refl _) q
theorem dJ13_numberOfLeadingZeros_95d88_0 : decode cJ13_numberOfLeadingZeros_95d88 0 = .ok (.lload_n 0, 1) := by decide +kernel
theorem dJ13_numberOfLeadingZeros_95d88_1 : decode cJ13_numberOfLeadingZeros_95d88 1 = .ok (.bipush 32, 2) := by decide +kernel
theorem dJ13_numberOfLeadingZeros_95d88_3 : decode cJ13_numberOfLeadingZeros_95d88 3 = .ok (.lushr, 1) := by decide +kernel
theorem dJ13_numberOfLeadingZeros_95d88_4 : decode cJ13_numberOfLeadingZeros_95d88 4 = .ok (.l2i, 1) := by decide +kernel
theorem dJ13_numberOfLeadingZeros_95d88_5 : decode cJ13_numberOfLeadingZeros_95d88 5 = .ok (.istore_n 2, 1) := by decide +kernel
theorem dJ13_numberOfLeadingZeros_95d88_6 : decode cJ13_numberOfLeadingZeros_95d88 6 = .ok (.iload_n 2, 1) := by decide +kernel
theorem dJ13_numberOfLeadingZeros_95d88_7 : decode cJ13_numberOfLeadingZeros_95d88 7 = .ok (.ifCond .ne 14, 3) := by decide +kernel
theorem dJ13_numberOfLeadingZeros_95d88_10 : decode cJ13_numberOfLeadingZeros_95d88 10 = .ok (.bipush 32, 2) := by decide +kernel
theorem dJ13_numberOfLeadingZeros_95d88_12 : decode cJ13_numberOfLeadingZeros_95d88 12 = .ok (.lload_n 0, 1) := by decide +kernel
theorem dJ13_numberOfLeadingZeros_95d88_13 : decode cJ13_numberOfLeadingZeros_95d88 13 = .ok (.l2i, 1) := by decide +kernel
theorem dJ13_numberOfLeadingZeros_95d88_14 : decode cJ13_numberOfLeadingZeros_95d88 14 = .ok (.invokestatic 308, 3) := by decide +kernel
theorem dJ13_numberOfLeadingZeros_95d88_17 : decode cJ13_numberOfLeadingZeros_95d88 17 = .ok (.iadd, 1) := by decide +kernel
theorem dJ13_numberOfLeadingZeros_95d88_18 : decode cJ13_numberOfLeadingZeros_95d88 18 = .ok (.goto 7, 3) := by decide +kernel
theorem dJ13_numberOfLeadingZeros_95d88_21 : decode cJ13_numberOfLeadingZeros_95d88 21 = .ok (.iload_n 2, 1) := by decide +kernel
theorem dJ13_numberOfLeadingZeros_95d88_22 : decode cJ13_numberOfLeadingZeros_95d88 22 = .ok (.invokestatic 308, 3) := by decide +kernel
theorem dJ13_numberOfLeadingZeros_95d88_25 : decode cJ13_numberOfLeadingZeros_95d88 25 = .ok (.ireturn, 1) := by decide +kernel
def fJ13_numberOfLeadingZeros_95d88 (p1 : Int64) : Int32 := pm_let (((p1.toUInt64 >>> ((32 : Int32).toInt64.toUInt64 &&& Int64.toUInt64 63)).toInt64).toInt32) fun y1 => if y1 = 0 then (pm_let (fJ6_numberOfLeadingZeros_0f7a4 p1.toInt32) fun v6 => 32 + v6) else (pm_let (fJ6_numberOfLeadingZeros_0f7a4 y1) fun v4 => v4)
set_option maxHeartbeats 4000000 in
set_option maxRecDepth 100000 in
theorem ctJ13_numberOfLeadingZeros_95d88 {l : Launch} {G : pm_Gl} {h : pm_H} {p1 : Int64} {r : Int32} {Qr : Option Value → pm_H → Prop} (hf : fJ13_numberOfLeadingZeros_95d88 p1 = r) (q : Qr (some (.int r)) h) : pm_Ct l G mJ13_numberOfLeadingZeros_95d88 [.long p1] h 0 0 Qr := by
  refine pm_body pnJ13 (Nat.le_of_ble_eq_true rfl) (fun g C X => ?_)
  have C : pm_C g cJ13_numberOfLeadingZeros_95d88 RJ13 := C
  show pm_G g 0 [(0, .long p1)] [] h 0 0
  unfold fJ13_numberOfLeadingZeros_95d88 at hf
  refine pm_lload_n C dJ13_numberOfLeadingZeros_95d88_0 rfl rfl ?_
  refine pm_bipush (v := 32) C dJ13_numberOfLeadingZeros_95d88_1 (by decide) ?_
  refine pm_lushr C dJ13_numberOfLeadingZeros_95d88_3 ?_
  refine pm_l2i C dJ13_numberOfLeadingZeros_95d88_4 ?_
  obtain ⟨y1, e2, hf⟩ := pm_lt hf
  refine pm_topI e2 ?_
  refine pm_istore_n (lv' := [(2, .int y1), (0, .long p1)]) C dJ13_numberOfLeadingZeros_95d88_5 rfl (pm_nl X (by decide)) rfl ?_
  refine pm_iload_n C dJ13_numberOfLeadingZeros_95d88_6 rfl rfl ?_
  refine pm_if_ne (tgt := 21) C dJ13_numberOfLeadingZeros_95d88_7 (by decide) (fun c3 => ?_) (fun c3 => ?_)
  · have hf := pm_ie hf c3
    refine pm_iload_n C dJ13_numberOfLeadingZeros_95d88_21 rfl rfl ?_
    obtain ⟨v4, e5, hf⟩ := pm_lt hf
    refine pm_callS (as := [.int y1]) (st := []) C X dJ13_numberOfLeadingZeros_95d88_22 lnJ13_308 myJ6_numberOfLeadingZeros_0f7a4 stJ6_numberOfLeadingZeros_0f7a4 ⟨by decide, by decide⟩ rfl rfl (Nat.le_of_ble_eq_true rfl) (Nat.le_refl _) (Nat.le_refl _) (ctJ6_numberOfLeadingZeros_0f7a4 e5 ?_)
    show pm_G g 25 [(2, .int y1), (0, .long p1)] [.int v4] h 0 0
    subst hf
    exact pm_iret C X dJ13_numberOfLeadingZeros_95d88_25 rfl (Nat.le_refl _) (Nat.le_refl _) q
  · have hf := pm_it hf c3
    refine pm_bipush (v := 32) C dJ13_numberOfLeadingZeros_95d88_10 (by decide) ?_
    refine pm_lload_n C dJ13_numberOfLeadingZeros_95d88_12 rfl rfl ?_
    refine pm_l2i C dJ13_numberOfLeadingZeros_95d88_13 ?_
    obtain ⟨v6, e7, hf⟩ := pm_lt hf
    refine pm_callS (as := [.int p1.toInt32]) (st := [.int 32]) C X dJ13_numberOfLeadingZeros_95d88_14 lnJ13_308 myJ6_numberOfLeadingZeros_0f7a4 stJ6_numberOfLeadingZeros_0f7a4 ⟨by decide, by decide⟩ rfl rfl (Nat.le_of_ble_eq_true rfl) (Nat.le_refl _) (Nat.le_refl _) (ctJ6_numberOfLeadingZeros_0f7a4 e7 ?_)
    show pm_G g 17 [(2, .int y1), (0, .long p1)] [.int v6, .int 32] h 0 0
    refine pm_iadd C dJ13_numberOfLeadingZeros_95d88_17 ?_
    refine pm_goto (tgt := 25) C dJ13_numberOfLeadingZeros_95d88_18 (by decide) ?_
    subst hf
    exact pm_iret C X dJ13_numberOfLeadingZeros_95d88_25 rfl (Nat.le_refl _) (Nat.le_refl _) q
theorem dJ13_numberOfTrailingZeros_95d88_0 : decode cJ13_numberOfTrailingZeros_95d88 0 = .ok (.lload_n 0, 1) := by decide +kernel
theorem dJ13_numberOfTrailingZeros_95d88_1 : decode cJ13_numberOfTrailingZeros_95d88 1 = .ok (.l2i, 1) := by decide +kernel
theorem dJ13_numberOfTrailingZeros_95d88_2 : decode cJ13_numberOfTrailingZeros_95d88 2 = .ok (.istore_n 2, 1) := by decide +kernel
theorem dJ13_numberOfTrailingZeros_95d88_3 : decode cJ13_numberOfTrailingZeros_95d88 3 = .ok (.iload_n 2, 1) := by decide +kernel
theorem dJ13_numberOfTrailingZeros_95d88_4 : decode cJ13_numberOfTrailingZeros_95d88 4 = .ok (.ifCond .ne 17, 3) := by decide +kernel
theorem dJ13_numberOfTrailingZeros_95d88_7 : decode cJ13_numberOfTrailingZeros_95d88 7 = .ok (.bipush 32, 2) := by decide +kernel
theorem dJ13_numberOfTrailingZeros_95d88_9 : decode cJ13_numberOfTrailingZeros_95d88 9 = .ok (.lload_n 0, 1) := by decide +kernel
theorem dJ13_numberOfTrailingZeros_95d88_10 : decode cJ13_numberOfTrailingZeros_95d88 10 = .ok (.bipush 32, 2) := by decide +kernel
theorem dJ13_numberOfTrailingZeros_95d88_12 : decode cJ13_numberOfTrailingZeros_95d88 12 = .ok (.lushr, 1) := by decide +kernel
theorem dJ13_numberOfTrailingZeros_95d88_13 : decode cJ13_numberOfTrailingZeros_95d88 13 = .ok (.l2i, 1) := by decide +kernel
theorem dJ13_numberOfTrailingZeros_95d88_14 : decode cJ13_numberOfTrailingZeros_95d88 14 = .ok (.invokestatic 311, 3) := by decide +kernel
theorem dJ13_numberOfTrailingZeros_95d88_17 : decode cJ13_numberOfTrailingZeros_95d88 17 = .ok (.iadd, 1) := by decide +kernel
theorem dJ13_numberOfTrailingZeros_95d88_18 : decode cJ13_numberOfTrailingZeros_95d88 18 = .ok (.goto 7, 3) := by decide +kernel
theorem dJ13_numberOfTrailingZeros_95d88_21 : decode cJ13_numberOfTrailingZeros_95d88 21 = .ok (.iload_n 2, 1) := by decide +kernel
theorem dJ13_numberOfTrailingZeros_95d88_22 : decode cJ13_numberOfTrailingZeros_95d88 22 = .ok (.invokestatic 311, 3) := by decide +kernel
theorem dJ13_numberOfTrailingZeros_95d88_25 : decode cJ13_numberOfTrailingZeros_95d88 25 = .ok (.ireturn, 1) := by decide +kernel
def fJ13_numberOfTrailingZeros_95d88 (p1 : Int64) : Int32 := if p1.toInt32 = 0 then (pm_let (fJ6_numberOfTrailingZeros_0f7a4 (((p1.toUInt64 >>> ((32 : Int32).toInt64.toUInt64 &&& Int64.toUInt64 63)).toInt64).toInt32)) fun v4 => 32 + v4) else (pm_let (fJ6_numberOfTrailingZeros_0f7a4 p1.toInt32) fun v2 => v2)
set_option maxHeartbeats 4000000 in
set_option maxRecDepth 100000 in
theorem ctJ13_numberOfTrailingZeros_95d88 {l : Launch} {G : pm_Gl} {h : pm_H} {p1 : Int64} {r : Int32} {Qr : Option Value → pm_H → Prop} (hf : fJ13_numberOfTrailingZeros_95d88 p1 = r) (q : Qr (some (.int r)) h) : pm_Ct l G mJ13_numberOfTrailingZeros_95d88 [.long p1] h 0 0 Qr := by
  refine pm_body pnJ13 (Nat.le_of_ble_eq_true rfl) (fun g C X => ?_)
  have C : pm_C g cJ13_numberOfTrailingZeros_95d88 RJ13 := C
  show pm_G g 0 [(0, .long p1)] [] h 0 0
  unfold fJ13_numberOfTrailingZeros_95d88 at hf
  refine pm_lload_n C dJ13_numberOfTrailingZeros_95d88_0 rfl rfl ?_
  refine pm_l2i C dJ13_numberOfTrailingZeros_95d88_1 ?_
  refine pm_istore_n (lv' := [(2, .int p1.toInt32), (0, .long p1)]) C dJ13_numberOfTrailingZeros_95d88_2 rfl (pm_nl X (by decide)) rfl ?_
  refine pm_iload_n C dJ13_numberOfTrailingZeros_95d88_3 rfl rfl ?_
  refine pm_if_ne (tgt := 21) C dJ13_numberOfTrailingZeros_95d88_4 (by decide) (fun c1 => ?_) (fun c1 => ?_)
  · have hf := pm_ie hf c1
    refine pm_iload_n C dJ13_numberOfTrailingZeros_95d88_21 rfl rfl ?_
    obtain ⟨v2, e3, hf⟩ := pm_lt hf
    refine pm_callS (as := [.int p1.toInt32]) (st := []) C X dJ13_numberOfTrailingZeros_95d88_22 lnJ13_311 myJ6_numberOfTrailingZeros_0f7a4 stJ6_numberOfTrailingZeros_0f7a4 ⟨by decide, by decide⟩ rfl rfl (Nat.le_of_ble_eq_true rfl) (Nat.le_refl _) (Nat.le_refl _) (ctJ6_numberOfTrailingZeros_0f7a4 e3 ?_)
    show pm_G g 25 [(2, .int p1.toInt32), (0, .long p1)] [.int v2] h 0 0
    subst hf
    exact pm_iret C X dJ13_numberOfTrailingZeros_95d88_25 rfl (Nat.le_refl _) (Nat.le_refl _) q
  · have hf := pm_it hf c1
    refine pm_bipush (v := 32) C dJ13_numberOfTrailingZeros_95d88_7 (by decide) ?_
    refine pm_lload_n C dJ13_numberOfTrailingZeros_95d88_9 rfl rfl ?_
    refine pm_bipush (v := 32) C dJ13_numberOfTrailingZeros_95d88_10 (by decide) ?_
    refine pm_lushr C dJ13_numberOfTrailingZeros_95d88_12 ?_
    refine pm_l2i C dJ13_numberOfTrailingZeros_95d88_13 ?_
    obtain ⟨v4, e5, hf⟩ := pm_lt hf
    refine pm_callS (as := [.int (((p1.toUInt64 >>> ((32 : Int32).toInt64.toUInt64 &&& Int64.toUInt64 63)).toInt64).toInt32)]) (st := [.int 32]) C X dJ13_numberOfTrailingZeros_95d88_14 lnJ13_311 myJ6_numberOfTrailingZeros_0f7a4 stJ6_numberOfTrailingZeros_0f7a4 ⟨by decide, by decide⟩ rfl rfl (Nat.le_of_ble_eq_true rfl) (Nat.le_refl _) (Nat.le_refl _) (ctJ6_numberOfTrailingZeros_0f7a4 e5 ?_)
    show pm_G g 17 [(2, .int p1.toInt32), (0, .long p1)] [.int v4, .int 32] h 0 0
    refine pm_iadd C dJ13_numberOfTrailingZeros_95d88_17 ?_
    refine pm_goto (tgt := 25) C dJ13_numberOfTrailingZeros_95d88_18 (by decide) ?_
    subst hf
    exact pm_iret C X dJ13_numberOfTrailingZeros_95d88_25 rfl (Nat.le_refl _) (Nat.le_refl _) q
theorem dJ13_remainderUnsigned_f86c9_0 : decode cJ13_remainderUnsigned_f86c9 0 = .ok (.lload_n 2, 1) := by decide +kernel
theorem dJ13_remainderUnsigned_f86c9_1 : decode cJ13_remainderUnsigned_f86c9 1 = .ok (.lconst 0, 1) := by decide +kernel
theorem dJ13_remainderUnsigned_f86c9_2 : decode cJ13_remainderUnsigned_f86c9 2 = .ok (.lcmp, 1) := by decide +kernel
theorem dJ13_remainderUnsigned_f86c9_3 : decode cJ13_remainderUnsigned_f86c9 3 = .ok (.ifCond .lt 37, 3) := by decide +kernel
theorem dJ13_remainderUnsigned_f86c9_6 : decode cJ13_remainderUnsigned_f86c9 6 = .ok (.lload_n 0, 1) := by decide +kernel
theorem dJ13_remainderUnsigned_f86c9_7 : decode cJ13_remainderUnsigned_f86c9 7 = .ok (.iconst 1, 1) := by decide +kernel
theorem dJ13_remainderUnsigned_f86c9_8 : decode cJ13_remainderUnsigned_f86c9 8 = .ok (.lushr, 1) := by decide +kernel
theorem dJ13_remainderUnsigned_f86c9_9 : decode cJ13_remainderUnsigned_f86c9 9 = .ok (.lload_n 2, 1) := by decide +kernel
theorem dJ13_remainderUnsigned_f86c9_10 : decode cJ13_remainderUnsigned_f86c9 10 = .ok (.ldiv, 1) := by decide +kernel
theorem dJ13_remainderUnsigned_f86c9_11 : decode cJ13_remainderUnsigned_f86c9 11 = .ok (.iconst 1, 1) := by decide +kernel
theorem dJ13_remainderUnsigned_f86c9_12 : decode cJ13_remainderUnsigned_f86c9 12 = .ok (.lshl, 1) := by decide +kernel
theorem dJ13_remainderUnsigned_f86c9_13 : decode cJ13_remainderUnsigned_f86c9 13 = .ok (.lstore 4, 2) := by decide +kernel
theorem dJ13_remainderUnsigned_f86c9_15 : decode cJ13_remainderUnsigned_f86c9 15 = .ok (.lload_n 0, 1) := by decide +kernel
theorem dJ13_remainderUnsigned_f86c9_16 : decode cJ13_remainderUnsigned_f86c9 16 = .ok (.lload 4, 2) := by decide +kernel
theorem dJ13_remainderUnsigned_f86c9_18 : decode cJ13_remainderUnsigned_f86c9 18 = .ok (.lload_n 2, 1) := by decide +kernel
theorem dJ13_remainderUnsigned_f86c9_19 : decode cJ13_remainderUnsigned_f86c9 19 = .ok (.lmul, 1) := by decide +kernel
theorem dJ13_remainderUnsigned_f86c9_20 : decode cJ13_remainderUnsigned_f86c9 20 = .ok (.lsub, 1) := by decide +kernel
theorem dJ13_remainderUnsigned_f86c9_21 : decode cJ13_remainderUnsigned_f86c9 21 = .ok (.lstore 6, 2) := by decide +kernel
theorem dJ13_remainderUnsigned_f86c9_23 : decode cJ13_remainderUnsigned_f86c9 23 = .ok (.lload 6, 2) := by decide +kernel
theorem dJ13_remainderUnsigned_f86c9_25 : decode cJ13_remainderUnsigned_f86c9 25 = .ok (.lload 6, 2) := by decide +kernel
theorem dJ13_remainderUnsigned_f86c9_27 : decode cJ13_remainderUnsigned_f86c9 27 = .ok (.lload_n 2, 1) := by decide +kernel
theorem dJ13_remainderUnsigned_f86c9_28 : decode cJ13_remainderUnsigned_f86c9 28 = .ok (.lsub, 1) := by decide +kernel
theorem dJ13_remainderUnsigned_f86c9_29 : decode cJ13_remainderUnsigned_f86c9 29 = .ok (.ldc2_w 306, 3) := by decide +kernel
theorem dJ13_remainderUnsigned_f86c9_32 : decode cJ13_remainderUnsigned_f86c9 32 = .ok (.lxor, 1) := by decide +kernel
theorem dJ13_remainderUnsigned_f86c9_33 : decode cJ13_remainderUnsigned_f86c9 33 = .ok (.bipush 63, 2) := by decide +kernel
theorem dJ13_remainderUnsigned_f86c9_35 : decode cJ13_remainderUnsigned_f86c9 35 = .ok (.lshr, 1) := by decide +kernel
theorem dJ13_remainderUnsigned_f86c9_36 : decode cJ13_remainderUnsigned_f86c9 36 = .ok (.lload_n 2, 1) := by decide +kernel
theorem dJ13_remainderUnsigned_f86c9_37 : decode cJ13_remainderUnsigned_f86c9 37 = .ok (.land, 1) := by decide +kernel
theorem dJ13_remainderUnsigned_f86c9_38 : decode cJ13_remainderUnsigned_f86c9 38 = .ok (.lsub, 1) := by decide +kernel
theorem dJ13_remainderUnsigned_f86c9_39 : decode cJ13_remainderUnsigned_f86c9 39 = .ok (.lreturn, 1) := by decide +kernel
theorem dJ13_remainderUnsigned_f86c9_40 : decode cJ13_remainderUnsigned_f86c9 40 = .ok (.lload_n 0, 1) := by decide +kernel
theorem dJ13_remainderUnsigned_f86c9_41 : decode cJ13_remainderUnsigned_f86c9 41 = .ok (.lload_n 0, 1) := by decide +kernel
theorem dJ13_remainderUnsigned_f86c9_42 : decode cJ13_remainderUnsigned_f86c9 42 = .ok (.lload_n 0, 1) := by decide +kernel
theorem dJ13_remainderUnsigned_f86c9_43 : decode cJ13_remainderUnsigned_f86c9 43 = .ok (.lload_n 2, 1) := by decide +kernel
theorem dJ13_remainderUnsigned_f86c9_44 : decode cJ13_remainderUnsigned_f86c9 44 = .ok (.lsub, 1) := by decide +kernel
theorem dJ13_remainderUnsigned_f86c9_45 : decode cJ13_remainderUnsigned_f86c9 45 = .ok (.ldc2_w 306, 3) := by decide +kernel
theorem dJ13_remainderUnsigned_f86c9_48 : decode cJ13_remainderUnsigned_f86c9 48 = .ok (.lxor, 1) := by decide +kernel
theorem dJ13_remainderUnsigned_f86c9_49 : decode cJ13_remainderUnsigned_f86c9 49 = .ok (.land, 1) := by decide +kernel
theorem dJ13_remainderUnsigned_f86c9_50 : decode cJ13_remainderUnsigned_f86c9 50 = .ok (.bipush 63, 2) := by decide +kernel
theorem dJ13_remainderUnsigned_f86c9_52 : decode cJ13_remainderUnsigned_f86c9 52 = .ok (.lshr, 1) := by decide +kernel
theorem dJ13_remainderUnsigned_f86c9_53 : decode cJ13_remainderUnsigned_f86c9 53 = .ok (.lload_n 2, 1) := by decide +kernel
theorem dJ13_remainderUnsigned_f86c9_54 : decode cJ13_remainderUnsigned_f86c9 54 = .ok (.land, 1) := by decide +kernel
theorem dJ13_remainderUnsigned_f86c9_55 : decode cJ13_remainderUnsigned_f86c9 55 = .ok (.lsub, 1) := by decide +kernel
theorem dJ13_remainderUnsigned_f86c9_56 : decode cJ13_remainderUnsigned_f86c9 56 = .ok (.lreturn, 1) := by decide +kernel
def fJ13_remainderUnsigned_f86c9 (p1 : Int64) (p2 : Int64) : Option Int64 := if p2 < 0 then (some (p1 - (((p1 &&& ((p1 - p2) ^^^ (-1))) >>> ((63 : Int32).toInt64 &&& 63)) &&& p2))) else (if ¬ p2 = 0 then pm_let ((((p1.toUInt64 >>> ((1 : Int32).toInt64.toUInt64 &&& Int64.toUInt64 63)).toInt64) / p2) <<< ((1 : Int32).toInt64 &&& 63)) fun y3 => pm_let (p1 - (y3 * p2)) fun y5 => some (y5 - ((((y5 - p2) ^^^ (-1)) >>> ((63 : Int32).toInt64 &&& 63)) &&& p2)) else none)
set_option maxHeartbeats 4000000 in
set_option maxRecDepth 100000 in
theorem ctJ13_remainderUnsigned_f86c9 {l : Launch} {G : pm_Gl} {h : pm_H} {p1 : Int64} {p2 : Int64} {r : Int64} {Qr : Option Value → pm_H → Prop} (hf : fJ13_remainderUnsigned_f86c9 p1 p2 = some r) (q : Qr (some (.long r)) h) : pm_Ct l G mJ13_remainderUnsigned_f86c9 [.long p1, .long p2] h 0 0 Qr := by
  refine pm_body pnJ13 (Nat.le_of_ble_eq_true rfl) (fun g C X => ?_)
  have C : pm_C g cJ13_remainderUnsigned_f86c9 RJ13 := C
  show pm_G g 0 [(0, .long p1), (2, .long p2)] [] h 0 0
  unfold fJ13_remainderUnsigned_f86c9 at hf
  refine pm_lload_n C dJ13_remainderUnsigned_f86c9_0 rfl rfl ?_
  refine pm_lconst (v := 0) C dJ13_remainderUnsigned_f86c9_1 (by decide) ?_
  refine pm_lcmp C dJ13_remainderUnsigned_f86c9_2 ?_
  refine pm_if_lt (tgt := 40) C dJ13_remainderUnsigned_f86c9_3 (by decide) (fun c1 => ?_) (fun c1 => ?_)
  · have hf := pm_it hf ((pm_lg_lt _ _).mp c1)
    refine pm_lload_n C dJ13_remainderUnsigned_f86c9_40 rfl rfl ?_
    refine pm_lload_n C dJ13_remainderUnsigned_f86c9_41 rfl rfl ?_
    refine pm_lload_n C dJ13_remainderUnsigned_f86c9_42 rfl rfl ?_
    refine pm_lload_n C dJ13_remainderUnsigned_f86c9_43 rfl rfl ?_
    refine pm_lsub C dJ13_remainderUnsigned_f86c9_44 ?_
    refine pm_ldc2 C dJ13_remainderUnsigned_f86c9_45 cnJ13_306 ?_
    refine pm_lxor C dJ13_remainderUnsigned_f86c9_48 ?_
    refine pm_land C dJ13_remainderUnsigned_f86c9_49 ?_
    refine pm_bipush (v := 63) C dJ13_remainderUnsigned_f86c9_50 (by decide) ?_
    refine pm_lshr C dJ13_remainderUnsigned_f86c9_52 ?_
    refine pm_lload_n C dJ13_remainderUnsigned_f86c9_53 rfl rfl ?_
    refine pm_land C dJ13_remainderUnsigned_f86c9_54 ?_
    refine pm_lsub C dJ13_remainderUnsigned_f86c9_55 ?_
    cases hf
    exact pm_lret C X dJ13_remainderUnsigned_f86c9_56 rfl (Nat.le_refl _) (Nat.le_refl _) q
  · have hf := pm_ie hf ((fun z => c1 ((pm_lg_lt _ _).mpr z)))
    refine pm_lload_n C dJ13_remainderUnsigned_f86c9_6 rfl rfl ?_
    refine pm_iconst (v := 1) C dJ13_remainderUnsigned_f86c9_7 (by decide) ?_
    refine pm_lushr C dJ13_remainderUnsigned_f86c9_8 ?_
    refine pm_lload_n C dJ13_remainderUnsigned_f86c9_9 rfl rfl ?_
    obtain ⟨u2, hf⟩ := pm_if hf
    refine pm_ldiv C dJ13_remainderUnsigned_f86c9_10 u2 ?_
    refine pm_iconst (v := 1) C dJ13_remainderUnsigned_f86c9_11 (by decide) ?_
    refine pm_lshl C dJ13_remainderUnsigned_f86c9_12 ?_
    obtain ⟨y3, e4, hf⟩ := pm_lt hf
    refine pm_topL e4 ?_
    refine pm_lstore (lv' := [(4, .long y3), (0, .long p1), (2, .long p2)]) C dJ13_remainderUnsigned_f86c9_13 (pm_nl X (by decide)) rfl ?_
    refine pm_lload_n C dJ13_remainderUnsigned_f86c9_15 rfl rfl ?_
    refine pm_lload C dJ13_remainderUnsigned_f86c9_16 rfl ?_
    refine pm_lload_n C dJ13_remainderUnsigned_f86c9_18 rfl rfl ?_
    refine pm_lmul C dJ13_remainderUnsigned_f86c9_19 ?_
    refine pm_lsub C dJ13_remainderUnsigned_f86c9_20 ?_
    obtain ⟨y5, e6, hf⟩ := pm_lt hf
    refine pm_topL e6 ?_
    refine pm_lstore (lv' := [(6, .long y5), (4, .long y3), (0, .long p1), (2, .long p2)]) C dJ13_remainderUnsigned_f86c9_21 (pm_nl X (by decide)) rfl ?_
    refine pm_lload C dJ13_remainderUnsigned_f86c9_23 rfl ?_
    refine pm_lload C dJ13_remainderUnsigned_f86c9_25 rfl ?_
    refine pm_lload_n C dJ13_remainderUnsigned_f86c9_27 rfl rfl ?_
    refine pm_lsub C dJ13_remainderUnsigned_f86c9_28 ?_
    refine pm_ldc2 C dJ13_remainderUnsigned_f86c9_29 cnJ13_306 ?_
    refine pm_lxor C dJ13_remainderUnsigned_f86c9_32 ?_
    refine pm_bipush (v := 63) C dJ13_remainderUnsigned_f86c9_33 (by decide) ?_
    refine pm_lshr C dJ13_remainderUnsigned_f86c9_35 ?_
    refine pm_lload_n C dJ13_remainderUnsigned_f86c9_36 rfl rfl ?_
    refine pm_land C dJ13_remainderUnsigned_f86c9_37 ?_
    refine pm_lsub C dJ13_remainderUnsigned_f86c9_38 ?_
    cases hf
    exact pm_lret C X dJ13_remainderUnsigned_f86c9_39 rfl (Nat.le_refl _) (Nat.le_refl _) q
theorem dX0_emit_0 : decode cX0_emit 0 = .ok (.aload_n 0, 1) := by decide +kernel
theorem dX0_emit_1 : decode cX0_emit 1 = .ok (.getfield 32, 3) := by decide +kernel
theorem dX0_emit_4 : decode cX0_emit 4 = .ok (.iconst 5, 1) := by decide +kernel
theorem dX0_emit_5 : decode cX0_emit 5 = .ok (.imul, 1) := by decide +kernel
theorem dX0_emit_6 : decode cX0_emit 6 = .ok (.istore 6, 2) := by decide +kernel
theorem dX0_emit_8 : decode cX0_emit 8 = .ok (.iload 6, 2) := by decide +kernel
theorem dX0_emit_10 : decode cX0_emit 10 = .ok (.ifCond .lt 15, 3) := by decide +kernel
theorem dX0_emit_13 : decode cX0_emit 13 = .ok (.iload 6, 2) := by decide +kernel
theorem dX0_emit_15 : decode cX0_emit 15 = .ok (.aload_n 0, 1) := by decide +kernel
theorem dX0_emit_16 : decode cX0_emit 16 = .ok (.getfield 29, 3) := by decide +kernel
theorem dX0_emit_19 : decode cX0_emit 19 = .ok (.arraylength, 1) := by decide +kernel
theorem dX0_emit_20 : decode cX0_emit 20 = .ok (.iconst 5, 1) := by decide +kernel
theorem dX0_emit_21 : decode cX0_emit 21 = .ok (.isub, 1) := by decide +kernel
theorem dX0_emit_22 : decode cX0_emit 22 = .ok (.if_icmp .le 8, 3) := by decide +kernel
theorem dX0_emit_25 : decode cX0_emit 25 = .ok (.aload_n 0, 1) := by decide +kernel
theorem dX0_emit_26 : decode cX0_emit 26 = .ok (.getfield 32, 3) := by decide +kernel
theorem dX0_emit_29 : decode cX0_emit 29 = .ok (.ireturn, 1) := by decide +kernel
theorem dX0_emit_30 : decode cX0_emit 30 = .ok (.aload_n 0, 1) := by decide +kernel
theorem dX0_emit_31 : decode cX0_emit 31 = .ok (.getfield 29, 3) := by decide +kernel
theorem dX0_emit_34 : decode cX0_emit 34 = .ok (.iload 6, 2) := by decide +kernel
theorem dX0_emit_36 : decode cX0_emit 36 = .ok (.iconst 0, 1) := by decide +kernel
theorem dX0_emit_37 : decode cX0_emit 37 = .ok (.iadd, 1) := by decide +kernel
theorem dX0_emit_38 : decode cX0_emit 38 = .ok (.iload_n 1, 1) := by decide +kernel
theorem dX0_emit_39 : decode cX0_emit 39 = .ok (.iastore, 1) := by decide +kernel
theorem dX0_emit_40 : decode cX0_emit 40 = .ok (.aload_n 0, 1) := by decide +kernel
theorem dX0_emit_41 : decode cX0_emit 41 = .ok (.getfield 29, 3) := by decide +kernel
theorem dX0_emit_44 : decode cX0_emit 44 = .ok (.iload 6, 2) := by decide +kernel
theorem dX0_emit_46 : decode cX0_emit 46 = .ok (.iconst 1, 1) := by decide +kernel
theorem dX0_emit_47 : decode cX0_emit 47 = .ok (.iadd, 1) := by decide +kernel
theorem dX0_emit_48 : decode cX0_emit 48 = .ok (.iload_n 2, 1) := by decide +kernel
theorem dX0_emit_49 : decode cX0_emit 49 = .ok (.iastore, 1) := by decide +kernel
theorem dX0_emit_50 : decode cX0_emit 50 = .ok (.aload_n 0, 1) := by decide +kernel
theorem dX0_emit_51 : decode cX0_emit 51 = .ok (.getfield 29, 3) := by decide +kernel
theorem dX0_emit_54 : decode cX0_emit 54 = .ok (.iload 6, 2) := by decide +kernel
theorem dX0_emit_56 : decode cX0_emit 56 = .ok (.iconst 2, 1) := by decide +kernel
theorem dX0_emit_57 : decode cX0_emit 57 = .ok (.iadd, 1) := by decide +kernel
theorem dX0_emit_58 : decode cX0_emit 58 = .ok (.iload_n 3, 1) := by decide +kernel
theorem dX0_emit_59 : decode cX0_emit 59 = .ok (.iastore, 1) := by decide +kernel
theorem dX0_emit_60 : decode cX0_emit 60 = .ok (.aload_n 0, 1) := by decide +kernel
theorem dX0_emit_61 : decode cX0_emit 61 = .ok (.getfield 29, 3) := by decide +kernel
theorem dX0_emit_64 : decode cX0_emit 64 = .ok (.iload 6, 2) := by decide +kernel
theorem dX0_emit_66 : decode cX0_emit 66 = .ok (.iconst 3, 1) := by decide +kernel
theorem dX0_emit_67 : decode cX0_emit 67 = .ok (.iadd, 1) := by decide +kernel
theorem dX0_emit_68 : decode cX0_emit 68 = .ok (.iload 4, 2) := by decide +kernel
theorem dX0_emit_70 : decode cX0_emit 70 = .ok (.iastore, 1) := by decide +kernel
theorem dX0_emit_71 : decode cX0_emit 71 = .ok (.aload_n 0, 1) := by decide +kernel
theorem dX0_emit_72 : decode cX0_emit 72 = .ok (.getfield 29, 3) := by decide +kernel
theorem dX0_emit_75 : decode cX0_emit 75 = .ok (.iload 6, 2) := by decide +kernel
theorem dX0_emit_77 : decode cX0_emit 77 = .ok (.iconst 4, 1) := by decide +kernel
theorem dX0_emit_78 : decode cX0_emit 78 = .ok (.iadd, 1) := by decide +kernel
theorem dX0_emit_79 : decode cX0_emit 79 = .ok (.iload 5, 2) := by decide +kernel
theorem dX0_emit_81 : decode cX0_emit 81 = .ok (.iastore, 1) := by decide +kernel
theorem dX0_emit_82 : decode cX0_emit 82 = .ok (.aload_n 0, 1) := by decide +kernel
theorem dX0_emit_83 : decode cX0_emit 83 = .ok (.dup, 1) := by decide +kernel
theorem dX0_emit_84 : decode cX0_emit 84 = .ok (.getfield 32, 3) := by decide +kernel
theorem dX0_emit_87 : decode cX0_emit 87 = .ok (.iconst 1, 1) := by decide +kernel
theorem dX0_emit_88 : decode cX0_emit 88 = .ok (.iadd, 1) := by decide +kernel
theorem dX0_emit_89 : decode cX0_emit 89 = .ok (.putfield 32, 3) := by decide +kernel
theorem dX0_emit_92 : decode cX0_emit 92 = .ok (.aload_n 0, 1) := by decide +kernel
theorem dX0_emit_93 : decode cX0_emit 93 = .ok (.getfield 32, 3) := by decide +kernel
theorem dX0_emit_96 : decode cX0_emit 96 = .ok (.iconst 1, 1) := by decide +kernel
theorem dX0_emit_97 : decode cX0_emit 97 = .ok (.isub, 1) := by decide +kernel
theorem dX0_emit_98 : decode cX0_emit 98 = .ok (.ireturn, 1) := by decide +kernel
def fX0_emit (h : pm_H) (a0 : Nat) (p1 : Int32) (p2 : Int32) (p3 : Int32) (p4 : Int32) (p5 : Int32) : Option (Int32 × pm_H) := if pm_kd h a0 = 0 then pm_let ((pm_I h a0 2) * 5) fun y2 => if y2 < 0 then (some ((pm_I h a0 2, h))) else ((pm_R h a0 1).bind fun v5 => if pm_kd h v5 = 34 then if y2 ≤ ((Int32.ofNat (pm_ln h v5)) - 5) then (if pm_in (y2 + 0) (pm_ln h v5) then if pm_in (y2 + 1) (pm_ln (pm_setI h v5 ((y2 + 0).toNatClampNeg) p1) v5) then if pm_in (y2 + 2) (pm_ln (pm_setI (pm_setI h v5 ((y2 + 0).toNatClampNeg) p1) v5 ((y2 + 1).toNatClampNeg) p2) v5) then if pm_in (y2 + 3) (pm_ln (pm_setI (pm_setI (pm_setI h v5 ((y2 + 0).toNatClampNeg) p1) v5 ((y2 + 1).toNatClampNeg) p2) v5 ((y2 + 2).toNatClampNeg) p3) v5) then if pm_in (y2 + 4) (pm_ln (pm_setI (pm_setI (pm_setI (pm_setI h v5 ((y2 + 0).toNatClampNeg) p1) v5 ((y2 + 1).toNatClampNeg) p2) v5 ((y2 + 2).toNatClampNeg) p3) v5 ((y2 + 3).toNatClampNeg) p4) v5) then pm_let ((pm_I (pm_setI (pm_setI (pm_setI (pm_setI (pm_setI h v5 ((y2 + 0).toNatClampNeg) p1) v5 ((y2 + 1).toNatClampNeg) p2) v5 ((y2 + 2).toNatClampNeg) p3) v5 ((y2 + 3).toNatClampNeg) p4) v5 ((y2 + 4).toNatClampNeg) p5) a0 2) + 1) fun y14 => some (((pm_I (pm_setI (pm_setI (pm_setI (pm_setI (pm_setI (pm_setI h v5 ((y2 + 0).toNatClampNeg) p1) v5 ((y2 + 1).toNatClampNeg) p2) v5 ((y2 + 2).toNatClampNeg) p3) v5 ((y2 + 3).toNatClampNeg) p4) v5 ((y2 + 4).toNatClampNeg) p5) a0 2 y14) a0 2) - 1, pm_setI (pm_setI (pm_setI (pm_setI (pm_setI (pm_setI h v5 ((y2 + 0).toNatClampNeg) p1) v5 ((y2 + 1).toNatClampNeg) p2) v5 ((y2 + 2).toNatClampNeg) p3) v5 ((y2 + 3).toNatClampNeg) p4) v5 ((y2 + 4).toNatClampNeg) p5) a0 2 y14)) else none else none else none else none else none) else (some ((pm_I h a0 2, h))) else none) else none
set_option maxHeartbeats 4000000 in
set_option maxRecDepth 100000 in
theorem ctX0_emit {l : Launch} {G : pm_Gl} {h : pm_H} {a0 : Nat} {p1 : Int32} {p2 : Int32} {p3 : Int32} {p4 : Int32} {p5 : Int32} {r : (Int32 × pm_H)} {Qr : Option Value → pm_H → Prop} (hf : fX0_emit h a0 p1 p2 p3 p4 p5 = some r) (q : Qr (some (.int r.1)) r.2) : pm_Ct l G mX0_emit [.ref a0, .int p1, .int p2, .int p3, .int p4, .int p5] h 0 0 Qr := by
  refine pm_body pnX0 (Nat.le_of_ble_eq_true rfl) (fun g C X => ?_)
  have C : pm_C g cX0_emit RX0 := C
  show pm_G g 0 [(0, .ref a0), (1, .int p1), (2, .int p2), (3, .int p3), (4, .int p4), (5, .int p5)] [] h 0 0
  unfold fX0_emit at hf
  refine pm_aload_n C dX0_emit_0 rfl rfl ?_
  obtain ⟨k1, hf⟩ := pm_if hf
  refine pm_getI C dX0_emit_1 flX0_32 rfl k1 rfl ?_
  refine pm_iconst (v := 5) C dX0_emit_4 (by decide) ?_
  refine pm_imul C dX0_emit_5 ?_
  obtain ⟨y2, e3, hf⟩ := pm_lt hf
  refine pm_topI e3 ?_
  refine pm_istore (lv' := [(6, .int y2), (0, .ref a0), (1, .int p1), (2, .int p2), (3, .int p3), (4, .int p4), (5, .int p5)]) C dX0_emit_6 (pm_nl X (by decide)) rfl ?_
  refine pm_iload C dX0_emit_8 rfl ?_
  refine pm_if_lt (tgt := 25) C dX0_emit_10 (by decide) (fun c4 => ?_) (fun c4 => ?_)
  · have hf := pm_it hf c4
    refine pm_aload_n C dX0_emit_25 rfl rfl ?_
    refine pm_getI C dX0_emit_26 flX0_32 rfl k1 rfl ?_
    cases hf
    exact pm_iret C X dX0_emit_29 rfl (Nat.le_refl _) (Nat.le_refl _) q
  · have hf := pm_ie hf c4
    refine pm_iload C dX0_emit_13 rfl ?_
    refine pm_aload_n C dX0_emit_15 rfl rfl ?_
    obtain ⟨v5, e6, hf⟩ := pm_bd hf
    refine pm_getR C dX0_emit_16 flX0_29 rfl k1 e6 ?_
    obtain ⟨k7, hf⟩ := pm_if hf
    refine pm_alen (t := 2) C dX0_emit_19 (by decide) k7 rfl ?_
    refine pm_iconst (v := 5) C dX0_emit_20 (by decide) ?_
    refine pm_isub C dX0_emit_21 ?_
    refine pm_icmp_le (tgt := 30) C dX0_emit_22 (by decide) (fun c8 => ?_) (fun c8 => ?_)
    · have hf := pm_it hf c8
      refine pm_aload_n C dX0_emit_30 rfl rfl ?_
      refine pm_getR C dX0_emit_31 flX0_29 rfl k1 e6 ?_
      refine pm_iload C dX0_emit_34 rfl ?_
      refine pm_iconst (v := 0) C dX0_emit_36 (by decide) ?_
      refine pm_iadd C dX0_emit_37 ?_
      refine pm_iload_n C dX0_emit_38 rfl rfl ?_
      obtain ⟨u9, hf⟩ := pm_if hf
      refine pm_iast C dX0_emit_39 k7 u9 ?_
      refine pm_aload_n C dX0_emit_40 rfl rfl ?_
      refine pm_getR C dX0_emit_41 flX0_29 rfl k1 e6 ?_
      refine pm_iload C dX0_emit_44 rfl ?_
      refine pm_iconst (v := 1) C dX0_emit_46 (by decide) ?_
      refine pm_iadd C dX0_emit_47 ?_
      refine pm_iload_n C dX0_emit_48 rfl rfl ?_
      obtain ⟨u10, hf⟩ := pm_if hf
      refine pm_iast C dX0_emit_49 k7 u10 ?_
      refine pm_aload_n C dX0_emit_50 rfl rfl ?_
      refine pm_getR C dX0_emit_51 flX0_29 rfl k1 e6 ?_
      refine pm_iload C dX0_emit_54 rfl ?_
      refine pm_iconst (v := 2) C dX0_emit_56 (by decide) ?_
      refine pm_iadd C dX0_emit_57 ?_
      refine pm_iload_n C dX0_emit_58 rfl rfl ?_
      obtain ⟨u11, hf⟩ := pm_if hf
      refine pm_iast C dX0_emit_59 k7 u11 ?_
      refine pm_aload_n C dX0_emit_60 rfl rfl ?_
      refine pm_getR C dX0_emit_61 flX0_29 rfl k1 e6 ?_
      refine pm_iload C dX0_emit_64 rfl ?_
      refine pm_iconst (v := 3) C dX0_emit_66 (by decide) ?_
      refine pm_iadd C dX0_emit_67 ?_
      refine pm_iload C dX0_emit_68 rfl ?_
      obtain ⟨u12, hf⟩ := pm_if hf
      refine pm_iast C dX0_emit_70 k7 u12 ?_
      refine pm_aload_n C dX0_emit_71 rfl rfl ?_
      refine pm_getR C dX0_emit_72 flX0_29 rfl k1 e6 ?_
      refine pm_iload C dX0_emit_75 rfl ?_
      refine pm_iconst (v := 4) C dX0_emit_77 (by decide) ?_
      refine pm_iadd C dX0_emit_78 ?_
      refine pm_iload C dX0_emit_79 rfl ?_
      obtain ⟨u13, hf⟩ := pm_if hf
      refine pm_iast C dX0_emit_81 k7 u13 ?_
      refine pm_aload_n C dX0_emit_82 rfl rfl ?_
      refine pm_dup C dX0_emit_83 rfl ?_
      refine pm_getI C dX0_emit_84 flX0_32 rfl k1 rfl ?_
      refine pm_iconst (v := 1) C dX0_emit_87 (by decide) ?_
      refine pm_iadd C dX0_emit_88 ?_
      obtain ⟨y14, e15, hf⟩ := pm_lt hf
      refine pm_topI e15 ?_
      refine pm_putI C dX0_emit_89 flX0_32 rfl rfl k1 rfl rfl ?_
      refine pm_aload_n C dX0_emit_92 rfl rfl ?_
      refine pm_getI C dX0_emit_93 flX0_32 rfl k1 rfl ?_
      refine pm_iconst (v := 1) C dX0_emit_96 (by decide) ?_
      refine pm_isub C dX0_emit_97 ?_
      cases hf
      exact pm_iret C X dX0_emit_98 rfl (Nat.le_refl _) (Nat.le_refl _) q
    · have hf := pm_ie hf c8
      refine pm_aload_n C dX0_emit_25 rfl rfl ?_
      refine pm_getI C dX0_emit_26 flX0_32 rfl k1 rfl ?_
      cases hf
      exact pm_iret C X dX0_emit_29 rfl (Nat.le_refl _) (Nat.le_refl _) q
theorem dX0_of_0 : decode cX0_of 0 = .ok (.iload_n 1, 1) := by decide +kernel
theorem dX0_of_1 : decode cX0_of 1 = .ok (.iconst 5, 1) := by decide +kernel
theorem dX0_of_2 : decode cX0_of 2 = .ok (.imul, 1) := by decide +kernel
theorem dX0_of_3 : decode cX0_of 3 = .ok (.iload_n 2, 1) := by decide +kernel
theorem dX0_of_4 : decode cX0_of 4 = .ok (.iadd, 1) := by decide +kernel
theorem dX0_of_5 : decode cX0_of 5 = .ok (.istore_n 3, 1) := by decide +kernel
theorem dX0_of_6 : decode cX0_of 6 = .ok (.iload_n 3, 1) := by decide +kernel
theorem dX0_of_7 : decode cX0_of 7 = .ok (.ifCond .lt 21, 3) := by decide +kernel
theorem dX0_of_10 : decode cX0_of 10 = .ok (.iload_n 3, 1) := by decide +kernel
theorem dX0_of_11 : decode cX0_of 11 = .ok (.aload_n 0, 1) := by decide +kernel
theorem dX0_of_12 : decode cX0_of 12 = .ok (.getfield 29, 3) := by decide +kernel
theorem dX0_of_15 : decode cX0_of 15 = .ok (.arraylength, 1) := by decide +kernel
theorem dX0_of_16 : decode cX0_of 16 = .ok (.if_icmp .ge 12, 3) := by decide +kernel
theorem dX0_of_19 : decode cX0_of 19 = .ok (.aload_n 0, 1) := by decide +kernel
theorem dX0_of_20 : decode cX0_of 20 = .ok (.getfield 29, 3) := by decide +kernel
theorem dX0_of_23 : decode cX0_of 23 = .ok (.iload_n 3, 1) := by decide +kernel
theorem dX0_of_24 : decode cX0_of 24 = .ok (.iaload, 1) := by decide +kernel
theorem dX0_of_25 : decode cX0_of 25 = .ok (.goto 4, 3) := by decide +kernel
theorem dX0_of_28 : decode cX0_of 28 = .ok (.iconst 0, 1) := by decide +kernel
theorem dX0_of_29 : decode cX0_of 29 = .ok (.ireturn, 1) := by decide +kernel
def fX0_of (h : pm_H) (a0 : Nat) (p1 : Int32) (p2 : Int32) : Option Int32 := pm_let ((p1 * 5) + p2) fun y1 => if y1 < 0 then (some 0) else (if pm_kd h a0 = 0 then (pm_R h a0 1).bind fun v5 => if pm_kd h v5 = 34 then if (Int32.ofNat (pm_ln h v5)) ≤ y1 then (some 0) else (if pm_in y1 (pm_ln h v5) then some (pm_I h v5 y1.toNatClampNeg) else none) else none else none)
set_option maxHeartbeats 4000000 in
set_option maxRecDepth 100000 in
theorem ctX0_of {l : Launch} {G : pm_Gl} {h : pm_H} {a0 : Nat} {p1 : Int32} {p2 : Int32} {r : Int32} {Qr : Option Value → pm_H → Prop} (hf : fX0_of h a0 p1 p2 = some r) (q : Qr (some (.int r)) h) : pm_Ct l G mX0_of [.ref a0, .int p1, .int p2] h 0 0 Qr := by
  refine pm_body pnX0 (Nat.le_of_ble_eq_true rfl) (fun g C X => ?_)
  have C : pm_C g cX0_of RX0 := C
  show pm_G g 0 [(0, .ref a0), (1, .int p1), (2, .int p2)] [] h 0 0
  unfold fX0_of at hf
  refine pm_iload_n C dX0_of_0 rfl rfl ?_
  refine pm_iconst (v := 5) C dX0_of_1 (by decide) ?_
  refine pm_imul C dX0_of_2 ?_
  refine pm_iload_n C dX0_of_3 rfl rfl ?_
  refine pm_iadd C dX0_of_4 ?_
  obtain ⟨y1, e2, hf⟩ := pm_lt hf
  refine pm_topI e2 ?_
  refine pm_istore_n (lv' := [(3, .int y1), (0, .ref a0), (1, .int p1), (2, .int p2)]) C dX0_of_5 rfl (pm_nl X (by decide)) rfl ?_
  refine pm_iload_n C dX0_of_6 rfl rfl ?_
  refine pm_if_lt (tgt := 28) C dX0_of_7 (by decide) (fun c3 => ?_) (fun c3 => ?_)
  · have hf := pm_it hf c3
    refine pm_iconst (v := 0) C dX0_of_28 (by decide) ?_
    cases hf
    exact pm_iret C X dX0_of_29 rfl (Nat.le_refl _) (Nat.le_refl _) q
  · have hf := pm_ie hf c3
    refine pm_iload_n C dX0_of_10 rfl rfl ?_
    refine pm_aload_n C dX0_of_11 rfl rfl ?_
    obtain ⟨k4, hf⟩ := pm_if hf
    obtain ⟨v5, e6, hf⟩ := pm_bd hf
    refine pm_getR C dX0_of_12 flX0_29 rfl k4 e6 ?_
    obtain ⟨k7, hf⟩ := pm_if hf
    refine pm_alen (t := 2) C dX0_of_15 (by decide) k7 rfl ?_
    refine pm_icmp_ge (tgt := 28) C dX0_of_16 (by decide) (fun c8 => ?_) (fun c8 => ?_)
    · have hf := pm_it hf c8
      refine pm_iconst (v := 0) C dX0_of_28 (by decide) ?_
      cases hf
      exact pm_iret C X dX0_of_29 rfl (Nat.le_refl _) (Nat.le_refl _) q
    · have hf := pm_ie hf c8
      refine pm_aload_n C dX0_of_19 rfl rfl ?_
      refine pm_getR C dX0_of_20 flX0_29 rfl k4 e6 ?_
      refine pm_iload_n C dX0_of_23 rfl rfl ?_
      obtain ⟨u9, hf⟩ := pm_if hf
      refine pm_iald C dX0_of_24 k7 u9 rfl ?_
      refine pm_goto (tgt := 29) C dX0_of_25 (by decide) ?_
      cases hf
      exact pm_iret C X dX0_of_29 rfl (Nat.le_refl _) (Nat.le_refl _) q
theorem dX1_declare_0 : decode cX1_declare 0 = .ok (.lload_n 1, 1) := by decide +kernel
theorem dX1_declare_1 : decode cX1_declare 1 = .ok (.lconst 0, 1) := by decide +kernel
theorem dX1_declare_2 : decode cX1_declare 2 = .ok (.lcmp, 1) := by decide +kernel
theorem dX1_declare_3 : decode cX1_declare 3 = .ok (.ifCond .lt 22, 3) := by decide +kernel
theorem dX1_declare_6 : decode cX1_declare 6 = .ok (.lload_n 1, 1) := by decide +kernel
theorem dX1_declare_7 : decode cX1_declare 7 = .ok (.aload_n 0, 1) := by decide +kernel
theorem dX1_declare_8 : decode cX1_declare 8 = .ok (.getfield 9, 3) := by decide +kernel
theorem dX1_declare_11 : decode cX1_declare 11 = .ok (.arraylength, 1) := by decide +kernel
theorem dX1_declare_12 : decode cX1_declare 12 = .ok (.i2l, 1) := by decide +kernel
theorem dX1_declare_13 : decode cX1_declare 13 = .ok (.lcmp, 1) := by decide +kernel
theorem dX1_declare_14 : decode cX1_declare 14 = .ok (.ifCond .ge 11, 3) := by decide +kernel
theorem dX1_declare_17 : decode cX1_declare 17 = .ok (.aload_n 0, 1) := by decide +kernel
theorem dX1_declare_18 : decode cX1_declare 18 = .ok (.getfield 9, 3) := by decide +kernel
theorem dX1_declare_21 : decode cX1_declare 21 = .ok (.lload_n 1, 1) := by decide +kernel
theorem dX1_declare_22 : decode cX1_declare 22 = .ok (.l2i, 1) := by decide +kernel
theorem dX1_declare_23 : decode cX1_declare 23 = .ok (.iconst 1, 1) := by decide +kernel
theorem dX1_declare_24 : decode cX1_declare 24 = .ok (.bastore, 1) := by decide +kernel
theorem dX1_declare_25 : decode cX1_declare 25 = .ok (.return_, 1) := by decide +kernel
def fX1_declare (h : pm_H) (a0 : Nat) (p1 : Int64) : Option pm_H := if p1 < 0 then (some h) else (if pm_kd h a0 = 1 then (pm_R h a0 4).bind fun v3 => if pm_kd h v3 = 32 then if ((Int32.ofNat (pm_ln h v3)).toInt64) ≤ p1 then (some h) else (if pm_in p1.toInt32 (pm_ln h v3) then some (pm_setI h v3 p1.toInt32.toNatClampNeg (vp_nar .boolean 1)) else none) else none else none)
set_option maxHeartbeats 4000000 in
set_option maxRecDepth 100000 in
theorem ctX1_declare {l : Launch} {G : pm_Gl} {h : pm_H} {a0 : Nat} {p1 : Int64} {r : pm_H} {Qr : Option Value → pm_H → Prop} (hf : fX1_declare h a0 p1 = some r) (q : Qr none r) : pm_Ct l G mX1_declare [.ref a0, .long p1] h 0 0 Qr := by
  refine pm_body pnX1 (Nat.le_of_ble_eq_true rfl) (fun g C X => ?_)
  have C : pm_C g cX1_declare RX1 := C
  show pm_G g 0 [(0, .ref a0), (1, .long p1)] [] h 0 0
  unfold fX1_declare at hf
  refine pm_lload_n C dX1_declare_0 rfl rfl ?_
  refine pm_lconst (v := 0) C dX1_declare_1 (by decide) ?_
  refine pm_lcmp C dX1_declare_2 ?_
  refine pm_if_lt (tgt := 25) C dX1_declare_3 (by decide) (fun c1 => ?_) (fun c1 => ?_)
  · have hf := pm_it hf ((pm_lg_lt _ _).mp c1)
    cases hf
    exact pm_vret C X dX1_declare_25 rfl (Nat.le_refl _) (Nat.le_refl _) q
  · have hf := pm_ie hf ((fun z => c1 ((pm_lg_lt _ _).mpr z)))
    refine pm_lload_n C dX1_declare_6 rfl rfl ?_
    refine pm_aload_n C dX1_declare_7 rfl rfl ?_
    obtain ⟨k2, hf⟩ := pm_if hf
    obtain ⟨v3, e4, hf⟩ := pm_bd hf
    refine pm_getR C dX1_declare_8 flX1_9 rfl k2 e4 ?_
    obtain ⟨k5, hf⟩ := pm_if hf
    refine pm_alen (t := 0) C dX1_declare_11 (by decide) k5 rfl ?_
    refine pm_i2l C dX1_declare_12 ?_
    refine pm_lcmp C dX1_declare_13 ?_
    refine pm_if_ge (tgt := 25) C dX1_declare_14 (by decide) (fun c6 => ?_) (fun c6 => ?_)
    · have hf := pm_it hf ((pm_lg_ge _ _).mp c6)
      cases hf
      exact pm_vret C X dX1_declare_25 rfl (Nat.le_refl _) (Nat.le_refl _) q
    · have hf := pm_ie hf ((fun z => c6 ((pm_lg_ge _ _).mpr z)))
      refine pm_aload_n C dX1_declare_17 rfl rfl ?_
      refine pm_getR C dX1_declare_18 flX1_9 rfl k2 e4 ?_
      refine pm_lload_n C dX1_declare_21 rfl rfl ?_
      refine pm_l2i C dX1_declare_22 ?_
      refine pm_iconst (v := 1) C dX1_declare_23 (by decide) ?_
      obtain ⟨u7, hf⟩ := pm_if hf
      refine pm_zast C dX1_declare_24 k5 u7 ?_
      cases hf
      exact pm_vret C X dX1_declare_25 rfl (Nat.le_refl _) (Nat.le_refl _) q
theorem dX1_fail_0 : decode cX1_fail 0 = .ok (.aload_n 0, 1) := by decide +kernel
theorem dX1_fail_1 : decode cX1_fail 1 = .ok (.getfield 53, 3) := by decide +kernel
theorem dX1_fail_4 : decode cX1_fail 4 = .ok (.ifCond .eq 4, 3) := by decide +kernel
theorem dX1_fail_7 : decode cX1_fail 7 = .ok (.return_, 1) := by decide +kernel
theorem dX1_fail_8 : decode cX1_fail 8 = .ok (.aload_n 0, 1) := by decide +kernel
theorem dX1_fail_9 : decode cX1_fail 9 = .ok (.iload_n 1, 1) := by decide +kernel
theorem dX1_fail_10 : decode cX1_fail 10 = .ok (.putfield 53, 3) := by decide +kernel
theorem dX1_fail_13 : decode cX1_fail 13 = .ok (.aload_n 0, 1) := by decide +kernel
theorem dX1_fail_14 : decode cX1_fail 14 = .ok (.aload_n 0, 1) := by decide +kernel
theorem dX1_fail_15 : decode cX1_fail 15 = .ok (.getfield 36, 3) := by decide +kernel
theorem dX1_fail_18 : decode cX1_fail 18 = .ok (.getfield 97, 3) := by decide +kernel
theorem dX1_fail_21 : decode cX1_fail 21 = .ok (.putfield 57, 3) := by decide +kernel
theorem dX1_fail_24 : decode cX1_fail 24 = .ok (.return_, 1) := by decide +kernel
def fX1_fail (h : pm_H) (a0 : Nat) (p1 : Int32) : Option pm_H := if pm_kd h a0 = 1 then if (pm_I h a0 0) = 0 then ((pm_R (pm_setI h a0 0 p1) a0 3).bind fun v3 => if pm_kd (pm_setI h a0 0 p1) v3 = 9 then pm_let (pm_I (pm_setI h a0 0 p1) v3 7) fun y6 => some (pm_setI (pm_setI h a0 0 p1) a0 1 y6) else none) else (some h) else none
set_option maxHeartbeats 4000000 in
set_option maxRecDepth 100000 in
theorem ctX1_fail {l : Launch} {G : pm_Gl} {h : pm_H} {a0 : Nat} {p1 : Int32} {r : pm_H} {Qr : Option Value → pm_H → Prop} (hf : fX1_fail h a0 p1 = some r) (q : Qr none r) : pm_Ct l G mX1_fail [.ref a0, .int p1] h 0 0 Qr := by
  refine pm_body pnX1 (Nat.le_of_ble_eq_true rfl) (fun g C X => ?_)
  have C : pm_C g cX1_fail RX1 := C
  show pm_G g 0 [(0, .ref a0), (1, .int p1)] [] h 0 0
  unfold fX1_fail at hf
  refine pm_aload_n C dX1_fail_0 rfl rfl ?_
  obtain ⟨k1, hf⟩ := pm_if hf
  refine pm_getI C dX1_fail_1 flX1_53 rfl k1 rfl ?_
  refine pm_if_eq (tgt := 8) C dX1_fail_4 (by decide) (fun c2 => ?_) (fun c2 => ?_)
  · have hf := pm_it hf c2
    refine pm_aload_n C dX1_fail_8 rfl rfl ?_
    refine pm_iload_n C dX1_fail_9 rfl rfl ?_
    refine pm_putI C dX1_fail_10 flX1_53 rfl rfl k1 rfl rfl ?_
    refine pm_aload_n C dX1_fail_13 rfl rfl ?_
    refine pm_aload_n C dX1_fail_14 rfl rfl ?_
    obtain ⟨v3, e4, hf⟩ := pm_bd hf
    refine pm_getR C dX1_fail_15 flX1_36 rfl k1 e4 ?_
    obtain ⟨k5, hf⟩ := pm_if hf
    refine pm_getI C dX1_fail_18 flX1_97 rfl k5 rfl ?_
    obtain ⟨y6, e7, hf⟩ := pm_lt hf
    refine pm_topI e7 ?_
    refine pm_putI C dX1_fail_21 flX1_57 rfl rfl k1 rfl rfl ?_
    cases hf
    exact pm_vret C X dX1_fail_24 rfl (Nat.le_refl _) (Nat.le_refl _) q
  · have hf := pm_ie hf c2
    cases hf
    exact pm_vret C X dX1_fail_7 rfl (Nat.le_refl _) (Nat.le_refl _) q
theorem dX1_failAt_0 : decode cX1_failAt 0 = .ok (.aload_n 0, 1) := by decide +kernel
theorem dX1_failAt_1 : decode cX1_failAt 1 = .ok (.getfield 53, 3) := by decide +kernel
theorem dX1_failAt_4 : decode cX1_failAt 4 = .ok (.ifCond .eq 4, 3) := by decide +kernel
theorem dX1_failAt_7 : decode cX1_failAt 7 = .ok (.return_, 1) := by decide +kernel
theorem dX1_failAt_8 : decode cX1_failAt 8 = .ok (.aload_n 0, 1) := by decide +kernel
theorem dX1_failAt_9 : decode cX1_failAt 9 = .ok (.iload_n 1, 1) := by decide +kernel
theorem dX1_failAt_10 : decode cX1_failAt 10 = .ok (.putfield 53, 3) := by decide +kernel
theorem dX1_failAt_13 : decode cX1_failAt 13 = .ok (.aload_n 0, 1) := by decide +kernel
theorem dX1_failAt_14 : decode cX1_failAt 14 = .ok (.iload_n 2, 1) := by decide +kernel
theorem dX1_failAt_15 : decode cX1_failAt 15 = .ok (.putfield 57, 3) := by decide +kernel
theorem dX1_failAt_18 : decode cX1_failAt 18 = .ok (.return_, 1) := by decide +kernel
def fX1_failAt (h : pm_H) (a0 : Nat) (p1 : Int32) (p2 : Int32) : Option pm_H := if pm_kd h a0 = 1 then if (pm_I h a0 0) = 0 then (some (pm_setI (pm_setI h a0 0 p1) a0 1 p2)) else (some h) else none
set_option maxHeartbeats 4000000 in
set_option maxRecDepth 100000 in
theorem ctX1_failAt {l : Launch} {G : pm_Gl} {h : pm_H} {a0 : Nat} {p1 : Int32} {p2 : Int32} {r : pm_H} {Qr : Option Value → pm_H → Prop} (hf : fX1_failAt h a0 p1 p2 = some r) (q : Qr none r) : pm_Ct l G mX1_failAt [.ref a0, .int p1, .int p2] h 0 0 Qr := by
  refine pm_body pnX1 (Nat.le_of_ble_eq_true rfl) (fun g C X => ?_)
  have C : pm_C g cX1_failAt RX1 := C
  show pm_G g 0 [(0, .ref a0), (1, .int p1), (2, .int p2)] [] h 0 0
  unfold fX1_failAt at hf
  refine pm_aload_n C dX1_failAt_0 rfl rfl ?_
  obtain ⟨k1, hf⟩ := pm_if hf
  refine pm_getI C dX1_failAt_1 flX1_53 rfl k1 rfl ?_
  refine pm_if_eq (tgt := 8) C dX1_failAt_4 (by decide) (fun c2 => ?_) (fun c2 => ?_)
  · have hf := pm_it hf c2
    refine pm_aload_n C dX1_failAt_8 rfl rfl ?_
    refine pm_iload_n C dX1_failAt_9 rfl rfl ?_
    refine pm_putI C dX1_failAt_10 flX1_53 rfl rfl k1 rfl rfl ?_
    refine pm_aload_n C dX1_failAt_13 rfl rfl ?_
    refine pm_iload_n C dX1_failAt_14 rfl rfl ?_
    refine pm_putI C dX1_failAt_15 flX1_57 rfl rfl k1 rfl rfl ?_
    cases hf
    exact pm_vret C X dX1_failAt_18 rfl (Nat.le_refl _) (Nat.le_refl _) q
  · have hf := pm_ie hf c2
    cases hf
    exact pm_vret C X dX1_failAt_7 rfl (Nat.le_refl _) (Nat.le_refl _) q
theorem dX1_isNumber_0 : decode cX1_isNumber 0 = .ok (.iload_n 0, 1) := by decide +kernel
theorem dX1_isNumber_1 : decode cX1_isNumber 1 = .ok (.ifCond .eq 15, 3) := by decide +kernel
theorem dX1_isNumber_4 : decode cX1_isNumber 4 = .ok (.iload_n 0, 1) := by decide +kernel
theorem dX1_isNumber_5 : decode cX1_isNumber 5 = .ok (.bipush 124, 2) := by decide +kernel
theorem dX1_isNumber_7 : decode cX1_isNumber 7 = .ok (.if_icmp .lt 13, 3) := by decide +kernel
theorem dX1_isNumber_10 : decode cX1_isNumber 10 = .ok (.iload_n 0, 1) := by decide +kernel
theorem dX1_isNumber_11 : decode cX1_isNumber 11 = .ok (.bipush 127, 2) := by decide +kernel
theorem dX1_isNumber_13 : decode cX1_isNumber 13 = .ok (.if_icmp .gt 7, 3) := by decide +kernel
theorem dX1_isNumber_16 : decode cX1_isNumber 16 = .ok (.iconst 1, 1) := by decide +kernel
theorem dX1_isNumber_17 : decode cX1_isNumber 17 = .ok (.goto 4, 3) := by decide +kernel
theorem dX1_isNumber_20 : decode cX1_isNumber 20 = .ok (.iconst 0, 1) := by decide +kernel
theorem dX1_isNumber_21 : decode cX1_isNumber 21 = .ok (.ireturn, 1) := by decide +kernel
def fX1_isNumber (p1 : Int32) : Int32 := if p1 = 0 then (1) else (if p1 < 124 then (0) else (if 127 < p1 then (0) else (1)))
set_option maxHeartbeats 4000000 in
set_option maxRecDepth 100000 in
theorem ctX1_isNumber {l : Launch} {G : pm_Gl} {h : pm_H} {p1 : Int32} {r : Int32} {Qr : Option Value → pm_H → Prop} (hf : fX1_isNumber p1 = r) (q : Qr (some (.int r)) h) : pm_Ct l G mX1_isNumber [.int p1] h 0 0 Qr := by
  refine pm_body pnX1 (Nat.le_of_ble_eq_true rfl) (fun g C X => ?_)
  have C : pm_C g cX1_isNumber RX1 := C
  show pm_G g 0 [(0, .int p1)] [] h 0 0
  unfold fX1_isNumber at hf
  refine pm_iload_n C dX1_isNumber_0 rfl rfl ?_
  refine pm_if_eq (tgt := 16) C dX1_isNumber_1 (by decide) (fun c1 => ?_) (fun c1 => ?_)
  · have hf := pm_it hf c1
    refine pm_iconst (v := 1) C dX1_isNumber_16 (by decide) ?_
    refine pm_goto (tgt := 21) C dX1_isNumber_17 (by decide) ?_
    subst hf
    exact pm_zret C X dX1_isNumber_21 rfl (by decide) (Nat.le_refl _) (Nat.le_refl _) q
  · have hf := pm_ie hf c1
    refine pm_iload_n C dX1_isNumber_4 rfl rfl ?_
    refine pm_bipush (v := 124) C dX1_isNumber_5 (by decide) ?_
    refine pm_icmp_lt (tgt := 20) C dX1_isNumber_7 (by decide) (fun c2 => ?_) (fun c2 => ?_)
    · have hf := pm_it hf c2
      refine pm_iconst (v := 0) C dX1_isNumber_20 (by decide) ?_
      subst hf
      exact pm_zret C X dX1_isNumber_21 rfl (by decide) (Nat.le_refl _) (Nat.le_refl _) q
    · have hf := pm_ie hf c2
      refine pm_iload_n C dX1_isNumber_10 rfl rfl ?_
      refine pm_bipush (v := 127) C dX1_isNumber_11 (by decide) ?_
      refine pm_icmp_gt (tgt := 20) C dX1_isNumber_13 (by decide) (fun c3 => ?_) (fun c3 => ?_)
      · have hf := pm_it hf c3
        refine pm_iconst (v := 0) C dX1_isNumber_20 (by decide) ?_
        subst hf
        exact pm_zret C X dX1_isNumber_21 rfl (by decide) (Nat.le_refl _) (Nat.le_refl _) q
      · have hf := pm_ie hf c3
        refine pm_iconst (v := 1) C dX1_isNumber_16 (by decide) ?_
        refine pm_goto (tgt := 21) C dX1_isNumber_17 (by decide) ?_
        subst hf
        exact pm_zret C X dX1_isNumber_21 rfl (by decide) (Nat.le_refl _) (Nat.le_refl _) q
theorem dX1_label_0 : decode cX1_label 0 = .ok (.iload_n 1, 1) := by decide +kernel
theorem dX1_label_1 : decode cX1_label 1 = .ok (.bipush 7, 2) := by decide +kernel
theorem dX1_label_3 : decode cX1_label 3 = .ok (.imul, 1) := by decide +kernel
theorem dX1_label_4 : decode cX1_label 4 = .ok (.iload_n 2, 1) := by decide +kernel
theorem dX1_label_5 : decode cX1_label 5 = .ok (.iadd, 1) := by decide +kernel
theorem dX1_label_6 : decode cX1_label 6 = .ok (.istore_n 3, 1) := by decide +kernel
theorem dX1_label_7 : decode cX1_label 7 = .ok (.iload_n 3, 1) := by decide +kernel
theorem dX1_label_8 : decode cX1_label 8 = .ok (.ifCond .lt 21, 3) := by decide +kernel
theorem dX1_label_11 : decode cX1_label 11 = .ok (.iload_n 3, 1) := by decide +kernel
theorem dX1_label_12 : decode cX1_label 12 = .ok (.aload_n 0, 1) := by decide +kernel
theorem dX1_label_13 : decode cX1_label 13 = .ok (.getfield 19, 3) := by decide +kernel
theorem dX1_label_16 : decode cX1_label 16 = .ok (.arraylength, 1) := by decide +kernel
theorem dX1_label_17 : decode cX1_label 17 = .ok (.if_icmp .ge 12, 3) := by decide +kernel
theorem dX1_label_20 : decode cX1_label 20 = .ok (.aload_n 0, 1) := by decide +kernel
theorem dX1_label_21 : decode cX1_label 21 = .ok (.getfield 19, 3) := by decide +kernel
theorem dX1_label_24 : decode cX1_label 24 = .ok (.iload_n 3, 1) := by decide +kernel
theorem dX1_label_25 : decode cX1_label 25 = .ok (.iaload, 1) := by decide +kernel
theorem dX1_label_26 : decode cX1_label 26 = .ok (.goto 4, 3) := by decide +kernel
theorem dX1_label_29 : decode cX1_label 29 = .ok (.iconst 0, 1) := by decide +kernel
theorem dX1_label_30 : decode cX1_label 30 = .ok (.ireturn, 1) := by decide +kernel
def fX1_label (h : pm_H) (a0 : Nat) (p1 : Int32) (p2 : Int32) : Option Int32 := pm_let ((p1 * 7) + p2) fun y1 => if y1 < 0 then (some 0) else (if pm_kd h a0 = 1 then (pm_R h a0 9).bind fun v5 => if pm_kd h v5 = 34 then if (Int32.ofNat (pm_ln h v5)) ≤ y1 then (some 0) else (if pm_in y1 (pm_ln h v5) then some (pm_I h v5 y1.toNatClampNeg) else none) else none else none)
set_option maxHeartbeats 4000000 in
set_option maxRecDepth 100000 in
theorem ctX1_label {l : Launch} {G : pm_Gl} {h : pm_H} {a0 : Nat} {p1 : Int32} {p2 : Int32} {r : Int32} {Qr : Option Value → pm_H → Prop} (hf : fX1_label h a0 p1 p2 = some r) (q : Qr (some (.int r)) h) : pm_Ct l G mX1_label [.ref a0, .int p1, .int p2] h 0 0 Qr := by
  refine pm_body pnX1 (Nat.le_of_ble_eq_true rfl) (fun g C X => ?_)
  have C : pm_C g cX1_label RX1 := C
  show pm_G g 0 [(0, .ref a0), (1, .int p1), (2, .int p2)] [] h 0 0
  unfold fX1_label at hf
  refine pm_iload_n C dX1_label_0 rfl rfl ?_
  refine pm_bipush (v := 7) C dX1_label_1 (by decide) ?_
  refine pm_imul C dX1_label_3 ?_
  refine pm_iload_n C dX1_label_4 rfl rfl ?_
  refine pm_iadd C dX1_label_5 ?_
  obtain ⟨y1, e2, hf⟩ := pm_lt hf
  refine pm_topI e2 ?_
  refine pm_istore_n (lv' := [(3, .int y1), (0, .ref a0), (1, .int p1), (2, .int p2)]) C dX1_label_6 rfl (pm_nl X (by decide)) rfl ?_
  refine pm_iload_n C dX1_label_7 rfl rfl ?_
  refine pm_if_lt (tgt := 29) C dX1_label_8 (by decide) (fun c3 => ?_) (fun c3 => ?_)
  · have hf := pm_it hf c3
    refine pm_iconst (v := 0) C dX1_label_29 (by decide) ?_
    cases hf
    exact pm_iret C X dX1_label_30 rfl (Nat.le_refl _) (Nat.le_refl _) q
  · have hf := pm_ie hf c3
    refine pm_iload_n C dX1_label_11 rfl rfl ?_
    refine pm_aload_n C dX1_label_12 rfl rfl ?_
    obtain ⟨k4, hf⟩ := pm_if hf
    obtain ⟨v5, e6, hf⟩ := pm_bd hf
    refine pm_getR C dX1_label_13 flX1_19 rfl k4 e6 ?_
    obtain ⟨k7, hf⟩ := pm_if hf
    refine pm_alen (t := 2) C dX1_label_16 (by decide) k7 rfl ?_
    refine pm_icmp_ge (tgt := 29) C dX1_label_17 (by decide) (fun c8 => ?_) (fun c8 => ?_)
    · have hf := pm_it hf c8
      refine pm_iconst (v := 0) C dX1_label_29 (by decide) ?_
      cases hf
      exact pm_iret C X dX1_label_30 rfl (Nat.le_refl _) (Nat.le_refl _) q
    · have hf := pm_ie hf c8
      refine pm_aload_n C dX1_label_20 rfl rfl ?_
      refine pm_getR C dX1_label_21 flX1_19 rfl k4 e6 ?_
      refine pm_iload_n C dX1_label_24 rfl rfl ?_
      obtain ⟨u9, hf⟩ := pm_if hf
      refine pm_iald C dX1_label_25 k7 u9 rfl ?_
      refine pm_goto (tgt := 30) C dX1_label_26 (by decide) ?_
      cases hf
      exact pm_iret C X dX1_label_30 rfl (Nat.le_refl _) (Nat.le_refl _) q
theorem dX2_emit_0 : decode cX2_emit 0 = .ok (.aload_n 0, 1) := by decide +kernel
theorem dX2_emit_1 : decode cX2_emit 1 = .ok (.getfield 51, 3) := by decide +kernel
theorem dX2_emit_4 : decode cX2_emit 4 = .ok (.bipush 8, 2) := by decide +kernel
theorem dX2_emit_6 : decode cX2_emit 6 = .ok (.imul, 1) := by decide +kernel
theorem dX2_emit_7 : decode cX2_emit 7 = .ok (.istore_n 3, 1) := by decide +kernel
theorem dX2_emit_8 : decode cX2_emit 8 = .ok (.iload_n 3, 1) := by decide +kernel
theorem dX2_emit_9 : decode cX2_emit 9 = .ok (.aload_n 0, 1) := by decide +kernel
theorem dX2_emit_10 : decode cX2_emit 10 = .ok (.getfield 16, 3) := by decide +kernel
theorem dX2_emit_13 : decode cX2_emit 13 = .ok (.arraylength, 1) := by decide +kernel
theorem dX2_emit_14 : decode cX2_emit 14 = .ok (.bipush 8, 2) := by decide +kernel
theorem dX2_emit_16 : decode cX2_emit 16 = .ok (.isub, 1) := by decide +kernel
theorem dX2_emit_17 : decode cX2_emit 17 = .ok (.if_icmp .le 14, 3) := by decide +kernel
theorem dX2_emit_20 : decode cX2_emit 20 = .ok (.aload_n 0, 1) := by decide +kernel
theorem dX2_emit_21 : decode cX2_emit 21 = .ok (.iconst 1, 1) := by decide +kernel
theorem dX2_emit_22 : decode cX2_emit 22 = .ok (.putfield 60, 3) := by decide +kernel
theorem dX2_emit_25 : decode cX2_emit 25 = .ok (.aload_n 0, 1) := by decide +kernel
theorem dX2_emit_26 : decode cX2_emit 26 = .ok (.getfield 16, 3) := by decide +kernel
theorem dX2_emit_29 : decode cX2_emit 29 = .ok (.arraylength, 1) := by decide +kernel
theorem dX2_emit_30 : decode cX2_emit 30 = .ok (.ireturn, 1) := by decide +kernel
theorem dX2_emit_31 : decode cX2_emit 31 = .ok (.aload_n 0, 1) := by decide +kernel
theorem dX2_emit_32 : decode cX2_emit 32 = .ok (.getfield 16, 3) := by decide +kernel
theorem dX2_emit_35 : decode cX2_emit 35 = .ok (.iload_n 3, 1) := by decide +kernel
theorem dX2_emit_36 : decode cX2_emit 36 = .ok (.iconst 0, 1) := by decide +kernel
theorem dX2_emit_37 : decode cX2_emit 37 = .ok (.iadd, 1) := by decide +kernel
theorem dX2_emit_38 : decode cX2_emit 38 = .ok (.iload_n 1, 1) := by decide +kernel
theorem dX2_emit_39 : decode cX2_emit 39 = .ok (.iastore, 1) := by decide +kernel
theorem dX2_emit_40 : decode cX2_emit 40 = .ok (.aload_n 0, 1) := by decide +kernel
theorem dX2_emit_41 : decode cX2_emit 41 = .ok (.getfield 16, 3) := by decide +kernel
theorem dX2_emit_44 : decode cX2_emit 44 = .ok (.iload_n 3, 1) := by decide +kernel
theorem dX2_emit_45 : decode cX2_emit 45 = .ok (.iconst 1, 1) := by decide +kernel
theorem dX2_emit_46 : decode cX2_emit 46 = .ok (.iadd, 1) := by decide +kernel
theorem dX2_emit_47 : decode cX2_emit 47 = .ok (.aload_n 0, 1) := by decide +kernel
theorem dX2_emit_48 : decode cX2_emit 48 = .ok (.getfield 57, 3) := by decide +kernel
theorem dX2_emit_51 : decode cX2_emit 51 = .ok (.iload_n 2, 1) := by decide +kernel
theorem dX2_emit_52 : decode cX2_emit 52 = .ok (.iadd, 1) := by decide +kernel
theorem dX2_emit_53 : decode cX2_emit 53 = .ok (.iastore, 1) := by decide +kernel
theorem dX2_emit_54 : decode cX2_emit 54 = .ok (.aload_n 0, 1) := by decide +kernel
theorem dX2_emit_55 : decode cX2_emit 55 = .ok (.iconst 0, 1) := by decide +kernel
theorem dX2_emit_56 : decode cX2_emit 56 = .ok (.putfield 57, 3) := by decide +kernel
theorem dX2_emit_59 : decode cX2_emit 59 = .ok (.aload_n 0, 1) := by decide +kernel
theorem dX2_emit_60 : decode cX2_emit 60 = .ok (.dup, 1) := by decide +kernel
theorem dX2_emit_61 : decode cX2_emit 61 = .ok (.getfield 51, 3) := by decide +kernel
theorem dX2_emit_64 : decode cX2_emit 64 = .ok (.iconst 1, 1) := by decide +kernel
theorem dX2_emit_65 : decode cX2_emit 65 = .ok (.iadd, 1) := by decide +kernel
theorem dX2_emit_66 : decode cX2_emit 66 = .ok (.putfield 51, 3) := by decide +kernel
theorem dX2_emit_69 : decode cX2_emit 69 = .ok (.iload_n 3, 1) := by decide +kernel
theorem dX2_emit_70 : decode cX2_emit 70 = .ok (.ireturn, 1) := by decide +kernel
def fX2_emit (h : pm_H) (a0 : Nat) (p1 : Int32) (p2 : Int32) : Option (Int32 × pm_H) := if pm_kd h a0 = 2 then pm_let ((pm_I h a0 4) * 8) fun y2 => (pm_R h a0 3).bind fun v4 => if pm_kd h v4 = 34 then if y2 ≤ ((Int32.ofNat (pm_ln h v4)) - 8) then (if pm_in (y2 + 0) (pm_ln h v4) then pm_let ((pm_I (pm_setI h v4 ((y2 + 0).toNatClampNeg) p1) a0 11) + p2) fun y9 => if pm_in (y2 + 1) (pm_ln (pm_setI h v4 ((y2 + 0).toNatClampNeg) p1) v4) then pm_let ((pm_I (pm_setI (pm_setI (pm_setI h v4 ((y2 + 0).toNatClampNeg) p1) v4 ((y2 + 1).toNatClampNeg) y9) a0 11 0) a0 4) + 1) fun y12 => some ((y2, pm_setI (pm_setI (pm_setI (pm_setI h v4 ((y2 + 0).toNatClampNeg) p1) v4 ((y2 + 1).toNatClampNeg) y9) a0 11 0) a0 4 y12)) else none else none) else (some ((Int32.ofNat (pm_ln (pm_setI h a0 5 1) v4), pm_setI h a0 5 1))) else none else none
set_option maxHeartbeats 4000000 in
set_option maxRecDepth 100000 in
theorem ctX2_emit {l : Launch} {G : pm_Gl} {h : pm_H} {a0 : Nat} {p1 : Int32} {p2 : Int32} {r : (Int32 × pm_H)} {Qr : Option Value → pm_H → Prop} (hf : fX2_emit h a0 p1 p2 = some r) (q : Qr (some (.int r.1)) r.2) : pm_Ct l G mX2_emit [.ref a0, .int p1, .int p2] h 0 0 Qr := by
  refine pm_body pnX2 (Nat.le_of_ble_eq_true rfl) (fun g C X => ?_)
  have C : pm_C g cX2_emit RX2 := C
  show pm_G g 0 [(0, .ref a0), (1, .int p1), (2, .int p2)] [] h 0 0
  unfold fX2_emit at hf
  refine pm_aload_n C dX2_emit_0 rfl rfl ?_
  obtain ⟨k1, hf⟩ := pm_if hf
  refine pm_getI C dX2_emit_1 flX2_51 rfl k1 rfl ?_
  refine pm_bipush (v := 8) C dX2_emit_4 (by decide) ?_
  refine pm_imul C dX2_emit_6 ?_
  obtain ⟨y2, e3, hf⟩ := pm_lt hf
  refine pm_topI e3 ?_
  refine pm_istore_n (lv' := [(3, .int y2), (0, .ref a0), (1, .int p1), (2, .int p2)]) C dX2_emit_7 rfl (pm_nl X (by decide)) rfl ?_
  refine pm_iload_n C dX2_emit_8 rfl rfl ?_
  refine pm_aload_n C dX2_emit_9 rfl rfl ?_
  obtain ⟨v4, e5, hf⟩ := pm_bd hf
  refine pm_getR C dX2_emit_10 flX2_16 rfl k1 e5 ?_
  obtain ⟨k6, hf⟩ := pm_if hf
  refine pm_alen (t := 2) C dX2_emit_13 (by decide) k6 rfl ?_
  refine pm_bipush (v := 8) C dX2_emit_14 (by decide) ?_
  refine pm_isub C dX2_emit_16 ?_
  refine pm_icmp_le (tgt := 31) C dX2_emit_17 (by decide) (fun c7 => ?_) (fun c7 => ?_)
  · have hf := pm_it hf c7
    refine pm_aload_n C dX2_emit_31 rfl rfl ?_
    refine pm_getR C dX2_emit_32 flX2_16 rfl k1 e5 ?_
    refine pm_iload_n C dX2_emit_35 rfl rfl ?_
    refine pm_iconst (v := 0) C dX2_emit_36 (by decide) ?_
    refine pm_iadd C dX2_emit_37 ?_
    refine pm_iload_n C dX2_emit_38 rfl rfl ?_
    obtain ⟨u8, hf⟩ := pm_if hf
    refine pm_iast C dX2_emit_39 k6 u8 ?_
    refine pm_aload_n C dX2_emit_40 rfl rfl ?_
    refine pm_getR C dX2_emit_41 flX2_16 rfl k1 e5 ?_
    refine pm_iload_n C dX2_emit_44 rfl rfl ?_
    refine pm_iconst (v := 1) C dX2_emit_45 (by decide) ?_
    refine pm_iadd C dX2_emit_46 ?_
    refine pm_aload_n C dX2_emit_47 rfl rfl ?_
    refine pm_getI C dX2_emit_48 flX2_57 rfl k1 rfl ?_
    refine pm_iload_n C dX2_emit_51 rfl rfl ?_
    refine pm_iadd C dX2_emit_52 ?_
    obtain ⟨y9, e10, hf⟩ := pm_lt hf
    refine pm_topI e10 ?_
    obtain ⟨u11, hf⟩ := pm_if hf
    refine pm_iast C dX2_emit_53 k6 u11 ?_
    refine pm_aload_n C dX2_emit_54 rfl rfl ?_
    refine pm_iconst (v := 0) C dX2_emit_55 (by decide) ?_
    refine pm_putI C dX2_emit_56 flX2_57 rfl rfl k1 rfl rfl ?_
    refine pm_aload_n C dX2_emit_59 rfl rfl ?_
    refine pm_dup C dX2_emit_60 rfl ?_
    refine pm_getI C dX2_emit_61 flX2_51 rfl k1 rfl ?_
    refine pm_iconst (v := 1) C dX2_emit_64 (by decide) ?_
    refine pm_iadd C dX2_emit_65 ?_
    obtain ⟨y12, e13, hf⟩ := pm_lt hf
    refine pm_topI e13 ?_
    refine pm_putI C dX2_emit_66 flX2_51 rfl rfl k1 rfl rfl ?_
    refine pm_iload_n C dX2_emit_69 rfl rfl ?_
    cases hf
    exact pm_iret C X dX2_emit_70 rfl (Nat.le_refl _) (Nat.le_refl _) q
  · have hf := pm_ie hf c7
    refine pm_aload_n C dX2_emit_20 rfl rfl ?_
    refine pm_iconst (v := 1) C dX2_emit_21 (by decide) ?_
    refine pm_putI C dX2_emit_22 flX2_60 rfl rfl k1 (by decide) (by decide) ?_
    refine pm_aload_n C dX2_emit_25 rfl rfl ?_
    refine pm_getR C dX2_emit_26 flX2_16 rfl k1 e5 ?_
    refine pm_alen (t := 2) C dX2_emit_29 (by decide) k6 rfl ?_
    cases hf
    exact pm_iret C X dX2_emit_30 rfl (Nat.le_refl _) (Nat.le_refl _) q
