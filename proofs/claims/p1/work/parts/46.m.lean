theorem dX16_operator_0 : decode cX16_operator 0 = .ok (.iload_n 1, 1) := by decide +kernel
theorem dX16_operator_1 : decode cX16_operator 1 = .ok (.invokestatic 756, 3) := by decide +kernel
theorem dX16_operator_4 : decode cX16_operator 4 = .ok (.ifCond .eq 10, 3) := by decide +kernel
theorem dX16_operator_7 : decode cX16_operator 7 = .ok (.aload_n 0, 1) := by decide +kernel
theorem dX16_operator_8 : decode cX16_operator 8 = .ok (.invokevirtual 1157, 3) := by decide +kernel
theorem dX16_operator_11 : decode cX16_operator 11 = .ok (.goto 4, 3) := by decide +kernel
theorem dX16_operator_14 : decode cX16_operator 14 = .ok (.lconst 0, 1) := by decide +kernel
theorem dX16_operator_15 : decode cX16_operator 15 = .ok (.lstore_n 2, 1) := by decide +kernel
theorem dX16_operator_16 : decode cX16_operator 16 = .ok (.aload_n 0, 1) := by decide +kernel
theorem dX16_operator_17 : decode cX16_operator 17 = .ok (.invokevirtual 1157, 3) := by decide +kernel
theorem dX16_operator_20 : decode cX16_operator 20 = .ok (.lstore 4, 2) := by decide +kernel
theorem dX16_operator_22 : decode cX16_operator 22 = .ok (.aload_n 0, 1) := by decide +kernel
theorem dX16_operator_23 : decode cX16_operator 23 = .ok (.iconst 0, 1) := by decide +kernel
theorem dX16_operator_24 : decode cX16_operator 24 = .ok (.putfield 800, 3) := by decide +kernel
theorem dX16_operator_27 : decode cX16_operator 27 = .ok (.aload_n 0, 1) := by decide +kernel
theorem dX16_operator_28 : decode cX16_operator 28 = .ok (.iload_n 1, 1) := by decide +kernel
theorem dX16_operator_29 : decode cX16_operator 29 = .ok (.lload 4, 2) := by decide +kernel
theorem dX16_operator_31 : decode cX16_operator 31 = .ok (.lload_n 2, 1) := by decide +kernel
theorem dX16_operator_32 : decode cX16_operator 32 = .ok (.invokevirtual 1160, 3) := by decide +kernel
theorem dX16_operator_35 : decode cX16_operator 35 = .ok (.lstore 6, 2) := by decide +kernel
theorem dX16_operator_37 : decode cX16_operator 37 = .ok (.aload_n 0, 1) := by decide +kernel
theorem dX16_operator_38 : decode cX16_operator 38 = .ok (.getfield 800, 3) := by decide +kernel
theorem dX16_operator_41 : decode cX16_operator 41 = .ok (.ifCond .le 17, 3) := by decide +kernel
theorem dX16_operator_44 : decode cX16_operator 44 = .ok (.aload_n 0, 1) := by decide +kernel
theorem dX16_operator_45 : decode cX16_operator 45 = .ok (.iconst 1, 1) := by decide +kernel
theorem dX16_operator_46 : decode cX16_operator 46 = .ok (.aload_n 0, 1) := by decide +kernel
theorem dX16_operator_47 : decode cX16_operator 47 = .ok (.getfield 800, 3) := by decide +kernel
theorem dX16_operator_50 : decode cX16_operator 50 = .ok (.iadd, 1) := by decide +kernel
theorem dX16_operator_51 : decode cX16_operator 51 = .ok (.iconst 1, 1) := by decide +kernel
theorem dX16_operator_52 : decode cX16_operator 52 = .ok (.invokevirtual 1163, 3) := by decide +kernel
theorem dX16_operator_55 : decode cX16_operator 55 = .ok (.goto 9, 3) := by decide +kernel
theorem dX16_operator_58 : decode cX16_operator 58 = .ok (.aload_n 0, 1) := by decide +kernel
theorem dX16_operator_59 : decode cX16_operator 59 = .ok (.lload 6, 2) := by decide +kernel
theorem dX16_operator_61 : decode cX16_operator 61 = .ok (.invokevirtual 1136, 3) := by decide +kernel
theorem dX16_operator_64 : decode cX16_operator 64 = .ok (.return_, 1) := by decide +kernel
noncomputable def fX16_operator_b15 (h : pm_H) (x0 : Nat) (x1 : Int32) (s0 : Int64) : Option pm_H := if pm_kd h x0 = 16 then (fX16_pop h x0).bind fun v8 => if pm_kd v8.2 x0 = 16 then (fX16_reckons (pm_setI v8.2 x0 33 0) x0 x1 v8.1 s0).bind fun v11 => if pm_kd v11.2 x0 = 16 then if (pm_I v11.2 x0 33) ≤ 0 then ((fX16_push v11.2 x0 v11.1).bind fun v15 => some v15) else ((fX16_endsBy v11.2 x0 (1 + (pm_I v11.2 x0 33)) 1).bind fun v17 => some v17) else none else none else none
noncomputable def fX16_operator (h : pm_H) (a0 : Nat) (p1 : Int32) : Option pm_H := pm_let (fX16_hasTwo p1) fun v1 => if v1 = 0 then (fX16_operator_b15 h a0 p1 0) else (if pm_kd h a0 = 16 then (fX16_pop h a0).bind fun v5 => fX16_operator_b15 v5.2 a0 p1 v5.1 else none)
set_option maxHeartbeats 4000000 in
set_option maxRecDepth 100000 in
theorem bX16_operator_15 {g : pm_Gm} {l : Launch} {G : pm_Gl} {Qr : Option Value → pm_H → Prop} (C : pm_C g cX16_operator RX16) (X : pm_X g l G mX16_operator 0 0 Qr) {h : pm_H} {x0 : Nat} {x1 : Int32} {s0 : Int64} {r : pm_H} (hf : fX16_operator_b15 h x0 x1 s0 = some r) (q : Qr none r) : pm_G g 15 [(0, .ref x0), (1, .int x1)] [.long s0] h 0 0 := by
  unfold fX16_operator_b15 at hf
  refine pm_lstore_n (lv' := [(2, .long s0), (0, .ref x0), (1, .int x1)]) C dX16_operator_15 rfl (pm_nl X (by decide)) rfl ?_
  refine pm_aload_n C dX16_operator_16 rfl rfl ?_
  obtain ⟨k7, hf⟩ := pm_if hf
  obtain ⟨v8, e9, hf⟩ := pm_bd hf
  refine pm_callV (as := []) (st := []) C X dX16_operator_17 lnX16_1157 myX16_pop viX16_pop ⟨by decide, by decide⟩ rfl rfl k7 (Nat.le_of_ble_eq_true rfl) (Nat.le_refl _) (Nat.le_refl _) (ctX16_pop e9 ?_)
  show pm_G g 20 [(2, .long s0), (0, .ref x0), (1, .int x1)] [.long v8.1] v8.2 0 0
  refine pm_lstore (lv' := [(4, .long v8.1), (2, .long s0), (0, .ref x0), (1, .int x1)]) C dX16_operator_20 (pm_nl X (by decide)) rfl ?_
  refine pm_aload_n C dX16_operator_22 rfl rfl ?_
  refine pm_iconst (v := 0) C dX16_operator_23 (by decide) ?_
  obtain ⟨k10, hf⟩ := pm_if hf
  refine pm_putI C dX16_operator_24 flX16_800 rfl rfl k10 rfl rfl ?_
  refine pm_aload_n C dX16_operator_27 rfl rfl ?_
  refine pm_iload_n C dX16_operator_28 rfl rfl ?_
  refine pm_lload C dX16_operator_29 rfl ?_
  refine pm_lload_n C dX16_operator_31 rfl rfl ?_
  obtain ⟨v11, e12, hf⟩ := pm_bd hf
  refine pm_callV (as := [.int x1, .long v8.1, .long s0]) (st := []) C X dX16_operator_32 lnX16_1160 myX16_reckons viX16_reckons ⟨by decide, by decide⟩ rfl rfl k10 (Nat.le_of_ble_eq_true rfl) (Nat.le_refl _) (Nat.le_refl _) (ctX16_reckons e12 ?_)
  show pm_G g 35 [(4, .long v8.1), (2, .long s0), (0, .ref x0), (1, .int x1)] [.long v11.1] v11.2 0 0
  refine pm_lstore (lv' := [(6, .long v11.1), (4, .long v8.1), (2, .long s0), (0, .ref x0), (1, .int x1)]) C dX16_operator_35 (pm_nl X (by decide)) rfl ?_
  refine pm_aload_n C dX16_operator_37 rfl rfl ?_
  obtain ⟨k13, hf⟩ := pm_if hf
  refine pm_getI C dX16_operator_38 flX16_800 rfl k13 rfl ?_
  refine pm_if_le (tgt := 58) C dX16_operator_41 (by decide) (fun c14 => ?_) (fun c14 => ?_)
  · have hf := pm_it hf c14
    refine pm_aload_n C dX16_operator_58 rfl rfl ?_
    refine pm_lload C dX16_operator_59 rfl ?_
    obtain ⟨v15, e16, hf⟩ := pm_bd hf
    refine pm_callV (as := [.long v11.1]) (st := []) C X dX16_operator_61 lnX16_1136 myX16_push viX16_push ⟨by decide, by decide⟩ rfl rfl k13 (Nat.le_of_ble_eq_true rfl) (Nat.le_refl _) (Nat.le_refl _) (ctX16_push e16 ?_)
    show pm_G g 64 [(6, .long v11.1), (4, .long v8.1), (2, .long s0), (0, .ref x0), (1, .int x1)] [] v15 0 0
    cases hf
    exact pm_vret C X dX16_operator_64 rfl (Nat.le_refl _) (Nat.le_refl _) q
  · have hf := pm_ie hf c14
    refine pm_aload_n C dX16_operator_44 rfl rfl ?_
    refine pm_iconst (v := 1) C dX16_operator_45 (by decide) ?_
    refine pm_aload_n C dX16_operator_46 rfl rfl ?_
    refine pm_getI C dX16_operator_47 flX16_800 rfl k13 rfl ?_
    refine pm_iadd C dX16_operator_50 ?_
    refine pm_iconst (v := 1) C dX16_operator_51 (by decide) ?_
    obtain ⟨v17, e18, hf⟩ := pm_bd hf
    refine pm_callV (as := [.int (1 + (pm_I v11.2 x0 33)), .int 1]) (st := []) C X dX16_operator_52 lnX16_1163 myX16_endsBy viX16_endsBy ⟨by decide, by decide⟩ rfl rfl k13 (Nat.le_of_ble_eq_true rfl) (Nat.le_refl _) (Nat.le_refl _) (ctX16_endsBy e18 ?_)
    show pm_G g 55 [(6, .long v11.1), (4, .long v8.1), (2, .long s0), (0, .ref x0), (1, .int x1)] [] v17 0 0
    refine pm_goto (tgt := 64) C dX16_operator_55 (by decide) ?_
    cases hf
    exact pm_vret C X dX16_operator_64 rfl (Nat.le_refl _) (Nat.le_refl _) q
set_option maxHeartbeats 4000000 in
set_option maxRecDepth 100000 in
theorem ctX16_operator {l : Launch} {G : pm_Gl} {h : pm_H} {a0 : Nat} {p1 : Int32} {r : pm_H} {Qr : Option Value → pm_H → Prop} (hf : fX16_operator h a0 p1 = some r) (q : Qr none r) : pm_Ct l G mX16_operator [.ref a0, .int p1] h 0 0 Qr := by
  refine pm_body pnX16 (Nat.le_of_ble_eq_true rfl) (fun g C X => ?_)
  have C : pm_C g cX16_operator RX16 := C
  show pm_G g 0 [(0, .ref a0), (1, .int p1)] [] h 0 0
  unfold fX16_operator at hf
  refine pm_iload_n C dX16_operator_0 rfl rfl ?_
  obtain ⟨v1, e2, hf⟩ := pm_lt hf
  refine pm_callS (as := [.int p1]) (st := []) C X dX16_operator_1 lnX16_756 myX16_hasTwo stX16_hasTwo ⟨by decide, by decide⟩ rfl rfl (Nat.le_of_ble_eq_true rfl) (Nat.le_refl _) (Nat.le_refl _) (ctX16_hasTwo e2 ?_)
  show pm_G g 4 [(0, .ref a0), (1, .int p1)] [.int v1] h 0 0
  refine pm_if_eq (tgt := 14) C dX16_operator_4 (by decide) (fun c3 => ?_) (fun c3 => ?_)
  · have hf := pm_it hf c3
    refine pm_lconst (v := 0) C dX16_operator_14 (by decide) ?_
    exact pm_sub [0, 1] rfl (bX16_operator_15 C X hf q)
  · have hf := pm_ie hf c3
    refine pm_aload_n C dX16_operator_7 rfl rfl ?_
    obtain ⟨k4, hf⟩ := pm_if hf
    obtain ⟨v5, e6, hf⟩ := pm_bd hf
    refine pm_callV (as := []) (st := []) C X dX16_operator_8 lnX16_1157 myX16_pop viX16_pop ⟨by decide, by decide⟩ rfl rfl k4 (Nat.le_of_ble_eq_true rfl) (Nat.le_refl _) (Nat.le_refl _) (ctX16_pop e6 ?_)
    show pm_G g 11 [(0, .ref a0), (1, .int p1)] [.long v5.1] v5.2 0 0
    refine pm_goto (tgt := 15) C dX16_operator_11 (by decide) ?_
    exact pm_sub [0, 1] rfl (bX16_operator_15 C X hf q)
theorem dX16_furtherStep_0 : decode cX16_furtherStep 0 = .ok (.aload_n 0, 1) := by decide +kernel
theorem dX16_furtherStep_1 : decode cX16_furtherStep 1 = .ok (.invokevirtual 603, 3) := by decide +kernel
theorem dX16_furtherStep_4 : decode cX16_furtherStep 4 = .ok (.l2i, 1) := by decide +kernel
theorem dX16_furtherStep_5 : decode cX16_furtherStep 5 = .ok (.istore_n 1, 1) := by decide +kernel
theorem dX16_furtherStep_6 : decode cX16_furtherStep 6 = .ok (.iload_n 1, 1) := by decide +kernel
theorem dX16_furtherStep_7 : decode cX16_furtherStep 7 = .ok (.bipush 8, 2) := by decide +kernel
theorem dX16_furtherStep_9 : decode cX16_furtherStep 9 = .ok (.if_icmp .ge 13, 3) := by decide +kernel
theorem dX16_furtherStep_12 : decode cX16_furtherStep 12 = .ok (.aload_n 0, 1) := by decide +kernel
theorem dX16_furtherStep_13 : decode cX16_furtherStep 13 = .ok (.sipush 200, 3) := by decide +kernel
theorem dX16_furtherStep_16 : decode cX16_furtherStep 16 = .ok (.iload_n 1, 1) := by decide +kernel
theorem dX16_furtherStep_17 : decode cX16_furtherStep 17 = .ok (.iadd, 1) := by decide +kernel
theorem dX16_furtherStep_18 : decode cX16_furtherStep 18 = .ok (.invokevirtual 1139, 3) := by decide +kernel
theorem dX16_furtherStep_21 : decode cX16_furtherStep 21 = .ok (.return_, 1) := by decide +kernel
theorem dX16_furtherStep_22 : decode cX16_furtherStep 22 = .ok (.iload_n 1, 1) := by decide +kernel
theorem dX16_furtherStep_23 : decode cX16_furtherStep 23 = .ok (.bipush 10, 2) := by decide +kernel
theorem dX16_furtherStep_25 : decode cX16_furtherStep 25 = .ok (.if_icmp .eq 9, 3) := by decide +kernel
theorem dX16_furtherStep_28 : decode cX16_furtherStep 28 = .ok (.iload_n 1, 1) := by decide +kernel
theorem dX16_furtherStep_29 : decode cX16_furtherStep 29 = .ok (.bipush 11, 2) := by decide +kernel
theorem dX16_furtherStep_31 : decode cX16_furtherStep 31 = .ok (.if_icmp .ne 7, 3) := by decide +kernel
theorem dX16_furtherStep_34 : decode cX16_furtherStep 34 = .ok (.iconst 0, 1) := by decide +kernel
theorem dX16_furtherStep_35 : decode cX16_furtherStep 35 = .ok (.goto 8, 3) := by decide +kernel
theorem dX16_furtherStep_38 : decode cX16_furtherStep 38 = .ok (.aload_n 0, 1) := by decide +kernel
theorem dX16_furtherStep_39 : decode cX16_furtherStep 39 = .ok (.invokevirtual 603, 3) := by decide +kernel
theorem dX16_furtherStep_42 : decode cX16_furtherStep 42 = .ok (.l2i, 1) := by decide +kernel
theorem dX16_furtherStep_43 : decode cX16_furtherStep 43 = .ok (.istore_n 2, 1) := by decide +kernel
theorem dX16_furtherStep_44 : decode cX16_furtherStep 44 = .ok (.iload_n 1, 1) := by decide +kernel
theorem dX16_furtherStep_45 : decode cX16_furtherStep 45 = .ok (.bipush 12, 2) := by decide +kernel
theorem dX16_furtherStep_47 : decode cX16_furtherStep 47 = .ok (.if_icmp .eq 9, 3) := by decide +kernel
theorem dX16_furtherStep_50 : decode cX16_furtherStep 50 = .ok (.iload_n 1, 1) := by decide +kernel
theorem dX16_furtherStep_51 : decode cX16_furtherStep 51 = .ok (.bipush 14, 2) := by decide +kernel
theorem dX16_furtherStep_53 : decode cX16_furtherStep 53 = .ok (.if_icmp .ne 11, 3) := by decide +kernel
theorem dX16_furtherStep_56 : decode cX16_furtherStep 56 = .ok (.aload_n 0, 1) := by decide +kernel
theorem dX16_furtherStep_57 : decode cX16_furtherStep 57 = .ok (.invokevirtual 603, 3) := by decide +kernel
theorem dX16_furtherStep_60 : decode cX16_furtherStep 60 = .ok (.l2i, 1) := by decide +kernel
theorem dX16_furtherStep_61 : decode cX16_furtherStep 61 = .ok (.goto 4, 3) := by decide +kernel
theorem dX16_furtherStep_64 : decode cX16_furtherStep 64 = .ok (.iconst 0, 1) := by decide +kernel
theorem dX16_furtherStep_65 : decode cX16_furtherStep 65 = .ok (.istore_n 3, 1) := by decide +kernel
theorem dX16_furtherStep_66 : decode cX16_furtherStep 66 = .ok (.iload_n 1, 1) := by decide +kernel
theorem dX16_furtherStep_67 : decode cX16_furtherStep 67 = .ok (.bipush 9, 2) := by decide +kernel
theorem dX16_furtherStep_69 : decode cX16_furtherStep 69 = .ok (.if_icmp .ne 21, 3) := by decide +kernel
theorem dX16_furtherStep_72 : decode cX16_furtherStep 72 = .ok (.aload_n 0, 1) := by decide +kernel
theorem dX16_furtherStep_73 : decode cX16_furtherStep 73 = .ok (.getfield 152, 3) := by decide +kernel
theorem dX16_furtherStep_76 : decode cX16_furtherStep 76 = .ok (.bipush 64, 2) := by decide +kernel
theorem dX16_furtherStep_78 : decode cX16_furtherStep 78 = .ok (.aload_n 0, 1) := by decide +kernel
theorem dX16_furtherStep_79 : decode cX16_furtherStep 79 = .ok (.getfield 1110, 3) := by decide +kernel
theorem dX16_furtherStep_82 : decode cX16_furtherStep 82 = .ok (.imul, 1) := by decide +kernel
theorem dX16_furtherStep_83 : decode cX16_furtherStep 83 = .ok (.iload_n 2, 1) := by decide +kernel
theorem dX16_furtherStep_84 : decode cX16_furtherStep 84 = .ok (.iadd, 1) := by decide +kernel
theorem dX16_furtherStep_85 : decode cX16_furtherStep 85 = .ok (.iconst 0, 1) := by decide +kernel
theorem dX16_furtherStep_86 : decode cX16_furtherStep 86 = .ok (.bastore, 1) := by decide +kernel
theorem dX16_furtherStep_87 : decode cX16_furtherStep 87 = .ok (.goto 43, 3) := by decide +kernel
theorem dX16_furtherStep_90 : decode cX16_furtherStep 90 = .ok (.iload_n 1, 1) := by decide +kernel
theorem dX16_furtherStep_91 : decode cX16_furtherStep 91 = .ok (.bipush 13, 2) := by decide +kernel
theorem dX16_furtherStep_93 : decode cX16_furtherStep 93 = .ok (.if_icmp .ne 15, 3) := by decide +kernel
theorem dX16_furtherStep_96 : decode cX16_furtherStep 96 = .ok (.aload_n 0, 1) := by decide +kernel
theorem dX16_furtherStep_97 : decode cX16_furtherStep 97 = .ok (.aload_n 0, 1) := by decide +kernel
theorem dX16_furtherStep_98 : decode cX16_furtherStep 98 = .ok (.getfield 1110, 3) := by decide +kernel
theorem dX16_furtherStep_101 : decode cX16_furtherStep 101 = .ok (.iload_n 2, 1) := by decide +kernel
theorem dX16_furtherStep_102 : decode cX16_furtherStep 102 = .ok (.invokevirtual 1037, 3) := by decide +kernel
theorem dX16_furtherStep_105 : decode cX16_furtherStep 105 = .ok (.goto 25, 3) := by decide +kernel
theorem dX16_furtherStep_108 : decode cX16_furtherStep 108 = .ok (.iload_n 1, 1) := by decide +kernel
theorem dX16_furtherStep_109 : decode cX16_furtherStep 109 = .ok (.bipush 12, 2) := by decide +kernel
theorem dX16_furtherStep_111 : decode cX16_furtherStep 111 = .ok (.if_icmp .ge 12, 3) := by decide +kernel
theorem dX16_furtherStep_114 : decode cX16_furtherStep 114 = .ok (.aload_n 0, 1) := by decide +kernel
theorem dX16_furtherStep_115 : decode cX16_furtherStep 115 = .ok (.iload_n 1, 1) := by decide +kernel
theorem dX16_furtherStep_116 : decode cX16_furtherStep 116 = .ok (.iload_n 2, 1) := by decide +kernel
theorem dX16_furtherStep_117 : decode cX16_furtherStep 117 = .ok (.invokevirtual 1185, 3) := by decide +kernel
theorem dX16_furtherStep_120 : decode cX16_furtherStep 120 = .ok (.goto 10, 3) := by decide +kernel
theorem dX16_furtherStep_123 : decode cX16_furtherStep 123 = .ok (.aload_n 0, 1) := by decide +kernel
theorem dX16_furtherStep_124 : decode cX16_furtherStep 124 = .ok (.iload_n 1, 1) := by decide +kernel
theorem dX16_furtherStep_125 : decode cX16_furtherStep 125 = .ok (.iload_n 2, 1) := by decide +kernel
theorem dX16_furtherStep_126 : decode cX16_furtherStep 126 = .ok (.iload_n 3, 1) := by decide +kernel
theorem dX16_furtherStep_127 : decode cX16_furtherStep 127 = .ok (.invokevirtual 1188, 3) := by decide +kernel
theorem dX16_furtherStep_130 : decode cX16_furtherStep 130 = .ok (.return_, 1) := by decide +kernel
noncomputable def fX16_furtherStep_b65 (h : pm_H) (x0 : Nat) (x1 : Int32) (x2 : Int32) (s0 : Int32) : Option pm_H := if x1 = 9 then (if pm_kd h x0 = 16 then (pm_R h x0 70).bind fun v31 => if pm_kd h v31 = 32 then if pm_in ((64 * (pm_I h x0 95)) + x2) (pm_ln h v31) then some (pm_setI h v31 (((64 * (pm_I h x0 95)) + x2).toNatClampNeg) (vp_nar .boolean 0)) else none else none else none) else (if x1 = 13 then (if pm_kd h x0 = 16 then (fX16_dropped h x0 (pm_I h x0 95) x2).bind fun v28 => some v28 else none) else (if 12 ≤ x1 then (if pm_kd h x0 = 16 then (fX16_tablesStep h x0 x1 x2 s0).bind fun v22 => some v22 else none) else (if pm_kd h x0 = 16 then (fX16_stretches h x0 x1 x2).bind fun v25 => some v25 else none)))
noncomputable def fX16_furtherStep_b56 (h : pm_H) (x0 : Nat) (x1 : Int32) (x2 : Int32) : Option pm_H := if pm_kd h x0 = 16 then (fX16_word h x0).bind fun v16 => fX16_furtherStep_b65 v16.2 x0 x1 x2 v16.1.toInt32 else none
noncomputable def fX16_furtherStep_b43 (h : pm_H) (x0 : Nat) (x1 : Int32) (s0 : Int32) : Option pm_H := if x1 = 12 then (fX16_furtherStep_b56 h x0 x1 s0) else (if x1 = 14 then (fX16_furtherStep_b56 h x0 x1 s0) else (fX16_furtherStep_b65 h x0 x1 s0 0))
noncomputable def fX16_furtherStep_b34 (h : pm_H) (x0 : Nat) (x1 : Int32) : Option pm_H := fX16_furtherStep_b43 h x0 x1 0
noncomputable def fX16_furtherStep (h : pm_H) (a0 : Nat) : Option pm_H := if pm_kd h a0 = 16 then (fX16_word h a0).bind fun v2 => if 8 ≤ v2.1.toInt32 then (if v2.1.toInt32 = 10 then (fX16_furtherStep_b34 v2.2 a0 v2.1.toInt32) else (if v2.1.toInt32 = 11 then (fX16_furtherStep_b34 v2.2 a0 v2.1.toInt32) else (if pm_kd v2.2 a0 = 16 then (fX16_word v2.2 a0).bind fun v8 => fX16_furtherStep_b43 v8.2 a0 v2.1.toInt32 v8.1.toInt32 else none))) else (if pm_kd v2.2 a0 = 16 then (fX16_operator v2.2 a0 (200 + v2.1.toInt32)).bind fun v11 => some v11 else none) else none
set_option maxHeartbeats 4000000 in
set_option maxRecDepth 100000 in
theorem bX16_furtherStep_65 {g : pm_Gm} {l : Launch} {G : pm_Gl} {Qr : Option Value → pm_H → Prop} (C : pm_C g cX16_furtherStep RX16) (X : pm_X g l G mX16_furtherStep 0 0 Qr) {h : pm_H} {x0 : Nat} {x1 : Int32} {x2 : Int32} {s0 : Int32} {r : pm_H} (hf : fX16_furtherStep_b65 h x0 x1 x2 s0 = some r) (q : Qr none r) : pm_G g 65 [(0, .ref x0), (1, .int x1), (2, .int x2)] [.int s0] h 0 0 := by
  unfold fX16_furtherStep_b65 at hf
  refine pm_istore_n (lv' := [(3, .int s0), (0, .ref x0), (1, .int x1), (2, .int x2)]) C dX16_furtherStep_65 rfl (pm_nl X (by decide)) rfl ?_
  refine pm_iload_n C dX16_furtherStep_66 rfl rfl ?_
  refine pm_bipush (v := 9) C dX16_furtherStep_67 (by decide) ?_
  refine pm_icmp_ne (tgt := 90) C dX16_furtherStep_69 (by decide) (fun c18 => ?_) (fun c18 => ?_)
  · have hf := pm_ie hf c18
    refine pm_iload_n C dX16_furtherStep_90 rfl rfl ?_
    refine pm_bipush (v := 13) C dX16_furtherStep_91 (by decide) ?_
    refine pm_icmp_ne (tgt := 108) C dX16_furtherStep_93 (by decide) (fun c19 => ?_) (fun c19 => ?_)
    · have hf := pm_ie hf c19
      refine pm_iload_n C dX16_furtherStep_108 rfl rfl ?_
      refine pm_bipush (v := 12) C dX16_furtherStep_109 (by decide) ?_
      refine pm_icmp_ge (tgt := 123) C dX16_furtherStep_111 (by decide) (fun c20 => ?_) (fun c20 => ?_)
      · have hf := pm_it hf c20
        refine pm_aload_n C dX16_furtherStep_123 rfl rfl ?_
        refine pm_iload_n C dX16_furtherStep_124 rfl rfl ?_
        refine pm_iload_n C dX16_furtherStep_125 rfl rfl ?_
        refine pm_iload_n C dX16_furtherStep_126 rfl rfl ?_
        obtain ⟨k21, hf⟩ := pm_if hf
        obtain ⟨v22, e23, hf⟩ := pm_bd hf
        refine pm_callV (as := [.int x1, .int x2, .int s0]) (st := []) C X dX16_furtherStep_127 lnX16_1188 myX16_tablesStep viX16_tablesStep ⟨by decide, by decide⟩ rfl rfl k21 (Nat.le_of_ble_eq_true rfl) (Nat.le_refl _) (Nat.le_refl _) (ctX16_tablesStep e23 ?_)
        show pm_G g 130 [(3, .int s0), (0, .ref x0), (1, .int x1), (2, .int x2)] [] v22 0 0
        cases hf
        exact pm_vret C X dX16_furtherStep_130 rfl (Nat.le_refl _) (Nat.le_refl _) q
      · have hf := pm_ie hf c20
        refine pm_aload_n C dX16_furtherStep_114 rfl rfl ?_
        refine pm_iload_n C dX16_furtherStep_115 rfl rfl ?_
        refine pm_iload_n C dX16_furtherStep_116 rfl rfl ?_
        obtain ⟨k24, hf⟩ := pm_if hf
        obtain ⟨v25, e26, hf⟩ := pm_bd hf
        refine pm_callV (as := [.int x1, .int x2]) (st := []) C X dX16_furtherStep_117 lnX16_1185 myX16_stretches viX16_stretches ⟨by decide, by decide⟩ rfl rfl k24 (Nat.le_of_ble_eq_true rfl) (Nat.le_refl _) (Nat.le_refl _) (ctX16_stretches e26 ?_)
        show pm_G g 120 [(3, .int s0), (0, .ref x0), (1, .int x1), (2, .int x2)] [] v25 0 0
        refine pm_goto (tgt := 130) C dX16_furtherStep_120 (by decide) ?_
        cases hf
        exact pm_vret C X dX16_furtherStep_130 rfl (Nat.le_refl _) (Nat.le_refl _) q
    · have hf := pm_it hf c19
      refine pm_aload_n C dX16_furtherStep_96 rfl rfl ?_
      refine pm_aload_n C dX16_furtherStep_97 rfl rfl ?_
      obtain ⟨k27, hf⟩ := pm_if hf
      refine pm_getI C dX16_furtherStep_98 flX16_1110 rfl k27 rfl ?_
      refine pm_iload_n C dX16_furtherStep_101 rfl rfl ?_
      obtain ⟨v28, e29, hf⟩ := pm_bd hf
      refine pm_callV (as := [.int (pm_I h x0 95), .int x2]) (st := []) C X dX16_furtherStep_102 lnX16_1037 myX16_dropped viX16_dropped ⟨by decide, by decide⟩ rfl rfl k27 (Nat.le_of_ble_eq_true rfl) (Nat.le_refl _) (Nat.le_refl _) (ctX16_dropped e29 ?_)
      show pm_G g 105 [(3, .int s0), (0, .ref x0), (1, .int x1), (2, .int x2)] [] v28 0 0
      refine pm_goto (tgt := 130) C dX16_furtherStep_105 (by decide) ?_
      cases hf
      exact pm_vret C X dX16_furtherStep_130 rfl (Nat.le_refl _) (Nat.le_refl _) q
  · have hf := pm_it hf c18
    refine pm_aload_n C dX16_furtherStep_72 rfl rfl ?_
    obtain ⟨k30, hf⟩ := pm_if hf
    obtain ⟨v31, e32, hf⟩ := pm_bd hf
    refine pm_getR C dX16_furtherStep_73 flX16_152 rfl k30 e32 ?_
    refine pm_bipush (v := 64) C dX16_furtherStep_76 (by decide) ?_
    refine pm_aload_n C dX16_furtherStep_78 rfl rfl ?_
    refine pm_getI C dX16_furtherStep_79 flX16_1110 rfl k30 rfl ?_
    refine pm_imul C dX16_furtherStep_82 ?_
    refine pm_iload_n C dX16_furtherStep_83 rfl rfl ?_
    refine pm_iadd C dX16_furtherStep_84 ?_
    refine pm_iconst (v := 0) C dX16_furtherStep_85 (by decide) ?_
    obtain ⟨k33, hf⟩ := pm_if hf
    obtain ⟨u34, hf⟩ := pm_if hf
    refine pm_zast C dX16_furtherStep_86 k33 u34 ?_
    refine pm_goto (tgt := 130) C dX16_furtherStep_87 (by decide) ?_
    cases hf
    exact pm_vret C X dX16_furtherStep_130 rfl (Nat.le_refl _) (Nat.le_refl _) q
set_option maxHeartbeats 4000000 in
set_option maxRecDepth 100000 in
theorem bX16_furtherStep_56 {g : pm_Gm} {l : Launch} {G : pm_Gl} {Qr : Option Value → pm_H → Prop} (C : pm_C g cX16_furtherStep RX16) (X : pm_X g l G mX16_furtherStep 0 0 Qr) {h : pm_H} {x0 : Nat} {x1 : Int32} {x2 : Int32} {r : pm_H} (hf : fX16_furtherStep_b56 h x0 x1 x2 = some r) (q : Qr none r) : pm_G g 56 [(0, .ref x0), (1, .int x1), (2, .int x2)] [] h 0 0 := by
  unfold fX16_furtherStep_b56 at hf
  refine pm_aload_n C dX16_furtherStep_56 rfl rfl ?_
  obtain ⟨k15, hf⟩ := pm_if hf
  obtain ⟨v16, e17, hf⟩ := pm_bd hf
  refine pm_callV (as := []) (st := []) C X dX16_furtherStep_57 lnX16_603 myX16_word viX16_word ⟨by decide, by decide⟩ rfl rfl k15 (Nat.le_of_ble_eq_true rfl) (Nat.le_refl _) (Nat.le_refl _) (ctX16_word e17 ?_)
  show pm_G g 60 [(0, .ref x0), (1, .int x1), (2, .int x2)] [.long v16.1] v16.2 0 0
  refine pm_l2i C dX16_furtherStep_60 ?_
  refine pm_goto (tgt := 65) C dX16_furtherStep_61 (by decide) ?_
  exact pm_sub [0, 1, 2] rfl (bX16_furtherStep_65 C X hf q)
set_option maxHeartbeats 4000000 in
set_option maxRecDepth 100000 in
theorem bX16_furtherStep_43 {g : pm_Gm} {l : Launch} {G : pm_Gl} {Qr : Option Value → pm_H → Prop} (C : pm_C g cX16_furtherStep RX16) (X : pm_X g l G mX16_furtherStep 0 0 Qr) {h : pm_H} {x0 : Nat} {x1 : Int32} {s0 : Int32} {r : pm_H} (hf : fX16_furtherStep_b43 h x0 x1 s0 = some r) (q : Qr none r) : pm_G g 43 [(0, .ref x0), (1, .int x1)] [.int s0] h 0 0 := by
  unfold fX16_furtherStep_b43 at hf
  refine pm_istore_n (lv' := [(2, .int s0), (0, .ref x0), (1, .int x1)]) C dX16_furtherStep_43 rfl (pm_nl X (by decide)) rfl ?_
  refine pm_iload_n C dX16_furtherStep_44 rfl rfl ?_
  refine pm_bipush (v := 12) C dX16_furtherStep_45 (by decide) ?_
  refine pm_icmp_eq (tgt := 56) C dX16_furtherStep_47 (by decide) (fun c13 => ?_) (fun c13 => ?_)
  · have hf := pm_it hf c13
    exact pm_sub [1, 2, 0] rfl (bX16_furtherStep_56 C X hf q)
  · have hf := pm_ie hf c13
    refine pm_iload_n C dX16_furtherStep_50 rfl rfl ?_
    refine pm_bipush (v := 14) C dX16_furtherStep_51 (by decide) ?_
    refine pm_icmp_ne (tgt := 64) C dX16_furtherStep_53 (by decide) (fun c14 => ?_) (fun c14 => ?_)
    · have hf := pm_ie hf c14
      refine pm_iconst (v := 0) C dX16_furtherStep_64 (by decide) ?_
      exact pm_sub [1, 2, 0] rfl (bX16_furtherStep_65 C X hf q)
    · have hf := pm_it hf c14
      exact pm_sub [1, 2, 0] rfl (bX16_furtherStep_56 C X hf q)
set_option maxHeartbeats 4000000 in
set_option maxRecDepth 100000 in
theorem bX16_furtherStep_34 {g : pm_Gm} {l : Launch} {G : pm_Gl} {Qr : Option Value → pm_H → Prop} (C : pm_C g cX16_furtherStep RX16) (X : pm_X g l G mX16_furtherStep 0 0 Qr) {h : pm_H} {x0 : Nat} {x1 : Int32} {r : pm_H} (hf : fX16_furtherStep_b34 h x0 x1 = some r) (q : Qr none r) : pm_G g 34 [(0, .ref x0), (1, .int x1)] [] h 0 0 := by
  unfold fX16_furtherStep_b34 at hf
  refine pm_iconst (v := 0) C dX16_furtherStep_34 (by decide) ?_
  refine pm_goto (tgt := 43) C dX16_furtherStep_35 (by decide) ?_
  exact pm_sub [0, 1] rfl (bX16_furtherStep_43 C X hf q)
set_option maxHeartbeats 4000000 in
set_option maxRecDepth 100000 in
theorem ctX16_furtherStep {l : Launch} {G : pm_Gl} {h : pm_H} {a0 : Nat} {r : pm_H} {Qr : Option Value → pm_H → Prop} (hf : fX16_furtherStep h a0 = some r) (q : Qr none r) : pm_Ct l G mX16_furtherStep [.ref a0] h 0 0 Qr := by
  refine pm_body pnX16 (Nat.le_of_ble_eq_true rfl) (fun g C X => ?_)
  have C : pm_C g cX16_furtherStep RX16 := C
  show pm_G g 0 [(0, .ref a0)] [] h 0 0
  unfold fX16_furtherStep at hf
  refine pm_aload_n C dX16_furtherStep_0 rfl rfl ?_
  obtain ⟨k1, hf⟩ := pm_if hf
  obtain ⟨v2, e3, hf⟩ := pm_bd hf
  refine pm_callV (as := []) (st := []) C X dX16_furtherStep_1 lnX16_603 myX16_word viX16_word ⟨by decide, by decide⟩ rfl rfl k1 (Nat.le_of_ble_eq_true rfl) (Nat.le_refl _) (Nat.le_refl _) (ctX16_word e3 ?_)
  show pm_G g 4 [(0, .ref a0)] [.long v2.1] v2.2 0 0
  refine pm_l2i C dX16_furtherStep_4 ?_
  refine pm_istore_n (lv' := [(1, .int v2.1.toInt32), (0, .ref a0)]) C dX16_furtherStep_5 rfl (pm_nl X (by decide)) rfl ?_
  refine pm_iload_n C dX16_furtherStep_6 rfl rfl ?_
  refine pm_bipush (v := 8) C dX16_furtherStep_7 (by decide) ?_
  refine pm_icmp_ge (tgt := 22) C dX16_furtherStep_9 (by decide) (fun c4 => ?_) (fun c4 => ?_)
  · have hf := pm_it hf c4
    refine pm_iload_n C dX16_furtherStep_22 rfl rfl ?_
    refine pm_bipush (v := 10) C dX16_furtherStep_23 (by decide) ?_
    refine pm_icmp_eq (tgt := 34) C dX16_furtherStep_25 (by decide) (fun c5 => ?_) (fun c5 => ?_)
    · have hf := pm_it hf c5
      exact pm_sub [1, 0] rfl (bX16_furtherStep_34 C X hf q)
    · have hf := pm_ie hf c5
      refine pm_iload_n C dX16_furtherStep_28 rfl rfl ?_
      refine pm_bipush (v := 11) C dX16_furtherStep_29 (by decide) ?_
      refine pm_icmp_ne (tgt := 38) C dX16_furtherStep_31 (by decide) (fun c6 => ?_) (fun c6 => ?_)
      · have hf := pm_ie hf c6
        refine pm_aload_n C dX16_furtherStep_38 rfl rfl ?_
        obtain ⟨k7, hf⟩ := pm_if hf
        obtain ⟨v8, e9, hf⟩ := pm_bd hf
        refine pm_callV (as := []) (st := []) C X dX16_furtherStep_39 lnX16_603 myX16_word viX16_word ⟨by decide, by decide⟩ rfl rfl k7 (Nat.le_of_ble_eq_true rfl) (Nat.le_refl _) (Nat.le_refl _) (ctX16_word e9 ?_)
        show pm_G g 42 [(1, .int v2.1.toInt32), (0, .ref a0)] [.long v8.1] v8.2 0 0
        refine pm_l2i C dX16_furtherStep_42 ?_
        exact pm_sub [1, 0] rfl (bX16_furtherStep_43 C X hf q)
      · have hf := pm_it hf c6
        exact pm_sub [1, 0] rfl (bX16_furtherStep_34 C X hf q)
  · have hf := pm_ie hf c4
    refine pm_aload_n C dX16_furtherStep_12 rfl rfl ?_
    refine pm_sipush (v := 200) C dX16_furtherStep_13 (by decide) ?_
    refine pm_iload_n C dX16_furtherStep_16 rfl rfl ?_
    refine pm_iadd C dX16_furtherStep_17 ?_
    obtain ⟨k10, hf⟩ := pm_if hf
    obtain ⟨v11, e12, hf⟩ := pm_bd hf
    refine pm_callV (as := [.int (200 + v2.1.toInt32)]) (st := []) C X dX16_furtherStep_18 lnX16_1139 myX16_operator viX16_operator ⟨by decide, by decide⟩ rfl rfl k10 (Nat.le_of_ble_eq_true rfl) (Nat.le_refl _) (Nat.le_refl _) (ctX16_operator e12 ?_)
    show pm_G g 21 [(1, .int v2.1.toInt32), (0, .ref a0)] [] v11 0 0
    cases hf
    exact pm_vret C X dX16_furtherStep_21 rfl (Nat.le_refl _) (Nat.le_refl _) q
theorem dX16_step_0 : decode cX16_step 0 = .ok (.aload_n 0, 1) := by decide +kernel
theorem dX16_step_1 : decode cX16_step 1 = .ok (.getfield 1107, 3) := by decide +kernel
theorem dX16_step_4 : decode cX16_step 4 = .ok (.istore_n 1, 1) := by decide +kernel
theorem dX16_step_5 : decode cX16_step 5 = .ok (.aload_n 0, 1) := by decide +kernel
theorem dX16_step_6 : decode cX16_step 6 = .ok (.getfield 221, 3) := by decide +kernel
theorem dX16_step_9 : decode cX16_step 9 = .ok (.iload_n 1, 1) := by decide +kernel
theorem dX16_step_10 : decode cX16_step 10 = .ok (.invokevirtual 261, 3) := by decide +kernel
theorem dX16_step_13 : decode cX16_step 13 = .ok (.istore_n 2, 1) := by decide +kernel
theorem dX16_step_14 : decode cX16_step 14 = .ok (.aload_n 0, 1) := by decide +kernel
theorem dX16_step_15 : decode cX16_step 15 = .ok (.dup, 1) := by decide +kernel
theorem dX16_step_16 : decode cX16_step 16 = .ok (.getfield 1049, 3) := by decide +kernel
theorem dX16_step_19 : decode cX16_step 19 = .ok (.iconst 1, 1) := by decide +kernel
theorem dX16_step_20 : decode cX16_step 20 = .ok (.iadd, 1) := by decide +kernel
theorem dX16_step_21 : decode cX16_step 21 = .ok (.putfield 1049, 3) := by decide +kernel
theorem dX16_step_24 : decode cX16_step 24 = .ok (.aload_n 0, 1) := by decide +kernel
theorem dX16_step_25 : decode cX16_step 25 = .ok (.aload_n 0, 1) := by decide +kernel
theorem dX16_step_26 : decode cX16_step 26 = .ok (.iload_n 1, 1) := by decide +kernel
theorem dX16_step_27 : decode cX16_step 27 = .ok (.invokevirtual 655, 3) := by decide +kernel
theorem dX16_step_30 : decode cX16_step 30 = .ok (.putfield 1107, 3) := by decide +kernel
theorem dX16_step_33 : decode cX16_step 33 = .ok (.aload_n 0, 1) := by decide +kernel
theorem dX16_step_34 : decode cX16_step 34 = .ok (.iload_n 1, 1) := by decide +kernel
theorem dX16_step_35 : decode cX16_step 35 = .ok (.iconst 1, 1) := by decide +kernel
theorem dX16_step_36 : decode cX16_step 36 = .ok (.iadd, 1) := by decide +kernel
theorem dX16_step_37 : decode cX16_step 37 = .ok (.putfield 594, 3) := by decide +kernel
theorem dX16_step_40 : decode cX16_step 40 = .ok (.iload_n 2, 1) := by decide +kernel
theorem dX16_step_41 : decode cX16_step 41 = .ok (.bipush 69, 2) := by decide +kernel
theorem dX16_step_43 : decode cX16_step 43 = .ok (.if_icmp .lt 18, 3) := by decide +kernel
theorem dX16_step_46 : decode cX16_step 46 = .ok (.iload_n 2, 1) := by decide +kernel
theorem dX16_step_47 : decode cX16_step 47 = .ok (.sipush 196, 3) := by decide +kernel
theorem dX16_step_50 : decode cX16_step 50 = .ok (.if_icmp .gt 11, 3) := by decide +kernel
theorem dX16_step_53 : decode cX16_step 53 = .ok (.aload_n 0, 1) := by decide +kernel
theorem dX16_step_54 : decode cX16_step 54 = .ok (.iload_n 2, 1) := by decide +kernel
theorem dX16_step_55 : decode cX16_step 55 = .ok (.invokevirtual 1139, 3) := by decide +kernel
theorem dX16_step_58 : decode cX16_step 58 = .ok (.goto 65, 3) := by decide +kernel
theorem dX16_step_61 : decode cX16_step 61 = .ok (.iload_n 2, 1) := by decide +kernel
theorem dX16_step_62 : decode cX16_step 62 = .ok (.bipush 32, 2) := by decide +kernel
theorem dX16_step_64 : decode cX16_step 64 = .ok (.if_icmp .ge 12, 3) := by decide +kernel
theorem dX16_step_67 : decode cX16_step 67 = .ok (.aload_n 0, 1) := by decide +kernel
theorem dX16_step_68 : decode cX16_step 68 = .ok (.iload_n 2, 1) := by decide +kernel
theorem dX16_step_69 : decode cX16_step 69 = .ok (.iload_n 1, 1) := by decide +kernel
theorem dX16_step_70 : decode cX16_step 70 = .ok (.invokevirtual 1142, 3) := by decide +kernel
theorem dX16_step_73 : decode cX16_step 73 = .ok (.goto 50, 3) := by decide +kernel
theorem dX16_step_76 : decode cX16_step 76 = .ok (.iload_n 2, 1) := by decide +kernel
theorem dX16_step_77 : decode cX16_step 77 = .ok (.bipush 40, 2) := by decide +kernel
theorem dX16_step_79 : decode cX16_step 79 = .ok (.if_icmp .ge 11, 3) := by decide +kernel
theorem dX16_step_82 : decode cX16_step 82 = .ok (.aload_n 0, 1) := by decide +kernel
theorem dX16_step_83 : decode cX16_step 83 = .ok (.iload_n 2, 1) := by decide +kernel
theorem dX16_step_84 : decode cX16_step 84 = .ok (.invokevirtual 1145, 3) := by decide +kernel
theorem dX16_step_87 : decode cX16_step 87 = .ok (.goto 36, 3) := by decide +kernel
theorem dX16_step_90 : decode cX16_step 90 = .ok (.iload_n 2, 1) := by decide +kernel
theorem dX16_step_91 : decode cX16_step 91 = .ok (.bipush 63, 2) := by decide +kernel
theorem dX16_step_93 : decode cX16_step 93 = .ok (.if_icmp .ge 11, 3) := by decide +kernel
theorem dX16_step_96 : decode cX16_step 96 = .ok (.aload_n 0, 1) := by decide +kernel
theorem dX16_step_97 : decode cX16_step 97 = .ok (.iload_n 2, 1) := by decide +kernel
theorem dX16_step_98 : decode cX16_step 98 = .ok (.invokevirtual 1148, 3) := by decide +kernel
theorem dX16_step_101 : decode cX16_step 101 = .ok (.goto 22, 3) := by decide +kernel
theorem dX16_step_104 : decode cX16_step 104 = .ok (.iload_n 2, 1) := by decide +kernel
theorem dX16_step_105 : decode cX16_step 105 = .ok (.sipush 252, 3) := by decide +kernel
theorem dX16_step_108 : decode cX16_step 108 = .ok (.if_icmp .ne 10, 3) := by decide +kernel
theorem dX16_step_111 : decode cX16_step 111 = .ok (.aload_n 0, 1) := by decide +kernel
theorem dX16_step_112 : decode cX16_step 112 = .ok (.invokevirtual 1151, 3) := by decide +kernel
theorem dX16_step_115 : decode cX16_step 115 = .ok (.goto 8, 3) := by decide +kernel
theorem dX16_step_118 : decode cX16_step 118 = .ok (.aload_n 0, 1) := by decide +kernel
theorem dX16_step_119 : decode cX16_step 119 = .ok (.iload_n 2, 1) := by decide +kernel
theorem dX16_step_120 : decode cX16_step 120 = .ok (.invokevirtual 1154, 3) := by decide +kernel
theorem dX16_step_123 : decode cX16_step 123 = .ok (.aload_n 0, 1) := by decide +kernel
theorem dX16_step_124 : decode cX16_step 124 = .ok (.invokevirtual 1092, 3) := by decide +kernel
theorem dX16_step_127 : decode cX16_step 127 = .ok (.return_, 1) := by decide +kernel
noncomputable def fX16_step_b61 (h : pm_H) (x0 : Nat) (x1 : Int32) (x2 : Int32) : Option pm_H := if 32 ≤ x2 then (if 40 ≤ x2 then (if 63 ≤ x2 then (if x2 = 252 then (if pm_kd h x0 = 16 then (fX16_furtherStep h x0).bind fun v34 => if pm_kd v34 x0 = 16 then (fX16_goesOn v34 x0).bind fun v37 => some v37 else none else none) else (if pm_kd h x0 = 16 then (fX16_others h x0 x2).bind fun v28 => if pm_kd v28 x0 = 16 then (fX16_goesOn v28 x0).bind fun v31 => some v31 else none else none)) else (if pm_kd h x0 = 16 then (fX16_accesses1 h x0 x2).bind fun v40 => if pm_kd v40 x0 = 16 then (fX16_goesOn v40 x0).bind fun v43 => some v43 else none else none)) else (if pm_kd h x0 = 16 then (fX16_moves h x0 x2).bind fun v46 => if pm_kd v46 x0 = 16 then (fX16_goesOn v46 x0).bind fun v49 => some v49 else none else none)) else (if pm_kd h x0 = 16 then (fX16_turns h x0 x2 x1).bind fun v52 => if pm_kd v52 x0 = 16 then (fX16_goesOn v52 x0).bind fun v55 => some v55 else none else none)
noncomputable def fX16_step (h : pm_H) (a0 : Nat) : Option pm_H := if pm_kd h a0 = 16 then pm_let (pm_I h a0 94) fun y2 => (pm_R h a0 10).bind fun v4 => if pm_kd h v4 = 14 then (fX14_at h v4 y2).bind fun v7 => pm_let ((pm_I h a0 78) + 1) fun y9 => (fX16_behind (pm_setI h a0 78 y9) a0 y2).bind fun v11 => if pm_kd v11.2 a0 = 16 then pm_let (y2 + 1) fun y14 => if v7 < 69 then (fX16_step_b61 (pm_setI (pm_setI v11.2 a0 94 v11.1) a0 19 y14) a0 y2 v7) else (if 196 < v7 then (fX16_step_b61 (pm_setI (pm_setI v11.2 a0 94 v11.1) a0 19 y14) a0 y2 v7) else ((fX16_operator (pm_setI (pm_setI v11.2 a0 94 v11.1) a0 19 y14) a0 v7).bind fun v18 => if pm_kd v18 a0 = 16 then (fX16_goesOn v18 a0).bind fun v21 => some v21 else none)) else none else none else none
set_option maxHeartbeats 4000000 in
set_option maxRecDepth 100000 in
theorem bX16_step_61 {g : pm_Gm} {l : Launch} {G : pm_Gl} {Qr : Option Value → pm_H → Prop} (C : pm_C g cX16_step RX16) (X : pm_X g l G mX16_step 0 0 Qr) {h : pm_H} {x0 : Nat} {x1 : Int32} {x2 : Int32} {r : pm_H} (hf : fX16_step_b61 h x0 x1 x2 = some r) (q : Qr none r) : pm_G g 61 [(0, .ref x0), (1, .int x1), (2, .int x2)] [] h 0 0 := by
  unfold fX16_step_b61 at hf
  refine pm_iload_n C dX16_step_61 rfl rfl ?_
  refine pm_bipush (v := 32) C dX16_step_62 (by decide) ?_
  refine pm_icmp_ge (tgt := 76) C dX16_step_64 (by decide) (fun c23 => ?_) (fun c23 => ?_)
  · have hf := pm_it hf c23
    refine pm_iload_n C dX16_step_76 rfl rfl ?_
    refine pm_bipush (v := 40) C dX16_step_77 (by decide) ?_
    refine pm_icmp_ge (tgt := 90) C dX16_step_79 (by decide) (fun c24 => ?_) (fun c24 => ?_)
    · have hf := pm_it hf c24
      refine pm_iload_n C dX16_step_90 rfl rfl ?_
      refine pm_bipush (v := 63) C dX16_step_91 (by decide) ?_
      refine pm_icmp_ge (tgt := 104) C dX16_step_93 (by decide) (fun c25 => ?_) (fun c25 => ?_)
      · have hf := pm_it hf c25
        refine pm_iload_n C dX16_step_104 rfl rfl ?_
        refine pm_sipush (v := 252) C dX16_step_105 (by decide) ?_
        refine pm_icmp_ne (tgt := 118) C dX16_step_108 (by decide) (fun c26 => ?_) (fun c26 => ?_)
        · have hf := pm_ie hf c26
          refine pm_aload_n C dX16_step_118 rfl rfl ?_
          refine pm_iload_n C dX16_step_119 rfl rfl ?_
          obtain ⟨k27, hf⟩ := pm_if hf
          obtain ⟨v28, e29, hf⟩ := pm_bd hf
          refine pm_callV (as := [.int x2]) (st := []) C X dX16_step_120 lnX16_1154 myX16_others viX16_others ⟨by decide, by decide⟩ rfl rfl k27 (Nat.le_of_ble_eq_true rfl) (Nat.le_refl _) (Nat.le_refl _) (ctX16_others e29 ?_)
          show pm_G g 123 [(0, .ref x0), (1, .int x1), (2, .int x2)] [] v28 0 0
          refine pm_aload_n C dX16_step_123 rfl rfl ?_
          obtain ⟨k30, hf⟩ := pm_if hf
          obtain ⟨v31, e32, hf⟩ := pm_bd hf
          refine pm_callV (as := []) (st := []) C X dX16_step_124 lnX16_1092 myX16_goesOn viX16_goesOn ⟨by decide, by decide⟩ rfl rfl k30 (Nat.le_of_ble_eq_true rfl) (Nat.le_refl _) (Nat.le_refl _) (ctX16_goesOn e32 ?_)
          show pm_G g 127 [(0, .ref x0), (1, .int x1), (2, .int x2)] [] v31 0 0
          cases hf
          exact pm_vret C X dX16_step_127 rfl (Nat.le_refl _) (Nat.le_refl _) q
        · have hf := pm_it hf c26
          refine pm_aload_n C dX16_step_111 rfl rfl ?_
          obtain ⟨k33, hf⟩ := pm_if hf
          obtain ⟨v34, e35, hf⟩ := pm_bd hf
          refine pm_callV (as := []) (st := []) C X dX16_step_112 lnX16_1151 myX16_furtherStep viX16_furtherStep ⟨by decide, by decide⟩ rfl rfl k33 (Nat.le_of_ble_eq_true rfl) (Nat.le_refl _) (Nat.le_refl _) (ctX16_furtherStep e35 ?_)
          show pm_G g 115 [(0, .ref x0), (1, .int x1), (2, .int x2)] [] v34 0 0
          refine pm_goto (tgt := 123) C dX16_step_115 (by decide) ?_
          refine pm_aload_n C dX16_step_123 rfl rfl ?_
          obtain ⟨k36, hf⟩ := pm_if hf
          obtain ⟨v37, e38, hf⟩ := pm_bd hf
          refine pm_callV (as := []) (st := []) C X dX16_step_124 lnX16_1092 myX16_goesOn viX16_goesOn ⟨by decide, by decide⟩ rfl rfl k36 (Nat.le_of_ble_eq_true rfl) (Nat.le_refl _) (Nat.le_refl _) (ctX16_goesOn e38 ?_)
          show pm_G g 127 [(0, .ref x0), (1, .int x1), (2, .int x2)] [] v37 0 0
          cases hf
          exact pm_vret C X dX16_step_127 rfl (Nat.le_refl _) (Nat.le_refl _) q
      · have hf := pm_ie hf c25
        refine pm_aload_n C dX16_step_96 rfl rfl ?_
        refine pm_iload_n C dX16_step_97 rfl rfl ?_
        obtain ⟨k39, hf⟩ := pm_if hf
        obtain ⟨v40, e41, hf⟩ := pm_bd hf
        refine pm_callV (as := [.int x2]) (st := []) C X dX16_step_98 lnX16_1148 myX16_accesses1 viX16_accesses1 ⟨by decide, by decide⟩ rfl rfl k39 (Nat.le_of_ble_eq_true rfl) (Nat.le_refl _) (Nat.le_refl _) (ctX16_accesses1 e41 ?_)
        show pm_G g 101 [(0, .ref x0), (1, .int x1), (2, .int x2)] [] v40 0 0
        refine pm_goto (tgt := 123) C dX16_step_101 (by decide) ?_
        refine pm_aload_n C dX16_step_123 rfl rfl ?_
        obtain ⟨k42, hf⟩ := pm_if hf
        obtain ⟨v43, e44, hf⟩ := pm_bd hf
        refine pm_callV (as := []) (st := []) C X dX16_step_124 lnX16_1092 myX16_goesOn viX16_goesOn ⟨by decide, by decide⟩ rfl rfl k42 (Nat.le_of_ble_eq_true rfl) (Nat.le_refl _) (Nat.le_refl _) (ctX16_goesOn e44 ?_)
        show pm_G g 127 [(0, .ref x0), (1, .int x1), (2, .int x2)] [] v43 0 0
        cases hf
        exact pm_vret C X dX16_step_127 rfl (Nat.le_refl _) (Nat.le_refl _) q
    · have hf := pm_ie hf c24
      refine pm_aload_n C dX16_step_82 rfl rfl ?_
      refine pm_iload_n C dX16_step_83 rfl rfl ?_
      obtain ⟨k45, hf⟩ := pm_if hf
      obtain ⟨v46, e47, hf⟩ := pm_bd hf
      refine pm_callV (as := [.int x2]) (st := []) C X dX16_step_84 lnX16_1145 myX16_moves viX16_moves ⟨by decide, by decide⟩ rfl rfl k45 (Nat.le_of_ble_eq_true rfl) (Nat.le_refl _) (Nat.le_refl _) (ctX16_moves e47 ?_)
      show pm_G g 87 [(0, .ref x0), (1, .int x1), (2, .int x2)] [] v46 0 0
      refine pm_goto (tgt := 123) C dX16_step_87 (by decide) ?_
      refine pm_aload_n C dX16_step_123 rfl rfl ?_
      obtain ⟨k48, hf⟩ := pm_if hf
      obtain ⟨v49, e50, hf⟩ := pm_bd hf
      refine pm_callV (as := []) (st := []) C X dX16_step_124 lnX16_1092 myX16_goesOn viX16_goesOn ⟨by decide, by decide⟩ rfl rfl k48 (Nat.le_of_ble_eq_true rfl) (Nat.le_refl _) (Nat.le_refl _) (ctX16_goesOn e50 ?_)
      show pm_G g 127 [(0, .ref x0), (1, .int x1), (2, .int x2)] [] v49 0 0
      cases hf
      exact pm_vret C X dX16_step_127 rfl (Nat.le_refl _) (Nat.le_refl _) q
  · have hf := pm_ie hf c23
    refine pm_aload_n C dX16_step_67 rfl rfl ?_
    refine pm_iload_n C dX16_step_68 rfl rfl ?_
    refine pm_iload_n C dX16_step_69 rfl rfl ?_
    obtain ⟨k51, hf⟩ := pm_if hf
    obtain ⟨v52, e53, hf⟩ := pm_bd hf
    refine pm_callV (as := [.int x2, .int x1]) (st := []) C X dX16_step_70 lnX16_1142 myX16_turns viX16_turns ⟨by decide, by decide⟩ rfl rfl k51 (Nat.le_of_ble_eq_true rfl) (Nat.le_refl _) (Nat.le_refl _) (ctX16_turns e53 ?_)
    show pm_G g 73 [(0, .ref x0), (1, .int x1), (2, .int x2)] [] v52 0 0
    refine pm_goto (tgt := 123) C dX16_step_73 (by decide) ?_
    refine pm_aload_n C dX16_step_123 rfl rfl ?_
    obtain ⟨k54, hf⟩ := pm_if hf
    obtain ⟨v55, e56, hf⟩ := pm_bd hf
    refine pm_callV (as := []) (st := []) C X dX16_step_124 lnX16_1092 myX16_goesOn viX16_goesOn ⟨by decide, by decide⟩ rfl rfl k54 (Nat.le_of_ble_eq_true rfl) (Nat.le_refl _) (Nat.le_refl _) (ctX16_goesOn e56 ?_)
    show pm_G g 127 [(0, .ref x0), (1, .int x1), (2, .int x2)] [] v55 0 0
    cases hf
    exact pm_vret C X dX16_step_127 rfl (Nat.le_refl _) (Nat.le_refl _) q
set_option maxHeartbeats 4000000 in
set_option maxRecDepth 100000 in
theorem ctX16_step {l : Launch} {G : pm_Gl} {h : pm_H} {a0 : Nat} {r : pm_H} {Qr : Option Value → pm_H → Prop} (hf : fX16_step h a0 = some r) (q : Qr none r) : pm_Ct l G mX16_step [.ref a0] h 0 0 Qr := by
  refine pm_body pnX16 (Nat.le_of_ble_eq_true rfl) (fun g C X => ?_)
  have C : pm_C g cX16_step RX16 := C
  show pm_G g 0 [(0, .ref a0)] [] h 0 0
  unfold fX16_step at hf
  refine pm_aload_n C dX16_step_0 rfl rfl ?_
  obtain ⟨k1, hf⟩ := pm_if hf
  refine pm_getI C dX16_step_1 flX16_1107 rfl k1 rfl ?_
  obtain ⟨y2, e3, hf⟩ := pm_lt hf
  refine pm_topI e3 ?_
  refine pm_istore_n (lv' := [(1, .int y2), (0, .ref a0)]) C dX16_step_4 rfl (pm_nl X (by decide)) rfl ?_
  refine pm_aload_n C dX16_step_5 rfl rfl ?_
  obtain ⟨v4, e5, hf⟩ := pm_bd hf
  refine pm_getR C dX16_step_6 flX16_221 rfl k1 e5 ?_
  refine pm_iload_n C dX16_step_9 rfl rfl ?_
  obtain ⟨k6, hf⟩ := pm_if hf
  obtain ⟨v7, e8, hf⟩ := pm_bd hf
  refine pm_callV (as := [.int y2]) (st := []) C X dX16_step_10 lnX16_261 myX14_at viX14_at ⟨by decide, by decide⟩ rfl rfl k6 (Nat.le_of_ble_eq_true rfl) (Nat.le_refl _) (Nat.le_refl _) (ctX14_at e8 ?_)
  show pm_G g 13 [(1, .int y2), (0, .ref a0)] [.int v7] h 0 0
  refine pm_istore_n (lv' := [(2, .int v7), (1, .int y2), (0, .ref a0)]) C dX16_step_13 rfl (pm_nl X (by decide)) rfl ?_
  refine pm_aload_n C dX16_step_14 rfl rfl ?_
  refine pm_dup C dX16_step_15 rfl ?_
  refine pm_getI C dX16_step_16 flX16_1049 rfl k1 rfl ?_
  refine pm_iconst (v := 1) C dX16_step_19 (by decide) ?_
  refine pm_iadd C dX16_step_20 ?_
  obtain ⟨y9, e10, hf⟩ := pm_lt hf
  refine pm_topI e10 ?_
  refine pm_putI C dX16_step_21 flX16_1049 rfl rfl k1 rfl rfl ?_
  refine pm_aload_n C dX16_step_24 rfl rfl ?_
  refine pm_aload_n C dX16_step_25 rfl rfl ?_
  refine pm_iload_n C dX16_step_26 rfl rfl ?_
  obtain ⟨v11, e12, hf⟩ := pm_bd hf
  refine pm_callV (as := [.int y2]) (st := [.ref a0]) C X dX16_step_27 lnX16_655 myX16_behind viX16_behind ⟨by decide, by decide⟩ rfl rfl k1 (Nat.le_of_ble_eq_true rfl) (Nat.le_refl _) (Nat.le_refl _) (ctX16_behind e12 ?_)
  show pm_G g 30 [(2, .int v7), (1, .int y2), (0, .ref a0)] [.int v11.1, .ref a0] v11.2 0 0
  obtain ⟨k13, hf⟩ := pm_if hf
  refine pm_putI C dX16_step_30 flX16_1107 rfl rfl k13 rfl rfl ?_
  refine pm_aload_n C dX16_step_33 rfl rfl ?_
  refine pm_iload_n C dX16_step_34 rfl rfl ?_
  refine pm_iconst (v := 1) C dX16_step_35 (by decide) ?_
  refine pm_iadd C dX16_step_36 ?_
  obtain ⟨y14, e15, hf⟩ := pm_lt hf
  refine pm_topI e15 ?_
  refine pm_putI C dX16_step_37 flX16_594 rfl rfl k13 rfl rfl ?_
  refine pm_iload_n C dX16_step_40 rfl rfl ?_
  refine pm_bipush (v := 69) C dX16_step_41 (by decide) ?_
  refine pm_icmp_lt (tgt := 61) C dX16_step_43 (by decide) (fun c16 => ?_) (fun c16 => ?_)
  · have hf := pm_it hf c16
    exact pm_sub [2, 1, 0] rfl (bX16_step_61 C X hf q)
  · have hf := pm_ie hf c16
    refine pm_iload_n C dX16_step_46 rfl rfl ?_
    refine pm_sipush (v := 196) C dX16_step_47 (by decide) ?_
    refine pm_icmp_gt (tgt := 61) C dX16_step_50 (by decide) (fun c17 => ?_) (fun c17 => ?_)
    · have hf := pm_it hf c17
      exact pm_sub [2, 1, 0] rfl (bX16_step_61 C X hf q)
    · have hf := pm_ie hf c17
      refine pm_aload_n C dX16_step_53 rfl rfl ?_
      refine pm_iload_n C dX16_step_54 rfl rfl ?_
      obtain ⟨v18, e19, hf⟩ := pm_bd hf
      refine pm_callV (as := [.int v7]) (st := []) C X dX16_step_55 lnX16_1139 myX16_operator viX16_operator ⟨by decide, by decide⟩ rfl rfl k13 (Nat.le_of_ble_eq_true rfl) (Nat.le_refl _) (Nat.le_refl _) (ctX16_operator e19 ?_)
      show pm_G g 58 [(2, .int v7), (1, .int y2), (0, .ref a0)] [] v18 0 0
      refine pm_goto (tgt := 123) C dX16_step_58 (by decide) ?_
      refine pm_aload_n C dX16_step_123 rfl rfl ?_
      obtain ⟨k20, hf⟩ := pm_if hf
      obtain ⟨v21, e22, hf⟩ := pm_bd hf
      refine pm_callV (as := []) (st := []) C X dX16_step_124 lnX16_1092 myX16_goesOn viX16_goesOn ⟨by decide, by decide⟩ rfl rfl k20 (Nat.le_of_ble_eq_true rfl) (Nat.le_refl _) (Nat.le_refl _) (ctX16_goesOn e22 ?_)
      show pm_G g 127 [(2, .int v7), (1, .int y2), (0, .ref a0)] [] v21 0 0
      cases hf
      exact pm_vret C X dX16_step_127 rfl (Nat.le_refl _) (Nat.le_refl _) q
theorem dX16_run_0 : decode cX16_run 0 = .ok (.iload_n 1, 1) := by decide +kernel
theorem dX16_run_1 : decode cX16_run 1 = .ok (.ifCond .lt 10, 3) := by decide +kernel
theorem dX16_run_4 : decode cX16_run 4 = .ok (.iload_n 1, 1) := by decide +kernel
theorem dX16_run_5 : decode cX16_run 5 = .ok (.ldc_w 1132, 3) := by decide +kernel
theorem dX16_run_8 : decode cX16_run 8 = .ok (.if_icmp .le 5, 3) := by decide +kernel
theorem dX16_run_11 : decode cX16_run 11 = .ok (.iconst (-1), 1) := by decide +kernel
theorem dX16_run_12 : decode cX16_run 12 = .ok (.ireturn, 1) := by decide +kernel
theorem dX16_run_13 : decode cX16_run 13 = .ok (.iconst 0, 1) := by decide +kernel
theorem dX16_run_14 : decode cX16_run 14 = .ok (.istore_n 2, 1) := by decide +kernel
theorem dX16_run_15 : decode cX16_run 15 = .ok (.aload_n 0, 1) := by decide +kernel
theorem dX16_run_16 : decode cX16_run 16 = .ok (.getfield 970, 3) := by decide +kernel
theorem dX16_run_19 : decode cX16_run 19 = .ok (.iconst 1, 1) := by decide +kernel
theorem dX16_run_20 : decode cX16_run 20 = .ok (.if_icmp .ne 18, 3) := by decide +kernel
theorem dX16_run_23 : decode cX16_run 23 = .ok (.iload_n 2, 1) := by decide +kernel
theorem dX16_run_24 : decode cX16_run 24 = .ok (.iload_n 1, 1) := by decide +kernel
theorem dX16_run_25 : decode cX16_run 25 = .ok (.if_icmp .ge 13, 3) := by decide +kernel
theorem dX16_run_28 : decode cX16_run 28 = .ok (.aload_n 0, 1) := by decide +kernel
theorem dX16_run_29 : decode cX16_run 29 = .ok (.invokevirtual 1133, 3) := by decide +kernel
theorem dX16_run_32 : decode cX16_run 32 = .ok (.iinc 2 1, 3) := by decide +kernel
theorem dX16_run_35 : decode cX16_run 35 = .ok (.goto (-20), 3) := by decide +kernel
theorem dX16_run_38 : decode cX16_run 38 = .ok (.iload_n 2, 1) := by decide +kernel
theorem dX16_run_39 : decode cX16_run 39 = .ok (.ireturn, 1) := by decide +kernel
noncomputable def tX16_run_15 (x0 : Nat) (x1 : Int32) (x2 : Int32) (h : pm_H) : Option (((Nat × Int32 × Int32 × pm_H)) ⊕ (Int32 × pm_H)) := if pm_kd h x0 = 16 then if (pm_I h x0 76) = 1 then (if x1 ≤ x2 then (some (.inr ((x2, h)))) else ((fX16_step h x0).bind fun v6 => pm_let (x2 + 1) fun y8 => some (.inl ((x0, x1, y8, v6))))) else (some (.inr ((x2, h)))) else none
noncomputable def sX16_run : ((Nat × Int32 × Int32 × pm_H)) → Option (((Nat × Int32 × Int32 × pm_H)) ⊕ (Int32 × pm_H)) := fun z => match z with
  | (x0, x1, x2, h) => tX16_run_15 x0 x1 x2 h
noncomputable def fX16_run (h : pm_H) (a0 : Nat) (p1 : Int32) : Option (Int32 × pm_H) := if p1 < 0 then (some (((-1), h))) else (if p1 ≤ 100000 then (pm_lim sX16_run ((a0, p1, 0, h))) else (some (((-1), h))))
set_option maxHeartbeats 4000000 in
set_option maxRecDepth 100000 in
theorem lpX16_run {g : pm_Gm} {l : Launch} {G : pm_Gl} {Qr : Option Value → pm_H → Prop} (C : pm_C g cX16_run RX16) (X : pm_X g l G mX16_run 0 0 Qr) {r : (Int32 × pm_H)} (q : Qr (some (.int r.1)) r.2) : ∀ n : Nat, (∀ (x0 : Nat) (x1 : Int32) (x2 : Int32) (h : pm_H), pm_iter sX16_run n (x0, x1, x2, h) = some r → pm_G g 15 [(0, .ref x0), (1, .int x1), (2, .int x2)] [] h 0 0) := by
  intro n
  induction n with
  | zero => exact fun _ _ _ _ hf => (by cases hf)
  | succ n ih =>
    refine fun x0 x1 x2 h hf => ?_
    obtain ⟨y, hf, hi⟩ := pm_iter_s hf
    have hf : tX16_run_15 x0 x1 x2 h = some y := hf
    unfold tX16_run_15 at hf
    refine pm_aload_n C dX16_run_15 rfl rfl ?_
    obtain ⟨k3, hf⟩ := pm_if hf
    refine pm_getI C dX16_run_16 flX16_970 rfl k3 rfl ?_
    refine pm_iconst (v := 1) C dX16_run_19 (by decide) ?_
    refine pm_icmp_ne (tgt := 38) C dX16_run_20 (by decide) (fun c4 => ?_) (fun c4 => ?_)
    · have hf := pm_ie hf c4
      refine pm_iload_n C dX16_run_38 rfl rfl ?_
      cases hf
      cases hi
      exact pm_iret C X dX16_run_39 rfl (Nat.le_refl _) (Nat.le_refl _) q
    · have hf := pm_it hf c4
      refine pm_iload_n C dX16_run_23 rfl rfl ?_
      refine pm_iload_n C dX16_run_24 rfl rfl ?_
      refine pm_icmp_ge (tgt := 38) C dX16_run_25 (by decide) (fun c5 => ?_) (fun c5 => ?_)
      · have hf := pm_it hf c5
        refine pm_iload_n C dX16_run_38 rfl rfl ?_
        cases hf
        cases hi
        exact pm_iret C X dX16_run_39 rfl (Nat.le_refl _) (Nat.le_refl _) q
      · have hf := pm_ie hf c5
        refine pm_aload_n C dX16_run_28 rfl rfl ?_
        obtain ⟨v6, e7, hf⟩ := pm_bd hf
        refine pm_callV (as := []) (st := []) C X dX16_run_29 lnX16_1133 myX16_step viX16_step ⟨by decide, by decide⟩ rfl rfl k3 (Nat.le_of_ble_eq_true rfl) (Nat.le_refl _) (Nat.le_refl _) (ctX16_step e7 ?_)
        show pm_G g 32 [(0, .ref x0), (1, .int x1), (2, .int x2)] [] v6 0 0
        obtain ⟨y8, e9, hf⟩ := pm_lt hf
        refine pm_iinc (v := y8) (lv' := [(2, .int y8), (0, .ref x0), (1, .int x1)]) C dX16_run_32 rfl ((congrArg (x2 + ·) (by decide : Int32.ofInt 1 = 1)).trans e9) (pm_nl X (by decide)) rfl ?_
        refine pm_goto (tgt := 15) C dX16_run_35 (by decide) ?_
        cases hf
        exact pm_sub [1, 2, 0] rfl (ih x0 x1 y8 v6 hi)
set_option maxHeartbeats 4000000 in
set_option maxRecDepth 100000 in
theorem ctX16_run {l : Launch} {G : pm_Gl} {h : pm_H} {a0 : Nat} {p1 : Int32} {r : (Int32 × pm_H)} {Qr : Option Value → pm_H → Prop} (hf : fX16_run h a0 p1 = some r) (q : Qr (some (.int r.1)) r.2) : pm_Ct l G mX16_run [.ref a0, .int p1] h 0 0 Qr := by
  refine pm_body pnX16 (Nat.le_of_ble_eq_true rfl) (fun g C X => ?_)
  have C : pm_C g cX16_run RX16 := C
  show pm_G g 0 [(0, .ref a0), (1, .int p1)] [] h 0 0
  unfold fX16_run at hf
  refine pm_iload_n C dX16_run_0 rfl rfl ?_
  refine pm_if_lt (tgt := 11) C dX16_run_1 (by decide) (fun c1 => ?_) (fun c1 => ?_)
  · have hf := pm_it hf c1
    refine pm_iconst (v := (-1)) C dX16_run_11 (by decide) ?_
    cases hf
    exact pm_iret C X dX16_run_12 rfl (Nat.le_refl _) (Nat.le_refl _) q
  · have hf := pm_ie hf c1
    refine pm_iload_n C dX16_run_4 rfl rfl ?_
    refine pm_ldcw C dX16_run_5 cnX16_1132 ?_
    refine pm_icmp_le (tgt := 13) C dX16_run_8 (by decide) (fun c2 => ?_) (fun c2 => ?_)
    · have hf := pm_it hf c2
      refine pm_iconst (v := 0) C dX16_run_13 (by decide) ?_
      refine pm_istore_n (lv' := [(2, .int 0), (0, .ref a0), (1, .int p1)]) C dX16_run_14 rfl (pm_nl X (by decide)) rfl ?_
      obtain ⟨n, hn⟩ := pm_lim_iter hf
      exact pm_sub [1, 2, 0] rfl ((lpX16_run C X q n) a0 p1 0 h hn)
    · have hf := pm_ie hf c2
      refine pm_iconst (v := (-1)) C dX16_run_11 (by decide) ?_
      cases hf
      exact pm_iret C X dX16_run_12 rfl (Nat.le_refl _) (Nat.le_refl _) q
