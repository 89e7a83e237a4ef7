theorem dX1_plain_0 : decode cX1_plain 0 = .ok (.iload_n 1, 1) := by decide +kernel
theorem dX1_plain_1 : decode cX1_plain 1 = .ok (.ifCond .eq 9, 3) := by decide +kernel
theorem dX1_plain_4 : decode cX1_plain 4 = .ok (.aload_n 0, 1) := by decide +kernel
theorem dX1_plain_5 : decode cX1_plain 5 = .ok (.iload_n 1, 1) := by decide +kernel
theorem dX1_plain_6 : decode cX1_plain 6 = .ok (.invokevirtual 289, 3) := by decide +kernel
theorem dX1_plain_9 : decode cX1_plain 9 = .ok (.pop, 1) := by decide +kernel
theorem dX1_plain_10 : decode cX1_plain 10 = .ok (.iload_n 2, 1) := by decide +kernel
theorem dX1_plain_11 : decode cX1_plain 11 = .ok (.ifCond .eq 9, 3) := by decide +kernel
theorem dX1_plain_14 : decode cX1_plain 14 = .ok (.aload_n 0, 1) := by decide +kernel
theorem dX1_plain_15 : decode cX1_plain 15 = .ok (.iload_n 2, 1) := by decide +kernel
theorem dX1_plain_16 : decode cX1_plain 16 = .ok (.invokevirtual 289, 3) := by decide +kernel
theorem dX1_plain_19 : decode cX1_plain 19 = .ok (.pop, 1) := by decide +kernel
theorem dX1_plain_20 : decode cX1_plain 20 = .ok (.iload_n 3, 1) := by decide +kernel
theorem dX1_plain_21 : decode cX1_plain 21 = .ok (.ifCond .eq 9, 3) := by decide +kernel
theorem dX1_plain_24 : decode cX1_plain 24 = .ok (.aload_n 0, 1) := by decide +kernel
theorem dX1_plain_25 : decode cX1_plain 25 = .ok (.iload_n 3, 1) := by decide +kernel
theorem dX1_plain_26 : decode cX1_plain 26 = .ok (.invokevirtual 289, 3) := by decide +kernel
theorem dX1_plain_29 : decode cX1_plain 29 = .ok (.pop, 1) := by decide +kernel
theorem dX1_plain_30 : decode cX1_plain 30 = .ok (.iload 4, 2) := by decide +kernel
theorem dX1_plain_32 : decode cX1_plain 32 = .ok (.ifCond .eq 9, 3) := by decide +kernel
theorem dX1_plain_35 : decode cX1_plain 35 = .ok (.aload_n 0, 1) := by decide +kernel
theorem dX1_plain_36 : decode cX1_plain 36 = .ok (.iload 4, 2) := by decide +kernel
theorem dX1_plain_38 : decode cX1_plain 38 = .ok (.invokevirtual 292, 3) := by decide +kernel
theorem dX1_plain_41 : decode cX1_plain 41 = .ok (.iload_n 1, 1) := by decide +kernel
theorem dX1_plain_42 : decode cX1_plain 42 = .ok (.ifCond .eq 7, 3) := by decide +kernel
theorem dX1_plain_45 : decode cX1_plain 45 = .ok (.iconst 1, 1) := by decide +kernel
theorem dX1_plain_46 : decode cX1_plain 46 = .ok (.goto 4, 3) := by decide +kernel
theorem dX1_plain_49 : decode cX1_plain 49 = .ok (.iconst 0, 1) := by decide +kernel
theorem dX1_plain_50 : decode cX1_plain 50 = .ok (.iload_n 2, 1) := by decide +kernel
theorem dX1_plain_51 : decode cX1_plain 51 = .ok (.ifCond .eq 7, 3) := by decide +kernel
theorem dX1_plain_54 : decode cX1_plain 54 = .ok (.iconst 1, 1) := by decide +kernel
theorem dX1_plain_55 : decode cX1_plain 55 = .ok (.goto 4, 3) := by decide +kernel
theorem dX1_plain_58 : decode cX1_plain 58 = .ok (.iconst 0, 1) := by decide +kernel
theorem dX1_plain_59 : decode cX1_plain 59 = .ok (.iadd, 1) := by decide +kernel
theorem dX1_plain_60 : decode cX1_plain 60 = .ok (.iload_n 3, 1) := by decide +kernel
theorem dX1_plain_61 : decode cX1_plain 61 = .ok (.ifCond .eq 7, 3) := by decide +kernel
theorem dX1_plain_64 : decode cX1_plain 64 = .ok (.iconst 1, 1) := by decide +kernel
theorem dX1_plain_65 : decode cX1_plain 65 = .ok (.goto 4, 3) := by decide +kernel
theorem dX1_plain_68 : decode cX1_plain 68 = .ok (.iconst 0, 1) := by decide +kernel
theorem dX1_plain_69 : decode cX1_plain 69 = .ok (.iadd, 1) := by decide +kernel
theorem dX1_plain_70 : decode cX1_plain 70 = .ok (.istore 5, 2) := by decide +kernel
theorem dX1_plain_72 : decode cX1_plain 72 = .ok (.aload_n 0, 1) := by decide +kernel
theorem dX1_plain_73 : decode cX1_plain 73 = .ok (.aload_n 0, 1) := by decide +kernel
theorem dX1_plain_74 : decode cX1_plain 74 = .ok (.getfield 36, 3) := by decide +kernel
theorem dX1_plain_77 : decode cX1_plain 77 = .ok (.getfield 191, 3) := by decide +kernel
theorem dX1_plain_80 : decode cX1_plain 80 = .ok (.aload_n 0, 1) := by decide +kernel
theorem dX1_plain_81 : decode cX1_plain 81 = .ok (.getfield 36, 3) := by decide +kernel
theorem dX1_plain_84 : decode cX1_plain 84 = .ok (.getfield 201, 3) := by decide +kernel
theorem dX1_plain_87 : decode cX1_plain 87 = .ok (.l2i, 1) := by decide +kernel
theorem dX1_plain_88 : decode cX1_plain 88 = .ok (.aload_n 0, 1) := by decide +kernel
theorem dX1_plain_89 : decode cX1_plain 89 = .ok (.getfield 36, 3) := by decide +kernel
theorem dX1_plain_92 : decode cX1_plain 92 = .ok (.getfield 325, 3) := by decide +kernel
theorem dX1_plain_95 : decode cX1_plain 95 = .ok (.l2i, 1) := by decide +kernel
theorem dX1_plain_96 : decode cX1_plain 96 = .ok (.iconst 2, 1) := by decide +kernel
theorem dX1_plain_97 : decode cX1_plain 97 = .ok (.iload 5, 2) := by decide +kernel
theorem dX1_plain_99 : decode cX1_plain 99 = .ok (.imul, 1) := by decide +kernel
theorem dX1_plain_100 : decode cX1_plain 100 = .ok (.iload 4, 2) := by decide +kernel
theorem dX1_plain_102 : decode cX1_plain 102 = .ok (.ifCond .eq 7, 3) := by decide +kernel
theorem dX1_plain_105 : decode cX1_plain 105 = .ok (.iconst 1, 1) := by decide +kernel
theorem dX1_plain_106 : decode cX1_plain 106 = .ok (.goto 4, 3) := by decide +kernel
theorem dX1_plain_109 : decode cX1_plain 109 = .ok (.iconst 0, 1) := by decide +kernel
theorem dX1_plain_110 : decode cX1_plain 110 = .ok (.iadd, 1) := by decide +kernel
theorem dX1_plain_111 : decode cX1_plain 111 = .ok (.invokevirtual 322, 3) := by decide +kernel
theorem dX1_plain_114 : decode cX1_plain 114 = .ok (.pop, 1) := by decide +kernel
theorem dX1_plain_115 : decode cX1_plain 115 = .ok (.return_, 1) := by decide +kernel
def fX1_plain_b69 (h : pm_H) (x0 : Nat) (x4 : Int32) (s0 : Int32) (s1 : Int32) : Option pm_H := pm_let (s1 + s0) fun y20 => if pm_kd h x0 = 1 then (pm_R h x0 3).bind fun v23 => if pm_kd h v23 = 9 then if x4 = 0 then ((fX1_emit h x0 (pm_I h v23 6) ((pm_L h v23 8).toInt32) ((pm_L h v23 9).toInt32) ((2 * y20) + 0)).bind fun v27 => some v27.2) else ((fX1_emit h x0 (pm_I h v23 6) ((pm_L h v23 8).toInt32) ((pm_L h v23 9).toInt32) ((2 * y20) + 1)).bind fun v29 => some v29.2) else none else none
def fX1_plain_b59 (h : pm_H) (x0 : Nat) (x3 : Int32) (x4 : Int32) (s0 : Int32) (s1 : Int32) : Option pm_H := if x3 = 0 then (fX1_plain_b69 h x0 x4 0 (s1 + s0)) else (fX1_plain_b69 h x0 x4 1 (s1 + s0))
def fX1_plain_b50 (h : pm_H) (x0 : Nat) (x2 : Int32) (x3 : Int32) (x4 : Int32) (s0 : Int32) : Option pm_H := if x2 = 0 then (fX1_plain_b59 h x0 x3 x4 0 s0) else (fX1_plain_b59 h x0 x3 x4 1 s0)
def fX1_plain_b41 (h : pm_H) (x0 : Nat) (x1 : Int32) (x2 : Int32) (x3 : Int32) (x4 : Int32) : Option pm_H := if x1 = 0 then (fX1_plain_b50 h x0 x2 x3 x4 0) else (fX1_plain_b50 h x0 x2 x3 x4 1)
def fX1_plain_b30 (h : pm_H) (x0 : Nat) (x1 : Int32) (x2 : Int32) (x3 : Int32) (x4 : Int32) : Option pm_H := if x4 = 0 then (fX1_plain_b41 h x0 x1 x2 x3 x4) else (if pm_kd h x0 = 1 then (fX1_put h x0 x4).bind fun v15 => fX1_plain_b41 v15 x0 x1 x2 x3 x4 else none)
def fX1_plain_b20 (h : pm_H) (x0 : Nat) (x1 : Int32) (x2 : Int32) (x3 : Int32) (x4 : Int32) : Option pm_H := if x3 = 0 then (fX1_plain_b30 h x0 x1 x2 x3 x4) else (if pm_kd h x0 = 1 then (fX1_take h x0 x3).bind fun v11 => fX1_plain_b30 v11.2 x0 x1 x2 x3 x4 else none)
def fX1_plain_b10 (h : pm_H) (x0 : Nat) (x1 : Int32) (x2 : Int32) (x3 : Int32) (x4 : Int32) : Option pm_H := if x2 = 0 then (fX1_plain_b20 h x0 x1 x2 x3 x4) else (if pm_kd h x0 = 1 then (fX1_take h x0 x2).bind fun v7 => fX1_plain_b20 v7.2 x0 x1 x2 x3 x4 else none)
def fX1_plain (h : pm_H) (a0 : Nat) (p1 : Int32) (p2 : Int32) (p3 : Int32) (p4 : Int32) : Option pm_H := if p1 = 0 then (fX1_plain_b10 h a0 p1 p2 p3 p4) else (if pm_kd h a0 = 1 then (fX1_take h a0 p1).bind fun v3 => fX1_plain_b10 v3.2 a0 p1 p2 p3 p4 else none)
set_option maxHeartbeats 4000000 in
set_option maxRecDepth 100000 in
theorem bX1_plain_69 {g : pm_Gm} {l : Launch} {G : pm_Gl} {Qr : Option Value → pm_H → Prop} (C : pm_C g cX1_plain RX1) (X : pm_X g l G mX1_plain 0 0 Qr) {h : pm_H} {x0 : Nat} {x4 : Int32} {s0 : Int32} {s1 : Int32} {r : pm_H} (hf : fX1_plain_b69 h x0 x4 s0 s1 = some r) (q : Qr none r) : pm_G g 69 [(0, .ref x0), (4, .int x4)] [.int s0, .int s1] h 0 0 := by
  unfold fX1_plain_b69 at hf
  refine pm_iadd C dX1_plain_69 ?_
  obtain ⟨y20, e21, hf⟩ := pm_lt hf
  refine pm_topI e21 ?_
  refine pm_istore (lv' := [(5, .int y20), (0, .ref x0), (4, .int x4)]) C dX1_plain_70 (pm_nl X (by decide)) rfl ?_
  refine pm_aload_n C dX1_plain_72 rfl rfl ?_
  refine pm_aload_n C dX1_plain_73 rfl rfl ?_
  obtain ⟨k22, hf⟩ := pm_if hf
  obtain ⟨v23, e24, hf⟩ := pm_bd hf
  refine pm_getR C dX1_plain_74 flX1_36 rfl k22 e24 ?_
  obtain ⟨k25, hf⟩ := pm_if hf
  refine pm_getI C dX1_plain_77 flX1_191 rfl k25 rfl ?_
  refine pm_aload_n C dX1_plain_80 rfl rfl ?_
  refine pm_getR C dX1_plain_81 flX1_36 rfl k22 e24 ?_
  refine pm_getL C dX1_plain_84 flX1_201 rfl k25 rfl ?_
  refine pm_l2i C dX1_plain_87 ?_
  refine pm_aload_n C dX1_plain_88 rfl rfl ?_
  refine pm_getR C dX1_plain_89 flX1_36 rfl k22 e24 ?_
  refine pm_getL C dX1_plain_92 flX1_325 rfl k25 rfl ?_
  refine pm_l2i C dX1_plain_95 ?_
  refine pm_iconst (v := 2) C dX1_plain_96 (by decide) ?_
  refine pm_iload C dX1_plain_97 rfl ?_
  refine pm_imul C dX1_plain_99 ?_
  refine pm_iload C dX1_plain_100 rfl ?_
  refine pm_if_eq (tgt := 109) C dX1_plain_102 (by decide) (fun c26 => ?_) (fun c26 => ?_)
  · have hf := pm_it hf c26
    refine pm_iconst (v := 0) C dX1_plain_109 (by decide) ?_
    refine pm_iadd C dX1_plain_110 ?_
    obtain ⟨v27, e28, hf⟩ := pm_bd hf
    refine pm_callV (as := [.int (pm_I h v23 6), .int ((pm_L h v23 8).toInt32), .int ((pm_L h v23 9).toInt32), .int ((2 * y20) + 0)]) (st := []) C X dX1_plain_111 lnX1_322 myX1_emit viX1_emit ⟨by decide, by decide⟩ rfl rfl k22 (Nat.le_of_ble_eq_true rfl) (Nat.le_refl _) (Nat.le_refl _) (ctX1_emit e28 ?_)
    show pm_G g 114 [(5, .int y20), (0, .ref x0), (4, .int x4)] [.int v27.1] v27.2 0 0
    refine pm_pop C dX1_plain_114 rfl ?_
    cases hf
    exact pm_vret C X dX1_plain_115 rfl (Nat.le_refl _) (Nat.le_refl _) q
  · have hf := pm_ie hf c26
    refine pm_iconst (v := 1) C dX1_plain_105 (by decide) ?_
    refine pm_goto (tgt := 110) C dX1_plain_106 (by decide) ?_
    refine pm_iadd C dX1_plain_110 ?_
    obtain ⟨v29, e30, hf⟩ := pm_bd hf
    refine pm_callV (as := [.int (pm_I h v23 6), .int ((pm_L h v23 8).toInt32), .int ((pm_L h v23 9).toInt32), .int ((2 * y20) + 1)]) (st := []) C X dX1_plain_111 lnX1_322 myX1_emit viX1_emit ⟨by decide, by decide⟩ rfl rfl k22 (Nat.le_of_ble_eq_true rfl) (Nat.le_refl _) (Nat.le_refl _) (ctX1_emit e30 ?_)
    show pm_G g 114 [(5, .int y20), (0, .ref x0), (4, .int x4)] [.int v29.1] v29.2 0 0
    refine pm_pop C dX1_plain_114 rfl ?_
    cases hf
    exact pm_vret C X dX1_plain_115 rfl (Nat.le_refl _) (Nat.le_refl _) q
set_option maxHeartbeats 4000000 in
set_option maxRecDepth 100000 in
theorem bX1_plain_59 {g : pm_Gm} {l : Launch} {G : pm_Gl} {Qr : Option Value → pm_H → Prop} (C : pm_C g cX1_plain RX1) (X : pm_X g l G mX1_plain 0 0 Qr) {h : pm_H} {x0 : Nat} {x3 : Int32} {x4 : Int32} {s0 : Int32} {s1 : Int32} {r : pm_H} (hf : fX1_plain_b59 h x0 x3 x4 s0 s1 = some r) (q : Qr none r) : pm_G g 59 [(0, .ref x0), (3, .int x3), (4, .int x4)] [.int s0, .int s1] h 0 0 := by
  unfold fX1_plain_b59 at hf
  refine pm_iadd C dX1_plain_59 ?_
  refine pm_iload_n C dX1_plain_60 rfl rfl ?_
  refine pm_if_eq (tgt := 68) C dX1_plain_61 (by decide) (fun c19 => ?_) (fun c19 => ?_)
  · have hf := pm_it hf c19
    refine pm_iconst (v := 0) C dX1_plain_68 (by decide) ?_
    exact pm_sub [0, 2] rfl (bX1_plain_69 C X hf q)
  · have hf := pm_ie hf c19
    refine pm_iconst (v := 1) C dX1_plain_64 (by decide) ?_
    refine pm_goto (tgt := 69) C dX1_plain_65 (by decide) ?_
    exact pm_sub [0, 2] rfl (bX1_plain_69 C X hf q)
set_option maxHeartbeats 4000000 in
set_option maxRecDepth 100000 in
theorem bX1_plain_50 {g : pm_Gm} {l : Launch} {G : pm_Gl} {Qr : Option Value → pm_H → Prop} (C : pm_C g cX1_plain RX1) (X : pm_X g l G mX1_plain 0 0 Qr) {h : pm_H} {x0 : Nat} {x2 : Int32} {x3 : Int32} {x4 : Int32} {s0 : Int32} {r : pm_H} (hf : fX1_plain_b50 h x0 x2 x3 x4 s0 = some r) (q : Qr none r) : pm_G g 50 [(0, .ref x0), (2, .int x2), (3, .int x3), (4, .int x4)] [.int s0] h 0 0 := by
  unfold fX1_plain_b50 at hf
  refine pm_iload_n C dX1_plain_50 rfl rfl ?_
  refine pm_if_eq (tgt := 58) C dX1_plain_51 (by decide) (fun c18 => ?_) (fun c18 => ?_)
  · have hf := pm_it hf c18
    refine pm_iconst (v := 0) C dX1_plain_58 (by decide) ?_
    exact pm_sub [0, 2, 3] rfl (bX1_plain_59 C X hf q)
  · have hf := pm_ie hf c18
    refine pm_iconst (v := 1) C dX1_plain_54 (by decide) ?_
    refine pm_goto (tgt := 59) C dX1_plain_55 (by decide) ?_
    exact pm_sub [0, 2, 3] rfl (bX1_plain_59 C X hf q)
set_option maxHeartbeats 4000000 in
set_option maxRecDepth 100000 in
theorem bX1_plain_41 {g : pm_Gm} {l : Launch} {G : pm_Gl} {Qr : Option Value → pm_H → Prop} (C : pm_C g cX1_plain RX1) (X : pm_X g l G mX1_plain 0 0 Qr) {h : pm_H} {x0 : Nat} {x1 : Int32} {x2 : Int32} {x3 : Int32} {x4 : Int32} {r : pm_H} (hf : fX1_plain_b41 h x0 x1 x2 x3 x4 = some r) (q : Qr none r) : pm_G g 41 [(0, .ref x0), (1, .int x1), (2, .int x2), (3, .int x3), (4, .int x4)] [] h 0 0 := by
  unfold fX1_plain_b41 at hf
  refine pm_iload_n C dX1_plain_41 rfl rfl ?_
  refine pm_if_eq (tgt := 49) C dX1_plain_42 (by decide) (fun c17 => ?_) (fun c17 => ?_)
  · have hf := pm_it hf c17
    refine pm_iconst (v := 0) C dX1_plain_49 (by decide) ?_
    exact pm_sub [0, 2, 3, 4] rfl (bX1_plain_50 C X hf q)
  · have hf := pm_ie hf c17
    refine pm_iconst (v := 1) C dX1_plain_45 (by decide) ?_
    refine pm_goto (tgt := 50) C dX1_plain_46 (by decide) ?_
    exact pm_sub [0, 2, 3, 4] rfl (bX1_plain_50 C X hf q)
set_option maxHeartbeats 4000000 in
set_option maxRecDepth 100000 in
theorem bX1_plain_30 {g : pm_Gm} {l : Launch} {G : pm_Gl} {Qr : Option Value → pm_H → Prop} (C : pm_C g cX1_plain RX1) (X : pm_X g l G mX1_plain 0 0 Qr) {h : pm_H} {x0 : Nat} {x1 : Int32} {x2 : Int32} {x3 : Int32} {x4 : Int32} {r : pm_H} (hf : fX1_plain_b30 h x0 x1 x2 x3 x4 = some r) (q : Qr none r) : pm_G g 30 [(0, .ref x0), (1, .int x1), (2, .int x2), (3, .int x3), (4, .int x4)] [] h 0 0 := by
  unfold fX1_plain_b30 at hf
  refine pm_iload C dX1_plain_30 rfl ?_
  refine pm_if_eq (tgt := 41) C dX1_plain_32 (by decide) (fun c13 => ?_) (fun c13 => ?_)
  · have hf := pm_it hf c13
    exact pm_sub [0, 1, 2, 3, 4] rfl (bX1_plain_41 C X hf q)
  · have hf := pm_ie hf c13
    refine pm_aload_n C dX1_plain_35 rfl rfl ?_
    refine pm_iload C dX1_plain_36 rfl ?_
    obtain ⟨k14, hf⟩ := pm_if hf
    obtain ⟨v15, e16, hf⟩ := pm_bd hf
    refine pm_callV (as := [.int x4]) (st := []) C X dX1_plain_38 lnX1_292 myX1_put viX1_put ⟨by decide, by decide⟩ rfl rfl k14 (Nat.le_of_ble_eq_true rfl) (Nat.le_refl _) (Nat.le_refl _) (ctX1_put e16 ?_)
    show pm_G g 41 [(0, .ref x0), (1, .int x1), (2, .int x2), (3, .int x3), (4, .int x4)] [] v15 0 0
    exact pm_sub [0, 1, 2, 3, 4] rfl (bX1_plain_41 C X hf q)
set_option maxHeartbeats 4000000 in
set_option maxRecDepth 100000 in
theorem bX1_plain_20 {g : pm_Gm} {l : Launch} {G : pm_Gl} {Qr : Option Value → pm_H → Prop} (C : pm_C g cX1_plain RX1) (X : pm_X g l G mX1_plain 0 0 Qr) {h : pm_H} {x0 : Nat} {x1 : Int32} {x2 : Int32} {x3 : Int32} {x4 : Int32} {r : pm_H} (hf : fX1_plain_b20 h x0 x1 x2 x3 x4 = some r) (q : Qr none r) : pm_G g 20 [(0, .ref x0), (1, .int x1), (2, .int x2), (3, .int x3), (4, .int x4)] [] h 0 0 := by
  unfold fX1_plain_b20 at hf
  refine pm_iload_n C dX1_plain_20 rfl rfl ?_
  refine pm_if_eq (tgt := 30) C dX1_plain_21 (by decide) (fun c9 => ?_) (fun c9 => ?_)
  · have hf := pm_it hf c9
    exact pm_sub [0, 1, 2, 3, 4] rfl (bX1_plain_30 C X hf q)
  · have hf := pm_ie hf c9
    refine pm_aload_n C dX1_plain_24 rfl rfl ?_
    refine pm_iload_n C dX1_plain_25 rfl rfl ?_
    obtain ⟨k10, hf⟩ := pm_if hf
    obtain ⟨v11, e12, hf⟩ := pm_bd hf
    refine pm_callV (as := [.int x3]) (st := []) C X dX1_plain_26 lnX1_289 myX1_take viX1_take ⟨by decide, by decide⟩ rfl rfl k10 (Nat.le_of_ble_eq_true rfl) (Nat.le_refl _) (Nat.le_refl _) (ctX1_take e12 ?_)
    show pm_G g 29 [(0, .ref x0), (1, .int x1), (2, .int x2), (3, .int x3), (4, .int x4)] [.int v11.1] v11.2 0 0
    refine pm_pop C dX1_plain_29 rfl ?_
    exact pm_sub [0, 1, 2, 3, 4] rfl (bX1_plain_30 C X hf q)
set_option maxHeartbeats 4000000 in
set_option maxRecDepth 100000 in
theorem bX1_plain_10 {g : pm_Gm} {l : Launch} {G : pm_Gl} {Qr : Option Value → pm_H → Prop} (C : pm_C g cX1_plain RX1) (X : pm_X g l G mX1_plain 0 0 Qr) {h : pm_H} {x0 : Nat} {x1 : Int32} {x2 : Int32} {x3 : Int32} {x4 : Int32} {r : pm_H} (hf : fX1_plain_b10 h x0 x1 x2 x3 x4 = some r) (q : Qr none r) : pm_G g 10 [(0, .ref x0), (1, .int x1), (2, .int x2), (3, .int x3), (4, .int x4)] [] h 0 0 := by
  unfold fX1_plain_b10 at hf
  refine pm_iload_n C dX1_plain_10 rfl rfl ?_
  refine pm_if_eq (tgt := 20) C dX1_plain_11 (by decide) (fun c5 => ?_) (fun c5 => ?_)
  · have hf := pm_it hf c5
    exact pm_sub [0, 1, 2, 3, 4] rfl (bX1_plain_20 C X hf q)
  · have hf := pm_ie hf c5
    refine pm_aload_n C dX1_plain_14 rfl rfl ?_
    refine pm_iload_n C dX1_plain_15 rfl rfl ?_
    obtain ⟨k6, hf⟩ := pm_if hf
    obtain ⟨v7, e8, hf⟩ := pm_bd hf
    refine pm_callV (as := [.int x2]) (st := []) C X dX1_plain_16 lnX1_289 myX1_take viX1_take ⟨by decide, by decide⟩ rfl rfl k6 (Nat.le_of_ble_eq_true rfl) (Nat.le_refl _) (Nat.le_refl _) (ctX1_take e8 ?_)
    show pm_G g 19 [(0, .ref x0), (1, .int x1), (2, .int x2), (3, .int x3), (4, .int x4)] [.int v7.1] v7.2 0 0
    refine pm_pop C dX1_plain_19 rfl ?_
    exact pm_sub [0, 1, 2, 3, 4] rfl (bX1_plain_20 C X hf q)
set_option maxHeartbeats 4000000 in
set_option maxRecDepth 100000 in
theorem ctX1_plain {l : Launch} {G : pm_Gl} {h : pm_H} {a0 : Nat} {p1 : Int32} {p2 : Int32} {p3 : Int32} {p4 : Int32} {r : pm_H} {Qr : Option Value → pm_H → Prop} (hf : fX1_plain h a0 p1 p2 p3 p4 = some r) (q : Qr none r) : pm_Ct l G mX1_plain [.ref a0, .int p1, .int p2, .int p3, .int p4] h 0 0 Qr := by
  refine pm_body pnX1 (Nat.le_of_ble_eq_true rfl) (fun g C X => ?_)
  have C : pm_C g cX1_plain RX1 := C
  show pm_G g 0 [(0, .ref a0), (1, .int p1), (2, .int p2), (3, .int p3), (4, .int p4)] [] h 0 0
  unfold fX1_plain at hf
  refine pm_iload_n C dX1_plain_0 rfl rfl ?_
  refine pm_if_eq (tgt := 10) C dX1_plain_1 (by decide) (fun c1 => ?_) (fun c1 => ?_)
  · have hf := pm_it hf c1
    exact pm_sub [0, 1, 2, 3, 4] rfl (bX1_plain_10 C X hf q)
  · have hf := pm_ie hf c1
    refine pm_aload_n C dX1_plain_4 rfl rfl ?_
    refine pm_iload_n C dX1_plain_5 rfl rfl ?_
    obtain ⟨k2, hf⟩ := pm_if hf
    obtain ⟨v3, e4, hf⟩ := pm_bd hf
    refine pm_callV (as := [.int p1]) (st := []) C X dX1_plain_6 lnX1_289 myX1_take viX1_take ⟨by decide, by decide⟩ rfl rfl k2 (Nat.le_of_ble_eq_true rfl) (Nat.le_refl _) (Nat.le_refl _) (ctX1_take e4 ?_)
    show pm_G g 9 [(0, .ref a0), (1, .int p1), (2, .int p2), (3, .int p3), (4, .int p4)] [.int v3.1] v3.2 0 0
    refine pm_pop C dX1_plain_9 rfl ?_
    exact pm_sub [0, 1, 2, 3, 4] rfl (bX1_plain_10 C X hf q)
theorem dX1_putParameters_0 : decode cX1_putParameters 0 = .ok (.aload_n 0, 1) := by decide +kernel
theorem dX1_putParameters_1 : decode cX1_putParameters 1 = .ok (.aload_n 1, 1) := by decide +kernel
theorem dX1_putParameters_2 : decode cX1_putParameters 2 = .ok (.iconst 2, 1) := by decide +kernel
theorem dX1_putParameters_3 : decode cX1_putParameters 3 = .ok (.aload_n 1, 1) := by decide +kernel
theorem dX1_putParameters_4 : decode cX1_putParameters 4 = .ok (.iconst 0, 1) := by decide +kernel
theorem dX1_putParameters_5 : decode cX1_putParameters 5 = .ok (.invokestatic 105, 3) := by decide +kernel
theorem dX1_putParameters_8 : decode cX1_putParameters 8 = .ok (.invokevirtual 298, 3) := by decide +kernel
theorem dX1_putParameters_11 : decode cX1_putParameters 11 = .ok (.return_, 1) := by decide +kernel
noncomputable def fX1_putParameters (h : pm_H) (a0 : Nat) (p1 : Nat) : Option pm_H := (fX12_item h p1 0).bind fun v1 => if pm_kd h a0 = 1 then (fX1_putTypes h a0 p1 2 v1).bind fun v4 => some v4 else none
set_option maxHeartbeats 4000000 in
set_option maxRecDepth 100000 in
theorem ctX1_putParameters {l : Launch} {G : pm_Gl} {h : pm_H} {a0 : Nat} {p1 : Nat} {r : pm_H} {Qr : Option Value → pm_H → Prop} (hf : fX1_putParameters h a0 p1 = some r) (q : Qr none r) : pm_Ct l G mX1_putParameters [.ref a0, .ref p1] h 0 0 Qr := by
  refine pm_body pnX1 (Nat.le_of_ble_eq_true rfl) (fun g C X => ?_)
  have C : pm_C g cX1_putParameters RX1 := C
  show pm_G g 0 [(0, .ref a0), (1, .ref p1)] [] h 0 0
  unfold fX1_putParameters at hf
  refine pm_aload_n C dX1_putParameters_0 rfl rfl ?_
  refine pm_aload_n C dX1_putParameters_1 rfl rfl ?_
  refine pm_iconst (v := 2) C dX1_putParameters_2 (by decide) ?_
  refine pm_aload_n C dX1_putParameters_3 rfl rfl ?_
  refine pm_iconst (v := 0) C dX1_putParameters_4 (by decide) ?_
  obtain ⟨v1, e2, hf⟩ := pm_bd hf
  refine pm_callS (as := [.ref p1, .int 0]) (st := [.int 2, .ref p1, .ref a0]) C X dX1_putParameters_5 lnX1_105 myX12_item stX12_item ⟨by decide, by decide⟩ rfl rfl (Nat.le_of_ble_eq_true rfl) (Nat.le_refl _) (Nat.le_refl _) (ctX12_item e2 ?_)
  show pm_G g 8 [(0, .ref a0), (1, .ref p1)] [.int v1, .int 2, .ref p1, .ref a0] h 0 0
  obtain ⟨k3, hf⟩ := pm_if hf
  obtain ⟨v4, e5, hf⟩ := pm_bd hf
  refine pm_callV (as := [.ref p1, .int 2, .int v1]) (st := []) C X dX1_putParameters_8 lnX1_298 myX1_putTypes viX1_putTypes ⟨by decide, by decide⟩ rfl rfl k3 (Nat.le_of_ble_eq_true rfl) (Nat.le_refl _) (Nat.le_refl _) (ctX1_putTypes e5 ?_)
  show pm_G g 11 [(0, .ref a0), (1, .ref p1)] [] v4 0 0
  cases hf
  exact pm_vret C X dX1_putParameters_11 rfl (Nat.le_refl _) (Nat.le_refl _) q
theorem dX1_putResults_0 : decode cX1_putResults 0 = .ok (.aload_n 0, 1) := by decide +kernel
theorem dX1_putResults_1 : decode cX1_putResults 1 = .ok (.aload_n 1, 1) := by decide +kernel
theorem dX1_putResults_2 : decode cX1_putResults 2 = .ok (.iconst 2, 1) := by decide +kernel
theorem dX1_putResults_3 : decode cX1_putResults 3 = .ok (.aload_n 1, 1) := by decide +kernel
theorem dX1_putResults_4 : decode cX1_putResults 4 = .ok (.iconst 0, 1) := by decide +kernel
theorem dX1_putResults_5 : decode cX1_putResults 5 = .ok (.invokestatic 105, 3) := by decide +kernel
theorem dX1_putResults_8 : decode cX1_putResults 8 = .ok (.iadd, 1) := by decide +kernel
theorem dX1_putResults_9 : decode cX1_putResults 9 = .ok (.aload_n 1, 1) := by decide +kernel
theorem dX1_putResults_10 : decode cX1_putResults 10 = .ok (.iconst 1, 1) := by decide +kernel
theorem dX1_putResults_11 : decode cX1_putResults 11 = .ok (.invokestatic 105, 3) := by decide +kernel
theorem dX1_putResults_14 : decode cX1_putResults 14 = .ok (.invokevirtual 298, 3) := by decide +kernel
theorem dX1_putResults_17 : decode cX1_putResults 17 = .ok (.return_, 1) := by decide +kernel
noncomputable def fX1_putResults (h : pm_H) (a0 : Nat) (p1 : Nat) : Option pm_H := (fX12_item h p1 0).bind fun v1 => (fX12_item h p1 1).bind fun v3 => if pm_kd h a0 = 1 then (fX1_putTypes h a0 p1 (2 + v1) v3).bind fun v6 => some v6 else none
set_option maxHeartbeats 4000000 in
set_option maxRecDepth 100000 in
theorem ctX1_putResults {l : Launch} {G : pm_Gl} {h : pm_H} {a0 : Nat} {p1 : Nat} {r : pm_H} {Qr : Option Value → pm_H → Prop} (hf : fX1_putResults h a0 p1 = some r) (q : Qr none r) : pm_Ct l G mX1_putResults [.ref a0, .ref p1] h 0 0 Qr := by
  refine pm_body pnX1 (Nat.le_of_ble_eq_true rfl) (fun g C X => ?_)
  have C : pm_C g cX1_putResults RX1 := C
  show pm_G g 0 [(0, .ref a0), (1, .ref p1)] [] h 0 0
  unfold fX1_putResults at hf
  refine pm_aload_n C dX1_putResults_0 rfl rfl ?_
  refine pm_aload_n C dX1_putResults_1 rfl rfl ?_
  refine pm_iconst (v := 2) C dX1_putResults_2 (by decide) ?_
  refine pm_aload_n C dX1_putResults_3 rfl rfl ?_
  refine pm_iconst (v := 0) C dX1_putResults_4 (by decide) ?_
  obtain ⟨v1, e2, hf⟩ := pm_bd hf
  refine pm_callS (as := [.ref p1, .int 0]) (st := [.int 2, .ref p1, .ref a0]) C X dX1_putResults_5 lnX1_105 myX12_item stX12_item ⟨by decide, by decide⟩ rfl rfl (Nat.le_of_ble_eq_true rfl) (Nat.le_refl _) (Nat.le_refl _) (ctX12_item e2 ?_)
  show pm_G g 8 [(0, .ref a0), (1, .ref p1)] [.int v1, .int 2, .ref p1, .ref a0] h 0 0
  refine pm_iadd C dX1_putResults_8 ?_
  refine pm_aload_n C dX1_putResults_9 rfl rfl ?_
  refine pm_iconst (v := 1) C dX1_putResults_10 (by decide) ?_
  obtain ⟨v3, e4, hf⟩ := pm_bd hf
  refine pm_callS (as := [.ref p1, .int 1]) (st := [.int (2 + v1), .ref p1, .ref a0]) C X dX1_putResults_11 lnX1_105 myX12_item stX12_item ⟨by decide, by decide⟩ rfl rfl (Nat.le_of_ble_eq_true rfl) (Nat.le_refl _) (Nat.le_refl _) (ctX12_item e4 ?_)
  show pm_G g 14 [(0, .ref a0), (1, .ref p1)] [.int v3, .int (2 + v1), .ref p1, .ref a0] h 0 0
  obtain ⟨k5, hf⟩ := pm_if hf
  obtain ⟨v6, e7, hf⟩ := pm_bd hf
  refine pm_callV (as := [.ref p1, .int (2 + v1), .int v3]) (st := []) C X dX1_putResults_14 lnX1_298 myX1_putTypes viX1_putTypes ⟨by decide, by decide⟩ rfl rfl k5 (Nat.le_of_ble_eq_true rfl) (Nat.le_refl _) (Nat.le_refl _) (ctX1_putTypes e7 ?_)
  show pm_G g 17 [(0, .ref a0), (1, .ref p1)] [] v6 0 0
  cases hf
  exact pm_vret C X dX1_putResults_17 rfl (Nat.le_refl _) (Nat.le_refl _) q
theorem dX1_stretch_0 : decode cX1_stretch 0 = .ok (.iload_n 1, 1) := by decide +kernel
theorem dX1_stretch_1 : decode cX1_stretch 1 = .ok (.sipush 309, 3) := by decide +kernel
theorem dX1_stretch_4 : decode cX1_stretch 4 = .ok (.if_icmp .eq 14, 3) := by decide +kernel
theorem dX1_stretch_7 : decode cX1_stretch 7 = .ok (.aload_n 0, 1) := by decide +kernel
theorem dX1_stretch_8 : decode cX1_stretch 8 = .ok (.getfield 40, 3) := by decide +kernel
theorem dX1_stretch_11 : decode cX1_stretch 11 = .ok (.iconst 2, 1) := by decide +kernel
theorem dX1_stretch_12 : decode cX1_stretch 12 = .ok (.invokevirtual 60, 3) := by decide +kernel
theorem dX1_stretch_15 : decode cX1_stretch 15 = .ok (.ifCond .le 7, 3) := by decide +kernel
theorem dX1_stretch_18 : decode cX1_stretch 18 = .ok (.iconst 1, 1) := by decide +kernel
theorem dX1_stretch_19 : decode cX1_stretch 19 = .ok (.goto 4, 3) := by decide +kernel
theorem dX1_stretch_22 : decode cX1_stretch 22 = .ok (.iconst 0, 1) := by decide +kernel
theorem dX1_stretch_23 : decode cX1_stretch 23 = .ok (.istore_n 2, 1) := by decide +kernel
theorem dX1_stretch_24 : decode cX1_stretch 24 = .ok (.iload_n 1, 1) := by decide +kernel
theorem dX1_stretch_25 : decode cX1_stretch 25 = .ok (.sipush 309, 3) := by decide +kernel
theorem dX1_stretch_28 : decode cX1_stretch 28 = .ok (.if_icmp .gt 36, 3) := by decide +kernel
theorem dX1_stretch_31 : decode cX1_stretch 31 = .ok (.iload_n 2, 1) := by decide +kernel
theorem dX1_stretch_32 : decode cX1_stretch 32 = .ok (.ifCond .eq 30, 3) := by decide +kernel
theorem dX1_stretch_35 : decode cX1_stretch 35 = .ok (.aload_n 0, 1) := by decide +kernel
theorem dX1_stretch_36 : decode cX1_stretch 36 = .ok (.getfield 36, 3) := by decide +kernel
theorem dX1_stretch_39 : decode cX1_stretch 39 = .ok (.getfield 201, 3) := by decide +kernel
theorem dX1_stretch_42 : decode cX1_stretch 42 = .ok (.aload_n 0, 1) := by decide +kernel
theorem dX1_stretch_43 : decode cX1_stretch 43 = .ok (.getfield 40, 3) := by decide +kernel
theorem dX1_stretch_46 : decode cX1_stretch 46 = .ok (.getfield 185, 3) := by decide +kernel
theorem dX1_stretch_49 : decode cX1_stretch 49 = .ok (.arraylength, 1) := by decide +kernel
theorem dX1_stretch_50 : decode cX1_stretch 50 = .ok (.bipush 7, 2) := by decide +kernel
theorem dX1_stretch_52 : decode cX1_stretch 52 = .ok (.idiv, 1) := by decide +kernel
theorem dX1_stretch_53 : decode cX1_stretch 53 = .ok (.i2l, 1) := by decide +kernel
theorem dX1_stretch_54 : decode cX1_stretch 54 = .ok (.lcmp, 1) := by decide +kernel
theorem dX1_stretch_55 : decode cX1_stretch 55 = .ok (.ifCond .ge 7, 3) := by decide +kernel
theorem dX1_stretch_58 : decode cX1_stretch 58 = .ok (.iconst 1, 1) := by decide +kernel
theorem dX1_stretch_59 : decode cX1_stretch 59 = .ok (.goto 4, 3) := by decide +kernel
theorem dX1_stretch_62 : decode cX1_stretch 62 = .ok (.iconst 0, 1) := by decide +kernel
theorem dX1_stretch_63 : decode cX1_stretch 63 = .ok (.istore_n 2, 1) := by decide +kernel
theorem dX1_stretch_64 : decode cX1_stretch 64 = .ok (.iload_n 2, 1) := by decide +kernel
theorem dX1_stretch_65 : decode cX1_stretch 65 = .ok (.ifCond .ne 10, 3) := by decide +kernel
theorem dX1_stretch_68 : decode cX1_stretch 68 = .ok (.aload_n 0, 1) := by decide +kernel
theorem dX1_stretch_69 : decode cX1_stretch 69 = .ok (.bipush 30, 2) := by decide +kernel
theorem dX1_stretch_71 : decode cX1_stretch 71 = .ok (.invokevirtual 198, 3) := by decide +kernel
theorem dX1_stretch_74 : decode cX1_stretch 74 = .ok (.return_, 1) := by decide +kernel
theorem dX1_stretch_75 : decode cX1_stretch 75 = .ok (.iload_n 1, 1) := by decide +kernel
theorem dX1_stretch_76 : decode cX1_stretch 76 = .ok (.sipush 309, 3) := by decide +kernel
theorem dX1_stretch_79 : decode cX1_stretch 79 = .ok (.if_icmp .ne 7, 3) := by decide +kernel
theorem dX1_stretch_82 : decode cX1_stretch 82 = .ok (.iconst 0, 1) := by decide +kernel
theorem dX1_stretch_83 : decode cX1_stretch 83 = .ok (.goto 5, 3) := by decide +kernel
theorem dX1_stretch_86 : decode cX1_stretch 86 = .ok (.bipush 127, 2) := by decide +kernel
theorem dX1_stretch_88 : decode cX1_stretch 88 = .ok (.istore_n 3, 1) := by decide +kernel
theorem dX1_stretch_89 : decode cX1_stretch 89 = .ok (.aload_n 0, 1) := by decide +kernel
theorem dX1_stretch_90 : decode cX1_stretch 90 = .ok (.iload_n 3, 1) := by decide +kernel
theorem dX1_stretch_91 : decode cX1_stretch 91 = .ok (.iload_n 3, 1) := by decide +kernel
theorem dX1_stretch_92 : decode cX1_stretch 92 = .ok (.iload_n 3, 1) := by decide +kernel
theorem dX1_stretch_93 : decode cX1_stretch 93 = .ok (.iconst 0, 1) := by decide +kernel
theorem dX1_stretch_94 : decode cX1_stretch 94 = .ok (.invokevirtual 427, 3) := by decide +kernel
theorem dX1_stretch_97 : decode cX1_stretch 97 = .ok (.return_, 1) := by decide +kernel
def fX1_stretch_b64 (h : pm_H) (x0 : Nat) (x1 : Int32) (x2 : Int32) : Option pm_H := if x2 = 0 then (if pm_kd h x0 = 1 then (fX1_fail h x0 30).bind fun v31 => some v31 else none) else (if x1 = 309 then (if pm_kd h x0 = 1 then (fX1_plain h x0 0 0 0 0).bind fun v28 => some v28 else none) else (if pm_kd h x0 = 1 then (fX1_plain h x0 127 127 127 0).bind fun v25 => some v25 else none))
def fX1_stretch_b63 (h : pm_H) (x0 : Nat) (x1 : Int32) (s0 : Int32) : Option pm_H := fX1_stretch_b64 h x0 x1 s0
def fX1_stretch_b62 (h : pm_H) (x0 : Nat) (x1 : Int32) : Option pm_H := fX1_stretch_b63 h x0 x1 0
def fX1_stretch_b23 (h : pm_H) (x0 : Nat) (x1 : Int32) (s0 : Int32) : Option pm_H := if 309 < x1 then (fX1_stretch_b64 h x0 x1 s0) else (if s0 = 0 then (fX1_stretch_b62 h x0 x1) else (if pm_kd h x0 = 1 then (pm_R h x0 3).bind fun v12 => if pm_kd h v12 = 9 then (pm_R h x0 2).bind fun v15 => if pm_kd h v15 = 7 then (pm_R h v15 10).bind fun v18 => if pm_kd h v18 = 34 then if (((Int32.ofNat (pm_ln h v18)) / 7).toInt64) ≤ (pm_L h v12 8) then (fX1_stretch_b62 h x0 x1) else (fX1_stretch_b63 h x0 x1 1) else none else none else none else none))
def fX1_stretch_b18 (h : pm_H) (x0 : Nat) (x1 : Int32) : Option pm_H := fX1_stretch_b23 h x0 x1 1
def fX1_stretch (h : pm_H) (a0 : Nat) (p1 : Int32) : Option pm_H := if p1 = 309 then (fX1_stretch_b18 h a0 p1) else (if pm_kd h a0 = 1 then (pm_R h a0 2).bind fun v3 => if pm_kd h v3 = 7 then (fX7_count h v3 2).bind fun v6 => if v6 ≤ 0 then (fX1_stretch_b23 h a0 p1 0) else (fX1_stretch_b18 h a0 p1) else none else none)
set_option maxHeartbeats 4000000 in
set_option maxRecDepth 100000 in
theorem bX1_stretch_64 {g : pm_Gm} {l : Launch} {G : pm_Gl} {Qr : Option Value → pm_H → Prop} (C : pm_C g cX1_stretch RX1) (X : pm_X g l G mX1_stretch 0 0 Qr) {h : pm_H} {x0 : Nat} {x1 : Int32} {x2 : Int32} {r : pm_H} (hf : fX1_stretch_b64 h x0 x1 x2 = some r) (q : Qr none r) : pm_G g 64 [(0, .ref x0), (1, .int x1), (2, .int x2)] [] h 0 0 := by
  unfold fX1_stretch_b64 at hf
  refine pm_iload_n C dX1_stretch_64 rfl rfl ?_
  refine pm_if_ne (tgt := 75) C dX1_stretch_65 (by decide) (fun c22 => ?_) (fun c22 => ?_)
  · have hf := pm_ie hf c22
    refine pm_iload_n C dX1_stretch_75 rfl rfl ?_
    refine pm_sipush (v := 309) C dX1_stretch_76 (by decide) ?_
    refine pm_icmp_ne (tgt := 86) C dX1_stretch_79 (by decide) (fun c23 => ?_) (fun c23 => ?_)
    · have hf := pm_ie hf c23
      refine pm_bipush (v := 127) C dX1_stretch_86 (by decide) ?_
      refine pm_istore_n (lv' := [(3, .int 127), (0, .ref x0), (1, .int x1), (2, .int x2)]) C dX1_stretch_88 rfl (pm_nl X (by decide)) rfl ?_
      refine pm_aload_n C dX1_stretch_89 rfl rfl ?_
      refine pm_iload_n C dX1_stretch_90 rfl rfl ?_
      refine pm_iload_n C dX1_stretch_91 rfl rfl ?_
      refine pm_iload_n C dX1_stretch_92 rfl rfl ?_
      refine pm_iconst (v := 0) C dX1_stretch_93 (by decide) ?_
      obtain ⟨k24, hf⟩ := pm_if hf
      obtain ⟨v25, e26, hf⟩ := pm_bd hf
      refine pm_callV (as := [.int 127, .int 127, .int 127, .int 0]) (st := []) C X dX1_stretch_94 lnX1_427 myX1_plain viX1_plain ⟨by decide, by decide⟩ rfl rfl k24 (Nat.le_of_ble_eq_true rfl) (Nat.le_refl _) (Nat.le_refl _) (ctX1_plain e26 ?_)
      show pm_G g 97 [(3, .int 127), (0, .ref x0), (1, .int x1), (2, .int x2)] [] v25 0 0
      cases hf
      exact pm_vret C X dX1_stretch_97 rfl (Nat.le_refl _) (Nat.le_refl _) q
    · have hf := pm_it hf c23
      refine pm_iconst (v := 0) C dX1_stretch_82 (by decide) ?_
      refine pm_goto (tgt := 88) C dX1_stretch_83 (by decide) ?_
      refine pm_istore_n (lv' := [(3, .int 0), (0, .ref x0), (1, .int x1), (2, .int x2)]) C dX1_stretch_88 rfl (pm_nl X (by decide)) rfl ?_
      refine pm_aload_n C dX1_stretch_89 rfl rfl ?_
      refine pm_iload_n C dX1_stretch_90 rfl rfl ?_
      refine pm_iload_n C dX1_stretch_91 rfl rfl ?_
      refine pm_iload_n C dX1_stretch_92 rfl rfl ?_
      refine pm_iconst (v := 0) C dX1_stretch_93 (by decide) ?_
      obtain ⟨k27, hf⟩ := pm_if hf
      obtain ⟨v28, e29, hf⟩ := pm_bd hf
      refine pm_callV (as := [.int 0, .int 0, .int 0, .int 0]) (st := []) C X dX1_stretch_94 lnX1_427 myX1_plain viX1_plain ⟨by decide, by decide⟩ rfl rfl k27 (Nat.le_of_ble_eq_true rfl) (Nat.le_refl _) (Nat.le_refl _) (ctX1_plain e29 ?_)
      show pm_G g 97 [(3, .int 0), (0, .ref x0), (1, .int x1), (2, .int x2)] [] v28 0 0
      cases hf
      exact pm_vret C X dX1_stretch_97 rfl (Nat.le_refl _) (Nat.le_refl _) q
  · have hf := pm_it hf c22
    refine pm_aload_n C dX1_stretch_68 rfl rfl ?_
    refine pm_bipush (v := 30) C dX1_stretch_69 (by decide) ?_
    obtain ⟨k30, hf⟩ := pm_if hf
    obtain ⟨v31, e32, hf⟩ := pm_bd hf
    refine pm_callV (as := [.int 30]) (st := []) C X dX1_stretch_71 lnX1_198 myX1_fail viX1_fail ⟨by decide, by decide⟩ rfl rfl k30 (Nat.le_of_ble_eq_true rfl) (Nat.le_refl _) (Nat.le_refl _) (ctX1_fail e32 ?_)
    show pm_G g 74 [(0, .ref x0), (1, .int x1), (2, .int x2)] [] v31 0 0
    cases hf
    exact pm_vret C X dX1_stretch_74 rfl (Nat.le_refl _) (Nat.le_refl _) q
set_option maxHeartbeats 4000000 in
set_option maxRecDepth 100000 in
theorem bX1_stretch_63 {g : pm_Gm} {l : Launch} {G : pm_Gl} {Qr : Option Value → pm_H → Prop} (C : pm_C g cX1_stretch RX1) (X : pm_X g l G mX1_stretch 0 0 Qr) {h : pm_H} {x0 : Nat} {x1 : Int32} {s0 : Int32} {r : pm_H} (hf : fX1_stretch_b63 h x0 x1 s0 = some r) (q : Qr none r) : pm_G g 63 [(0, .ref x0), (1, .int x1)] [.int s0] h 0 0 := by
  unfold fX1_stretch_b63 at hf
  refine pm_istore_n (lv' := [(2, .int s0), (0, .ref x0), (1, .int x1)]) C dX1_stretch_63 rfl (pm_nl X (by decide)) rfl ?_
  exact pm_sub [1, 2, 0] rfl (bX1_stretch_64 C X hf q)
set_option maxHeartbeats 4000000 in
set_option maxRecDepth 100000 in
theorem bX1_stretch_62 {g : pm_Gm} {l : Launch} {G : pm_Gl} {Qr : Option Value → pm_H → Prop} (C : pm_C g cX1_stretch RX1) (X : pm_X g l G mX1_stretch 0 0 Qr) {h : pm_H} {x0 : Nat} {x1 : Int32} {r : pm_H} (hf : fX1_stretch_b62 h x0 x1 = some r) (q : Qr none r) : pm_G g 62 [(0, .ref x0), (1, .int x1)] [] h 0 0 := by
  unfold fX1_stretch_b62 at hf
  refine pm_iconst (v := 0) C dX1_stretch_62 (by decide) ?_
  exact pm_sub [0, 1] rfl (bX1_stretch_63 C X hf q)
set_option maxHeartbeats 4000000 in
set_option maxRecDepth 100000 in
theorem bX1_stretch_23 {g : pm_Gm} {l : Launch} {G : pm_Gl} {Qr : Option Value → pm_H → Prop} (C : pm_C g cX1_stretch RX1) (X : pm_X g l G mX1_stretch 0 0 Qr) {h : pm_H} {x0 : Nat} {x1 : Int32} {s0 : Int32} {r : pm_H} (hf : fX1_stretch_b23 h x0 x1 s0 = some r) (q : Qr none r) : pm_G g 23 [(0, .ref x0), (1, .int x1)] [.int s0] h 0 0 := by
  unfold fX1_stretch_b23 at hf
  refine pm_istore_n (lv' := [(2, .int s0), (0, .ref x0), (1, .int x1)]) C dX1_stretch_23 rfl (pm_nl X (by decide)) rfl ?_
  refine pm_iload_n C dX1_stretch_24 rfl rfl ?_
  refine pm_sipush (v := 309) C dX1_stretch_25 (by decide) ?_
  refine pm_icmp_gt (tgt := 64) C dX1_stretch_28 (by decide) (fun c9 => ?_) (fun c9 => ?_)
  · have hf := pm_it hf c9
    exact pm_sub [1, 2, 0] rfl (bX1_stretch_64 C X hf q)
  · have hf := pm_ie hf c9
    refine pm_iload_n C dX1_stretch_31 rfl rfl ?_
    refine pm_if_eq (tgt := 62) C dX1_stretch_32 (by decide) (fun c10 => ?_) (fun c10 => ?_)
    · have hf := pm_it hf c10
      exact pm_sub [1, 2] rfl (bX1_stretch_62 C X hf q)
    · have hf := pm_ie hf c10
      refine pm_aload_n C dX1_stretch_35 rfl rfl ?_
      obtain ⟨k11, hf⟩ := pm_if hf
      obtain ⟨v12, e13, hf⟩ := pm_bd hf
      refine pm_getR C dX1_stretch_36 flX1_36 rfl k11 e13 ?_
      obtain ⟨k14, hf⟩ := pm_if hf
      refine pm_getL C dX1_stretch_39 flX1_201 rfl k14 rfl ?_
      refine pm_aload_n C dX1_stretch_42 rfl rfl ?_
      obtain ⟨v15, e16, hf⟩ := pm_bd hf
      refine pm_getR C dX1_stretch_43 flX1_40 rfl k11 e16 ?_
      obtain ⟨k17, hf⟩ := pm_if hf
      obtain ⟨v18, e19, hf⟩ := pm_bd hf
      refine pm_getR C dX1_stretch_46 flX1_185 rfl k17 e19 ?_
      obtain ⟨k20, hf⟩ := pm_if hf
      refine pm_alen (t := 2) C dX1_stretch_49 (by decide) k20 rfl ?_
      refine pm_bipush (v := 7) C dX1_stretch_50 (by decide) ?_
      refine pm_idiv C dX1_stretch_52 (by decide) ?_
      refine pm_i2l C dX1_stretch_53 ?_
      refine pm_lcmp C dX1_stretch_54 ?_
      refine pm_if_ge (tgt := 62) C dX1_stretch_55 (by decide) (fun c21 => ?_) (fun c21 => ?_)
      · have hf := pm_it hf ((pm_lg_ge _ _).mp c21)
        exact pm_sub [1, 2] rfl (bX1_stretch_62 C X hf q)
      · have hf := pm_ie hf ((fun z => c21 ((pm_lg_ge _ _).mpr z)))
        refine pm_iconst (v := 1) C dX1_stretch_58 (by decide) ?_
        refine pm_goto (tgt := 63) C dX1_stretch_59 (by decide) ?_
        exact pm_sub [1, 2] rfl (bX1_stretch_63 C X hf q)
set_option maxHeartbeats 4000000 in
set_option maxRecDepth 100000 in
theorem bX1_stretch_18 {g : pm_Gm} {l : Launch} {G : pm_Gl} {Qr : Option Value → pm_H → Prop} (C : pm_C g cX1_stretch RX1) (X : pm_X g l G mX1_stretch 0 0 Qr) {h : pm_H} {x0 : Nat} {x1 : Int32} {r : pm_H} (hf : fX1_stretch_b18 h x0 x1 = some r) (q : Qr none r) : pm_G g 18 [(0, .ref x0), (1, .int x1)] [] h 0 0 := by
  unfold fX1_stretch_b18 at hf
  refine pm_iconst (v := 1) C dX1_stretch_18 (by decide) ?_
  refine pm_goto (tgt := 23) C dX1_stretch_19 (by decide) ?_
  exact pm_sub [0, 1] rfl (bX1_stretch_23 C X hf q)
set_option maxHeartbeats 4000000 in
set_option maxRecDepth 100000 in
theorem ctX1_stretch {l : Launch} {G : pm_Gl} {h : pm_H} {a0 : Nat} {p1 : Int32} {r : pm_H} {Qr : Option Value → pm_H → Prop} (hf : fX1_stretch h a0 p1 = some r) (q : Qr none r) : pm_Ct l G mX1_stretch [.ref a0, .int p1] h 0 0 Qr := by
  refine pm_body pnX1 (Nat.le_of_ble_eq_true rfl) (fun g C X => ?_)
  have C : pm_C g cX1_stretch RX1 := C
  show pm_G g 0 [(0, .ref a0), (1, .int p1)] [] h 0 0
  unfold fX1_stretch at hf
  refine pm_iload_n C dX1_stretch_0 rfl rfl ?_
  refine pm_sipush (v := 309) C dX1_stretch_1 (by decide) ?_
  refine pm_icmp_eq (tgt := 18) C dX1_stretch_4 (by decide) (fun c1 => ?_) (fun c1 => ?_)
  · have hf := pm_it hf c1
    exact pm_sub [0, 1] rfl (bX1_stretch_18 C X hf q)
  · have hf := pm_ie hf c1
    refine pm_aload_n C dX1_stretch_7 rfl rfl ?_
    obtain ⟨k2, hf⟩ := pm_if hf
    obtain ⟨v3, e4, hf⟩ := pm_bd hf
    refine pm_getR C dX1_stretch_8 flX1_40 rfl k2 e4 ?_
    refine pm_iconst (v := 2) C dX1_stretch_11 (by decide) ?_
    obtain ⟨k5, hf⟩ := pm_if hf
    obtain ⟨v6, e7, hf⟩ := pm_bd hf
    refine pm_callV (as := [.int 2]) (st := []) C X dX1_stretch_12 lnX1_60 myX7_count viX7_count ⟨by decide, by decide⟩ rfl rfl k5 (Nat.le_of_ble_eq_true rfl) (Nat.le_refl _) (Nat.le_refl _) (ctX7_count e7 ?_)
    show pm_G g 15 [(0, .ref a0), (1, .int p1)] [.int v6] h 0 0
    refine pm_if_le (tgt := 22) C dX1_stretch_15 (by decide) (fun c8 => ?_) (fun c8 => ?_)
    · have hf := pm_it hf c8
      refine pm_iconst (v := 0) C dX1_stretch_22 (by decide) ?_
      exact pm_sub [0, 1] rfl (bX1_stretch_23 C X hf q)
    · have hf := pm_ie hf c8
      exact pm_sub [0, 1] rfl (bX1_stretch_18 C X hf q)
theorem dX1_tableAccess_0 : decode cX1_tableAccess 0 = .ok (.aload_n 0, 1) := by decide +kernel
theorem dX1_tableAccess_1 : decode cX1_tableAccess 1 = .ok (.getfield 36, 3) := by decide +kernel
theorem dX1_tableAccess_4 : decode cX1_tableAccess 4 = .ok (.getfield 201, 3) := by decide +kernel
theorem dX1_tableAccess_7 : decode cX1_tableAccess 7 = .ok (.invokestatic 418, 3) := by decide +kernel
theorem dX1_tableAccess_10 : decode cX1_tableAccess 10 = .ok (.istore_n 2, 1) := by decide +kernel
theorem dX1_tableAccess_11 : decode cX1_tableAccess 11 = .ok (.aload_n 0, 1) := by decide +kernel
theorem dX1_tableAccess_12 : decode cX1_tableAccess 12 = .ok (.getfield 36, 3) := by decide +kernel
theorem dX1_tableAccess_15 : decode cX1_tableAccess 15 = .ok (.getfield 325, 3) := by decide +kernel
theorem dX1_tableAccess_18 : decode cX1_tableAccess 18 = .ok (.invokestatic 418, 3) := by decide +kernel
theorem dX1_tableAccess_21 : decode cX1_tableAccess 21 = .ok (.istore_n 3, 1) := by decide +kernel
theorem dX1_tableAccess_22 : decode cX1_tableAccess 22 = .ok (.iload_n 1, 1) := by decide +kernel
theorem dX1_tableAccess_23 : decode cX1_tableAccess 23 = .ok (.sipush 312, 3) := by decide +kernel
theorem dX1_tableAccess_26 : decode cX1_tableAccess 26 = .ok (.if_icmp .eq 10, 3) := by decide +kernel
theorem dX1_tableAccess_29 : decode cX1_tableAccess 29 = .ok (.iload_n 1, 1) := by decide +kernel
theorem dX1_tableAccess_30 : decode cX1_tableAccess 30 = .ok (.sipush 313, 3) := by decide +kernel
theorem dX1_tableAccess_33 : decode cX1_tableAccess 33 = .ok (.if_icmp .ne 7, 3) := by decide +kernel
theorem dX1_tableAccess_36 : decode cX1_tableAccess 36 = .ok (.iconst 1, 1) := by decide +kernel
theorem dX1_tableAccess_37 : decode cX1_tableAccess 37 = .ok (.goto 4, 3) := by decide +kernel
theorem dX1_tableAccess_40 : decode cX1_tableAccess 40 = .ok (.iconst 0, 1) := by decide +kernel
theorem dX1_tableAccess_41 : decode cX1_tableAccess 41 = .ok (.istore 4, 2) := by decide +kernel
theorem dX1_tableAccess_43 : decode cX1_tableAccess 43 = .ok (.iload 4, 2) := by decide +kernel
theorem dX1_tableAccess_45 : decode cX1_tableAccess 45 = .ok (.ifCond .eq 26, 3) := by decide +kernel
theorem dX1_tableAccess_48 : decode cX1_tableAccess 48 = .ok (.iload_n 2, 1) := by decide +kernel
theorem dX1_tableAccess_49 : decode cX1_tableAccess 49 = .ok (.aload_n 0, 1) := by decide +kernel
theorem dX1_tableAccess_50 : decode cX1_tableAccess 50 = .ok (.getfield 40, 3) := by decide +kernel
theorem dX1_tableAccess_53 : decode cX1_tableAccess 53 = .ok (.getfield 178, 3) := by decide +kernel
theorem dX1_tableAccess_56 : decode cX1_tableAccess 56 = .ok (.arraylength, 1) := by decide +kernel
theorem dX1_tableAccess_57 : decode cX1_tableAccess 57 = .ok (.bipush 7, 2) := by decide +kernel
theorem dX1_tableAccess_59 : decode cX1_tableAccess 59 = .ok (.idiv, 1) := by decide +kernel
theorem dX1_tableAccess_60 : decode cX1_tableAccess 60 = .ok (.if_icmp .ge 7, 3) := by decide +kernel
theorem dX1_tableAccess_63 : decode cX1_tableAccess 63 = .ok (.iconst 1, 1) := by decide +kernel
theorem dX1_tableAccess_64 : decode cX1_tableAccess 64 = .ok (.goto 17, 3) := by decide +kernel
theorem dX1_tableAccess_67 : decode cX1_tableAccess 67 = .ok (.iconst 0, 1) := by decide +kernel
theorem dX1_tableAccess_68 : decode cX1_tableAccess 68 = .ok (.goto 13, 3) := by decide +kernel
theorem dX1_tableAccess_71 : decode cX1_tableAccess 71 = .ok (.aload_n 0, 1) := by decide +kernel
theorem dX1_tableAccess_72 : decode cX1_tableAccess 72 = .ok (.getfield 40, 3) := by decide +kernel
theorem dX1_tableAccess_75 : decode cX1_tableAccess 75 = .ok (.iconst 1, 1) := by decide +kernel
theorem dX1_tableAccess_76 : decode cX1_tableAccess 76 = .ok (.iload_n 2, 1) := by decide +kernel
theorem dX1_tableAccess_77 : decode cX1_tableAccess 77 = .ok (.i2l, 1) := by decide +kernel
theorem dX1_tableAccess_78 : decode cX1_tableAccess 78 = .ok (.invokevirtual 146, 3) := by decide +kernel
theorem dX1_tableAccess_81 : decode cX1_tableAccess 81 = .ok (.istore 5, 2) := by decide +kernel
theorem dX1_tableAccess_83 : decode cX1_tableAccess 83 = .ok (.iload_n 1, 1) := by decide +kernel
theorem dX1_tableAccess_84 : decode cX1_tableAccess 84 = .ok (.sipush 312, 3) := by decide +kernel
theorem dX1_tableAccess_87 : decode cX1_tableAccess 87 = .ok (.if_icmp .eq 10, 3) := by decide +kernel
theorem dX1_tableAccess_90 : decode cX1_tableAccess 90 = .ok (.iload_n 1, 1) := by decide +kernel
theorem dX1_tableAccess_91 : decode cX1_tableAccess 91 = .ok (.sipush 314, 3) := by decide +kernel
theorem dX1_tableAccess_94 : decode cX1_tableAccess 94 = .ok (.if_icmp .ne 28, 3) := by decide +kernel
theorem dX1_tableAccess_97 : decode cX1_tableAccess 97 = .ok (.iload 5, 2) := by decide +kernel
theorem dX1_tableAccess_99 : decode cX1_tableAccess 99 = .ok (.ifCond .eq 20, 3) := by decide +kernel
theorem dX1_tableAccess_102 : decode cX1_tableAccess 102 = .ok (.aload_n 0, 1) := by decide +kernel
theorem dX1_tableAccess_103 : decode cX1_tableAccess 103 = .ok (.getfield 40, 3) := by decide +kernel
theorem dX1_tableAccess_106 : decode cX1_tableAccess 106 = .ok (.iconst 1, 1) := by decide +kernel
theorem dX1_tableAccess_107 : decode cX1_tableAccess 107 = .ok (.iload_n 3, 1) := by decide +kernel
theorem dX1_tableAccess_108 : decode cX1_tableAccess 108 = .ok (.i2l, 1) := by decide +kernel
theorem dX1_tableAccess_109 : decode cX1_tableAccess 109 = .ok (.invokevirtual 146, 3) := by decide +kernel
theorem dX1_tableAccess_112 : decode cX1_tableAccess 112 = .ok (.ifCond .eq 7, 3) := by decide +kernel
theorem dX1_tableAccess_115 : decode cX1_tableAccess 115 = .ok (.iconst 1, 1) := by decide +kernel
theorem dX1_tableAccess_116 : decode cX1_tableAccess 116 = .ok (.goto 4, 3) := by decide +kernel
theorem dX1_tableAccess_119 : decode cX1_tableAccess 119 = .ok (.iconst 0, 1) := by decide +kernel
theorem dX1_tableAccess_120 : decode cX1_tableAccess 120 = .ok (.istore 5, 2) := by decide +kernel
theorem dX1_tableAccess_122 : decode cX1_tableAccess 122 = .ok (.iload 4, 2) := by decide +kernel
theorem dX1_tableAccess_124 : decode cX1_tableAccess 124 = .ok (.ifCond .eq 22, 3) := by decide +kernel
theorem dX1_tableAccess_127 : decode cX1_tableAccess 127 = .ok (.aload_n 0, 1) := by decide +kernel
theorem dX1_tableAccess_128 : decode cX1_tableAccess 128 = .ok (.getfield 40, 3) := by decide +kernel
theorem dX1_tableAccess_131 : decode cX1_tableAccess 131 = .ok (.getfield 178, 3) := by decide +kernel
theorem dX1_tableAccess_134 : decode cX1_tableAccess 134 = .ok (.iload_n 2, 1) := by decide +kernel
theorem dX1_tableAccess_135 : decode cX1_tableAccess 135 = .ok (.bipush 7, 2) := by decide +kernel
theorem dX1_tableAccess_137 : decode cX1_tableAccess 137 = .ok (.imul, 1) := by decide +kernel
theorem dX1_tableAccess_138 : decode cX1_tableAccess 138 = .ok (.iconst 5, 1) := by decide +kernel
theorem dX1_tableAccess_139 : decode cX1_tableAccess 139 = .ok (.iadd, 1) := by decide +kernel
theorem dX1_tableAccess_140 : decode cX1_tableAccess 140 = .ok (.invokestatic 105, 3) := by decide +kernel
theorem dX1_tableAccess_143 : decode cX1_tableAccess 143 = .ok (.goto 14, 3) := by decide +kernel
theorem dX1_tableAccess_146 : decode cX1_tableAccess 146 = .ok (.aload_n 0, 1) := by decide +kernel
theorem dX1_tableAccess_147 : decode cX1_tableAccess 147 = .ok (.getfield 40, 3) := by decide +kernel
theorem dX1_tableAccess_150 : decode cX1_tableAccess 150 = .ok (.iconst 1, 1) := by decide +kernel
theorem dX1_tableAccess_151 : decode cX1_tableAccess 151 = .ok (.iload_n 2, 1) := by decide +kernel
theorem dX1_tableAccess_152 : decode cX1_tableAccess 152 = .ok (.iconst 1, 1) := by decide +kernel
theorem dX1_tableAccess_153 : decode cX1_tableAccess 153 = .ok (.invokevirtual 122, 3) := by decide +kernel
theorem dX1_tableAccess_156 : decode cX1_tableAccess 156 = .ok (.l2i, 1) := by decide +kernel
theorem dX1_tableAccess_157 : decode cX1_tableAccess 157 = .ok (.istore 6, 2) := by decide +kernel
theorem dX1_tableAccess_159 : decode cX1_tableAccess 159 = .ok (.iload_n 1, 1) := by decide +kernel
theorem dX1_tableAccess_160 : decode cX1_tableAccess 160 = .ok (.sipush 312, 3) := by decide +kernel
theorem dX1_tableAccess_163 : decode cX1_tableAccess 163 = .ok (.if_icmp .eq 10, 3) := by decide +kernel
theorem dX1_tableAccess_166 : decode cX1_tableAccess 166 = .ok (.iload_n 1, 1) := by decide +kernel
theorem dX1_tableAccess_167 : decode cX1_tableAccess 167 = .ok (.sipush 314, 3) := by decide +kernel
theorem dX1_tableAccess_170 : decode cX1_tableAccess 170 = .ok (.if_icmp .ne 20, 3) := by decide +kernel
theorem dX1_tableAccess_173 : decode cX1_tableAccess 173 = .ok (.aload_n 0, 1) := by decide +kernel
theorem dX1_tableAccess_174 : decode cX1_tableAccess 174 = .ok (.getfield 40, 3) := by decide +kernel
theorem dX1_tableAccess_177 : decode cX1_tableAccess 177 = .ok (.iconst 1, 1) := by decide +kernel
theorem dX1_tableAccess_178 : decode cX1_tableAccess 178 = .ok (.iload_n 3, 1) := by decide +kernel
theorem dX1_tableAccess_179 : decode cX1_tableAccess 179 = .ok (.iconst 1, 1) := by decide +kernel
theorem dX1_tableAccess_180 : decode cX1_tableAccess 180 = .ok (.invokevirtual 122, 3) := by decide +kernel
theorem dX1_tableAccess_183 : decode cX1_tableAccess 183 = .ok (.iload 6, 2) := by decide +kernel
theorem dX1_tableAccess_185 : decode cX1_tableAccess 185 = .ok (.i2l, 1) := by decide +kernel
theorem dX1_tableAccess_186 : decode cX1_tableAccess 186 = .ok (.lcmp, 1) := by decide +kernel
theorem dX1_tableAccess_187 : decode cX1_tableAccess 187 = .ok (.ifCond .ne 7, 3) := by decide +kernel
theorem dX1_tableAccess_190 : decode cX1_tableAccess 190 = .ok (.iconst 1, 1) := by decide +kernel
theorem dX1_tableAccess_191 : decode cX1_tableAccess 191 = .ok (.goto 4, 3) := by decide +kernel
theorem dX1_tableAccess_194 : decode cX1_tableAccess 194 = .ok (.iconst 0, 1) := by decide +kernel
theorem dX1_tableAccess_195 : decode cX1_tableAccess 195 = .ok (.istore 7, 2) := by decide +kernel
theorem dX1_tableAccess_197 : decode cX1_tableAccess 197 = .ok (.iload 5, 2) := by decide +kernel
theorem dX1_tableAccess_199 : decode cX1_tableAccess 199 = .ok (.ifCond .eq 8, 3) := by decide +kernel
theorem dX1_tableAccess_202 : decode cX1_tableAccess 202 = .ok (.iload 7, 2) := by decide +kernel
theorem dX1_tableAccess_204 : decode cX1_tableAccess 204 = .ok (.ifCond .ne 10, 3) := by decide +kernel
theorem dX1_tableAccess_207 : decode cX1_tableAccess 207 = .ok (.aload_n 0, 1) := by decide +kernel
theorem dX1_tableAccess_208 : decode cX1_tableAccess 208 = .ok (.bipush 30, 2) := by decide +kernel
theorem dX1_tableAccess_210 : decode cX1_tableAccess 210 = .ok (.invokevirtual 198, 3) := by decide +kernel
theorem dX1_tableAccess_213 : decode cX1_tableAccess 213 = .ok (.return_, 1) := by decide +kernel
theorem dX1_tableAccess_214 : decode cX1_tableAccess 214 = .ok (.iload_n 1, 1) := by decide +kernel
theorem dX1_tableAccess_215 : decode cX1_tableAccess 215 = .ok (.lookupswitch 134 #[(37, 57), (38, 70), (313, 83), (315, 94), (316, 108), (317, 120)], 57) := by decide +kernel
theorem dX1_tableAccess_272 : decode cX1_tableAccess 272 = .ok (.aload_n 0, 1) := by decide +kernel
theorem dX1_tableAccess_273 : decode cX1_tableAccess 273 = .ok (.bipush 127, 2) := by decide +kernel
theorem dX1_tableAccess_275 : decode cX1_tableAccess 275 = .ok (.iconst 0, 1) := by decide +kernel
theorem dX1_tableAccess_276 : decode cX1_tableAccess 276 = .ok (.iconst 0, 1) := by decide +kernel
theorem dX1_tableAccess_277 : decode cX1_tableAccess 277 = .ok (.iload 6, 2) := by decide +kernel
theorem dX1_tableAccess_279 : decode cX1_tableAccess 279 = .ok (.invokevirtual 427, 3) := by decide +kernel
theorem dX1_tableAccess_282 : decode cX1_tableAccess 282 = .ok (.goto 78, 3) := by decide +kernel
theorem dX1_tableAccess_285 : decode cX1_tableAccess 285 = .ok (.aload_n 0, 1) := by decide +kernel
theorem dX1_tableAccess_286 : decode cX1_tableAccess 286 = .ok (.iload 6, 2) := by decide +kernel
theorem dX1_tableAccess_288 : decode cX1_tableAccess 288 = .ok (.bipush 127, 2) := by decide +kernel
theorem dX1_tableAccess_290 : decode cX1_tableAccess 290 = .ok (.iconst 0, 1) := by decide +kernel
theorem dX1_tableAccess_291 : decode cX1_tableAccess 291 = .ok (.iconst 0, 1) := by decide +kernel
theorem dX1_tableAccess_292 : decode cX1_tableAccess 292 = .ok (.invokevirtual 427, 3) := by decide +kernel
theorem dX1_tableAccess_295 : decode cX1_tableAccess 295 = .ok (.goto 65, 3) := by decide +kernel
theorem dX1_tableAccess_298 : decode cX1_tableAccess 298 = .ok (.aload_n 0, 1) := by decide +kernel
theorem dX1_tableAccess_299 : decode cX1_tableAccess 299 = .ok (.iconst 0, 1) := by decide +kernel
theorem dX1_tableAccess_300 : decode cX1_tableAccess 300 = .ok (.iconst 0, 1) := by decide +kernel
theorem dX1_tableAccess_301 : decode cX1_tableAccess 301 = .ok (.iconst 0, 1) := by decide +kernel
theorem dX1_tableAccess_302 : decode cX1_tableAccess 302 = .ok (.iconst 0, 1) := by decide +kernel
theorem dX1_tableAccess_303 : decode cX1_tableAccess 303 = .ok (.invokevirtual 427, 3) := by decide +kernel
theorem dX1_tableAccess_306 : decode cX1_tableAccess 306 = .ok (.goto 54, 3) := by decide +kernel
theorem dX1_tableAccess_309 : decode cX1_tableAccess 309 = .ok (.aload_n 0, 1) := by decide +kernel
theorem dX1_tableAccess_310 : decode cX1_tableAccess 310 = .ok (.bipush 127, 2) := by decide +kernel
theorem dX1_tableAccess_312 : decode cX1_tableAccess 312 = .ok (.iload 6, 2) := by decide +kernel
theorem dX1_tableAccess_314 : decode cX1_tableAccess 314 = .ok (.iconst 0, 1) := by decide +kernel
theorem dX1_tableAccess_315 : decode cX1_tableAccess 315 = .ok (.bipush 127, 2) := by decide +kernel
theorem dX1_tableAccess_317 : decode cX1_tableAccess 317 = .ok (.invokevirtual 427, 3) := by decide +kernel
theorem dX1_tableAccess_320 : decode cX1_tableAccess 320 = .ok (.goto 40, 3) := by decide +kernel
theorem dX1_tableAccess_323 : decode cX1_tableAccess 323 = .ok (.aload_n 0, 1) := by decide +kernel
theorem dX1_tableAccess_324 : decode cX1_tableAccess 324 = .ok (.iconst 0, 1) := by decide +kernel
theorem dX1_tableAccess_325 : decode cX1_tableAccess 325 = .ok (.iconst 0, 1) := by decide +kernel
theorem dX1_tableAccess_326 : decode cX1_tableAccess 326 = .ok (.iconst 0, 1) := by decide +kernel
theorem dX1_tableAccess_327 : decode cX1_tableAccess 327 = .ok (.bipush 127, 2) := by decide +kernel
theorem dX1_tableAccess_329 : decode cX1_tableAccess 329 = .ok (.invokevirtual 427, 3) := by decide +kernel
theorem dX1_tableAccess_332 : decode cX1_tableAccess 332 = .ok (.goto 28, 3) := by decide +kernel
theorem dX1_tableAccess_335 : decode cX1_tableAccess 335 = .ok (.aload_n 0, 1) := by decide +kernel
theorem dX1_tableAccess_336 : decode cX1_tableAccess 336 = .ok (.bipush 127, 2) := by decide +kernel
theorem dX1_tableAccess_338 : decode cX1_tableAccess 338 = .ok (.iload 6, 2) := by decide +kernel
theorem dX1_tableAccess_340 : decode cX1_tableAccess 340 = .ok (.bipush 127, 2) := by decide +kernel
theorem dX1_tableAccess_342 : decode cX1_tableAccess 342 = .ok (.iconst 0, 1) := by decide +kernel
theorem dX1_tableAccess_343 : decode cX1_tableAccess 343 = .ok (.invokevirtual 427, 3) := by decide +kernel
theorem dX1_tableAccess_346 : decode cX1_tableAccess 346 = .ok (.goto 14, 3) := by decide +kernel
theorem dX1_tableAccess_349 : decode cX1_tableAccess 349 = .ok (.aload_n 0, 1) := by decide +kernel
theorem dX1_tableAccess_350 : decode cX1_tableAccess 350 = .ok (.bipush 127, 2) := by decide +kernel
theorem dX1_tableAccess_352 : decode cX1_tableAccess 352 = .ok (.bipush 127, 2) := by decide +kernel
theorem dX1_tableAccess_354 : decode cX1_tableAccess 354 = .ok (.bipush 127, 2) := by decide +kernel
theorem dX1_tableAccess_356 : decode cX1_tableAccess 356 = .ok (.iconst 0, 1) := by decide +kernel
theorem dX1_tableAccess_357 : decode cX1_tableAccess 357 = .ok (.invokevirtual 427, 3) := by decide +kernel
theorem dX1_tableAccess_360 : decode cX1_tableAccess 360 = .ok (.return_, 1) := by decide +kernel
def fX1_tableAccess_b195 (h : pm_H) (x0 : Nat) (x1 : Int32) (x5 : Int32) (x6 : Int32) (s0 : Int32) : Option pm_H := if x5 = 0 then (if pm_kd h x0 = 1 then (fX1_fail h x0 30).bind fun v62 => some v62 else none) else (if s0 = 0 then (if pm_kd h x0 = 1 then (fX1_fail h x0 30).bind fun v93 => some v93 else none) else (if x1 = 37 then (if pm_kd h x0 = 1 then (fX1_plain h x0 127 0 0 x6).bind fun v67 => some v67 else none) else (if x1 = 38 then (if pm_kd h x0 = 1 then (fX1_plain h x0 x6 127 0 0).bind fun v71 => some v71 else none) else (if x1 = 313 then (if pm_kd h x0 = 1 then (fX1_plain h x0 0 0 0 0).bind fun v75 => some v75 else none) else (if x1 = 315 then (if pm_kd h x0 = 1 then (fX1_plain h x0 127 x6 0 127).bind fun v79 => some v79 else none) else (if x1 = 316 then (if pm_kd h x0 = 1 then (fX1_plain h x0 0 0 0 127).bind fun v83 => some v83 else none) else (if x1 = 317 then (if pm_kd h x0 = 1 then (fX1_plain h x0 127 x6 127 0).bind fun v87 => some v87 else none) else (if pm_kd h x0 = 1 then (fX1_plain h x0 127 127 127 0).bind fun v90 => some v90 else none))))))))
def fX1_tableAccess_b190 (h : pm_H) (x0 : Nat) (x1 : Int32) (x5 : Int32) (x6 : Int32) : Option pm_H := fX1_tableAccess_b195 h x0 x1 x5 x6 1
def fX1_tableAccess_b173 (h : pm_H) (x0 : Nat) (x1 : Int32) (x3 : Int32) (x5 : Int32) (x6 : Int32) : Option pm_H := if pm_kd h x0 = 1 then (pm_R h x0 2).bind fun v54 => if pm_kd h v54 = 7 then (fX7_of h v54 1 x3 1).bind fun v57 => if v57 = x6.toInt64 then (fX1_tableAccess_b190 h x0 x1 x5 x6) else (fX1_tableAccess_b195 h x0 x1 x5 x6 0) else none else none
def fX1_tableAccess_b157 (h : pm_H) (x0 : Nat) (x1 : Int32) (x3 : Int32) (x5 : Int32) (s0 : Int32) : Option pm_H := if x1 = 312 then (fX1_tableAccess_b173 h x0 x1 x3 x5 s0) else (if x1 = 314 then (fX1_tableAccess_b173 h x0 x1 x3 x5 s0) else (fX1_tableAccess_b190 h x0 x1 x5 s0))
def fX1_tableAccess_b122 (h : pm_H) (x0 : Nat) (x1 : Int32) (x2 : Int32) (x3 : Int32) (x4 : Int32) (x5 : Int32) : Option pm_H := if x4 = 0 then (if pm_kd h x0 = 1 then (pm_R h x0 2).bind fun v38 => if pm_kd h v38 = 7 then (fX7_of h v38 1 x2 1).bind fun v41 => fX1_tableAccess_b157 h x0 x1 x3 x5 v41.toInt32 else none else none) else (if pm_kd h x0 = 1 then (pm_R h x0 2).bind fun v44 => if pm_kd h v44 = 7 then (pm_R h v44 9).bind fun v47 => (fX12_item h v47 ((x2 * 7) + 5)).bind fun v49 => fX1_tableAccess_b157 h x0 x1 x3 x5 v49 else none else none)
def fX1_tableAccess_b120 (h : pm_H) (x0 : Nat) (x1 : Int32) (x2 : Int32) (x3 : Int32) (x4 : Int32) (s0 : Int32) : Option pm_H := fX1_tableAccess_b122 h x0 x1 x2 x3 x4 s0
def fX1_tableAccess_b119 (h : pm_H) (x0 : Nat) (x1 : Int32) (x2 : Int32) (x3 : Int32) (x4 : Int32) : Option pm_H := fX1_tableAccess_b120 h x0 x1 x2 x3 x4 0
def fX1_tableAccess_b97 (h : pm_H) (x0 : Nat) (x1 : Int32) (x2 : Int32) (x3 : Int32) (x4 : Int32) (x5 : Int32) : Option pm_H := if x5 = 0 then (fX1_tableAccess_b119 h x0 x1 x2 x3 x4) else (if pm_kd h x0 = 1 then (pm_R h x0 2).bind fun v30 => if pm_kd h v30 = 7 then (fX7_has h v30 1 x3.toInt64).bind fun v33 => if v33 = 0 then (fX1_tableAccess_b119 h x0 x1 x2 x3 x4) else (fX1_tableAccess_b120 h x0 x1 x2 x3 x4 1) else none else none)
def fX1_tableAccess_b81 (h : pm_H) (x0 : Nat) (x1 : Int32) (x2 : Int32) (x3 : Int32) (x4 : Int32) (s0 : Int32) : Option pm_H := if x1 = 312 then (fX1_tableAccess_b97 h x0 x1 x2 x3 x4 s0) else (if x1 = 314 then (fX1_tableAccess_b97 h x0 x1 x2 x3 x4 s0) else (fX1_tableAccess_b122 h x0 x1 x2 x3 x4 s0))
def fX1_tableAccess_b41 (h : pm_H) (x0 : Nat) (x1 : Int32) (x2 : Int32) (x3 : Int32) (s0 : Int32) : Option pm_H := if s0 = 0 then (if pm_kd h x0 = 1 then (pm_R h x0 2).bind fun v13 => if pm_kd h v13 = 7 then (fX7_has h v13 1 x2.toInt64).bind fun v16 => fX1_tableAccess_b81 h x0 x1 x2 x3 s0 v16 else none else none) else (if pm_kd h x0 = 1 then (pm_R h x0 2).bind fun v19 => if pm_kd h v19 = 7 then (pm_R h v19 9).bind fun v22 => if pm_kd h v22 = 34 then if ((Int32.ofNat (pm_ln h v22)) / 7) ≤ x2 then (fX1_tableAccess_b81 h x0 x1 x2 x3 s0 0) else (fX1_tableAccess_b81 h x0 x1 x2 x3 s0 1) else none else none else none)
def fX1_tableAccess_b36 (h : pm_H) (x0 : Nat) (x1 : Int32) (x2 : Int32) (x3 : Int32) : Option pm_H := fX1_tableAccess_b41 h x0 x1 x2 x3 1
def fX1_tableAccess (h : pm_H) (a0 : Nat) (p1 : Int32) : Option pm_H := if pm_kd h a0 = 1 then (pm_R h a0 3).bind fun v2 => if pm_kd h v2 = 9 then pm_let (fX12_index (pm_L h v2 8)) fun v5 => pm_let (fX12_index (pm_L h v2 9)) fun v7 => if p1 = 312 then (fX1_tableAccess_b36 h a0 p1 v5 v7) else (if p1 = 313 then (fX1_tableAccess_b36 h a0 p1 v5 v7) else (fX1_tableAccess_b41 h a0 p1 v5 v7 0)) else none else none
set_option maxHeartbeats 4000000 in
set_option maxRecDepth 100000 in
theorem bX1_tableAccess_195 {g : pm_Gm} {l : Launch} {G : pm_Gl} {Qr : Option Value → pm_H → Prop} (C : pm_C g cX1_tableAccess RX1) (X : pm_X g l G mX1_tableAccess 0 0 Qr) {h : pm_H} {x0 : Nat} {x1 : Int32} {x5 : Int32} {x6 : Int32} {s0 : Int32} {r : pm_H} (hf : fX1_tableAccess_b195 h x0 x1 x5 x6 s0 = some r) (q : Qr none r) : pm_G g 195 [(0, .ref x0), (1, .int x1), (5, .int x5), (6, .int x6)] [.int s0] h 0 0 := by
  unfold fX1_tableAccess_b195 at hf
  refine pm_istore (lv' := [(7, .int s0), (0, .ref x0), (1, .int x1), (5, .int x5), (6, .int x6)]) C dX1_tableAccess_195 (pm_nl X (by decide)) rfl ?_
  refine pm_iload C dX1_tableAccess_197 rfl ?_
  refine pm_if_eq (tgt := 207) C dX1_tableAccess_199 (by decide) (fun c60 => ?_) (fun c60 => ?_)
  · have hf := pm_it hf c60
    refine pm_aload_n C dX1_tableAccess_207 rfl rfl ?_
    refine pm_bipush (v := 30) C dX1_tableAccess_208 (by decide) ?_
    obtain ⟨k61, hf⟩ := pm_if hf
    obtain ⟨v62, e63, hf⟩ := pm_bd hf
    refine pm_callV (as := [.int 30]) (st := []) C X dX1_tableAccess_210 lnX1_198 myX1_fail viX1_fail ⟨by decide, by decide⟩ rfl rfl k61 (Nat.le_of_ble_eq_true rfl) (Nat.le_refl _) (Nat.le_refl _) (ctX1_fail e63 ?_)
    show pm_G g 213 [(7, .int s0), (0, .ref x0), (1, .int x1), (5, .int x5), (6, .int x6)] [] v62 0 0
    cases hf
    exact pm_vret C X dX1_tableAccess_213 rfl (Nat.le_refl _) (Nat.le_refl _) q
  · have hf := pm_ie hf c60
    refine pm_iload C dX1_tableAccess_202 rfl ?_
    refine pm_if_ne (tgt := 214) C dX1_tableAccess_204 (by decide) (fun c64 => ?_) (fun c64 => ?_)
    · have hf := pm_ie hf c64
      refine pm_iload_n C dX1_tableAccess_214 rfl rfl ?_
      by_cases c65 : x1 = 37
      · have hf := pm_it hf c65
        refine pm_lookup (off := 57) (tgt := 272) C dX1_tableAccess_215 (by decide) (by rw [c65]; first | done | decide | rfl) (by decide) ?_
        refine pm_aload_n C dX1_tableAccess_272 rfl rfl ?_
        refine pm_bipush (v := 127) C dX1_tableAccess_273 (by decide) ?_
        refine pm_iconst (v := 0) C dX1_tableAccess_275 (by decide) ?_
        refine pm_iconst (v := 0) C dX1_tableAccess_276 (by decide) ?_
        refine pm_iload C dX1_tableAccess_277 rfl ?_
        obtain ⟨k66, hf⟩ := pm_if hf
        obtain ⟨v67, e68, hf⟩ := pm_bd hf
        refine pm_callV (as := [.int 127, .int 0, .int 0, .int x6]) (st := []) C X dX1_tableAccess_279 lnX1_427 myX1_plain viX1_plain ⟨by decide, by decide⟩ rfl rfl k66 (Nat.le_of_ble_eq_true rfl) (Nat.le_refl _) (Nat.le_refl _) (ctX1_plain e68 ?_)
        show pm_G g 282 [(7, .int s0), (0, .ref x0), (1, .int x1), (5, .int x5), (6, .int x6)] [] v67 0 0
        refine pm_goto (tgt := 360) C dX1_tableAccess_282 (by decide) ?_
        cases hf
        exact pm_vret C X dX1_tableAccess_360 rfl (Nat.le_refl _) (Nat.le_refl _) q
      have hf := pm_ie hf c65
      by_cases c69 : x1 = 38
      · have hf := pm_it hf c69
        refine pm_lookup (off := 70) (tgt := 285) C dX1_tableAccess_215 (by decide) (by rw [c69]; first | done | decide | rfl) (by decide) ?_
        refine pm_aload_n C dX1_tableAccess_285 rfl rfl ?_
        refine pm_iload C dX1_tableAccess_286 rfl ?_
        refine pm_bipush (v := 127) C dX1_tableAccess_288 (by decide) ?_
        refine pm_iconst (v := 0) C dX1_tableAccess_290 (by decide) ?_
        refine pm_iconst (v := 0) C dX1_tableAccess_291 (by decide) ?_
        obtain ⟨k70, hf⟩ := pm_if hf
        obtain ⟨v71, e72, hf⟩ := pm_bd hf
        refine pm_callV (as := [.int x6, .int 127, .int 0, .int 0]) (st := []) C X dX1_tableAccess_292 lnX1_427 myX1_plain viX1_plain ⟨by decide, by decide⟩ rfl rfl k70 (Nat.le_of_ble_eq_true rfl) (Nat.le_refl _) (Nat.le_refl _) (ctX1_plain e72 ?_)
        show pm_G g 295 [(7, .int s0), (0, .ref x0), (1, .int x1), (5, .int x5), (6, .int x6)] [] v71 0 0
        refine pm_goto (tgt := 360) C dX1_tableAccess_295 (by decide) ?_
        cases hf
        exact pm_vret C X dX1_tableAccess_360 rfl (Nat.le_refl _) (Nat.le_refl _) q
      have hf := pm_ie hf c69
      by_cases c73 : x1 = 313
      · have hf := pm_it hf c73
        refine pm_lookup (off := 83) (tgt := 298) C dX1_tableAccess_215 (by decide) (by rw [c73]; first | done | decide | rfl) (by decide) ?_
        refine pm_aload_n C dX1_tableAccess_298 rfl rfl ?_
        refine pm_iconst (v := 0) C dX1_tableAccess_299 (by decide) ?_
        refine pm_iconst (v := 0) C dX1_tableAccess_300 (by decide) ?_
        refine pm_iconst (v := 0) C dX1_tableAccess_301 (by decide) ?_
        refine pm_iconst (v := 0) C dX1_tableAccess_302 (by decide) ?_
        obtain ⟨k74, hf⟩ := pm_if hf
        obtain ⟨v75, e76, hf⟩ := pm_bd hf
        refine pm_callV (as := [.int 0, .int 0, .int 0, .int 0]) (st := []) C X dX1_tableAccess_303 lnX1_427 myX1_plain viX1_plain ⟨by decide, by decide⟩ rfl rfl k74 (Nat.le_of_ble_eq_true rfl) (Nat.le_refl _) (Nat.le_refl _) (ctX1_plain e76 ?_)
        show pm_G g 306 [(7, .int s0), (0, .ref x0), (1, .int x1), (5, .int x5), (6, .int x6)] [] v75 0 0
        refine pm_goto (tgt := 360) C dX1_tableAccess_306 (by decide) ?_
        cases hf
        exact pm_vret C X dX1_tableAccess_360 rfl (Nat.le_refl _) (Nat.le_refl _) q
      have hf := pm_ie hf c73
      by_cases c77 : x1 = 315
      · have hf := pm_it hf c77
        refine pm_lookup (off := 94) (tgt := 309) C dX1_tableAccess_215 (by decide) (by rw [c77]; first | done | decide | rfl) (by decide) ?_
        refine pm_aload_n C dX1_tableAccess_309 rfl rfl ?_
        refine pm_bipush (v := 127) C dX1_tableAccess_310 (by decide) ?_
        refine pm_iload C dX1_tableAccess_312 rfl ?_
        refine pm_iconst (v := 0) C dX1_tableAccess_314 (by decide) ?_
        refine pm_bipush (v := 127) C dX1_tableAccess_315 (by decide) ?_
        obtain ⟨k78, hf⟩ := pm_if hf
        obtain ⟨v79, e80, hf⟩ := pm_bd hf
        refine pm_callV (as := [.int 127, .int x6, .int 0, .int 127]) (st := []) C X dX1_tableAccess_317 lnX1_427 myX1_plain viX1_plain ⟨by decide, by decide⟩ rfl rfl k78 (Nat.le_of_ble_eq_true rfl) (Nat.le_refl _) (Nat.le_refl _) (ctX1_plain e80 ?_)
        show pm_G g 320 [(7, .int s0), (0, .ref x0), (1, .int x1), (5, .int x5), (6, .int x6)] [] v79 0 0
        refine pm_goto (tgt := 360) C dX1_tableAccess_320 (by decide) ?_
        cases hf
        exact pm_vret C X dX1_tableAccess_360 rfl (Nat.le_refl _) (Nat.le_refl _) q
      have hf := pm_ie hf c77
      by_cases c81 : x1 = 316
      · have hf := pm_it hf c81
        refine pm_lookup (off := 108) (tgt := 323) C dX1_tableAccess_215 (by decide) (by rw [c81]; first | done | decide | rfl) (by decide) ?_
        refine pm_aload_n C dX1_tableAccess_323 rfl rfl ?_
        refine pm_iconst (v := 0) C dX1_tableAccess_324 (by decide) ?_
        refine pm_iconst (v := 0) C dX1_tableAccess_325 (by decide) ?_
        refine pm_iconst (v := 0) C dX1_tableAccess_326 (by decide) ?_
        refine pm_bipush (v := 127) C dX1_tableAccess_327 (by decide) ?_
        obtain ⟨k82, hf⟩ := pm_if hf
        obtain ⟨v83, e84, hf⟩ := pm_bd hf
        refine pm_callV (as := [.int 0, .int 0, .int 0, .int 127]) (st := []) C X dX1_tableAccess_329 lnX1_427 myX1_plain viX1_plain ⟨by decide, by decide⟩ rfl rfl k82 (Nat.le_of_ble_eq_true rfl) (Nat.le_refl _) (Nat.le_refl _) (ctX1_plain e84 ?_)
        show pm_G g 332 [(7, .int s0), (0, .ref x0), (1, .int x1), (5, .int x5), (6, .int x6)] [] v83 0 0
        refine pm_goto (tgt := 360) C dX1_tableAccess_332 (by decide) ?_
        cases hf
        exact pm_vret C X dX1_tableAccess_360 rfl (Nat.le_refl _) (Nat.le_refl _) q
      have hf := pm_ie hf c81
      by_cases c85 : x1 = 317
      · have hf := pm_it hf c85
        refine pm_lookup (off := 120) (tgt := 335) C dX1_tableAccess_215 (by decide) (by rw [c85]; first | done | decide | rfl) (by decide) ?_
        refine pm_aload_n C dX1_tableAccess_335 rfl rfl ?_
        refine pm_bipush (v := 127) C dX1_tableAccess_336 (by decide) ?_
        refine pm_iload C dX1_tableAccess_338 rfl ?_
        refine pm_bipush (v := 127) C dX1_tableAccess_340 (by decide) ?_
        refine pm_iconst (v := 0) C dX1_tableAccess_342 (by decide) ?_
        obtain ⟨k86, hf⟩ := pm_if hf
        obtain ⟨v87, e88, hf⟩ := pm_bd hf
        refine pm_callV (as := [.int 127, .int x6, .int 127, .int 0]) (st := []) C X dX1_tableAccess_343 lnX1_427 myX1_plain viX1_plain ⟨by decide, by decide⟩ rfl rfl k86 (Nat.le_of_ble_eq_true rfl) (Nat.le_refl _) (Nat.le_refl _) (ctX1_plain e88 ?_)
        show pm_G g 346 [(7, .int s0), (0, .ref x0), (1, .int x1), (5, .int x5), (6, .int x6)] [] v87 0 0
        refine pm_goto (tgt := 360) C dX1_tableAccess_346 (by decide) ?_
        cases hf
        exact pm_vret C X dX1_tableAccess_360 rfl (Nat.le_refl _) (Nat.le_refl _) q
      have hf := pm_ie hf c85
      refine pm_lookup (off := 134) (tgt := 349) C dX1_tableAccess_215 (by decide) ((lv_osw c65 (by decide)).trans ((lv_osw c69 (by decide)).trans ((lv_osw c73 (by decide)).trans ((lv_osw c77 (by decide)).trans ((lv_osw c81 (by decide)).trans ((lv_osw c85 (by decide)).trans (rfl))))))) (by decide) ?_
      refine pm_aload_n C dX1_tableAccess_349 rfl rfl ?_
      refine pm_bipush (v := 127) C dX1_tableAccess_350 (by decide) ?_
      refine pm_bipush (v := 127) C dX1_tableAccess_352 (by decide) ?_
      refine pm_bipush (v := 127) C dX1_tableAccess_354 (by decide) ?_
      refine pm_iconst (v := 0) C dX1_tableAccess_356 (by decide) ?_
      obtain ⟨k89, hf⟩ := pm_if hf
      obtain ⟨v90, e91, hf⟩ := pm_bd hf
      refine pm_callV (as := [.int 127, .int 127, .int 127, .int 0]) (st := []) C X dX1_tableAccess_357 lnX1_427 myX1_plain viX1_plain ⟨by decide, by decide⟩ rfl rfl k89 (Nat.le_of_ble_eq_true rfl) (Nat.le_refl _) (Nat.le_refl _) (ctX1_plain e91 ?_)
      show pm_G g 360 [(7, .int s0), (0, .ref x0), (1, .int x1), (5, .int x5), (6, .int x6)] [] v90 0 0
      cases hf
      exact pm_vret C X dX1_tableAccess_360 rfl (Nat.le_refl _) (Nat.le_refl _) q
    · have hf := pm_it hf c64
      refine pm_aload_n C dX1_tableAccess_207 rfl rfl ?_
      refine pm_bipush (v := 30) C dX1_tableAccess_208 (by decide) ?_
      obtain ⟨k92, hf⟩ := pm_if hf
      obtain ⟨v93, e94, hf⟩ := pm_bd hf
      refine pm_callV (as := [.int 30]) (st := []) C X dX1_tableAccess_210 lnX1_198 myX1_fail viX1_fail ⟨by decide, by decide⟩ rfl rfl k92 (Nat.le_of_ble_eq_true rfl) (Nat.le_refl _) (Nat.le_refl _) (ctX1_fail e94 ?_)
      show pm_G g 213 [(7, .int s0), (0, .ref x0), (1, .int x1), (5, .int x5), (6, .int x6)] [] v93 0 0
      cases hf
      exact pm_vret C X dX1_tableAccess_213 rfl (Nat.le_refl _) (Nat.le_refl _) q
set_option maxHeartbeats 4000000 in
set_option maxRecDepth 100000 in
theorem bX1_tableAccess_190 {g : pm_Gm} {l : Launch} {G : pm_Gl} {Qr : Option Value → pm_H → Prop} (C : pm_C g cX1_tableAccess RX1) (X : pm_X g l G mX1_tableAccess 0 0 Qr) {h : pm_H} {x0 : Nat} {x1 : Int32} {x5 : Int32} {x6 : Int32} {r : pm_H} (hf : fX1_tableAccess_b190 h x0 x1 x5 x6 = some r) (q : Qr none r) : pm_G g 190 [(0, .ref x0), (1, .int x1), (5, .int x5), (6, .int x6)] [] h 0 0 := by
  unfold fX1_tableAccess_b190 at hf
  refine pm_iconst (v := 1) C dX1_tableAccess_190 (by decide) ?_
  refine pm_goto (tgt := 195) C dX1_tableAccess_191 (by decide) ?_
  exact pm_sub [0, 1, 2, 3] rfl (bX1_tableAccess_195 C X hf q)
set_option maxHeartbeats 4000000 in
set_option maxRecDepth 100000 in
theorem bX1_tableAccess_173 {g : pm_Gm} {l : Launch} {G : pm_Gl} {Qr : Option Value → pm_H → Prop} (C : pm_C g cX1_tableAccess RX1) (X : pm_X g l G mX1_tableAccess 0 0 Qr) {h : pm_H} {x0 : Nat} {x1 : Int32} {x3 : Int32} {x5 : Int32} {x6 : Int32} {r : pm_H} (hf : fX1_tableAccess_b173 h x0 x1 x3 x5 x6 = some r) (q : Qr none r) : pm_G g 173 [(0, .ref x0), (1, .int x1), (3, .int x3), (5, .int x5), (6, .int x6)] [] h 0 0 := by
  unfold fX1_tableAccess_b173 at hf
  refine pm_aload_n C dX1_tableAccess_173 rfl rfl ?_
  obtain ⟨k53, hf⟩ := pm_if hf
  obtain ⟨v54, e55, hf⟩ := pm_bd hf
  refine pm_getR C dX1_tableAccess_174 flX1_40 rfl k53 e55 ?_
  refine pm_iconst (v := 1) C dX1_tableAccess_177 (by decide) ?_
  refine pm_iload_n C dX1_tableAccess_178 rfl rfl ?_
  refine pm_iconst (v := 1) C dX1_tableAccess_179 (by decide) ?_
  obtain ⟨k56, hf⟩ := pm_if hf
  obtain ⟨v57, e58, hf⟩ := pm_bd hf
  refine pm_callV (as := [.int 1, .int x3, .int 1]) (st := []) C X dX1_tableAccess_180 lnX1_122 myX7_of viX7_of ⟨by decide, by decide⟩ rfl rfl k56 (Nat.le_of_ble_eq_true rfl) (Nat.le_refl _) (Nat.le_refl _) (ctX7_of e58 ?_)
  show pm_G g 183 [(0, .ref x0), (1, .int x1), (3, .int x3), (5, .int x5), (6, .int x6)] [.long v57] h 0 0
  refine pm_iload C dX1_tableAccess_183 rfl ?_
  refine pm_i2l C dX1_tableAccess_185 ?_
  refine pm_lcmp C dX1_tableAccess_186 ?_
  refine pm_if_ne (tgt := 194) C dX1_tableAccess_187 (by decide) (fun c59 => ?_) (fun c59 => ?_)
  · have hf := pm_ie hf ((fun z => c59 ((pm_lg_eq _ _).mpr z)))
    refine pm_iconst (v := 0) C dX1_tableAccess_194 (by decide) ?_
    exact pm_sub [0, 1, 3, 4] rfl (bX1_tableAccess_195 C X hf q)
  · have hf := pm_it hf ((pm_lg_eq _ _).mp c59)
    exact pm_sub [0, 1, 3, 4] rfl (bX1_tableAccess_190 C X hf q)
set_option maxHeartbeats 4000000 in
set_option maxRecDepth 100000 in
theorem bX1_tableAccess_157 {g : pm_Gm} {l : Launch} {G : pm_Gl} {Qr : Option Value → pm_H → Prop} (C : pm_C g cX1_tableAccess RX1) (X : pm_X g l G mX1_tableAccess 0 0 Qr) {h : pm_H} {x0 : Nat} {x1 : Int32} {x3 : Int32} {x5 : Int32} {s0 : Int32} {r : pm_H} (hf : fX1_tableAccess_b157 h x0 x1 x3 x5 s0 = some r) (q : Qr none r) : pm_G g 157 [(0, .ref x0), (1, .int x1), (3, .int x3), (5, .int x5)] [.int s0] h 0 0 := by
  unfold fX1_tableAccess_b157 at hf
  refine pm_istore (lv' := [(6, .int s0), (0, .ref x0), (1, .int x1), (3, .int x3), (5, .int x5)]) C dX1_tableAccess_157 (pm_nl X (by decide)) rfl ?_
  refine pm_iload_n C dX1_tableAccess_159 rfl rfl ?_
  refine pm_sipush (v := 312) C dX1_tableAccess_160 (by decide) ?_
  refine pm_icmp_eq (tgt := 173) C dX1_tableAccess_163 (by decide) (fun c51 => ?_) (fun c51 => ?_)
  · have hf := pm_it hf c51
    exact pm_sub [1, 2, 3, 4, 0] rfl (bX1_tableAccess_173 C X hf q)
  · have hf := pm_ie hf c51
    refine pm_iload_n C dX1_tableAccess_166 rfl rfl ?_
    refine pm_sipush (v := 314) C dX1_tableAccess_167 (by decide) ?_
    refine pm_icmp_ne (tgt := 190) C dX1_tableAccess_170 (by decide) (fun c52 => ?_) (fun c52 => ?_)
    · have hf := pm_ie hf c52
      exact pm_sub [1, 2, 4, 0] rfl (bX1_tableAccess_190 C X hf q)
    · have hf := pm_it hf c52
      exact pm_sub [1, 2, 3, 4, 0] rfl (bX1_tableAccess_173 C X hf q)
set_option maxHeartbeats 4000000 in
set_option maxRecDepth 100000 in
theorem bX1_tableAccess_122 {g : pm_Gm} {l : Launch} {G : pm_Gl} {Qr : Option Value → pm_H → Prop} (C : pm_C g cX1_tableAccess RX1) (X : pm_X g l G mX1_tableAccess 0 0 Qr) {h : pm_H} {x0 : Nat} {x1 : Int32} {x2 : Int32} {x3 : Int32} {x4 : Int32} {x5 : Int32} {r : pm_H} (hf : fX1_tableAccess_b122 h x0 x1 x2 x3 x4 x5 = some r) (q : Qr none r) : pm_G g 122 [(0, .ref x0), (1, .int x1), (2, .int x2), (3, .int x3), (4, .int x4), (5, .int x5)] [] h 0 0 := by
  unfold fX1_tableAccess_b122 at hf
  refine pm_iload C dX1_tableAccess_122 rfl ?_
  refine pm_if_eq (tgt := 146) C dX1_tableAccess_124 (by decide) (fun c36 => ?_) (fun c36 => ?_)
  · have hf := pm_it hf c36
    refine pm_aload_n C dX1_tableAccess_146 rfl rfl ?_
    obtain ⟨k37, hf⟩ := pm_if hf
    obtain ⟨v38, e39, hf⟩ := pm_bd hf
    refine pm_getR C dX1_tableAccess_147 flX1_40 rfl k37 e39 ?_
    refine pm_iconst (v := 1) C dX1_tableAccess_150 (by decide) ?_
    refine pm_iload_n C dX1_tableAccess_151 rfl rfl ?_
    refine pm_iconst (v := 1) C dX1_tableAccess_152 (by decide) ?_
    obtain ⟨k40, hf⟩ := pm_if hf
    obtain ⟨v41, e42, hf⟩ := pm_bd hf
    refine pm_callV (as := [.int 1, .int x2, .int 1]) (st := []) C X dX1_tableAccess_153 lnX1_122 myX7_of viX7_of ⟨by decide, by decide⟩ rfl rfl k40 (Nat.le_of_ble_eq_true rfl) (Nat.le_refl _) (Nat.le_refl _) (ctX7_of e42 ?_)
    show pm_G g 156 [(0, .ref x0), (1, .int x1), (2, .int x2), (3, .int x3), (4, .int x4), (5, .int x5)] [.long v41] h 0 0
    refine pm_l2i C dX1_tableAccess_156 ?_
    exact pm_sub [0, 1, 3, 5] rfl (bX1_tableAccess_157 C X hf q)
  · have hf := pm_ie hf c36
    refine pm_aload_n C dX1_tableAccess_127 rfl rfl ?_
    obtain ⟨k43, hf⟩ := pm_if hf
    obtain ⟨v44, e45, hf⟩ := pm_bd hf
    refine pm_getR C dX1_tableAccess_128 flX1_40 rfl k43 e45 ?_
    obtain ⟨k46, hf⟩ := pm_if hf
    obtain ⟨v47, e48, hf⟩ := pm_bd hf
    refine pm_getR C dX1_tableAccess_131 flX1_178 rfl k46 e48 ?_
    refine pm_iload_n C dX1_tableAccess_134 rfl rfl ?_
    refine pm_bipush (v := 7) C dX1_tableAccess_135 (by decide) ?_
    refine pm_imul C dX1_tableAccess_137 ?_
    refine pm_iconst (v := 5) C dX1_tableAccess_138 (by decide) ?_
    refine pm_iadd C dX1_tableAccess_139 ?_
    obtain ⟨v49, e50, hf⟩ := pm_bd hf
    refine pm_callS (as := [.ref v47, .int ((x2 * 7) + 5)]) (st := []) C X dX1_tableAccess_140 lnX1_105 myX12_item stX12_item ⟨by decide, by decide⟩ rfl rfl (Nat.le_of_ble_eq_true rfl) (Nat.le_refl _) (Nat.le_refl _) (ctX12_item e50 ?_)
    show pm_G g 143 [(0, .ref x0), (1, .int x1), (2, .int x2), (3, .int x3), (4, .int x4), (5, .int x5)] [.int v49] h 0 0
    refine pm_goto (tgt := 157) C dX1_tableAccess_143 (by decide) ?_
    exact pm_sub [0, 1, 3, 5] rfl (bX1_tableAccess_157 C X hf q)
set_option maxHeartbeats 4000000 in
set_option maxRecDepth 100000 in
theorem bX1_tableAccess_120 {g : pm_Gm} {l : Launch} {G : pm_Gl} {Qr : Option Value → pm_H → Prop} (C : pm_C g cX1_tableAccess RX1) (X : pm_X g l G mX1_tableAccess 0 0 Qr) {h : pm_H} {x0 : Nat} {x1 : Int32} {x2 : Int32} {x3 : Int32} {x4 : Int32} {s0 : Int32} {r : pm_H} (hf : fX1_tableAccess_b120 h x0 x1 x2 x3 x4 s0 = some r) (q : Qr none r) : pm_G g 120 [(0, .ref x0), (1, .int x1), (2, .int x2), (3, .int x3), (4, .int x4)] [.int s0] h 0 0 := by
  unfold fX1_tableAccess_b120 at hf
  refine pm_istore (lv' := [(5, .int s0), (0, .ref x0), (1, .int x1), (2, .int x2), (3, .int x3), (4, .int x4)]) C dX1_tableAccess_120 (pm_nl X (by decide)) rfl ?_
  exact pm_sub [1, 2, 3, 4, 5, 0] rfl (bX1_tableAccess_122 C X hf q)
set_option maxHeartbeats 4000000 in
set_option maxRecDepth 100000 in
theorem bX1_tableAccess_119 {g : pm_Gm} {l : Launch} {G : pm_Gl} {Qr : Option Value → pm_H → Prop} (C : pm_C g cX1_tableAccess RX1) (X : pm_X g l G mX1_tableAccess 0 0 Qr) {h : pm_H} {x0 : Nat} {x1 : Int32} {x2 : Int32} {x3 : Int32} {x4 : Int32} {r : pm_H} (hf : fX1_tableAccess_b119 h x0 x1 x2 x3 x4 = some r) (q : Qr none r) : pm_G g 119 [(0, .ref x0), (1, .int x1), (2, .int x2), (3, .int x3), (4, .int x4)] [] h 0 0 := by
  unfold fX1_tableAccess_b119 at hf
  refine pm_iconst (v := 0) C dX1_tableAccess_119 (by decide) ?_
  exact pm_sub [0, 1, 2, 3, 4] rfl (bX1_tableAccess_120 C X hf q)
set_option maxHeartbeats 4000000 in
set_option maxRecDepth 100000 in
theorem bX1_tableAccess_97 {g : pm_Gm} {l : Launch} {G : pm_Gl} {Qr : Option Value → pm_H → Prop} (C : pm_C g cX1_tableAccess RX1) (X : pm_X g l G mX1_tableAccess 0 0 Qr) {h : pm_H} {x0 : Nat} {x1 : Int32} {x2 : Int32} {x3 : Int32} {x4 : Int32} {x5 : Int32} {r : pm_H} (hf : fX1_tableAccess_b97 h x0 x1 x2 x3 x4 x5 = some r) (q : Qr none r) : pm_G g 97 [(0, .ref x0), (1, .int x1), (2, .int x2), (3, .int x3), (4, .int x4), (5, .int x5)] [] h 0 0 := by
  unfold fX1_tableAccess_b97 at hf
  refine pm_iload C dX1_tableAccess_97 rfl ?_
  refine pm_if_eq (tgt := 119) C dX1_tableAccess_99 (by decide) (fun c28 => ?_) (fun c28 => ?_)
  · have hf := pm_it hf c28
    exact pm_sub [0, 1, 2, 3, 4] rfl (bX1_tableAccess_119 C X hf q)
  · have hf := pm_ie hf c28
    refine pm_aload_n C dX1_tableAccess_102 rfl rfl ?_
    obtain ⟨k29, hf⟩ := pm_if hf
    obtain ⟨v30, e31, hf⟩ := pm_bd hf
    refine pm_getR C dX1_tableAccess_103 flX1_40 rfl k29 e31 ?_
    refine pm_iconst (v := 1) C dX1_tableAccess_106 (by decide) ?_
    refine pm_iload_n C dX1_tableAccess_107 rfl rfl ?_
    refine pm_i2l C dX1_tableAccess_108 ?_
    obtain ⟨k32, hf⟩ := pm_if hf
    obtain ⟨v33, e34, hf⟩ := pm_bd hf
    refine pm_callV (as := [.int 1, .long x3.toInt64]) (st := []) C X dX1_tableAccess_109 lnX1_146 myX7_has viX7_has ⟨by decide, by decide⟩ rfl rfl k32 (Nat.le_of_ble_eq_true rfl) (Nat.le_refl _) (Nat.le_refl _) (ctX7_has e34 ?_)
    show pm_G g 112 [(0, .ref x0), (1, .int x1), (2, .int x2), (3, .int x3), (4, .int x4), (5, .int x5)] [.int v33] h 0 0
    refine pm_if_eq (tgt := 119) C dX1_tableAccess_112 (by decide) (fun c35 => ?_) (fun c35 => ?_)
    · have hf := pm_it hf c35
      exact pm_sub [0, 1, 2, 3, 4] rfl (bX1_tableAccess_119 C X hf q)
    · have hf := pm_ie hf c35
      refine pm_iconst (v := 1) C dX1_tableAccess_115 (by decide) ?_
      refine pm_goto (tgt := 120) C dX1_tableAccess_116 (by decide) ?_
      exact pm_sub [0, 1, 2, 3, 4] rfl (bX1_tableAccess_120 C X hf q)
set_option maxHeartbeats 4000000 in
set_option maxRecDepth 100000 in
theorem bX1_tableAccess_81 {g : pm_Gm} {l : Launch} {G : pm_Gl} {Qr : Option Value → pm_H → Prop} (C : pm_C g cX1_tableAccess RX1) (X : pm_X g l G mX1_tableAccess 0 0 Qr) {h : pm_H} {x0 : Nat} {x1 : Int32} {x2 : Int32} {x3 : Int32} {x4 : Int32} {s0 : Int32} {r : pm_H} (hf : fX1_tableAccess_b81 h x0 x1 x2 x3 x4 s0 = some r) (q : Qr none r) : pm_G g 81 [(0, .ref x0), (1, .int x1), (2, .int x2), (3, .int x3), (4, .int x4)] [.int s0] h 0 0 := by
  unfold fX1_tableAccess_b81 at hf
  refine pm_istore (lv' := [(5, .int s0), (0, .ref x0), (1, .int x1), (2, .int x2), (3, .int x3), (4, .int x4)]) C dX1_tableAccess_81 (pm_nl X (by decide)) rfl ?_
  refine pm_iload_n C dX1_tableAccess_83 rfl rfl ?_
  refine pm_sipush (v := 312) C dX1_tableAccess_84 (by decide) ?_
  refine pm_icmp_eq (tgt := 97) C dX1_tableAccess_87 (by decide) (fun c26 => ?_) (fun c26 => ?_)
  · have hf := pm_it hf c26
    exact pm_sub [1, 2, 3, 4, 5, 0] rfl (bX1_tableAccess_97 C X hf q)
  · have hf := pm_ie hf c26
    refine pm_iload_n C dX1_tableAccess_90 rfl rfl ?_
    refine pm_sipush (v := 314) C dX1_tableAccess_91 (by decide) ?_
    refine pm_icmp_ne (tgt := 122) C dX1_tableAccess_94 (by decide) (fun c27 => ?_) (fun c27 => ?_)
    · have hf := pm_ie hf c27
      exact pm_sub [1, 2, 3, 4, 5, 0] rfl (bX1_tableAccess_122 C X hf q)
    · have hf := pm_it hf c27
      exact pm_sub [1, 2, 3, 4, 5, 0] rfl (bX1_tableAccess_97 C X hf q)
set_option maxHeartbeats 4000000 in
set_option maxRecDepth 100000 in
theorem bX1_tableAccess_41 {g : pm_Gm} {l : Launch} {G : pm_Gl} {Qr : Option Value → pm_H → Prop} (C : pm_C g cX1_tableAccess RX1) (X : pm_X g l G mX1_tableAccess 0 0 Qr) {h : pm_H} {x0 : Nat} {x1 : Int32} {x2 : Int32} {x3 : Int32} {s0 : Int32} {r : pm_H} (hf : fX1_tableAccess_b41 h x0 x1 x2 x3 s0 = some r) (q : Qr none r) : pm_G g 41 [(0, .ref x0), (1, .int x1), (2, .int x2), (3, .int x3)] [.int s0] h 0 0 := by
  unfold fX1_tableAccess_b41 at hf
  refine pm_istore (lv' := [(4, .int s0), (0, .ref x0), (1, .int x1), (2, .int x2), (3, .int x3)]) C dX1_tableAccess_41 (pm_nl X (by decide)) rfl ?_
  refine pm_iload C dX1_tableAccess_43 rfl ?_
  refine pm_if_eq (tgt := 71) C dX1_tableAccess_45 (by decide) (fun c11 => ?_) (fun c11 => ?_)
  · have hf := pm_it hf c11
    refine pm_aload_n C dX1_tableAccess_71 rfl rfl ?_
    obtain ⟨k12, hf⟩ := pm_if hf
    obtain ⟨v13, e14, hf⟩ := pm_bd hf
    refine pm_getR C dX1_tableAccess_72 flX1_40 rfl k12 e14 ?_
    refine pm_iconst (v := 1) C dX1_tableAccess_75 (by decide) ?_
    refine pm_iload_n C dX1_tableAccess_76 rfl rfl ?_
    refine pm_i2l C dX1_tableAccess_77 ?_
    obtain ⟨k15, hf⟩ := pm_if hf
    obtain ⟨v16, e17, hf⟩ := pm_bd hf
    refine pm_callV (as := [.int 1, .long x2.toInt64]) (st := []) C X dX1_tableAccess_78 lnX1_146 myX7_has viX7_has ⟨by decide, by decide⟩ rfl rfl k15 (Nat.le_of_ble_eq_true rfl) (Nat.le_refl _) (Nat.le_refl _) (ctX7_has e17 ?_)
    show pm_G g 81 [(4, .int s0), (0, .ref x0), (1, .int x1), (2, .int x2), (3, .int x3)] [.int v16] h 0 0
    exact pm_sub [1, 2, 3, 4, 0] rfl (bX1_tableAccess_81 C X hf q)
  · have hf := pm_ie hf c11
    refine pm_iload_n C dX1_tableAccess_48 rfl rfl ?_
    refine pm_aload_n C dX1_tableAccess_49 rfl rfl ?_
    obtain ⟨k18, hf⟩ := pm_if hf
    obtain ⟨v19, e20, hf⟩ := pm_bd hf
    refine pm_getR C dX1_tableAccess_50 flX1_40 rfl k18 e20 ?_
    obtain ⟨k21, hf⟩ := pm_if hf
    obtain ⟨v22, e23, hf⟩ := pm_bd hf
    refine pm_getR C dX1_tableAccess_53 flX1_178 rfl k21 e23 ?_
    obtain ⟨k24, hf⟩ := pm_if hf
    refine pm_alen (t := 2) C dX1_tableAccess_56 (by decide) k24 rfl ?_
    refine pm_bipush (v := 7) C dX1_tableAccess_57 (by decide) ?_
    refine pm_idiv C dX1_tableAccess_59 (by decide) ?_
    refine pm_icmp_ge (tgt := 67) C dX1_tableAccess_60 (by decide) (fun c25 => ?_) (fun c25 => ?_)
    · have hf := pm_it hf c25
      refine pm_iconst (v := 0) C dX1_tableAccess_67 (by decide) ?_
      refine pm_goto (tgt := 81) C dX1_tableAccess_68 (by decide) ?_
      exact pm_sub [1, 2, 3, 4, 0] rfl (bX1_tableAccess_81 C X hf q)
    · have hf := pm_ie hf c25
      refine pm_iconst (v := 1) C dX1_tableAccess_63 (by decide) ?_
      refine pm_goto (tgt := 81) C dX1_tableAccess_64 (by decide) ?_
      exact pm_sub [1, 2, 3, 4, 0] rfl (bX1_tableAccess_81 C X hf q)
set_option maxHeartbeats 4000000 in
set_option maxRecDepth 100000 in
theorem bX1_tableAccess_36 {g : pm_Gm} {l : Launch} {G : pm_Gl} {Qr : Option Value → pm_H → Prop} (C : pm_C g cX1_tableAccess RX1) (X : pm_X g l G mX1_tableAccess 0 0 Qr) {h : pm_H} {x0 : Nat} {x1 : Int32} {x2 : Int32} {x3 : Int32} {r : pm_H} (hf : fX1_tableAccess_b36 h x0 x1 x2 x3 = some r) (q : Qr none r) : pm_G g 36 [(0, .ref x0), (1, .int x1), (2, .int x2), (3, .int x3)] [] h 0 0 := by
  unfold fX1_tableAccess_b36 at hf
  refine pm_iconst (v := 1) C dX1_tableAccess_36 (by decide) ?_
  refine pm_goto (tgt := 41) C dX1_tableAccess_37 (by decide) ?_
  exact pm_sub [0, 1, 2, 3] rfl (bX1_tableAccess_41 C X hf q)
set_option maxHeartbeats 4000000 in
set_option maxRecDepth 100000 in
theorem ctX1_tableAccess {l : Launch} {G : pm_Gl} {h : pm_H} {a0 : Nat} {p1 : Int32} {r : pm_H} {Qr : Option Value → pm_H → Prop} (hf : fX1_tableAccess h a0 p1 = some r) (q : Qr none r) : pm_Ct l G mX1_tableAccess [.ref a0, .int p1] h 0 0 Qr := by
  refine pm_body pnX1 (Nat.le_of_ble_eq_true rfl) (fun g C X => ?_)
  have C : pm_C g cX1_tableAccess RX1 := C
  show pm_G g 0 [(0, .ref a0), (1, .int p1)] [] h 0 0
  unfold fX1_tableAccess at hf
  refine pm_aload_n C dX1_tableAccess_0 rfl rfl ?_
  obtain ⟨k1, hf⟩ := pm_if hf
  obtain ⟨v2, e3, hf⟩ := pm_bd hf
  refine pm_getR C dX1_tableAccess_1 flX1_36 rfl k1 e3 ?_
  obtain ⟨k4, hf⟩ := pm_if hf
  refine pm_getL C dX1_tableAccess_4 flX1_201 rfl k4 rfl ?_
  obtain ⟨v5, e6, hf⟩ := pm_lt hf
  refine pm_callS (as := [.long (pm_L h v2 8)]) (st := []) C X dX1_tableAccess_7 lnX1_418 myX12_index stX12_index ⟨by decide, by decide⟩ rfl rfl (Nat.le_of_ble_eq_true rfl) (Nat.le_refl _) (Nat.le_refl _) (ctX12_index e6 ?_)
  show pm_G g 10 [(0, .ref a0), (1, .int p1)] [.int v5] h 0 0
  refine pm_istore_n (lv' := [(2, .int v5), (0, .ref a0), (1, .int p1)]) C dX1_tableAccess_10 rfl (pm_nl X (by decide)) rfl ?_
  refine pm_aload_n C dX1_tableAccess_11 rfl rfl ?_
  refine pm_getR C dX1_tableAccess_12 flX1_36 rfl k1 e3 ?_
  refine pm_getL C dX1_tableAccess_15 flX1_325 rfl k4 rfl ?_
  obtain ⟨v7, e8, hf⟩ := pm_lt hf
  refine pm_callS (as := [.long (pm_L h v2 9)]) (st := []) C X dX1_tableAccess_18 lnX1_418 myX12_index stX12_index ⟨by decide, by decide⟩ rfl rfl (Nat.le_of_ble_eq_true rfl) (Nat.le_refl _) (Nat.le_refl _) (ctX12_index e8 ?_)
  show pm_G g 21 [(2, .int v5), (0, .ref a0), (1, .int p1)] [.int v7] h 0 0
  refine pm_istore_n (lv' := [(3, .int v7), (2, .int v5), (0, .ref a0), (1, .int p1)]) C dX1_tableAccess_21 rfl (pm_nl X (by decide)) rfl ?_
  refine pm_iload_n C dX1_tableAccess_22 rfl rfl ?_
  refine pm_sipush (v := 312) C dX1_tableAccess_23 (by decide) ?_
  refine pm_icmp_eq (tgt := 36) C dX1_tableAccess_26 (by decide) (fun c9 => ?_) (fun c9 => ?_)
  · have hf := pm_it hf c9
    exact pm_sub [2, 3, 1, 0] rfl (bX1_tableAccess_36 C X hf q)
  · have hf := pm_ie hf c9
    refine pm_iload_n C dX1_tableAccess_29 rfl rfl ?_
    refine pm_sipush (v := 313) C dX1_tableAccess_30 (by decide) ?_
    refine pm_icmp_ne (tgt := 40) C dX1_tableAccess_33 (by decide) (fun c10 => ?_) (fun c10 => ?_)
    · have hf := pm_ie hf c10
      refine pm_iconst (v := 0) C dX1_tableAccess_40 (by decide) ?_
      exact pm_sub [2, 3, 1, 0] rfl (bX1_tableAccess_41 C X hf q)
    · have hf := pm_it hf c10
      exact pm_sub [2, 3, 1, 0] rfl (bX1_tableAccess_36 C X hf q)
theorem dX1_takeParameters_0 : decode cX1_takeParameters 0 = .ok (.aload_n 0, 1) := by decide +kernel
theorem dX1_takeParameters_1 : decode cX1_takeParameters 1 = .ok (.aload_n 1, 1) := by decide +kernel
theorem dX1_takeParameters_2 : decode cX1_takeParameters 2 = .ok (.iconst 2, 1) := by decide +kernel
theorem dX1_takeParameters_3 : decode cX1_takeParameters 3 = .ok (.aload_n 1, 1) := by decide +kernel
theorem dX1_takeParameters_4 : decode cX1_takeParameters 4 = .ok (.iconst 0, 1) := by decide +kernel
theorem dX1_takeParameters_5 : decode cX1_takeParameters 5 = .ok (.invokestatic 105, 3) := by decide +kernel
theorem dX1_takeParameters_8 : decode cX1_takeParameters 8 = .ok (.invokevirtual 295, 3) := by decide +kernel
theorem dX1_takeParameters_11 : decode cX1_takeParameters 11 = .ok (.return_, 1) := by decide +kernel
noncomputable def fX1_takeParameters (h : pm_H) (a0 : Nat) (p1 : Nat) : Option pm_H := (fX12_item h p1 0).bind fun v1 => if pm_kd h a0 = 1 then (fX1_takeTypes h a0 p1 2 v1).bind fun v4 => some v4 else none
set_option maxHeartbeats 4000000 in
set_option maxRecDepth 100000 in
theorem ctX1_takeParameters {l : Launch} {G : pm_Gl} {h : pm_H} {a0 : Nat} {p1 : Nat} {r : pm_H} {Qr : Option Value → pm_H → Prop} (hf : fX1_takeParameters h a0 p1 = some r) (q : Qr none r) : pm_Ct l G mX1_takeParameters [.ref a0, .ref p1] h 0 0 Qr := by
  refine pm_body pnX1 (Nat.le_of_ble_eq_true rfl) (fun g C X => ?_)
  have C : pm_C g cX1_takeParameters RX1 := C
  show pm_G g 0 [(0, .ref a0), (1, .ref p1)] [] h 0 0
  unfold fX1_takeParameters at hf
  refine pm_aload_n C dX1_takeParameters_0 rfl rfl ?_
  refine pm_aload_n C dX1_takeParameters_1 rfl rfl ?_
  refine pm_iconst (v := 2) C dX1_takeParameters_2 (by decide) ?_
  refine pm_aload_n C dX1_takeParameters_3 rfl rfl ?_
  refine pm_iconst (v := 0) C dX1_takeParameters_4 (by decide) ?_
  obtain ⟨v1, e2, hf⟩ := pm_bd hf
  refine pm_callS (as := [.ref p1, .int 0]) (st := [.int 2, .ref p1, .ref a0]) C X dX1_takeParameters_5 lnX1_105 myX12_item stX12_item ⟨by decide, by decide⟩ rfl rfl (Nat.le_of_ble_eq_true rfl) (Nat.le_refl _) (Nat.le_refl _) (ctX12_item e2 ?_)
  show pm_G g 8 [(0, .ref a0), (1, .ref p1)] [.int v1, .int 2, .ref p1, .ref a0] h 0 0
  obtain ⟨k3, hf⟩ := pm_if hf
  obtain ⟨v4, e5, hf⟩ := pm_bd hf
  refine pm_callV (as := [.ref p1, .int 2, .int v1]) (st := []) C X dX1_takeParameters_8 lnX1_295 myX1_takeTypes viX1_takeTypes ⟨by decide, by decide⟩ rfl rfl k3 (Nat.le_of_ble_eq_true rfl) (Nat.le_refl _) (Nat.le_refl _) (ctX1_takeTypes e5 ?_)
  show pm_G g 11 [(0, .ref a0), (1, .ref p1)] [] v4 0 0
  cases hf
  exact pm_vret C X dX1_takeParameters_11 rfl (Nat.le_refl _) (Nat.le_refl _) q
theorem dX1_typesAreThere_0 : decode cX1_typesAreThere 0 = .ok (.iconst 0, 1) := by decide +kernel
theorem dX1_typesAreThere_1 : decode cX1_typesAreThere 1 = .ok (.istore_n 1, 1) := by decide +kernel
theorem dX1_typesAreThere_2 : decode cX1_typesAreThere 2 = .ok (.iconst 0, 1) := by decide +kernel
theorem dX1_typesAreThere_3 : decode cX1_typesAreThere 3 = .ok (.istore_n 2, 1) := by decide +kernel
theorem dX1_typesAreThere_4 : decode cX1_typesAreThere 4 = .ok (.iload_n 2, 1) := by decide +kernel
theorem dX1_typesAreThere_5 : decode cX1_typesAreThere 5 = .ok (.aload_n 0, 1) := by decide +kernel
theorem dX1_typesAreThere_6 : decode cX1_typesAreThere 6 = .ok (.getfield 40, 3) := by decide +kernel
theorem dX1_typesAreThere_9 : decode cX1_typesAreThere 9 = .ok (.getfield 109, 3) := by decide +kernel
theorem dX1_typesAreThere_12 : decode cX1_typesAreThere 12 = .ok (.arraylength, 1) := by decide +kernel
theorem dX1_typesAreThere_13 : decode cX1_typesAreThere 13 = .ok (.if_icmp .ge 66, 3) := by decide +kernel
theorem dX1_typesAreThere_16 : decode cX1_typesAreThere 16 = .ok (.aload_n 0, 1) := by decide +kernel
theorem dX1_typesAreThere_17 : decode cX1_typesAreThere 17 = .ok (.getfield 40, 3) := by decide +kernel
theorem dX1_typesAreThere_20 : decode cX1_typesAreThere 20 = .ok (.getfield 109, 3) := by decide +kernel
theorem dX1_typesAreThere_23 : decode cX1_typesAreThere 23 = .ok (.iload_n 2, 1) := by decide +kernel
theorem dX1_typesAreThere_24 : decode cX1_typesAreThere 24 = .ok (.iconst 0, 1) := by decide +kernel
theorem dX1_typesAreThere_25 : decode cX1_typesAreThere 25 = .ok (.iadd, 1) := by decide +kernel
theorem dX1_typesAreThere_26 : decode cX1_typesAreThere 26 = .ok (.invokestatic 113, 3) := by decide +kernel
theorem dX1_typesAreThere_29 : decode cX1_typesAreThere 29 = .ok (.lconst 0, 1) := by decide +kernel
theorem dX1_typesAreThere_30 : decode cX1_typesAreThere 30 = .ok (.lcmp, 1) := by decide +kernel
theorem dX1_typesAreThere_31 : decode cX1_typesAreThere 31 = .ok (.ifCond .eq 6, 3) := by decide +kernel
theorem dX1_typesAreThere_34 : decode cX1_typesAreThere 34 = .ok (.goto 39, 3) := by decide +kernel
theorem dX1_typesAreThere_37 : decode cX1_typesAreThere 37 = .ok (.iinc 1 1, 3) := by decide +kernel
theorem dX1_typesAreThere_40 : decode cX1_typesAreThere 40 = .ok (.aload_n 0, 1) := by decide +kernel
theorem dX1_typesAreThere_41 : decode cX1_typesAreThere 41 = .ok (.getfield 40, 3) := by decide +kernel
theorem dX1_typesAreThere_44 : decode cX1_typesAreThere 44 = .ok (.getfield 109, 3) := by decide +kernel
theorem dX1_typesAreThere_47 : decode cX1_typesAreThere 47 = .ok (.iload_n 2, 1) := by decide +kernel
theorem dX1_typesAreThere_48 : decode cX1_typesAreThere 48 = .ok (.iconst 1, 1) := by decide +kernel
theorem dX1_typesAreThere_49 : decode cX1_typesAreThere 49 = .ok (.iadd, 1) := by decide +kernel
theorem dX1_typesAreThere_50 : decode cX1_typesAreThere 50 = .ok (.invokestatic 113, 3) := by decide +kernel
theorem dX1_typesAreThere_53 : decode cX1_typesAreThere 53 = .ok (.aload_n 0, 1) := by decide +kernel
theorem dX1_typesAreThere_54 : decode cX1_typesAreThere 54 = .ok (.getfield 40, 3) := by decide +kernel
theorem dX1_typesAreThere_57 : decode cX1_typesAreThere 57 = .ok (.getfield 116, 3) := by decide +kernel
theorem dX1_typesAreThere_60 : decode cX1_typesAreThere 60 = .ok (.arraylength, 1) := by decide +kernel
theorem dX1_typesAreThere_61 : decode cX1_typesAreThere 61 = .ok (.i2l, 1) := by decide +kernel
theorem dX1_typesAreThere_62 : decode cX1_typesAreThere 62 = .ok (.lcmp, 1) := by decide +kernel
theorem dX1_typesAreThere_63 : decode cX1_typesAreThere 63 = .ok (.ifCond .lt 10, 3) := by decide +kernel
theorem dX1_typesAreThere_66 : decode cX1_typesAreThere 66 = .ok (.aload_n 0, 1) := by decide +kernel
theorem dX1_typesAreThere_67 : decode cX1_typesAreThere 67 = .ok (.bipush 20, 2) := by decide +kernel
theorem dX1_typesAreThere_69 : decode cX1_typesAreThere 69 = .ok (.iconst 2, 1) := by decide +kernel
theorem dX1_typesAreThere_70 : decode cX1_typesAreThere 70 = .ok (.invokevirtual 119, 3) := by decide +kernel
theorem dX1_typesAreThere_73 : decode cX1_typesAreThere 73 = .ok (.iinc 2 6, 3) := by decide +kernel
theorem dX1_typesAreThere_76 : decode cX1_typesAreThere 76 = .ok (.goto (-72), 3) := by decide +kernel
theorem dX1_typesAreThere_79 : decode cX1_typesAreThere 79 = .ok (.iload_n 1, 1) := by decide +kernel
theorem dX1_typesAreThere_80 : decode cX1_typesAreThere 80 = .ok (.istore_n 2, 1) := by decide +kernel
theorem dX1_typesAreThere_81 : decode cX1_typesAreThere 81 = .ok (.iload_n 2, 1) := by decide +kernel
theorem dX1_typesAreThere_82 : decode cX1_typesAreThere 82 = .ok (.aload_n 0, 1) := by decide +kernel
theorem dX1_typesAreThere_83 : decode cX1_typesAreThere 83 = .ok (.getfield 40, 3) := by decide +kernel
theorem dX1_typesAreThere_86 : decode cX1_typesAreThere 86 = .ok (.iconst 0, 1) := by decide +kernel
theorem dX1_typesAreThere_87 : decode cX1_typesAreThere 87 = .ok (.invokevirtual 60, 3) := by decide +kernel
theorem dX1_typesAreThere_90 : decode cX1_typesAreThere 90 = .ok (.if_icmp .ge 39, 3) := by decide +kernel
theorem dX1_typesAreThere_93 : decode cX1_typesAreThere 93 = .ok (.aload_n 0, 1) := by decide +kernel
theorem dX1_typesAreThere_94 : decode cX1_typesAreThere 94 = .ok (.getfield 40, 3) := by decide +kernel
theorem dX1_typesAreThere_97 : decode cX1_typesAreThere 97 = .ok (.iconst 0, 1) := by decide +kernel
theorem dX1_typesAreThere_98 : decode cX1_typesAreThere 98 = .ok (.iload_n 2, 1) := by decide +kernel
theorem dX1_typesAreThere_99 : decode cX1_typesAreThere 99 = .ok (.iconst 1, 1) := by decide +kernel
theorem dX1_typesAreThere_100 : decode cX1_typesAreThere 100 = .ok (.invokevirtual 122, 3) := by decide +kernel
theorem dX1_typesAreThere_103 : decode cX1_typesAreThere 103 = .ok (.aload_n 0, 1) := by decide +kernel
theorem dX1_typesAreThere_104 : decode cX1_typesAreThere 104 = .ok (.getfield 40, 3) := by decide +kernel
theorem dX1_typesAreThere_107 : decode cX1_typesAreThere 107 = .ok (.getfield 116, 3) := by decide +kernel
theorem dX1_typesAreThere_110 : decode cX1_typesAreThere 110 = .ok (.arraylength, 1) := by decide +kernel
theorem dX1_typesAreThere_111 : decode cX1_typesAreThere 111 = .ok (.i2l, 1) := by decide +kernel
theorem dX1_typesAreThere_112 : decode cX1_typesAreThere 112 = .ok (.lcmp, 1) := by decide +kernel
theorem dX1_typesAreThere_113 : decode cX1_typesAreThere 113 = .ok (.ifCond .lt 10, 3) := by decide +kernel
theorem dX1_typesAreThere_116 : decode cX1_typesAreThere 116 = .ok (.aload_n 0, 1) := by decide +kernel
theorem dX1_typesAreThere_117 : decode cX1_typesAreThere 117 = .ok (.bipush 20, 2) := by decide +kernel
theorem dX1_typesAreThere_119 : decode cX1_typesAreThere 119 = .ok (.iconst 3, 1) := by decide +kernel
theorem dX1_typesAreThere_120 : decode cX1_typesAreThere 120 = .ok (.invokevirtual 119, 3) := by decide +kernel
theorem dX1_typesAreThere_123 : decode cX1_typesAreThere 123 = .ok (.iinc 2 1, 3) := by decide +kernel
theorem dX1_typesAreThere_126 : decode cX1_typesAreThere 126 = .ok (.goto (-45), 3) := by decide +kernel
theorem dX1_typesAreThere_129 : decode cX1_typesAreThere 129 = .ok (.return_, 1) := by decide +kernel
def tX1_typesAreThere_4 (x0 : Nat) (x1 : Int32) (x2 : Int32) (h : pm_H) : Option (((Nat × Int32 × Int32 × pm_H) ⊕ (Nat × Int32 × pm_H)) ⊕ pm_H) := if pm_kd h x0 = 1 then (pm_R h x0 2).bind fun v2 => if pm_kd h v2 = 7 then (pm_R h v2 3).bind fun v5 => if pm_kd h v5 = 35 then if (Int32.ofNat (pm_ln h v5)) ≤ x2 then (some (.inl (.inr ((x0, x1, h))))) else ((fX12_item_ h v5 (x2 + 0)).bind fun v9 => if v9 = 0 then (pm_let (x1 + 1) fun y12 => (fX12_item_ h v5 (x2 + 1)).bind fun v14 => (pm_R h v2 2).bind fun v16 => if pm_kd h v16 = 36 then if v14 < ((Int32.ofNat (pm_ln h v16)).toInt64) then (pm_let (x2 + 6) fun y20 => some (.inl (.inl ((x0, y12, y20, h))))) else ((fX1_failSection h x0 20 2).bind fun v22 => pm_let (x2 + 6) fun y24 => some (.inl (.inl ((x0, y12, y24, v22))))) else none) else (pm_let (x2 + 6) fun y26 => some (.inl (.inl ((x0, x1, y26, h)))))) else none else none else none
def tX1_typesAreThere_81 (x0 : Nat) (x2 : Int32) (h : pm_H) : Option (((Nat × Int32 × Int32 × pm_H) ⊕ (Nat × Int32 × pm_H)) ⊕ pm_H) := if pm_kd h x0 = 1 then (pm_R h x0 2).bind fun v29 => if pm_kd h v29 = 7 then (fX7_count h v29 0).bind fun v32 => if v32 ≤ x2 then (some (.inr (h))) else ((fX7_of h v29 0 x2 1).bind fun v35 => (pm_R h v29 2).bind fun v37 => if pm_kd h v37 = 36 then if v35 < ((Int32.ofNat (pm_ln h v37)).toInt64) then (pm_let (x2 + 1) fun y41 => some (.inl (.inr ((x0, y41, h))))) else ((fX1_failSection h x0 20 3).bind fun v43 => pm_let (x2 + 1) fun y45 => some (.inl (.inr ((x0, y45, v43))))) else none) else none else none
def sX1_typesAreThere : ((Nat × Int32 × Int32 × pm_H) ⊕ (Nat × Int32 × pm_H)) → Option (((Nat × Int32 × Int32 × pm_H) ⊕ (Nat × Int32 × pm_H)) ⊕ pm_H) := fun z => match z with
  | .inl (x0, x1, x2, h) => tX1_typesAreThere_4 x0 x1 x2 h
  | .inr (x0, x2, h) => tX1_typesAreThere_81 x0 x2 h
noncomputable def fX1_typesAreThere (h : pm_H) (a0 : Nat) : Option pm_H := pm_lim sX1_typesAreThere (.inl ((a0, 0, 0, h)))
set_option maxHeartbeats 4000000 in
set_option maxRecDepth 100000 in
theorem lpX1_typesAreThere {g : pm_Gm} {l : Launch} {G : pm_Gl} {Qr : Option Value → pm_H → Prop} (C : pm_C g cX1_typesAreThere RX1) (X : pm_X g l G mX1_typesAreThere 0 0 Qr) {r : pm_H} (q : Qr none r) : ∀ n : Nat, (∀ (x0 : Nat) (x1 : Int32) (x2 : Int32) (h : pm_H), pm_iter sX1_typesAreThere n (.inl (x0, x1, x2, h)) = some r → pm_G g 4 [(0, .ref x0), (1, .int x1), (2, .int x2)] [] h 0 0) ∧ (∀ (x0 : Nat) (x2 : Int32) (h : pm_H), pm_iter sX1_typesAreThere n (.inr (x0, x2, h)) = some r → pm_G g 81 [(0, .ref x0), (2, .int x2)] [] h 0 0) := by
  intro n
  induction n with
  | zero => exact ⟨fun _ _ _ _ hf => (by cases hf), fun _ _ _ hf => (by cases hf)⟩
  | succ n ih =>
    refine ⟨fun x0 x1 x2 h hf => ?_, ?_⟩
    · obtain ⟨y, hf, hi⟩ := pm_iter_s hf
      have hf : tX1_typesAreThere_4 x0 x1 x2 h = some y := hf
      unfold tX1_typesAreThere_4 at hf
      refine pm_iload_n C dX1_typesAreThere_4 rfl rfl ?_
      refine pm_aload_n C dX1_typesAreThere_5 rfl rfl ?_
      obtain ⟨k1, hf⟩ := pm_if hf
      obtain ⟨v2, e3, hf⟩ := pm_bd hf
      refine pm_getR C dX1_typesAreThere_6 flX1_40 rfl k1 e3 ?_
      obtain ⟨k4, hf⟩ := pm_if hf
      obtain ⟨v5, e6, hf⟩ := pm_bd hf
      refine pm_getR C dX1_typesAreThere_9 flX1_109 rfl k4 e6 ?_
      obtain ⟨k7, hf⟩ := pm_if hf
      refine pm_alen (t := 3) C dX1_typesAreThere_12 (by decide) k7 rfl ?_
      refine pm_icmp_ge (tgt := 79) C dX1_typesAreThere_13 (by decide) (fun c8 => ?_) (fun c8 => ?_)
      · have hf := pm_it hf c8
        refine pm_iload_n C dX1_typesAreThere_79 rfl rfl ?_
        refine pm_istore_n (lv' := [(2, .int x1), (0, .ref x0), (1, .int x1)]) C dX1_typesAreThere_80 rfl (pm_nl X (by decide)) rfl ?_
        cases hf
        exact pm_sub [1, 0] rfl (ih.2 x0 x1 h hi)
      · have hf := pm_ie hf c8
        refine pm_aload_n C dX1_typesAreThere_16 rfl rfl ?_
        refine pm_getR C dX1_typesAreThere_17 flX1_40 rfl k1 e3 ?_
        refine pm_getR C dX1_typesAreThere_20 flX1_109 rfl k4 e6 ?_
        refine pm_iload_n C dX1_typesAreThere_23 rfl rfl ?_
        refine pm_iconst (v := 0) C dX1_typesAreThere_24 (by decide) ?_
        refine pm_iadd C dX1_typesAreThere_25 ?_
        obtain ⟨v9, e10, hf⟩ := pm_bd hf
        refine pm_callS (as := [.ref v5, .int (x2 + 0)]) (st := []) C X dX1_typesAreThere_26 lnX1_113 myX12_item_ stX12_item_ ⟨by decide, by decide⟩ rfl rfl (Nat.le_of_ble_eq_true rfl) (Nat.le_refl _) (Nat.le_refl _) (ctX12_item_ e10 ?_)
        show pm_G g 29 [(0, .ref x0), (1, .int x1), (2, .int x2)] [.long v9] h 0 0
        refine pm_lconst (v := 0) C dX1_typesAreThere_29 (by decide) ?_
        refine pm_lcmp C dX1_typesAreThere_30 ?_
        refine pm_if_eq (tgt := 37) C dX1_typesAreThere_31 (by decide) (fun c11 => ?_) (fun c11 => ?_)
        · have hf := pm_it hf ((pm_lg_eq _ _).mp c11)
          obtain ⟨y12, e13, hf⟩ := pm_lt hf
          refine pm_iinc (v := y12) (lv' := [(1, .int y12), (0, .ref x0), (2, .int x2)]) C dX1_typesAreThere_37 rfl ((congrArg (x1 + ·) (by decide : Int32.ofInt 1 = 1)).trans e13) (pm_nl X (by decide)) rfl ?_
          refine pm_aload_n C dX1_typesAreThere_40 rfl rfl ?_
          refine pm_getR C dX1_typesAreThere_41 flX1_40 rfl k1 e3 ?_
          refine pm_getR C dX1_typesAreThere_44 flX1_109 rfl k4 e6 ?_
          refine pm_iload_n C dX1_typesAreThere_47 rfl rfl ?_
          refine pm_iconst (v := 1) C dX1_typesAreThere_48 (by decide) ?_
          refine pm_iadd C dX1_typesAreThere_49 ?_
          obtain ⟨v14, e15, hf⟩ := pm_bd hf
          refine pm_callS (as := [.ref v5, .int (x2 + 1)]) (st := []) C X dX1_typesAreThere_50 lnX1_113 myX12_item_ stX12_item_ ⟨by decide, by decide⟩ rfl rfl (Nat.le_of_ble_eq_true rfl) (Nat.le_refl _) (Nat.le_refl _) (ctX12_item_ e15 ?_)
          show pm_G g 53 [(1, .int y12), (0, .ref x0), (2, .int x2)] [.long v14] h 0 0
          refine pm_aload_n C dX1_typesAreThere_53 rfl rfl ?_
          refine pm_getR C dX1_typesAreThere_54 flX1_40 rfl k1 e3 ?_
          obtain ⟨v16, e17, hf⟩ := pm_bd hf
          refine pm_getR C dX1_typesAreThere_57 flX1_116 rfl k4 e17 ?_
          obtain ⟨k18, hf⟩ := pm_if hf
          refine pm_alen (t := 4) C dX1_typesAreThere_60 (by decide) k18 rfl ?_
          refine pm_i2l C dX1_typesAreThere_61 ?_
          refine pm_lcmp C dX1_typesAreThere_62 ?_
          refine pm_if_lt (tgt := 73) C dX1_typesAreThere_63 (by decide) (fun c19 => ?_) (fun c19 => ?_)
          · have hf := pm_it hf ((pm_lg_lt _ _).mp c19)
            obtain ⟨y20, e21, hf⟩ := pm_lt hf
            refine pm_iinc (v := y20) (lv' := [(2, .int y20), (1, .int y12), (0, .ref x0)]) C dX1_typesAreThere_73 rfl ((congrArg (x2 + ·) (by decide : Int32.ofInt 6 = 6)).trans e21) (pm_nl X (by decide)) rfl ?_
            refine pm_goto (tgt := 4) C dX1_typesAreThere_76 (by decide) ?_
            cases hf
            exact pm_sub [2, 1, 0] rfl (ih.1 x0 y12 y20 h hi)
          · have hf := pm_ie hf ((fun z => c19 ((pm_lg_lt _ _).mpr z)))
            refine pm_aload_n C dX1_typesAreThere_66 rfl rfl ?_
            refine pm_bipush (v := 20) C dX1_typesAreThere_67 (by decide) ?_
            refine pm_iconst (v := 2) C dX1_typesAreThere_69 (by decide) ?_
            obtain ⟨v22, e23, hf⟩ := pm_bd hf
            refine pm_callV (as := [.int 20, .int 2]) (st := []) C X dX1_typesAreThere_70 lnX1_119 myX1_failSection viX1_failSection ⟨by decide, by decide⟩ rfl rfl k1 (Nat.le_of_ble_eq_true rfl) (Nat.le_refl _) (Nat.le_refl _) (ctX1_failSection e23 ?_)
            show pm_G g 73 [(1, .int y12), (0, .ref x0), (2, .int x2)] [] v22 0 0
            obtain ⟨y24, e25, hf⟩ := pm_lt hf
            refine pm_iinc (v := y24) (lv' := [(2, .int y24), (1, .int y12), (0, .ref x0)]) C dX1_typesAreThere_73 rfl ((congrArg (x2 + ·) (by decide : Int32.ofInt 6 = 6)).trans e25) (pm_nl X (by decide)) rfl ?_
            refine pm_goto (tgt := 4) C dX1_typesAreThere_76 (by decide) ?_
            cases hf
            exact pm_sub [2, 1, 0] rfl (ih.1 x0 y12 y24 v22 hi)
        · have hf := pm_ie hf ((fun z => c11 ((pm_lg_eq _ _).mpr z)))
          refine pm_goto (tgt := 73) C dX1_typesAreThere_34 (by decide) ?_
          obtain ⟨y26, e27, hf⟩ := pm_lt hf
          refine pm_iinc (v := y26) (lv' := [(2, .int y26), (0, .ref x0), (1, .int x1)]) C dX1_typesAreThere_73 rfl ((congrArg (x2 + ·) (by decide : Int32.ofInt 6 = 6)).trans e27) (pm_nl X (by decide)) rfl ?_
          refine pm_goto (tgt := 4) C dX1_typesAreThere_76 (by decide) ?_
          cases hf
          exact pm_sub [1, 2, 0] rfl (ih.1 x0 x1 y26 h hi)
    refine fun x0 x2 h hf => ?_
    obtain ⟨y, hf, hi⟩ := pm_iter_s hf
    have hf : tX1_typesAreThere_81 x0 x2 h = some y := hf
    unfold tX1_typesAreThere_81 at hf
    refine pm_iload_n C dX1_typesAreThere_81 rfl rfl ?_
    refine pm_aload_n C dX1_typesAreThere_82 rfl rfl ?_
    obtain ⟨k28, hf⟩ := pm_if hf
    obtain ⟨v29, e30, hf⟩ := pm_bd hf
    refine pm_getR C dX1_typesAreThere_83 flX1_40 rfl k28 e30 ?_
    refine pm_iconst (v := 0) C dX1_typesAreThere_86 (by decide) ?_
    obtain ⟨k31, hf⟩ := pm_if hf
    obtain ⟨v32, e33, hf⟩ := pm_bd hf
    refine pm_callV (as := [.int 0]) (st := [.int x2]) C X dX1_typesAreThere_87 lnX1_60 myX7_count viX7_count ⟨by decide, by decide⟩ rfl rfl k31 (Nat.le_of_ble_eq_true rfl) (Nat.le_refl _) (Nat.le_refl _) (ctX7_count e33 ?_)
    show pm_G g 90 [(0, .ref x0), (2, .int x2)] [.int v32, .int x2] h 0 0
    refine pm_icmp_ge (tgt := 129) C dX1_typesAreThere_90 (by decide) (fun c34 => ?_) (fun c34 => ?_)
    · have hf := pm_it hf c34
      cases hf
      cases hi
      exact pm_vret C X dX1_typesAreThere_129 rfl (Nat.le_refl _) (Nat.le_refl _) q
    · have hf := pm_ie hf c34
      refine pm_aload_n C dX1_typesAreThere_93 rfl rfl ?_
      refine pm_getR C dX1_typesAreThere_94 flX1_40 rfl k28 e30 ?_
      refine pm_iconst (v := 0) C dX1_typesAreThere_97 (by decide) ?_
      refine pm_iload_n C dX1_typesAreThere_98 rfl rfl ?_
      refine pm_iconst (v := 1) C dX1_typesAreThere_99 (by decide) ?_
      obtain ⟨v35, e36, hf⟩ := pm_bd hf
      refine pm_callV (as := [.int 0, .int x2, .int 1]) (st := []) C X dX1_typesAreThere_100 lnX1_122 myX7_of viX7_of ⟨by decide, by decide⟩ rfl rfl k31 (Nat.le_of_ble_eq_true rfl) (Nat.le_refl _) (Nat.le_refl _) (ctX7_of e36 ?_)
      show pm_G g 103 [(0, .ref x0), (2, .int x2)] [.long v35] h 0 0
      refine pm_aload_n C dX1_typesAreThere_103 rfl rfl ?_
      refine pm_getR C dX1_typesAreThere_104 flX1_40 rfl k28 e30 ?_
      obtain ⟨v37, e38, hf⟩ := pm_bd hf
      refine pm_getR C dX1_typesAreThere_107 flX1_116 rfl k31 e38 ?_
      obtain ⟨k39, hf⟩ := pm_if hf
      refine pm_alen (t := 4) C dX1_typesAreThere_110 (by decide) k39 rfl ?_
      refine pm_i2l C dX1_typesAreThere_111 ?_
      refine pm_lcmp C dX1_typesAreThere_112 ?_
      refine pm_if_lt (tgt := 123) C dX1_typesAreThere_113 (by decide) (fun c40 => ?_) (fun c40 => ?_)
      · have hf := pm_it hf ((pm_lg_lt _ _).mp c40)
        obtain ⟨y41, e42, hf⟩ := pm_lt hf
        refine pm_iinc (v := y41) (lv' := [(2, .int y41), (0, .ref x0)]) C dX1_typesAreThere_123 rfl ((congrArg (x2 + ·) (by decide : Int32.ofInt 1 = 1)).trans e42) (pm_nl X (by decide)) rfl ?_
        refine pm_goto (tgt := 81) C dX1_typesAreThere_126 (by decide) ?_
        cases hf
        exact pm_sub [1, 0] rfl (ih.2 x0 y41 h hi)
      · have hf := pm_ie hf ((fun z => c40 ((pm_lg_lt _ _).mpr z)))
        refine pm_aload_n C dX1_typesAreThere_116 rfl rfl ?_
        refine pm_bipush (v := 20) C dX1_typesAreThere_117 (by decide) ?_
        refine pm_iconst (v := 3) C dX1_typesAreThere_119 (by decide) ?_
        obtain ⟨v43, e44, hf⟩ := pm_bd hf
        refine pm_callV (as := [.int 20, .int 3]) (st := []) C X dX1_typesAreThere_120 lnX1_119 myX1_failSection viX1_failSection ⟨by decide, by decide⟩ rfl rfl k28 (Nat.le_of_ble_eq_true rfl) (Nat.le_refl _) (Nat.le_refl _) (ctX1_failSection e44 ?_)
        show pm_G g 123 [(0, .ref x0), (2, .int x2)] [] v43 0 0
        obtain ⟨y45, e46, hf⟩ := pm_lt hf
        refine pm_iinc (v := y45) (lv' := [(2, .int y45), (0, .ref x0)]) C dX1_typesAreThere_123 rfl ((congrArg (x2 + ·) (by decide : Int32.ofInt 1 = 1)).trans e46) (pm_nl X (by decide)) rfl ?_
        refine pm_goto (tgt := 81) C dX1_typesAreThere_126 (by decide) ?_
        cases hf
        exact pm_sub [1, 0] rfl (ih.2 x0 y45 v43 hi)
set_option maxHeartbeats 4000000 in
set_option maxRecDepth 100000 in
theorem ctX1_typesAreThere {l : Launch} {G : pm_Gl} {h : pm_H} {a0 : Nat} {r : pm_H} {Qr : Option Value → pm_H → Prop} (hf : fX1_typesAreThere h a0 = some r) (q : Qr none r) : pm_Ct l G mX1_typesAreThere [.ref a0] h 0 0 Qr := by
  refine pm_body pnX1 (Nat.le_of_ble_eq_true rfl) (fun g C X => ?_)
  have C : pm_C g cX1_typesAreThere RX1 := C
  show pm_G g 0 [(0, .ref a0)] [] h 0 0
  unfold fX1_typesAreThere at hf
  refine pm_iconst (v := 0) C dX1_typesAreThere_0 (by decide) ?_
  refine pm_istore_n (lv' := [(1, .int 0), (0, .ref a0)]) C dX1_typesAreThere_1 rfl (pm_nl X (by decide)) rfl ?_
  refine pm_iconst (v := 0) C dX1_typesAreThere_2 (by decide) ?_
  refine pm_istore_n (lv' := [(2, .int 0), (1, .int 0), (0, .ref a0)]) C dX1_typesAreThere_3 rfl (pm_nl X (by decide)) rfl ?_
  obtain ⟨n, hn⟩ := pm_lim_iter hf
  exact pm_sub [2, 1, 0] rfl ((lpX1_typesAreThere C X q n).1 a0 0 0 h hn)
