theorem dX16_copiesData_0 : decode cX16_copiesData 0 = .ok (.aload_n 0, 1) := by decide +kernel
theorem dX16_copiesData_1 : decode cX16_copiesData 1 = .ok (.getfield 16, 3) := by decide +kernel
theorem dX16_copiesData_4 : decode cX16_copiesData 4 = .ok (.aload_n 0, 1) := by decide +kernel
theorem dX16_copiesData_5 : decode cX16_copiesData 5 = .ok (.getfield 131, 3) := by decide +kernel
theorem dX16_copiesData_8 : decode cX16_copiesData 8 = .ok (.iload_n 1, 1) := by decide +kernel
theorem dX16_copiesData_9 : decode cX16_copiesData 9 = .ok (.iaload, 1) := by decide +kernel
theorem dX16_copiesData_10 : decode cX16_copiesData 10 = .ok (.aaload, 1) := by decide +kernel
theorem dX16_copiesData_11 : decode cX16_copiesData 11 = .ok (.astore 10, 2) := by decide +kernel
theorem dX16_copiesData_13 : decode cX16_copiesData 13 = .ok (.aload_n 0, 1) := by decide +kernel
theorem dX16_copiesData_14 : decode cX16_copiesData 14 = .ok (.getfield 152, 3) := by decide +kernel
theorem dX16_copiesData_17 : decode cX16_copiesData 17 = .ok (.bipush 64, 2) := by decide +kernel
theorem dX16_copiesData_19 : decode cX16_copiesData 19 = .ok (.iload_n 1, 1) := by decide +kernel
theorem dX16_copiesData_20 : decode cX16_copiesData 20 = .ok (.imul, 1) := by decide +kernel
theorem dX16_copiesData_21 : decode cX16_copiesData 21 = .ok (.iload_n 2, 1) := by decide +kernel
theorem dX16_copiesData_22 : decode cX16_copiesData 22 = .ok (.iadd, 1) := by decide +kernel
theorem dX16_copiesData_23 : decode cX16_copiesData 23 = .ok (.baload, 1) := by decide +kernel
theorem dX16_copiesData_24 : decode cX16_copiesData 24 = .ok (.ifCond .eq 13, 3) := by decide +kernel
theorem dX16_copiesData_27 : decode cX16_copiesData 27 = .ok (.aload 10, 2) := by decide +kernel
theorem dX16_copiesData_29 : decode cX16_copiesData 29 = .ok (.getfield 546, 3) := by decide +kernel
theorem dX16_copiesData_32 : decode cX16_copiesData 32 = .ok (.iload_n 2, 1) := by decide +kernel
theorem dX16_copiesData_33 : decode cX16_copiesData 33 = .ok (.iaload, 1) := by decide +kernel
theorem dX16_copiesData_34 : decode cX16_copiesData 34 = .ok (.goto 4, 3) := by decide +kernel
theorem dX16_copiesData_37 : decode cX16_copiesData 37 = .ok (.iconst 0, 1) := by decide +kernel
theorem dX16_copiesData_38 : decode cX16_copiesData 38 = .ok (.istore 11, 2) := by decide +kernel
theorem dX16_copiesData_40 : decode cX16_copiesData 40 = .ok (.lload 6, 2) := by decide +kernel
theorem dX16_copiesData_42 : decode cX16_copiesData 42 = .ok (.lload 8, 2) := by decide +kernel
theorem dX16_copiesData_44 : decode cX16_copiesData 44 = .ok (.ladd, 1) := by decide +kernel
theorem dX16_copiesData_45 : decode cX16_copiesData 45 = .ok (.iload 11, 2) := by decide +kernel
theorem dX16_copiesData_47 : decode cX16_copiesData 47 = .ok (.i2l, 1) := by decide +kernel
theorem dX16_copiesData_48 : decode cX16_copiesData 48 = .ok (.lcmp, 1) := by decide +kernel
theorem dX16_copiesData_49 : decode cX16_copiesData 49 = .ok (.ifCond .gt 23, 3) := by decide +kernel
theorem dX16_copiesData_52 : decode cX16_copiesData 52 = .ok (.lload 4, 2) := by decide +kernel
theorem dX16_copiesData_54 : decode cX16_copiesData 54 = .ok (.lload 8, 2) := by decide +kernel
theorem dX16_copiesData_56 : decode cX16_copiesData 56 = .ok (.ladd, 1) := by decide +kernel
theorem dX16_copiesData_57 : decode cX16_copiesData 57 = .ok (.ldc2_w 636, 3) := by decide +kernel
theorem dX16_copiesData_60 : decode cX16_copiesData 60 = .ok (.aload_n 0, 1) := by decide +kernel
theorem dX16_copiesData_61 : decode cX16_copiesData 61 = .ok (.getfield 109, 3) := by decide +kernel
theorem dX16_copiesData_64 : decode cX16_copiesData 64 = .ok (.iload_n 3, 1) := by decide +kernel
theorem dX16_copiesData_65 : decode cX16_copiesData 65 = .ok (.iaload, 1) := by decide +kernel
theorem dX16_copiesData_66 : decode cX16_copiesData 66 = .ok (.i2l, 1) := by decide +kernel
theorem dX16_copiesData_67 : decode cX16_copiesData 67 = .ok (.lmul, 1) := by decide +kernel
theorem dX16_copiesData_68 : decode cX16_copiesData 68 = .ok (.lcmp, 1) := by decide +kernel
theorem dX16_copiesData_69 : decode cX16_copiesData 69 = .ok (.ifCond .le 5, 3) := by decide +kernel
theorem dX16_copiesData_72 : decode cX16_copiesData 72 = .ok (.iconst 0, 1) := by decide +kernel
theorem dX16_copiesData_73 : decode cX16_copiesData 73 = .ok (.ireturn, 1) := by decide +kernel
theorem dX16_copiesData_74 : decode cX16_copiesData 74 = .ok (.iconst 0, 1) := by decide +kernel
theorem dX16_copiesData_75 : decode cX16_copiesData 75 = .ok (.istore 12, 2) := by decide +kernel
theorem dX16_copiesData_77 : decode cX16_copiesData 77 = .ok (.iload 12, 2) := by decide +kernel
theorem dX16_copiesData_79 : decode cX16_copiesData 79 = .ok (.i2l, 1) := by decide +kernel
theorem dX16_copiesData_80 : decode cX16_copiesData 80 = .ok (.lload 8, 2) := by decide +kernel
theorem dX16_copiesData_82 : decode cX16_copiesData 82 = .ok (.lcmp, 1) := by decide +kernel
theorem dX16_copiesData_83 : decode cX16_copiesData 83 = .ok (.ifCond .ge 40, 3) := by decide +kernel
theorem dX16_copiesData_86 : decode cX16_copiesData 86 = .ok (.aload_n 0, 1) := by decide +kernel
theorem dX16_copiesData_87 : decode cX16_copiesData 87 = .ok (.iload_n 3, 1) := by decide +kernel
theorem dX16_copiesData_88 : decode cX16_copiesData 88 = .ok (.lload 4, 2) := by decide +kernel
theorem dX16_copiesData_90 : decode cX16_copiesData 90 = .ok (.iload 12, 2) := by decide +kernel
theorem dX16_copiesData_92 : decode cX16_copiesData 92 = .ok (.i2l, 1) := by decide +kernel
theorem dX16_copiesData_93 : decode cX16_copiesData 93 = .ok (.ladd, 1) := by decide +kernel
theorem dX16_copiesData_94 : decode cX16_copiesData 94 = .ok (.aload 10, 2) := by decide +kernel
theorem dX16_copiesData_96 : decode cX16_copiesData 96 = .ok (.getfield 232, 3) := by decide +kernel
theorem dX16_copiesData_99 : decode cX16_copiesData 99 = .ok (.aload 10, 2) := by decide +kernel
theorem dX16_copiesData_101 : decode cX16_copiesData 101 = .ok (.getfield 543, 3) := by decide +kernel
theorem dX16_copiesData_104 : decode cX16_copiesData 104 = .ok (.iload_n 2, 1) := by decide +kernel
theorem dX16_copiesData_105 : decode cX16_copiesData 105 = .ok (.iaload, 1) := by decide +kernel
theorem dX16_copiesData_106 : decode cX16_copiesData 106 = .ok (.lload 6, 2) := by decide +kernel
theorem dX16_copiesData_108 : decode cX16_copiesData 108 = .ok (.l2i, 1) := by decide +kernel
theorem dX16_copiesData_109 : decode cX16_copiesData 109 = .ok (.iadd, 1) := by decide +kernel
theorem dX16_copiesData_110 : decode cX16_copiesData 110 = .ok (.iload 12, 2) := by decide +kernel
theorem dX16_copiesData_112 : decode cX16_copiesData 112 = .ok (.iadd, 1) := by decide +kernel
theorem dX16_copiesData_113 : decode cX16_copiesData 113 = .ok (.baload, 1) := by decide +kernel
theorem dX16_copiesData_114 : decode cX16_copiesData 114 = .ok (.invokevirtual 1055, 3) := by decide +kernel
theorem dX16_copiesData_117 : decode cX16_copiesData 117 = .ok (.iinc 12 1, 3) := by decide +kernel
theorem dX16_copiesData_120 : decode cX16_copiesData 120 = .ok (.goto (-43), 3) := by decide +kernel
theorem dX16_copiesData_123 : decode cX16_copiesData 123 = .ok (.iconst 1, 1) := by decide +kernel
theorem dX16_copiesData_124 : decode cX16_copiesData 124 = .ok (.ireturn, 1) := by decide +kernel
def tX16_copiesData_77 (x0 : Nat) (x2 : Int32) (x3 : Int32) (x4 : Int64) (x6 : Int64) (x8 : Int64) (x10 : Nat) (x12 : Int32) (h : pm_H) : Option (((Nat × Int32 × Int32 × Int64 × Int64 × Int64 × Nat × Int32 × pm_H)) ⊕ (Int32 × pm_H)) := if x8 ≤ x12.toInt64 then (some (.inr ((1, h)))) else (if pm_kd h x10 = 14 then (pm_R h x10 0).bind fun v42 => (pm_R h x10 48).bind fun v44 => if pm_kd h v44 = 34 then if pm_in x2 (pm_ln h v44) then pm_let (((pm_I h v44 x2.toNatClampNeg) + x6.toInt32) + x12) fun y48 => if pm_kd h v42 = 33 then if pm_in y48 (pm_ln h v42) then if pm_kd h x0 = 16 then (fX16_sets h x0 x3 (x4 + x12.toInt64) (pm_I h v42 y48.toNatClampNeg)).bind fun v53 => pm_let (x12 + 1) fun y55 => some (.inl ((x0, x2, x3, x4, x6, x8, x10, y55, v53))) else none else none else none else none else none else none)
def sX16_copiesData : ((Nat × Int32 × Int32 × Int64 × Int64 × Int64 × Nat × Int32 × pm_H)) → Option (((Nat × Int32 × Int32 × Int64 × Int64 × Int64 × Nat × Int32 × pm_H)) ⊕ (Int32 × pm_H)) := fun z => match z with
  | (x0, x2, x3, x4, x6, x8, x10, x12, h) => tX16_copiesData_77 x0 x2 x3 x4 x6 x8 x10 x12 h
noncomputable def fX16_copiesData (h : pm_H) (a0 : Nat) (p1 : Int32) (p2 : Int32) (p3 : Int32) (p4 : Int64) (p5 : Int64) (p6 : Int64) : Option (Int32 × pm_H) := if pm_kd h a0 = 16 then (pm_R h a0 4).bind fun v2 => (pm_R h a0 63).bind fun v4 => if pm_kd h v4 = 34 then if pm_in p1 (pm_ln h v4) then pm_let (pm_I h v4 p1.toNatClampNeg) fun y8 => if pm_kd h v2 = 42 then if pm_in y8 (pm_ln h v2) then (pm_R h v2 y8.toNatClampNeg).bind fun v12 => (pm_R h a0 70).bind fun v14 => pm_let ((64 * p1) + p2) fun y16 => if pm_kd h v14 = 32 then if pm_in y16 (pm_ln h v14) then if (pm_I h v14 y16.toNatClampNeg) = 0 then (if ((0 : Int32).toInt64) < (p5 + p6) then (some ((0, h))) else ((pm_R h a0 54).bind fun v22 => if pm_kd h v22 = 34 then if pm_in p3 (pm_ln h v22) then if (p4 + p6) ≤ (65536 * ((pm_I h v22 p3.toNatClampNeg).toInt64)) then (pm_lim sX16_copiesData ((a0, p2, p3, p4, p5, p6, v12, 0, h))) else (some ((0, h))) else none else none)) else (if pm_kd h v12 = 14 then (pm_R h v12 49).bind fun v28 => if pm_kd h v28 = 34 then if pm_in p2 (pm_ln h v28) then pm_let (pm_I h v28 p2.toNatClampNeg) fun y32 => if y32.toInt64 < (p5 + p6) then (some ((0, h))) else ((pm_R h a0 54).bind fun v35 => if pm_kd h v35 = 34 then if pm_in p3 (pm_ln h v35) then if (p4 + p6) ≤ (65536 * ((pm_I h v35 p3.toNatClampNeg).toInt64)) then (pm_lim sX16_copiesData ((a0, p2, p3, p4, p5, p6, v12, 0, h))) else (some ((0, h))) else none else none) else none else none else none) else none else none else none else none else none else none else none
set_option maxHeartbeats 4000000 in
set_option maxRecDepth 100000 in
theorem lpX16_copiesData {g : pm_Gm} {l : Launch} {G : pm_Gl} {Qr : Option Value → pm_H → Prop} (C : pm_C g cX16_copiesData RX16) (X : pm_X g l G mX16_copiesData 0 0 Qr) {r : (Int32 × pm_H)} (q : Qr (some (.int r.1)) r.2) : ∀ n : Nat, (∀ (x0 : Nat) (x2 : Int32) (x3 : Int32) (x4 : Int64) (x6 : Int64) (x8 : Int64) (x10 : Nat) (x12 : Int32) (h : pm_H), pm_iter sX16_copiesData n (x0, x2, x3, x4, x6, x8, x10, x12, h) = some r → pm_G g 77 [(0, .ref x0), (2, .int x2), (3, .int x3), (4, .long x4), (6, .long x6), (8, .long x8), (10, .ref x10), (12, .int x12)] [] h 0 0) := by
  intro n
  induction n with
  | zero => exact fun _ _ _ _ _ _ _ _ _ hf => (by cases hf)
  | succ n ih =>
    refine fun x0 x2 x3 x4 x6 x8 x10 x12 h hf => ?_
    obtain ⟨y, hf, hi⟩ := pm_iter_s hf
    have hf : tX16_copiesData_77 x0 x2 x3 x4 x6 x8 x10 x12 h = some y := hf
    unfold tX16_copiesData_77 at hf
    refine pm_iload C dX16_copiesData_77 rfl ?_
    refine pm_i2l C dX16_copiesData_79 ?_
    refine pm_lload C dX16_copiesData_80 rfl ?_
    refine pm_lcmp C dX16_copiesData_82 ?_
    refine pm_if_ge (tgt := 123) C dX16_copiesData_83 (by decide) (fun c40 => ?_) (fun c40 => ?_)
    · have hf := pm_it hf ((pm_lg_ge _ _).mp c40)
      refine pm_iconst (v := 1) C dX16_copiesData_123 (by decide) ?_
      cases hf
      cases hi
      exact pm_zret C X dX16_copiesData_124 rfl (by decide) (Nat.le_refl _) (Nat.le_refl _) q
    · have hf := pm_ie hf ((fun z => c40 ((pm_lg_ge _ _).mpr z)))
      refine pm_aload_n C dX16_copiesData_86 rfl rfl ?_
      refine pm_iload_n C dX16_copiesData_87 rfl rfl ?_
      refine pm_lload C dX16_copiesData_88 rfl ?_
      refine pm_iload C dX16_copiesData_90 rfl ?_
      refine pm_i2l C dX16_copiesData_92 ?_
      refine pm_ladd C dX16_copiesData_93 ?_
      refine pm_aload C dX16_copiesData_94 rfl ?_
      obtain ⟨k41, hf⟩ := pm_if hf
      obtain ⟨v42, e43, hf⟩ := pm_bd hf
      refine pm_getR C dX16_copiesData_96 flX16_232 rfl k41 e43 ?_
      refine pm_aload C dX16_copiesData_99 rfl ?_
      obtain ⟨v44, e45, hf⟩ := pm_bd hf
      refine pm_getR C dX16_copiesData_101 flX16_543 rfl k41 e45 ?_
      refine pm_iload_n C dX16_copiesData_104 rfl rfl ?_
      obtain ⟨k46, hf⟩ := pm_if hf
      obtain ⟨u47, hf⟩ := pm_if hf
      refine pm_iald C dX16_copiesData_105 k46 u47 rfl ?_
      refine pm_lload C dX16_copiesData_106 rfl ?_
      refine pm_l2i C dX16_copiesData_108 ?_
      refine pm_iadd C dX16_copiesData_109 ?_
      refine pm_iload C dX16_copiesData_110 rfl ?_
      refine pm_iadd C dX16_copiesData_112 ?_
      obtain ⟨y48, e49, hf⟩ := pm_lt hf
      refine pm_topI e49 ?_
      obtain ⟨k50, hf⟩ := pm_if hf
      obtain ⟨u51, hf⟩ := pm_if hf
      refine pm_bald C dX16_copiesData_113 k50 u51 rfl ?_
      obtain ⟨k52, hf⟩ := pm_if hf
      obtain ⟨v53, e54, hf⟩ := pm_bd hf
      refine pm_callV (as := [.int x3, .long (x4 + x12.toInt64), .int (pm_I h v42 y48.toNatClampNeg)]) (st := []) C X dX16_copiesData_114 lnX16_1055 myX16_sets viX16_sets ⟨by decide, by decide⟩ rfl rfl k52 (Nat.le_of_ble_eq_true rfl) (Nat.le_refl _) (Nat.le_refl _) (ctX16_sets e54 ?_)
      show pm_G g 117 [(0, .ref x0), (2, .int x2), (3, .int x3), (4, .long x4), (6, .long x6), (8, .long x8), (10, .ref x10), (12, .int x12)] [] v53 0 0
      obtain ⟨y55, e56, hf⟩ := pm_lt hf
      refine pm_iinc (v := y55) (lv' := [(12, .int y55), (0, .ref x0), (2, .int x2), (3, .int x3), (4, .long x4), (6, .long x6), (8, .long x8), (10, .ref x10)]) C dX16_copiesData_117 rfl ((congrArg (x12 + ·) (by decide : Int32.ofInt 1 = 1)).trans e56) (pm_nl X (by decide)) rfl ?_
      refine pm_goto (tgt := 77) C dX16_copiesData_120 (by decide) ?_
      cases hf
      exact pm_sub [1, 2, 3, 4, 5, 6, 7, 0] rfl (ih x0 x2 x3 x4 x6 x8 x10 y55 v53 hi)
set_option maxHeartbeats 4000000 in
set_option maxRecDepth 100000 in
theorem ctX16_copiesData {l : Launch} {G : pm_Gl} {h : pm_H} {a0 : Nat} {p1 : Int32} {p2 : Int32} {p3 : Int32} {p4 : Int64} {p5 : Int64} {p6 : Int64} {r : (Int32 × pm_H)} {Qr : Option Value → pm_H → Prop} (hf : fX16_copiesData h a0 p1 p2 p3 p4 p5 p6 = some r) (q : Qr (some (.int r.1)) r.2) : pm_Ct l G mX16_copiesData [.ref a0, .int p1, .int p2, .int p3, .long p4, .long p5, .long p6] h 0 0 Qr := by
  refine pm_body pnX16 (Nat.le_of_ble_eq_true rfl) (fun g C X => ?_)
  have C : pm_C g cX16_copiesData RX16 := C
  show pm_G g 0 [(0, .ref a0), (1, .int p1), (2, .int p2), (3, .int p3), (4, .long p4), (6, .long p5), (8, .long p6)] [] h 0 0
  unfold fX16_copiesData at hf
  refine pm_aload_n C dX16_copiesData_0 rfl rfl ?_
  obtain ⟨k1, hf⟩ := pm_if hf
  obtain ⟨v2, e3, hf⟩ := pm_bd hf
  refine pm_getR C dX16_copiesData_1 flX16_16 rfl k1 e3 ?_
  refine pm_aload_n C dX16_copiesData_4 rfl rfl ?_
  obtain ⟨v4, e5, hf⟩ := pm_bd hf
  refine pm_getR C dX16_copiesData_5 flX16_131 rfl k1 e5 ?_
  refine pm_iload_n C dX16_copiesData_8 rfl rfl ?_
  obtain ⟨k6, hf⟩ := pm_if hf
  obtain ⟨u7, hf⟩ := pm_if hf
  refine pm_iald C dX16_copiesData_9 k6 u7 rfl ?_
  obtain ⟨y8, e9, hf⟩ := pm_lt hf
  refine pm_topI e9 ?_
  obtain ⟨k10, hf⟩ := pm_if hf
  obtain ⟨u11, hf⟩ := pm_if hf
  obtain ⟨v12, e13, hf⟩ := pm_bd hf
  refine pm_ald (t := 10) C dX16_copiesData_10 (by decide) rfl k10 u11 e13 ?_
  refine pm_astore (lv' := [(10, .ref v12), (0, .ref a0), (1, .int p1), (2, .int p2), (3, .int p3), (4, .long p4), (6, .long p5), (8, .long p6)]) C dX16_copiesData_11 (pm_nl X (by decide)) rfl ?_
  refine pm_aload_n C dX16_copiesData_13 rfl rfl ?_
  obtain ⟨v14, e15, hf⟩ := pm_bd hf
  refine pm_getR C dX16_copiesData_14 flX16_152 rfl k1 e15 ?_
  refine pm_bipush (v := 64) C dX16_copiesData_17 (by decide) ?_
  refine pm_iload_n C dX16_copiesData_19 rfl rfl ?_
  refine pm_imul C dX16_copiesData_20 ?_
  refine pm_iload_n C dX16_copiesData_21 rfl rfl ?_
  refine pm_iadd C dX16_copiesData_22 ?_
  obtain ⟨y16, e17, hf⟩ := pm_lt hf
  refine pm_topI e17 ?_
  obtain ⟨k18, hf⟩ := pm_if hf
  obtain ⟨u19, hf⟩ := pm_if hf
  refine pm_zald C dX16_copiesData_23 k18 u19 rfl ?_
  refine pm_if_eq (tgt := 37) C dX16_copiesData_24 (by decide) (fun c20 => ?_) (fun c20 => ?_)
  · have hf := pm_it hf c20
    refine pm_iconst (v := 0) C dX16_copiesData_37 (by decide) ?_
    refine pm_istore (lv' := [(11, .int 0), (10, .ref v12), (0, .ref a0), (1, .int p1), (2, .int p2), (3, .int p3), (4, .long p4), (6, .long p5), (8, .long p6)]) C dX16_copiesData_38 (pm_nl X (by decide)) rfl ?_
    refine pm_lload C dX16_copiesData_40 rfl ?_
    refine pm_lload C dX16_copiesData_42 rfl ?_
    refine pm_ladd C dX16_copiesData_44 ?_
    refine pm_iload C dX16_copiesData_45 rfl ?_
    refine pm_i2l C dX16_copiesData_47 ?_
    refine pm_lcmp C dX16_copiesData_48 ?_
    refine pm_if_gt (tgt := 72) C dX16_copiesData_49 (by decide) (fun c21 => ?_) (fun c21 => ?_)
    · have hf := pm_it hf ((pm_lg_gt _ _).mp c21)
      refine pm_iconst (v := 0) C dX16_copiesData_72 (by decide) ?_
      cases hf
      exact pm_zret C X dX16_copiesData_73 rfl (by decide) (Nat.le_refl _) (Nat.le_refl _) q
    · have hf := pm_ie hf ((fun z => c21 ((pm_lg_gt _ _).mpr z)))
      refine pm_lload C dX16_copiesData_52 rfl ?_
      refine pm_lload C dX16_copiesData_54 rfl ?_
      refine pm_ladd C dX16_copiesData_56 ?_
      refine pm_ldc2 C dX16_copiesData_57 cnX16_636 ?_
      refine pm_aload_n C dX16_copiesData_60 rfl rfl ?_
      obtain ⟨v22, e23, hf⟩ := pm_bd hf
      refine pm_getR C dX16_copiesData_61 flX16_109 rfl k1 e23 ?_
      refine pm_iload_n C dX16_copiesData_64 rfl rfl ?_
      obtain ⟨k24, hf⟩ := pm_if hf
      obtain ⟨u25, hf⟩ := pm_if hf
      refine pm_iald C dX16_copiesData_65 k24 u25 rfl ?_
      refine pm_i2l C dX16_copiesData_66 ?_
      refine pm_lmul C dX16_copiesData_67 ?_
      refine pm_lcmp C dX16_copiesData_68 ?_
      refine pm_if_le (tgt := 74) C dX16_copiesData_69 (by decide) (fun c26 => ?_) (fun c26 => ?_)
      · have hf := pm_it hf ((pm_lg_le _ _).mp c26)
        refine pm_iconst (v := 0) C dX16_copiesData_74 (by decide) ?_
        refine pm_istore (lv' := [(12, .int 0), (11, .int 0), (10, .ref v12), (0, .ref a0), (1, .int p1), (2, .int p2), (3, .int p3), (4, .long p4), (6, .long p5), (8, .long p6)]) C dX16_copiesData_75 (pm_nl X (by decide)) rfl ?_
        obtain ⟨n, hn⟩ := pm_lim_iter hf
        exact pm_sub [3, 5, 6, 7, 8, 9, 2, 0] rfl ((lpX16_copiesData C X q n) a0 p2 p3 p4 p5 p6 v12 0 h hn)
      · have hf := pm_ie hf ((fun z => c26 ((pm_lg_le _ _).mpr z)))
        refine pm_iconst (v := 0) C dX16_copiesData_72 (by decide) ?_
        cases hf
        exact pm_zret C X dX16_copiesData_73 rfl (by decide) (Nat.le_refl _) (Nat.le_refl _) q
  · have hf := pm_ie hf c20
    refine pm_aload C dX16_copiesData_27 rfl ?_
    obtain ⟨k27, hf⟩ := pm_if hf
    obtain ⟨v28, e29, hf⟩ := pm_bd hf
    refine pm_getR C dX16_copiesData_29 flX16_546 rfl k27 e29 ?_
    refine pm_iload_n C dX16_copiesData_32 rfl rfl ?_
    obtain ⟨k30, hf⟩ := pm_if hf
    obtain ⟨u31, hf⟩ := pm_if hf
    refine pm_iald C dX16_copiesData_33 k30 u31 rfl ?_
    refine pm_goto (tgt := 38) C dX16_copiesData_34 (by decide) ?_
    obtain ⟨y32, e33, hf⟩ := pm_lt hf
    refine pm_topI e33 ?_
    refine pm_istore (lv' := [(11, .int y32), (10, .ref v12), (0, .ref a0), (1, .int p1), (2, .int p2), (3, .int p3), (4, .long p4), (6, .long p5), (8, .long p6)]) C dX16_copiesData_38 (pm_nl X (by decide)) rfl ?_
    refine pm_lload C dX16_copiesData_40 rfl ?_
    refine pm_lload C dX16_copiesData_42 rfl ?_
    refine pm_ladd C dX16_copiesData_44 ?_
    refine pm_iload C dX16_copiesData_45 rfl ?_
    refine pm_i2l C dX16_copiesData_47 ?_
    refine pm_lcmp C dX16_copiesData_48 ?_
    refine pm_if_gt (tgt := 72) C dX16_copiesData_49 (by decide) (fun c34 => ?_) (fun c34 => ?_)
    · have hf := pm_it hf ((pm_lg_gt _ _).mp c34)
      refine pm_iconst (v := 0) C dX16_copiesData_72 (by decide) ?_
      cases hf
      exact pm_zret C X dX16_copiesData_73 rfl (by decide) (Nat.le_refl _) (Nat.le_refl _) q
    · have hf := pm_ie hf ((fun z => c34 ((pm_lg_gt _ _).mpr z)))
      refine pm_lload C dX16_copiesData_52 rfl ?_
      refine pm_lload C dX16_copiesData_54 rfl ?_
      refine pm_ladd C dX16_copiesData_56 ?_
      refine pm_ldc2 C dX16_copiesData_57 cnX16_636 ?_
      refine pm_aload_n C dX16_copiesData_60 rfl rfl ?_
      obtain ⟨v35, e36, hf⟩ := pm_bd hf
      refine pm_getR C dX16_copiesData_61 flX16_109 rfl k1 e36 ?_
      refine pm_iload_n C dX16_copiesData_64 rfl rfl ?_
      obtain ⟨k37, hf⟩ := pm_if hf
      obtain ⟨u38, hf⟩ := pm_if hf
      refine pm_iald C dX16_copiesData_65 k37 u38 rfl ?_
      refine pm_i2l C dX16_copiesData_66 ?_
      refine pm_lmul C dX16_copiesData_67 ?_
      refine pm_lcmp C dX16_copiesData_68 ?_
      refine pm_if_le (tgt := 74) C dX16_copiesData_69 (by decide) (fun c39 => ?_) (fun c39 => ?_)
      · have hf := pm_it hf ((pm_lg_le _ _).mp c39)
        refine pm_iconst (v := 0) C dX16_copiesData_74 (by decide) ?_
        refine pm_istore (lv' := [(12, .int 0), (11, .int y32), (10, .ref v12), (0, .ref a0), (1, .int p1), (2, .int p2), (3, .int p3), (4, .long p4), (6, .long p5), (8, .long p6)]) C dX16_copiesData_75 (pm_nl X (by decide)) rfl ?_
        obtain ⟨n, hn⟩ := pm_lim_iter hf
        exact pm_sub [3, 5, 6, 7, 8, 9, 2, 0] rfl ((lpX16_copiesData C X q n) a0 p2 p3 p4 p5 p6 v12 0 h hn)
      · have hf := pm_ie hf ((fun z => c39 ((pm_lg_le _ _).mpr z)))
        refine pm_iconst (v := 0) C dX16_copiesData_72 (by decide) ?_
        cases hf
        exact pm_zret C X dX16_copiesData_73 rfl (by decide) (Nat.le_refl _) (Nat.le_refl _) q
theorem dX16_divided_0 : decode cX16_divided 0 = .ok (.lload 4, 2) := by decide +kernel
theorem dX16_divided_2 : decode cX16_divided 2 = .ok (.lconst 0, 1) := by decide +kernel
theorem dX16_divided_3 : decode cX16_divided 3 = .ok (.lcmp, 1) := by decide +kernel
theorem dX16_divided_4 : decode cX16_divided 4 = .ok (.ifCond .ne 10, 3) := by decide +kernel
theorem dX16_divided_7 : decode cX16_divided 7 = .ok (.aload_n 0, 1) := by decide +kernel
theorem dX16_divided_8 : decode cX16_divided 8 = .ok (.iconst 1, 1) := by decide +kernel
theorem dX16_divided_9 : decode cX16_divided 9 = .ok (.invokevirtual 847, 3) := by decide +kernel
theorem dX16_divided_12 : decode cX16_divided 12 = .ok (.lconst 0, 1) := by decide +kernel
theorem dX16_divided_13 : decode cX16_divided 13 = .ok (.lreturn, 1) := by decide +kernel
theorem dX16_divided_14 : decode cX16_divided 14 = .ok (.iload_n 1, 1) := by decide +kernel
theorem dX16_divided_15 : decode cX16_divided 15 = .ok (.ifCond .ne 27, 3) := by decide +kernel
theorem dX16_divided_18 : decode cX16_divided 18 = .ok (.lload 4, 2) := by decide +kernel
theorem dX16_divided_20 : decode cX16_divided 20 = .ok (.ldc2_w 268, 3) := by decide +kernel
theorem dX16_divided_23 : decode cX16_divided 23 = .ok (.lcmp, 1) := by decide +kernel
theorem dX16_divided_24 : decode cX16_divided 24 = .ok (.ifCond .ne 18, 3) := by decide +kernel
theorem dX16_divided_27 : decode cX16_divided 27 = .ok (.lload_n 2, 1) := by decide +kernel
theorem dX16_divided_28 : decode cX16_divided 28 = .ok (.lload 6, 2) := by decide +kernel
theorem dX16_divided_30 : decode cX16_divided 30 = .ok (.lcmp, 1) := by decide +kernel
theorem dX16_divided_31 : decode cX16_divided 31 = .ok (.ifCond .ne 8, 3) := by decide +kernel
theorem dX16_divided_34 : decode cX16_divided 34 = .ok (.aload_n 0, 1) := by decide +kernel
theorem dX16_divided_35 : decode cX16_divided 35 = .ok (.iconst 2, 1) := by decide +kernel
theorem dX16_divided_36 : decode cX16_divided 36 = .ok (.invokevirtual 847, 3) := by decide +kernel
theorem dX16_divided_39 : decode cX16_divided 39 = .ok (.lload_n 2, 1) := by decide +kernel
theorem dX16_divided_40 : decode cX16_divided 40 = .ok (.lneg, 1) := by decide +kernel
theorem dX16_divided_41 : decode cX16_divided 41 = .ok (.lreturn, 1) := by decide +kernel
theorem dX16_divided_42 : decode cX16_divided 42 = .ok (.iload_n 1, 1) := by decide +kernel
theorem dX16_divided_43 : decode cX16_divided 43 = .ok (.iconst 2, 1) := by decide +kernel
theorem dX16_divided_44 : decode cX16_divided 44 = .ok (.if_icmp .ne 14, 3) := by decide +kernel
theorem dX16_divided_47 : decode cX16_divided 47 = .ok (.lload 4, 2) := by decide +kernel
theorem dX16_divided_49 : decode cX16_divided 49 = .ok (.ldc2_w 268, 3) := by decide +kernel
theorem dX16_divided_52 : decode cX16_divided 52 = .ok (.lcmp, 1) := by decide +kernel
theorem dX16_divided_53 : decode cX16_divided 53 = .ok (.ifCond .ne 5, 3) := by decide +kernel
theorem dX16_divided_56 : decode cX16_divided 56 = .ok (.lconst 0, 1) := by decide +kernel
theorem dX16_divided_57 : decode cX16_divided 57 = .ok (.lreturn, 1) := by decide +kernel
theorem dX16_divided_58 : decode cX16_divided 58 = .ok (.iload_n 1, 1) := by decide +kernel
theorem dX16_divided_59 : decode cX16_divided 59 = .ok (.ifCond .ne 10, 3) := by decide +kernel
theorem dX16_divided_62 : decode cX16_divided 62 = .ok (.lload_n 2, 1) := by decide +kernel
theorem dX16_divided_63 : decode cX16_divided 63 = .ok (.lload 4, 2) := by decide +kernel
theorem dX16_divided_65 : decode cX16_divided 65 = .ok (.ldiv, 1) := by decide +kernel
theorem dX16_divided_66 : decode cX16_divided 66 = .ok (.goto 35, 3) := by decide +kernel
theorem dX16_divided_69 : decode cX16_divided 69 = .ok (.iload_n 1, 1) := by decide +kernel
theorem dX16_divided_70 : decode cX16_divided 70 = .ok (.iconst 2, 1) := by decide +kernel
theorem dX16_divided_71 : decode cX16_divided 71 = .ok (.if_icmp .ne 10, 3) := by decide +kernel
theorem dX16_divided_74 : decode cX16_divided 74 = .ok (.lload_n 2, 1) := by decide +kernel
theorem dX16_divided_75 : decode cX16_divided 75 = .ok (.lload 4, 2) := by decide +kernel
theorem dX16_divided_77 : decode cX16_divided 77 = .ok (.lrem, 1) := by decide +kernel
theorem dX16_divided_78 : decode cX16_divided 78 = .ok (.goto 23, 3) := by decide +kernel
theorem dX16_divided_81 : decode cX16_divided 81 = .ok (.iload_n 1, 1) := by decide +kernel
theorem dX16_divided_82 : decode cX16_divided 82 = .ok (.iconst 1, 1) := by decide +kernel
theorem dX16_divided_83 : decode cX16_divided 83 = .ok (.if_icmp .ne 12, 3) := by decide +kernel
theorem dX16_divided_86 : decode cX16_divided 86 = .ok (.lload_n 2, 1) := by decide +kernel
theorem dX16_divided_87 : decode cX16_divided 87 = .ok (.lload 4, 2) := by decide +kernel
theorem dX16_divided_89 : decode cX16_divided 89 = .ok (.invokestatic 850, 3) := by decide +kernel
theorem dX16_divided_92 : decode cX16_divided 92 = .ok (.goto 9, 3) := by decide +kernel
theorem dX16_divided_95 : decode cX16_divided 95 = .ok (.lload_n 2, 1) := by decide +kernel
theorem dX16_divided_96 : decode cX16_divided 96 = .ok (.lload 4, 2) := by decide +kernel
theorem dX16_divided_98 : decode cX16_divided 98 = .ok (.invokestatic 854, 3) := by decide +kernel
theorem dX16_divided_101 : decode cX16_divided 101 = .ok (.lreturn, 1) := by decide +kernel
def fX16_divided_b58 (h : pm_H) (x1 : Int32) (x2 : Int64) (x4 : Int64) : Option (Int64 × pm_H) := if x1 = 0 then (if ¬ x4 = 0 then some ((x2 / x4, h)) else none) else (if x1 = 2 then (if ¬ x4 = 0 then some ((x2 - x2 / x4 * x4, h)) else none) else (if x1 = 1 then ((fJ13_divideUnsigned_f86c9 x2 x4).bind fun v18 => some ((v18, h))) else ((fJ13_remainderUnsigned_f86c9 x2 x4).bind fun v16 => some ((v16, h)))))
def fX16_divided_b42 (h : pm_H) (x1 : Int32) (x2 : Int64) (x4 : Int64) : Option (Int64 × pm_H) := if x1 = 2 then (if x4 = (-1) then (some ((0, h))) else (fX16_divided_b58 h x1 x2 x4)) else (fX16_divided_b58 h x1 x2 x4)
def fX16_divided (h : pm_H) (a0 : Nat) (p1 : Int32) (p2 : Int64) (p3 : Int64) (p4 : Int64) : Option (Int64 × pm_H) := if p3 = 0 then (if pm_kd h a0 = 16 then (fX16_traps h a0 1).bind fun v9 => some ((0, v9)) else none) else (if p1 = 0 then (if p3 = (-1) then (if p2 = p4 then (if pm_kd h a0 = 16 then (fX16_traps h a0 2).bind fun v6 => some ((-p2, v6)) else none) else (some ((-p2, h)))) else (fX16_divided_b42 h p1 p2 p3)) else (fX16_divided_b42 h p1 p2 p3))
set_option maxHeartbeats 4000000 in
set_option maxRecDepth 100000 in
theorem bX16_divided_58 {g : pm_Gm} {l : Launch} {G : pm_Gl} {Qr : Option Value → pm_H → Prop} (C : pm_C g cX16_divided RX16) (X : pm_X g l G mX16_divided 0 0 Qr) {h : pm_H} {x1 : Int32} {x2 : Int64} {x4 : Int64} {r : (Int64 × pm_H)} (hf : fX16_divided_b58 h x1 x2 x4 = some r) (q : Qr (some (.long r.1)) r.2) : pm_G g 58 [(1, .int x1), (2, .long x2), (4, .long x4)] [] h 0 0 := by
  unfold fX16_divided_b58 at hf
  refine pm_iload_n C dX16_divided_58 rfl rfl ?_
  refine pm_if_ne (tgt := 69) C dX16_divided_59 (by decide) (fun c13 => ?_) (fun c13 => ?_)
  · have hf := pm_ie hf c13
    refine pm_iload_n C dX16_divided_69 rfl rfl ?_
    refine pm_iconst (v := 2) C dX16_divided_70 (by decide) ?_
    refine pm_icmp_ne (tgt := 81) C dX16_divided_71 (by decide) (fun c14 => ?_) (fun c14 => ?_)
    · have hf := pm_ie hf c14
      refine pm_iload_n C dX16_divided_81 rfl rfl ?_
      refine pm_iconst (v := 1) C dX16_divided_82 (by decide) ?_
      refine pm_icmp_ne (tgt := 95) C dX16_divided_83 (by decide) (fun c15 => ?_) (fun c15 => ?_)
      · have hf := pm_ie hf c15
        refine pm_lload_n C dX16_divided_95 rfl rfl ?_
        refine pm_lload C dX16_divided_96 rfl ?_
        obtain ⟨v16, e17, hf⟩ := pm_bd hf
        refine pm_callS (as := [.long x2, .long x4]) (st := []) C X dX16_divided_98 lnX16_854 myJ13_remainderUnsigned_f86c9 stJ13_remainderUnsigned_f86c9 ⟨by decide, by decide⟩ rfl rfl (Nat.le_of_ble_eq_true rfl) (Nat.le_refl _) (Nat.le_refl _) (ctJ13_remainderUnsigned_f86c9 e17 ?_)
        show pm_G g 101 [(1, .int x1), (2, .long x2), (4, .long x4)] [.long v16] h 0 0
        cases hf
        exact pm_lret C X dX16_divided_101 rfl (Nat.le_refl _) (Nat.le_refl _) q
      · have hf := pm_it hf c15
        refine pm_lload_n C dX16_divided_86 rfl rfl ?_
        refine pm_lload C dX16_divided_87 rfl ?_
        obtain ⟨v18, e19, hf⟩ := pm_bd hf
        refine pm_callS (as := [.long x2, .long x4]) (st := []) C X dX16_divided_89 lnX16_850 myJ13_divideUnsigned_f86c9 stJ13_divideUnsigned_f86c9 ⟨by decide, by decide⟩ rfl rfl (Nat.le_of_ble_eq_true rfl) (Nat.le_refl _) (Nat.le_refl _) (ctJ13_divideUnsigned_f86c9 e19 ?_)
        show pm_G g 92 [(1, .int x1), (2, .long x2), (4, .long x4)] [.long v18] h 0 0
        refine pm_goto (tgt := 101) C dX16_divided_92 (by decide) ?_
        cases hf
        exact pm_lret C X dX16_divided_101 rfl (Nat.le_refl _) (Nat.le_refl _) q
    · have hf := pm_it hf c14
      refine pm_lload_n C dX16_divided_74 rfl rfl ?_
      refine pm_lload C dX16_divided_75 rfl ?_
      obtain ⟨u20, hf⟩ := pm_if hf
      refine pm_lrem C dX16_divided_77 u20 ?_
      refine pm_goto (tgt := 101) C dX16_divided_78 (by decide) ?_
      cases hf
      exact pm_lret C X dX16_divided_101 rfl (Nat.le_refl _) (Nat.le_refl _) q
  · have hf := pm_it hf c13
    refine pm_lload_n C dX16_divided_62 rfl rfl ?_
    refine pm_lload C dX16_divided_63 rfl ?_
    obtain ⟨u21, hf⟩ := pm_if hf
    refine pm_ldiv C dX16_divided_65 u21 ?_
    refine pm_goto (tgt := 101) C dX16_divided_66 (by decide) ?_
    cases hf
    exact pm_lret C X dX16_divided_101 rfl (Nat.le_refl _) (Nat.le_refl _) q
set_option maxHeartbeats 4000000 in
set_option maxRecDepth 100000 in
theorem bX16_divided_42 {g : pm_Gm} {l : Launch} {G : pm_Gl} {Qr : Option Value → pm_H → Prop} (C : pm_C g cX16_divided RX16) (X : pm_X g l G mX16_divided 0 0 Qr) {h : pm_H} {x1 : Int32} {x2 : Int64} {x4 : Int64} {r : (Int64 × pm_H)} (hf : fX16_divided_b42 h x1 x2 x4 = some r) (q : Qr (some (.long r.1)) r.2) : pm_G g 42 [(1, .int x1), (2, .long x2), (4, .long x4)] [] h 0 0 := by
  unfold fX16_divided_b42 at hf
  refine pm_iload_n C dX16_divided_42 rfl rfl ?_
  refine pm_iconst (v := 2) C dX16_divided_43 (by decide) ?_
  refine pm_icmp_ne (tgt := 58) C dX16_divided_44 (by decide) (fun c11 => ?_) (fun c11 => ?_)
  · have hf := pm_ie hf c11
    exact pm_sub [0, 1, 2] rfl (bX16_divided_58 C X hf q)
  · have hf := pm_it hf c11
    refine pm_lload C dX16_divided_47 rfl ?_
    refine pm_ldc2 C dX16_divided_49 cnX16_268 ?_
    refine pm_lcmp C dX16_divided_52 ?_
    refine pm_if_ne (tgt := 58) C dX16_divided_53 (by decide) (fun c12 => ?_) (fun c12 => ?_)
    · have hf := pm_ie hf ((fun z => c12 ((pm_lg_eq _ _).mpr z)))
      exact pm_sub [0, 1, 2] rfl (bX16_divided_58 C X hf q)
    · have hf := pm_it hf ((pm_lg_eq _ _).mp c12)
      refine pm_lconst (v := 0) C dX16_divided_56 (by decide) ?_
      cases hf
      exact pm_lret C X dX16_divided_57 rfl (Nat.le_refl _) (Nat.le_refl _) q
set_option maxHeartbeats 4000000 in
set_option maxRecDepth 100000 in
theorem ctX16_divided {l : Launch} {G : pm_Gl} {h : pm_H} {a0 : Nat} {p1 : Int32} {p2 : Int64} {p3 : Int64} {p4 : Int64} {r : (Int64 × pm_H)} {Qr : Option Value → pm_H → Prop} (hf : fX16_divided h a0 p1 p2 p3 p4 = some r) (q : Qr (some (.long r.1)) r.2) : pm_Ct l G mX16_divided [.ref a0, .int p1, .long p2, .long p3, .long p4] h 0 0 Qr := by
  refine pm_body pnX16 (Nat.le_of_ble_eq_true rfl) (fun g C X => ?_)
  have C : pm_C g cX16_divided RX16 := C
  show pm_G g 0 [(0, .ref a0), (1, .int p1), (2, .long p2), (4, .long p3), (6, .long p4)] [] h 0 0
  unfold fX16_divided at hf
  refine pm_lload C dX16_divided_0 rfl ?_
  refine pm_lconst (v := 0) C dX16_divided_2 (by decide) ?_
  refine pm_lcmp C dX16_divided_3 ?_
  refine pm_if_ne (tgt := 14) C dX16_divided_4 (by decide) (fun c1 => ?_) (fun c1 => ?_)
  · have hf := pm_ie hf ((fun z => c1 ((pm_lg_eq _ _).mpr z)))
    refine pm_iload_n C dX16_divided_14 rfl rfl ?_
    refine pm_if_ne (tgt := 42) C dX16_divided_15 (by decide) (fun c2 => ?_) (fun c2 => ?_)
    · have hf := pm_ie hf c2
      exact pm_sub [1, 2, 3] rfl (bX16_divided_42 C X hf q)
    · have hf := pm_it hf c2
      refine pm_lload C dX16_divided_18 rfl ?_
      refine pm_ldc2 C dX16_divided_20 cnX16_268 ?_
      refine pm_lcmp C dX16_divided_23 ?_
      refine pm_if_ne (tgt := 42) C dX16_divided_24 (by decide) (fun c3 => ?_) (fun c3 => ?_)
      · have hf := pm_ie hf ((fun z => c3 ((pm_lg_eq _ _).mpr z)))
        exact pm_sub [1, 2, 3] rfl (bX16_divided_42 C X hf q)
      · have hf := pm_it hf ((pm_lg_eq _ _).mp c3)
        refine pm_lload_n C dX16_divided_27 rfl rfl ?_
        refine pm_lload C dX16_divided_28 rfl ?_
        refine pm_lcmp C dX16_divided_30 ?_
        refine pm_if_ne (tgt := 39) C dX16_divided_31 (by decide) (fun c4 => ?_) (fun c4 => ?_)
        · have hf := pm_ie hf ((fun z => c4 ((pm_lg_eq _ _).mpr z)))
          refine pm_lload_n C dX16_divided_39 rfl rfl ?_
          refine pm_lneg C dX16_divided_40 ?_
          cases hf
          exact pm_lret C X dX16_divided_41 rfl (Nat.le_refl _) (Nat.le_refl _) q
        · have hf := pm_it hf ((pm_lg_eq _ _).mp c4)
          refine pm_aload_n C dX16_divided_34 rfl rfl ?_
          refine pm_iconst (v := 2) C dX16_divided_35 (by decide) ?_
          obtain ⟨k5, hf⟩ := pm_if hf
          obtain ⟨v6, e7, hf⟩ := pm_bd hf
          refine pm_callV (as := [.int 2]) (st := []) C X dX16_divided_36 lnX16_847 myX16_traps viX16_traps ⟨by decide, by decide⟩ rfl rfl k5 (Nat.le_of_ble_eq_true rfl) (Nat.le_refl _) (Nat.le_refl _) (ctX16_traps e7 ?_)
          show pm_G g 39 [(0, .ref a0), (1, .int p1), (2, .long p2), (4, .long p3), (6, .long p4)] [] v6 0 0
          refine pm_lload_n C dX16_divided_39 rfl rfl ?_
          refine pm_lneg C dX16_divided_40 ?_
          cases hf
          exact pm_lret C X dX16_divided_41 rfl (Nat.le_refl _) (Nat.le_refl _) q
  · have hf := pm_it hf ((pm_lg_eq _ _).mp c1)
    refine pm_aload_n C dX16_divided_7 rfl rfl ?_
    refine pm_iconst (v := 1) C dX16_divided_8 (by decide) ?_
    obtain ⟨k8, hf⟩ := pm_if hf
    obtain ⟨v9, e10, hf⟩ := pm_bd hf
    refine pm_callV (as := [.int 1]) (st := []) C X dX16_divided_9 lnX16_847 myX16_traps viX16_traps ⟨by decide, by decide⟩ rfl rfl k8 (Nat.le_of_ble_eq_true rfl) (Nat.le_refl _) (Nat.le_refl _) (ctX16_traps e10 ?_)
    show pm_G g 12 [(0, .ref a0), (1, .int p1), (2, .long p2), (4, .long p3), (6, .long p4)] [] v9 0 0
    refine pm_lconst (v := 0) C dX16_divided_12 (by decide) ?_
    cases hf
    exact pm_lret C X dX16_divided_13 rfl (Nat.le_refl _) (Nat.le_refl _) q
theorem dX16_entry_0 : decode cX16_entry 0 = .ok (.iload_n 1, 1) := by decide +kernel
theorem dX16_entry_1 : decode cX16_entry 1 = .ok (.bipush 38, 2) := by decide +kernel
theorem dX16_entry_3 : decode cX16_entry 3 = .ok (.if_icmp .ne 10, 3) := by decide +kernel
theorem dX16_entry_6 : decode cX16_entry 6 = .ok (.aload_n 0, 1) := by decide +kernel
theorem dX16_entry_7 : decode cX16_entry 7 = .ok (.invokevirtual 1157, 3) := by decide +kernel
theorem dX16_entry_10 : decode cX16_entry 10 = .ok (.goto 4, 3) := by decide +kernel
theorem dX16_entry_13 : decode cX16_entry 13 = .ok (.lconst 0, 1) := by decide +kernel
theorem dX16_entry_14 : decode cX16_entry 14 = .ok (.lstore_n 3, 1) := by decide +kernel
theorem dX16_entry_15 : decode cX16_entry 15 = .ok (.aload_n 0, 1) := by decide +kernel
theorem dX16_entry_16 : decode cX16_entry 16 = .ok (.invokevirtual 1157, 3) := by decide +kernel
theorem dX16_entry_19 : decode cX16_entry 19 = .ok (.lstore 5, 2) := by decide +kernel
theorem dX16_entry_21 : decode cX16_entry 21 = .ok (.lload 5, 2) := by decide +kernel
theorem dX16_entry_23 : decode cX16_entry 23 = .ok (.aload_n 0, 1) := by decide +kernel
theorem dX16_entry_24 : decode cX16_entry 24 = .ok (.getfield 96, 3) := by decide +kernel
theorem dX16_entry_27 : decode cX16_entry 27 = .ok (.iload_n 2, 1) := by decide +kernel
theorem dX16_entry_28 : decode cX16_entry 28 = .ok (.iaload, 1) := by decide +kernel
theorem dX16_entry_29 : decode cX16_entry 29 = .ok (.i2l, 1) := by decide +kernel
theorem dX16_entry_30 : decode cX16_entry 30 = .ok (.lcmp, 1) := by decide +kernel
theorem dX16_entry_31 : decode cX16_entry 31 = .ok (.ifCond .lt 13, 3) := by decide +kernel
theorem dX16_entry_34 : decode cX16_entry 34 = .ok (.aload_n 0, 1) := by decide +kernel
theorem dX16_entry_35 : decode cX16_entry 35 = .ok (.bipush 6, 2) := by decide +kernel
theorem dX16_entry_37 : decode cX16_entry 37 = .ok (.iconst 1, 1) := by decide +kernel
theorem dX16_entry_38 : decode cX16_entry 38 = .ok (.invokevirtual 1163, 3) := by decide +kernel
theorem dX16_entry_41 : decode cX16_entry 41 = .ok (.goto 47, 3) := by decide +kernel
theorem dX16_entry_44 : decode cX16_entry 44 = .ok (.iload_n 1, 1) := by decide +kernel
theorem dX16_entry_45 : decode cX16_entry 45 = .ok (.bipush 38, 2) := by decide +kernel
theorem dX16_entry_47 : decode cX16_entry 47 = .ok (.if_icmp .ne 22, 3) := by decide +kernel
theorem dX16_entry_50 : decode cX16_entry 50 = .ok (.aload_n 0, 1) := by decide +kernel
theorem dX16_entry_51 : decode cX16_entry 51 = .ok (.getfield 103, 3) := by decide +kernel
theorem dX16_entry_54 : decode cX16_entry 54 = .ok (.sipush 1024, 3) := by decide +kernel
theorem dX16_entry_57 : decode cX16_entry 57 = .ok (.iload_n 2, 1) := by decide +kernel
theorem dX16_entry_58 : decode cX16_entry 58 = .ok (.imul, 1) := by decide +kernel
theorem dX16_entry_59 : decode cX16_entry 59 = .ok (.lload 5, 2) := by decide +kernel
theorem dX16_entry_61 : decode cX16_entry 61 = .ok (.l2i, 1) := by decide +kernel
theorem dX16_entry_62 : decode cX16_entry 62 = .ok (.iadd, 1) := by decide +kernel
theorem dX16_entry_63 : decode cX16_entry 63 = .ok (.lload_n 3, 1) := by decide +kernel
theorem dX16_entry_64 : decode cX16_entry 64 = .ok (.l2i, 1) := by decide +kernel
theorem dX16_entry_65 : decode cX16_entry 65 = .ok (.iastore, 1) := by decide +kernel
theorem dX16_entry_66 : decode cX16_entry 66 = .ok (.goto 22, 3) := by decide +kernel
theorem dX16_entry_69 : decode cX16_entry 69 = .ok (.aload_n 0, 1) := by decide +kernel
theorem dX16_entry_70 : decode cX16_entry 70 = .ok (.aload_n 0, 1) := by decide +kernel
theorem dX16_entry_71 : decode cX16_entry 71 = .ok (.getfield 103, 3) := by decide +kernel
theorem dX16_entry_74 : decode cX16_entry 74 = .ok (.sipush 1024, 3) := by decide +kernel
theorem dX16_entry_77 : decode cX16_entry 77 = .ok (.iload_n 2, 1) := by decide +kernel
theorem dX16_entry_78 : decode cX16_entry 78 = .ok (.imul, 1) := by decide +kernel
theorem dX16_entry_79 : decode cX16_entry 79 = .ok (.lload 5, 2) := by decide +kernel
theorem dX16_entry_81 : decode cX16_entry 81 = .ok (.l2i, 1) := by decide +kernel
theorem dX16_entry_82 : decode cX16_entry 82 = .ok (.iadd, 1) := by decide +kernel
theorem dX16_entry_83 : decode cX16_entry 83 = .ok (.iaload, 1) := by decide +kernel
theorem dX16_entry_84 : decode cX16_entry 84 = .ok (.i2l, 1) := by decide +kernel
theorem dX16_entry_85 : decode cX16_entry 85 = .ok (.invokevirtual 1136, 3) := by decide +kernel
theorem dX16_entry_88 : decode cX16_entry 88 = .ok (.return_, 1) := by decide +kernel
def fX16_entry_b14 (h : pm_H) (x0 : Nat) (x1 : Int32) (x2 : Int32) (s0 : Int64) : Option pm_H := if pm_kd h x0 = 16 then (fX16_pop h x0).bind fun v6 => if pm_kd v6.2 x0 = 16 then (pm_R v6.2 x0 49).bind fun v9 => if pm_kd v6.2 v9 = 34 then if pm_in x2 (pm_ln v6.2 v9) then if v6.1 < ((pm_I v6.2 v9 x2.toNatClampNeg).toInt64) then (if x1 = 38 then ((pm_R v6.2 x0 51).bind fun v23 => if pm_kd v6.2 v23 = 34 then if pm_in ((1024 * x2) + v6.1.toInt32) (pm_ln v6.2 v23) then some (pm_setI v6.2 v23 (((1024 * x2) + v6.1.toInt32).toNatClampNeg) s0.toInt32) else none else none) else ((pm_R v6.2 x0 51).bind fun v15 => pm_let ((1024 * x2) + v6.1.toInt32) fun y17 => if pm_kd v6.2 v15 = 34 then if pm_in y17 (pm_ln v6.2 v15) then (fX16_push v6.2 x0 ((pm_I v6.2 v15 y17.toNatClampNeg).toInt64)).bind fun v21 => some v21 else none else none)) else ((fX16_endsBy v6.2 x0 6 1).bind fun v27 => some v27) else none else none else none else none
def fX16_entry (h : pm_H) (a0 : Nat) (p1 : Int32) (p2 : Int32) : Option pm_H := if p1 = 38 then (if pm_kd h a0 = 16 then (fX16_pop h a0).bind fun v3 => fX16_entry_b14 v3.2 a0 p1 p2 v3.1 else none) else (fX16_entry_b14 h a0 p1 p2 0)
set_option maxHeartbeats 4000000 in
set_option maxRecDepth 100000 in
theorem bX16_entry_14 {g : pm_Gm} {l : Launch} {G : pm_Gl} {Qr : Option Value → pm_H → Prop} (C : pm_C g cX16_entry RX16) (X : pm_X g l G mX16_entry 0 0 Qr) {h : pm_H} {x0 : Nat} {x1 : Int32} {x2 : Int32} {s0 : Int64} {r : pm_H} (hf : fX16_entry_b14 h x0 x1 x2 s0 = some r) (q : Qr none r) : pm_G g 14 [(0, .ref x0), (1, .int x1), (2, .int x2)] [.long s0] h 0 0 := by
  unfold fX16_entry_b14 at hf
  refine pm_lstore_n (lv' := [(3, .long s0), (0, .ref x0), (1, .int x1), (2, .int x2)]) C dX16_entry_14 rfl (pm_nl X (by decide)) rfl ?_
  refine pm_aload_n C dX16_entry_15 rfl rfl ?_
  obtain ⟨k5, hf⟩ := pm_if hf
  obtain ⟨v6, e7, hf⟩ := pm_bd hf
  refine pm_callV (as := []) (st := []) C X dX16_entry_16 lnX16_1157 myX16_pop viX16_pop ⟨by decide, by decide⟩ rfl rfl k5 (Nat.le_of_ble_eq_true rfl) (Nat.le_refl _) (Nat.le_refl _) (ctX16_pop e7 ?_)
  show pm_G g 19 [(3, .long s0), (0, .ref x0), (1, .int x1), (2, .int x2)] [.long v6.1] v6.2 0 0
  refine pm_lstore (lv' := [(5, .long v6.1), (3, .long s0), (0, .ref x0), (1, .int x1), (2, .int x2)]) C dX16_entry_19 (pm_nl X (by decide)) rfl ?_
  refine pm_lload C dX16_entry_21 rfl ?_
  refine pm_aload_n C dX16_entry_23 rfl rfl ?_
  obtain ⟨k8, hf⟩ := pm_if hf
  obtain ⟨v9, e10, hf⟩ := pm_bd hf
  refine pm_getR C dX16_entry_24 flX16_96 rfl k8 e10 ?_
  refine pm_iload_n C dX16_entry_27 rfl rfl ?_
  obtain ⟨k11, hf⟩ := pm_if hf
  obtain ⟨u12, hf⟩ := pm_if hf
  refine pm_iald C dX16_entry_28 k11 u12 rfl ?_
  refine pm_i2l C dX16_entry_29 ?_
  refine pm_lcmp C dX16_entry_30 ?_
  refine pm_if_lt (tgt := 44) C dX16_entry_31 (by decide) (fun c13 => ?_) (fun c13 => ?_)
  · have hf := pm_it hf ((pm_lg_lt _ _).mp c13)
    refine pm_iload_n C dX16_entry_44 rfl rfl ?_
    refine pm_bipush (v := 38) C dX16_entry_45 (by decide) ?_
    refine pm_icmp_ne (tgt := 69) C dX16_entry_47 (by decide) (fun c14 => ?_) (fun c14 => ?_)
    · have hf := pm_ie hf c14
      refine pm_aload_n C dX16_entry_69 rfl rfl ?_
      refine pm_aload_n C dX16_entry_70 rfl rfl ?_
      obtain ⟨v15, e16, hf⟩ := pm_bd hf
      refine pm_getR C dX16_entry_71 flX16_103 rfl k8 e16 ?_
      refine pm_sipush (v := 1024) C dX16_entry_74 (by decide) ?_
      refine pm_iload_n C dX16_entry_77 rfl rfl ?_
      refine pm_imul C dX16_entry_78 ?_
      refine pm_lload C dX16_entry_79 rfl ?_
      refine pm_l2i C dX16_entry_81 ?_
      refine pm_iadd C dX16_entry_82 ?_
      obtain ⟨y17, e18, hf⟩ := pm_lt hf
      refine pm_topI e18 ?_
      obtain ⟨k19, hf⟩ := pm_if hf
      obtain ⟨u20, hf⟩ := pm_if hf
      refine pm_iald C dX16_entry_83 k19 u20 rfl ?_
      refine pm_i2l C dX16_entry_84 ?_
      obtain ⟨v21, e22, hf⟩ := pm_bd hf
      refine pm_callV (as := [.long ((pm_I v6.2 v15 y17.toNatClampNeg).toInt64)]) (st := []) C X dX16_entry_85 lnX16_1136 myX16_push viX16_push ⟨by decide, by decide⟩ rfl rfl k8 (Nat.le_of_ble_eq_true rfl) (Nat.le_refl _) (Nat.le_refl _) (ctX16_push e22 ?_)
      show pm_G g 88 [(5, .long v6.1), (3, .long s0), (0, .ref x0), (1, .int x1), (2, .int x2)] [] v21 0 0
      cases hf
      exact pm_vret C X dX16_entry_88 rfl (Nat.le_refl _) (Nat.le_refl _) q
    · have hf := pm_it hf c14
      refine pm_aload_n C dX16_entry_50 rfl rfl ?_
      obtain ⟨v23, e24, hf⟩ := pm_bd hf
      refine pm_getR C dX16_entry_51 flX16_103 rfl k8 e24 ?_
      refine pm_sipush (v := 1024) C dX16_entry_54 (by decide) ?_
      refine pm_iload_n C dX16_entry_57 rfl rfl ?_
      refine pm_imul C dX16_entry_58 ?_
      refine pm_lload C dX16_entry_59 rfl ?_
      refine pm_l2i C dX16_entry_61 ?_
      refine pm_iadd C dX16_entry_62 ?_
      refine pm_lload_n C dX16_entry_63 rfl rfl ?_
      refine pm_l2i C dX16_entry_64 ?_
      obtain ⟨k25, hf⟩ := pm_if hf
      obtain ⟨u26, hf⟩ := pm_if hf
      refine pm_iast C dX16_entry_65 k25 u26 ?_
      refine pm_goto (tgt := 88) C dX16_entry_66 (by decide) ?_
      cases hf
      exact pm_vret C X dX16_entry_88 rfl (Nat.le_refl _) (Nat.le_refl _) q
  · have hf := pm_ie hf ((fun z => c13 ((pm_lg_lt _ _).mpr z)))
    refine pm_aload_n C dX16_entry_34 rfl rfl ?_
    refine pm_bipush (v := 6) C dX16_entry_35 (by decide) ?_
    refine pm_iconst (v := 1) C dX16_entry_37 (by decide) ?_
    obtain ⟨v27, e28, hf⟩ := pm_bd hf
    refine pm_callV (as := [.int 6, .int 1]) (st := []) C X dX16_entry_38 lnX16_1163 myX16_endsBy viX16_endsBy ⟨by decide, by decide⟩ rfl rfl k8 (Nat.le_of_ble_eq_true rfl) (Nat.le_refl _) (Nat.le_refl _) (ctX16_endsBy e28 ?_)
    show pm_G g 41 [(5, .long v6.1), (3, .long s0), (0, .ref x0), (1, .int x1), (2, .int x2)] [] v27 0 0
    refine pm_goto (tgt := 88) C dX16_entry_41 (by decide) ?_
    cases hf
    exact pm_vret C X dX16_entry_88 rfl (Nat.le_refl _) (Nat.le_refl _) q
set_option maxHeartbeats 4000000 in
set_option maxRecDepth 100000 in
theorem ctX16_entry {l : Launch} {G : pm_Gl} {h : pm_H} {a0 : Nat} {p1 : Int32} {p2 : Int32} {r : pm_H} {Qr : Option Value → pm_H → Prop} (hf : fX16_entry h a0 p1 p2 = some r) (q : Qr none r) : pm_Ct l G mX16_entry [.ref a0, .int p1, .int p2] h 0 0 Qr := by
  refine pm_body pnX16 (Nat.le_of_ble_eq_true rfl) (fun g C X => ?_)
  have C : pm_C g cX16_entry RX16 := C
  show pm_G g 0 [(0, .ref a0), (1, .int p1), (2, .int p2)] [] h 0 0
  unfold fX16_entry at hf
  refine pm_iload_n C dX16_entry_0 rfl rfl ?_
  refine pm_bipush (v := 38) C dX16_entry_1 (by decide) ?_
  refine pm_icmp_ne (tgt := 13) C dX16_entry_3 (by decide) (fun c1 => ?_) (fun c1 => ?_)
  · have hf := pm_ie hf c1
    refine pm_lconst (v := 0) C dX16_entry_13 (by decide) ?_
    exact pm_sub [0, 1, 2] rfl (bX16_entry_14 C X hf q)
  · have hf := pm_it hf c1
    refine pm_aload_n C dX16_entry_6 rfl rfl ?_
    obtain ⟨k2, hf⟩ := pm_if hf
    obtain ⟨v3, e4, hf⟩ := pm_bd hf
    refine pm_callV (as := []) (st := []) C X dX16_entry_7 lnX16_1157 myX16_pop viX16_pop ⟨by decide, by decide⟩ rfl rfl k2 (Nat.le_of_ble_eq_true rfl) (Nat.le_refl _) (Nat.le_refl _) (ctX16_pop e4 ?_)
    show pm_G g 10 [(0, .ref a0), (1, .int p1), (2, .int p2)] [.long v3.1] v3.2 0 0
    refine pm_goto (tgt := 14) C dX16_entry_10 (by decide) ?_
    exact pm_sub [0, 1, 2] rfl (bX16_entry_14 C X hf q)
theorem dX16_exported_0 : decode cX16_exported 0 = .ok (.aload_n 0, 1) := by decide +kernel
theorem dX16_exported_1 : decode cX16_exported 1 = .ok (.aload_n 0, 1) := by decide +kernel
theorem dX16_exported_2 : decode cX16_exported 2 = .ok (.iload_n 1, 1) := by decide +kernel
theorem dX16_exported_3 : decode cX16_exported 3 = .ok (.iload_n 2, 1) := by decide +kernel
theorem dX16_exported_4 : decode cX16_exported 4 = .ok (.invokevirtual 955, 3) := by decide +kernel
theorem dX16_exported_7 : decode cX16_exported 7 = .ok (.iload_n 1, 1) := by decide +kernel
theorem dX16_exported_8 : decode cX16_exported 8 = .ok (.aload_n 0, 1) := by decide +kernel
theorem dX16_exported_9 : decode cX16_exported 9 = .ok (.getfield 16, 3) := by decide +kernel
theorem dX16_exported_12 : decode cX16_exported 12 = .ok (.aload_n 0, 1) := by decide +kernel
theorem dX16_exported_13 : decode cX16_exported 13 = .ok (.getfield 131, 3) := by decide +kernel
theorem dX16_exported_16 : decode cX16_exported 16 = .ok (.iload_n 1, 1) := by decide +kernel
theorem dX16_exported_17 : decode cX16_exported 17 = .ok (.iaload, 1) := by decide +kernel
theorem dX16_exported_18 : decode cX16_exported 18 = .ok (.aaload, 1) := by decide +kernel
theorem dX16_exported_19 : decode cX16_exported 19 = .ok (.getfield 478, 3) := by decide +kernel
theorem dX16_exported_22 : decode cX16_exported 22 = .ok (.iload_n 2, 1) := by decide +kernel
theorem dX16_exported_23 : decode cX16_exported 23 = .ok (.laload, 1) := by decide +kernel
theorem dX16_exported_24 : decode cX16_exported 24 = .ok (.l2i, 1) := by decide +kernel
theorem dX16_exported_25 : decode cX16_exported 25 = .ok (.invokevirtual 957, 3) := by decide +kernel
theorem dX16_exported_28 : decode cX16_exported 28 = .ok (.ireturn, 1) := by decide +kernel
def fX16_exported (h : pm_H) (a0 : Nat) (p1 : Int32) (p2 : Int32) : Option Int32 := if pm_kd h a0 = 16 then (fX16_exportKind h a0 p1 p2).bind fun v2 => (pm_R h a0 4).bind fun v4 => (pm_R h a0 63).bind fun v6 => if pm_kd h v6 = 34 then if pm_in p1 (pm_ln h v6) then pm_let (pm_I h v6 p1.toNatClampNeg) fun y10 => if pm_kd h v4 = 42 then if pm_in y10 (pm_ln h v4) then (pm_R h v4 y10.toNatClampNeg).bind fun v14 => if pm_kd h v14 = 14 then (pm_R h v14 32).bind fun v17 => if pm_kd h v17 = 35 then if pm_in p2 (pm_ln h v17) then (fX16_thing h a0 v2 p1 ((pm_L h v17 p2.toNatClampNeg).toInt32)).bind fun v21 => some v21 else none else none else none else none else none else none else none else none
set_option maxHeartbeats 4000000 in
set_option maxRecDepth 100000 in
theorem ctX16_exported {l : Launch} {G : pm_Gl} {h : pm_H} {a0 : Nat} {p1 : Int32} {p2 : Int32} {r : Int32} {Qr : Option Value → pm_H → Prop} (hf : fX16_exported h a0 p1 p2 = some r) (q : Qr (some (.int r)) h) : pm_Ct l G mX16_exported [.ref a0, .int p1, .int p2] h 0 0 Qr := by
  refine pm_body pnX16 (Nat.le_of_ble_eq_true rfl) (fun g C X => ?_)
  have C : pm_C g cX16_exported RX16 := C
  show pm_G g 0 [(0, .ref a0), (1, .int p1), (2, .int p2)] [] h 0 0
  unfold fX16_exported at hf
  refine pm_aload_n C dX16_exported_0 rfl rfl ?_
  refine pm_aload_n C dX16_exported_1 rfl rfl ?_
  refine pm_iload_n C dX16_exported_2 rfl rfl ?_
  refine pm_iload_n C dX16_exported_3 rfl rfl ?_
  obtain ⟨k1, hf⟩ := pm_if hf
  obtain ⟨v2, e3, hf⟩ := pm_bd hf
  refine pm_callV (as := [.int p1, .int p2]) (st := [.ref a0]) C X dX16_exported_4 lnX16_955 myX16_exportKind viX16_exportKind ⟨by decide, by decide⟩ rfl rfl k1 (Nat.le_of_ble_eq_true rfl) (Nat.le_refl _) (Nat.le_refl _) (ctX16_exportKind e3 ?_)
  show pm_G g 7 [(0, .ref a0), (1, .int p1), (2, .int p2)] [.int v2, .ref a0] h 0 0
  refine pm_iload_n C dX16_exported_7 rfl rfl ?_
  refine pm_aload_n C dX16_exported_8 rfl rfl ?_
  obtain ⟨v4, e5, hf⟩ := pm_bd hf
  refine pm_getR C dX16_exported_9 flX16_16 rfl k1 e5 ?_
  refine pm_aload_n C dX16_exported_12 rfl rfl ?_
  obtain ⟨v6, e7, hf⟩ := pm_bd hf
  refine pm_getR C dX16_exported_13 flX16_131 rfl k1 e7 ?_
  refine pm_iload_n C dX16_exported_16 rfl rfl ?_
  obtain ⟨k8, hf⟩ := pm_if hf
  obtain ⟨u9, hf⟩ := pm_if hf
  refine pm_iald C dX16_exported_17 k8 u9 rfl ?_
  obtain ⟨y10, e11, hf⟩ := pm_lt hf
  refine pm_topI e11 ?_
  obtain ⟨k12, hf⟩ := pm_if hf
  obtain ⟨u13, hf⟩ := pm_if hf
  obtain ⟨v14, e15, hf⟩ := pm_bd hf
  refine pm_ald (t := 10) C dX16_exported_18 (by decide) rfl k12 u13 e15 ?_
  obtain ⟨k16, hf⟩ := pm_if hf
  obtain ⟨v17, e18, hf⟩ := pm_bd hf
  refine pm_getR C dX16_exported_19 flX16_478 rfl k16 e18 ?_
  refine pm_iload_n C dX16_exported_22 rfl rfl ?_
  obtain ⟨k19, hf⟩ := pm_if hf
  obtain ⟨u20, hf⟩ := pm_if hf
  refine pm_lald C dX16_exported_23 k19 u20 rfl ?_
  refine pm_l2i C dX16_exported_24 ?_
  obtain ⟨v21, e22, hf⟩ := pm_bd hf
  refine pm_callV (as := [.int v2, .int p1, .int ((pm_L h v17 p2.toNatClampNeg).toInt32)]) (st := []) C X dX16_exported_25 lnX16_957 myX16_thing viX16_thing ⟨by decide, by decide⟩ rfl rfl k1 (Nat.le_of_ble_eq_true rfl) (Nat.le_refl _) (Nat.le_refl _) (ctX16_thing e22 ?_)
  show pm_G g 28 [(0, .ref a0), (1, .int p1), (2, .int p2)] [.int v21] h 0 0
  cases hf
  exact pm_iret C X dX16_exported_28 rfl (Nat.le_refl _) (Nat.le_refl _) q
theorem dX16_feed_0 : decode cX16_feed 0 = .ok (.aload_n 0, 1) := by decide +kernel
theorem dX16_feed_1 : decode cX16_feed 1 = .ok (.getfield 207, 3) := by decide +kernel
theorem dX16_feed_4 : decode cX16_feed 4 = .ok (.bipush 20, 2) := by decide +kernel
theorem dX16_feed_6 : decode cX16_feed 6 = .ok (.iadd, 1) := by decide +kernel
theorem dX16_feed_7 : decode cX16_feed 7 = .ok (.ldc 210, 2) := by decide +kernel
theorem dX16_feed_9 : decode cX16_feed 9 = .ok (.if_icmp .le 5, 3) := by decide +kernel
theorem dX16_feed_12 : decode cX16_feed 12 = .ok (.iconst (-1), 1) := by decide +kernel
theorem dX16_feed_13 : decode cX16_feed 13 = .ok (.ireturn, 1) := by decide +kernel
theorem dX16_feed_14 : decode cX16_feed 14 = .ok (.aload_n 0, 1) := by decide +kernel
theorem dX16_feed_15 : decode cX16_feed 15 = .ok (.dup, 1) := by decide +kernel
theorem dX16_feed_16 : decode cX16_feed 16 = .ok (.getfield 207, 3) := by decide +kernel
theorem dX16_feed_19 : decode cX16_feed 19 = .ok (.bipush 20, 2) := by decide +kernel
theorem dX16_feed_21 : decode cX16_feed 21 = .ok (.iadd, 1) := by decide +kernel
theorem dX16_feed_22 : decode cX16_feed 22 = .ok (.putfield 207, 3) := by decide +kernel
theorem dX16_feed_25 : decode cX16_feed 25 = .ok (.aload_n 0, 1) := by decide +kernel
theorem dX16_feed_26 : decode cX16_feed 26 = .ok (.iload_n 1, 1) := by decide +kernel
theorem dX16_feed_27 : decode cX16_feed 27 = .ok (.invokevirtual 211, 3) := by decide +kernel
theorem dX16_feed_30 : decode cX16_feed 30 = .ok (.aload_n 0, 1) := by decide +kernel
theorem dX16_feed_31 : decode cX16_feed 31 = .ok (.iload_n 2, 1) := by decide +kernel
theorem dX16_feed_32 : decode cX16_feed 32 = .ok (.invokevirtual 211, 3) := by decide +kernel
theorem dX16_feed_35 : decode cX16_feed 35 = .ok (.aload_n 0, 1) := by decide +kernel
theorem dX16_feed_36 : decode cX16_feed 36 = .ok (.iload_n 3, 1) := by decide +kernel
theorem dX16_feed_37 : decode cX16_feed 37 = .ok (.invokevirtual 211, 3) := by decide +kernel
theorem dX16_feed_40 : decode cX16_feed 40 = .ok (.aload_n 0, 1) := by decide +kernel
theorem dX16_feed_41 : decode cX16_feed 41 = .ok (.iload 4, 2) := by decide +kernel
theorem dX16_feed_43 : decode cX16_feed 43 = .ok (.invokevirtual 211, 3) := by decide +kernel
theorem dX16_feed_46 : decode cX16_feed 46 = .ok (.aload_n 0, 1) := by decide +kernel
theorem dX16_feed_47 : decode cX16_feed 47 = .ok (.iload 5, 2) := by decide +kernel
theorem dX16_feed_49 : decode cX16_feed 49 = .ok (.invokevirtual 211, 3) := by decide +kernel
theorem dX16_feed_52 : decode cX16_feed 52 = .ok (.aload_n 0, 1) := by decide +kernel
theorem dX16_feed_53 : decode cX16_feed 53 = .ok (.getfield 215, 3) := by decide +kernel
theorem dX16_feed_56 : decode cX16_feed 56 = .ok (.ireturn, 1) := by decide +kernel
noncomputable def fX16_feed (h : pm_H) (a0 : Nat) (p1 : Int32) (p2 : Int32) (p3 : Int32) (p4 : Int32) (p5 : Int32) : Option (Int32 × pm_H) := if pm_kd h a0 = 16 then if ((pm_I h a0 2) + 20) ≤ 40960 then (pm_let ((pm_I h a0 2) + 20) fun y3 => (fX16_puts (pm_setI h a0 2 y3) a0 p1).bind fun v5 => if pm_kd v5 a0 = 16 then (fX16_puts v5 a0 p2).bind fun v8 => if pm_kd v8 a0 = 16 then (fX16_puts v8 a0 p3).bind fun v11 => if pm_kd v11 a0 = 16 then (fX16_puts v11 a0 p4).bind fun v14 => if pm_kd v14 a0 = 16 then (fX16_puts v14 a0 p5).bind fun v17 => if pm_kd v17 a0 = 16 then some ((pm_I v17 a0 1, v17)) else none else none else none else none else none) else (some (((-1), h))) else none
set_option maxHeartbeats 4000000 in
set_option maxRecDepth 100000 in
theorem ctX16_feed {l : Launch} {G : pm_Gl} {h : pm_H} {a0 : Nat} {p1 : Int32} {p2 : Int32} {p3 : Int32} {p4 : Int32} {p5 : Int32} {r : (Int32 × pm_H)} {Qr : Option Value → pm_H → Prop} (hf : fX16_feed h a0 p1 p2 p3 p4 p5 = some r) (q : Qr (some (.int r.1)) r.2) : pm_Ct l G mX16_feed [.ref a0, .int p1, .int p2, .int p3, .int p4, .int p5] h 0 0 Qr := by
  refine pm_body pnX16 (Nat.le_of_ble_eq_true rfl) (fun g C X => ?_)
  have C : pm_C g cX16_feed RX16 := C
  show pm_G g 0 [(0, .ref a0), (1, .int p1), (2, .int p2), (3, .int p3), (4, .int p4), (5, .int p5)] [] h 0 0
  unfold fX16_feed at hf
  refine pm_aload_n C dX16_feed_0 rfl rfl ?_
  obtain ⟨k1, hf⟩ := pm_if hf
  refine pm_getI C dX16_feed_1 flX16_207 rfl k1 rfl ?_
  refine pm_bipush (v := 20) C dX16_feed_4 (by decide) ?_
  refine pm_iadd C dX16_feed_6 ?_
  refine pm_ldc C dX16_feed_7 cnX16_210 ?_
  refine pm_icmp_le (tgt := 14) C dX16_feed_9 (by decide) (fun c2 => ?_) (fun c2 => ?_)
  · have hf := pm_it hf c2
    refine pm_aload_n C dX16_feed_14 rfl rfl ?_
    refine pm_dup C dX16_feed_15 rfl ?_
    refine pm_getI C dX16_feed_16 flX16_207 rfl k1 rfl ?_
    refine pm_bipush (v := 20) C dX16_feed_19 (by decide) ?_
    refine pm_iadd C dX16_feed_21 ?_
    obtain ⟨y3, e4, hf⟩ := pm_lt hf
    refine pm_topI e4 ?_
    refine pm_putI C dX16_feed_22 flX16_207 rfl rfl k1 rfl rfl ?_
    refine pm_aload_n C dX16_feed_25 rfl rfl ?_
    refine pm_iload_n C dX16_feed_26 rfl rfl ?_
    obtain ⟨v5, e6, hf⟩ := pm_bd hf
    refine pm_callV (as := [.int p1]) (st := []) C X dX16_feed_27 lnX16_211 myX16_puts viX16_puts ⟨by decide, by decide⟩ rfl rfl k1 (Nat.le_of_ble_eq_true rfl) (Nat.le_refl _) (Nat.le_refl _) (ctX16_puts e6 ?_)
    show pm_G g 30 [(0, .ref a0), (1, .int p1), (2, .int p2), (3, .int p3), (4, .int p4), (5, .int p5)] [] v5 0 0
    refine pm_aload_n C dX16_feed_30 rfl rfl ?_
    refine pm_iload_n C dX16_feed_31 rfl rfl ?_
    obtain ⟨k7, hf⟩ := pm_if hf
    obtain ⟨v8, e9, hf⟩ := pm_bd hf
    refine pm_callV (as := [.int p2]) (st := []) C X dX16_feed_32 lnX16_211 myX16_puts viX16_puts ⟨by decide, by decide⟩ rfl rfl k7 (Nat.le_of_ble_eq_true rfl) (Nat.le_refl _) (Nat.le_refl _) (ctX16_puts e9 ?_)
    show pm_G g 35 [(0, .ref a0), (1, .int p1), (2, .int p2), (3, .int p3), (4, .int p4), (5, .int p5)] [] v8 0 0
    refine pm_aload_n C dX16_feed_35 rfl rfl ?_
    refine pm_iload_n C dX16_feed_36 rfl rfl ?_
    obtain ⟨k10, hf⟩ := pm_if hf
    obtain ⟨v11, e12, hf⟩ := pm_bd hf
    refine pm_callV (as := [.int p3]) (st := []) C X dX16_feed_37 lnX16_211 myX16_puts viX16_puts ⟨by decide, by decide⟩ rfl rfl k10 (Nat.le_of_ble_eq_true rfl) (Nat.le_refl _) (Nat.le_refl _) (ctX16_puts e12 ?_)
    show pm_G g 40 [(0, .ref a0), (1, .int p1), (2, .int p2), (3, .int p3), (4, .int p4), (5, .int p5)] [] v11 0 0
    refine pm_aload_n C dX16_feed_40 rfl rfl ?_
    refine pm_iload C dX16_feed_41 rfl ?_
    obtain ⟨k13, hf⟩ := pm_if hf
    obtain ⟨v14, e15, hf⟩ := pm_bd hf
    refine pm_callV (as := [.int p4]) (st := []) C X dX16_feed_43 lnX16_211 myX16_puts viX16_puts ⟨by decide, by decide⟩ rfl rfl k13 (Nat.le_of_ble_eq_true rfl) (Nat.le_refl _) (Nat.le_refl _) (ctX16_puts e15 ?_)
    show pm_G g 46 [(0, .ref a0), (1, .int p1), (2, .int p2), (3, .int p3), (4, .int p4), (5, .int p5)] [] v14 0 0
    refine pm_aload_n C dX16_feed_46 rfl rfl ?_
    refine pm_iload C dX16_feed_47 rfl ?_
    obtain ⟨k16, hf⟩ := pm_if hf
    obtain ⟨v17, e18, hf⟩ := pm_bd hf
    refine pm_callV (as := [.int p5]) (st := []) C X dX16_feed_49 lnX16_211 myX16_puts viX16_puts ⟨by decide, by decide⟩ rfl rfl k16 (Nat.le_of_ble_eq_true rfl) (Nat.le_refl _) (Nat.le_refl _) (ctX16_puts e18 ?_)
    show pm_G g 52 [(0, .ref a0), (1, .int p1), (2, .int p2), (3, .int p3), (4, .int p4), (5, .int p5)] [] v17 0 0
    refine pm_aload_n C dX16_feed_52 rfl rfl ?_
    obtain ⟨k19, hf⟩ := pm_if hf
    refine pm_getI C dX16_feed_53 flX16_215 rfl k19 rfl ?_
    cases hf
    exact pm_iret C X dX16_feed_56 rfl (Nat.le_refl _) (Nat.le_refl _) q
  · have hf := pm_ie hf c2
    refine pm_iconst (v := (-1)) C dX16_feed_12 (by decide) ?_
    cases hf
    exact pm_iret C X dX16_feed_13 rfl (Nat.le_refl _) (Nat.le_refl _) q
theorem dX16_fits_0 : decode cX16_fits 0 = .ok (.aload_n 0, 1) := by decide +kernel
theorem dX16_fits_1 : decode cX16_fits 1 = .ok (.getfield 16, 3) := by decide +kernel
theorem dX16_fits_4 : decode cX16_fits 4 = .ok (.iload_n 1, 1) := by decide +kernel
theorem dX16_fits_5 : decode cX16_fits 5 = .ok (.aaload, 1) := by decide +kernel
theorem dX16_fits_6 : decode cX16_fits 6 = .ok (.astore_n 3, 1) := by decide +kernel
theorem dX16_fits_7 : decode cX16_fits 7 = .ok (.aload_n 3, 1) := by decide +kernel
theorem dX16_fits_8 : decode cX16_fits 8 = .ok (.getfield 411, 3) := by decide +kernel
theorem dX16_fits_11 : decode cX16_fits 11 = .ok (.iload_n 2, 1) := by decide +kernel
theorem dX16_fits_12 : decode cX16_fits 12 = .ok (.iaload, 1) := by decide +kernel
theorem dX16_fits_13 : decode cX16_fits 13 = .ok (.istore 4, 2) := by decide +kernel
theorem dX16_fits_15 : decode cX16_fits 15 = .ok (.aload_n 0, 1) := by decide +kernel
theorem dX16_fits_16 : decode cX16_fits 16 = .ok (.getfield 161, 3) := by decide +kernel
theorem dX16_fits_19 : decode cX16_fits 19 = .ok (.iload_n 2, 1) := by decide +kernel
theorem dX16_fits_20 : decode cX16_fits 20 = .ok (.iaload, 1) := by decide +kernel
theorem dX16_fits_21 : decode cX16_fits 21 = .ok (.istore 5, 2) := by decide +kernel
theorem dX16_fits_23 : decode cX16_fits 23 = .ok (.aload_n 0, 1) := by decide +kernel
theorem dX16_fits_24 : decode cX16_fits 24 = .ok (.getfield 158, 3) := by decide +kernel
theorem dX16_fits_27 : decode cX16_fits 27 = .ok (.iload_n 2, 1) := by decide +kernel
theorem dX16_fits_28 : decode cX16_fits 28 = .ok (.iaload, 1) := by decide +kernel
theorem dX16_fits_29 : decode cX16_fits 29 = .ok (.iconst (-1), 1) := by decide +kernel
theorem dX16_fits_30 : decode cX16_fits 30 = .ok (.if_icmp .ne 14, 3) := by decide +kernel
theorem dX16_fits_33 : decode cX16_fits 33 = .ok (.iload 4, 2) := by decide +kernel
theorem dX16_fits_35 : decode cX16_fits 35 = .ok (.ifCond .ne 7, 3) := by decide +kernel
theorem dX16_fits_38 : decode cX16_fits 38 = .ok (.iconst 1, 1) := by decide +kernel
theorem dX16_fits_39 : decode cX16_fits 39 = .ok (.goto 4, 3) := by decide +kernel
theorem dX16_fits_42 : decode cX16_fits 42 = .ok (.iconst 0, 1) := by decide +kernel
theorem dX16_fits_43 : decode cX16_fits 43 = .ok (.ireturn, 1) := by decide +kernel
theorem dX16_fits_44 : decode cX16_fits 44 = .ok (.aload_n 0, 1) := by decide +kernel
theorem dX16_fits_45 : decode cX16_fits 45 = .ok (.getfield 158, 3) := by decide +kernel
theorem dX16_fits_48 : decode cX16_fits 48 = .ok (.iload_n 2, 1) := by decide +kernel
theorem dX16_fits_49 : decode cX16_fits 49 = .ok (.iaload, 1) := by decide +kernel
theorem dX16_fits_50 : decode cX16_fits 50 = .ok (.iload 4, 2) := by decide +kernel
theorem dX16_fits_52 : decode cX16_fits 52 = .ok (.if_icmp .eq 5, 3) := by decide +kernel
theorem dX16_fits_55 : decode cX16_fits 55 = .ok (.iconst 0, 1) := by decide +kernel
theorem dX16_fits_56 : decode cX16_fits 56 = .ok (.ireturn, 1) := by decide +kernel
theorem dX16_fits_57 : decode cX16_fits 57 = .ok (.aload_n 3, 1) := by decide +kernel
theorem dX16_fits_58 : decode cX16_fits 58 = .ok (.getfield 417, 3) := by decide +kernel
theorem dX16_fits_61 : decode cX16_fits 61 = .ok (.iload_n 2, 1) := by decide +kernel
theorem dX16_fits_62 : decode cX16_fits 62 = .ok (.laload, 1) := by decide +kernel
theorem dX16_fits_63 : decode cX16_fits 63 = .ok (.lstore 6, 2) := by decide +kernel
theorem dX16_fits_65 : decode cX16_fits 65 = .ok (.aload_n 3, 1) := by decide +kernel
theorem dX16_fits_66 : decode cX16_fits 66 = .ok (.getfield 420, 3) := by decide +kernel
theorem dX16_fits_69 : decode cX16_fits 69 = .ok (.iload_n 2, 1) := by decide +kernel
theorem dX16_fits_70 : decode cX16_fits 70 = .ok (.laload, 1) := by decide +kernel
theorem dX16_fits_71 : decode cX16_fits 71 = .ok (.lstore 8, 2) := by decide +kernel
theorem dX16_fits_73 : decode cX16_fits 73 = .ok (.iload 4, 2) := by decide +kernel
theorem dX16_fits_75 : decode cX16_fits 75 = .ok (.tableswitch 174 0 2 #[25, 52, 122], 25) := by decide +kernel
theorem dX16_fits_100 : decode cX16_fits 100 = .ok (.aload_n 0, 1) := by decide +kernel
theorem dX16_fits_101 : decode cX16_fits 101 = .ok (.iload_n 1, 1) := by decide +kernel
theorem dX16_fits_102 : decode cX16_fits 102 = .ok (.aload_n 3, 1) := by decide +kernel
theorem dX16_fits_103 : decode cX16_fits 103 = .ok (.getfield 414, 3) := by decide +kernel
theorem dX16_fits_106 : decode cX16_fits 106 = .ok (.iload_n 2, 1) := by decide +kernel
theorem dX16_fits_107 : decode cX16_fits 107 = .ok (.laload, 1) := by decide +kernel
theorem dX16_fits_108 : decode cX16_fits 108 = .ok (.l2i, 1) := by decide +kernel
theorem dX16_fits_109 : decode cX16_fits 109 = .ok (.aload_n 0, 1) := by decide +kernel
theorem dX16_fits_110 : decode cX16_fits 110 = .ok (.getfield 68, 3) := by decide +kernel
theorem dX16_fits_113 : decode cX16_fits 113 = .ok (.iload 5, 2) := by decide +kernel
theorem dX16_fits_115 : decode cX16_fits 115 = .ok (.iaload, 1) := by decide +kernel
theorem dX16_fits_116 : decode cX16_fits 116 = .ok (.aload_n 0, 1) := by decide +kernel
theorem dX16_fits_117 : decode cX16_fits 117 = .ok (.getfield 71, 3) := by decide +kernel
theorem dX16_fits_120 : decode cX16_fits 120 = .ok (.iload 5, 2) := by decide +kernel
theorem dX16_fits_122 : decode cX16_fits 122 = .ok (.iaload, 1) := by decide +kernel
theorem dX16_fits_123 : decode cX16_fits 123 = .ok (.invokevirtual 973, 3) := by decide +kernel
theorem dX16_fits_126 : decode cX16_fits 126 = .ok (.ireturn, 1) := by decide +kernel
theorem dX16_fits_127 : decode cX16_fits 127 = .ok (.aload_n 0, 1) := by decide +kernel
theorem dX16_fits_128 : decode cX16_fits 128 = .ok (.getfield 93, 3) := by decide +kernel
theorem dX16_fits_131 : decode cX16_fits 131 = .ok (.iload 5, 2) := by decide +kernel
theorem dX16_fits_133 : decode cX16_fits 133 = .ok (.iaload, 1) := by decide +kernel
theorem dX16_fits_134 : decode cX16_fits 134 = .ok (.i2l, 1) := by decide +kernel
theorem dX16_fits_135 : decode cX16_fits 135 = .ok (.aload_n 3, 1) := by decide +kernel
theorem dX16_fits_136 : decode cX16_fits 136 = .ok (.getfield 414, 3) := by decide +kernel
theorem dX16_fits_139 : decode cX16_fits 139 = .ok (.iload_n 2, 1) := by decide +kernel
theorem dX16_fits_140 : decode cX16_fits 140 = .ok (.laload, 1) := by decide +kernel
theorem dX16_fits_141 : decode cX16_fits 141 = .ok (.lcmp, 1) := by decide +kernel
theorem dX16_fits_142 : decode cX16_fits 142 = .ok (.ifCond .ne 53, 3) := by decide +kernel
theorem dX16_fits_145 : decode cX16_fits 145 = .ok (.aload_n 0, 1) := by decide +kernel
theorem dX16_fits_146 : decode cX16_fits 146 = .ok (.getfield 96, 3) := by decide +kernel
theorem dX16_fits_149 : decode cX16_fits 149 = .ok (.iload 5, 2) := by decide +kernel
theorem dX16_fits_151 : decode cX16_fits 151 = .ok (.iaload, 1) := by decide +kernel
theorem dX16_fits_152 : decode cX16_fits 152 = .ok (.i2l, 1) := by decide +kernel
theorem dX16_fits_153 : decode cX16_fits 153 = .ok (.lload 6, 2) := by decide +kernel
theorem dX16_fits_155 : decode cX16_fits 155 = .ok (.lcmp, 1) := by decide +kernel
theorem dX16_fits_156 : decode cX16_fits 156 = .ok (.ifCond .lt 39, 3) := by decide +kernel
theorem dX16_fits_159 : decode cX16_fits 159 = .ok (.lload 8, 2) := by decide +kernel
theorem dX16_fits_161 : decode cX16_fits 161 = .ok (.lconst 0, 1) := by decide +kernel
theorem dX16_fits_162 : decode cX16_fits 162 = .ok (.lcmp, 1) := by decide +kernel
theorem dX16_fits_163 : decode cX16_fits 163 = .ok (.ifCond .lt 28, 3) := by decide +kernel
theorem dX16_fits_166 : decode cX16_fits 166 = .ok (.aload_n 0, 1) := by decide +kernel
theorem dX16_fits_167 : decode cX16_fits 167 = .ok (.getfield 99, 3) := by decide +kernel
theorem dX16_fits_170 : decode cX16_fits 170 = .ok (.iload 5, 2) := by decide +kernel
theorem dX16_fits_172 : decode cX16_fits 172 = .ok (.laload, 1) := by decide +kernel
theorem dX16_fits_173 : decode cX16_fits 173 = .ok (.lconst 0, 1) := by decide +kernel
theorem dX16_fits_174 : decode cX16_fits 174 = .ok (.lcmp, 1) := by decide +kernel
theorem dX16_fits_175 : decode cX16_fits 175 = .ok (.ifCond .lt 20, 3) := by decide +kernel
theorem dX16_fits_178 : decode cX16_fits 178 = .ok (.aload_n 0, 1) := by decide +kernel
theorem dX16_fits_179 : decode cX16_fits 179 = .ok (.getfield 99, 3) := by decide +kernel
theorem dX16_fits_182 : decode cX16_fits 182 = .ok (.iload 5, 2) := by decide +kernel
theorem dX16_fits_184 : decode cX16_fits 184 = .ok (.laload, 1) := by decide +kernel
theorem dX16_fits_185 : decode cX16_fits 185 = .ok (.lload 8, 2) := by decide +kernel
theorem dX16_fits_187 : decode cX16_fits 187 = .ok (.lcmp, 1) := by decide +kernel
theorem dX16_fits_188 : decode cX16_fits 188 = .ok (.ifCond .gt 7, 3) := by decide +kernel
theorem dX16_fits_191 : decode cX16_fits 191 = .ok (.iconst 1, 1) := by decide +kernel
theorem dX16_fits_192 : decode cX16_fits 192 = .ok (.goto 4, 3) := by decide +kernel
theorem dX16_fits_195 : decode cX16_fits 195 = .ok (.iconst 0, 1) := by decide +kernel
theorem dX16_fits_196 : decode cX16_fits 196 = .ok (.ireturn, 1) := by decide +kernel
theorem dX16_fits_197 : decode cX16_fits 197 = .ok (.aload_n 0, 1) := by decide +kernel
theorem dX16_fits_198 : decode cX16_fits 198 = .ok (.getfield 109, 3) := by decide +kernel
theorem dX16_fits_201 : decode cX16_fits 201 = .ok (.iload 5, 2) := by decide +kernel
theorem dX16_fits_203 : decode cX16_fits 203 = .ok (.iaload, 1) := by decide +kernel
theorem dX16_fits_204 : decode cX16_fits 204 = .ok (.i2l, 1) := by decide +kernel
theorem dX16_fits_205 : decode cX16_fits 205 = .ok (.lload 6, 2) := by decide +kernel
theorem dX16_fits_207 : decode cX16_fits 207 = .ok (.lcmp, 1) := by decide +kernel
theorem dX16_fits_208 : decode cX16_fits 208 = .ok (.ifCond .lt 39, 3) := by decide +kernel
theorem dX16_fits_211 : decode cX16_fits 211 = .ok (.lload 8, 2) := by decide +kernel
theorem dX16_fits_213 : decode cX16_fits 213 = .ok (.lconst 0, 1) := by decide +kernel
theorem dX16_fits_214 : decode cX16_fits 214 = .ok (.lcmp, 1) := by decide +kernel
theorem dX16_fits_215 : decode cX16_fits 215 = .ok (.ifCond .lt 28, 3) := by decide +kernel
theorem dX16_fits_218 : decode cX16_fits 218 = .ok (.aload_n 0, 1) := by decide +kernel
theorem dX16_fits_219 : decode cX16_fits 219 = .ok (.getfield 112, 3) := by decide +kernel
theorem dX16_fits_222 : decode cX16_fits 222 = .ok (.iload 5, 2) := by decide +kernel
theorem dX16_fits_224 : decode cX16_fits 224 = .ok (.laload, 1) := by decide +kernel
theorem dX16_fits_225 : decode cX16_fits 225 = .ok (.lconst 0, 1) := by decide +kernel
theorem dX16_fits_226 : decode cX16_fits 226 = .ok (.lcmp, 1) := by decide +kernel
theorem dX16_fits_227 : decode cX16_fits 227 = .ok (.ifCond .lt 20, 3) := by decide +kernel
theorem dX16_fits_230 : decode cX16_fits 230 = .ok (.aload_n 0, 1) := by decide +kernel
theorem dX16_fits_231 : decode cX16_fits 231 = .ok (.getfield 112, 3) := by decide +kernel
theorem dX16_fits_234 : decode cX16_fits 234 = .ok (.iload 5, 2) := by decide +kernel
theorem dX16_fits_236 : decode cX16_fits 236 = .ok (.laload, 1) := by decide +kernel
theorem dX16_fits_237 : decode cX16_fits 237 = .ok (.lload 8, 2) := by decide +kernel
theorem dX16_fits_239 : decode cX16_fits 239 = .ok (.lcmp, 1) := by decide +kernel
theorem dX16_fits_240 : decode cX16_fits 240 = .ok (.ifCond .gt 7, 3) := by decide +kernel
theorem dX16_fits_243 : decode cX16_fits 243 = .ok (.iconst 1, 1) := by decide +kernel
theorem dX16_fits_244 : decode cX16_fits 244 = .ok (.goto 4, 3) := by decide +kernel
theorem dX16_fits_247 : decode cX16_fits 247 = .ok (.iconst 0, 1) := by decide +kernel
theorem dX16_fits_248 : decode cX16_fits 248 = .ok (.ireturn, 1) := by decide +kernel
theorem dX16_fits_249 : decode cX16_fits 249 = .ok (.aload_n 0, 1) := by decide +kernel
theorem dX16_fits_250 : decode cX16_fits 250 = .ok (.getfield 122, 3) := by decide +kernel
theorem dX16_fits_253 : decode cX16_fits 253 = .ok (.iload 5, 2) := by decide +kernel
theorem dX16_fits_255 : decode cX16_fits 255 = .ok (.iaload, 1) := by decide +kernel
theorem dX16_fits_256 : decode cX16_fits 256 = .ok (.i2l, 1) := by decide +kernel
theorem dX16_fits_257 : decode cX16_fits 257 = .ok (.aload_n 3, 1) := by decide +kernel
theorem dX16_fits_258 : decode cX16_fits 258 = .ok (.getfield 414, 3) := by decide +kernel
theorem dX16_fits_261 : decode cX16_fits 261 = .ok (.iload_n 2, 1) := by decide +kernel
theorem dX16_fits_262 : decode cX16_fits 262 = .ok (.laload, 1) := by decide +kernel
theorem dX16_fits_263 : decode cX16_fits 263 = .ok (.lcmp, 1) := by decide +kernel
theorem dX16_fits_264 : decode cX16_fits 264 = .ok (.ifCond .ne 23, 3) := by decide +kernel
theorem dX16_fits_267 : decode cX16_fits 267 = .ok (.aload_n 0, 1) := by decide +kernel
theorem dX16_fits_268 : decode cX16_fits 268 = .ok (.getfield 125, 3) := by decide +kernel
theorem dX16_fits_271 : decode cX16_fits 271 = .ok (.iload 5, 2) := by decide +kernel
theorem dX16_fits_273 : decode cX16_fits 273 = .ok (.baload, 1) := by decide +kernel
theorem dX16_fits_274 : decode cX16_fits 274 = .ok (.aload_n 3, 1) := by decide +kernel
theorem dX16_fits_275 : decode cX16_fits 275 = .ok (.getfield 423, 3) := by decide +kernel
theorem dX16_fits_278 : decode cX16_fits 278 = .ok (.iload_n 2, 1) := by decide +kernel
theorem dX16_fits_279 : decode cX16_fits 279 = .ok (.baload, 1) := by decide +kernel
theorem dX16_fits_280 : decode cX16_fits 280 = .ok (.if_icmp .ne 7, 3) := by decide +kernel
theorem dX16_fits_283 : decode cX16_fits 283 = .ok (.iconst 1, 1) := by decide +kernel
theorem dX16_fits_284 : decode cX16_fits 284 = .ok (.goto 4, 3) := by decide +kernel
theorem dX16_fits_287 : decode cX16_fits 287 = .ok (.iconst 0, 1) := by decide +kernel
theorem dX16_fits_288 : decode cX16_fits 288 = .ok (.ireturn, 1) := by decide +kernel
noncomputable def fX16_fits (h : pm_H) (a0 : Nat) (p1 : Int32) (p2 : Int32) : Option Int32 := if pm_kd h a0 = 16 then (pm_R h a0 4).bind fun v2 => if pm_kd h v2 = 42 then if pm_in p1 (pm_ln h v2) then (pm_R h v2 p1.toNatClampNeg).bind fun v6 => if pm_kd h v6 = 14 then (pm_R h v6 9).bind fun v9 => if pm_kd h v9 = 34 then if pm_in p2 (pm_ln h v9) then pm_let (pm_I h v9 p2.toNatClampNeg) fun y13 => (pm_R h a0 75).bind fun v15 => if pm_kd h v15 = 34 then if pm_in p2 (pm_ln h v15) then pm_let (pm_I h v15 p2.toNatClampNeg) fun y19 => (pm_R h a0 74).bind fun v21 => if pm_kd h v21 = 34 then if pm_in p2 (pm_ln h v21) then if (pm_I h v21 p2.toNatClampNeg) = (-1) then (if y13 = 0 then (some 1) else (some 0)) else (if pm_in p2 (pm_ln h v21) then if (pm_I h v21 p2.toNatClampNeg) = y13 then ((pm_R h v6 11).bind fun v28 => if pm_kd h v28 = 35 then if pm_in p2 (pm_ln h v28) then pm_let (pm_L h v28 p2.toNatClampNeg) fun y32 => (pm_R h v6 12).bind fun v34 => if pm_kd h v34 = 35 then if pm_in p2 (pm_ln h v34) then pm_let (pm_L h v34 p2.toNatClampNeg) fun y38 => if y13 = 0 then ((pm_R h v6 10).bind fun v41 => if pm_kd h v41 = 35 then if pm_in p2 (pm_ln h v41) then (pm_R h a0 37).bind fun v45 => if pm_kd h v45 = 34 then if pm_in y19 (pm_ln h v45) then (pm_R h a0 38).bind fun v49 => if pm_kd h v49 = 34 then if pm_in y19 (pm_ln h v49) then (fX16_haveSameRows h a0 p1 ((pm_L h v41 p2.toNatClampNeg).toInt32) (pm_I h v45 y19.toNatClampNeg) (pm_I h v49 y19.toNatClampNeg)).bind fun v53 => if v53 = 0 ∨ v53 = 1 then some v53 else none else none else none else none else none else none else none) else (if y13 = 1 then ((pm_R h a0 48).bind fun v57 => if pm_kd h v57 = 34 then if pm_in y19 (pm_ln h v57) then (pm_R h v6 10).bind fun v61 => if pm_kd h v61 = 35 then if pm_in p2 (pm_ln h v61) then if ((pm_I h v57 y19.toNatClampNeg).toInt64) = (pm_L h v61 p2.toNatClampNeg) then ((pm_R h a0 49).bind fun v66 => if pm_kd h v66 = 34 then if pm_in y19 (pm_ln h v66) then if ((pm_I h v66 y19.toNatClampNeg).toInt64) < y32 then (some 0) else (if y38 < 0 then (some 1) else ((pm_R h a0 50).bind fun v72 => if pm_kd h v72 = 35 then if pm_in y19 (pm_ln h v72) then if (pm_L h v72 y19.toNatClampNeg) < 0 then (some 0) else (if pm_in y19 (pm_ln h v72) then if y38 < (pm_L h v72 y19.toNatClampNeg) then (some 0) else (some 1) else none) else none else none)) else none else none) else (some 0) else none else none else none else none) else (if y13 = 2 then ((pm_R h a0 54).bind fun v80 => if pm_kd h v80 = 34 then if pm_in y19 (pm_ln h v80) then if ((pm_I h v80 y19.toNatClampNeg).toInt64) < y32 then (some 0) else (if y38 < 0 then (some 1) else ((pm_R h a0 55).bind fun v86 => if pm_kd h v86 = 35 then if pm_in y19 (pm_ln h v86) then if (pm_L h v86 y19.toNatClampNeg) < 0 then (some 0) else (if pm_in y19 (pm_ln h v86) then if y38 < (pm_L h v86 y19.toNatClampNeg) then (some 0) else (some 1) else none) else none else none)) else none else none) else ((pm_R h a0 59).bind fun v93 => if pm_kd h v93 = 34 then if pm_in y19 (pm_ln h v93) then (pm_R h v6 10).bind fun v97 => if pm_kd h v97 = 35 then if pm_in p2 (pm_ln h v97) then if ((pm_I h v93 y19.toNatClampNeg).toInt64) = (pm_L h v97 p2.toNatClampNeg) then ((pm_R h a0 60).bind fun v102 => if pm_kd h v102 = 32 then if pm_in y19 (pm_ln h v102) then (pm_R h v6 13).bind fun v106 => if pm_kd h v106 = 32 then if pm_in p2 (pm_ln h v106) then if (pm_I h v102 y19.toNatClampNeg) = (pm_I h v106 p2.toNatClampNeg) then (some 1) else (some 0) else none else none else none else none) else (some 0) else none else none else none else none))) else none else none else none else none) else (some 0) else none) else none else none else none else none else none else none else none else none else none else none
set_option maxHeartbeats 4000000 in
set_option maxRecDepth 100000 in
theorem ctX16_fits {l : Launch} {G : pm_Gl} {h : pm_H} {a0 : Nat} {p1 : Int32} {p2 : Int32} {r : Int32} {Qr : Option Value → pm_H → Prop} (hf : fX16_fits h a0 p1 p2 = some r) (q : Qr (some (.int r)) h) : pm_Ct l G mX16_fits [.ref a0, .int p1, .int p2] h 0 0 Qr := by
  refine pm_body pnX16 (Nat.le_of_ble_eq_true rfl) (fun g C X => ?_)
  have C : pm_C g cX16_fits RX16 := C
  show pm_G g 0 [(0, .ref a0), (1, .int p1), (2, .int p2)] [] h 0 0
  unfold fX16_fits at hf
  refine pm_aload_n C dX16_fits_0 rfl rfl ?_
  obtain ⟨k1, hf⟩ := pm_if hf
  obtain ⟨v2, e3, hf⟩ := pm_bd hf
  refine pm_getR C dX16_fits_1 flX16_16 rfl k1 e3 ?_
  refine pm_iload_n C dX16_fits_4 rfl rfl ?_
  obtain ⟨k4, hf⟩ := pm_if hf
  obtain ⟨u5, hf⟩ := pm_if hf
  obtain ⟨v6, e7, hf⟩ := pm_bd hf
  refine pm_ald (t := 10) C dX16_fits_5 (by decide) rfl k4 u5 e7 ?_
  refine pm_astore_n (lv' := [(3, .ref v6), (0, .ref a0), (1, .int p1), (2, .int p2)]) C dX16_fits_6 rfl (pm_nl X (by decide)) rfl ?_
  refine pm_aload_n C dX16_fits_7 rfl rfl ?_
  obtain ⟨k8, hf⟩ := pm_if hf
  obtain ⟨v9, e10, hf⟩ := pm_bd hf
  refine pm_getR C dX16_fits_8 flX16_411 rfl k8 e10 ?_
  refine pm_iload_n C dX16_fits_11 rfl rfl ?_
  obtain ⟨k11, hf⟩ := pm_if hf
  obtain ⟨u12, hf⟩ := pm_if hf
  refine pm_iald C dX16_fits_12 k11 u12 rfl ?_
  obtain ⟨y13, e14, hf⟩ := pm_lt hf
  refine pm_topI e14 ?_
  refine pm_istore (lv' := [(4, .int y13), (3, .ref v6), (0, .ref a0), (1, .int p1), (2, .int p2)]) C dX16_fits_13 (pm_nl X (by decide)) rfl ?_
  refine pm_aload_n C dX16_fits_15 rfl rfl ?_
  obtain ⟨v15, e16, hf⟩ := pm_bd hf
  refine pm_getR C dX16_fits_16 flX16_161 rfl k1 e16 ?_
  refine pm_iload_n C dX16_fits_19 rfl rfl ?_
  obtain ⟨k17, hf⟩ := pm_if hf
  obtain ⟨u18, hf⟩ := pm_if hf
  refine pm_iald C dX16_fits_20 k17 u18 rfl ?_
  obtain ⟨y19, e20, hf⟩ := pm_lt hf
  refine pm_topI e20 ?_
  refine pm_istore (lv' := [(5, .int y19), (4, .int y13), (3, .ref v6), (0, .ref a0), (1, .int p1), (2, .int p2)]) C dX16_fits_21 (pm_nl X (by decide)) rfl ?_
  refine pm_aload_n C dX16_fits_23 rfl rfl ?_
  obtain ⟨v21, e22, hf⟩ := pm_bd hf
  refine pm_getR C dX16_fits_24 flX16_158 rfl k1 e22 ?_
  refine pm_iload_n C dX16_fits_27 rfl rfl ?_
  obtain ⟨k23, hf⟩ := pm_if hf
  obtain ⟨u24, hf⟩ := pm_if hf
  refine pm_iald C dX16_fits_28 k23 u24 rfl ?_
  refine pm_iconst (v := (-1)) C dX16_fits_29 (by decide) ?_
  refine pm_icmp_ne (tgt := 44) C dX16_fits_30 (by decide) (fun c25 => ?_) (fun c25 => ?_)
  · have hf := pm_ie hf c25
    refine pm_aload_n C dX16_fits_44 rfl rfl ?_
    refine pm_getR C dX16_fits_45 flX16_158 rfl k1 e22 ?_
    refine pm_iload_n C dX16_fits_48 rfl rfl ?_
    obtain ⟨u26, hf⟩ := pm_if hf
    refine pm_iald C dX16_fits_49 k23 u26 rfl ?_
    refine pm_iload C dX16_fits_50 rfl ?_
    refine pm_icmp_eq (tgt := 57) C dX16_fits_52 (by decide) (fun c27 => ?_) (fun c27 => ?_)
    · have hf := pm_it hf c27
      refine pm_aload_n C dX16_fits_57 rfl rfl ?_
      obtain ⟨v28, e29, hf⟩ := pm_bd hf
      refine pm_getR C dX16_fits_58 flX16_417 rfl k8 e29 ?_
      refine pm_iload_n C dX16_fits_61 rfl rfl ?_
      obtain ⟨k30, hf⟩ := pm_if hf
      obtain ⟨u31, hf⟩ := pm_if hf
      refine pm_lald C dX16_fits_62 k30 u31 rfl ?_
      obtain ⟨y32, e33, hf⟩ := pm_lt hf
      refine pm_topL e33 ?_
      refine pm_lstore (lv' := [(6, .long y32), (5, .int y19), (4, .int y13), (3, .ref v6), (0, .ref a0), (1, .int p1), (2, .int p2)]) C dX16_fits_63 (pm_nl X (by decide)) rfl ?_
      refine pm_aload_n C dX16_fits_65 rfl rfl ?_
      obtain ⟨v34, e35, hf⟩ := pm_bd hf
      refine pm_getR C dX16_fits_66 flX16_420 rfl k8 e35 ?_
      refine pm_iload_n C dX16_fits_69 rfl rfl ?_
      obtain ⟨k36, hf⟩ := pm_if hf
      obtain ⟨u37, hf⟩ := pm_if hf
      refine pm_lald C dX16_fits_70 k36 u37 rfl ?_
      obtain ⟨y38, e39, hf⟩ := pm_lt hf
      refine pm_topL e39 ?_
      refine pm_lstore (lv' := [(8, .long y38), (6, .long y32), (5, .int y19), (4, .int y13), (3, .ref v6), (0, .ref a0), (1, .int p1), (2, .int p2)]) C dX16_fits_71 (pm_nl X (by decide)) rfl ?_
      refine pm_iload C dX16_fits_73 rfl ?_
      by_cases c40 : y13 = 0
      · have hf := pm_it hf c40
        refine pm_tableIn (tgt := 100) C dX16_fits_75 (by rw [c40]; decide) (by rw [c40]; decide) (by rw [c40]; rfl) (by decide) ?_
        refine pm_aload_n C dX16_fits_100 rfl rfl ?_
        refine pm_iload_n C dX16_fits_101 rfl rfl ?_
        refine pm_aload_n C dX16_fits_102 rfl rfl ?_
        obtain ⟨v41, e42, hf⟩ := pm_bd hf
        refine pm_getR C dX16_fits_103 flX16_414 rfl k8 e42 ?_
        refine pm_iload_n C dX16_fits_106 rfl rfl ?_
        obtain ⟨k43, hf⟩ := pm_if hf
        obtain ⟨u44, hf⟩ := pm_if hf
        refine pm_lald C dX16_fits_107 k43 u44 rfl ?_
        refine pm_l2i C dX16_fits_108 ?_
        refine pm_aload_n C dX16_fits_109 rfl rfl ?_
        obtain ⟨v45, e46, hf⟩ := pm_bd hf
        refine pm_getR C dX16_fits_110 flX16_68 rfl k1 e46 ?_
        refine pm_iload C dX16_fits_113 rfl ?_
        obtain ⟨k47, hf⟩ := pm_if hf
        obtain ⟨u48, hf⟩ := pm_if hf
        refine pm_iald C dX16_fits_115 k47 u48 rfl ?_
        refine pm_aload_n C dX16_fits_116 rfl rfl ?_
        obtain ⟨v49, e50, hf⟩ := pm_bd hf
        refine pm_getR C dX16_fits_117 flX16_71 rfl k1 e50 ?_
        refine pm_iload C dX16_fits_120 rfl ?_
        obtain ⟨k51, hf⟩ := pm_if hf
        obtain ⟨u52, hf⟩ := pm_if hf
        refine pm_iald C dX16_fits_122 k51 u52 rfl ?_
        obtain ⟨v53, e54, hf⟩ := pm_bd hf
        refine pm_callV (as := [.int p1, .int ((pm_L h v41 p2.toNatClampNeg).toInt32), .int (pm_I h v45 y19.toNatClampNeg), .int (pm_I h v49 y19.toNatClampNeg)]) (st := []) C X dX16_fits_123 lnX16_973 myX16_haveSameRows viX16_haveSameRows ⟨by decide, by decide⟩ rfl rfl k1 (Nat.le_of_ble_eq_true rfl) (Nat.le_refl _) (Nat.le_refl _) (ctX16_haveSameRows e54 ?_)
        show pm_G g 126 [(8, .long y38), (6, .long y32), (5, .int y19), (4, .int y13), (3, .ref v6), (0, .ref a0), (1, .int p1), (2, .int p2)] [.int v53] h 0 0
        obtain ⟨u55, hf⟩ := pm_if hf
        cases hf
        exact pm_zret C X dX16_fits_126 rfl (pm_b01 u55).1 (Nat.le_refl _) (Nat.le_refl _) q
      have hf := pm_ie hf c40
      by_cases c56 : y13 = 1
      · have hf := pm_it hf c56
        refine pm_tableIn (tgt := 127) C dX16_fits_75 (by rw [c56]; decide) (by rw [c56]; decide) (by rw [c56]; rfl) (by decide) ?_
        refine pm_aload_n C dX16_fits_127 rfl rfl ?_
        obtain ⟨v57, e58, hf⟩ := pm_bd hf
        refine pm_getR C dX16_fits_128 flX16_93 rfl k1 e58 ?_
        refine pm_iload C dX16_fits_131 rfl ?_
        obtain ⟨k59, hf⟩ := pm_if hf
        obtain ⟨u60, hf⟩ := pm_if hf
        refine pm_iald C dX16_fits_133 k59 u60 rfl ?_
        refine pm_i2l C dX16_fits_134 ?_
        refine pm_aload_n C dX16_fits_135 rfl rfl ?_
        obtain ⟨v61, e62, hf⟩ := pm_bd hf
        refine pm_getR C dX16_fits_136 flX16_414 rfl k8 e62 ?_
        refine pm_iload_n C dX16_fits_139 rfl rfl ?_
        obtain ⟨k63, hf⟩ := pm_if hf
        obtain ⟨u64, hf⟩ := pm_if hf
        refine pm_lald C dX16_fits_140 k63 u64 rfl ?_
        refine pm_lcmp C dX16_fits_141 ?_
        refine pm_if_ne (tgt := 195) C dX16_fits_142 (by decide) (fun c65 => ?_) (fun c65 => ?_)
        · have hf := pm_ie hf ((fun z => c65 ((pm_lg_eq _ _).mpr z)))
          refine pm_iconst (v := 0) C dX16_fits_195 (by decide) ?_
          cases hf
          exact pm_zret C X dX16_fits_196 rfl (by decide) (Nat.le_refl _) (Nat.le_refl _) q
        · have hf := pm_it hf ((pm_lg_eq _ _).mp c65)
          refine pm_aload_n C dX16_fits_145 rfl rfl ?_
          obtain ⟨v66, e67, hf⟩ := pm_bd hf
          refine pm_getR C dX16_fits_146 flX16_96 rfl k1 e67 ?_
          refine pm_iload C dX16_fits_149 rfl ?_
          obtain ⟨k68, hf⟩ := pm_if hf
          obtain ⟨u69, hf⟩ := pm_if hf
          refine pm_iald C dX16_fits_151 k68 u69 rfl ?_
          refine pm_i2l C dX16_fits_152 ?_
          refine pm_lload C dX16_fits_153 rfl ?_
          refine pm_lcmp C dX16_fits_155 ?_
          refine pm_if_lt (tgt := 195) C dX16_fits_156 (by decide) (fun c70 => ?_) (fun c70 => ?_)
          · have hf := pm_it hf ((pm_lg_lt _ _).mp c70)
            refine pm_iconst (v := 0) C dX16_fits_195 (by decide) ?_
            cases hf
            exact pm_zret C X dX16_fits_196 rfl (by decide) (Nat.le_refl _) (Nat.le_refl _) q
          · have hf := pm_ie hf ((fun z => c70 ((pm_lg_lt _ _).mpr z)))
            refine pm_lload C dX16_fits_159 rfl ?_
            refine pm_lconst (v := 0) C dX16_fits_161 (by decide) ?_
            refine pm_lcmp C dX16_fits_162 ?_
            refine pm_if_lt (tgt := 191) C dX16_fits_163 (by decide) (fun c71 => ?_) (fun c71 => ?_)
            · have hf := pm_it hf ((pm_lg_lt _ _).mp c71)
              refine pm_iconst (v := 1) C dX16_fits_191 (by decide) ?_
              refine pm_goto (tgt := 196) C dX16_fits_192 (by decide) ?_
              cases hf
              exact pm_zret C X dX16_fits_196 rfl (by decide) (Nat.le_refl _) (Nat.le_refl _) q
            · have hf := pm_ie hf ((fun z => c71 ((pm_lg_lt _ _).mpr z)))
              refine pm_aload_n C dX16_fits_166 rfl rfl ?_
              obtain ⟨v72, e73, hf⟩ := pm_bd hf
              refine pm_getR C dX16_fits_167 flX16_99 rfl k1 e73 ?_
              refine pm_iload C dX16_fits_170 rfl ?_
              obtain ⟨k74, hf⟩ := pm_if hf
              obtain ⟨u75, hf⟩ := pm_if hf
              refine pm_lald C dX16_fits_172 k74 u75 rfl ?_
              refine pm_lconst (v := 0) C dX16_fits_173 (by decide) ?_
              refine pm_lcmp C dX16_fits_174 ?_
              refine pm_if_lt (tgt := 195) C dX16_fits_175 (by decide) (fun c76 => ?_) (fun c76 => ?_)
              · have hf := pm_it hf ((pm_lg_lt _ _).mp c76)
                refine pm_iconst (v := 0) C dX16_fits_195 (by decide) ?_
                cases hf
                exact pm_zret C X dX16_fits_196 rfl (by decide) (Nat.le_refl _) (Nat.le_refl _) q
              · have hf := pm_ie hf ((fun z => c76 ((pm_lg_lt _ _).mpr z)))
                refine pm_aload_n C dX16_fits_178 rfl rfl ?_
                refine pm_getR C dX16_fits_179 flX16_99 rfl k1 e73 ?_
                refine pm_iload C dX16_fits_182 rfl ?_
                obtain ⟨u77, hf⟩ := pm_if hf
                refine pm_lald C dX16_fits_184 k74 u77 rfl ?_
                refine pm_lload C dX16_fits_185 rfl ?_
                refine pm_lcmp C dX16_fits_187 ?_
                refine pm_if_gt (tgt := 195) C dX16_fits_188 (by decide) (fun c78 => ?_) (fun c78 => ?_)
                · have hf := pm_it hf ((pm_lg_gt _ _).mp c78)
                  refine pm_iconst (v := 0) C dX16_fits_195 (by decide) ?_
                  cases hf
                  exact pm_zret C X dX16_fits_196 rfl (by decide) (Nat.le_refl _) (Nat.le_refl _) q
                · have hf := pm_ie hf ((fun z => c78 ((pm_lg_gt _ _).mpr z)))
                  refine pm_iconst (v := 1) C dX16_fits_191 (by decide) ?_
                  refine pm_goto (tgt := 196) C dX16_fits_192 (by decide) ?_
                  cases hf
                  exact pm_zret C X dX16_fits_196 rfl (by decide) (Nat.le_refl _) (Nat.le_refl _) q
      have hf := pm_ie hf c56
      by_cases c79 : y13 = 2
      · have hf := pm_it hf c79
        refine pm_tableIn (tgt := 197) C dX16_fits_75 (by rw [c79]; decide) (by rw [c79]; decide) (by rw [c79]; rfl) (by decide) ?_
        refine pm_aload_n C dX16_fits_197 rfl rfl ?_
        obtain ⟨v80, e81, hf⟩ := pm_bd hf
        refine pm_getR C dX16_fits_198 flX16_109 rfl k1 e81 ?_
        refine pm_iload C dX16_fits_201 rfl ?_
        obtain ⟨k82, hf⟩ := pm_if hf
        obtain ⟨u83, hf⟩ := pm_if hf
        refine pm_iald C dX16_fits_203 k82 u83 rfl ?_
        refine pm_i2l C dX16_fits_204 ?_
        refine pm_lload C dX16_fits_205 rfl ?_
        refine pm_lcmp C dX16_fits_207 ?_
        refine pm_if_lt (tgt := 247) C dX16_fits_208 (by decide) (fun c84 => ?_) (fun c84 => ?_)
        · have hf := pm_it hf ((pm_lg_lt _ _).mp c84)
          refine pm_iconst (v := 0) C dX16_fits_247 (by decide) ?_
          cases hf
          exact pm_zret C X dX16_fits_248 rfl (by decide) (Nat.le_refl _) (Nat.le_refl _) q
        · have hf := pm_ie hf ((fun z => c84 ((pm_lg_lt _ _).mpr z)))
          refine pm_lload C dX16_fits_211 rfl ?_
          refine pm_lconst (v := 0) C dX16_fits_213 (by decide) ?_
          refine pm_lcmp C dX16_fits_214 ?_
          refine pm_if_lt (tgt := 243) C dX16_fits_215 (by decide) (fun c85 => ?_) (fun c85 => ?_)
          · have hf := pm_it hf ((pm_lg_lt _ _).mp c85)
            refine pm_iconst (v := 1) C dX16_fits_243 (by decide) ?_
            refine pm_goto (tgt := 248) C dX16_fits_244 (by decide) ?_
            cases hf
            exact pm_zret C X dX16_fits_248 rfl (by decide) (Nat.le_refl _) (Nat.le_refl _) q
          · have hf := pm_ie hf ((fun z => c85 ((pm_lg_lt _ _).mpr z)))
            refine pm_aload_n C dX16_fits_218 rfl rfl ?_
            obtain ⟨v86, e87, hf⟩ := pm_bd hf
            refine pm_getR C dX16_fits_219 flX16_112 rfl k1 e87 ?_
            refine pm_iload C dX16_fits_222 rfl ?_
            obtain ⟨k88, hf⟩ := pm_if hf
            obtain ⟨u89, hf⟩ := pm_if hf
            refine pm_lald C dX16_fits_224 k88 u89 rfl ?_
            refine pm_lconst (v := 0) C dX16_fits_225 (by decide) ?_
            refine pm_lcmp C dX16_fits_226 ?_
            refine pm_if_lt (tgt := 247) C dX16_fits_227 (by decide) (fun c90 => ?_) (fun c90 => ?_)
            · have hf := pm_it hf ((pm_lg_lt _ _).mp c90)
              refine pm_iconst (v := 0) C dX16_fits_247 (by decide) ?_
              cases hf
              exact pm_zret C X dX16_fits_248 rfl (by decide) (Nat.le_refl _) (Nat.le_refl _) q
            · have hf := pm_ie hf ((fun z => c90 ((pm_lg_lt _ _).mpr z)))
              refine pm_aload_n C dX16_fits_230 rfl rfl ?_
              refine pm_getR C dX16_fits_231 flX16_112 rfl k1 e87 ?_
              refine pm_iload C dX16_fits_234 rfl ?_
              obtain ⟨u91, hf⟩ := pm_if hf
              refine pm_lald C dX16_fits_236 k88 u91 rfl ?_
              refine pm_lload C dX16_fits_237 rfl ?_
              refine pm_lcmp C dX16_fits_239 ?_
              refine pm_if_gt (tgt := 247) C dX16_fits_240 (by decide) (fun c92 => ?_) (fun c92 => ?_)
              · have hf := pm_it hf ((pm_lg_gt _ _).mp c92)
                refine pm_iconst (v := 0) C dX16_fits_247 (by decide) ?_
                cases hf
                exact pm_zret C X dX16_fits_248 rfl (by decide) (Nat.le_refl _) (Nat.le_refl _) q
              · have hf := pm_ie hf ((fun z => c92 ((pm_lg_gt _ _).mpr z)))
                refine pm_iconst (v := 1) C dX16_fits_243 (by decide) ?_
                refine pm_goto (tgt := 248) C dX16_fits_244 (by decide) ?_
                cases hf
                exact pm_zret C X dX16_fits_248 rfl (by decide) (Nat.le_refl _) (Nat.le_refl _) q
      have hf := pm_ie hf c79
      have nc40 := lv_neT c40 (by decide : (0 : Int32).toInt = 0)
      have nc56 := lv_neT c56 (by decide : (1 : Int32).toInt = 1)
      have nc79 := lv_neT c79 (by decide : (2 : Int32).toInt = 2)
      refine pm_tableOut (tgt := 249) C dX16_fits_75 (by omega) (by decide) ?_
      refine pm_aload_n C dX16_fits_249 rfl rfl ?_
      obtain ⟨v93, e94, hf⟩ := pm_bd hf
      refine pm_getR C dX16_fits_250 flX16_122 rfl k1 e94 ?_
      refine pm_iload C dX16_fits_253 rfl ?_
      obtain ⟨k95, hf⟩ := pm_if hf
      obtain ⟨u96, hf⟩ := pm_if hf
      refine pm_iald C dX16_fits_255 k95 u96 rfl ?_
      refine pm_i2l C dX16_fits_256 ?_
      refine pm_aload_n C dX16_fits_257 rfl rfl ?_
      obtain ⟨v97, e98, hf⟩ := pm_bd hf
      refine pm_getR C dX16_fits_258 flX16_414 rfl k8 e98 ?_
      refine pm_iload_n C dX16_fits_261 rfl rfl ?_
      obtain ⟨k99, hf⟩ := pm_if hf
      obtain ⟨u100, hf⟩ := pm_if hf
      refine pm_lald C dX16_fits_262 k99 u100 rfl ?_
      refine pm_lcmp C dX16_fits_263 ?_
      refine pm_if_ne (tgt := 287) C dX16_fits_264 (by decide) (fun c101 => ?_) (fun c101 => ?_)
      · have hf := pm_ie hf ((fun z => c101 ((pm_lg_eq _ _).mpr z)))
        refine pm_iconst (v := 0) C dX16_fits_287 (by decide) ?_
        cases hf
        exact pm_zret C X dX16_fits_288 rfl (by decide) (Nat.le_refl _) (Nat.le_refl _) q
      · have hf := pm_it hf ((pm_lg_eq _ _).mp c101)
        refine pm_aload_n C dX16_fits_267 rfl rfl ?_
        obtain ⟨v102, e103, hf⟩ := pm_bd hf
        refine pm_getR C dX16_fits_268 flX16_125 rfl k1 e103 ?_
        refine pm_iload C dX16_fits_271 rfl ?_
        obtain ⟨k104, hf⟩ := pm_if hf
        obtain ⟨u105, hf⟩ := pm_if hf
        refine pm_zald C dX16_fits_273 k104 u105 rfl ?_
        refine pm_aload_n C dX16_fits_274 rfl rfl ?_
        obtain ⟨v106, e107, hf⟩ := pm_bd hf
        refine pm_getR C dX16_fits_275 flX16_423 rfl k8 e107 ?_
        refine pm_iload_n C dX16_fits_278 rfl rfl ?_
        obtain ⟨k108, hf⟩ := pm_if hf
        obtain ⟨u109, hf⟩ := pm_if hf
        refine pm_zald C dX16_fits_279 k108 u109 rfl ?_
        refine pm_icmp_ne (tgt := 287) C dX16_fits_280 (by decide) (fun c110 => ?_) (fun c110 => ?_)
        · have hf := pm_ie hf c110
          refine pm_iconst (v := 0) C dX16_fits_287 (by decide) ?_
          cases hf
          exact pm_zret C X dX16_fits_288 rfl (by decide) (Nat.le_refl _) (Nat.le_refl _) q
        · have hf := pm_it hf c110
          refine pm_iconst (v := 1) C dX16_fits_283 (by decide) ?_
          refine pm_goto (tgt := 288) C dX16_fits_284 (by decide) ?_
          cases hf
          exact pm_zret C X dX16_fits_288 rfl (by decide) (Nat.le_refl _) (Nat.le_refl _) q
    · have hf := pm_ie hf c27
      refine pm_iconst (v := 0) C dX16_fits_55 (by decide) ?_
      cases hf
      exact pm_zret C X dX16_fits_56 rfl (by decide) (Nat.le_refl _) (Nat.le_refl _) q
  · have hf := pm_it hf c25
    refine pm_iload C dX16_fits_33 rfl ?_
    refine pm_if_ne (tgt := 42) C dX16_fits_35 (by decide) (fun c111 => ?_) (fun c111 => ?_)
    · have hf := pm_ie hf c111
      refine pm_iconst (v := 0) C dX16_fits_42 (by decide) ?_
      cases hf
      exact pm_zret C X dX16_fits_43 rfl (by decide) (Nat.le_refl _) (Nat.le_refl _) q
    · have hf := pm_it hf c111
      refine pm_iconst (v := 1) C dX16_fits_38 (by decide) ?_
      refine pm_goto (tgt := 43) C dX16_fits_39 (by decide) ?_
      cases hf
      exact pm_zret C X dX16_fits_43 rfl (by decide) (Nat.le_refl _) (Nat.le_refl _) q
theorem dX16_gets_0 : decode cX16_gets 0 = .ok (.aload_n 0, 1) := by decide +kernel
theorem dX16_gets_1 : decode cX16_gets 1 = .ok (.getfield 119, 3) := by decide +kernel
theorem dX16_gets_4 : decode cX16_gets 4 = .ok (.aload_n 0, 1) := by decide +kernel
theorem dX16_gets_5 : decode cX16_gets 5 = .ok (.iload_n 1, 1) := by decide +kernel
theorem dX16_gets_6 : decode cX16_gets 6 = .ok (.lload_n 2, 1) := by decide +kernel
theorem dX16_gets_7 : decode cX16_gets 7 = .ok (.invokevirtual 1061, 3) := by decide +kernel
theorem dX16_gets_10 : decode cX16_gets 10 = .ok (.baload, 1) := by decide +kernel
theorem dX16_gets_11 : decode cX16_gets 11 = .ok (.i2l, 1) := by decide +kernel
theorem dX16_gets_12 : decode cX16_gets 12 = .ok (.ldc2_w 297, 3) := by decide +kernel
theorem dX16_gets_15 : decode cX16_gets 15 = .ok (.land, 1) := by decide +kernel
theorem dX16_gets_16 : decode cX16_gets 16 = .ok (.lreturn, 1) := by decide +kernel
def fX16_gets (h : pm_H) (a0 : Nat) (p1 : Int32) (p2 : Int64) : Option Int64 := if pm_kd h a0 = 16 then (pm_R h a0 57).bind fun v2 => (fX16_placeOf h a0 p1 p2).bind fun v4 => if pm_kd h v2 = 33 then if pm_in v4 (pm_ln h v2) then some (((pm_I h v2 v4.toNatClampNeg).toInt64) &&& 255) else none else none else none
set_option maxHeartbeats 4000000 in
set_option maxRecDepth 100000 in
theorem ctX16_gets {l : Launch} {G : pm_Gl} {h : pm_H} {a0 : Nat} {p1 : Int32} {p2 : Int64} {r : Int64} {Qr : Option Value → pm_H → Prop} (hf : fX16_gets h a0 p1 p2 = some r) (q : Qr (some (.long r)) h) : pm_Ct l G mX16_gets [.ref a0, .int p1, .long p2] h 0 0 Qr := by
  refine pm_body pnX16 (Nat.le_of_ble_eq_true rfl) (fun g C X => ?_)
  have C : pm_C g cX16_gets RX16 := C
  show pm_G g 0 [(0, .ref a0), (1, .int p1), (2, .long p2)] [] h 0 0
  unfold fX16_gets at hf
  refine pm_aload_n C dX16_gets_0 rfl rfl ?_
  obtain ⟨k1, hf⟩ := pm_if hf
  obtain ⟨v2, e3, hf⟩ := pm_bd hf
  refine pm_getR C dX16_gets_1 flX16_119 rfl k1 e3 ?_
  refine pm_aload_n C dX16_gets_4 rfl rfl ?_
  refine pm_iload_n C dX16_gets_5 rfl rfl ?_
  refine pm_lload_n C dX16_gets_6 rfl rfl ?_
  obtain ⟨v4, e5, hf⟩ := pm_bd hf
  refine pm_callV (as := [.int p1, .long p2]) (st := [.ref v2]) C X dX16_gets_7 lnX16_1061 myX16_placeOf viX16_placeOf ⟨by decide, by decide⟩ rfl rfl k1 (Nat.le_of_ble_eq_true rfl) (Nat.le_refl _) (Nat.le_refl _) (ctX16_placeOf e5 ?_)
  show pm_G g 10 [(0, .ref a0), (1, .int p1), (2, .long p2)] [.int v4, .ref v2] h 0 0
  obtain ⟨k6, hf⟩ := pm_if hf
  obtain ⟨u7, hf⟩ := pm_if hf
  refine pm_bald C dX16_gets_10 k6 u7 rfl ?_
  refine pm_i2l C dX16_gets_11 ?_
  refine pm_ldc2 C dX16_gets_12 cnX16_297 ?_
  refine pm_land C dX16_gets_15 ?_
  cases hf
  exact pm_lret C X dX16_gets_16 rfl (Nat.le_refl _) (Nat.le_refl _) q
theorem dX16_give_0 : decode cX16_give 0 = .ok (.aload_n 0, 1) := by decide +kernel
theorem dX16_give_1 : decode cX16_give 1 = .ok (.invokevirtual 986, 3) := by decide +kernel
theorem dX16_give_4 : decode cX16_give 4 = .ok (.ifCond .ne 5, 3) := by decide +kernel
theorem dX16_give_7 : decode cX16_give 7 = .ok (.iconst 0, 1) := by decide +kernel
theorem dX16_give_8 : decode cX16_give 8 = .ok (.ireturn, 1) := by decide +kernel
theorem dX16_give_9 : decode cX16_give 9 = .ok (.aload_n 0, 1) := by decide +kernel
theorem dX16_give_10 : decode cX16_give 10 = .ok (.bipush 6, 2) := by decide +kernel
theorem dX16_give_12 : decode cX16_give 12 = .ok (.putfield 970, 3) := by decide +kernel
theorem dX16_give_15 : decode cX16_give 15 = .ok (.iconst 1, 1) := by decide +kernel
theorem dX16_give_16 : decode cX16_give 16 = .ok (.ireturn, 1) := by decide +kernel
def fX16_give (h : pm_H) (a0 : Nat) : Option (Int32 × pm_H) := if pm_kd h a0 = 16 then (fX16_runs h a0).bind fun v2 => if v2 = 0 then (some ((0, h))) else (some ((1, pm_setI h a0 76 6))) else none
set_option maxHeartbeats 4000000 in
set_option maxRecDepth 100000 in
theorem ctX16_give {l : Launch} {G : pm_Gl} {h : pm_H} {a0 : Nat} {r : (Int32 × pm_H)} {Qr : Option Value → pm_H → Prop} (hf : fX16_give h a0 = some r) (q : Qr (some (.int r.1)) r.2) : pm_Ct l G mX16_give [.ref a0] h 0 0 Qr := by
  refine pm_body pnX16 (Nat.le_of_ble_eq_true rfl) (fun g C X => ?_)
  have C : pm_C g cX16_give RX16 := C
  show pm_G g 0 [(0, .ref a0)] [] h 0 0
  unfold fX16_give at hf
  refine pm_aload_n C dX16_give_0 rfl rfl ?_
  obtain ⟨k1, hf⟩ := pm_if hf
  obtain ⟨v2, e3, hf⟩ := pm_bd hf
  refine pm_callV (as := []) (st := []) C X dX16_give_1 lnX16_986 myX16_runs viX16_runs ⟨by decide, by decide⟩ rfl rfl k1 (Nat.le_of_ble_eq_true rfl) (Nat.le_refl _) (Nat.le_refl _) (ctX16_runs e3 ?_)
  show pm_G g 4 [(0, .ref a0)] [.int v2] h 0 0
  refine pm_if_ne (tgt := 9) C dX16_give_4 (by decide) (fun c4 => ?_) (fun c4 => ?_)
  · have hf := pm_ie hf c4
    refine pm_aload_n C dX16_give_9 rfl rfl ?_
    refine pm_bipush (v := 6) C dX16_give_10 (by decide) ?_
    refine pm_putI C dX16_give_12 flX16_970 rfl rfl k1 rfl rfl ?_
    refine pm_iconst (v := 1) C dX16_give_15 (by decide) ?_
    cases hf
    exact pm_zret C X dX16_give_16 rfl (by decide) (Nat.le_refl _) (Nat.le_refl _) q
  · have hf := pm_it hf c4
    refine pm_iconst (v := 0) C dX16_give_7 (by decide) ?_
    cases hf
    exact pm_zret C X dX16_give_8 rfl (by decide) (Nat.le_refl _) (Nat.le_refl _) q
theorem dX16_isExport_0 : decode cX16_isExport 0 = .ok (.aload_n 0, 1) := by decide +kernel
theorem dX16_isExport_1 : decode cX16_isExport 1 = .ok (.iload_n 1, 1) := by decide +kernel
theorem dX16_isExport_2 : decode cX16_isExport 2 = .ok (.invokevirtual 952, 3) := by decide +kernel
theorem dX16_isExport_5 : decode cX16_isExport 5 = .ok (.ifCond .eq 29, 3) := by decide +kernel
theorem dX16_isExport_8 : decode cX16_isExport 8 = .ok (.iload_n 2, 1) := by decide +kernel
theorem dX16_isExport_9 : decode cX16_isExport 9 = .ok (.ifCond .lt 25, 3) := by decide +kernel
theorem dX16_isExport_12 : decode cX16_isExport 12 = .ok (.iload_n 2, 1) := by decide +kernel
theorem dX16_isExport_13 : decode cX16_isExport 13 = .ok (.aload_n 0, 1) := by decide +kernel
theorem dX16_isExport_14 : decode cX16_isExport 14 = .ok (.getfield 16, 3) := by decide +kernel
theorem dX16_isExport_17 : decode cX16_isExport 17 = .ok (.aload_n 0, 1) := by decide +kernel
theorem dX16_isExport_18 : decode cX16_isExport 18 = .ok (.getfield 131, 3) := by decide +kernel
theorem dX16_isExport_21 : decode cX16_isExport 21 = .ok (.iload_n 1, 1) := by decide +kernel
theorem dX16_isExport_22 : decode cX16_isExport 22 = .ok (.iaload, 1) := by decide +kernel
theorem dX16_isExport_23 : decode cX16_isExport 23 = .ok (.aaload, 1) := by decide +kernel
theorem dX16_isExport_24 : decode cX16_isExport 24 = .ok (.getfield 466, 3) := by decide +kernel
theorem dX16_isExport_27 : decode cX16_isExport 27 = .ok (.if_icmp .ge 7, 3) := by decide +kernel
theorem dX16_isExport_30 : decode cX16_isExport 30 = .ok (.iconst 1, 1) := by decide +kernel
theorem dX16_isExport_31 : decode cX16_isExport 31 = .ok (.goto 4, 3) := by decide +kernel
theorem dX16_isExport_34 : decode cX16_isExport 34 = .ok (.iconst 0, 1) := by decide +kernel
theorem dX16_isExport_35 : decode cX16_isExport 35 = .ok (.ireturn, 1) := by decide +kernel
def fX16_isExport (h : pm_H) (a0 : Nat) (p1 : Int32) (p2 : Int32) : Option Int32 := if pm_kd h a0 = 16 then (fX16_isInstance h a0 p1).bind fun v2 => if v2 = 0 then (some 0) else (if p2 < 0 then (some 0) else ((pm_R h a0 4).bind fun v6 => (pm_R h a0 63).bind fun v8 => if pm_kd h v8 = 34 then if pm_in p1 (pm_ln h v8) then pm_let (pm_I h v8 p1.toNatClampNeg) fun y12 => if pm_kd h v6 = 42 then if pm_in y12 (pm_ln h v6) then (pm_R h v6 y12.toNatClampNeg).bind fun v16 => if pm_kd h v16 = 14 then if (pm_I h v16 28) ≤ p2 then (some 0) else (some 1) else none else none else none else none else none)) else none
set_option maxHeartbeats 4000000 in
set_option maxRecDepth 100000 in
theorem ctX16_isExport {l : Launch} {G : pm_Gl} {h : pm_H} {a0 : Nat} {p1 : Int32} {p2 : Int32} {r : Int32} {Qr : Option Value → pm_H → Prop} (hf : fX16_isExport h a0 p1 p2 = some r) (q : Qr (some (.int r)) h) : pm_Ct l G mX16_isExport [.ref a0, .int p1, .int p2] h 0 0 Qr := by
  refine pm_body pnX16 (Nat.le_of_ble_eq_true rfl) (fun g C X => ?_)
  have C : pm_C g cX16_isExport RX16 := C
  show pm_G g 0 [(0, .ref a0), (1, .int p1), (2, .int p2)] [] h 0 0
  unfold fX16_isExport at hf
  refine pm_aload_n C dX16_isExport_0 rfl rfl ?_
  refine pm_iload_n C dX16_isExport_1 rfl rfl ?_
  obtain ⟨k1, hf⟩ := pm_if hf
  obtain ⟨v2, e3, hf⟩ := pm_bd hf
  refine pm_callV (as := [.int p1]) (st := []) C X dX16_isExport_2 lnX16_952 myX16_isInstance viX16_isInstance ⟨by decide, by decide⟩ rfl rfl k1 (Nat.le_of_ble_eq_true rfl) (Nat.le_refl _) (Nat.le_refl _) (ctX16_isInstance e3 ?_)
  show pm_G g 5 [(0, .ref a0), (1, .int p1), (2, .int p2)] [.int v2] h 0 0
  refine pm_if_eq (tgt := 34) C dX16_isExport_5 (by decide) (fun c4 => ?_) (fun c4 => ?_)
  · have hf := pm_it hf c4
    refine pm_iconst (v := 0) C dX16_isExport_34 (by decide) ?_
    cases hf
    exact pm_zret C X dX16_isExport_35 rfl (by decide) (Nat.le_refl _) (Nat.le_refl _) q
  · have hf := pm_ie hf c4
    refine pm_iload_n C dX16_isExport_8 rfl rfl ?_
    refine pm_if_lt (tgt := 34) C dX16_isExport_9 (by decide) (fun c5 => ?_) (fun c5 => ?_)
    · have hf := pm_it hf c5
      refine pm_iconst (v := 0) C dX16_isExport_34 (by decide) ?_
      cases hf
      exact pm_zret C X dX16_isExport_35 rfl (by decide) (Nat.le_refl _) (Nat.le_refl _) q
    · have hf := pm_ie hf c5
      refine pm_iload_n C dX16_isExport_12 rfl rfl ?_
      refine pm_aload_n C dX16_isExport_13 rfl rfl ?_
      obtain ⟨v6, e7, hf⟩ := pm_bd hf
      refine pm_getR C dX16_isExport_14 flX16_16 rfl k1 e7 ?_
      refine pm_aload_n C dX16_isExport_17 rfl rfl ?_
      obtain ⟨v8, e9, hf⟩ := pm_bd hf
      refine pm_getR C dX16_isExport_18 flX16_131 rfl k1 e9 ?_
      refine pm_iload_n C dX16_isExport_21 rfl rfl ?_
      obtain ⟨k10, hf⟩ := pm_if hf
      obtain ⟨u11, hf⟩ := pm_if hf
      refine pm_iald C dX16_isExport_22 k10 u11 rfl ?_
      obtain ⟨y12, e13, hf⟩ := pm_lt hf
      refine pm_topI e13 ?_
      obtain ⟨k14, hf⟩ := pm_if hf
      obtain ⟨u15, hf⟩ := pm_if hf
      obtain ⟨v16, e17, hf⟩ := pm_bd hf
      refine pm_ald (t := 10) C dX16_isExport_23 (by decide) rfl k14 u15 e17 ?_
      obtain ⟨k18, hf⟩ := pm_if hf
      refine pm_getI C dX16_isExport_24 flX16_466 rfl k18 rfl ?_
      refine pm_icmp_ge (tgt := 34) C dX16_isExport_27 (by decide) (fun c19 => ?_) (fun c19 => ?_)
      · have hf := pm_it hf c19
        refine pm_iconst (v := 0) C dX16_isExport_34 (by decide) ?_
        cases hf
        exact pm_zret C X dX16_isExport_35 rfl (by decide) (Nat.le_refl _) (Nat.le_refl _) q
      · have hf := pm_ie hf c19
        refine pm_iconst (v := 1) C dX16_isExport_30 (by decide) ?_
        refine pm_goto (tgt := 35) C dX16_isExport_31 (by decide) ?_
        cases hf
        exact pm_zret C X dX16_isExport_35 rfl (by decide) (Nat.le_refl _) (Nat.le_refl _) q
