theorem dX16_copiesElement_0 : decode cX16_copiesElement 0 = .ok (.lload 6, 2) := by decide +kernel
theorem dX16_copiesElement_2 : decode cX16_copiesElement 2 = .ok (.lload 8, 2) := by decide +kernel
theorem dX16_copiesElement_4 : decode cX16_copiesElement 4 = .ok (.ladd, 1) := by decide +kernel
theorem dX16_copiesElement_5 : decode cX16_copiesElement 5 = .ok (.aload_n 0, 1) := by decide +kernel
theorem dX16_copiesElement_6 : decode cX16_copiesElement 6 = .ok (.getfield 149, 3) := by decide +kernel
theorem dX16_copiesElement_9 : decode cX16_copiesElement 9 = .ok (.bipush 64, 2) := by decide +kernel
theorem dX16_copiesElement_11 : decode cX16_copiesElement 11 = .ok (.iload_n 1, 1) := by decide +kernel
theorem dX16_copiesElement_12 : decode cX16_copiesElement 12 = .ok (.imul, 1) := by decide +kernel
theorem dX16_copiesElement_13 : decode cX16_copiesElement 13 = .ok (.iload_n 2, 1) := by decide +kernel
theorem dX16_copiesElement_14 : decode cX16_copiesElement 14 = .ok (.iadd, 1) := by decide +kernel
theorem dX16_copiesElement_15 : decode cX16_copiesElement 15 = .ok (.iaload, 1) := by decide +kernel
theorem dX16_copiesElement_16 : decode cX16_copiesElement 16 = .ok (.i2l, 1) := by decide +kernel
theorem dX16_copiesElement_17 : decode cX16_copiesElement 17 = .ok (.lcmp, 1) := by decide +kernel
theorem dX16_copiesElement_18 : decode cX16_copiesElement 18 = .ok (.ifCond .gt 19, 3) := by decide +kernel
theorem dX16_copiesElement_21 : decode cX16_copiesElement 21 = .ok (.lload 4, 2) := by decide +kernel
theorem dX16_copiesElement_23 : decode cX16_copiesElement 23 = .ok (.lload 8, 2) := by decide +kernel
theorem dX16_copiesElement_25 : decode cX16_copiesElement 25 = .ok (.ladd, 1) := by decide +kernel
theorem dX16_copiesElement_26 : decode cX16_copiesElement 26 = .ok (.aload_n 0, 1) := by decide +kernel
theorem dX16_copiesElement_27 : decode cX16_copiesElement 27 = .ok (.getfield 96, 3) := by decide +kernel
theorem dX16_copiesElement_30 : decode cX16_copiesElement 30 = .ok (.iload_n 3, 1) := by decide +kernel
theorem dX16_copiesElement_31 : decode cX16_copiesElement 31 = .ok (.iaload, 1) := by decide +kernel
theorem dX16_copiesElement_32 : decode cX16_copiesElement 32 = .ok (.i2l, 1) := by decide +kernel
theorem dX16_copiesElement_33 : decode cX16_copiesElement 33 = .ok (.lcmp, 1) := by decide +kernel
theorem dX16_copiesElement_34 : decode cX16_copiesElement 34 = .ok (.ifCond .le 5, 3) := by decide +kernel
theorem dX16_copiesElement_37 : decode cX16_copiesElement 37 = .ok (.iconst 0, 1) := by decide +kernel
theorem dX16_copiesElement_38 : decode cX16_copiesElement 38 = .ok (.ireturn, 1) := by decide +kernel
theorem dX16_copiesElement_39 : decode cX16_copiesElement 39 = .ok (.iconst 0, 1) := by decide +kernel
theorem dX16_copiesElement_40 : decode cX16_copiesElement 40 = .ok (.istore 10, 2) := by decide +kernel
theorem dX16_copiesElement_42 : decode cX16_copiesElement 42 = .ok (.iload 10, 2) := by decide +kernel
theorem dX16_copiesElement_44 : decode cX16_copiesElement 44 = .ok (.i2l, 1) := by decide +kernel
theorem dX16_copiesElement_45 : decode cX16_copiesElement 45 = .ok (.lload 8, 2) := by decide +kernel
theorem dX16_copiesElement_47 : decode cX16_copiesElement 47 = .ok (.lcmp, 1) := by decide +kernel
theorem dX16_copiesElement_48 : decode cX16_copiesElement 48 = .ok (.ifCond .ge 49, 3) := by decide +kernel
theorem dX16_copiesElement_51 : decode cX16_copiesElement 51 = .ok (.aload_n 0, 1) := by decide +kernel
theorem dX16_copiesElement_52 : decode cX16_copiesElement 52 = .ok (.getfield 103, 3) := by decide +kernel
theorem dX16_copiesElement_55 : decode cX16_copiesElement 55 = .ok (.sipush 1024, 3) := by decide +kernel
theorem dX16_copiesElement_58 : decode cX16_copiesElement 58 = .ok (.iload_n 3, 1) := by decide +kernel
theorem dX16_copiesElement_59 : decode cX16_copiesElement 59 = .ok (.imul, 1) := by decide +kernel
theorem dX16_copiesElement_60 : decode cX16_copiesElement 60 = .ok (.lload 4, 2) := by decide +kernel
theorem dX16_copiesElement_62 : decode cX16_copiesElement 62 = .ok (.l2i, 1) := by decide +kernel
theorem dX16_copiesElement_63 : decode cX16_copiesElement 63 = .ok (.iadd, 1) := by decide +kernel
theorem dX16_copiesElement_64 : decode cX16_copiesElement 64 = .ok (.iload 10, 2) := by decide +kernel
theorem dX16_copiesElement_66 : decode cX16_copiesElement 66 = .ok (.iadd, 1) := by decide +kernel
theorem dX16_copiesElement_67 : decode cX16_copiesElement 67 = .ok (.aload_n 0, 1) := by decide +kernel
theorem dX16_copiesElement_68 : decode cX16_copiesElement 68 = .ok (.getfield 155, 3) := by decide +kernel
theorem dX16_copiesElement_71 : decode cX16_copiesElement 71 = .ok (.aload_n 0, 1) := by decide +kernel
theorem dX16_copiesElement_72 : decode cX16_copiesElement 72 = .ok (.getfield 146, 3) := by decide +kernel
theorem dX16_copiesElement_75 : decode cX16_copiesElement 75 = .ok (.bipush 64, 2) := by decide +kernel
theorem dX16_copiesElement_77 : decode cX16_copiesElement 77 = .ok (.iload_n 1, 1) := by decide +kernel
theorem dX16_copiesElement_78 : decode cX16_copiesElement 78 = .ok (.imul, 1) := by decide +kernel
theorem dX16_copiesElement_79 : decode cX16_copiesElement 79 = .ok (.iload_n 2, 1) := by decide +kernel
theorem dX16_copiesElement_80 : decode cX16_copiesElement 80 = .ok (.iadd, 1) := by decide +kernel
theorem dX16_copiesElement_81 : decode cX16_copiesElement 81 = .ok (.iaload, 1) := by decide +kernel
theorem dX16_copiesElement_82 : decode cX16_copiesElement 82 = .ok (.lload 6, 2) := by decide +kernel
theorem dX16_copiesElement_84 : decode cX16_copiesElement 84 = .ok (.l2i, 1) := by decide +kernel
theorem dX16_copiesElement_85 : decode cX16_copiesElement 85 = .ok (.iadd, 1) := by decide +kernel
theorem dX16_copiesElement_86 : decode cX16_copiesElement 86 = .ok (.iload 10, 2) := by decide +kernel
theorem dX16_copiesElement_88 : decode cX16_copiesElement 88 = .ok (.iadd, 1) := by decide +kernel
theorem dX16_copiesElement_89 : decode cX16_copiesElement 89 = .ok (.iaload, 1) := by decide +kernel
theorem dX16_copiesElement_90 : decode cX16_copiesElement 90 = .ok (.iastore, 1) := by decide +kernel
theorem dX16_copiesElement_91 : decode cX16_copiesElement 91 = .ok (.iinc 10 1, 3) := by decide +kernel
theorem dX16_copiesElement_94 : decode cX16_copiesElement 94 = .ok (.goto (-52), 3) := by decide +kernel
theorem dX16_copiesElement_97 : decode cX16_copiesElement 97 = .ok (.iconst 1, 1) := by decide +kernel
theorem dX16_copiesElement_98 : decode cX16_copiesElement 98 = .ok (.ireturn, 1) := by decide +kernel
def tX16_copiesElement_42 (x0 : Nat) (x1 : Int32) (x2 : Int32) (x3 : Int32) (x4 : Int64) (x6 : Int64) (x8 : Int64) (x10 : Int32) (h : pm_H) : Option (((Nat × Int32 × Int32 × Int32 × Int64 × Int64 × Int64 × Int32 × pm_H)) ⊕ (Int32 × pm_H)) := if x8 ≤ x10.toInt64 then (some (.inr ((1, h)))) else (if pm_kd h x0 = 16 then (pm_R h x0 51).bind fun v16 => (pm_R h x0 72).bind fun v18 => (pm_R h x0 68).bind fun v20 => pm_let ((64 * x1) + x2) fun y22 => if pm_kd h v20 = 34 then if pm_in y22 (pm_ln h v20) then pm_let (((pm_I h v20 y22.toNatClampNeg) + x6.toInt32) + x10) fun y26 => if pm_kd h v18 = 34 then if pm_in y26 (pm_ln h v18) then pm_let (pm_I h v18 y26.toNatClampNeg) fun y30 => if pm_kd h v16 = 34 then if pm_in (((1024 * x3) + x4.toInt32) + x10) (pm_ln h v16) then pm_let (x10 + 1) fun y34 => some (.inl ((x0, x1, x2, x3, x4, x6, x8, y34, pm_setI h v16 ((((1024 * x3) + x4.toInt32) + x10).toNatClampNeg) y30))) else none else none else none else none else none else none else none)
def sX16_copiesElement : ((Nat × Int32 × Int32 × Int32 × Int64 × Int64 × Int64 × Int32 × pm_H)) → Option (((Nat × Int32 × Int32 × Int32 × Int64 × Int64 × Int64 × Int32 × pm_H)) ⊕ (Int32 × pm_H)) := fun z => match z with
  | (x0, x1, x2, x3, x4, x6, x8, x10, h) => tX16_copiesElement_42 x0 x1 x2 x3 x4 x6 x8 x10 h
noncomputable def fX16_copiesElement (h : pm_H) (a0 : Nat) (p1 : Int32) (p2 : Int32) (p3 : Int32) (p4 : Int64) (p5 : Int64) (p6 : Int64) : Option (Int32 × pm_H) := if pm_kd h a0 = 16 then (pm_R h a0 69).bind fun v2 => pm_let ((64 * p1) + p2) fun y4 => if pm_kd h v2 = 34 then if pm_in y4 (pm_ln h v2) then if ((pm_I h v2 y4.toNatClampNeg).toInt64) < (p5 + p6) then (some ((0, h))) else ((pm_R h a0 49).bind fun v9 => if pm_kd h v9 = 34 then if pm_in p3 (pm_ln h v9) then if (p4 + p6) ≤ ((pm_I h v9 p3.toNatClampNeg).toInt64) then (pm_lim sX16_copiesElement ((a0, p1, p2, p3, p4, p5, p6, 0, h))) else (some ((0, h))) else none else none) else none else none else none
set_option maxHeartbeats 4000000 in
set_option maxRecDepth 100000 in
theorem lpX16_copiesElement {g : pm_Gm} {l : Launch} {G : pm_Gl} {Qr : Option Value → pm_H → Prop} (C : pm_C g cX16_copiesElement RX16) (X : pm_X g l G mX16_copiesElement 0 0 Qr) {r : (Int32 × pm_H)} (q : Qr (some (.int r.1)) r.2) : ∀ n : Nat, (∀ (x0 : Nat) (x1 : Int32) (x2 : Int32) (x3 : Int32) (x4 : Int64) (x6 : Int64) (x8 : Int64) (x10 : Int32) (h : pm_H), pm_iter sX16_copiesElement n (x0, x1, x2, x3, x4, x6, x8, x10, h) = some r → pm_G g 42 [(0, .ref x0), (1, .int x1), (2, .int x2), (3, .int x3), (4, .long x4), (6, .long x6), (8, .long x8), (10, .int x10)] [] h 0 0) := by
  intro n
  induction n with
  | zero => exact fun _ _ _ _ _ _ _ _ _ hf => (by cases hf)
  | succ n ih =>
    refine fun x0 x1 x2 x3 x4 x6 x8 x10 h hf => ?_
    obtain ⟨y, hf, hi⟩ := pm_iter_s hf
    have hf : tX16_copiesElement_42 x0 x1 x2 x3 x4 x6 x8 x10 h = some y := hf
    unfold tX16_copiesElement_42 at hf
    refine pm_iload C dX16_copiesElement_42 rfl ?_
    refine pm_i2l C dX16_copiesElement_44 ?_
    refine pm_lload C dX16_copiesElement_45 rfl ?_
    refine pm_lcmp C dX16_copiesElement_47 ?_
    refine pm_if_ge (tgt := 97) C dX16_copiesElement_48 (by decide) (fun c14 => ?_) (fun c14 => ?_)
    · have hf := pm_it hf ((pm_lg_ge _ _).mp c14)
      refine pm_iconst (v := 1) C dX16_copiesElement_97 (by decide) ?_
      cases hf
      cases hi
      exact pm_zret C X dX16_copiesElement_98 rfl (by decide) (Nat.le_refl _) (Nat.le_refl _) q
    · have hf := pm_ie hf ((fun z => c14 ((pm_lg_ge _ _).mpr z)))
      refine pm_aload_n C dX16_copiesElement_51 rfl rfl ?_
      obtain ⟨k15, hf⟩ := pm_if hf
      obtain ⟨v16, e17, hf⟩ := pm_bd hf
      refine pm_getR C dX16_copiesElement_52 flX16_103 rfl k15 e17 ?_
      refine pm_sipush (v := 1024) C dX16_copiesElement_55 (by decide) ?_
      refine pm_iload_n C dX16_copiesElement_58 rfl rfl ?_
      refine pm_imul C dX16_copiesElement_59 ?_
      refine pm_lload C dX16_copiesElement_60 rfl ?_
      refine pm_l2i C dX16_copiesElement_62 ?_
      refine pm_iadd C dX16_copiesElement_63 ?_
      refine pm_iload C dX16_copiesElement_64 rfl ?_
      refine pm_iadd C dX16_copiesElement_66 ?_
      refine pm_aload_n C dX16_copiesElement_67 rfl rfl ?_
      obtain ⟨v18, e19, hf⟩ := pm_bd hf
      refine pm_getR C dX16_copiesElement_68 flX16_155 rfl k15 e19 ?_
      refine pm_aload_n C dX16_copiesElement_71 rfl rfl ?_
      obtain ⟨v20, e21, hf⟩ := pm_bd hf
      refine pm_getR C dX16_copiesElement_72 flX16_146 rfl k15 e21 ?_
      refine pm_bipush (v := 64) C dX16_copiesElement_75 (by decide) ?_
      refine pm_iload_n C dX16_copiesElement_77 rfl rfl ?_
      refine pm_imul C dX16_copiesElement_78 ?_
      refine pm_iload_n C dX16_copiesElement_79 rfl rfl ?_
      refine pm_iadd C dX16_copiesElement_80 ?_
      obtain ⟨y22, e23, hf⟩ := pm_lt hf
      refine pm_topI e23 ?_
      obtain ⟨k24, hf⟩ := pm_if hf
      obtain ⟨u25, hf⟩ := pm_if hf
      refine pm_iald C dX16_copiesElement_81 k24 u25 rfl ?_
      refine pm_lload C dX16_copiesElement_82 rfl ?_
      refine pm_l2i C dX16_copiesElement_84 ?_
      refine pm_iadd C dX16_copiesElement_85 ?_
      refine pm_iload C dX16_copiesElement_86 rfl ?_
      refine pm_iadd C dX16_copiesElement_88 ?_
      obtain ⟨y26, e27, hf⟩ := pm_lt hf
      refine pm_topI e27 ?_
      obtain ⟨k28, hf⟩ := pm_if hf
      obtain ⟨u29, hf⟩ := pm_if hf
      refine pm_iald C dX16_copiesElement_89 k28 u29 rfl ?_
      obtain ⟨y30, e31, hf⟩ := pm_lt hf
      refine pm_topI e31 ?_
      obtain ⟨k32, hf⟩ := pm_if hf
      obtain ⟨u33, hf⟩ := pm_if hf
      refine pm_iast C dX16_copiesElement_90 k32 u33 ?_
      obtain ⟨y34, e35, hf⟩ := pm_lt hf
      refine pm_iinc (v := y34) (lv' := [(10, .int y34), (0, .ref x0), (1, .int x1), (2, .int x2), (3, .int x3), (4, .long x4), (6, .long x6), (8, .long x8)]) C dX16_copiesElement_91 rfl ((congrArg (x10 + ·) (by decide : Int32.ofInt 1 = 1)).trans e35) (pm_nl X (by decide)) rfl ?_
      refine pm_goto (tgt := 42) C dX16_copiesElement_94 (by decide) ?_
      cases hf
      exact pm_sub [1, 2, 3, 4, 5, 6, 7, 0] rfl (ih x0 x1 x2 x3 x4 x6 x8 y34 (pm_setI h v16 ((((1024 * x3) + x4.toInt32) + x10).toNatClampNeg) y30) hi)
set_option maxHeartbeats 4000000 in
set_option maxRecDepth 100000 in
theorem ctX16_copiesElement {l : Launch} {G : pm_Gl} {h : pm_H} {a0 : Nat} {p1 : Int32} {p2 : Int32} {p3 : Int32} {p4 : Int64} {p5 : Int64} {p6 : Int64} {r : (Int32 × pm_H)} {Qr : Option Value → pm_H → Prop} (hf : fX16_copiesElement h a0 p1 p2 p3 p4 p5 p6 = some r) (q : Qr (some (.int r.1)) r.2) : pm_Ct l G mX16_copiesElement [.ref a0, .int p1, .int p2, .int p3, .long p4, .long p5, .long p6] h 0 0 Qr := by
  refine pm_body pnX16 (Nat.le_of_ble_eq_true rfl) (fun g C X => ?_)
  have C : pm_C g cX16_copiesElement RX16 := C
  show pm_G g 0 [(0, .ref a0), (1, .int p1), (2, .int p2), (3, .int p3), (4, .long p4), (6, .long p5), (8, .long p6)] [] h 0 0
  unfold fX16_copiesElement at hf
  refine pm_lload C dX16_copiesElement_0 rfl ?_
  refine pm_lload C dX16_copiesElement_2 rfl ?_
  refine pm_ladd C dX16_copiesElement_4 ?_
  refine pm_aload_n C dX16_copiesElement_5 rfl rfl ?_
  obtain ⟨k1, hf⟩ := pm_if hf
  obtain ⟨v2, e3, hf⟩ := pm_bd hf
  refine pm_getR C dX16_copiesElement_6 flX16_149 rfl k1 e3 ?_
  refine pm_bipush (v := 64) C dX16_copiesElement_9 (by decide) ?_
  refine pm_iload_n C dX16_copiesElement_11 rfl rfl ?_
  refine pm_imul C dX16_copiesElement_12 ?_
  refine pm_iload_n C dX16_copiesElement_13 rfl rfl ?_
  refine pm_iadd C dX16_copiesElement_14 ?_
  obtain ⟨y4, e5, hf⟩ := pm_lt hf
  refine pm_topI e5 ?_
  obtain ⟨k6, hf⟩ := pm_if hf
  obtain ⟨u7, hf⟩ := pm_if hf
  refine pm_iald C dX16_copiesElement_15 k6 u7 rfl ?_
  refine pm_i2l C dX16_copiesElement_16 ?_
  refine pm_lcmp C dX16_copiesElement_17 ?_
  refine pm_if_gt (tgt := 37) C dX16_copiesElement_18 (by decide) (fun c8 => ?_) (fun c8 => ?_)
  · have hf := pm_it hf ((pm_lg_gt _ _).mp c8)
    refine pm_iconst (v := 0) C dX16_copiesElement_37 (by decide) ?_
    cases hf
    exact pm_zret C X dX16_copiesElement_38 rfl (by decide) (Nat.le_refl _) (Nat.le_refl _) q
  · have hf := pm_ie hf ((fun z => c8 ((pm_lg_gt _ _).mpr z)))
    refine pm_lload C dX16_copiesElement_21 rfl ?_
    refine pm_lload C dX16_copiesElement_23 rfl ?_
    refine pm_ladd C dX16_copiesElement_25 ?_
    refine pm_aload_n C dX16_copiesElement_26 rfl rfl ?_
    obtain ⟨v9, e10, hf⟩ := pm_bd hf
    refine pm_getR C dX16_copiesElement_27 flX16_96 rfl k1 e10 ?_
    refine pm_iload_n C dX16_copiesElement_30 rfl rfl ?_
    obtain ⟨k11, hf⟩ := pm_if hf
    obtain ⟨u12, hf⟩ := pm_if hf
    refine pm_iald C dX16_copiesElement_31 k11 u12 rfl ?_
    refine pm_i2l C dX16_copiesElement_32 ?_
    refine pm_lcmp C dX16_copiesElement_33 ?_
    refine pm_if_le (tgt := 39) C dX16_copiesElement_34 (by decide) (fun c13 => ?_) (fun c13 => ?_)
    · have hf := pm_it hf ((pm_lg_le _ _).mp c13)
      refine pm_iconst (v := 0) C dX16_copiesElement_39 (by decide) ?_
      refine pm_istore (lv' := [(10, .int 0), (0, .ref a0), (1, .int p1), (2, .int p2), (3, .int p3), (4, .long p4), (6, .long p5), (8, .long p6)]) C dX16_copiesElement_40 (pm_nl X (by decide)) rfl ?_
      obtain ⟨n, hn⟩ := pm_lim_iter hf
      exact pm_sub [1, 2, 3, 4, 5, 6, 7, 0] rfl ((lpX16_copiesElement C X q n) a0 p1 p2 p3 p4 p5 p6 0 h hn)
    · have hf := pm_ie hf ((fun z => c13 ((pm_lg_le _ _).mpr z)))
      refine pm_iconst (v := 0) C dX16_copiesElement_37 (by decide) ?_
      cases hf
      exact pm_zret C X dX16_copiesElement_38 rfl (by decide) (Nat.le_refl _) (Nat.le_refl _) q
theorem dX16_counts_0 : decode cX16_counts 0 = .ok (.aload_n 0, 1) := by decide +kernel
theorem dX16_counts_1 : decode cX16_counts 1 = .ok (.getfield 83, 3) := by decide +kernel
theorem dX16_counts_4 : decode cX16_counts 4 = .ok (.iload_n 1, 1) := by decide +kernel
theorem dX16_counts_5 : decode cX16_counts 5 = .ok (.dup2, 1) := by decide +kernel
theorem dX16_counts_6 : decode cX16_counts 6 = .ok (.iaload, 1) := by decide +kernel
theorem dX16_counts_7 : decode cX16_counts 7 = .ok (.iconst 1, 1) := by decide +kernel
theorem dX16_counts_8 : decode cX16_counts 8 = .ok (.iadd, 1) := by decide +kernel
theorem dX16_counts_9 : decode cX16_counts 9 = .ok (.iastore, 1) := by decide +kernel
theorem dX16_counts_10 : decode cX16_counts 10 = .ok (.aload_n 0, 1) := by decide +kernel
theorem dX16_counts_11 : decode cX16_counts 11 = .ok (.getfield 86, 3) := by decide +kernel
theorem dX16_counts_14 : decode cX16_counts 14 = .ok (.iload_n 1, 1) := by decide +kernel
theorem dX16_counts_15 : decode cX16_counts 15 = .ok (.baload, 1) := by decide +kernel
theorem dX16_counts_16 : decode cX16_counts 16 = .ok (.ifCond .ne 40, 3) := by decide +kernel
theorem dX16_counts_19 : decode cX16_counts 19 = .ok (.aload_n 0, 1) := by decide +kernel
theorem dX16_counts_20 : decode cX16_counts 20 = .ok (.getfield 1117, 3) := by decide +kernel
theorem dX16_counts_23 : decode cX16_counts 23 = .ok (.ifCond .le 33, 3) := by decide +kernel
theorem dX16_counts_26 : decode cX16_counts 26 = .ok (.aload_n 0, 1) := by decide +kernel
theorem dX16_counts_27 : decode cX16_counts 27 = .ok (.getfield 83, 3) := by decide +kernel
theorem dX16_counts_30 : decode cX16_counts 30 = .ok (.iload_n 1, 1) := by decide +kernel
theorem dX16_counts_31 : decode cX16_counts 31 = .ok (.iaload, 1) := by decide +kernel
theorem dX16_counts_32 : decode cX16_counts 32 = .ok (.aload_n 0, 1) := by decide +kernel
theorem dX16_counts_33 : decode cX16_counts 33 = .ok (.getfield 1117, 3) := by decide +kernel
theorem dX16_counts_36 : decode cX16_counts 36 = .ok (.if_icmp .lt 20, 3) := by decide +kernel
theorem dX16_counts_39 : decode cX16_counts 39 = .ok (.aload_n 0, 1) := by decide +kernel
theorem dX16_counts_40 : decode cX16_counts 40 = .ok (.getfield 86, 3) := by decide +kernel
theorem dX16_counts_43 : decode cX16_counts 43 = .ok (.iload_n 1, 1) := by decide +kernel
theorem dX16_counts_44 : decode cX16_counts 44 = .ok (.iconst 1, 1) := by decide +kernel
theorem dX16_counts_45 : decode cX16_counts 45 = .ok (.bastore, 1) := by decide +kernel
theorem dX16_counts_46 : decode cX16_counts 46 = .ok (.aload_n 0, 1) := by decide +kernel
theorem dX16_counts_47 : decode cX16_counts 47 = .ok (.dup, 1) := by decide +kernel
theorem dX16_counts_48 : decode cX16_counts 48 = .ok (.getfield 1120, 3) := by decide +kernel
theorem dX16_counts_51 : decode cX16_counts 51 = .ok (.iconst 1, 1) := by decide +kernel
theorem dX16_counts_52 : decode cX16_counts 52 = .ok (.iadd, 1) := by decide +kernel
theorem dX16_counts_53 : decode cX16_counts 53 = .ok (.putfield 1120, 3) := by decide +kernel
theorem dX16_counts_56 : decode cX16_counts 56 = .ok (.return_, 1) := by decide +kernel
def fX16_counts (h : pm_H) (a0 : Nat) (p1 : Int32) : Option pm_H := if pm_kd h a0 = 16 then (pm_R h a0 42).bind fun v2 => if pm_kd h v2 = 34 then if pm_in p1 (pm_ln h v2) then pm_let ((pm_I h v2 p1.toNatClampNeg) + 1) fun y6 => if pm_in p1 (pm_ln h v2) then (pm_R (pm_setI h v2 p1.toNatClampNeg y6) a0 43).bind fun v9 => if pm_kd (pm_setI h v2 p1.toNatClampNeg y6) v9 = 32 then if pm_in p1 (pm_ln (pm_setI h v2 p1.toNatClampNeg y6) v9) then if (pm_I (pm_setI h v2 p1.toNatClampNeg y6) v9 p1.toNatClampNeg) = 0 then (if (pm_I (pm_setI h v2 p1.toNatClampNeg y6) a0 44) ≤ 0 then (some (pm_setI h v2 p1.toNatClampNeg y6)) else (if pm_in p1 (pm_ln (pm_setI h v2 p1.toNatClampNeg y6) v2) then if (pm_I (pm_setI h v2 p1.toNatClampNeg y6) v2 p1.toNatClampNeg) < (pm_I (pm_setI h v2 p1.toNatClampNeg y6) a0 44) then (some (pm_setI h v2 p1.toNatClampNeg y6)) else (if pm_in p1 (pm_ln (pm_setI h v2 p1.toNatClampNeg y6) v9) then pm_let ((pm_I (pm_setI (pm_setI h v2 p1.toNatClampNeg y6) v9 p1.toNatClampNeg (vp_nar .boolean 1)) a0 45) + 1) fun y18 => some (pm_setI (pm_setI (pm_setI h v2 p1.toNatClampNeg y6) v9 p1.toNatClampNeg (vp_nar .boolean 1)) a0 45 y18) else none) else none)) else (some (pm_setI h v2 p1.toNatClampNeg y6)) else none else none else none else none else none else none
set_option maxHeartbeats 4000000 in
set_option maxRecDepth 100000 in
theorem ctX16_counts {l : Launch} {G : pm_Gl} {h : pm_H} {a0 : Nat} {p1 : Int32} {r : pm_H} {Qr : Option Value → pm_H → Prop} (hf : fX16_counts h a0 p1 = some r) (q : Qr none r) : pm_Ct l G mX16_counts [.ref a0, .int p1] h 0 0 Qr := by
  refine pm_body pnX16 (Nat.le_of_ble_eq_true rfl) (fun g C X => ?_)
  have C : pm_C g cX16_counts RX16 := C
  show pm_G g 0 [(0, .ref a0), (1, .int p1)] [] h 0 0
  unfold fX16_counts at hf
  refine pm_aload_n C dX16_counts_0 rfl rfl ?_
  obtain ⟨k1, hf⟩ := pm_if hf
  obtain ⟨v2, e3, hf⟩ := pm_bd hf
  refine pm_getR C dX16_counts_1 flX16_83 rfl k1 e3 ?_
  refine pm_iload_n C dX16_counts_4 rfl rfl ?_
  refine pm_dup2_11 C dX16_counts_5 rfl rfl ?_
  obtain ⟨k4, hf⟩ := pm_if hf
  obtain ⟨u5, hf⟩ := pm_if hf
  refine pm_iald C dX16_counts_6 k4 u5 rfl ?_
  refine pm_iconst (v := 1) C dX16_counts_7 (by decide) ?_
  refine pm_iadd C dX16_counts_8 ?_
  obtain ⟨y6, e7, hf⟩ := pm_lt hf
  refine pm_topI e7 ?_
  obtain ⟨u8, hf⟩ := pm_if hf
  refine pm_iast C dX16_counts_9 k4 u8 ?_
  refine pm_aload_n C dX16_counts_10 rfl rfl ?_
  obtain ⟨v9, e10, hf⟩ := pm_bd hf
  refine pm_getR C dX16_counts_11 flX16_86 rfl k1 e10 ?_
  refine pm_iload_n C dX16_counts_14 rfl rfl ?_
  obtain ⟨k11, hf⟩ := pm_if hf
  obtain ⟨u12, hf⟩ := pm_if hf
  refine pm_zald C dX16_counts_15 k11 u12 rfl ?_
  refine pm_if_ne (tgt := 56) C dX16_counts_16 (by decide) (fun c13 => ?_) (fun c13 => ?_)
  · have hf := pm_ie hf c13
    cases hf
    exact pm_vret C X dX16_counts_56 rfl (Nat.le_refl _) (Nat.le_refl _) q
  · have hf := pm_it hf c13
    refine pm_aload_n C dX16_counts_19 rfl rfl ?_
    refine pm_getI C dX16_counts_20 flX16_1117 rfl k1 rfl ?_
    refine pm_if_le (tgt := 56) C dX16_counts_23 (by decide) (fun c14 => ?_) (fun c14 => ?_)
    · have hf := pm_it hf c14
      cases hf
      exact pm_vret C X dX16_counts_56 rfl (Nat.le_refl _) (Nat.le_refl _) q
    · have hf := pm_ie hf c14
      refine pm_aload_n C dX16_counts_26 rfl rfl ?_
      refine pm_getR C dX16_counts_27 flX16_83 rfl k1 e3 ?_
      refine pm_iload_n C dX16_counts_30 rfl rfl ?_
      obtain ⟨u15, hf⟩ := pm_if hf
      refine pm_iald C dX16_counts_31 k4 u15 rfl ?_
      refine pm_aload_n C dX16_counts_32 rfl rfl ?_
      refine pm_getI C dX16_counts_33 flX16_1117 rfl k1 rfl ?_
      refine pm_icmp_lt (tgt := 56) C dX16_counts_36 (by decide) (fun c16 => ?_) (fun c16 => ?_)
      · have hf := pm_it hf c16
        cases hf
        exact pm_vret C X dX16_counts_56 rfl (Nat.le_refl _) (Nat.le_refl _) q
      · have hf := pm_ie hf c16
        refine pm_aload_n C dX16_counts_39 rfl rfl ?_
        refine pm_getR C dX16_counts_40 flX16_86 rfl k1 e10 ?_
        refine pm_iload_n C dX16_counts_43 rfl rfl ?_
        refine pm_iconst (v := 1) C dX16_counts_44 (by decide) ?_
        obtain ⟨u17, hf⟩ := pm_if hf
        refine pm_zast C dX16_counts_45 k11 u17 ?_
        refine pm_aload_n C dX16_counts_46 rfl rfl ?_
        refine pm_dup C dX16_counts_47 rfl ?_
        refine pm_getI C dX16_counts_48 flX16_1120 rfl k1 rfl ?_
        refine pm_iconst (v := 1) C dX16_counts_51 (by decide) ?_
        refine pm_iadd C dX16_counts_52 ?_
        obtain ⟨y18, e19, hf⟩ := pm_lt hf
        refine pm_topI e19 ?_
        refine pm_putI C dX16_counts_53 flX16_1120 rfl rfl k1 rfl rfl ?_
        cases hf
        exact pm_vret C X dX16_counts_56 rfl (Nat.le_refl _) (Nat.le_refl _) q
theorem dX16_declare_0 : decode cX16_declare 0 = .ok (.lload_n 1, 1) := by decide +kernel
theorem dX16_declare_1 : decode cX16_declare 1 = .ok (.ldc2_w 646, 3) := by decide +kernel
theorem dX16_declare_4 : decode cX16_declare 4 = .ok (.lcmp, 1) := by decide +kernel
theorem dX16_declare_5 : decode cX16_declare 5 = .ok (.ifCond .ge 11, 3) := by decide +kernel
theorem dX16_declare_8 : decode cX16_declare 8 = .ok (.aload_n 0, 1) := by decide +kernel
theorem dX16_declare_9 : decode cX16_declare 9 = .ok (.getfield 35, 3) := by decide +kernel
theorem dX16_declare_12 : decode cX16_declare 12 = .ok (.lload_n 1, 1) := by decide +kernel
theorem dX16_declare_13 : decode cX16_declare 13 = .ok (.l2i, 1) := by decide +kernel
theorem dX16_declare_14 : decode cX16_declare 14 = .ok (.iconst 1, 1) := by decide +kernel
theorem dX16_declare_15 : decode cX16_declare 15 = .ok (.bastore, 1) := by decide +kernel
theorem dX16_declare_16 : decode cX16_declare 16 = .ok (.return_, 1) := by decide +kernel
def fX16_declare (h : pm_H) (a0 : Nat) (p1 : Int64) : Option pm_H := if 128 ≤ p1 then (some h) else (if pm_kd h a0 = 16 then (pm_R h a0 20).bind fun v3 => if pm_kd h v3 = 32 then if pm_in p1.toInt32 (pm_ln h v3) then some (pm_setI h v3 p1.toInt32.toNatClampNeg (vp_nar .boolean 1)) else none else none else none)
set_option maxHeartbeats 4000000 in
set_option maxRecDepth 100000 in
theorem ctX16_declare {l : Launch} {G : pm_Gl} {h : pm_H} {a0 : Nat} {p1 : Int64} {r : pm_H} {Qr : Option Value → pm_H → Prop} (hf : fX16_declare h a0 p1 = some r) (q : Qr none r) : pm_Ct l G mX16_declare [.ref a0, .long p1] h 0 0 Qr := by
  refine pm_body pnX16 (Nat.le_of_ble_eq_true rfl) (fun g C X => ?_)
  have C : pm_C g cX16_declare RX16 := C
  show pm_G g 0 [(0, .ref a0), (1, .long p1)] [] h 0 0
  unfold fX16_declare at hf
  refine pm_lload_n C dX16_declare_0 rfl rfl ?_
  refine pm_ldc2 C dX16_declare_1 cnX16_646 ?_
  refine pm_lcmp C dX16_declare_4 ?_
  refine pm_if_ge (tgt := 16) C dX16_declare_5 (by decide) (fun c1 => ?_) (fun c1 => ?_)
  · have hf := pm_it hf ((pm_lg_ge _ _).mp c1)
    cases hf
    exact pm_vret C X dX16_declare_16 rfl (Nat.le_refl _) (Nat.le_refl _) q
  · have hf := pm_ie hf ((fun z => c1 ((pm_lg_ge _ _).mpr z)))
    refine pm_aload_n C dX16_declare_8 rfl rfl ?_
    obtain ⟨k2, hf⟩ := pm_if hf
    obtain ⟨v3, e4, hf⟩ := pm_bd hf
    refine pm_getR C dX16_declare_9 flX16_35 rfl k2 e4 ?_
    refine pm_lload_n C dX16_declare_12 rfl rfl ?_
    refine pm_l2i C dX16_declare_13 ?_
    refine pm_iconst (v := 1) C dX16_declare_14 (by decide) ?_
    obtain ⟨k5, hf⟩ := pm_if hf
    obtain ⟨u6, hf⟩ := pm_if hf
    refine pm_zast C dX16_declare_15 k5 u6 ?_
    cases hf
    exact pm_vret C X dX16_declare_16 rfl (Nat.le_refl _) (Nat.le_refl _) q
theorem dX16_dies_0 : decode cX16_dies 0 = .ok (.aload_n 0, 1) := by decide +kernel
theorem dX16_dies_1 : decode cX16_dies 1 = .ok (.aload_n 0, 1) := by decide +kernel
theorem dX16_dies_2 : decode cX16_dies 2 = .ok (.getfield 49, 3) := by decide +kernel
theorem dX16_dies_5 : decode cX16_dies 5 = .ok (.aload_n 0, 1) := by decide +kernel
theorem dX16_dies_6 : decode cX16_dies 6 = .ok (.getfield 682, 3) := by decide +kernel
theorem dX16_dies_9 : decode cX16_dies 9 = .ok (.iconst 1, 1) := by decide +kernel
theorem dX16_dies_10 : decode cX16_dies 10 = .ok (.isub, 1) := by decide +kernel
theorem dX16_dies_11 : decode cX16_dies 11 = .ok (.iaload, 1) := by decide +kernel
theorem dX16_dies_12 : decode cX16_dies 12 = .ok (.putfield 685, 3) := by decide +kernel
theorem dX16_dies_15 : decode cX16_dies 15 = .ok (.aload_n 0, 1) := by decide +kernel
theorem dX16_dies_16 : decode cX16_dies 16 = .ok (.getfield 52, 3) := by decide +kernel
theorem dX16_dies_19 : decode cX16_dies 19 = .ok (.aload_n 0, 1) := by decide +kernel
theorem dX16_dies_20 : decode cX16_dies 20 = .ok (.getfield 682, 3) := by decide +kernel
theorem dX16_dies_23 : decode cX16_dies 23 = .ok (.iconst 1, 1) := by decide +kernel
theorem dX16_dies_24 : decode cX16_dies 24 = .ok (.isub, 1) := by decide +kernel
theorem dX16_dies_25 : decode cX16_dies 25 = .ok (.iconst 1, 1) := by decide +kernel
theorem dX16_dies_26 : decode cX16_dies 26 = .ok (.bastore, 1) := by decide +kernel
theorem dX16_dies_27 : decode cX16_dies 27 = .ok (.return_, 1) := by decide +kernel
def fX16_dies (h : pm_H) (a0 : Nat) : Option pm_H := if pm_kd h a0 = 16 then (pm_R h a0 27).bind fun v2 => pm_let ((pm_I h a0 24) - 1) fun y4 => if pm_kd h v2 = 34 then if pm_in y4 (pm_ln h v2) then pm_let (pm_I h v2 y4.toNatClampNeg) fun y8 => (pm_R (pm_setI h a0 23 y8) a0 28).bind fun v10 => if pm_kd (pm_setI h a0 23 y8) v10 = 32 then if pm_in ((pm_I (pm_setI h a0 23 y8) a0 24) - 1) (pm_ln (pm_setI h a0 23 y8) v10) then some (pm_setI (pm_setI h a0 23 y8) v10 (((pm_I (pm_setI h a0 23 y8) a0 24) - 1).toNatClampNeg) (vp_nar .boolean 1)) else none else none else none else none else none
set_option maxHeartbeats 4000000 in
set_option maxRecDepth 100000 in
theorem ctX16_dies {l : Launch} {G : pm_Gl} {h : pm_H} {a0 : Nat} {r : pm_H} {Qr : Option Value → pm_H → Prop} (hf : fX16_dies h a0 = some r) (q : Qr none r) : pm_Ct l G mX16_dies [.ref a0] h 0 0 Qr := by
  refine pm_body pnX16 (Nat.le_of_ble_eq_true rfl) (fun g C X => ?_)
  have C : pm_C g cX16_dies RX16 := C
  show pm_G g 0 [(0, .ref a0)] [] h 0 0
  unfold fX16_dies at hf
  refine pm_aload_n C dX16_dies_0 rfl rfl ?_
  refine pm_aload_n C dX16_dies_1 rfl rfl ?_
  obtain ⟨k1, hf⟩ := pm_if hf
  obtain ⟨v2, e3, hf⟩ := pm_bd hf
  refine pm_getR C dX16_dies_2 flX16_49 rfl k1 e3 ?_
  refine pm_aload_n C dX16_dies_5 rfl rfl ?_
  refine pm_getI C dX16_dies_6 flX16_682 rfl k1 rfl ?_
  refine pm_iconst (v := 1) C dX16_dies_9 (by decide) ?_
  refine pm_isub C dX16_dies_10 ?_
  obtain ⟨y4, e5, hf⟩ := pm_lt hf
  refine pm_topI e5 ?_
  obtain ⟨k6, hf⟩ := pm_if hf
  obtain ⟨u7, hf⟩ := pm_if hf
  refine pm_iald C dX16_dies_11 k6 u7 rfl ?_
  obtain ⟨y8, e9, hf⟩ := pm_lt hf
  refine pm_topI e9 ?_
  refine pm_putI C dX16_dies_12 flX16_685 rfl rfl k1 rfl rfl ?_
  refine pm_aload_n C dX16_dies_15 rfl rfl ?_
  obtain ⟨v10, e11, hf⟩ := pm_bd hf
  refine pm_getR C dX16_dies_16 flX16_52 rfl k1 e11 ?_
  refine pm_aload_n C dX16_dies_19 rfl rfl ?_
  refine pm_getI C dX16_dies_20 flX16_682 rfl k1 rfl ?_
  refine pm_iconst (v := 1) C dX16_dies_23 (by decide) ?_
  refine pm_isub C dX16_dies_24 ?_
  refine pm_iconst (v := 1) C dX16_dies_25 (by decide) ?_
  obtain ⟨k12, hf⟩ := pm_if hf
  obtain ⟨u13, hf⟩ := pm_if hf
  refine pm_zast C dX16_dies_26 k12 u13 ?_
  cases hf
  exact pm_vret C X dX16_dies_27 rfl (Nat.le_refl _) (Nat.le_refl _) q
theorem dX16_dropped_0 : decode cX16_dropped 0 = .ok (.aload_n 0, 1) := by decide +kernel
theorem dX16_dropped_1 : decode cX16_dropped 1 = .ok (.getfield 149, 3) := by decide +kernel
theorem dX16_dropped_4 : decode cX16_dropped 4 = .ok (.bipush 64, 2) := by decide +kernel
theorem dX16_dropped_6 : decode cX16_dropped 6 = .ok (.iload_n 1, 1) := by decide +kernel
theorem dX16_dropped_7 : decode cX16_dropped 7 = .ok (.imul, 1) := by decide +kernel
theorem dX16_dropped_8 : decode cX16_dropped 8 = .ok (.iload_n 2, 1) := by decide +kernel
theorem dX16_dropped_9 : decode cX16_dropped 9 = .ok (.iadd, 1) := by decide +kernel
theorem dX16_dropped_10 : decode cX16_dropped 10 = .ok (.iconst 0, 1) := by decide +kernel
theorem dX16_dropped_11 : decode cX16_dropped 11 = .ok (.iastore, 1) := by decide +kernel
theorem dX16_dropped_12 : decode cX16_dropped 12 = .ok (.return_, 1) := by decide +kernel
def fX16_dropped (h : pm_H) (a0 : Nat) (p1 : Int32) (p2 : Int32) : Option pm_H := if pm_kd h a0 = 16 then (pm_R h a0 69).bind fun v2 => if pm_kd h v2 = 34 then if pm_in ((64 * p1) + p2) (pm_ln h v2) then some (pm_setI h v2 (((64 * p1) + p2).toNatClampNeg) 0) else none else none else none
set_option maxHeartbeats 4000000 in
set_option maxRecDepth 100000 in
theorem ctX16_dropped {l : Launch} {G : pm_Gl} {h : pm_H} {a0 : Nat} {p1 : Int32} {p2 : Int32} {r : pm_H} {Qr : Option Value → pm_H → Prop} (hf : fX16_dropped h a0 p1 p2 = some r) (q : Qr none r) : pm_Ct l G mX16_dropped [.ref a0, .int p1, .int p2] h 0 0 Qr := by
  refine pm_body pnX16 (Nat.le_of_ble_eq_true rfl) (fun g C X => ?_)
  have C : pm_C g cX16_dropped RX16 := C
  show pm_G g 0 [(0, .ref a0), (1, .int p1), (2, .int p2)] [] h 0 0
  unfold fX16_dropped at hf
  refine pm_aload_n C dX16_dropped_0 rfl rfl ?_
  obtain ⟨k1, hf⟩ := pm_if hf
  obtain ⟨v2, e3, hf⟩ := pm_bd hf
  refine pm_getR C dX16_dropped_1 flX16_149 rfl k1 e3 ?_
  refine pm_bipush (v := 64) C dX16_dropped_4 (by decide) ?_
  refine pm_iload_n C dX16_dropped_6 rfl rfl ?_
  refine pm_imul C dX16_dropped_7 ?_
  refine pm_iload_n C dX16_dropped_8 rfl rfl ?_
  refine pm_iadd C dX16_dropped_9 ?_
  refine pm_iconst (v := 0) C dX16_dropped_10 (by decide) ?_
  obtain ⟨k4, hf⟩ := pm_if hf
  obtain ⟨u5, hf⟩ := pm_if hf
  refine pm_iast C dX16_dropped_11 k4 u5 ?_
  cases hf
  exact pm_vret C X dX16_dropped_12 rfl (Nat.le_refl _) (Nat.le_refl _) q
theorem dX16_endsBy_0 : decode cX16_endsBy 0 = .ok (.iload_n 2, 1) := by decide +kernel
theorem dX16_endsBy_1 : decode cX16_endsBy 1 = .ok (.ifCond .eq 13, 3) := by decide +kernel
theorem dX16_endsBy_4 : decode cX16_endsBy 4 = .ok (.aload_n 0, 1) := by decide +kernel
theorem dX16_endsBy_5 : decode cX16_endsBy 5 = .ok (.iconst 3, 1) := by decide +kernel
theorem dX16_endsBy_6 : decode cX16_endsBy 6 = .ok (.putfield 970, 3) := by decide +kernel
theorem dX16_endsBy_9 : decode cX16_endsBy 9 = .ok (.aload_n 0, 1) := by decide +kernel
theorem dX16_endsBy_10 : decode cX16_endsBy 10 = .ok (.iload_n 1, 1) := by decide +kernel
theorem dX16_endsBy_11 : decode cX16_endsBy 11 = .ok (.putfield 1046, 3) := by decide +kernel
theorem dX16_endsBy_14 : decode cX16_endsBy 14 = .ok (.return_, 1) := by decide +kernel
def fX16_endsBy (h : pm_H) (a0 : Nat) (p1 : Int32) (p2 : Int32) : Option pm_H := if p2 = 0 then (some h) else (if pm_kd h a0 = 16 then some (pm_setI (pm_setI h a0 76 3) a0 77 p1) else none)
set_option maxHeartbeats 4000000 in
set_option maxRecDepth 100000 in
theorem ctX16_endsBy {l : Launch} {G : pm_Gl} {h : pm_H} {a0 : Nat} {p1 : Int32} {p2 : Int32} {r : pm_H} {Qr : Option Value → pm_H → Prop} (hf : fX16_endsBy h a0 p1 p2 = some r) (q : Qr none r) : pm_Ct l G mX16_endsBy [.ref a0, .int p1, .int p2] h 0 0 Qr := by
  refine pm_body pnX16 (Nat.le_of_ble_eq_true rfl) (fun g C X => ?_)
  have C : pm_C g cX16_endsBy RX16 := C
  show pm_G g 0 [(0, .ref a0), (1, .int p1), (2, .int p2)] [] h 0 0
  unfold fX16_endsBy at hf
  refine pm_iload_n C dX16_endsBy_0 rfl rfl ?_
  refine pm_if_eq (tgt := 14) C dX16_endsBy_1 (by decide) (fun c1 => ?_) (fun c1 => ?_)
  · have hf := pm_it hf c1
    cases hf
    exact pm_vret C X dX16_endsBy_14 rfl (Nat.le_refl _) (Nat.le_refl _) q
  · have hf := pm_ie hf c1
    refine pm_aload_n C dX16_endsBy_4 rfl rfl ?_
    refine pm_iconst (v := 3) C dX16_endsBy_5 (by decide) ?_
    obtain ⟨k2, hf⟩ := pm_if hf
    refine pm_putI C dX16_endsBy_6 flX16_970 rfl rfl k2 rfl rfl ?_
    refine pm_aload_n C dX16_endsBy_9 rfl rfl ?_
    refine pm_iload_n C dX16_endsBy_10 rfl rfl ?_
    refine pm_putI C dX16_endsBy_11 flX16_1046 rfl rfl k2 rfl rfl ?_
    cases hf
    exact pm_vret C X dX16_endsBy_14 rfl (Nat.le_refl _) (Nat.le_refl _) q
theorem dX16_exceeds_0 : decode cX16_exceeds 0 = .ok (.iload_n 1, 1) := by decide +kernel
theorem dX16_exceeds_1 : decode cX16_exceeds 1 = .ok (.ifCond .eq 24, 3) := by decide +kernel
theorem dX16_exceeds_4 : decode cX16_exceeds 4 = .ok (.aload_n 0, 1) := by decide +kernel
theorem dX16_exceeds_5 : decode cX16_exceeds 5 = .ok (.getfield 221, 3) := by decide +kernel
theorem dX16_exceeds_8 : decode cX16_exceeds 8 = .ok (.getfield 360, 3) := by decide +kernel
theorem dX16_exceeds_11 : decode cX16_exceeds 11 = .ok (.ifCond .ge 14, 3) := by decide +kernel
theorem dX16_exceeds_14 : decode cX16_exceeds 14 = .ok (.aload_n 0, 1) := by decide +kernel
theorem dX16_exceeds_15 : decode cX16_exceeds 15 = .ok (.getfield 221, 3) := by decide +kernel
theorem dX16_exceeds_18 : decode cX16_exceeds 18 = .ok (.aload_n 0, 1) := by decide +kernel
theorem dX16_exceeds_19 : decode cX16_exceeds 19 = .ok (.getfield 305, 3) := by decide +kernel
theorem dX16_exceeds_22 : decode cX16_exceeds 22 = .ok (.putfield 360, 3) := by decide +kernel
theorem dX16_exceeds_25 : decode cX16_exceeds 25 = .ok (.return_, 1) := by decide +kernel
def fX16_exceeds (h : pm_H) (a0 : Nat) (p1 : Int32) : Option pm_H := if p1 = 0 then (some h) else (if pm_kd h a0 = 16 then (pm_R h a0 10).bind fun v3 => if pm_kd h v3 = 14 then if 0 ≤ (pm_I h v3 3) then (some h) else (pm_let (pm_I h a0 13) fun y7 => some (pm_setI h v3 3 y7)) else none else none)
set_option maxHeartbeats 4000000 in
set_option maxRecDepth 100000 in
theorem ctX16_exceeds {l : Launch} {G : pm_Gl} {h : pm_H} {a0 : Nat} {p1 : Int32} {r : pm_H} {Qr : Option Value → pm_H → Prop} (hf : fX16_exceeds h a0 p1 = some r) (q : Qr none r) : pm_Ct l G mX16_exceeds [.ref a0, .int p1] h 0 0 Qr := by
  refine pm_body pnX16 (Nat.le_of_ble_eq_true rfl) (fun g C X => ?_)
  have C : pm_C g cX16_exceeds RX16 := C
  show pm_G g 0 [(0, .ref a0), (1, .int p1)] [] h 0 0
  unfold fX16_exceeds at hf
  refine pm_iload_n C dX16_exceeds_0 rfl rfl ?_
  refine pm_if_eq (tgt := 25) C dX16_exceeds_1 (by decide) (fun c1 => ?_) (fun c1 => ?_)
  · have hf := pm_it hf c1
    cases hf
    exact pm_vret C X dX16_exceeds_25 rfl (Nat.le_refl _) (Nat.le_refl _) q
  · have hf := pm_ie hf c1
    refine pm_aload_n C dX16_exceeds_4 rfl rfl ?_
    obtain ⟨k2, hf⟩ := pm_if hf
    obtain ⟨v3, e4, hf⟩ := pm_bd hf
    refine pm_getR C dX16_exceeds_5 flX16_221 rfl k2 e4 ?_
    obtain ⟨k5, hf⟩ := pm_if hf
    refine pm_getI C dX16_exceeds_8 flX16_360 rfl k5 rfl ?_
    refine pm_if_ge (tgt := 25) C dX16_exceeds_11 (by decide) (fun c6 => ?_) (fun c6 => ?_)
    · have hf := pm_it hf c6
      cases hf
      exact pm_vret C X dX16_exceeds_25 rfl (Nat.le_refl _) (Nat.le_refl _) q
    · have hf := pm_ie hf c6
      refine pm_aload_n C dX16_exceeds_14 rfl rfl ?_
      refine pm_getR C dX16_exceeds_15 flX16_221 rfl k2 e4 ?_
      refine pm_aload_n C dX16_exceeds_18 rfl rfl ?_
      refine pm_getI C dX16_exceeds_19 flX16_305 rfl k2 rfl ?_
      obtain ⟨y7, e8, hf⟩ := pm_lt hf
      refine pm_topI e8 ?_
      refine pm_putI C dX16_exceeds_22 flX16_360 rfl rfl k5 rfl rfl ?_
      cases hf
      exact pm_vret C X dX16_exceeds_25 rfl (Nat.le_refl _) (Nat.le_refl _) q
theorem dX16_exportKind_0 : decode cX16_exportKind 0 = .ok (.aload_n 0, 1) := by decide +kernel
theorem dX16_exportKind_1 : decode cX16_exportKind 1 = .ok (.getfield 16, 3) := by decide +kernel
theorem dX16_exportKind_4 : decode cX16_exportKind 4 = .ok (.aload_n 0, 1) := by decide +kernel
theorem dX16_exportKind_5 : decode cX16_exportKind 5 = .ok (.getfield 131, 3) := by decide +kernel
theorem dX16_exportKind_8 : decode cX16_exportKind 8 = .ok (.iload_n 1, 1) := by decide +kernel
theorem dX16_exportKind_9 : decode cX16_exportKind 9 = .ok (.iaload, 1) := by decide +kernel
theorem dX16_exportKind_10 : decode cX16_exportKind 10 = .ok (.aaload, 1) := by decide +kernel
theorem dX16_exportKind_11 : decode cX16_exportKind 11 = .ok (.getfield 475, 3) := by decide +kernel
theorem dX16_exportKind_14 : decode cX16_exportKind 14 = .ok (.iload_n 2, 1) := by decide +kernel
theorem dX16_exportKind_15 : decode cX16_exportKind 15 = .ok (.iaload, 1) := by decide +kernel
theorem dX16_exportKind_16 : decode cX16_exportKind 16 = .ok (.ireturn, 1) := by decide +kernel
def fX16_exportKind (h : pm_H) (a0 : Nat) (p1 : Int32) (p2 : Int32) : Option Int32 := if pm_kd h a0 = 16 then (pm_R h a0 4).bind fun v2 => (pm_R h a0 63).bind fun v4 => if pm_kd h v4 = 34 then if pm_in p1 (pm_ln h v4) then pm_let (pm_I h v4 p1.toNatClampNeg) fun y8 => if pm_kd h v2 = 42 then if pm_in y8 (pm_ln h v2) then (pm_R h v2 y8.toNatClampNeg).bind fun v12 => if pm_kd h v12 = 14 then (pm_R h v12 31).bind fun v15 => if pm_kd h v15 = 34 then if pm_in p2 (pm_ln h v15) then some (pm_I h v15 p2.toNatClampNeg) else none else none else none else none else none else none else none else none
set_option maxHeartbeats 4000000 in
set_option maxRecDepth 100000 in
theorem ctX16_exportKind {l : Launch} {G : pm_Gl} {h : pm_H} {a0 : Nat} {p1 : Int32} {p2 : Int32} {r : Int32} {Qr : Option Value → pm_H → Prop} (hf : fX16_exportKind h a0 p1 p2 = some r) (q : Qr (some (.int r)) h) : pm_Ct l G mX16_exportKind [.ref a0, .int p1, .int p2] h 0 0 Qr := by
  refine pm_body pnX16 (Nat.le_of_ble_eq_true rfl) (fun g C X => ?_)
  have C : pm_C g cX16_exportKind RX16 := C
  show pm_G g 0 [(0, .ref a0), (1, .int p1), (2, .int p2)] [] h 0 0
  unfold fX16_exportKind at hf
  refine pm_aload_n C dX16_exportKind_0 rfl rfl ?_
  obtain ⟨k1, hf⟩ := pm_if hf
  obtain ⟨v2, e3, hf⟩ := pm_bd hf
  refine pm_getR C dX16_exportKind_1 flX16_16 rfl k1 e3 ?_
  refine pm_aload_n C dX16_exportKind_4 rfl rfl ?_
  obtain ⟨v4, e5, hf⟩ := pm_bd hf
  refine pm_getR C dX16_exportKind_5 flX16_131 rfl k1 e5 ?_
  refine pm_iload_n C dX16_exportKind_8 rfl rfl ?_
  obtain ⟨k6, hf⟩ := pm_if hf
  obtain ⟨u7, hf⟩ := pm_if hf
  refine pm_iald C dX16_exportKind_9 k6 u7 rfl ?_
  obtain ⟨y8, e9, hf⟩ := pm_lt hf
  refine pm_topI e9 ?_
  obtain ⟨k10, hf⟩ := pm_if hf
  obtain ⟨u11, hf⟩ := pm_if hf
  obtain ⟨v12, e13, hf⟩ := pm_bd hf
  refine pm_ald (t := 10) C dX16_exportKind_10 (by decide) rfl k10 u11 e13 ?_
  obtain ⟨k14, hf⟩ := pm_if hf
  obtain ⟨v15, e16, hf⟩ := pm_bd hf
  refine pm_getR C dX16_exportKind_11 flX16_475 rfl k14 e16 ?_
  refine pm_iload_n C dX16_exportKind_14 rfl rfl ?_
  obtain ⟨k17, hf⟩ := pm_if hf
  obtain ⟨u18, hf⟩ := pm_if hf
  refine pm_iald C dX16_exportKind_15 k17 u18 rfl ?_
  cases hf
  exact pm_iret C X dX16_exportKind_16 rfl (Nat.le_refl _) (Nat.le_refl _) q
theorem dX16_failsAtOnce_0 : decode cX16_failsAtOnce 0 = .ok (.aload_n 0, 1) := by decide +kernel
theorem dX16_failsAtOnce_1 : decode cX16_failsAtOnce 1 = .ok (.iconst 3, 1) := by decide +kernel
theorem dX16_failsAtOnce_2 : decode cX16_failsAtOnce 2 = .ok (.putfield 970, 3) := by decide +kernel
theorem dX16_failsAtOnce_5 : decode cX16_failsAtOnce 5 = .ok (.aload_n 0, 1) := by decide +kernel
theorem dX16_failsAtOnce_6 : decode cX16_failsAtOnce 6 = .ok (.iload_n 1, 1) := by decide +kernel
theorem dX16_failsAtOnce_7 : decode cX16_failsAtOnce 7 = .ok (.putfield 1046, 3) := by decide +kernel
theorem dX16_failsAtOnce_10 : decode cX16_failsAtOnce 10 = .ok (.aload_n 0, 1) := by decide +kernel
theorem dX16_failsAtOnce_11 : decode cX16_failsAtOnce 11 = .ok (.iconst 0, 1) := by decide +kernel
theorem dX16_failsAtOnce_12 : decode cX16_failsAtOnce 12 = .ok (.putfield 1049, 3) := by decide +kernel
theorem dX16_failsAtOnce_15 : decode cX16_failsAtOnce 15 = .ok (.aload_n 0, 1) := by decide +kernel
theorem dX16_failsAtOnce_16 : decode cX16_failsAtOnce 16 = .ok (.iconst 0, 1) := by decide +kernel
theorem dX16_failsAtOnce_17 : decode cX16_failsAtOnce 17 = .ok (.putfield 1052, 3) := by decide +kernel
theorem dX16_failsAtOnce_20 : decode cX16_failsAtOnce 20 = .ok (.return_, 1) := by decide +kernel
def fX16_failsAtOnce (h : pm_H) (a0 : Nat) (p1 : Int32) : Option pm_H := if pm_kd h a0 = 16 then some (pm_setI (pm_setI (pm_setI (pm_setI h a0 76 3) a0 77 p1) a0 78 0) a0 85 0) else none
set_option maxHeartbeats 4000000 in
set_option maxRecDepth 100000 in
theorem ctX16_failsAtOnce {l : Launch} {G : pm_Gl} {h : pm_H} {a0 : Nat} {p1 : Int32} {r : pm_H} {Qr : Option Value → pm_H → Prop} (hf : fX16_failsAtOnce h a0 p1 = some r) (q : Qr none r) : pm_Ct l G mX16_failsAtOnce [.ref a0, .int p1] h 0 0 Qr := by
  refine pm_body pnX16 (Nat.le_of_ble_eq_true rfl) (fun g C X => ?_)
  have C : pm_C g cX16_failsAtOnce RX16 := C
  show pm_G g 0 [(0, .ref a0), (1, .int p1)] [] h 0 0
  unfold fX16_failsAtOnce at hf
  refine pm_aload_n C dX16_failsAtOnce_0 rfl rfl ?_
  refine pm_iconst (v := 3) C dX16_failsAtOnce_1 (by decide) ?_
  obtain ⟨k1, hf⟩ := pm_if hf
  refine pm_putI C dX16_failsAtOnce_2 flX16_970 rfl rfl k1 rfl rfl ?_
  refine pm_aload_n C dX16_failsAtOnce_5 rfl rfl ?_
  refine pm_iload_n C dX16_failsAtOnce_6 rfl rfl ?_
  refine pm_putI C dX16_failsAtOnce_7 flX16_1046 rfl rfl k1 rfl rfl ?_
  refine pm_aload_n C dX16_failsAtOnce_10 rfl rfl ?_
  refine pm_iconst (v := 0) C dX16_failsAtOnce_11 (by decide) ?_
  refine pm_putI C dX16_failsAtOnce_12 flX16_1049 rfl rfl k1 rfl rfl ?_
  refine pm_aload_n C dX16_failsAtOnce_15 rfl rfl ?_
  refine pm_iconst (v := 0) C dX16_failsAtOnce_16 (by decide) ?_
  refine pm_putI C dX16_failsAtOnce_17 flX16_1052 rfl rfl k1 rfl rfl ?_
  cases hf
  exact pm_vret C X dX16_failsAtOnce_20 rfl (Nat.le_refl _) (Nat.le_refl _) q
theorem dX16_fault_0 : decode cX16_fault 0 = .ok (.aload_n 0, 1) := by decide +kernel
theorem dX16_fault_1 : decode cX16_fault 1 = .ok (.getfield 235, 3) := by decide +kernel
theorem dX16_fault_4 : decode cX16_fault 4 = .ok (.ifCond .ne 7, 3) := by decide +kernel
theorem dX16_fault_7 : decode cX16_fault 7 = .ok (.iconst (-1), 1) := by decide +kernel
theorem dX16_fault_8 : decode cX16_fault 8 = .ok (.goto 27, 3) := by decide +kernel
theorem dX16_fault_11 : decode cX16_fault 11 = .ok (.iload_n 1, 1) := by decide +kernel
theorem dX16_fault_12 : decode cX16_fault 12 = .ok (.ifCond .ne 10, 3) := by decide +kernel
theorem dX16_fault_15 : decode cX16_fault 15 = .ok (.aload_n 0, 1) := by decide +kernel
theorem dX16_fault_16 : decode cX16_fault 16 = .ok (.getfield 239, 3) := by decide +kernel
theorem dX16_fault_19 : decode cX16_fault 19 = .ok (.goto 16, 3) := by decide +kernel
theorem dX16_fault_22 : decode cX16_fault 22 = .ok (.iload_n 1, 1) := by decide +kernel
theorem dX16_fault_23 : decode cX16_fault 23 = .ok (.iconst 1, 1) := by decide +kernel
theorem dX16_fault_24 : decode cX16_fault 24 = .ok (.if_icmp .ne 10, 3) := by decide +kernel
theorem dX16_fault_27 : decode cX16_fault 27 = .ok (.aload_n 0, 1) := by decide +kernel
theorem dX16_fault_28 : decode cX16_fault 28 = .ok (.getfield 242, 3) := by decide +kernel
theorem dX16_fault_31 : decode cX16_fault 31 = .ok (.goto 4, 3) := by decide +kernel
theorem dX16_fault_34 : decode cX16_fault 34 = .ok (.iconst (-1), 1) := by decide +kernel
theorem dX16_fault_35 : decode cX16_fault 35 = .ok (.ireturn, 1) := by decide +kernel
def fX16_fault (h : pm_H) (a0 : Nat) (p1 : Int32) : Option Int32 := if pm_kd h a0 = 16 then if (pm_I h a0 6) = 0 then (some ((-1))) else (if p1 = 0 then (some (pm_I h a0 7)) else (if p1 = 1 then (some (pm_I h a0 8)) else (some ((-1))))) else none
set_option maxHeartbeats 4000000 in
set_option maxRecDepth 100000 in
theorem ctX16_fault {l : Launch} {G : pm_Gl} {h : pm_H} {a0 : Nat} {p1 : Int32} {r : Int32} {Qr : Option Value → pm_H → Prop} (hf : fX16_fault h a0 p1 = some r) (q : Qr (some (.int r)) h) : pm_Ct l G mX16_fault [.ref a0, .int p1] h 0 0 Qr := by
  refine pm_body pnX16 (Nat.le_of_ble_eq_true rfl) (fun g C X => ?_)
  have C : pm_C g cX16_fault RX16 := C
  show pm_G g 0 [(0, .ref a0), (1, .int p1)] [] h 0 0
  unfold fX16_fault at hf
  refine pm_aload_n C dX16_fault_0 rfl rfl ?_
  obtain ⟨k1, hf⟩ := pm_if hf
  refine pm_getI C dX16_fault_1 flX16_235 rfl k1 rfl ?_
  refine pm_if_ne (tgt := 11) C dX16_fault_4 (by decide) (fun c2 => ?_) (fun c2 => ?_)
  · have hf := pm_ie hf c2
    refine pm_iload_n C dX16_fault_11 rfl rfl ?_
    refine pm_if_ne (tgt := 22) C dX16_fault_12 (by decide) (fun c3 => ?_) (fun c3 => ?_)
    · have hf := pm_ie hf c3
      refine pm_iload_n C dX16_fault_22 rfl rfl ?_
      refine pm_iconst (v := 1) C dX16_fault_23 (by decide) ?_
      refine pm_icmp_ne (tgt := 34) C dX16_fault_24 (by decide) (fun c4 => ?_) (fun c4 => ?_)
      · have hf := pm_ie hf c4
        refine pm_iconst (v := (-1)) C dX16_fault_34 (by decide) ?_
        cases hf
        exact pm_iret C X dX16_fault_35 rfl (Nat.le_refl _) (Nat.le_refl _) q
      · have hf := pm_it hf c4
        refine pm_aload_n C dX16_fault_27 rfl rfl ?_
        refine pm_getI C dX16_fault_28 flX16_242 rfl k1 rfl ?_
        refine pm_goto (tgt := 35) C dX16_fault_31 (by decide) ?_
        cases hf
        exact pm_iret C X dX16_fault_35 rfl (Nat.le_refl _) (Nat.le_refl _) q
    · have hf := pm_it hf c3
      refine pm_aload_n C dX16_fault_15 rfl rfl ?_
      refine pm_getI C dX16_fault_16 flX16_239 rfl k1 rfl ?_
      refine pm_goto (tgt := 35) C dX16_fault_19 (by decide) ?_
      cases hf
      exact pm_iret C X dX16_fault_35 rfl (Nat.le_refl _) (Nat.le_refl _) q
  · have hf := pm_it hf c2
    refine pm_iconst (v := (-1)) C dX16_fault_7 (by decide) ?_
    refine pm_goto (tgt := 35) C dX16_fault_8 (by decide) ?_
    cases hf
    exact pm_iret C X dX16_fault_35 rfl (Nat.le_refl _) (Nat.le_refl _) q
theorem dX16_grows_0 : decode cX16_grows 0 = .ok (.iconst 0, 1) := by decide +kernel
theorem dX16_grows_1 : decode cX16_grows 1 = .ok (.istore 4, 2) := by decide +kernel
theorem dX16_grows_3 : decode cX16_grows 3 = .ok (.iload 4, 2) := by decide +kernel
theorem dX16_grows_5 : decode cX16_grows 5 = .ok (.iload_n 2, 1) := by decide +kernel
theorem dX16_grows_6 : decode cX16_grows 6 = .ok (.if_icmp .ge 30, 3) := by decide +kernel
theorem dX16_grows_9 : decode cX16_grows 9 = .ok (.aload_n 0, 1) := by decide +kernel
theorem dX16_grows_10 : decode cX16_grows 10 = .ok (.getfield 103, 3) := by decide +kernel
theorem dX16_grows_13 : decode cX16_grows 13 = .ok (.sipush 1024, 3) := by decide +kernel
theorem dX16_grows_16 : decode cX16_grows 16 = .ok (.iload_n 1, 1) := by decide +kernel
theorem dX16_grows_17 : decode cX16_grows 17 = .ok (.imul, 1) := by decide +kernel
theorem dX16_grows_18 : decode cX16_grows 18 = .ok (.aload_n 0, 1) := by decide +kernel
theorem dX16_grows_19 : decode cX16_grows 19 = .ok (.getfield 96, 3) := by decide +kernel
theorem dX16_grows_22 : decode cX16_grows 22 = .ok (.iload_n 1, 1) := by decide +kernel
theorem dX16_grows_23 : decode cX16_grows 23 = .ok (.iaload, 1) := by decide +kernel
theorem dX16_grows_24 : decode cX16_grows 24 = .ok (.iadd, 1) := by decide +kernel
theorem dX16_grows_25 : decode cX16_grows 25 = .ok (.iload 4, 2) := by decide +kernel
theorem dX16_grows_27 : decode cX16_grows 27 = .ok (.iadd, 1) := by decide +kernel
theorem dX16_grows_28 : decode cX16_grows 28 = .ok (.iload_n 3, 1) := by decide +kernel
theorem dX16_grows_29 : decode cX16_grows 29 = .ok (.iastore, 1) := by decide +kernel
theorem dX16_grows_30 : decode cX16_grows 30 = .ok (.iinc 4 1, 3) := by decide +kernel
theorem dX16_grows_33 : decode cX16_grows 33 = .ok (.goto (-30), 3) := by decide +kernel
theorem dX16_grows_36 : decode cX16_grows 36 = .ok (.aload_n 0, 1) := by decide +kernel
theorem dX16_grows_37 : decode cX16_grows 37 = .ok (.getfield 96, 3) := by decide +kernel
theorem dX16_grows_40 : decode cX16_grows 40 = .ok (.iload_n 1, 1) := by decide +kernel
theorem dX16_grows_41 : decode cX16_grows 41 = .ok (.dup2, 1) := by decide +kernel
theorem dX16_grows_42 : decode cX16_grows 42 = .ok (.iaload, 1) := by decide +kernel
theorem dX16_grows_43 : decode cX16_grows 43 = .ok (.iload_n 2, 1) := by decide +kernel
theorem dX16_grows_44 : decode cX16_grows 44 = .ok (.iadd, 1) := by decide +kernel
theorem dX16_grows_45 : decode cX16_grows 45 = .ok (.iastore, 1) := by decide +kernel
theorem dX16_grows_46 : decode cX16_grows 46 = .ok (.aload_n 0, 1) := by decide +kernel
theorem dX16_grows_47 : decode cX16_grows 47 = .ok (.dup, 1) := by decide +kernel
theorem dX16_grows_48 : decode cX16_grows 48 = .ok (.getfield 89, 3) := by decide +kernel
theorem dX16_grows_51 : decode cX16_grows 51 = .ok (.iload_n 2, 1) := by decide +kernel
theorem dX16_grows_52 : decode cX16_grows 52 = .ok (.isub, 1) := by decide +kernel
theorem dX16_grows_53 : decode cX16_grows 53 = .ok (.putfield 89, 3) := by decide +kernel
theorem dX16_grows_56 : decode cX16_grows 56 = .ok (.return_, 1) := by decide +kernel
def tX16_grows_3 (x0 : Nat) (x1 : Int32) (x2 : Int32) (x3 : Int32) (x4 : Int32) (h : pm_H) : Option (((Nat × Int32 × Int32 × Int32 × Int32 × pm_H)) ⊕ pm_H) := if x2 ≤ x4 then (if pm_kd h x0 = 16 then (pm_R h x0 49).bind fun v3 => if pm_kd h v3 = 34 then if pm_in x1 (pm_ln h v3) then pm_let ((pm_I h v3 x1.toNatClampNeg) + x2) fun y7 => if pm_in x1 (pm_ln h v3) then pm_let ((pm_I (pm_setI h v3 x1.toNatClampNeg y7) x0 47) - x2) fun y10 => some (.inr (pm_setI (pm_setI h v3 x1.toNatClampNeg y7) x0 47 y10)) else none else none else none else none) else (if pm_kd h x0 = 16 then (pm_R h x0 51).bind fun v13 => (pm_R h x0 49).bind fun v15 => if pm_kd h v15 = 34 then if pm_in x1 (pm_ln h v15) then if pm_kd h v13 = 34 then if pm_in (((1024 * x1) + (pm_I h v15 x1.toNatClampNeg)) + x4) (pm_ln h v13) then pm_let (x4 + 1) fun y21 => some (.inl ((x0, x1, x2, x3, y21, pm_setI h v13 ((((1024 * x1) + (pm_I h v15 x1.toNatClampNeg)) + x4).toNatClampNeg) x3))) else none else none else none else none else none)
def sX16_grows : ((Nat × Int32 × Int32 × Int32 × Int32 × pm_H)) → Option (((Nat × Int32 × Int32 × Int32 × Int32 × pm_H)) ⊕ pm_H) := fun z => match z with
  | (x0, x1, x2, x3, x4, h) => tX16_grows_3 x0 x1 x2 x3 x4 h
noncomputable def fX16_grows (h : pm_H) (a0 : Nat) (p1 : Int32) (p2 : Int32) (p3 : Int32) : Option pm_H := pm_lim sX16_grows ((a0, p1, p2, p3, 0, h))
set_option maxHeartbeats 4000000 in
set_option maxRecDepth 100000 in
theorem lpX16_grows {g : pm_Gm} {l : Launch} {G : pm_Gl} {Qr : Option Value → pm_H → Prop} (C : pm_C g cX16_grows RX16) (X : pm_X g l G mX16_grows 0 0 Qr) {r : pm_H} (q : Qr none r) : ∀ n : Nat, (∀ (x0 : Nat) (x1 : Int32) (x2 : Int32) (x3 : Int32) (x4 : Int32) (h : pm_H), pm_iter sX16_grows n (x0, x1, x2, x3, x4, h) = some r → pm_G g 3 [(0, .ref x0), (1, .int x1), (2, .int x2), (3, .int x3), (4, .int x4)] [] h 0 0) := by
  intro n
  induction n with
  | zero => exact fun _ _ _ _ _ _ hf => (by cases hf)
  | succ n ih =>
    refine fun x0 x1 x2 x3 x4 h hf => ?_
    obtain ⟨y, hf, hi⟩ := pm_iter_s hf
    have hf : tX16_grows_3 x0 x1 x2 x3 x4 h = some y := hf
    unfold tX16_grows_3 at hf
    refine pm_iload C dX16_grows_3 rfl ?_
    refine pm_iload_n C dX16_grows_5 rfl rfl ?_
    refine pm_icmp_ge (tgt := 36) C dX16_grows_6 (by decide) (fun c1 => ?_) (fun c1 => ?_)
    · have hf := pm_it hf c1
      refine pm_aload_n C dX16_grows_36 rfl rfl ?_
      obtain ⟨k2, hf⟩ := pm_if hf
      obtain ⟨v3, e4, hf⟩ := pm_bd hf
      refine pm_getR C dX16_grows_37 flX16_96 rfl k2 e4 ?_
      refine pm_iload_n C dX16_grows_40 rfl rfl ?_
      refine pm_dup2_11 C dX16_grows_41 rfl rfl ?_
      obtain ⟨k5, hf⟩ := pm_if hf
      obtain ⟨u6, hf⟩ := pm_if hf
      refine pm_iald C dX16_grows_42 k5 u6 rfl ?_
      refine pm_iload_n C dX16_grows_43 rfl rfl ?_
      refine pm_iadd C dX16_grows_44 ?_
      obtain ⟨y7, e8, hf⟩ := pm_lt hf
      refine pm_topI e8 ?_
      obtain ⟨u9, hf⟩ := pm_if hf
      refine pm_iast C dX16_grows_45 k5 u9 ?_
      refine pm_aload_n C dX16_grows_46 rfl rfl ?_
      refine pm_dup C dX16_grows_47 rfl ?_
      refine pm_getI C dX16_grows_48 flX16_89 rfl k2 rfl ?_
      refine pm_iload_n C dX16_grows_51 rfl rfl ?_
      refine pm_isub C dX16_grows_52 ?_
      obtain ⟨y10, e11, hf⟩ := pm_lt hf
      refine pm_topI e11 ?_
      refine pm_putI C dX16_grows_53 flX16_89 rfl rfl k2 rfl rfl ?_
      cases hf
      cases hi
      exact pm_vret C X dX16_grows_56 rfl (Nat.le_refl _) (Nat.le_refl _) q
    · have hf := pm_ie hf c1
      refine pm_aload_n C dX16_grows_9 rfl rfl ?_
      obtain ⟨k12, hf⟩ := pm_if hf
      obtain ⟨v13, e14, hf⟩ := pm_bd hf
      refine pm_getR C dX16_grows_10 flX16_103 rfl k12 e14 ?_
      refine pm_sipush (v := 1024) C dX16_grows_13 (by decide) ?_
      refine pm_iload_n C dX16_grows_16 rfl rfl ?_
      refine pm_imul C dX16_grows_17 ?_
      refine pm_aload_n C dX16_grows_18 rfl rfl ?_
      obtain ⟨v15, e16, hf⟩ := pm_bd hf
      refine pm_getR C dX16_grows_19 flX16_96 rfl k12 e16 ?_
      refine pm_iload_n C dX16_grows_22 rfl rfl ?_
      obtain ⟨k17, hf⟩ := pm_if hf
      obtain ⟨u18, hf⟩ := pm_if hf
      refine pm_iald C dX16_grows_23 k17 u18 rfl ?_
      refine pm_iadd C dX16_grows_24 ?_
      refine pm_iload C dX16_grows_25 rfl ?_
      refine pm_iadd C dX16_grows_27 ?_
      refine pm_iload_n C dX16_grows_28 rfl rfl ?_
      obtain ⟨k19, hf⟩ := pm_if hf
      obtain ⟨u20, hf⟩ := pm_if hf
      refine pm_iast C dX16_grows_29 k19 u20 ?_
      obtain ⟨y21, e22, hf⟩ := pm_lt hf
      refine pm_iinc (v := y21) (lv' := [(4, .int y21), (0, .ref x0), (1, .int x1), (2, .int x2), (3, .int x3)]) C dX16_grows_30 rfl ((congrArg (x4 + ·) (by decide : Int32.ofInt 1 = 1)).trans e22) (pm_nl X (by decide)) rfl ?_
      refine pm_goto (tgt := 3) C dX16_grows_33 (by decide) ?_
      cases hf
      exact pm_sub [1, 2, 3, 4, 0] rfl (ih x0 x1 x2 x3 y21 (pm_setI h v13 ((((1024 * x1) + (pm_I h v15 x1.toNatClampNeg)) + x4).toNatClampNeg) x3) hi)
set_option maxHeartbeats 4000000 in
set_option maxRecDepth 100000 in
theorem ctX16_grows {l : Launch} {G : pm_Gl} {h : pm_H} {a0 : Nat} {p1 : Int32} {p2 : Int32} {p3 : Int32} {r : pm_H} {Qr : Option Value → pm_H → Prop} (hf : fX16_grows h a0 p1 p2 p3 = some r) (q : Qr none r) : pm_Ct l G mX16_grows [.ref a0, .int p1, .int p2, .int p3] h 0 0 Qr := by
  refine pm_body pnX16 (Nat.le_of_ble_eq_true rfl) (fun g C X => ?_)
  have C : pm_C g cX16_grows RX16 := C
  show pm_G g 0 [(0, .ref a0), (1, .int p1), (2, .int p2), (3, .int p3)] [] h 0 0
  unfold fX16_grows at hf
  refine pm_iconst (v := 0) C dX16_grows_0 (by decide) ?_
  refine pm_istore (lv' := [(4, .int 0), (0, .ref a0), (1, .int p1), (2, .int p2), (3, .int p3)]) C dX16_grows_1 (pm_nl X (by decide)) rfl ?_
  obtain ⟨n, hn⟩ := pm_lim_iter hf
  exact pm_sub [1, 2, 3, 4, 0] rfl ((lpX16_grows C X q n) a0 p1 p2 p3 0 h hn)
theorem dX16_growsPages_0 : decode cX16_growsPages 0 = .ok (.iconst 0, 1) := by decide +kernel
theorem dX16_growsPages_1 : decode cX16_growsPages 1 = .ok (.istore_n 3, 1) := by decide +kernel
theorem dX16_growsPages_2 : decode cX16_growsPages 2 = .ok (.iload_n 3, 1) := by decide +kernel
theorem dX16_growsPages_3 : decode cX16_growsPages 3 = .ok (.iload_n 2, 1) := by decide +kernel
theorem dX16_growsPages_4 : decode cX16_growsPages 4 = .ok (.if_icmp .ge 52, 3) := by decide +kernel
theorem dX16_growsPages_7 : decode cX16_growsPages 7 = .ok (.aload_n 0, 1) := by decide +kernel
theorem dX16_growsPages_8 : decode cX16_growsPages 8 = .ok (.getfield 115, 3) := by decide +kernel
theorem dX16_growsPages_11 : decode cX16_growsPages 11 = .ok (.bipush 8, 2) := by decide +kernel
theorem dX16_growsPages_13 : decode cX16_growsPages 13 = .ok (.iload_n 1, 1) := by decide +kernel
theorem dX16_growsPages_14 : decode cX16_growsPages 14 = .ok (.imul, 1) := by decide +kernel
theorem dX16_growsPages_15 : decode cX16_growsPages 15 = .ok (.aload_n 0, 1) := by decide +kernel
theorem dX16_growsPages_16 : decode cX16_growsPages 16 = .ok (.getfield 109, 3) := by decide +kernel
theorem dX16_growsPages_19 : decode cX16_growsPages 19 = .ok (.iload_n 1, 1) := by decide +kernel
theorem dX16_growsPages_20 : decode cX16_growsPages 20 = .ok (.iaload, 1) := by decide +kernel
theorem dX16_growsPages_21 : decode cX16_growsPages 21 = .ok (.iadd, 1) := by decide +kernel
theorem dX16_growsPages_22 : decode cX16_growsPages 22 = .ok (.bipush 8, 2) := by decide +kernel
theorem dX16_growsPages_24 : decode cX16_growsPages 24 = .ok (.aload_n 0, 1) := by decide +kernel
theorem dX16_growsPages_25 : decode cX16_growsPages 25 = .ok (.getfield 106, 3) := by decide +kernel
theorem dX16_growsPages_28 : decode cX16_growsPages 28 = .ok (.isub, 1) := by decide +kernel
theorem dX16_growsPages_29 : decode cX16_growsPages 29 = .ok (.iastore, 1) := by decide +kernel
theorem dX16_growsPages_30 : decode cX16_growsPages 30 = .ok (.aload_n 0, 1) := by decide +kernel
theorem dX16_growsPages_31 : decode cX16_growsPages 31 = .ok (.getfield 109, 3) := by decide +kernel
theorem dX16_growsPages_34 : decode cX16_growsPages 34 = .ok (.iload_n 1, 1) := by decide +kernel
theorem dX16_growsPages_35 : decode cX16_growsPages 35 = .ok (.dup2, 1) := by decide +kernel
theorem dX16_growsPages_36 : decode cX16_growsPages 36 = .ok (.iaload, 1) := by decide +kernel
theorem dX16_growsPages_37 : decode cX16_growsPages 37 = .ok (.iconst 1, 1) := by decide +kernel
theorem dX16_growsPages_38 : decode cX16_growsPages 38 = .ok (.iadd, 1) := by decide +kernel
theorem dX16_growsPages_39 : decode cX16_growsPages 39 = .ok (.iastore, 1) := by decide +kernel
theorem dX16_growsPages_40 : decode cX16_growsPages 40 = .ok (.aload_n 0, 1) := by decide +kernel
theorem dX16_growsPages_41 : decode cX16_growsPages 41 = .ok (.dup, 1) := by decide +kernel
theorem dX16_growsPages_42 : decode cX16_growsPages 42 = .ok (.getfield 106, 3) := by decide +kernel
theorem dX16_growsPages_45 : decode cX16_growsPages 45 = .ok (.iconst 1, 1) := by decide +kernel
theorem dX16_growsPages_46 : decode cX16_growsPages 46 = .ok (.isub, 1) := by decide +kernel
theorem dX16_growsPages_47 : decode cX16_growsPages 47 = .ok (.putfield 106, 3) := by decide +kernel
theorem dX16_growsPages_50 : decode cX16_growsPages 50 = .ok (.iinc 3 1, 3) := by decide +kernel
theorem dX16_growsPages_53 : decode cX16_growsPages 53 = .ok (.goto (-51), 3) := by decide +kernel
theorem dX16_growsPages_56 : decode cX16_growsPages 56 = .ok (.return_, 1) := by decide +kernel
def tX16_growsPages_2 (x0 : Nat) (x1 : Int32) (x2 : Int32) (x3 : Int32) (h : pm_H) : Option (((Nat × Int32 × Int32 × Int32 × pm_H)) ⊕ pm_H) := if x2 ≤ x3 then (some (.inr (h))) else (if pm_kd h x0 = 16 then (pm_R h x0 56).bind fun v3 => (pm_R h x0 54).bind fun v5 => if pm_kd h v5 = 34 then if pm_in x1 (pm_ln h v5) then pm_let (8 - (pm_I h x0 53)) fun y9 => if pm_kd h v3 = 34 then if pm_in ((8 * x1) + (pm_I h v5 x1.toNatClampNeg)) (pm_ln h v3) then if pm_in x1 (pm_ln (pm_setI h v3 (((8 * x1) + (pm_I h v5 x1.toNatClampNeg)).toNatClampNeg) y9) v5) then pm_let ((pm_I (pm_setI h v3 (((8 * x1) + (pm_I h v5 x1.toNatClampNeg)).toNatClampNeg) y9) v5 x1.toNatClampNeg) + 1) fun y14 => if pm_in x1 (pm_ln (pm_setI h v3 (((8 * x1) + (pm_I h v5 x1.toNatClampNeg)).toNatClampNeg) y9) v5) then pm_let ((pm_I (pm_setI (pm_setI h v3 (((8 * x1) + (pm_I h v5 x1.toNatClampNeg)).toNatClampNeg) y9) v5 x1.toNatClampNeg y14) x0 53) - 1) fun y17 => pm_let (x3 + 1) fun y19 => some (.inl ((x0, x1, x2, y19, pm_setI (pm_setI (pm_setI h v3 (((8 * x1) + (pm_I h v5 x1.toNatClampNeg)).toNatClampNeg) y9) v5 x1.toNatClampNeg y14) x0 53 y17))) else none else none else none else none else none else none else none)
def sX16_growsPages : ((Nat × Int32 × Int32 × Int32 × pm_H)) → Option (((Nat × Int32 × Int32 × Int32 × pm_H)) ⊕ pm_H) := fun z => match z with
  | (x0, x1, x2, x3, h) => tX16_growsPages_2 x0 x1 x2 x3 h
noncomputable def fX16_growsPages (h : pm_H) (a0 : Nat) (p1 : Int32) (p2 : Int32) : Option pm_H := pm_lim sX16_growsPages ((a0, p1, p2, 0, h))
set_option maxHeartbeats 4000000 in
set_option maxRecDepth 100000 in
theorem lpX16_growsPages {g : pm_Gm} {l : Launch} {G : pm_Gl} {Qr : Option Value → pm_H → Prop} (C : pm_C g cX16_growsPages RX16) (X : pm_X g l G mX16_growsPages 0 0 Qr) {r : pm_H} (q : Qr none r) : ∀ n : Nat, (∀ (x0 : Nat) (x1 : Int32) (x2 : Int32) (x3 : Int32) (h : pm_H), pm_iter sX16_growsPages n (x0, x1, x2, x3, h) = some r → pm_G g 2 [(0, .ref x0), (1, .int x1), (2, .int x2), (3, .int x3)] [] h 0 0) := by
  intro n
  induction n with
  | zero => exact fun _ _ _ _ _ hf => (by cases hf)
  | succ n ih =>
    refine fun x0 x1 x2 x3 h hf => ?_
    obtain ⟨y, hf, hi⟩ := pm_iter_s hf
    have hf : tX16_growsPages_2 x0 x1 x2 x3 h = some y := hf
    unfold tX16_growsPages_2 at hf
    refine pm_iload_n C dX16_growsPages_2 rfl rfl ?_
    refine pm_iload_n C dX16_growsPages_3 rfl rfl ?_
    refine pm_icmp_ge (tgt := 56) C dX16_growsPages_4 (by decide) (fun c1 => ?_) (fun c1 => ?_)
    · have hf := pm_it hf c1
      cases hf
      cases hi
      exact pm_vret C X dX16_growsPages_56 rfl (Nat.le_refl _) (Nat.le_refl _) q
    · have hf := pm_ie hf c1
      refine pm_aload_n C dX16_growsPages_7 rfl rfl ?_
      obtain ⟨k2, hf⟩ := pm_if hf
      obtain ⟨v3, e4, hf⟩ := pm_bd hf
      refine pm_getR C dX16_growsPages_8 flX16_115 rfl k2 e4 ?_
      refine pm_bipush (v := 8) C dX16_growsPages_11 (by decide) ?_
      refine pm_iload_n C dX16_growsPages_13 rfl rfl ?_
      refine pm_imul C dX16_growsPages_14 ?_
      refine pm_aload_n C dX16_growsPages_15 rfl rfl ?_
      obtain ⟨v5, e6, hf⟩ := pm_bd hf
      refine pm_getR C dX16_growsPages_16 flX16_109 rfl k2 e6 ?_
      refine pm_iload_n C dX16_growsPages_19 rfl rfl ?_
      obtain ⟨k7, hf⟩ := pm_if hf
      obtain ⟨u8, hf⟩ := pm_if hf
      refine pm_iald C dX16_growsPages_20 k7 u8 rfl ?_
      refine pm_iadd C dX16_growsPages_21 ?_
      refine pm_bipush (v := 8) C dX16_growsPages_22 (by decide) ?_
      refine pm_aload_n C dX16_growsPages_24 rfl rfl ?_
      refine pm_getI C dX16_growsPages_25 flX16_106 rfl k2 rfl ?_
      refine pm_isub C dX16_growsPages_28 ?_
      obtain ⟨y9, e10, hf⟩ := pm_lt hf
      refine pm_topI e10 ?_
      obtain ⟨k11, hf⟩ := pm_if hf
      obtain ⟨u12, hf⟩ := pm_if hf
      refine pm_iast C dX16_growsPages_29 k11 u12 ?_
      refine pm_aload_n C dX16_growsPages_30 rfl rfl ?_
      refine pm_getR C dX16_growsPages_31 flX16_109 rfl k2 e6 ?_
      refine pm_iload_n C dX16_growsPages_34 rfl rfl ?_
      refine pm_dup2_11 C dX16_growsPages_35 rfl rfl ?_
      obtain ⟨u13, hf⟩ := pm_if hf
      refine pm_iald C dX16_growsPages_36 k7 u13 rfl ?_
      refine pm_iconst (v := 1) C dX16_growsPages_37 (by decide) ?_
      refine pm_iadd C dX16_growsPages_38 ?_
      obtain ⟨y14, e15, hf⟩ := pm_lt hf
      refine pm_topI e15 ?_
      obtain ⟨u16, hf⟩ := pm_if hf
      refine pm_iast C dX16_growsPages_39 k7 u16 ?_
      refine pm_aload_n C dX16_growsPages_40 rfl rfl ?_
      refine pm_dup C dX16_growsPages_41 rfl ?_
      refine pm_getI C dX16_growsPages_42 flX16_106 rfl k2 rfl ?_
      refine pm_iconst (v := 1) C dX16_growsPages_45 (by decide) ?_
      refine pm_isub C dX16_growsPages_46 ?_
      obtain ⟨y17, e18, hf⟩ := pm_lt hf
      refine pm_topI e18 ?_
      refine pm_putI C dX16_growsPages_47 flX16_106 rfl rfl k2 rfl rfl ?_
      obtain ⟨y19, e20, hf⟩ := pm_lt hf
      refine pm_iinc (v := y19) (lv' := [(3, .int y19), (0, .ref x0), (1, .int x1), (2, .int x2)]) C dX16_growsPages_50 rfl ((congrArg (x3 + ·) (by decide : Int32.ofInt 1 = 1)).trans e20) (pm_nl X (by decide)) rfl ?_
      refine pm_goto (tgt := 2) C dX16_growsPages_53 (by decide) ?_
      cases hf
      exact pm_sub [1, 2, 3, 0] rfl (ih x0 x1 x2 y19 (pm_setI (pm_setI (pm_setI h v3 (((8 * x1) + (pm_I h v5 x1.toNatClampNeg)).toNatClampNeg) y9) v5 x1.toNatClampNeg y14) x0 53 y17) hi)
set_option maxHeartbeats 4000000 in
set_option maxRecDepth 100000 in
theorem ctX16_growsPages {l : Launch} {G : pm_Gl} {h : pm_H} {a0 : Nat} {p1 : Int32} {p2 : Int32} {r : pm_H} {Qr : Option Value → pm_H → Prop} (hf : fX16_growsPages h a0 p1 p2 = some r) (q : Qr none r) : pm_Ct l G mX16_growsPages [.ref a0, .int p1, .int p2] h 0 0 Qr := by
  refine pm_body pnX16 (Nat.le_of_ble_eq_true rfl) (fun g C X => ?_)
  have C : pm_C g cX16_growsPages RX16 := C
  show pm_G g 0 [(0, .ref a0), (1, .int p1), (2, .int p2)] [] h 0 0
  unfold fX16_growsPages at hf
  refine pm_iconst (v := 0) C dX16_growsPages_0 (by decide) ?_
  refine pm_istore_n (lv' := [(3, .int 0), (0, .ref a0), (1, .int p1), (2, .int p2)]) C dX16_growsPages_1 rfl (pm_nl X (by decide)) rfl ?_
  obtain ⟨n, hn⟩ := pm_lim_iter hf
  exact pm_sub [1, 2, 3, 0] rfl ((lpX16_growsPages C X q n) a0 p1 p2 0 h hn)
theorem dX16_has_0 : decode cX16_has 0 = .ok (.sipush 128, 3) := by decide +kernel
theorem dX16_has_3 : decode cX16_has 3 = .ok (.iload_n 2, 1) := by decide +kernel
theorem dX16_has_4 : decode cX16_has 4 = .ok (.imul, 1) := by decide +kernel
theorem dX16_has_5 : decode cX16_has 5 = .ok (.iload_n 3, 1) := by decide +kernel
theorem dX16_has_6 : decode cX16_has 6 = .ok (.iadd, 1) := by decide +kernel
theorem dX16_has_7 : decode cX16_has 7 = .ok (.istore 5, 2) := by decide +kernel
theorem dX16_has_9 : decode cX16_has 9 = .ok (.iload_n 1, 1) := by decide +kernel
theorem dX16_has_10 : decode cX16_has 10 = .ok (.ifCond .ne 15, 3) := by decide +kernel
theorem dX16_has_13 : decode cX16_has 13 = .ok (.aload_n 0, 1) := by decide +kernel
theorem dX16_has_14 : decode cX16_has 14 = .ok (.getfield 134, 3) := by decide +kernel
theorem dX16_has_17 : decode cX16_has 17 = .ok (.iload 5, 2) := by decide +kernel
theorem dX16_has_19 : decode cX16_has 19 = .ok (.iload 4, 2) := by decide +kernel
theorem dX16_has_21 : decode cX16_has 21 = .ok (.iastore, 1) := by decide +kernel
theorem dX16_has_22 : decode cX16_has 22 = .ok (.goto 46, 3) := by decide +kernel
theorem dX16_has_25 : decode cX16_has 25 = .ok (.iload_n 1, 1) := by decide +kernel
theorem dX16_has_26 : decode cX16_has 26 = .ok (.iconst 1, 1) := by decide +kernel
theorem dX16_has_27 : decode cX16_has 27 = .ok (.if_icmp .ne 15, 3) := by decide +kernel
theorem dX16_has_30 : decode cX16_has 30 = .ok (.aload_n 0, 1) := by decide +kernel
theorem dX16_has_31 : decode cX16_has 31 = .ok (.getfield 137, 3) := by decide +kernel
theorem dX16_has_34 : decode cX16_has 34 = .ok (.iload 5, 2) := by decide +kernel
theorem dX16_has_36 : decode cX16_has 36 = .ok (.iload 4, 2) := by decide +kernel
theorem dX16_has_38 : decode cX16_has 38 = .ok (.iastore, 1) := by decide +kernel
theorem dX16_has_39 : decode cX16_has 39 = .ok (.goto 29, 3) := by decide +kernel
theorem dX16_has_42 : decode cX16_has 42 = .ok (.iload_n 1, 1) := by decide +kernel
theorem dX16_has_43 : decode cX16_has 43 = .ok (.iconst 2, 1) := by decide +kernel
theorem dX16_has_44 : decode cX16_has 44 = .ok (.if_icmp .ne 15, 3) := by decide +kernel
theorem dX16_has_47 : decode cX16_has 47 = .ok (.aload_n 0, 1) := by decide +kernel
theorem dX16_has_48 : decode cX16_has 48 = .ok (.getfield 140, 3) := by decide +kernel
theorem dX16_has_51 : decode cX16_has 51 = .ok (.iload 5, 2) := by decide +kernel
theorem dX16_has_53 : decode cX16_has 53 = .ok (.iload 4, 2) := by decide +kernel
theorem dX16_has_55 : decode cX16_has 55 = .ok (.iastore, 1) := by decide +kernel
theorem dX16_has_56 : decode cX16_has 56 = .ok (.goto 12, 3) := by decide +kernel
theorem dX16_has_59 : decode cX16_has 59 = .ok (.aload_n 0, 1) := by decide +kernel
theorem dX16_has_60 : decode cX16_has 60 = .ok (.getfield 143, 3) := by decide +kernel
theorem dX16_has_63 : decode cX16_has 63 = .ok (.iload 5, 2) := by decide +kernel
theorem dX16_has_65 : decode cX16_has 65 = .ok (.iload 4, 2) := by decide +kernel
theorem dX16_has_67 : decode cX16_has 67 = .ok (.iastore, 1) := by decide +kernel
theorem dX16_has_68 : decode cX16_has 68 = .ok (.return_, 1) := by decide +kernel
def fX16_has (h : pm_H) (a0 : Nat) (p1 : Int32) (p2 : Int32) (p3 : Int32) (p4 : Int32) : Option pm_H := pm_let ((128 * p2) + p3) fun y1 => if p1 = 0 then (if pm_kd h a0 = 16 then (pm_R h a0 64).bind fun v22 => if pm_kd h v22 = 34 then if pm_in y1 (pm_ln h v22) then some (pm_setI h v22 y1.toNatClampNeg p4) else none else none else none) else (if p1 = 1 then (if pm_kd h a0 = 16 then (pm_R h a0 65).bind fun v17 => if pm_kd h v17 = 34 then if pm_in y1 (pm_ln h v17) then some (pm_setI h v17 y1.toNatClampNeg p4) else none else none else none) else (if p1 = 2 then (if pm_kd h a0 = 16 then (pm_R h a0 66).bind fun v12 => if pm_kd h v12 = 34 then if pm_in y1 (pm_ln h v12) then some (pm_setI h v12 y1.toNatClampNeg p4) else none else none else none) else (if pm_kd h a0 = 16 then (pm_R h a0 67).bind fun v7 => if pm_kd h v7 = 34 then if pm_in y1 (pm_ln h v7) then some (pm_setI h v7 y1.toNatClampNeg p4) else none else none else none)))
set_option maxHeartbeats 4000000 in
set_option maxRecDepth 100000 in
theorem ctX16_has {l : Launch} {G : pm_Gl} {h : pm_H} {a0 : Nat} {p1 : Int32} {p2 : Int32} {p3 : Int32} {p4 : Int32} {r : pm_H} {Qr : Option Value → pm_H → Prop} (hf : fX16_has h a0 p1 p2 p3 p4 = some r) (q : Qr none r) : pm_Ct l G mX16_has [.ref a0, .int p1, .int p2, .int p3, .int p4] h 0 0 Qr := by
  refine pm_body pnX16 (Nat.le_of_ble_eq_true rfl) (fun g C X => ?_)
  have C : pm_C g cX16_has RX16 := C
  show pm_G g 0 [(0, .ref a0), (1, .int p1), (2, .int p2), (3, .int p3), (4, .int p4)] [] h 0 0
  unfold fX16_has at hf
  refine pm_sipush (v := 128) C dX16_has_0 (by decide) ?_
  refine pm_iload_n C dX16_has_3 rfl rfl ?_
  refine pm_imul C dX16_has_4 ?_
  refine pm_iload_n C dX16_has_5 rfl rfl ?_
  refine pm_iadd C dX16_has_6 ?_
  obtain ⟨y1, e2, hf⟩ := pm_lt hf
  refine pm_topI e2 ?_
  refine pm_istore (lv' := [(5, .int y1), (0, .ref a0), (1, .int p1), (2, .int p2), (3, .int p3), (4, .int p4)]) C dX16_has_7 (pm_nl X (by decide)) rfl ?_
  refine pm_iload_n C dX16_has_9 rfl rfl ?_
  refine pm_if_ne (tgt := 25) C dX16_has_10 (by decide) (fun c3 => ?_) (fun c3 => ?_)
  · have hf := pm_ie hf c3
    refine pm_iload_n C dX16_has_25 rfl rfl ?_
    refine pm_iconst (v := 1) C dX16_has_26 (by decide) ?_
    refine pm_icmp_ne (tgt := 42) C dX16_has_27 (by decide) (fun c4 => ?_) (fun c4 => ?_)
    · have hf := pm_ie hf c4
      refine pm_iload_n C dX16_has_42 rfl rfl ?_
      refine pm_iconst (v := 2) C dX16_has_43 (by decide) ?_
      refine pm_icmp_ne (tgt := 59) C dX16_has_44 (by decide) (fun c5 => ?_) (fun c5 => ?_)
      · have hf := pm_ie hf c5
        refine pm_aload_n C dX16_has_59 rfl rfl ?_
        obtain ⟨k6, hf⟩ := pm_if hf
        obtain ⟨v7, e8, hf⟩ := pm_bd hf
        refine pm_getR C dX16_has_60 flX16_143 rfl k6 e8 ?_
        refine pm_iload C dX16_has_63 rfl ?_
        refine pm_iload C dX16_has_65 rfl ?_
        obtain ⟨k9, hf⟩ := pm_if hf
        obtain ⟨u10, hf⟩ := pm_if hf
        refine pm_iast C dX16_has_67 k9 u10 ?_
        cases hf
        exact pm_vret C X dX16_has_68 rfl (Nat.le_refl _) (Nat.le_refl _) q
      · have hf := pm_it hf c5
        refine pm_aload_n C dX16_has_47 rfl rfl ?_
        obtain ⟨k11, hf⟩ := pm_if hf
        obtain ⟨v12, e13, hf⟩ := pm_bd hf
        refine pm_getR C dX16_has_48 flX16_140 rfl k11 e13 ?_
        refine pm_iload C dX16_has_51 rfl ?_
        refine pm_iload C dX16_has_53 rfl ?_
        obtain ⟨k14, hf⟩ := pm_if hf
        obtain ⟨u15, hf⟩ := pm_if hf
        refine pm_iast C dX16_has_55 k14 u15 ?_
        refine pm_goto (tgt := 68) C dX16_has_56 (by decide) ?_
        cases hf
        exact pm_vret C X dX16_has_68 rfl (Nat.le_refl _) (Nat.le_refl _) q
    · have hf := pm_it hf c4
      refine pm_aload_n C dX16_has_30 rfl rfl ?_
      obtain ⟨k16, hf⟩ := pm_if hf
      obtain ⟨v17, e18, hf⟩ := pm_bd hf
      refine pm_getR C dX16_has_31 flX16_137 rfl k16 e18 ?_
      refine pm_iload C dX16_has_34 rfl ?_
      refine pm_iload C dX16_has_36 rfl ?_
      obtain ⟨k19, hf⟩ := pm_if hf
      obtain ⟨u20, hf⟩ := pm_if hf
      refine pm_iast C dX16_has_38 k19 u20 ?_
      refine pm_goto (tgt := 68) C dX16_has_39 (by decide) ?_
      cases hf
      exact pm_vret C X dX16_has_68 rfl (Nat.le_refl _) (Nat.le_refl _) q
  · have hf := pm_it hf c3
    refine pm_aload_n C dX16_has_13 rfl rfl ?_
    obtain ⟨k21, hf⟩ := pm_if hf
    obtain ⟨v22, e23, hf⟩ := pm_bd hf
    refine pm_getR C dX16_has_14 flX16_134 rfl k21 e23 ?_
    refine pm_iload C dX16_has_17 rfl ?_
    refine pm_iload C dX16_has_19 rfl ?_
    obtain ⟨k24, hf⟩ := pm_if hf
    obtain ⟨u25, hf⟩ := pm_if hf
    refine pm_iast C dX16_has_21 k24 u25 ?_
    refine pm_goto (tgt := 68) C dX16_has_22 (by decide) ?_
    cases hf
    exact pm_vret C X dX16_has_68 rfl (Nat.le_refl _) (Nat.le_refl _) q
theorem dX16_hasNumber_0 : decode cX16_hasNumber 0 = .ok (.iload_n 0, 1) := by decide +kernel
theorem dX16_hasNumber_1 : decode cX16_hasNumber 1 = .ok (.bipush 12, 2) := by decide +kernel
theorem dX16_hasNumber_3 : decode cX16_hasNumber 3 = .ok (.if_icmp .eq 34, 3) := by decide +kernel
theorem dX16_hasNumber_6 : decode cX16_hasNumber 6 = .ok (.iload_n 0, 1) := by decide +kernel
theorem dX16_hasNumber_7 : decode cX16_hasNumber 7 = .ok (.bipush 13, 2) := by decide +kernel
theorem dX16_hasNumber_9 : decode cX16_hasNumber 9 = .ok (.if_icmp .eq 28, 3) := by decide +kernel
theorem dX16_hasNumber_12 : decode cX16_hasNumber 12 = .ok (.iload_n 0, 1) := by decide +kernel
theorem dX16_hasNumber_13 : decode cX16_hasNumber 13 = .ok (.bipush 16, 2) := by decide +kernel
theorem dX16_hasNumber_15 : decode cX16_hasNumber 15 = .ok (.if_icmp .eq 22, 3) := by decide +kernel
theorem dX16_hasNumber_18 : decode cX16_hasNumber 18 = .ok (.iload_n 0, 1) := by decide +kernel
theorem dX16_hasNumber_19 : decode cX16_hasNumber 19 = .ok (.bipush 32, 2) := by decide +kernel
theorem dX16_hasNumber_21 : decode cX16_hasNumber 21 = .ok (.if_icmp .lt 9, 3) := by decide +kernel
theorem dX16_hasNumber_24 : decode cX16_hasNumber 24 = .ok (.iload_n 0, 1) := by decide +kernel
theorem dX16_hasNumber_25 : decode cX16_hasNumber 25 = .ok (.bipush 38, 2) := by decide +kernel
theorem dX16_hasNumber_27 : decode cX16_hasNumber 27 = .ok (.if_icmp .le 10, 3) := by decide +kernel
theorem dX16_hasNumber_30 : decode cX16_hasNumber 30 = .ok (.iload_n 0, 1) := by decide +kernel
theorem dX16_hasNumber_31 : decode cX16_hasNumber 31 = .ok (.sipush 210, 3) := by decide +kernel
theorem dX16_hasNumber_34 : decode cX16_hasNumber 34 = .ok (.if_icmp .ne 7, 3) := by decide +kernel
theorem dX16_hasNumber_37 : decode cX16_hasNumber 37 = .ok (.iconst 1, 1) := by decide +kernel
theorem dX16_hasNumber_38 : decode cX16_hasNumber 38 = .ok (.goto 4, 3) := by decide +kernel
theorem dX16_hasNumber_41 : decode cX16_hasNumber 41 = .ok (.iconst 0, 1) := by decide +kernel
theorem dX16_hasNumber_42 : decode cX16_hasNumber 42 = .ok (.ireturn, 1) := by decide +kernel
def fX16_hasNumber (p1 : Int32) : Int32 := if p1 = 12 then (1) else (if p1 = 13 then (1) else (if p1 = 16 then (1) else (if p1 < 32 then (if p1 = 210 then (1) else (0)) else (if p1 ≤ 38 then (1) else (if p1 = 210 then (1) else (0))))))
set_option maxHeartbeats 4000000 in
set_option maxRecDepth 100000 in
theorem ctX16_hasNumber {l : Launch} {G : pm_Gl} {h : pm_H} {p1 : Int32} {r : Int32} {Qr : Option Value → pm_H → Prop} (hf : fX16_hasNumber p1 = r) (q : Qr (some (.int r)) h) : pm_Ct l G mX16_hasNumber [.int p1] h 0 0 Qr := by
  refine pm_body pnX16 (Nat.le_of_ble_eq_true rfl) (fun g C X => ?_)
  have C : pm_C g cX16_hasNumber RX16 := C
  show pm_G g 0 [(0, .int p1)] [] h 0 0
  unfold fX16_hasNumber at hf
  refine pm_iload_n C dX16_hasNumber_0 rfl rfl ?_
  refine pm_bipush (v := 12) C dX16_hasNumber_1 (by decide) ?_
  refine pm_icmp_eq (tgt := 37) C dX16_hasNumber_3 (by decide) (fun c1 => ?_) (fun c1 => ?_)
  · have hf := pm_it hf c1
    refine pm_iconst (v := 1) C dX16_hasNumber_37 (by decide) ?_
    refine pm_goto (tgt := 42) C dX16_hasNumber_38 (by decide) ?_
    subst hf
    exact pm_zret C X dX16_hasNumber_42 rfl (by decide) (Nat.le_refl _) (Nat.le_refl _) q
  · have hf := pm_ie hf c1
    refine pm_iload_n C dX16_hasNumber_6 rfl rfl ?_
    refine pm_bipush (v := 13) C dX16_hasNumber_7 (by decide) ?_
    refine pm_icmp_eq (tgt := 37) C dX16_hasNumber_9 (by decide) (fun c2 => ?_) (fun c2 => ?_)
    · have hf := pm_it hf c2
      refine pm_iconst (v := 1) C dX16_hasNumber_37 (by decide) ?_
      refine pm_goto (tgt := 42) C dX16_hasNumber_38 (by decide) ?_
      subst hf
      exact pm_zret C X dX16_hasNumber_42 rfl (by decide) (Nat.le_refl _) (Nat.le_refl _) q
    · have hf := pm_ie hf c2
      refine pm_iload_n C dX16_hasNumber_12 rfl rfl ?_
      refine pm_bipush (v := 16) C dX16_hasNumber_13 (by decide) ?_
      refine pm_icmp_eq (tgt := 37) C dX16_hasNumber_15 (by decide) (fun c3 => ?_) (fun c3 => ?_)
      · have hf := pm_it hf c3
        refine pm_iconst (v := 1) C dX16_hasNumber_37 (by decide) ?_
        refine pm_goto (tgt := 42) C dX16_hasNumber_38 (by decide) ?_
        subst hf
        exact pm_zret C X dX16_hasNumber_42 rfl (by decide) (Nat.le_refl _) (Nat.le_refl _) q
      · have hf := pm_ie hf c3
        refine pm_iload_n C dX16_hasNumber_18 rfl rfl ?_
        refine pm_bipush (v := 32) C dX16_hasNumber_19 (by decide) ?_
        refine pm_icmp_lt (tgt := 30) C dX16_hasNumber_21 (by decide) (fun c4 => ?_) (fun c4 => ?_)
        · have hf := pm_it hf c4
          refine pm_iload_n C dX16_hasNumber_30 rfl rfl ?_
          refine pm_sipush (v := 210) C dX16_hasNumber_31 (by decide) ?_
          refine pm_icmp_ne (tgt := 41) C dX16_hasNumber_34 (by decide) (fun c5 => ?_) (fun c5 => ?_)
          · have hf := pm_ie hf c5
            refine pm_iconst (v := 0) C dX16_hasNumber_41 (by decide) ?_
            subst hf
            exact pm_zret C X dX16_hasNumber_42 rfl (by decide) (Nat.le_refl _) (Nat.le_refl _) q
          · have hf := pm_it hf c5
            refine pm_iconst (v := 1) C dX16_hasNumber_37 (by decide) ?_
            refine pm_goto (tgt := 42) C dX16_hasNumber_38 (by decide) ?_
            subst hf
            exact pm_zret C X dX16_hasNumber_42 rfl (by decide) (Nat.le_refl _) (Nat.le_refl _) q
        · have hf := pm_ie hf c4
          refine pm_iload_n C dX16_hasNumber_24 rfl rfl ?_
          refine pm_bipush (v := 38) C dX16_hasNumber_25 (by decide) ?_
          refine pm_icmp_le (tgt := 37) C dX16_hasNumber_27 (by decide) (fun c6 => ?_) (fun c6 => ?_)
          · have hf := pm_it hf c6
            refine pm_iconst (v := 1) C dX16_hasNumber_37 (by decide) ?_
            refine pm_goto (tgt := 42) C dX16_hasNumber_38 (by decide) ?_
            subst hf
            exact pm_zret C X dX16_hasNumber_42 rfl (by decide) (Nat.le_refl _) (Nat.le_refl _) q
          · have hf := pm_ie hf c6
            refine pm_iload_n C dX16_hasNumber_30 rfl rfl ?_
            refine pm_sipush (v := 210) C dX16_hasNumber_31 (by decide) ?_
            refine pm_icmp_ne (tgt := 41) C dX16_hasNumber_34 (by decide) (fun c7 => ?_) (fun c7 => ?_)
            · have hf := pm_ie hf c7
              refine pm_iconst (v := 0) C dX16_hasNumber_41 (by decide) ?_
              subst hf
              exact pm_zret C X dX16_hasNumber_42 rfl (by decide) (Nat.le_refl _) (Nat.le_refl _) q
            · have hf := pm_it hf c7
              refine pm_iconst (v := 1) C dX16_hasNumber_37 (by decide) ?_
              refine pm_goto (tgt := 42) C dX16_hasNumber_38 (by decide) ?_
              subst hf
              exact pm_zret C X dX16_hasNumber_42 rfl (by decide) (Nat.le_refl _) (Nat.le_refl _) q
theorem dX16_hasRoom_0 : decode cX16_hasRoom 0 = .ok (.lconst 0, 1) := by decide +kernel
theorem dX16_hasRoom_1 : decode cX16_hasRoom 1 = .ok (.lstore_n 3, 1) := by decide +kernel
theorem dX16_hasRoom_2 : decode cX16_hasRoom 2 = .ok (.iconst 0, 1) := by decide +kernel
theorem dX16_hasRoom_3 : decode cX16_hasRoom 3 = .ok (.istore 5, 2) := by decide +kernel
theorem dX16_hasRoom_5 : decode cX16_hasRoom 5 = .ok (.iload 5, 2) := by decide +kernel
theorem dX16_hasRoom_7 : decode cX16_hasRoom 7 = .ok (.aload_n 1, 1) := by decide +kernel
theorem dX16_hasRoom_8 : decode cX16_hasRoom 8 = .ok (.getfield 432, 3) := by decide +kernel
theorem dX16_hasRoom_11 : decode cX16_hasRoom 11 = .ok (.if_icmp .ge 19, 3) := by decide +kernel
theorem dX16_hasRoom_14 : decode cX16_hasRoom 14 = .ok (.lload_n 3, 1) := by decide +kernel
theorem dX16_hasRoom_15 : decode cX16_hasRoom 15 = .ok (.aload_n 1, 1) := by decide +kernel
theorem dX16_hasRoom_16 : decode cX16_hasRoom 16 = .ok (.getfield 438, 3) := by decide +kernel
theorem dX16_hasRoom_19 : decode cX16_hasRoom 19 = .ok (.iload 5, 2) := by decide +kernel
theorem dX16_hasRoom_21 : decode cX16_hasRoom 21 = .ok (.laload, 1) := by decide +kernel
theorem dX16_hasRoom_22 : decode cX16_hasRoom 22 = .ok (.ladd, 1) := by decide +kernel
theorem dX16_hasRoom_23 : decode cX16_hasRoom 23 = .ok (.lstore_n 3, 1) := by decide +kernel
theorem dX16_hasRoom_24 : decode cX16_hasRoom 24 = .ok (.iinc 5 1, 3) := by decide +kernel
theorem dX16_hasRoom_27 : decode cX16_hasRoom 27 = .ok (.goto (-22), 3) := by decide +kernel
theorem dX16_hasRoom_30 : decode cX16_hasRoom 30 = .ok (.lconst 0, 1) := by decide +kernel
theorem dX16_hasRoom_31 : decode cX16_hasRoom 31 = .ok (.lstore 5, 2) := by decide +kernel
theorem dX16_hasRoom_33 : decode cX16_hasRoom 33 = .ok (.iconst 0, 1) := by decide +kernel
theorem dX16_hasRoom_34 : decode cX16_hasRoom 34 = .ok (.istore 7, 2) := by decide +kernel
theorem dX16_hasRoom_36 : decode cX16_hasRoom 36 = .ok (.iload 7, 2) := by decide +kernel
theorem dX16_hasRoom_38 : decode cX16_hasRoom 38 = .ok (.aload_n 1, 1) := by decide +kernel
theorem dX16_hasRoom_39 : decode cX16_hasRoom 39 = .ok (.getfield 444, 3) := by decide +kernel
theorem dX16_hasRoom_42 : decode cX16_hasRoom 42 = .ok (.if_icmp .ge 21, 3) := by decide +kernel
theorem dX16_hasRoom_45 : decode cX16_hasRoom 45 = .ok (.lload 5, 2) := by decide +kernel
theorem dX16_hasRoom_47 : decode cX16_hasRoom 47 = .ok (.aload_n 1, 1) := by decide +kernel
theorem dX16_hasRoom_48 : decode cX16_hasRoom 48 = .ok (.getfield 447, 3) := by decide +kernel
theorem dX16_hasRoom_51 : decode cX16_hasRoom 51 = .ok (.iload 7, 2) := by decide +kernel
theorem dX16_hasRoom_53 : decode cX16_hasRoom 53 = .ok (.laload, 1) := by decide +kernel
theorem dX16_hasRoom_54 : decode cX16_hasRoom 54 = .ok (.ladd, 1) := by decide +kernel
theorem dX16_hasRoom_55 : decode cX16_hasRoom 55 = .ok (.lstore 5, 2) := by decide +kernel
theorem dX16_hasRoom_57 : decode cX16_hasRoom 57 = .ok (.iinc 7 1, 3) := by decide +kernel
theorem dX16_hasRoom_60 : decode cX16_hasRoom 60 = .ok (.goto (-24), 3) := by decide +kernel
theorem dX16_hasRoom_63 : decode cX16_hasRoom 63 = .ok (.lconst 0, 1) := by decide +kernel
theorem dX16_hasRoom_64 : decode cX16_hasRoom 64 = .ok (.lstore 7, 2) := by decide +kernel
theorem dX16_hasRoom_66 : decode cX16_hasRoom 66 = .ok (.iconst 0, 1) := by decide +kernel
theorem dX16_hasRoom_67 : decode cX16_hasRoom 67 = .ok (.istore 9, 2) := by decide +kernel
theorem dX16_hasRoom_69 : decode cX16_hasRoom 69 = .ok (.iload 9, 2) := by decide +kernel
theorem dX16_hasRoom_71 : decode cX16_hasRoom 71 = .ok (.aload_n 1, 1) := by decide +kernel
theorem dX16_hasRoom_72 : decode cX16_hasRoom 72 = .ok (.getfield 481, 3) := by decide +kernel
theorem dX16_hasRoom_75 : decode cX16_hasRoom 75 = .ok (.if_icmp .ge 22, 3) := by decide +kernel
theorem dX16_hasRoom_78 : decode cX16_hasRoom 78 = .ok (.lload 7, 2) := by decide +kernel
theorem dX16_hasRoom_80 : decode cX16_hasRoom 80 = .ok (.aload_n 1, 1) := by decide +kernel
theorem dX16_hasRoom_81 : decode cX16_hasRoom 81 = .ok (.getfield 507, 3) := by decide +kernel
theorem dX16_hasRoom_84 : decode cX16_hasRoom 84 = .ok (.iload 9, 2) := by decide +kernel
theorem dX16_hasRoom_86 : decode cX16_hasRoom 86 = .ok (.iaload, 1) := by decide +kernel
theorem dX16_hasRoom_87 : decode cX16_hasRoom 87 = .ok (.i2l, 1) := by decide +kernel
theorem dX16_hasRoom_88 : decode cX16_hasRoom 88 = .ok (.ladd, 1) := by decide +kernel
theorem dX16_hasRoom_89 : decode cX16_hasRoom 89 = .ok (.lstore 7, 2) := by decide +kernel
theorem dX16_hasRoom_91 : decode cX16_hasRoom 91 = .ok (.iinc 9 1, 3) := by decide +kernel
theorem dX16_hasRoom_94 : decode cX16_hasRoom 94 = .ok (.goto (-25), 3) := by decide +kernel
theorem dX16_hasRoom_97 : decode cX16_hasRoom 97 = .ok (.aload_n 0, 1) := by decide +kernel
theorem dX16_hasRoom_98 : decode cX16_hasRoom 98 = .ok (.getfield 977, 3) := by decide +kernel
theorem dX16_hasRoom_101 : decode cX16_hasRoom 101 = .ok (.iload_n 2, 1) := by decide +kernel
theorem dX16_hasRoom_102 : decode cX16_hasRoom 102 = .ok (.iadd, 1) := by decide +kernel
theorem dX16_hasRoom_103 : decode cX16_hasRoom 103 = .ok (.aload_n 1, 1) := by decide +kernel
theorem dX16_hasRoom_104 : decode cX16_hasRoom 104 = .ok (.getfield 426, 3) := by decide +kernel
theorem dX16_hasRoom_107 : decode cX16_hasRoom 107 = .ok (.iadd, 1) := by decide +kernel
theorem dX16_hasRoom_108 : decode cX16_hasRoom 108 = .ok (.sipush 512, 3) := by decide +kernel
theorem dX16_hasRoom_111 : decode cX16_hasRoom 111 = .ok (.if_icmp .gt 50, 3) := by decide +kernel
theorem dX16_hasRoom_114 : decode cX16_hasRoom 114 = .ok (.aload_n 0, 1) := by decide +kernel
theorem dX16_hasRoom_115 : decode cX16_hasRoom 115 = .ok (.getfield 978, 3) := by decide +kernel
theorem dX16_hasRoom_118 : decode cX16_hasRoom 118 = .ok (.aload_n 1, 1) := by decide +kernel
theorem dX16_hasRoom_119 : decode cX16_hasRoom 119 = .ok (.getfield 432, 3) := by decide +kernel
theorem dX16_hasRoom_122 : decode cX16_hasRoom 122 = .ok (.iadd, 1) := by decide +kernel
theorem dX16_hasRoom_123 : decode cX16_hasRoom 123 = .ok (.bipush 32, 2) := by decide +kernel
theorem dX16_hasRoom_125 : decode cX16_hasRoom 125 = .ok (.if_icmp .gt 36, 3) := by decide +kernel
theorem dX16_hasRoom_128 : decode cX16_hasRoom 128 = .ok (.aload_n 0, 1) := by decide +kernel
theorem dX16_hasRoom_129 : decode cX16_hasRoom 129 = .ok (.getfield 979, 3) := by decide +kernel
theorem dX16_hasRoom_132 : decode cX16_hasRoom 132 = .ok (.aload_n 1, 1) := by decide +kernel
theorem dX16_hasRoom_133 : decode cX16_hasRoom 133 = .ok (.getfield 444, 3) := by decide +kernel
theorem dX16_hasRoom_136 : decode cX16_hasRoom 136 = .ok (.iadd, 1) := by decide +kernel
theorem dX16_hasRoom_137 : decode cX16_hasRoom 137 = .ok (.bipush 16, 2) := by decide +kernel
theorem dX16_hasRoom_139 : decode cX16_hasRoom 139 = .ok (.if_icmp .gt 22, 3) := by decide +kernel
theorem dX16_hasRoom_142 : decode cX16_hasRoom 142 = .ok (.aload_n 0, 1) := by decide +kernel
theorem dX16_hasRoom_143 : decode cX16_hasRoom 143 = .ok (.getfield 980, 3) := by decide +kernel
theorem dX16_hasRoom_146 : decode cX16_hasRoom 146 = .ok (.aload_n 1, 1) := by decide +kernel
theorem dX16_hasRoom_147 : decode cX16_hasRoom 147 = .ok (.getfield 453, 3) := by decide +kernel
theorem dX16_hasRoom_150 : decode cX16_hasRoom 150 = .ok (.iadd, 1) := by decide +kernel
theorem dX16_hasRoom_151 : decode cX16_hasRoom 151 = .ok (.sipush 256, 3) := by decide +kernel
theorem dX16_hasRoom_154 : decode cX16_hasRoom 154 = .ok (.if_icmp .gt 7, 3) := by decide +kernel
theorem dX16_hasRoom_157 : decode cX16_hasRoom 157 = .ok (.iconst 1, 1) := by decide +kernel
theorem dX16_hasRoom_158 : decode cX16_hasRoom 158 = .ok (.goto 4, 3) := by decide +kernel
theorem dX16_hasRoom_161 : decode cX16_hasRoom 161 = .ok (.iconst 0, 1) := by decide +kernel
theorem dX16_hasRoom_162 : decode cX16_hasRoom 162 = .ok (.istore 9, 2) := by decide +kernel
theorem dX16_hasRoom_164 : decode cX16_hasRoom 164 = .ok (.iload 9, 2) := by decide +kernel
theorem dX16_hasRoom_166 : decode cX16_hasRoom 166 = .ok (.ifCond .eq 52, 3) := by decide +kernel
theorem dX16_hasRoom_169 : decode cX16_hasRoom 169 = .ok (.aload_n 0, 1) := by decide +kernel
theorem dX16_hasRoom_170 : decode cX16_hasRoom 170 = .ok (.getfield 949, 3) := by decide +kernel
theorem dX16_hasRoom_173 : decode cX16_hasRoom 173 = .ok (.bipush 16, 2) := by decide +kernel
theorem dX16_hasRoom_175 : decode cX16_hasRoom 175 = .ok (.if_icmp .ge 43, 3) := by decide +kernel
theorem dX16_hasRoom_178 : decode cX16_hasRoom 178 = .ok (.lload_n 3, 1) := by decide +kernel
theorem dX16_hasRoom_179 : decode cX16_hasRoom 179 = .ok (.aload_n 0, 1) := by decide +kernel
theorem dX16_hasRoom_180 : decode cX16_hasRoom 180 = .ok (.getfield 89, 3) := by decide +kernel
theorem dX16_hasRoom_183 : decode cX16_hasRoom 183 = .ok (.i2l, 1) := by decide +kernel
theorem dX16_hasRoom_184 : decode cX16_hasRoom 184 = .ok (.lcmp, 1) := by decide +kernel
theorem dX16_hasRoom_185 : decode cX16_hasRoom 185 = .ok (.ifCond .gt 33, 3) := by decide +kernel
theorem dX16_hasRoom_188 : decode cX16_hasRoom 188 = .ok (.lload 5, 2) := by decide +kernel
theorem dX16_hasRoom_190 : decode cX16_hasRoom 190 = .ok (.aload_n 0, 1) := by decide +kernel
theorem dX16_hasRoom_191 : decode cX16_hasRoom 191 = .ok (.getfield 106, 3) := by decide +kernel
theorem dX16_hasRoom_194 : decode cX16_hasRoom 194 = .ok (.i2l, 1) := by decide +kernel
theorem dX16_hasRoom_195 : decode cX16_hasRoom 195 = .ok (.lcmp, 1) := by decide +kernel
theorem dX16_hasRoom_196 : decode cX16_hasRoom 196 = .ok (.ifCond .gt 22, 3) := by decide +kernel
theorem dX16_hasRoom_199 : decode cX16_hasRoom 199 = .ok (.aload_n 0, 1) := by decide +kernel
theorem dX16_hasRoom_200 : decode cX16_hasRoom 200 = .ok (.getfield 981, 3) := by decide +kernel
theorem dX16_hasRoom_203 : decode cX16_hasRoom 203 = .ok (.i2l, 1) := by decide +kernel
theorem dX16_hasRoom_204 : decode cX16_hasRoom 204 = .ok (.lload 7, 2) := by decide +kernel
theorem dX16_hasRoom_206 : decode cX16_hasRoom 206 = .ok (.ladd, 1) := by decide +kernel
theorem dX16_hasRoom_207 : decode cX16_hasRoom 207 = .ok (.ldc2_w 984, 3) := by decide +kernel
theorem dX16_hasRoom_210 : decode cX16_hasRoom 210 = .ok (.lcmp, 1) := by decide +kernel
theorem dX16_hasRoom_211 : decode cX16_hasRoom 211 = .ok (.ifCond .gt 7, 3) := by decide +kernel
theorem dX16_hasRoom_214 : decode cX16_hasRoom 214 = .ok (.iconst 1, 1) := by decide +kernel
theorem dX16_hasRoom_215 : decode cX16_hasRoom 215 = .ok (.goto 4, 3) := by decide +kernel
theorem dX16_hasRoom_218 : decode cX16_hasRoom 218 = .ok (.iconst 0, 1) := by decide +kernel
theorem dX16_hasRoom_219 : decode cX16_hasRoom 219 = .ok (.ireturn, 1) := by decide +kernel
def tX16_hasRoom_5 (h : pm_H) (x0 : Nat) (x1 : Nat) (x2 : Int32) (x3 : Int64) (x5 : Int32) : Option (((Nat × Nat × Int32 × Int64 × Int32) ⊕ (Nat × Nat × Int32 × Int64 × Int64 × Int32) ⊕ (Nat × Nat × Int32 × Int64 × Int64 × Int64 × Int32) ⊕ (Nat × Int64 × Int64 × Int64)) ⊕ Int32) := if pm_kd h x1 = 14 then if (pm_I h x1 17) ≤ x5 then (some (.inl (.inr (.inl ((x0, x1, x2, x3, 0, 0)))))) else ((pm_R h x1 19).bind fun v3 => if pm_kd h v3 = 35 then if pm_in x5 (pm_ln h v3) then pm_let (x3 + (pm_L h v3 x5.toNatClampNeg)) fun y7 => pm_let (x5 + 1) fun y9 => some (.inl (.inl ((x0, x1, x2, y7, y9)))) else none else none) else none
def tX16_hasRoom_36 (h : pm_H) (x0 : Nat) (x1 : Nat) (x2 : Int32) (x3 : Int64) (x5 : Int64) (x7 : Int32) : Option (((Nat × Nat × Int32 × Int64 × Int32) ⊕ (Nat × Nat × Int32 × Int64 × Int64 × Int32) ⊕ (Nat × Nat × Int32 × Int64 × Int64 × Int64 × Int32) ⊕ (Nat × Int64 × Int64 × Int64)) ⊕ Int32) := if pm_kd h x1 = 14 then if (pm_I h x1 21) ≤ x7 then (some (.inl (.inr (.inr (.inl ((x0, x1, x2, x3, x5, 0, 0))))))) else ((pm_R h x1 22).bind fun v13 => if pm_kd h v13 = 35 then if pm_in x7 (pm_ln h v13) then pm_let (x5 + (pm_L h v13 x7.toNatClampNeg)) fun y17 => pm_let (x7 + 1) fun y19 => some (.inl (.inr (.inl ((x0, x1, x2, x3, y17, y19))))) else none else none) else none
def tX16_hasRoom_69 (h : pm_H) (x0 : Nat) (x1 : Nat) (x2 : Int32) (x3 : Int64) (x5 : Int64) (x7 : Int64) (x9 : Int32) : Option (((Nat × Nat × Int32 × Int64 × Int32) ⊕ (Nat × Nat × Int32 × Int64 × Int64 × Int32) ⊕ (Nat × Nat × Int32 × Int64 × Int64 × Int64 × Int32) ⊕ (Nat × Int64 × Int64 × Int64)) ⊕ Int32) := if pm_kd h x1 = 14 then if (pm_I h x1 34) ≤ x9 then (if pm_kd h x0 = 16 then if 512 < (((pm_I h x0 36) + x2) + (pm_I h x1 15)) then (some (.inl (.inr (.inr (.inr ((x0, x3, x5, x7))))))) else (if 32 < ((pm_I h x0 46) + (pm_I h x1 17)) then (some (.inl (.inr (.inr (.inr ((x0, x3, x5, x7))))))) else (if 16 < ((pm_I h x0 52) + (pm_I h x1 21)) then (some (.inl (.inr (.inr (.inr ((x0, x3, x5, x7))))))) else (if 256 < ((pm_I h x0 58) + (pm_I h x1 24)) then (some (.inl (.inr (.inr (.inr ((x0, x3, x5, x7))))))) else (if (1 : Int32) = (0 : Int32) then (some (.inr (0))) else (if 16 ≤ (pm_I h x0 62) then (some (.inr (0))) else (if ((pm_I h x0 47).toInt64) < x3 then (some (.inr (0))) else (if ((pm_I h x0 53).toInt64) < x5 then (some (.inr (0))) else (if 2048 < (((pm_I h x0 71).toInt64) + x7) then (some (.inr (0))) else (some (.inr (1))))))))))) else none) else ((pm_R h x1 40).bind fun v33 => if pm_kd h v33 = 34 then if pm_in x9 (pm_ln h v33) then pm_let (x7 + ((pm_I h v33 x9.toNatClampNeg).toInt64)) fun y37 => pm_let (x9 + 1) fun y39 => some (.inl (.inr (.inr (.inl ((x0, x1, x2, x3, x5, y37, y39)))))) else none else none) else none
def tX16_hasRoom_161 (h : pm_H) (x0 : Nat) (x3 : Int64) (x5 : Int64) (x7 : Int64) : Option (((Nat × Nat × Int32 × Int64 × Int32) ⊕ (Nat × Nat × Int32 × Int64 × Int64 × Int32) ⊕ (Nat × Nat × Int32 × Int64 × Int64 × Int64 × Int32) ⊕ (Nat × Int64 × Int64 × Int64)) ⊕ Int32) := if (0 : Int32) = (0 : Int32) then (some (.inr (0))) else (if pm_kd h x0 = 16 then if 16 ≤ (pm_I h x0 62) then (some (.inr (0))) else (if ((pm_I h x0 47).toInt64) < x3 then (some (.inr (0))) else (if ((pm_I h x0 53).toInt64) < x5 then (some (.inr (0))) else (if 2048 < (((pm_I h x0 71).toInt64) + x7) then (some (.inr (0))) else (some (.inr (1)))))) else none)
def sX16_hasRoom (h : pm_H) : ((Nat × Nat × Int32 × Int64 × Int32) ⊕ (Nat × Nat × Int32 × Int64 × Int64 × Int32) ⊕ (Nat × Nat × Int32 × Int64 × Int64 × Int64 × Int32) ⊕ (Nat × Int64 × Int64 × Int64)) → Option (((Nat × Nat × Int32 × Int64 × Int32) ⊕ (Nat × Nat × Int32 × Int64 × Int64 × Int32) ⊕ (Nat × Nat × Int32 × Int64 × Int64 × Int64 × Int32) ⊕ (Nat × Int64 × Int64 × Int64)) ⊕ Int32) := fun z => match z with
  | .inl (x0, x1, x2, x3, x5) => tX16_hasRoom_5 h x0 x1 x2 x3 x5
  | .inr (.inl (x0, x1, x2, x3, x5, x7)) => tX16_hasRoom_36 h x0 x1 x2 x3 x5 x7
  | .inr (.inr (.inl (x0, x1, x2, x3, x5, x7, x9))) => tX16_hasRoom_69 h x0 x1 x2 x3 x5 x7 x9
  | .inr (.inr (.inr (x0, x3, x5, x7))) => tX16_hasRoom_161 h x0 x3 x5 x7
noncomputable def fX16_hasRoom (h : pm_H) (a0 : Nat) (p1 : Nat) (p2 : Int32) : Option Int32 := pm_lim (sX16_hasRoom h) (.inl ((a0, p1, p2, 0, 0)))
set_option maxHeartbeats 4000000 in
set_option maxRecDepth 100000 in
theorem lpX16_hasRoom {g : pm_Gm} {l : Launch} {G : pm_Gl} {Qr : Option Value → pm_H → Prop} (C : pm_C g cX16_hasRoom RX16) (X : pm_X g l G mX16_hasRoom 0 0 Qr) {h : pm_H} {r : Int32} (q : Qr (some (.int r)) h) : ∀ n : Nat, (∀ (x0 : Nat) (x1 : Nat) (x2 : Int32) (x3 : Int64) (x5 : Int32), pm_iter (sX16_hasRoom h) n (.inl (x0, x1, x2, x3, x5)) = some r → pm_G g 5 [(0, .ref x0), (1, .ref x1), (2, .int x2), (3, .long x3), (5, .int x5)] [] h 0 0) ∧ (∀ (x0 : Nat) (x1 : Nat) (x2 : Int32) (x3 : Int64) (x5 : Int64) (x7 : Int32), pm_iter (sX16_hasRoom h) n (.inr (.inl (x0, x1, x2, x3, x5, x7))) = some r → pm_G g 36 [(0, .ref x0), (1, .ref x1), (2, .int x2), (3, .long x3), (5, .long x5), (7, .int x7)] [] h 0 0) ∧ (∀ (x0 : Nat) (x1 : Nat) (x2 : Int32) (x3 : Int64) (x5 : Int64) (x7 : Int64) (x9 : Int32), pm_iter (sX16_hasRoom h) n (.inr (.inr (.inl (x0, x1, x2, x3, x5, x7, x9)))) = some r → pm_G g 69 [(0, .ref x0), (1, .ref x1), (2, .int x2), (3, .long x3), (5, .long x5), (7, .long x7), (9, .int x9)] [] h 0 0) ∧ (∀ (x0 : Nat) (x3 : Int64) (x5 : Int64) (x7 : Int64), pm_iter (sX16_hasRoom h) n (.inr (.inr (.inr (x0, x3, x5, x7)))) = some r → pm_G g 161 [(0, .ref x0), (3, .long x3), (5, .long x5), (7, .long x7)] [] h 0 0) := by
  intro n
  induction n with
  | zero => exact ⟨fun _ _ _ _ _ hf => (by cases hf), fun _ _ _ _ _ _ hf => (by cases hf), fun _ _ _ _ _ _ _ hf => (by cases hf), fun _ _ _ _ hf => (by cases hf)⟩
  | succ n ih =>
    refine ⟨fun x0 x1 x2 x3 x5 hf => ?_, ?_⟩
    · obtain ⟨y, hf, hi⟩ := pm_iter_s hf
      have hf : tX16_hasRoom_5 h x0 x1 x2 x3 x5 = some y := hf
      unfold tX16_hasRoom_5 at hf
      refine pm_iload C dX16_hasRoom_5 rfl ?_
      refine pm_aload_n C dX16_hasRoom_7 rfl rfl ?_
      obtain ⟨k1, hf⟩ := pm_if hf
      refine pm_getI C dX16_hasRoom_8 flX16_432 rfl k1 rfl ?_
      refine pm_icmp_ge (tgt := 30) C dX16_hasRoom_11 (by decide) (fun c2 => ?_) (fun c2 => ?_)
      · have hf := pm_it hf c2
        refine pm_lconst (v := 0) C dX16_hasRoom_30 (by decide) ?_
        refine pm_lstore (lv' := [(5, .long 0), (0, .ref x0), (1, .ref x1), (2, .int x2), (3, .long x3)]) C dX16_hasRoom_31 (pm_nl X (by decide)) rfl ?_
        refine pm_iconst (v := 0) C dX16_hasRoom_33 (by decide) ?_
        refine pm_istore (lv' := [(7, .int 0), (5, .long 0), (0, .ref x0), (1, .ref x1), (2, .int x2), (3, .long x3)]) C dX16_hasRoom_34 (pm_nl X (by decide)) rfl ?_
        cases hf
        exact pm_sub [2, 3, 4, 5, 1, 0] rfl (ih.2.1 x0 x1 x2 x3 0 0 hi)
      · have hf := pm_ie hf c2
        refine pm_lload_n C dX16_hasRoom_14 rfl rfl ?_
        refine pm_aload_n C dX16_hasRoom_15 rfl rfl ?_
        obtain ⟨v3, e4, hf⟩ := pm_bd hf
        refine pm_getR C dX16_hasRoom_16 flX16_438 rfl k1 e4 ?_
        refine pm_iload C dX16_hasRoom_19 rfl ?_
        obtain ⟨k5, hf⟩ := pm_if hf
        obtain ⟨u6, hf⟩ := pm_if hf
        refine pm_lald C dX16_hasRoom_21 k5 u6 rfl ?_
        refine pm_ladd C dX16_hasRoom_22 ?_
        obtain ⟨y7, e8, hf⟩ := pm_lt hf
        refine pm_topL e8 ?_
        refine pm_lstore_n (lv' := [(3, .long y7), (0, .ref x0), (1, .ref x1), (2, .int x2), (5, .int x5)]) C dX16_hasRoom_23 rfl (pm_nl X (by decide)) rfl ?_
        obtain ⟨y9, e10, hf⟩ := pm_lt hf
        refine pm_iinc (v := y9) (lv' := [(5, .int y9), (3, .long y7), (0, .ref x0), (1, .ref x1), (2, .int x2)]) C dX16_hasRoom_24 rfl ((congrArg (x5 + ·) (by decide : Int32.ofInt 1 = 1)).trans e10) (pm_nl X (by decide)) rfl ?_
        refine pm_goto (tgt := 5) C dX16_hasRoom_27 (by decide) ?_
        cases hf
        exact pm_sub [2, 3, 4, 1, 0] rfl (ih.1 x0 x1 x2 y7 y9 hi)
    refine ⟨fun x0 x1 x2 x3 x5 x7 hf => ?_, ?_⟩
    · obtain ⟨y, hf, hi⟩ := pm_iter_s hf
      have hf : tX16_hasRoom_36 h x0 x1 x2 x3 x5 x7 = some y := hf
      unfold tX16_hasRoom_36 at hf
      refine pm_iload C dX16_hasRoom_36 rfl ?_
      refine pm_aload_n C dX16_hasRoom_38 rfl rfl ?_
      obtain ⟨k11, hf⟩ := pm_if hf
      refine pm_getI C dX16_hasRoom_39 flX16_444 rfl k11 rfl ?_
      refine pm_icmp_ge (tgt := 63) C dX16_hasRoom_42 (by decide) (fun c12 => ?_) (fun c12 => ?_)
      · have hf := pm_it hf c12
        refine pm_lconst (v := 0) C dX16_hasRoom_63 (by decide) ?_
        refine pm_lstore (lv' := [(7, .long 0), (0, .ref x0), (1, .ref x1), (2, .int x2), (3, .long x3), (5, .long x5)]) C dX16_hasRoom_64 (pm_nl X (by decide)) rfl ?_
        refine pm_iconst (v := 0) C dX16_hasRoom_66 (by decide) ?_
        refine pm_istore (lv' := [(9, .int 0), (7, .long 0), (0, .ref x0), (1, .ref x1), (2, .int x2), (3, .long x3), (5, .long x5)]) C dX16_hasRoom_67 (pm_nl X (by decide)) rfl ?_
        cases hf
        exact pm_sub [2, 3, 4, 5, 6, 1, 0] rfl (ih.2.2.1 x0 x1 x2 x3 x5 0 0 hi)
      · have hf := pm_ie hf c12
        refine pm_lload C dX16_hasRoom_45 rfl ?_
        refine pm_aload_n C dX16_hasRoom_47 rfl rfl ?_
        obtain ⟨v13, e14, hf⟩ := pm_bd hf
        refine pm_getR C dX16_hasRoom_48 flX16_447 rfl k11 e14 ?_
        refine pm_iload C dX16_hasRoom_51 rfl ?_
        obtain ⟨k15, hf⟩ := pm_if hf
        obtain ⟨u16, hf⟩ := pm_if hf
        refine pm_lald C dX16_hasRoom_53 k15 u16 rfl ?_
        refine pm_ladd C dX16_hasRoom_54 ?_
        obtain ⟨y17, e18, hf⟩ := pm_lt hf
        refine pm_topL e18 ?_
        refine pm_lstore (lv' := [(5, .long y17), (0, .ref x0), (1, .ref x1), (2, .int x2), (3, .long x3), (7, .int x7)]) C dX16_hasRoom_55 (pm_nl X (by decide)) rfl ?_
        obtain ⟨y19, e20, hf⟩ := pm_lt hf
        refine pm_iinc (v := y19) (lv' := [(7, .int y19), (5, .long y17), (0, .ref x0), (1, .ref x1), (2, .int x2), (3, .long x3)]) C dX16_hasRoom_57 rfl ((congrArg (x7 + ·) (by decide : Int32.ofInt 1 = 1)).trans e20) (pm_nl X (by decide)) rfl ?_
        refine pm_goto (tgt := 36) C dX16_hasRoom_60 (by decide) ?_
        cases hf
        exact pm_sub [2, 3, 4, 5, 1, 0] rfl (ih.2.1 x0 x1 x2 x3 y17 y19 hi)
    refine ⟨fun x0 x1 x2 x3 x5 x7 x9 hf => ?_, ?_⟩
    · obtain ⟨y, hf, hi⟩ := pm_iter_s hf
      have hf : tX16_hasRoom_69 h x0 x1 x2 x3 x5 x7 x9 = some y := hf
      unfold tX16_hasRoom_69 at hf
      refine pm_iload C dX16_hasRoom_69 rfl ?_
      refine pm_aload_n C dX16_hasRoom_71 rfl rfl ?_
      obtain ⟨k21, hf⟩ := pm_if hf
      refine pm_getI C dX16_hasRoom_72 flX16_481 rfl k21 rfl ?_
      refine pm_icmp_ge (tgt := 97) C dX16_hasRoom_75 (by decide) (fun c22 => ?_) (fun c22 => ?_)
      · have hf := pm_it hf c22
        refine pm_aload_n C dX16_hasRoom_97 rfl rfl ?_
        obtain ⟨k23, hf⟩ := pm_if hf
        refine pm_getI C dX16_hasRoom_98 flX16_977 rfl k23 rfl ?_
        refine pm_iload_n C dX16_hasRoom_101 rfl rfl ?_
        refine pm_iadd C dX16_hasRoom_102 ?_
        refine pm_aload_n C dX16_hasRoom_103 rfl rfl ?_
        refine pm_getI C dX16_hasRoom_104 flX16_426 rfl k21 rfl ?_
        refine pm_iadd C dX16_hasRoom_107 ?_
        refine pm_sipush (v := 512) C dX16_hasRoom_108 (by decide) ?_
        refine pm_icmp_gt (tgt := 161) C dX16_hasRoom_111 (by decide) (fun c24 => ?_) (fun c24 => ?_)
        · have hf := pm_it hf c24
          cases hf
          exact pm_sub [0, 3, 4, 5] rfl (ih.2.2.2 x0 x3 x5 x7 hi)
        · have hf := pm_ie hf c24
          refine pm_aload_n C dX16_hasRoom_114 rfl rfl ?_
          refine pm_getI C dX16_hasRoom_115 flX16_978 rfl k23 rfl ?_
          refine pm_aload_n C dX16_hasRoom_118 rfl rfl ?_
          refine pm_getI C dX16_hasRoom_119 flX16_432 rfl k21 rfl ?_
          refine pm_iadd C dX16_hasRoom_122 ?_
          refine pm_bipush (v := 32) C dX16_hasRoom_123 (by decide) ?_
          refine pm_icmp_gt (tgt := 161) C dX16_hasRoom_125 (by decide) (fun c25 => ?_) (fun c25 => ?_)
          · have hf := pm_it hf c25
            cases hf
            exact pm_sub [0, 3, 4, 5] rfl (ih.2.2.2 x0 x3 x5 x7 hi)
          · have hf := pm_ie hf c25
            refine pm_aload_n C dX16_hasRoom_128 rfl rfl ?_
            refine pm_getI C dX16_hasRoom_129 flX16_979 rfl k23 rfl ?_
            refine pm_aload_n C dX16_hasRoom_132 rfl rfl ?_
            refine pm_getI C dX16_hasRoom_133 flX16_444 rfl k21 rfl ?_
            refine pm_iadd C dX16_hasRoom_136 ?_
            refine pm_bipush (v := 16) C dX16_hasRoom_137 (by decide) ?_
            refine pm_icmp_gt (tgt := 161) C dX16_hasRoom_139 (by decide) (fun c26 => ?_) (fun c26 => ?_)
            · have hf := pm_it hf c26
              cases hf
              exact pm_sub [0, 3, 4, 5] rfl (ih.2.2.2 x0 x3 x5 x7 hi)
            · have hf := pm_ie hf c26
              refine pm_aload_n C dX16_hasRoom_142 rfl rfl ?_
              refine pm_getI C dX16_hasRoom_143 flX16_980 rfl k23 rfl ?_
              refine pm_aload_n C dX16_hasRoom_146 rfl rfl ?_
              refine pm_getI C dX16_hasRoom_147 flX16_453 rfl k21 rfl ?_
              refine pm_iadd C dX16_hasRoom_150 ?_
              refine pm_sipush (v := 256) C dX16_hasRoom_151 (by decide) ?_
              refine pm_icmp_gt (tgt := 161) C dX16_hasRoom_154 (by decide) (fun c27 => ?_) (fun c27 => ?_)
              · have hf := pm_it hf c27
                cases hf
                exact pm_sub [0, 3, 4, 5] rfl (ih.2.2.2 x0 x3 x5 x7 hi)
              · have hf := pm_ie hf c27
                refine pm_iconst (v := 1) C dX16_hasRoom_157 (by decide) ?_
                refine pm_goto (tgt := 162) C dX16_hasRoom_158 (by decide) ?_
                refine pm_istore (lv' := [(9, .int 1), (0, .ref x0), (1, .ref x1), (2, .int x2), (3, .long x3), (5, .long x5), (7, .long x7)]) C dX16_hasRoom_162 (pm_nl X (by decide)) rfl ?_
                refine pm_iload C dX16_hasRoom_164 rfl ?_
                refine pm_if_eq (tgt := 218) C dX16_hasRoom_166 (by decide) (fun c28 => ?_) (fun c28 => ?_)
                · have hf := pm_it hf c28
                  refine pm_iconst (v := 0) C dX16_hasRoom_218 (by decide) ?_
                  cases hf
                  cases hi
                  exact pm_zret C X dX16_hasRoom_219 rfl (by decide) (Nat.le_refl _) (Nat.le_refl _) q
                · have hf := pm_ie hf c28
                  refine pm_aload_n C dX16_hasRoom_169 rfl rfl ?_
                  refine pm_getI C dX16_hasRoom_170 flX16_949 rfl k23 rfl ?_
                  refine pm_bipush (v := 16) C dX16_hasRoom_173 (by decide) ?_
                  refine pm_icmp_ge (tgt := 218) C dX16_hasRoom_175 (by decide) (fun c29 => ?_) (fun c29 => ?_)
                  · have hf := pm_it hf c29
                    refine pm_iconst (v := 0) C dX16_hasRoom_218 (by decide) ?_
                    cases hf
                    cases hi
                    exact pm_zret C X dX16_hasRoom_219 rfl (by decide) (Nat.le_refl _) (Nat.le_refl _) q
                  · have hf := pm_ie hf c29
                    refine pm_lload_n C dX16_hasRoom_178 rfl rfl ?_
                    refine pm_aload_n C dX16_hasRoom_179 rfl rfl ?_
                    refine pm_getI C dX16_hasRoom_180 flX16_89 rfl k23 rfl ?_
                    refine pm_i2l C dX16_hasRoom_183 ?_
                    refine pm_lcmp C dX16_hasRoom_184 ?_
                    refine pm_if_gt (tgt := 218) C dX16_hasRoom_185 (by decide) (fun c30 => ?_) (fun c30 => ?_)
                    · have hf := pm_it hf ((pm_lg_gt _ _).mp c30)
                      refine pm_iconst (v := 0) C dX16_hasRoom_218 (by decide) ?_
                      cases hf
                      cases hi
                      exact pm_zret C X dX16_hasRoom_219 rfl (by decide) (Nat.le_refl _) (Nat.le_refl _) q
                    · have hf := pm_ie hf ((fun z => c30 ((pm_lg_gt _ _).mpr z)))
                      refine pm_lload C dX16_hasRoom_188 rfl ?_
                      refine pm_aload_n C dX16_hasRoom_190 rfl rfl ?_
                      refine pm_getI C dX16_hasRoom_191 flX16_106 rfl k23 rfl ?_
                      refine pm_i2l C dX16_hasRoom_194 ?_
                      refine pm_lcmp C dX16_hasRoom_195 ?_
                      refine pm_if_gt (tgt := 218) C dX16_hasRoom_196 (by decide) (fun c31 => ?_) (fun c31 => ?_)
                      · have hf := pm_it hf ((pm_lg_gt _ _).mp c31)
                        refine pm_iconst (v := 0) C dX16_hasRoom_218 (by decide) ?_
                        cases hf
                        cases hi
                        exact pm_zret C X dX16_hasRoom_219 rfl (by decide) (Nat.le_refl _) (Nat.le_refl _) q
                      · have hf := pm_ie hf ((fun z => c31 ((pm_lg_gt _ _).mpr z)))
                        refine pm_aload_n C dX16_hasRoom_199 rfl rfl ?_
                        refine pm_getI C dX16_hasRoom_200 flX16_981 rfl k23 rfl ?_
                        refine pm_i2l C dX16_hasRoom_203 ?_
                        refine pm_lload C dX16_hasRoom_204 rfl ?_
                        refine pm_ladd C dX16_hasRoom_206 ?_
                        refine pm_ldc2 C dX16_hasRoom_207 cnX16_984 ?_
                        refine pm_lcmp C dX16_hasRoom_210 ?_
                        refine pm_if_gt (tgt := 218) C dX16_hasRoom_211 (by decide) (fun c32 => ?_) (fun c32 => ?_)
                        · have hf := pm_it hf ((pm_lg_gt _ _).mp c32)
                          refine pm_iconst (v := 0) C dX16_hasRoom_218 (by decide) ?_
                          cases hf
                          cases hi
                          exact pm_zret C X dX16_hasRoom_219 rfl (by decide) (Nat.le_refl _) (Nat.le_refl _) q
                        · have hf := pm_ie hf ((fun z => c32 ((pm_lg_gt _ _).mpr z)))
                          refine pm_iconst (v := 1) C dX16_hasRoom_214 (by decide) ?_
                          refine pm_goto (tgt := 219) C dX16_hasRoom_215 (by decide) ?_
                          cases hf
                          cases hi
                          exact pm_zret C X dX16_hasRoom_219 rfl (by decide) (Nat.le_refl _) (Nat.le_refl _) q
      · have hf := pm_ie hf c22
        refine pm_lload C dX16_hasRoom_78 rfl ?_
        refine pm_aload_n C dX16_hasRoom_80 rfl rfl ?_
        obtain ⟨v33, e34, hf⟩ := pm_bd hf
        refine pm_getR C dX16_hasRoom_81 flX16_507 rfl k21 e34 ?_
        refine pm_iload C dX16_hasRoom_84 rfl ?_
        obtain ⟨k35, hf⟩ := pm_if hf
        obtain ⟨u36, hf⟩ := pm_if hf
        refine pm_iald C dX16_hasRoom_86 k35 u36 rfl ?_
        refine pm_i2l C dX16_hasRoom_87 ?_
        refine pm_ladd C dX16_hasRoom_88 ?_
        obtain ⟨y37, e38, hf⟩ := pm_lt hf
        refine pm_topL e38 ?_
        refine pm_lstore (lv' := [(7, .long y37), (0, .ref x0), (1, .ref x1), (2, .int x2), (3, .long x3), (5, .long x5), (9, .int x9)]) C dX16_hasRoom_89 (pm_nl X (by decide)) rfl ?_
        obtain ⟨y39, e40, hf⟩ := pm_lt hf
        refine pm_iinc (v := y39) (lv' := [(9, .int y39), (7, .long y37), (0, .ref x0), (1, .ref x1), (2, .int x2), (3, .long x3), (5, .long x5)]) C dX16_hasRoom_91 rfl ((congrArg (x9 + ·) (by decide : Int32.ofInt 1 = 1)).trans e40) (pm_nl X (by decide)) rfl ?_
        refine pm_goto (tgt := 69) C dX16_hasRoom_94 (by decide) ?_
        cases hf
        exact pm_sub [2, 3, 4, 5, 6, 1, 0] rfl (ih.2.2.1 x0 x1 x2 x3 x5 y37 y39 hi)
    refine fun x0 x3 x5 x7 hf => ?_
    obtain ⟨y, hf, hi⟩ := pm_iter_s hf
    have hf : tX16_hasRoom_161 h x0 x3 x5 x7 = some y := hf
    unfold tX16_hasRoom_161 at hf
    refine pm_iconst (v := 0) C dX16_hasRoom_161 (by decide) ?_
    refine pm_istore (lv' := [(9, .int 0), (0, .ref x0), (3, .long x3), (5, .long x5), (7, .long x7)]) C dX16_hasRoom_162 (pm_nl X (by decide)) rfl ?_
    refine pm_iload C dX16_hasRoom_164 rfl ?_
    refine pm_if_eq (tgt := 218) C dX16_hasRoom_166 (by decide) (fun c41 => ?_) (fun c41 => ?_)
    · have hf := pm_it hf c41
      refine pm_iconst (v := 0) C dX16_hasRoom_218 (by decide) ?_
      cases hf
      cases hi
      exact pm_zret C X dX16_hasRoom_219 rfl (by decide) (Nat.le_refl _) (Nat.le_refl _) q
    · have hf := pm_ie hf c41
      refine pm_aload_n C dX16_hasRoom_169 rfl rfl ?_
      obtain ⟨k42, hf⟩ := pm_if hf
      refine pm_getI C dX16_hasRoom_170 flX16_949 rfl k42 rfl ?_
      refine pm_bipush (v := 16) C dX16_hasRoom_173 (by decide) ?_
      refine pm_icmp_ge (tgt := 218) C dX16_hasRoom_175 (by decide) (fun c43 => ?_) (fun c43 => ?_)
      · have hf := pm_it hf c43
        refine pm_iconst (v := 0) C dX16_hasRoom_218 (by decide) ?_
        cases hf
        cases hi
        exact pm_zret C X dX16_hasRoom_219 rfl (by decide) (Nat.le_refl _) (Nat.le_refl _) q
      · have hf := pm_ie hf c43
        refine pm_lload_n C dX16_hasRoom_178 rfl rfl ?_
        refine pm_aload_n C dX16_hasRoom_179 rfl rfl ?_
        refine pm_getI C dX16_hasRoom_180 flX16_89 rfl k42 rfl ?_
        refine pm_i2l C dX16_hasRoom_183 ?_
        refine pm_lcmp C dX16_hasRoom_184 ?_
        refine pm_if_gt (tgt := 218) C dX16_hasRoom_185 (by decide) (fun c44 => ?_) (fun c44 => ?_)
        · have hf := pm_it hf ((pm_lg_gt _ _).mp c44)
          refine pm_iconst (v := 0) C dX16_hasRoom_218 (by decide) ?_
          cases hf
          cases hi
          exact pm_zret C X dX16_hasRoom_219 rfl (by decide) (Nat.le_refl _) (Nat.le_refl _) q
        · have hf := pm_ie hf ((fun z => c44 ((pm_lg_gt _ _).mpr z)))
          refine pm_lload C dX16_hasRoom_188 rfl ?_
          refine pm_aload_n C dX16_hasRoom_190 rfl rfl ?_
          refine pm_getI C dX16_hasRoom_191 flX16_106 rfl k42 rfl ?_
          refine pm_i2l C dX16_hasRoom_194 ?_
          refine pm_lcmp C dX16_hasRoom_195 ?_
          refine pm_if_gt (tgt := 218) C dX16_hasRoom_196 (by decide) (fun c45 => ?_) (fun c45 => ?_)
          · have hf := pm_it hf ((pm_lg_gt _ _).mp c45)
            refine pm_iconst (v := 0) C dX16_hasRoom_218 (by decide) ?_
            cases hf
            cases hi
            exact pm_zret C X dX16_hasRoom_219 rfl (by decide) (Nat.le_refl _) (Nat.le_refl _) q
          · have hf := pm_ie hf ((fun z => c45 ((pm_lg_gt _ _).mpr z)))
            refine pm_aload_n C dX16_hasRoom_199 rfl rfl ?_
            refine pm_getI C dX16_hasRoom_200 flX16_981 rfl k42 rfl ?_
            refine pm_i2l C dX16_hasRoom_203 ?_
            refine pm_lload C dX16_hasRoom_204 rfl ?_
            refine pm_ladd C dX16_hasRoom_206 ?_
            refine pm_ldc2 C dX16_hasRoom_207 cnX16_984 ?_
            refine pm_lcmp C dX16_hasRoom_210 ?_
            refine pm_if_gt (tgt := 218) C dX16_hasRoom_211 (by decide) (fun c46 => ?_) (fun c46 => ?_)
            · have hf := pm_it hf ((pm_lg_gt _ _).mp c46)
              refine pm_iconst (v := 0) C dX16_hasRoom_218 (by decide) ?_
              cases hf
              cases hi
              exact pm_zret C X dX16_hasRoom_219 rfl (by decide) (Nat.le_refl _) (Nat.le_refl _) q
            · have hf := pm_ie hf ((fun z => c46 ((pm_lg_gt _ _).mpr z)))
              refine pm_iconst (v := 1) C dX16_hasRoom_214 (by decide) ?_
              refine pm_goto (tgt := 219) C dX16_hasRoom_215 (by decide) ?_
              cases hf
              cases hi
              exact pm_zret C X dX16_hasRoom_219 rfl (by decide) (Nat.le_refl _) (Nat.le_refl _) q
set_option maxHeartbeats 4000000 in
set_option maxRecDepth 100000 in
theorem ctX16_hasRoom {l : Launch} {G : pm_Gl} {h : pm_H} {a0 : Nat} {p1 : Nat} {p2 : Int32} {r : Int32} {Qr : Option Value → pm_H → Prop} (hf : fX16_hasRoom h a0 p1 p2 = some r) (q : Qr (some (.int r)) h) : pm_Ct l G mX16_hasRoom [.ref a0, .ref p1, .int p2] h 0 0 Qr := by
  refine pm_body pnX16 (Nat.le_of_ble_eq_true rfl) (fun g C X => ?_)
  have C : pm_C g cX16_hasRoom RX16 := C
  show pm_G g 0 [(0, .ref a0), (1, .ref p1), (2, .int p2)] [] h 0 0
  unfold fX16_hasRoom at hf
  refine pm_lconst (v := 0) C dX16_hasRoom_0 (by decide) ?_
  refine pm_lstore_n (lv' := [(3, .long 0), (0, .ref a0), (1, .ref p1), (2, .int p2)]) C dX16_hasRoom_1 rfl (pm_nl X (by decide)) rfl ?_
  refine pm_iconst (v := 0) C dX16_hasRoom_2 (by decide) ?_
  refine pm_istore (lv' := [(5, .int 0), (3, .long 0), (0, .ref a0), (1, .ref p1), (2, .int p2)]) C dX16_hasRoom_3 (pm_nl X (by decide)) rfl ?_
  obtain ⟨n, hn⟩ := pm_lim_iter hf
  exact pm_sub [2, 3, 4, 1, 0] rfl ((lpX16_hasRoom C X q n).1 a0 p1 p2 0 0 hn)
