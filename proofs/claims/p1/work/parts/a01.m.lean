theorem dX15_init_0 : decode cX15_init 0 = .ok (.aload_n 0, 1) := by decide +kernel
theorem dX15_init_1 : decode cX15_init 1 = .ok (.invokespecial 1, 3) := by decide +kernel
theorem dX15_init_4 : decode cX15_init 4 = .ok (.return_, 1) := by decide +kernel
def fX15_init (a0 : Nat) : Unit := ()
set_option maxHeartbeats 4000000 in
set_option maxRecDepth 100000 in
theorem ctX15_init {l : Launch} {G : pm_Gl} {h : pm_H} {a0 : Nat} {r : Unit} {Qr : Option Value → pm_H → Prop} (hf : fX15_init a0 = r) (q : Qr none h) : pm_Ct l G mX15_init [.ref a0] h 0 0 Qr := by
  refine pm_bodyN pnX15 (Nat.le_of_ble_eq_true rfl) (fun g C X nm => ?_)
  have C : pm_C g cX15_init RX15 := C
  show pm_G g 0 [(0, .ref a0)] [] h 0 0
  unfold fX15_init at hf
  refine pm_aload_n C dX15_init_0 rfl rfl ?_
  refine pm_obj C X dX15_init_1 obX15_1 obI obC (by decide) (by decide) (Nat.le_of_ble_eq_true rfl) ?_
  subst hf
  exact pm_vret C X dX15_init_4 rfl (Nat.le_refl _) (Nat.le_refl _) q
theorem dX16_takesImports_0 : decode cX16_takesImports 0 = .ok (.iconst 4, 1) := by decide +kernel
theorem dX16_takesImports_1 : decode cX16_takesImports 1 = .ok (.newarray .int, 2) := by decide +kernel
theorem dX16_takesImports_3 : decode cX16_takesImports 3 = .ok (.dup, 1) := by decide +kernel
theorem dX16_takesImports_4 : decode cX16_takesImports 4 = .ok (.iconst 0, 1) := by decide +kernel
theorem dX16_takesImports_5 : decode cX16_takesImports 5 = .ok (.iconst 0, 1) := by decide +kernel
theorem dX16_takesImports_6 : decode cX16_takesImports 6 = .ok (.iastore, 1) := by decide +kernel
theorem dX16_takesImports_7 : decode cX16_takesImports 7 = .ok (.dup, 1) := by decide +kernel
theorem dX16_takesImports_8 : decode cX16_takesImports 8 = .ok (.iconst 1, 1) := by decide +kernel
theorem dX16_takesImports_9 : decode cX16_takesImports 9 = .ok (.iconst 0, 1) := by decide +kernel
theorem dX16_takesImports_10 : decode cX16_takesImports 10 = .ok (.iastore, 1) := by decide +kernel
theorem dX16_takesImports_11 : decode cX16_takesImports 11 = .ok (.dup, 1) := by decide +kernel
theorem dX16_takesImports_12 : decode cX16_takesImports 12 = .ok (.iconst 2, 1) := by decide +kernel
theorem dX16_takesImports_13 : decode cX16_takesImports 13 = .ok (.iconst 0, 1) := by decide +kernel
theorem dX16_takesImports_14 : decode cX16_takesImports 14 = .ok (.iastore, 1) := by decide +kernel
theorem dX16_takesImports_15 : decode cX16_takesImports 15 = .ok (.dup, 1) := by decide +kernel
theorem dX16_takesImports_16 : decode cX16_takesImports 16 = .ok (.iconst 3, 1) := by decide +kernel
theorem dX16_takesImports_17 : decode cX16_takesImports 17 = .ok (.iconst 0, 1) := by decide +kernel
theorem dX16_takesImports_18 : decode cX16_takesImports 18 = .ok (.iastore, 1) := by decide +kernel
theorem dX16_takesImports_19 : decode cX16_takesImports 19 = .ok (.astore_n 3, 1) := by decide +kernel
theorem dX16_takesImports_20 : decode cX16_takesImports 20 = .ok (.iconst 0, 1) := by decide +kernel
theorem dX16_takesImports_21 : decode cX16_takesImports 21 = .ok (.istore 4, 2) := by decide +kernel
theorem dX16_takesImports_23 : decode cX16_takesImports 23 = .ok (.iload 4, 2) := by decide +kernel
theorem dX16_takesImports_25 : decode cX16_takesImports 25 = .ok (.aload_n 0, 1) := by decide +kernel
theorem dX16_takesImports_26 : decode cX16_takesImports 26 = .ok (.getfield 221, 3) := by decide +kernel
theorem dX16_takesImports_29 : decode cX16_takesImports 29 = .ok (.getfield 402, 3) := by decide +kernel
theorem dX16_takesImports_32 : decode cX16_takesImports 32 = .ok (.if_icmp .ge 90, 3) := by decide +kernel
theorem dX16_takesImports_35 : decode cX16_takesImports 35 = .ok (.aload_n 0, 1) := by decide +kernel
theorem dX16_takesImports_36 : decode cX16_takesImports 36 = .ok (.getfield 221, 3) := by decide +kernel
theorem dX16_takesImports_39 : decode cX16_takesImports 39 = .ok (.getfield 411, 3) := by decide +kernel
theorem dX16_takesImports_42 : decode cX16_takesImports 42 = .ok (.iload 4, 2) := by decide +kernel
theorem dX16_takesImports_44 : decode cX16_takesImports 44 = .ok (.iaload, 1) := by decide +kernel
theorem dX16_takesImports_45 : decode cX16_takesImports 45 = .ok (.istore 5, 2) := by decide +kernel
theorem dX16_takesImports_47 : decode cX16_takesImports 47 = .ok (.aload_n 0, 1) := by decide +kernel
theorem dX16_takesImports_48 : decode cX16_takesImports 48 = .ok (.getfield 158, 3) := by decide +kernel
theorem dX16_takesImports_51 : decode cX16_takesImports 51 = .ok (.iload 4, 2) := by decide +kernel
theorem dX16_takesImports_53 : decode cX16_takesImports 53 = .ok (.iaload, 1) := by decide +kernel
theorem dX16_takesImports_54 : decode cX16_takesImports 54 = .ok (.iconst (-1), 1) := by decide +kernel
theorem dX16_takesImports_55 : decode cX16_takesImports 55 = .ok (.if_icmp .ne 31, 3) := by decide +kernel
theorem dX16_takesImports_58 : decode cX16_takesImports 58 = .ok (.aload_n 0, 1) := by decide +kernel
theorem dX16_takesImports_59 : decode cX16_takesImports 59 = .ok (.iload_n 2, 1) := by decide +kernel
theorem dX16_takesImports_60 : decode cX16_takesImports 60 = .ok (.aload_n 0, 1) := by decide +kernel
theorem dX16_takesImports_61 : decode cX16_takesImports 61 = .ok (.getfield 221, 3) := by decide +kernel
theorem dX16_takesImports_64 : decode cX16_takesImports 64 = .ok (.getfield 414, 3) := by decide +kernel
theorem dX16_takesImports_67 : decode cX16_takesImports 67 = .ok (.iload 4, 2) := by decide +kernel
theorem dX16_takesImports_69 : decode cX16_takesImports 69 = .ok (.laload, 1) := by decide +kernel
theorem dX16_takesImports_70 : decode cX16_takesImports 70 = .ok (.l2i, 1) := by decide +kernel
theorem dX16_takesImports_71 : decode cX16_takesImports 71 = .ok (.iconst (-1), 1) := by decide +kernel
theorem dX16_takesImports_72 : decode cX16_takesImports 72 = .ok (.iconst (-1), 1) := by decide +kernel
theorem dX16_takesImports_73 : decode cX16_takesImports 73 = .ok (.aload_n 0, 1) := by decide +kernel
theorem dX16_takesImports_74 : decode cX16_takesImports 74 = .ok (.getfield 161, 3) := by decide +kernel
theorem dX16_takesImports_77 : decode cX16_takesImports 77 = .ok (.iload 4, 2) := by decide +kernel
theorem dX16_takesImports_79 : decode cX16_takesImports 79 = .ok (.iaload, 1) := by decide +kernel
theorem dX16_takesImports_80 : decode cX16_takesImports 80 = .ok (.invokevirtual 1005, 3) := by decide +kernel
theorem dX16_takesImports_83 : decode cX16_takesImports 83 = .ok (.goto 10, 3) := by decide +kernel
theorem dX16_takesImports_86 : decode cX16_takesImports 86 = .ok (.aload_n 0, 1) := by decide +kernel
theorem dX16_takesImports_87 : decode cX16_takesImports 87 = .ok (.getfield 161, 3) := by decide +kernel
theorem dX16_takesImports_90 : decode cX16_takesImports 90 = .ok (.iload 4, 2) := by decide +kernel
theorem dX16_takesImports_92 : decode cX16_takesImports 92 = .ok (.iaload, 1) := by decide +kernel
theorem dX16_takesImports_93 : decode cX16_takesImports 93 = .ok (.istore 6, 2) := by decide +kernel
theorem dX16_takesImports_95 : decode cX16_takesImports 95 = .ok (.aload_n 0, 1) := by decide +kernel
theorem dX16_takesImports_96 : decode cX16_takesImports 96 = .ok (.iload 5, 2) := by decide +kernel
theorem dX16_takesImports_98 : decode cX16_takesImports 98 = .ok (.iload_n 1, 1) := by decide +kernel
theorem dX16_takesImports_99 : decode cX16_takesImports 99 = .ok (.aload_n 3, 1) := by decide +kernel
theorem dX16_takesImports_100 : decode cX16_takesImports 100 = .ok (.iload 5, 2) := by decide +kernel
theorem dX16_takesImports_102 : decode cX16_takesImports 102 = .ok (.iaload, 1) := by decide +kernel
theorem dX16_takesImports_103 : decode cX16_takesImports 103 = .ok (.iload 6, 2) := by decide +kernel
theorem dX16_takesImports_105 : decode cX16_takesImports 105 = .ok (.invokevirtual 1009, 3) := by decide +kernel
theorem dX16_takesImports_108 : decode cX16_takesImports 108 = .ok (.aload_n 3, 1) := by decide +kernel
theorem dX16_takesImports_109 : decode cX16_takesImports 109 = .ok (.iload 5, 2) := by decide +kernel
theorem dX16_takesImports_111 : decode cX16_takesImports 111 = .ok (.dup2, 1) := by decide +kernel
theorem dX16_takesImports_112 : decode cX16_takesImports 112 = .ok (.iaload, 1) := by decide +kernel
theorem dX16_takesImports_113 : decode cX16_takesImports 113 = .ok (.iconst 1, 1) := by decide +kernel
theorem dX16_takesImports_114 : decode cX16_takesImports 114 = .ok (.iadd, 1) := by decide +kernel
theorem dX16_takesImports_115 : decode cX16_takesImports 115 = .ok (.iastore, 1) := by decide +kernel
theorem dX16_takesImports_116 : decode cX16_takesImports 116 = .ok (.iinc 4 1, 3) := by decide +kernel
theorem dX16_takesImports_119 : decode cX16_takesImports 119 = .ok (.goto (-96), 3) := by decide +kernel
theorem dX16_takesImports_122 : decode cX16_takesImports 122 = .ok (.return_, 1) := by decide +kernel
def tX16_takesImports_0 (x0 : Nat) (x1 : Int32) (x2 : Int32) (h : pm_H) : Option (((Nat × Int32 × Int32 × pm_H) ⊕ (Nat × Int32 × Int32 × Nat × pm_H) ⊕ (Nat × Int32 × Int32 × Nat × Int32 × pm_H)) ⊕ pm_H) := some (.inl (.inr (.inl ((x0, x1, x2, pm_sz h, pm_new h 34 4)))))
def tX16_takesImports_3 (x0 : Nat) (x1 : Int32) (x2 : Int32) (s0 : Nat) (h : pm_H) : Option (((Nat × Int32 × Int32 × pm_H) ⊕ (Nat × Int32 × Int32 × Nat × pm_H) ⊕ (Nat × Int32 × Int32 × Nat × Int32 × pm_H)) ⊕ pm_H) := if pm_kd h s0 = 34 then if pm_in 0 (pm_ln h s0) then if pm_in 1 (pm_ln (pm_setI h s0 ((0 : Int32).toNatClampNeg) 0) s0) then if pm_in 2 (pm_ln (pm_setI (pm_setI h s0 ((0 : Int32).toNatClampNeg) 0) s0 ((1 : Int32).toNatClampNeg) 0) s0) then if pm_in 3 (pm_ln (pm_setI (pm_setI (pm_setI h s0 ((0 : Int32).toNatClampNeg) 0) s0 ((1 : Int32).toNatClampNeg) 0) s0 ((2 : Int32).toNatClampNeg) 0) s0) then some (.inl (.inr (.inr ((x0, x1, x2, s0, 0, pm_setI (pm_setI (pm_setI (pm_setI h s0 ((0 : Int32).toNatClampNeg) 0) s0 ((1 : Int32).toNatClampNeg) 0) s0 ((2 : Int32).toNatClampNeg) 0) s0 ((3 : Int32).toNatClampNeg) 0))))) else none else none else none else none else none
def tX16_takesImports_23 (x0 : Nat) (x1 : Int32) (x2 : Int32) (x3 : Nat) (x4 : Int32) (h : pm_H) : Option (((Nat × Int32 × Int32 × pm_H) ⊕ (Nat × Int32 × Int32 × Nat × pm_H) ⊕ (Nat × Int32 × Int32 × Nat × Int32 × pm_H)) ⊕ pm_H) := if pm_kd h x0 = 16 then (pm_R h x0 10).bind fun v7 => if pm_kd h v7 = 14 then if (pm_I h v7 8) ≤ x4 then (some (.inr (h))) else ((pm_R h v7 9).bind fun v11 => if pm_kd h v11 = 34 then if pm_in x4 (pm_ln h v11) then pm_let (pm_I h v11 x4.toNatClampNeg) fun y15 => (pm_R h x0 74).bind fun v17 => if pm_kd h v17 = 34 then if pm_in x4 (pm_ln h v17) then if (pm_I h v17 x4.toNatClampNeg) = (-1) then ((pm_R h v7 10).bind fun v40 => if pm_kd h v40 = 35 then if pm_in x4 (pm_ln h v40) then (pm_R h x0 75).bind fun v44 => if pm_kd h v44 = 34 then if pm_in x4 (pm_ln h v44) then (fX16_newFunction h x0 x2 ((pm_L h v40 x4.toNatClampNeg).toInt32) (-1) (-1) (pm_I h v44 x4.toNatClampNeg)).bind fun v48 => if pm_kd v48.2 x3 = 34 then if pm_in y15 (pm_ln v48.2 x3) then if pm_kd v48.2 x0 = 16 then (fX16_has v48.2 x0 y15 x1 (pm_I v48.2 x3 y15.toNatClampNeg) v48.1).bind fun v54 => if pm_kd v54 x3 = 34 then if pm_in y15 (pm_ln v54 x3) then pm_let ((pm_I v54 x3 y15.toNatClampNeg) + 1) fun y59 => if pm_in y15 (pm_ln v54 x3) then pm_let (x4 + 1) fun y62 => some (.inl (.inr (.inr ((x0, x1, x2, x3, y62, pm_setI v54 x3 y15.toNatClampNeg y59))))) else none else none else none else none else none else none else none else none else none else none) else ((pm_R h x0 75).bind fun v22 => if pm_kd h v22 = 34 then if pm_in x4 (pm_ln h v22) then pm_let (pm_I h v22 x4.toNatClampNeg) fun y26 => if pm_kd h x3 = 34 then if pm_in y15 (pm_ln h x3) then (fX16_has h x0 y15 x1 (pm_I h x3 y15.toNatClampNeg) y26).bind fun v30 => if pm_kd v30 x3 = 34 then if pm_in y15 (pm_ln v30 x3) then pm_let ((pm_I v30 x3 y15.toNatClampNeg) + 1) fun y35 => if pm_in y15 (pm_ln v30 x3) then pm_let (x4 + 1) fun y38 => some (.inl (.inr (.inr ((x0, x1, x2, x3, y38, pm_setI v30 x3 y15.toNatClampNeg y35))))) else none else none else none else none else none else none else none) else none else none else none else none) else none else none
def sX16_takesImports : ((Nat × Int32 × Int32 × pm_H) ⊕ (Nat × Int32 × Int32 × Nat × pm_H) ⊕ (Nat × Int32 × Int32 × Nat × Int32 × pm_H)) → Option (((Nat × Int32 × Int32 × pm_H) ⊕ (Nat × Int32 × Int32 × Nat × pm_H) ⊕ (Nat × Int32 × Int32 × Nat × Int32 × pm_H)) ⊕ pm_H) := fun z => match z with
  | .inl (x0, x1, x2, h) => tX16_takesImports_0 x0 x1 x2 h
  | .inr (.inl (x0, x1, x2, s0, h)) => tX16_takesImports_3 x0 x1 x2 s0 h
  | .inr (.inr (x0, x1, x2, x3, x4, h)) => tX16_takesImports_23 x0 x1 x2 x3 x4 h
noncomputable def fX16_takesImports (h : pm_H) (a0 : Nat) (p1 : Int32) (p2 : Int32) : Option pm_H := pm_lim sX16_takesImports (.inl ((a0, p1, p2, h)))
set_option maxHeartbeats 4000000 in
set_option maxRecDepth 100000 in
theorem mlX16_takesImports {r : pm_H} : ∀ n : Nat, (∀ (x0 : Nat) (x1 : Int32) (x2 : Int32) (h : pm_H), pm_iter sX16_takesImports n (.inl (x0, x1, x2, h)) = some r → pm_Le h r) ∧ (∀ (x0 : Nat) (x1 : Int32) (x2 : Int32) (s0 : Nat) (h : pm_H), pm_iter sX16_takesImports n (.inr (.inl (x0, x1, x2, s0, h))) = some r → pm_Le h r) ∧ (∀ (x0 : Nat) (x1 : Int32) (x2 : Int32) (x3 : Nat) (x4 : Int32) (h : pm_H), pm_iter sX16_takesImports n (.inr (.inr (x0, x1, x2, x3, x4, h))) = some r → pm_Le h r) := by
  intro n
  induction n with
  | zero => exact ⟨fun _ _ _ _ hf => (by cases hf), fun _ _ _ _ _ hf => (by cases hf), fun _ _ _ _ _ _ hf => (by cases hf)⟩
  | succ n ih =>
    refine ⟨fun x0 x1 x2 h hf => ?_, ?_⟩
    · obtain ⟨y, hf, hi⟩ := pm_iter_s hf
      have hf : tX16_takesImports_0 x0 x1 x2 h = some y := hf
      unfold tX16_takesImports_0 at hf
      have K0 := pm_S3.rf h
      cases hf
      exact ((pm_S3.le K0).trans (pm_Le_new _ _ _)).trans (ih.2.1 x0 x1 x2 (pm_sz h) (pm_new h 34 4) hi)
    refine ⟨fun x0 x1 x2 s0 h hf => ?_, ?_⟩
    · obtain ⟨y, hf, hi⟩ := pm_iter_s hf
      have hf : tX16_takesImports_3 x0 x1 x2 s0 h = some y := hf
      unfold tX16_takesImports_3 at hf
      have K0 := pm_S3.rf h
      obtain ⟨k1, hf⟩ := pm_if hf
      obtain ⟨u2, hf⟩ := pm_if hf
      obtain ⟨u3, hf⟩ := pm_if hf
      obtain ⟨u4, hf⟩ := pm_if hf
      obtain ⟨u5, hf⟩ := pm_if hf
      cases hf
      exact (pm_S3.le (pm_S3I (pm_S3I (pm_S3I (pm_S3I K0))))).trans (ih.2.2 x0 x1 x2 s0 0 (pm_setI (pm_setI (pm_setI (pm_setI h s0 ((0 : Int32).toNatClampNeg) 0) s0 ((1 : Int32).toNatClampNeg) 0) s0 ((2 : Int32).toNatClampNeg) 0) s0 ((3 : Int32).toNatClampNeg) 0) hi)
    refine fun x0 x1 x2 x3 x4 h hf => ?_
    obtain ⟨y, hf, hi⟩ := pm_iter_s hf
    have hf : tX16_takesImports_23 x0 x1 x2 x3 x4 h = some y := hf
    unfold tX16_takesImports_23 at hf
    have K0 := pm_S3.rf h
    obtain ⟨k6, hf⟩ := pm_if hf
    obtain ⟨v7, e8, hf⟩ := pm_bd hf
    obtain ⟨k9, hf⟩ := pm_if hf
    by_cases c10 : (pm_I h v7 8) ≤ x4
    · have hf := pm_it hf c10
      have hf := Option.some.inj hf
      subst hf
      have hi := Option.some.inj (show some _ = some r from hi)
      subst hi
      exact pm_S3.le K0
    · have hf := pm_ie hf c10
      obtain ⟨v11, e12, hf⟩ := pm_bd hf
      obtain ⟨k13, hf⟩ := pm_if hf
      obtain ⟨u14, hf⟩ := pm_if hf
      obtain ⟨y15, e16, hf⟩ := pm_lt hf
      obtain ⟨v17, e18, hf⟩ := pm_bd hf
      obtain ⟨k19, hf⟩ := pm_if hf
      obtain ⟨u20, hf⟩ := pm_if hf
      by_cases c21 : (pm_I h v17 x4.toNatClampNeg) = (-1)
      · have hf := pm_it hf c21
        obtain ⟨v22, e23, hf⟩ := pm_bd hf
        obtain ⟨k24, hf⟩ := pm_if hf
        obtain ⟨u25, hf⟩ := pm_if hf
        obtain ⟨v26, e27, hf⟩ := pm_bd hf
        obtain ⟨k28, hf⟩ := pm_if hf
        obtain ⟨u29, hf⟩ := pm_if hf
        obtain ⟨v30, e31, hf⟩ := pm_bd hf
        have K32 := pm_S3.trans (kpX16_newFunction e31) K0
        obtain ⟨k33, hf⟩ := pm_if hf
        obtain ⟨u34, hf⟩ := pm_if hf
        obtain ⟨k35, hf⟩ := pm_if hf
        obtain ⟨v36, e37, hf⟩ := pm_bd hf
        have K38 := pm_S3.trans (kpX16_has e37) K32
        obtain ⟨k39, hf⟩ := pm_if hf
        obtain ⟨u40, hf⟩ := pm_if hf
        obtain ⟨y41, e42, hf⟩ := pm_lt hf
        obtain ⟨u43, hf⟩ := pm_if hf
        obtain ⟨y44, e45, hf⟩ := pm_lt hf
        cases hf
        exact (pm_S3.le (pm_S3I K38)).trans (ih.2.2 x0 x1 x2 x3 y44 (pm_setI v36 x3 y15.toNatClampNeg y41) hi)
      · have hf := pm_ie hf c21
        obtain ⟨v46, e47, hf⟩ := pm_bd hf
        obtain ⟨k48, hf⟩ := pm_if hf
        obtain ⟨u49, hf⟩ := pm_if hf
        obtain ⟨y50, e51, hf⟩ := pm_lt hf
        obtain ⟨k52, hf⟩ := pm_if hf
        obtain ⟨u53, hf⟩ := pm_if hf
        obtain ⟨v54, e55, hf⟩ := pm_bd hf
        have K56 := pm_S3.trans (kpX16_has e55) K0
        obtain ⟨k57, hf⟩ := pm_if hf
        obtain ⟨u58, hf⟩ := pm_if hf
        obtain ⟨y59, e60, hf⟩ := pm_lt hf
        obtain ⟨u61, hf⟩ := pm_if hf
        obtain ⟨y62, e63, hf⟩ := pm_lt hf
        cases hf
        exact (pm_S3.le (pm_S3I K56)).trans (ih.2.2 x0 x1 x2 x3 y62 (pm_setI v54 x3 y15.toNatClampNeg y59) hi)
set_option maxHeartbeats 4000000 in
set_option maxRecDepth 100000 in
theorem moX16_takesImports {h : pm_H} {a0 : Nat} {p1 : Int32} {p2 : Int32} {r : pm_H} (hf : fX16_takesImports h a0 p1 p2 = some r) : pm_Le h r := by
  unfold fX16_takesImports at hf
  have K0 := pm_S3.rf h
  obtain ⟨n, hn⟩ := pm_lim_iter hf
  exact (mlX16_takesImports n).1 a0 p1 p2 h hn
set_option maxHeartbeats 4000000 in
set_option maxRecDepth 100000 in
theorem lpX16_takesImports {g : pm_Gm} {l : Launch} {G : pm_Gl} {Qr : Option Value → pm_H → Prop} (C : pm_C g cX16_takesImports RX16) {h0 : pm_H} {r : pm_H} (X : pm_X g l G mX16_takesImports (pm_sz r - pm_sz h0) (pm_us r - pm_us h0) Qr) (q : Qr none r) : ∀ n : Nat, (∀ (x0 : Nat) (x1 : Int32) (x2 : Int32) (h : pm_H), pm_Le h0 h → pm_iter sX16_takesImports n (.inl (x0, x1, x2, h)) = some r → pm_G g 0 [(0, .ref x0), (1, .int x1), (2, .int x2)] [] h (pm_sz h - pm_sz h0) (pm_us h - pm_us h0)) ∧ (∀ (x0 : Nat) (x1 : Int32) (x2 : Int32) (s0 : Nat) (h : pm_H), pm_Le h0 h → pm_iter sX16_takesImports n (.inr (.inl (x0, x1, x2, s0, h))) = some r → pm_G g 3 [(0, .ref x0), (1, .int x1), (2, .int x2)] [.ref s0] h (pm_sz h - pm_sz h0) (pm_us h - pm_us h0)) ∧ (∀ (x0 : Nat) (x1 : Int32) (x2 : Int32) (x3 : Nat) (x4 : Int32) (h : pm_H), pm_Le h0 h → pm_iter sX16_takesImports n (.inr (.inr (x0, x1, x2, x3, x4, h))) = some r → pm_G g 23 [(0, .ref x0), (1, .int x1), (2, .int x2), (3, .ref x3), (4, .int x4)] [] h (pm_sz h - pm_sz h0) (pm_us h - pm_us h0)) := by
  intro n
  induction n with
  | zero => exact ⟨fun _ _ _ _ _ hf => (by cases hf), fun _ _ _ _ _ _ hf => (by cases hf), fun _ _ _ _ _ _ _ hf => (by cases hf)⟩
  | succ n ih =>
    refine ⟨fun x0 x1 x2 h m0 hf => ?_, ?_⟩
    · have le0 := (mlX16_takesImports (n + 1)).1 x0 x1 x2 h hf
      have kc1 := Nat.sub_le_sub_right le0.1 (pm_sz h0)
      have kc2 := Nat.sub_le_sub_right le0.2 (pm_us h0)
      have K0 := pm_S3.rf h
      obtain ⟨y, hf, hi⟩ := pm_iter_s hf
      have hf : tX16_takesImports_0 x0 x1 x2 h = some y := hf
      unfold tX16_takesImports_0 at hf
      refine pm_iconst (v := 4) C dX16_takesImports_0 (by decide) ?_
      cases hf
      refine pa_newa (hb := h) (h0 := h0) (t := 2) (N := 4) C X K0 m0 dX16_takesImports_1 (by decide) rfl al2 (by decide) (by decide +kernel) (by decide +kernel) ((mlX16_takesImports n).2.1 x0 x1 x2 (pm_sz h) (pm_new h 34 4) hi) ?_
      exact pm_sub [0, 1, 2] rfl (ih.2.1 x0 x1 x2 (pm_sz h) (pm_new h 34 4) ((m0.trans (pm_S3.le K0)).trans (pm_Le_new _ _ _)) hi)
    refine ⟨fun x0 x1 x2 s0 h m0 hf => ?_, ?_⟩
    · have le0 := (mlX16_takesImports (n + 1)).2.1 x0 x1 x2 s0 h hf
      have kc1 := Nat.sub_le_sub_right le0.1 (pm_sz h0)
      have kc2 := Nat.sub_le_sub_right le0.2 (pm_us h0)
      have K0 := pm_S3.rf h
      obtain ⟨y, hf, hi⟩ := pm_iter_s hf
      have hf : tX16_takesImports_3 x0 x1 x2 s0 h = some y := hf
      unfold tX16_takesImports_3 at hf
      refine pm_dup C dX16_takesImports_3 rfl ?_
      refine pm_iconst (v := 0) C dX16_takesImports_4 (by decide) ?_
      refine pm_iconst (v := 0) C dX16_takesImports_5 (by decide) ?_
      obtain ⟨k1, hf⟩ := pm_if hf
      obtain ⟨u2, hf⟩ := pm_if hf
      refine pm_iast C dX16_takesImports_6 k1 u2 ?_
      refine pm_dup C dX16_takesImports_7 rfl ?_
      refine pm_iconst (v := 1) C dX16_takesImports_8 (by decide) ?_
      refine pm_iconst (v := 0) C dX16_takesImports_9 (by decide) ?_
      obtain ⟨u3, hf⟩ := pm_if hf
      refine pm_iast C dX16_takesImports_10 k1 u3 ?_
      refine pm_dup C dX16_takesImports_11 rfl ?_
      refine pm_iconst (v := 2) C dX16_takesImports_12 (by decide) ?_
      refine pm_iconst (v := 0) C dX16_takesImports_13 (by decide) ?_
      obtain ⟨u4, hf⟩ := pm_if hf
      refine pm_iast C dX16_takesImports_14 k1 u4 ?_
      refine pm_dup C dX16_takesImports_15 rfl ?_
      refine pm_iconst (v := 3) C dX16_takesImports_16 (by decide) ?_
      refine pm_iconst (v := 0) C dX16_takesImports_17 (by decide) ?_
      obtain ⟨u5, hf⟩ := pm_if hf
      refine pm_iast C dX16_takesImports_18 k1 u5 ?_
      refine pm_astore_n (lv' := [(3, .ref s0), (0, .ref x0), (1, .int x1), (2, .int x2)]) C dX16_takesImports_19 rfl (pm_nl X (by decide)) rfl ?_
      refine pm_iconst (v := 0) C dX16_takesImports_20 (by decide) ?_
      refine pm_istore (lv' := [(4, .int 0), (3, .ref s0), (0, .ref x0), (1, .int x1), (2, .int x2)]) C dX16_takesImports_21 (pm_nl X (by decide)) rfl ?_
      cases hf
      exact pa_join (pm_S3I (pm_S3I (pm_S3I (pm_S3I K0)))) (pm_sub [2, 3, 4, 1, 0] rfl (ih.2.2 x0 x1 x2 s0 0 (pm_setI (pm_setI (pm_setI (pm_setI h s0 ((0 : Int32).toNatClampNeg) 0) s0 ((1 : Int32).toNatClampNeg) 0) s0 ((2 : Int32).toNatClampNeg) 0) s0 ((3 : Int32).toNatClampNeg) 0) (m0.trans (pm_S3.le (pm_S3I (pm_S3I (pm_S3I (pm_S3I K0)))))) hi))
    refine fun x0 x1 x2 x3 x4 h m0 hf => ?_
    have le0 := (mlX16_takesImports (n + 1)).2.2 x0 x1 x2 x3 x4 h hf
    have kc1 := Nat.sub_le_sub_right le0.1 (pm_sz h0)
    have kc2 := Nat.sub_le_sub_right le0.2 (pm_us h0)
    have K0 := pm_S3.rf h
    obtain ⟨y, hf, hi⟩ := pm_iter_s hf
    have hf : tX16_takesImports_23 x0 x1 x2 x3 x4 h = some y := hf
    unfold tX16_takesImports_23 at hf
    refine pm_iload C dX16_takesImports_23 rfl ?_
    refine pm_aload_n C dX16_takesImports_25 rfl rfl ?_
    obtain ⟨k6, hf⟩ := pm_if hf
    obtain ⟨v7, e8, hf⟩ := pm_bd hf
    refine pm_getR C dX16_takesImports_26 flX16_221 rfl k6 e8 ?_
    obtain ⟨k9, hf⟩ := pm_if hf
    refine pm_getI C dX16_takesImports_29 flX16_402 rfl k9 rfl ?_
    refine pm_icmp_ge (tgt := 122) C dX16_takesImports_32 (by decide) (fun c10 => ?_) (fun c10 => ?_)
    · have hf := pm_it hf c10
      have hf := Option.some.inj hf
      subst hf
      have hi := Option.some.inj (show some _ = some r from hi)
      subst hi
      exact pm_vret C X dX16_takesImports_122 rfl kc1 kc2 q
    · have hf := pm_ie hf c10
      refine pm_aload_n C dX16_takesImports_35 rfl rfl ?_
      refine pm_getR C dX16_takesImports_36 flX16_221 rfl k6 e8 ?_
      obtain ⟨v11, e12, hf⟩ := pm_bd hf
      refine pm_getR C dX16_takesImports_39 flX16_411 rfl k9 e12 ?_
      refine pm_iload C dX16_takesImports_42 rfl ?_
      obtain ⟨k13, hf⟩ := pm_if hf
      obtain ⟨u14, hf⟩ := pm_if hf
      refine pm_iald C dX16_takesImports_44 k13 u14 rfl ?_
      obtain ⟨y15, e16, hf⟩ := pm_lt hf
      refine pm_topI e16 ?_
      refine pm_istore (lv' := [(5, .int y15), (0, .ref x0), (1, .int x1), (2, .int x2), (3, .ref x3), (4, .int x4)]) C dX16_takesImports_45 (pm_nl X (by decide)) rfl ?_
      refine pm_aload_n C dX16_takesImports_47 rfl rfl ?_
      obtain ⟨v17, e18, hf⟩ := pm_bd hf
      refine pm_getR C dX16_takesImports_48 flX16_158 rfl k6 e18 ?_
      refine pm_iload C dX16_takesImports_51 rfl ?_
      obtain ⟨k19, hf⟩ := pm_if hf
      obtain ⟨u20, hf⟩ := pm_if hf
      refine pm_iald C dX16_takesImports_53 k19 u20 rfl ?_
      refine pm_iconst (v := (-1)) C dX16_takesImports_54 (by decide) ?_
      refine pm_icmp_ne (tgt := 86) C dX16_takesImports_55 (by decide) (fun c21 => ?_) (fun c21 => ?_)
      · have hf := pm_ie hf c21
        refine pm_aload_n C dX16_takesImports_86 rfl rfl ?_
        obtain ⟨v22, e23, hf⟩ := pm_bd hf
        refine pm_getR C dX16_takesImports_87 flX16_161 rfl k6 e23 ?_
        refine pm_iload C dX16_takesImports_90 rfl ?_
        obtain ⟨k24, hf⟩ := pm_if hf
        obtain ⟨u25, hf⟩ := pm_if hf
        refine pm_iald C dX16_takesImports_92 k24 u25 rfl ?_
        obtain ⟨y26, e27, hf⟩ := pm_lt hf
        refine pm_topI e27 ?_
        refine pm_istore (lv' := [(6, .int y26), (5, .int y15), (0, .ref x0), (1, .int x1), (2, .int x2), (3, .ref x3), (4, .int x4)]) C dX16_takesImports_93 (pm_nl X (by decide)) rfl ?_
        refine pm_aload_n C dX16_takesImports_95 rfl rfl ?_
        refine pm_iload C dX16_takesImports_96 rfl ?_
        refine pm_iload_n C dX16_takesImports_98 rfl rfl ?_
        refine pm_aload_n C dX16_takesImports_99 rfl rfl ?_
        refine pm_iload C dX16_takesImports_100 rfl ?_
        obtain ⟨k28, hf⟩ := pm_if hf
        obtain ⟨u29, hf⟩ := pm_if hf
        refine pm_iald C dX16_takesImports_102 k28 u29 rfl ?_
        refine pm_iload C dX16_takesImports_103 rfl ?_
        obtain ⟨v30, e31, hf⟩ := pm_bd hf
        refine pm_callV (as := [.int y15, .int x1, .int (pm_I h x3 y15.toNatClampNeg), .int y26]) (st := []) C X dX16_takesImports_105 lnX16_1009 myX16_has viX16_has ⟨by decide, by decide⟩ rfl rfl k6 (Nat.le_of_ble_eq_true rfl) kc1 kc2 (ctX16_has e31 ?_)
        have K32 := pm_S3.trans (kpX16_has e31) K0
        show pm_G g 108 [(6, .int y26), (5, .int y15), (0, .ref x0), (1, .int x1), (2, .int x2), (3, .ref x3), (4, .int x4)] [] v30 (pm_sz h - pm_sz h0) (pm_us h - pm_us h0)
        refine pm_aload_n C dX16_takesImports_108 rfl rfl ?_
        refine pm_iload C dX16_takesImports_109 rfl ?_
        refine pm_dup2_11 C dX16_takesImports_111 rfl rfl ?_
        obtain ⟨k33, hf⟩ := pm_if hf
        obtain ⟨u34, hf⟩ := pm_if hf
        refine pm_iald C dX16_takesImports_112 k33 u34 rfl ?_
        refine pm_iconst (v := 1) C dX16_takesImports_113 (by decide) ?_
        refine pm_iadd C dX16_takesImports_114 ?_
        obtain ⟨y35, e36, hf⟩ := pm_lt hf
        refine pm_topI e36 ?_
        obtain ⟨u37, hf⟩ := pm_if hf
        refine pm_iast C dX16_takesImports_115 k33 u37 ?_
        obtain ⟨y38, e39, hf⟩ := pm_lt hf
        refine pm_iinc (v := y38) (lv' := [(4, .int y38), (6, .int y26), (5, .int y15), (0, .ref x0), (1, .int x1), (2, .int x2), (3, .ref x3)]) C dX16_takesImports_116 rfl ((congrArg (x4 + ·) (by decide : Int32.ofInt 1 = 1)).trans e39) (pm_nl X (by decide)) rfl ?_
        refine pm_goto (tgt := 23) C dX16_takesImports_119 (by decide) ?_
        cases hf
        exact pa_join (pm_S3I K32) (pm_sub [3, 4, 5, 6, 0] rfl (ih.2.2 x0 x1 x2 x3 y38 (pm_setI v30 x3 y15.toNatClampNeg y35) (m0.trans (pm_S3.le (pm_S3I K32))) hi))
      · have hf := pm_it hf c21
        refine pm_aload_n C dX16_takesImports_58 rfl rfl ?_
        refine pm_iload_n C dX16_takesImports_59 rfl rfl ?_
        refine pm_aload_n C dX16_takesImports_60 rfl rfl ?_
        refine pm_getR C dX16_takesImports_61 flX16_221 rfl k6 e8 ?_
        obtain ⟨v40, e41, hf⟩ := pm_bd hf
        refine pm_getR C dX16_takesImports_64 flX16_414 rfl k9 e41 ?_
        refine pm_iload C dX16_takesImports_67 rfl ?_
        obtain ⟨k42, hf⟩ := pm_if hf
        obtain ⟨u43, hf⟩ := pm_if hf
        refine pm_lald C dX16_takesImports_69 k42 u43 rfl ?_
        refine pm_l2i C dX16_takesImports_70 ?_
        refine pm_iconst (v := (-1)) C dX16_takesImports_71 (by decide) ?_
        refine pm_iconst (v := (-1)) C dX16_takesImports_72 (by decide) ?_
        refine pm_aload_n C dX16_takesImports_73 rfl rfl ?_
        obtain ⟨v44, e45, hf⟩ := pm_bd hf
        refine pm_getR C dX16_takesImports_74 flX16_161 rfl k6 e45 ?_
        refine pm_iload C dX16_takesImports_77 rfl ?_
        obtain ⟨k46, hf⟩ := pm_if hf
        obtain ⟨u47, hf⟩ := pm_if hf
        refine pm_iald C dX16_takesImports_79 k46 u47 rfl ?_
        obtain ⟨v48, e49, hf⟩ := pm_bd hf
        refine pm_callV (as := [.int x2, .int ((pm_L h v40 x4.toNatClampNeg).toInt32), .int (-1), .int (-1), .int (pm_I h v44 x4.toNatClampNeg)]) (st := []) C X dX16_takesImports_80 lnX16_1005 myX16_newFunction viX16_newFunction ⟨by decide, by decide⟩ rfl rfl k6 (Nat.le_of_ble_eq_true rfl) kc1 kc2 (ctX16_newFunction e49 ?_)
        have K50 := pm_S3.trans (kpX16_newFunction e49) K0
        show pm_G g 83 [(5, .int y15), (0, .ref x0), (1, .int x1), (2, .int x2), (3, .ref x3), (4, .int x4)] [.int v48.1] v48.2 (pm_sz h - pm_sz h0) (pm_us h - pm_us h0)
        refine pm_goto (tgt := 93) C dX16_takesImports_83 (by decide) ?_
        refine pm_istore (lv' := [(6, .int v48.1), (5, .int y15), (0, .ref x0), (1, .int x1), (2, .int x2), (3, .ref x3), (4, .int x4)]) C dX16_takesImports_93 (pm_nl X (by decide)) rfl ?_
        refine pm_aload_n C dX16_takesImports_95 rfl rfl ?_
        refine pm_iload C dX16_takesImports_96 rfl ?_
        refine pm_iload_n C dX16_takesImports_98 rfl rfl ?_
        refine pm_aload_n C dX16_takesImports_99 rfl rfl ?_
        refine pm_iload C dX16_takesImports_100 rfl ?_
        obtain ⟨k51, hf⟩ := pm_if hf
        obtain ⟨u52, hf⟩ := pm_if hf
        refine pm_iald C dX16_takesImports_102 k51 u52 rfl ?_
        refine pm_iload C dX16_takesImports_103 rfl ?_
        obtain ⟨k53, hf⟩ := pm_if hf
        obtain ⟨v54, e55, hf⟩ := pm_bd hf
        refine pm_callV (as := [.int y15, .int x1, .int (pm_I v48.2 x3 y15.toNatClampNeg), .int v48.1]) (st := []) C X dX16_takesImports_105 lnX16_1009 myX16_has viX16_has ⟨by decide, by decide⟩ rfl rfl k53 (Nat.le_of_ble_eq_true rfl) kc1 kc2 (ctX16_has e55 ?_)
        have K56 := pm_S3.trans (kpX16_has e55) K50
        show pm_G g 108 [(6, .int v48.1), (5, .int y15), (0, .ref x0), (1, .int x1), (2, .int x2), (3, .ref x3), (4, .int x4)] [] v54 (pm_sz h - pm_sz h0) (pm_us h - pm_us h0)
        refine pm_aload_n C dX16_takesImports_108 rfl rfl ?_
        refine pm_iload C dX16_takesImports_109 rfl ?_
        refine pm_dup2_11 C dX16_takesImports_111 rfl rfl ?_
        obtain ⟨k57, hf⟩ := pm_if hf
        obtain ⟨u58, hf⟩ := pm_if hf
        refine pm_iald C dX16_takesImports_112 k57 u58 rfl ?_
        refine pm_iconst (v := 1) C dX16_takesImports_113 (by decide) ?_
        refine pm_iadd C dX16_takesImports_114 ?_
        obtain ⟨y59, e60, hf⟩ := pm_lt hf
        refine pm_topI e60 ?_
        obtain ⟨u61, hf⟩ := pm_if hf
        refine pm_iast C dX16_takesImports_115 k57 u61 ?_
        obtain ⟨y62, e63, hf⟩ := pm_lt hf
        refine pm_iinc (v := y62) (lv' := [(4, .int y62), (6, .int v48.1), (5, .int y15), (0, .ref x0), (1, .int x1), (2, .int x2), (3, .ref x3)]) C dX16_takesImports_116 rfl ((congrArg (x4 + ·) (by decide : Int32.ofInt 1 = 1)).trans e63) (pm_nl X (by decide)) rfl ?_
        refine pm_goto (tgt := 23) C dX16_takesImports_119 (by decide) ?_
        cases hf
        exact pa_join (pm_S3I K56) (pm_sub [3, 4, 5, 6, 0] rfl (ih.2.2 x0 x1 x2 x3 y62 (pm_setI v54 x3 y15.toNatClampNeg y59) (m0.trans (pm_S3.le (pm_S3I K56))) hi))
set_option maxHeartbeats 4000000 in
set_option maxRecDepth 100000 in
theorem ctX16_takesImports {l : Launch} {G : pm_Gl} {h : pm_H} {a0 : Nat} {p1 : Int32} {p2 : Int32} {r : pm_H} {Qr : Option Value → pm_H → Prop} (hf : fX16_takesImports h a0 p1 p2 = some r) (q : Qr none r) : pm_Ct l G mX16_takesImports [.ref a0, .int p1, .int p2] h (pm_sz r - pm_sz h) (pm_us r - pm_us h) Qr := by
  refine pm_body pnX16 (Nat.le_of_ble_eq_true rfl) (fun g C X => ?_)
  have C : pm_C g cX16_takesImports RX16 := C
  show pm_G g 0 [(0, .ref a0), (1, .int p1), (2, .int p2)] [] h 0 0
  unfold fX16_takesImports at hf
  obtain ⟨n, hn⟩ := pm_lim_iter hf
  exact pa_start (pm_sub [0, 1, 2] rfl ((lpX16_takesImports C X q n).1 a0 p1 p2 h (pm_Le.rf h) hn))
