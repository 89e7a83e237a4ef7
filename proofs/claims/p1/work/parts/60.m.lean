theorem dX16_readsGlobals_0 : decode cX16_readsGlobals 0 = .ok (.aload_n 0, 1) := by decide +kernel
theorem dX16_readsGlobals_1 : decode cX16_readsGlobals 1 = .ok (.invokevirtual 277, 3) := by decide +kernel
theorem dX16_readsGlobals_4 : decode cX16_readsGlobals 4 = .ok (.lstore_n 1, 1) := by decide +kernel
theorem dX16_readsGlobals_5 : decode cX16_readsGlobals 5 = .ok (.aload_n 0, 1) := by decide +kernel
theorem dX16_readsGlobals_6 : decode cX16_readsGlobals 6 = .ok (.getfield 221, 3) := by decide +kernel
theorem dX16_readsGlobals_9 : decode cX16_readsGlobals 9 = .ok (.aload_n 0, 1) := by decide +kernel
theorem dX16_readsGlobals_10 : decode cX16_readsGlobals 10 = .ok (.lload_n 1, 1) := by decide +kernel
theorem dX16_readsGlobals_11 : decode cX16_readsGlobals 11 = .ok (.invokevirtual 377, 3) := by decide +kernel
theorem dX16_readsGlobals_14 : decode cX16_readsGlobals 14 = .ok (.putfield 453, 3) := by decide +kernel
theorem dX16_readsGlobals_17 : decode cX16_readsGlobals 17 = .ok (.lconst 0, 1) := by decide +kernel
theorem dX16_readsGlobals_18 : decode cX16_readsGlobals 18 = .ok (.lstore_n 3, 1) := by decide +kernel
theorem dX16_readsGlobals_19 : decode cX16_readsGlobals 19 = .ok (.lload_n 3, 1) := by decide +kernel
theorem dX16_readsGlobals_20 : decode cX16_readsGlobals 20 = .ok (.lload_n 1, 1) := by decide +kernel
theorem dX16_readsGlobals_21 : decode cX16_readsGlobals 21 = .ok (.lcmp, 1) := by decide +kernel
theorem dX16_readsGlobals_22 : decode cX16_readsGlobals 22 = .ok (.ifCond .ge 87, 3) := by decide +kernel
theorem dX16_readsGlobals_25 : decode cX16_readsGlobals 25 = .ok (.aload_n 0, 1) := by decide +kernel
theorem dX16_readsGlobals_26 : decode cX16_readsGlobals 26 = .ok (.invokevirtual 371, 3) := by decide +kernel
theorem dX16_readsGlobals_29 : decode cX16_readsGlobals 29 = .ok (.istore 5, 2) := by decide +kernel
theorem dX16_readsGlobals_31 : decode cX16_readsGlobals 31 = .ok (.aload_n 0, 1) := by decide +kernel
theorem dX16_readsGlobals_32 : decode cX16_readsGlobals 32 = .ok (.iconst 1, 1) := by decide +kernel
theorem dX16_readsGlobals_33 : decode cX16_readsGlobals 33 = .ok (.invokevirtual 393, 3) := by decide +kernel
theorem dX16_readsGlobals_36 : decode cX16_readsGlobals 36 = .ok (.iconst 1, 1) := by decide +kernel
theorem dX16_readsGlobals_37 : decode cX16_readsGlobals 37 = .ok (.if_icmp .ne 7, 3) := by decide +kernel
theorem dX16_readsGlobals_40 : decode cX16_readsGlobals 40 = .ok (.iconst 1, 1) := by decide +kernel
theorem dX16_readsGlobals_41 : decode cX16_readsGlobals 41 = .ok (.goto 4, 3) := by decide +kernel
theorem dX16_readsGlobals_44 : decode cX16_readsGlobals 44 = .ok (.iconst 0, 1) := by decide +kernel
theorem dX16_readsGlobals_45 : decode cX16_readsGlobals 45 = .ok (.istore 6, 2) := by decide +kernel
theorem dX16_readsGlobals_47 : decode cX16_readsGlobals 47 = .ok (.aload_n 0, 1) := by decide +kernel
theorem dX16_readsGlobals_48 : decode cX16_readsGlobals 48 = .ok (.getfield 251, 3) := by decide +kernel
theorem dX16_readsGlobals_51 : decode cX16_readsGlobals 51 = .ok (.istore 7, 2) := by decide +kernel
theorem dX16_readsGlobals_53 : decode cX16_readsGlobals 53 = .ok (.aload_n 0, 1) := by decide +kernel
theorem dX16_readsGlobals_54 : decode cX16_readsGlobals 54 = .ok (.iconst 0, 1) := by decide +kernel
theorem dX16_readsGlobals_55 : decode cX16_readsGlobals 55 = .ok (.invokevirtual 456, 3) := by decide +kernel
theorem dX16_readsGlobals_58 : decode cX16_readsGlobals 58 = .ok (.lload_n 3, 1) := by decide +kernel
theorem dX16_readsGlobals_59 : decode cX16_readsGlobals 59 = .ok (.ldc2_w 363, 3) := by decide +kernel
theorem dX16_readsGlobals_62 : decode cX16_readsGlobals 62 = .ok (.lcmp, 1) := by decide +kernel
theorem dX16_readsGlobals_63 : decode cX16_readsGlobals 63 = .ok (.ifCond .ge 39, 3) := by decide +kernel
theorem dX16_readsGlobals_66 : decode cX16_readsGlobals 66 = .ok (.aload_n 0, 1) := by decide +kernel
theorem dX16_readsGlobals_67 : decode cX16_readsGlobals 67 = .ok (.getfield 221, 3) := by decide +kernel
theorem dX16_readsGlobals_70 : decode cX16_readsGlobals 70 = .ok (.getfield 459, 3) := by decide +kernel
theorem dX16_readsGlobals_73 : decode cX16_readsGlobals 73 = .ok (.lload_n 3, 1) := by decide +kernel
theorem dX16_readsGlobals_74 : decode cX16_readsGlobals 74 = .ok (.l2i, 1) := by decide +kernel
theorem dX16_readsGlobals_75 : decode cX16_readsGlobals 75 = .ok (.iload 5, 2) := by decide +kernel
theorem dX16_readsGlobals_77 : decode cX16_readsGlobals 77 = .ok (.iastore, 1) := by decide +kernel
theorem dX16_readsGlobals_78 : decode cX16_readsGlobals 78 = .ok (.aload_n 0, 1) := by decide +kernel
theorem dX16_readsGlobals_79 : decode cX16_readsGlobals 79 = .ok (.getfield 221, 3) := by decide +kernel
theorem dX16_readsGlobals_82 : decode cX16_readsGlobals 82 = .ok (.getfield 462, 3) := by decide +kernel
theorem dX16_readsGlobals_85 : decode cX16_readsGlobals 85 = .ok (.lload_n 3, 1) := by decide +kernel
theorem dX16_readsGlobals_86 : decode cX16_readsGlobals 86 = .ok (.l2i, 1) := by decide +kernel
theorem dX16_readsGlobals_87 : decode cX16_readsGlobals 87 = .ok (.iload 6, 2) := by decide +kernel
theorem dX16_readsGlobals_89 : decode cX16_readsGlobals 89 = .ok (.bastore, 1) := by decide +kernel
theorem dX16_readsGlobals_90 : decode cX16_readsGlobals 90 = .ok (.aload_n 0, 1) := by decide +kernel
theorem dX16_readsGlobals_91 : decode cX16_readsGlobals 91 = .ok (.getfield 221, 3) := by decide +kernel
theorem dX16_readsGlobals_94 : decode cX16_readsGlobals 94 = .ok (.getfield 463, 3) := by decide +kernel
theorem dX16_readsGlobals_97 : decode cX16_readsGlobals 97 = .ok (.lload_n 3, 1) := by decide +kernel
theorem dX16_readsGlobals_98 : decode cX16_readsGlobals 98 = .ok (.l2i, 1) := by decide +kernel
theorem dX16_readsGlobals_99 : decode cX16_readsGlobals 99 = .ok (.iload 7, 2) := by decide +kernel
theorem dX16_readsGlobals_101 : decode cX16_readsGlobals 101 = .ok (.iastore, 1) := by decide +kernel
theorem dX16_readsGlobals_102 : decode cX16_readsGlobals 102 = .ok (.lload_n 3, 1) := by decide +kernel
theorem dX16_readsGlobals_103 : decode cX16_readsGlobals 103 = .ok (.lconst 1, 1) := by decide +kernel
theorem dX16_readsGlobals_104 : decode cX16_readsGlobals 104 = .ok (.ladd, 1) := by decide +kernel
theorem dX16_readsGlobals_105 : decode cX16_readsGlobals 105 = .ok (.lstore_n 3, 1) := by decide +kernel
theorem dX16_readsGlobals_106 : decode cX16_readsGlobals 106 = .ok (.goto (-87), 3) := by decide +kernel
theorem dX16_readsGlobals_109 : decode cX16_readsGlobals 109 = .ok (.return_, 1) := by decide +kernel
noncomputable def tX16_readsGlobals_19 (x0 : Nat) (x1 : Int64) (x3 : Int64) (h : pm_H) : Option (((Nat × Int64 × Int64 × pm_H) ⊕ (Nat × Int64 × Int64 × Int32 × Int32 × pm_H)) ⊕ ((Nat × pm_H) ⊕ pm_H)) := if x1 ≤ x3 then (some (.inr (.inr (h)))) else (if pm_kd h x0 = 16 then (fX16_type h x0).bind fun v14 => pt_s v14 fun w16 => if pm_kd w16.2 x0 = 16 then (fX16_small w16.2 x0 1).bind fun v19 => pt_s v19 fun w21 => if w21.1 = 1 then (some (.inl (.inr ((x0, x1, x3, w16.1, 1, w21.2))))) else (some (.inl (.inr ((x0, x1, x3, w16.1, 0, w21.2))))) else none else none)
noncomputable def tX16_readsGlobals_45 (x0 : Nat) (x1 : Int64) (x3 : Int64) (x5 : Int32) (s0 : Int32) (h : pm_H) : Option (((Nat × Int64 × Int64 × pm_H) ⊕ (Nat × Int64 × Int64 × Int32 × Int32 × pm_H)) ⊕ ((Nat × pm_H) ⊕ pm_H)) := if pm_kd h x0 = 16 then pm_let (pm_I h x0 11) fun y25 => (fX16_expression h x0 0).bind fun v27 => pt_s v27 fun w29 => if 64 ≤ x3 then (pm_let (x3 + 1) fun y32 => some (.inl (.inl ((x0, x1, y32, w29))))) else (if pm_kd w29 x0 = 16 then (pm_R w29 x0 10).bind fun v35 => if pm_kd w29 v35 = 14 then (pm_R w29 v35 25).bind fun v38 => if pm_kd w29 v38 = 34 then if pm_in x3.toInt32 (pm_ln w29 v38) then (pm_R (pm_setI w29 v38 x3.toInt32.toNatClampNeg x5) v35 26).bind fun v42 => if pm_kd (pm_setI w29 v38 x3.toInt32.toNatClampNeg x5) v42 = 32 then if pm_in x3.toInt32 (pm_ln (pm_setI w29 v38 x3.toInt32.toNatClampNeg x5) v42) then (pm_R (pm_setI (pm_setI w29 v38 x3.toInt32.toNatClampNeg x5) v42 x3.toInt32.toNatClampNeg (vp_nar .boolean s0)) v35 27).bind fun v46 => if pm_kd (pm_setI (pm_setI w29 v38 x3.toInt32.toNatClampNeg x5) v42 x3.toInt32.toNatClampNeg (vp_nar .boolean s0)) v46 = 34 then if pm_in x3.toInt32 (pm_ln (pm_setI (pm_setI w29 v38 x3.toInt32.toNatClampNeg x5) v42 x3.toInt32.toNatClampNeg (vp_nar .boolean s0)) v46) then pm_let (x3 + 1) fun y50 => some (.inl (.inl ((x0, x1, y50, pm_setI (pm_setI (pm_setI w29 v38 x3.toInt32.toNatClampNeg x5) v42 x3.toInt32.toNatClampNeg (vp_nar .boolean s0)) v46 x3.toInt32.toNatClampNeg y25)))) else none else none else none else none else none else none else none else none) else none
noncomputable def sX16_readsGlobals : ((Nat × Int64 × Int64 × pm_H) ⊕ (Nat × Int64 × Int64 × Int32 × Int32 × pm_H)) → Option (((Nat × Int64 × Int64 × pm_H) ⊕ (Nat × Int64 × Int64 × Int32 × Int32 × pm_H)) ⊕ ((Nat × pm_H) ⊕ pm_H)) := fun z => match z with
  | .inl (x0, x1, x3, h) => tX16_readsGlobals_19 x0 x1 x3 h
  | .inr (x0, x1, x3, x5, s0, h) => tX16_readsGlobals_45 x0 x1 x3 x5 s0 h
noncomputable def fX16_readsGlobals (h : pm_H) (a0 : Nat) : Option ((Nat × pm_H) ⊕ pm_H) := if pm_kd h a0 = 16 then (fX16_number h a0).bind fun v2 => pt_k v2 fun w4 => if pm_kd w4.2 a0 = 16 then (pm_R w4.2 a0 10).bind fun v7 => (fX16_kept w4.2 a0 w4.1).bind fun v9 => if pm_kd v9.2 v7 = 14 then pm_lim sX16_readsGlobals (.inl ((a0, w4.1, 0, pm_setI v9.2 v7 24 v9.1))) else none else none else none
set_option maxHeartbeats 4000000 in
set_option maxRecDepth 100000 in
theorem lpX16_readsGlobals {g : pm_Gm} {l : Launch} {G : pm_Gl} {Qr : Option Value → pm_H → Prop} {Qt : Nat → pm_H → Prop} (C : pm_C g cX16_readsGlobals RX16) (X : pm_XT g l G mX16_readsGlobals 0 0 Qr Qt) {r : ((Nat × pm_H) ⊕ pm_H)} (q : pt_eV Qr Qt r) : ∀ n : Nat, (∀ (x0 : Nat) (x1 : Int64) (x3 : Int64) (h : pm_H), pm_iter sX16_readsGlobals n (.inl (x0, x1, x3, h)) = some r → pm_G g 19 [(0, .ref x0), (1, .long x1), (3, .long x3)] [] h 0 0) ∧ (∀ (x0 : Nat) (x1 : Int64) (x3 : Int64) (x5 : Int32) (s0 : Int32) (h : pm_H), pm_iter sX16_readsGlobals n (.inr (x0, x1, x3, x5, s0, h)) = some r → pm_G g 45 [(0, .ref x0), (1, .long x1), (3, .long x3), (5, .int x5)] [.int s0] h 0 0) := by
  intro n
  induction n with
  | zero => exact ⟨fun _ _ _ _ hf => (by cases hf), fun _ _ _ _ _ _ hf => (by cases hf)⟩
  | succ n ih =>
    refine ⟨fun x0 x1 x3 h hf => ?_, ?_⟩
    · obtain ⟨y, hf, hi⟩ := pm_iter_s hf
      have hf : tX16_readsGlobals_19 x0 x1 x3 h = some y := hf
      unfold tX16_readsGlobals_19 at hf
      refine pm_lload_n C dX16_readsGlobals_19 rfl rfl ?_
      refine pm_lload_n C dX16_readsGlobals_20 rfl rfl ?_
      refine pm_lcmp C dX16_readsGlobals_21 ?_
      refine pm_if_ge (tgt := 109) C dX16_readsGlobals_22 (by decide) (fun c12 => ?_) (fun c12 => ?_)
      · have hf := pm_it hf ((pm_lg_ge _ _).mp c12)
        cases hf
        cases hi
        exact pt_vret C X dX16_readsGlobals_109 rfl (Nat.le_refl _) (Nat.le_refl _) q
      · have hf := pm_ie hf ((fun z => c12 ((pm_lg_ge _ _).mpr z)))
        refine pm_aload_n C dX16_readsGlobals_25 rfl rfl ?_
        obtain ⟨k13, hf⟩ := pm_if hf
        obtain ⟨v14, e15, hf⟩ := pm_bd hf
        refine pt_callVT (as := []) (st := []) C X dX16_readsGlobals_26 ltX16_371 myX16_type viX16_type ⟨by decide, by decide⟩ rfl rfl k13 (Nat.le_of_ble_eq_true rfl) (Nat.le_refl _) (Nat.le_refl _) (ctX16_type e15 ?_)
        rcases v14 with z17 | w16
        · have hf := pt_sl hf
          cases hf
          cases hi
          exact q
        have hf := pt_sr hf
        show pm_G g 29 [(0, .ref x0), (1, .long x1), (3, .long x3)] [.int w16.1] w16.2 0 0
        refine pm_istore (lv' := [(5, .int w16.1), (0, .ref x0), (1, .long x1), (3, .long x3)]) C dX16_readsGlobals_29 (pt_nl X (by decide)) rfl ?_
        refine pm_aload_n C dX16_readsGlobals_31 rfl rfl ?_
        refine pm_iconst (v := 1) C dX16_readsGlobals_32 (by decide) ?_
        obtain ⟨k18, hf⟩ := pm_if hf
        obtain ⟨v19, e20, hf⟩ := pm_bd hf
        refine pt_callVT (as := [.int 1]) (st := []) C X dX16_readsGlobals_33 ltX16_393 myX16_small viX16_small ⟨by decide, by decide⟩ rfl rfl k18 (Nat.le_of_ble_eq_true rfl) (Nat.le_refl _) (Nat.le_refl _) (ctX16_small e20 ?_)
        rcases v19 with z22 | w21
        · have hf := pt_sl hf
          cases hf
          cases hi
          exact q
        have hf := pt_sr hf
        show pm_G g 36 [(5, .int w16.1), (0, .ref x0), (1, .long x1), (3, .long x3)] [.int w21.1] w21.2 0 0
        refine pm_iconst (v := 1) C dX16_readsGlobals_36 (by decide) ?_
        refine pm_icmp_ne (tgt := 44) C dX16_readsGlobals_37 (by decide) (fun c23 => ?_) (fun c23 => ?_)
        · have hf := pm_ie hf c23
          refine pm_iconst (v := 0) C dX16_readsGlobals_44 (by decide) ?_
          cases hf
          exact pm_sub [1, 2, 3, 0] rfl (ih.2 x0 x1 x3 w16.1 0 w21.2 hi)
        · have hf := pm_it hf c23
          refine pm_iconst (v := 1) C dX16_readsGlobals_40 (by decide) ?_
          refine pm_goto (tgt := 45) C dX16_readsGlobals_41 (by decide) ?_
          cases hf
          exact pm_sub [1, 2, 3, 0] rfl (ih.2 x0 x1 x3 w16.1 1 w21.2 hi)
    refine fun x0 x1 x3 x5 s0 h hf => ?_
    obtain ⟨y, hf, hi⟩ := pm_iter_s hf
    have hf : tX16_readsGlobals_45 x0 x1 x3 x5 s0 h = some y := hf
    unfold tX16_readsGlobals_45 at hf
    refine pm_istore (lv' := [(6, .int s0), (0, .ref x0), (1, .long x1), (3, .long x3), (5, .int x5)]) C dX16_readsGlobals_45 (pt_nl X (by decide)) rfl ?_
    refine pm_aload_n C dX16_readsGlobals_47 rfl rfl ?_
    obtain ⟨k24, hf⟩ := pm_if hf
    refine pm_getI C dX16_readsGlobals_48 flX16_251 rfl k24 rfl ?_
    obtain ⟨y25, e26, hf⟩ := pm_lt hf
    refine pm_topI e26 ?_
    refine pm_istore (lv' := [(7, .int y25), (6, .int s0), (0, .ref x0), (1, .long x1), (3, .long x3), (5, .int x5)]) C dX16_readsGlobals_51 (pt_nl X (by decide)) rfl ?_
    refine pm_aload_n C dX16_readsGlobals_53 rfl rfl ?_
    refine pm_iconst (v := 0) C dX16_readsGlobals_54 (by decide) ?_
    obtain ⟨v27, e28, hf⟩ := pm_bd hf
    refine pt_callVT (as := [.int 0]) (st := []) C X dX16_readsGlobals_55 ltX16_456 myX16_expression viX16_expression ⟨by decide, by decide⟩ rfl rfl k24 (Nat.le_of_ble_eq_true rfl) (Nat.le_refl _) (Nat.le_refl _) (ctX16_expression e28 ?_)
    rcases v27 with z30 | w29
    · have hf := pt_sl hf
      cases hf
      cases hi
      exact q
    have hf := pt_sr hf
    show pm_G g 58 [(7, .int y25), (6, .int s0), (0, .ref x0), (1, .long x1), (3, .long x3), (5, .int x5)] [] w29 0 0
    refine pm_lload_n C dX16_readsGlobals_58 rfl rfl ?_
    refine pm_ldc2 C dX16_readsGlobals_59 cnX16_363 ?_
    refine pm_lcmp C dX16_readsGlobals_62 ?_
    refine pm_if_ge (tgt := 102) C dX16_readsGlobals_63 (by decide) (fun c31 => ?_) (fun c31 => ?_)
    · have hf := pm_it hf ((pm_lg_ge _ _).mp c31)
      refine pm_lload_n C dX16_readsGlobals_102 rfl rfl ?_
      refine pm_lconst (v := 1) C dX16_readsGlobals_103 (by decide) ?_
      refine pm_ladd C dX16_readsGlobals_104 ?_
      obtain ⟨y32, e33, hf⟩ := pm_lt hf
      refine pm_topL e33 ?_
      refine pm_lstore_n (lv' := [(3, .long y32), (7, .int y25), (6, .int s0), (0, .ref x0), (1, .long x1), (5, .int x5)]) C dX16_readsGlobals_105 rfl (pt_nl X (by decide)) rfl ?_
      refine pm_goto (tgt := 19) C dX16_readsGlobals_106 (by decide) ?_
      cases hf
      exact pm_sub [3, 4, 0] rfl (ih.1 x0 x1 y32 w29 hi)
    · have hf := pm_ie hf ((fun z => c31 ((pm_lg_ge _ _).mpr z)))
      refine pm_aload_n C dX16_readsGlobals_66 rfl rfl ?_
      obtain ⟨k34, hf⟩ := pm_if hf
      obtain ⟨v35, e36, hf⟩ := pm_bd hf
      refine pm_getR C dX16_readsGlobals_67 flX16_221 rfl k34 e36 ?_
      obtain ⟨k37, hf⟩ := pm_if hf
      obtain ⟨v38, e39, hf⟩ := pm_bd hf
      refine pm_getR C dX16_readsGlobals_70 flX16_459 rfl k37 e39 ?_
      refine pm_lload_n C dX16_readsGlobals_73 rfl rfl ?_
      refine pm_l2i C dX16_readsGlobals_74 ?_
      refine pm_iload C dX16_readsGlobals_75 rfl ?_
      obtain ⟨k40, hf⟩ := pm_if hf
      obtain ⟨u41, hf⟩ := pm_if hf
      refine pm_iast C dX16_readsGlobals_77 k40 u41 ?_
      refine pm_aload_n C dX16_readsGlobals_78 rfl rfl ?_
      refine pm_getR C dX16_readsGlobals_79 flX16_221 rfl k34 e36 ?_
      obtain ⟨v42, e43, hf⟩ := pm_bd hf
      refine pm_getR C dX16_readsGlobals_82 flX16_462 rfl k37 e43 ?_
      refine pm_lload_n C dX16_readsGlobals_85 rfl rfl ?_
      refine pm_l2i C dX16_readsGlobals_86 ?_
      refine pm_iload C dX16_readsGlobals_87 rfl ?_
      obtain ⟨k44, hf⟩ := pm_if hf
      obtain ⟨u45, hf⟩ := pm_if hf
      refine pm_zast C dX16_readsGlobals_89 k44 u45 ?_
      refine pm_aload_n C dX16_readsGlobals_90 rfl rfl ?_
      refine pm_getR C dX16_readsGlobals_91 flX16_221 rfl k34 e36 ?_
      obtain ⟨v46, e47, hf⟩ := pm_bd hf
      refine pm_getR C dX16_readsGlobals_94 flX16_463 rfl k37 e47 ?_
      refine pm_lload_n C dX16_readsGlobals_97 rfl rfl ?_
      refine pm_l2i C dX16_readsGlobals_98 ?_
      refine pm_iload C dX16_readsGlobals_99 rfl ?_
      obtain ⟨k48, hf⟩ := pm_if hf
      obtain ⟨u49, hf⟩ := pm_if hf
      refine pm_iast C dX16_readsGlobals_101 k48 u49 ?_
      refine pm_lload_n C dX16_readsGlobals_102 rfl rfl ?_
      refine pm_lconst (v := 1) C dX16_readsGlobals_103 (by decide) ?_
      refine pm_ladd C dX16_readsGlobals_104 ?_
      obtain ⟨y50, e51, hf⟩ := pm_lt hf
      refine pm_topL e51 ?_
      refine pm_lstore_n (lv' := [(3, .long y50), (7, .int y25), (6, .int s0), (0, .ref x0), (1, .long x1), (5, .int x5)]) C dX16_readsGlobals_105 rfl (pt_nl X (by decide)) rfl ?_
      refine pm_goto (tgt := 19) C dX16_readsGlobals_106 (by decide) ?_
      cases hf
      exact pm_sub [3, 4, 0] rfl (ih.1 x0 x1 y50 (pm_setI (pm_setI (pm_setI w29 v38 x3.toInt32.toNatClampNeg x5) v42 x3.toInt32.toNatClampNeg (vp_nar .boolean s0)) v46 x3.toInt32.toNatClampNeg y25) hi)
set_option maxHeartbeats 4000000 in
set_option maxRecDepth 100000 in
theorem ctX16_readsGlobals {l : Launch} {G : pm_Gl} {h : pm_H} {a0 : Nat} {r : ((Nat × pm_H) ⊕ pm_H)} {Qr : Option Value → pm_H → Prop} {Qt : Nat → pm_H → Prop} (hf : fX16_readsGlobals h a0 = some r) (q : pt_eV Qr Qt r) : pm_Ctt l G mX16_readsGlobals [.ref a0] h 0 0 Qr Qt := by
  refine pm_bodyT pnX16 (Nat.le_of_ble_eq_true rfl) (fun g C X => ?_)
  have C : pm_C g cX16_readsGlobals RX16 := C
  show pm_G g 0 [(0, .ref a0)] [] h 0 0
  unfold fX16_readsGlobals at hf
  refine pm_aload_n C dX16_readsGlobals_0 rfl rfl ?_
  obtain ⟨k1, hf⟩ := pm_if hf
  obtain ⟨v2, e3, hf⟩ := pm_bd hf
  refine pt_callVT (as := []) (st := []) C X dX16_readsGlobals_1 ltX16_277 myX16_number viX16_number ⟨by decide, by decide⟩ rfl rfl k1 (Nat.le_of_ble_eq_true rfl) (Nat.le_refl _) (Nat.le_refl _) (ctX16_number e3 ?_)
  rcases v2 with z5 | w4
  · have hf := pt_kl hf
    cases hf
    exact q
  have hf := pt_kr hf
  show pm_G g 4 [(0, .ref a0)] [.long w4.1] w4.2 0 0
  refine pm_lstore_n (lv' := [(1, .long w4.1), (0, .ref a0)]) C dX16_readsGlobals_4 rfl (pt_nl X (by decide)) rfl ?_
  refine pm_aload_n C dX16_readsGlobals_5 rfl rfl ?_
  obtain ⟨k6, hf⟩ := pm_if hf
  obtain ⟨v7, e8, hf⟩ := pm_bd hf
  refine pm_getR C dX16_readsGlobals_6 flX16_221 rfl k6 e8 ?_
  refine pm_aload_n C dX16_readsGlobals_9 rfl rfl ?_
  refine pm_lload_n C dX16_readsGlobals_10 rfl rfl ?_
  obtain ⟨v9, e10, hf⟩ := pm_bd hf
  refine pt_callV (as := [.long w4.1]) (st := [.ref v7]) C X dX16_readsGlobals_11 lnX16_377 myX16_kept viX16_kept ⟨by decide, by decide⟩ rfl rfl k6 (Nat.le_of_ble_eq_true rfl) (Nat.le_refl _) (Nat.le_refl _) (ctX16_kept e10 ?_)
  show pm_G g 14 [(1, .long w4.1), (0, .ref a0)] [.int v9.1, .ref v7] v9.2 0 0
  obtain ⟨k11, hf⟩ := pm_if hf
  refine pm_putI C dX16_readsGlobals_14 flX16_453 rfl rfl k11 rfl rfl ?_
  refine pm_lconst (v := 0) C dX16_readsGlobals_17 (by decide) ?_
  refine pm_lstore_n (lv' := [(3, .long 0), (1, .long w4.1), (0, .ref a0)]) C dX16_readsGlobals_18 rfl (pt_nl X (by decide)) rfl ?_
  obtain ⟨n, hn⟩ := pm_lim_iter hf
  exact pm_sub [2, 1, 0] rfl ((lpX16_readsGlobals C X q n).1 a0 w4.1 0 (pm_setI v9.2 v7 24 v9.1) hn)
theorem dX16_checksBody_0 : decode cX16_checksBody 0 = .ok (.aload_n 0, 1) := by decide +kernel
theorem dX16_checksBody_1 : decode cX16_checksBody 1 = .ok (.iload_n 1, 1) := by decide +kernel
theorem dX16_checksBody_2 : decode cX16_checksBody 2 = .ok (.putfield 710, 3) := by decide +kernel
theorem dX16_checksBody_5 : decode cX16_checksBody 5 = .ok (.aload_n 0, 1) := by decide +kernel
theorem dX16_checksBody_6 : decode cX16_checksBody 6 = .ok (.aload_n 0, 1) := by decide +kernel
theorem dX16_checksBody_7 : decode cX16_checksBody 7 = .ok (.getfield 221, 3) := by decide +kernel
theorem dX16_checksBody_10 : decode cX16_checksBody 10 = .ok (.aload_n 0, 1) := by decide +kernel
theorem dX16_checksBody_11 : decode cX16_checksBody 11 = .ok (.getfield 221, 3) := by decide +kernel
theorem dX16_checksBody_14 : decode cX16_checksBody 14 = .ok (.iconst 0, 1) := by decide +kernel
theorem dX16_checksBody_15 : decode cX16_checksBody 15 = .ok (.invokevirtual 664, 3) := by decide +kernel
theorem dX16_checksBody_18 : decode cX16_checksBody 18 = .ok (.iload_n 1, 1) := by decide +kernel
theorem dX16_checksBody_19 : decode cX16_checksBody 19 = .ok (.iadd, 1) := by decide +kernel
theorem dX16_checksBody_20 : decode cX16_checksBody 20 = .ok (.invokevirtual 621, 3) := by decide +kernel
theorem dX16_checksBody_23 : decode cX16_checksBody 23 = .ok (.putfield 713, 3) := by decide +kernel
theorem dX16_checksBody_26 : decode cX16_checksBody 26 = .ok (.aload_n 0, 1) := by decide +kernel
theorem dX16_checksBody_27 : decode cX16_checksBody 27 = .ok (.iconst 0, 1) := by decide +kernel
theorem dX16_checksBody_28 : decode cX16_checksBody 28 = .ok (.putfield 685, 3) := by decide +kernel
theorem dX16_checksBody_31 : decode cX16_checksBody 31 = .ok (.aload_n 0, 1) := by decide +kernel
theorem dX16_checksBody_32 : decode cX16_checksBody 32 = .ok (.iconst 0, 1) := by decide +kernel
theorem dX16_checksBody_33 : decode cX16_checksBody 33 = .ok (.putfield 682, 3) := by decide +kernel
theorem dX16_checksBody_36 : decode cX16_checksBody 36 = .ok (.aload_n 0, 1) := by decide +kernel
theorem dX16_checksBody_37 : decode cX16_checksBody 37 = .ok (.iconst 0, 1) := by decide +kernel
theorem dX16_checksBody_38 : decode cX16_checksBody 38 = .ok (.aload_n 0, 1) := by decide +kernel
theorem dX16_checksBody_39 : decode cX16_checksBody 39 = .ok (.getfield 713, 3) := by decide +kernel
theorem dX16_checksBody_42 : decode cX16_checksBody 42 = .ok (.i2l, 1) := by decide +kernel
theorem dX16_checksBody_43 : decode cX16_checksBody 43 = .ok (.invokevirtual 716, 3) := by decide +kernel
theorem dX16_checksBody_46 : decode cX16_checksBody 46 = .ok (.iconst 0, 1) := by decide +kernel
theorem dX16_checksBody_47 : decode cX16_checksBody 47 = .ok (.istore_n 2, 1) := by decide +kernel
theorem dX16_checksBody_48 : decode cX16_checksBody 48 = .ok (.aload_n 0, 1) := by decide +kernel
theorem dX16_checksBody_49 : decode cX16_checksBody 49 = .ok (.getfield 221, 3) := by decide +kernel
theorem dX16_checksBody_52 : decode cX16_checksBody 52 = .ok (.getfield 523, 3) := by decide +kernel
theorem dX16_checksBody_55 : decode cX16_checksBody 55 = .ok (.iload_n 1, 1) := by decide +kernel
theorem dX16_checksBody_56 : decode cX16_checksBody 56 = .ok (.iaload, 1) := by decide +kernel
theorem dX16_checksBody_57 : decode cX16_checksBody 57 = .ok (.istore_n 3, 1) := by decide +kernel
theorem dX16_checksBody_58 : decode cX16_checksBody 58 = .ok (.aload_n 0, 1) := by decide +kernel
theorem dX16_checksBody_59 : decode cX16_checksBody 59 = .ok (.getfield 682, 3) := by decide +kernel
theorem dX16_checksBody_62 : decode cX16_checksBody 62 = .ok (.ifCond .le 81, 3) := by decide +kernel
theorem dX16_checksBody_65 : decode cX16_checksBody 65 = .ok (.aload_n 0, 1) := by decide +kernel
theorem dX16_checksBody_66 : decode cX16_checksBody 66 = .ok (.iload_n 3, 1) := by decide +kernel
theorem dX16_checksBody_67 : decode cX16_checksBody 67 = .ok (.putfield 686, 3) := by decide +kernel
theorem dX16_checksBody_70 : decode cX16_checksBody 70 = .ok (.aload_n 0, 1) := by decide +kernel
theorem dX16_checksBody_71 : decode cX16_checksBody 71 = .ok (.getfield 221, 3) := by decide +kernel
theorem dX16_checksBody_74 : decode cX16_checksBody 74 = .ok (.iload_n 3, 1) := by decide +kernel
theorem dX16_checksBody_75 : decode cX16_checksBody 75 = .ok (.invokevirtual 261, 3) := by decide +kernel
theorem dX16_checksBody_78 : decode cX16_checksBody 78 = .ok (.istore 4, 2) := by decide +kernel
theorem dX16_checksBody_80 : decode cX16_checksBody 80 = .ok (.aload_n 0, 1) := by decide +kernel
theorem dX16_checksBody_81 : decode cX16_checksBody 81 = .ok (.iload_n 3, 1) := by decide +kernel
theorem dX16_checksBody_82 : decode cX16_checksBody 82 = .ok (.iload 4, 2) := by decide +kernel
theorem dX16_checksBody_84 : decode cX16_checksBody 84 = .ok (.invokevirtual 720, 3) := by decide +kernel
theorem dX16_checksBody_87 : decode cX16_checksBody 87 = .ok (.ifCond .ne 10, 3) := by decide +kernel
theorem dX16_checksBody_90 : decode cX16_checksBody 90 = .ok (.aload_n 0, 1) := by decide +kernel
theorem dX16_checksBody_91 : decode cX16_checksBody 91 = .ok (.bipush 30, 2) := by decide +kernel
theorem dX16_checksBody_93 : decode cX16_checksBody 93 = .ok (.iload_n 3, 1) := by decide +kernel
theorem dX16_checksBody_94 : decode cX16_checksBody 94 = .ok (.invokevirtual 257, 3) := by decide +kernel
theorem dX16_checksBody_97 : decode cX16_checksBody 97 = .ok (.aload_n 0, 1) := by decide +kernel
theorem dX16_checksBody_98 : decode cX16_checksBody 98 = .ok (.iload_n 3, 1) := by decide +kernel
theorem dX16_checksBody_99 : decode cX16_checksBody 99 = .ok (.iconst 1, 1) := by decide +kernel
theorem dX16_checksBody_100 : decode cX16_checksBody 100 = .ok (.iadd, 1) := by decide +kernel
theorem dX16_checksBody_101 : decode cX16_checksBody 101 = .ok (.putfield 594, 3) := by decide +kernel
theorem dX16_checksBody_104 : decode cX16_checksBody 104 = .ok (.aload_n 0, 1) := by decide +kernel
theorem dX16_checksBody_105 : decode cX16_checksBody 105 = .ok (.iload 4, 2) := by decide +kernel
theorem dX16_checksBody_107 : decode cX16_checksBody 107 = .ok (.invokevirtual 723, 3) := by decide +kernel
theorem dX16_checksBody_110 : decode cX16_checksBody 110 = .ok (.aload_n 0, 1) := by decide +kernel
theorem dX16_checksBody_111 : decode cX16_checksBody 111 = .ok (.iload_n 3, 1) := by decide +kernel
theorem dX16_checksBody_112 : decode cX16_checksBody 112 = .ok (.invokevirtual 655, 3) := by decide +kernel
theorem dX16_checksBody_115 : decode cX16_checksBody 115 = .ok (.istore_n 3, 1) := by decide +kernel
theorem dX16_checksBody_116 : decode cX16_checksBody 116 = .ok (.aload_n 0, 1) := by decide +kernel
theorem dX16_checksBody_117 : decode cX16_checksBody 117 = .ok (.getfield 682, 3) := by decide +kernel
theorem dX16_checksBody_120 : decode cX16_checksBody 120 = .ok (.ifCond .le 18, 3) := by decide +kernel
theorem dX16_checksBody_123 : decode cX16_checksBody 123 = .ok (.aload_n 0, 1) := by decide +kernel
theorem dX16_checksBody_124 : decode cX16_checksBody 124 = .ok (.getfield 685, 3) := by decide +kernel
theorem dX16_checksBody_127 : decode cX16_checksBody 127 = .ok (.iload_n 2, 1) := by decide +kernel
theorem dX16_checksBody_128 : decode cX16_checksBody 128 = .ok (.if_icmp .le 10, 3) := by decide +kernel
theorem dX16_checksBody_131 : decode cX16_checksBody 131 = .ok (.aload_n 0, 1) := by decide +kernel
theorem dX16_checksBody_132 : decode cX16_checksBody 132 = .ok (.getfield 685, 3) := by decide +kernel
theorem dX16_checksBody_135 : decode cX16_checksBody 135 = .ok (.goto 4, 3) := by decide +kernel
theorem dX16_checksBody_138 : decode cX16_checksBody 138 = .ok (.iload_n 2, 1) := by decide +kernel
theorem dX16_checksBody_139 : decode cX16_checksBody 139 = .ok (.istore_n 2, 1) := by decide +kernel
theorem dX16_checksBody_140 : decode cX16_checksBody 140 = .ok (.goto (-82), 3) := by decide +kernel
theorem dX16_checksBody_143 : decode cX16_checksBody 143 = .ok (.aload_n 0, 1) := by decide +kernel
theorem dX16_checksBody_144 : decode cX16_checksBody 144 = .ok (.getfield 221, 3) := by decide +kernel
theorem dX16_checksBody_147 : decode cX16_checksBody 147 = .ok (.getfield 726, 3) := by decide +kernel
theorem dX16_checksBody_150 : decode cX16_checksBody 150 = .ok (.iload_n 1, 1) := by decide +kernel
theorem dX16_checksBody_151 : decode cX16_checksBody 151 = .ok (.iload_n 2, 1) := by decide +kernel
theorem dX16_checksBody_152 : decode cX16_checksBody 152 = .ok (.iastore, 1) := by decide +kernel
theorem dX16_checksBody_153 : decode cX16_checksBody 153 = .ok (.return_, 1) := by decide +kernel
noncomputable def tX16_checksBody_58 (x0 : Nat) (x1 : Int32) (x2 : Int32) (x3 : Int32) (h : pm_H) : Option (((Nat × Int32 × Int32 × Int32 × pm_H)) ⊕ ((Nat × pm_H) ⊕ pm_H)) := if pm_kd h x0 = 16 then if (pm_I h x0 24) ≤ 0 then ((pm_R h x0 10).bind fun v25 => if pm_kd h v25 = 14 then (pm_R h v25 55).bind fun v28 => if pm_kd h v28 = 34 then if pm_in x1 (pm_ln h v28) then some (.inr (.inr (pm_setI h v28 x1.toNatClampNeg x2))) else none else none else none) else ((pm_R (pm_setI h x0 31 x3) x0 10).bind fun v32 => if pm_kd (pm_setI h x0 31 x3) v32 = 14 then (fX14_at (pm_setI h x0 31 x3) v32 x3).bind fun v35 => (fX16_isNamed (pm_setI h x0 31 x3) x0 x3 v35).bind fun v37 => if v37.1 = 0 then (if pm_kd v37.2 x0 = 16 then (fX16_stops v37.2 x0 30 x3).bind fun v56 => pt_s v56 fun w58 => pm_let (x3 + 1) fun y60 => if pm_kd w58 x0 = 16 then (fX16_goesTogether (pm_setI w58 x0 19 y60) x0 v35).bind fun v63 => pt_s v63 fun w65 => if pm_kd w65 x0 = 16 then (fX16_behind w65 x0 x3).bind fun v68 => if pm_kd v68.2 x0 = 16 then if (pm_I v68.2 x0 24) ≤ 0 then (some (.inl ((x0, x1, x2, v68.1, v68.2)))) else (if (pm_I v68.2 x0 23) ≤ x2 then (some (.inl ((x0, x1, x2, v68.1, v68.2)))) else (pm_let (pm_I v68.2 x0 23) fun y73 => some (.inl ((x0, x1, y73, v68.1, v68.2))))) else none else none else none else none) else (pm_let (x3 + 1) fun y40 => if pm_kd v37.2 x0 = 16 then (fX16_goesTogether (pm_setI v37.2 x0 19 y40) x0 v35).bind fun v43 => pt_s v43 fun w45 => if pm_kd w45 x0 = 16 then (fX16_behind w45 x0 x3).bind fun v48 => if pm_kd v48.2 x0 = 16 then if (pm_I v48.2 x0 24) ≤ 0 then (some (.inl ((x0, x1, x2, v48.1, v48.2)))) else (if (pm_I v48.2 x0 23) ≤ x2 then (some (.inl ((x0, x1, x2, v48.1, v48.2)))) else (pm_let (pm_I v48.2 x0 23) fun y53 => some (.inl ((x0, x1, y53, v48.1, v48.2))))) else none else none else none) else none) else none
noncomputable def sX16_checksBody : ((Nat × Int32 × Int32 × Int32 × pm_H)) → Option (((Nat × Int32 × Int32 × Int32 × pm_H)) ⊕ ((Nat × pm_H) ⊕ pm_H)) := fun z => match z with
  | (x0, x1, x2, x3, h) => tX16_checksBody_58 x0 x1 x2 x3 h
noncomputable def fX16_checksBody (h : pm_H) (a0 : Nat) (p1 : Int32) : Option ((Nat × pm_H) ⊕ pm_H) := if pm_kd h a0 = 16 then (pm_R (pm_setI h a0 29 p1) a0 10).bind fun v2 => if pm_kd (pm_setI h a0 29 p1) v2 = 14 then (fX14_imported (pm_setI h a0 29 p1) v2 0).bind fun v5 => (fX14_typeOfFunction (pm_setI h a0 29 p1) v2 (v5 + p1)).bind fun v7 => (fX16_begins (pm_setI (pm_setI (pm_setI (pm_setI h a0 29 p1) a0 30 v7) a0 23 0) a0 24 0) a0 0 ((pm_I (pm_setI (pm_setI (pm_setI (pm_setI h a0 29 p1) a0 30 v7) a0 23 0) a0 24 0) a0 30).toInt64)).bind fun v9 => pt_k v9 fun w11 => if pm_kd w11 a0 = 16 then (pm_R w11 a0 10).bind fun v14 => if pm_kd w11 v14 = 14 then (pm_R w11 v14 53).bind fun v17 => if pm_kd w11 v17 = 34 then if pm_in p1 (pm_ln w11 v17) then pm_let (pm_I w11 v17 p1.toNatClampNeg) fun y21 => pm_lim sX16_checksBody ((a0, p1, 0, y21, w11)) else none else none else none else none else none else none
set_option maxHeartbeats 4000000 in
set_option maxRecDepth 100000 in
theorem lpX16_checksBody {g : pm_Gm} {l : Launch} {G : pm_Gl} {Qr : Option Value → pm_H → Prop} {Qt : Nat → pm_H → Prop} (C : pm_C g cX16_checksBody RX16) (X : pm_XT g l G mX16_checksBody 0 0 Qr Qt) {r : ((Nat × pm_H) ⊕ pm_H)} (q : pt_eV Qr Qt r) : ∀ n : Nat, (∀ (x0 : Nat) (x1 : Int32) (x2 : Int32) (x3 : Int32) (h : pm_H), pm_iter sX16_checksBody n (x0, x1, x2, x3, h) = some r → pm_G g 58 [(0, .ref x0), (1, .int x1), (2, .int x2), (3, .int x3)] [] h 0 0) := by
  intro n
  induction n with
  | zero => exact fun _ _ _ _ _ hf => (by cases hf)
  | succ n ih =>
    refine fun x0 x1 x2 x3 h hf => ?_
    obtain ⟨y, hf, hi⟩ := pm_iter_s hf
    have hf : tX16_checksBody_58 x0 x1 x2 x3 h = some y := hf
    unfold tX16_checksBody_58 at hf
    refine pm_aload_n C dX16_checksBody_58 rfl rfl ?_
    obtain ⟨k23, hf⟩ := pm_if hf
    refine pm_getI C dX16_checksBody_59 flX16_682 rfl k23 rfl ?_
    refine pm_if_le (tgt := 143) C dX16_checksBody_62 (by decide) (fun c24 => ?_) (fun c24 => ?_)
    · have hf := pm_it hf c24
      refine pm_aload_n C dX16_checksBody_143 rfl rfl ?_
      obtain ⟨v25, e26, hf⟩ := pm_bd hf
      refine pm_getR C dX16_checksBody_144 flX16_221 rfl k23 e26 ?_
      obtain ⟨k27, hf⟩ := pm_if hf
      obtain ⟨v28, e29, hf⟩ := pm_bd hf
      refine pm_getR C dX16_checksBody_147 flX16_726 rfl k27 e29 ?_
      refine pm_iload_n C dX16_checksBody_150 rfl rfl ?_
      refine pm_iload_n C dX16_checksBody_151 rfl rfl ?_
      obtain ⟨k30, hf⟩ := pm_if hf
      obtain ⟨u31, hf⟩ := pm_if hf
      refine pm_iast C dX16_checksBody_152 k30 u31 ?_
      cases hf
      cases hi
      exact pt_vret C X dX16_checksBody_153 rfl (Nat.le_refl _) (Nat.le_refl _) q
    · have hf := pm_ie hf c24
      refine pm_aload_n C dX16_checksBody_65 rfl rfl ?_
      refine pm_iload_n C dX16_checksBody_66 rfl rfl ?_
      refine pm_putI C dX16_checksBody_67 flX16_686 rfl rfl k23 rfl rfl ?_
      refine pm_aload_n C dX16_checksBody_70 rfl rfl ?_
      obtain ⟨v32, e33, hf⟩ := pm_bd hf
      refine pm_getR C dX16_checksBody_71 flX16_221 rfl k23 e33 ?_
      refine pm_iload_n C dX16_checksBody_74 rfl rfl ?_
      obtain ⟨k34, hf⟩ := pm_if hf
      obtain ⟨v35, e36, hf⟩ := pm_bd hf
      refine pt_callV (as := [.int x3]) (st := []) C X dX16_checksBody_75 lnX16_261 myX14_at viX14_at ⟨by decide, by decide⟩ rfl rfl k34 (Nat.le_of_ble_eq_true rfl) (Nat.le_refl _) (Nat.le_refl _) (ctX14_at e36 ?_)
      show pm_G g 78 [(0, .ref x0), (1, .int x1), (2, .int x2), (3, .int x3)] [.int v35] (pm_setI h x0 31 x3) 0 0
      refine pm_istore (lv' := [(4, .int v35), (0, .ref x0), (1, .int x1), (2, .int x2), (3, .int x3)]) C dX16_checksBody_78 (pt_nl X (by decide)) rfl ?_
      refine pm_aload_n C dX16_checksBody_80 rfl rfl ?_
      refine pm_iload_n C dX16_checksBody_81 rfl rfl ?_
      refine pm_iload C dX16_checksBody_82 rfl ?_
      obtain ⟨v37, e38, hf⟩ := pm_bd hf
      refine pt_callV (as := [.int x3, .int v35]) (st := []) C X dX16_checksBody_84 lnX16_720 myX16_isNamed viX16_isNamed ⟨by decide, by decide⟩ rfl rfl k23 (Nat.le_of_ble_eq_true rfl) (Nat.le_refl _) (Nat.le_refl _) (ctX16_isNamed e38 ?_)
      show pm_G g 87 [(4, .int v35), (0, .ref x0), (1, .int x1), (2, .int x2), (3, .int x3)] [.int v37.1] v37.2 0 0
      refine pm_if_ne (tgt := 97) C dX16_checksBody_87 (by decide) (fun c39 => ?_) (fun c39 => ?_)
      · have hf := pm_ie hf c39
        refine pm_aload_n C dX16_checksBody_97 rfl rfl ?_
        refine pm_iload_n C dX16_checksBody_98 rfl rfl ?_
        refine pm_iconst (v := 1) C dX16_checksBody_99 (by decide) ?_
        refine pm_iadd C dX16_checksBody_100 ?_
        obtain ⟨y40, e41, hf⟩ := pm_lt hf
        refine pm_topI e41 ?_
        obtain ⟨k42, hf⟩ := pm_if hf
        refine pm_putI C dX16_checksBody_101 flX16_594 rfl rfl k42 rfl rfl ?_
        refine pm_aload_n C dX16_checksBody_104 rfl rfl ?_
        refine pm_iload C dX16_checksBody_105 rfl ?_
        obtain ⟨v43, e44, hf⟩ := pm_bd hf
        refine pt_callVT (as := [.int v35]) (st := []) C X dX16_checksBody_107 ltX16_723 myX16_goesTogether viX16_goesTogether ⟨by decide, by decide⟩ rfl rfl k42 (Nat.le_of_ble_eq_true rfl) (Nat.le_refl _) (Nat.le_refl _) (ctX16_goesTogether e44 ?_)
        rcases v43 with z46 | w45
        · have hf := pt_sl hf
          cases hf
          cases hi
          exact q
        have hf := pt_sr hf
        show pm_G g 110 [(4, .int v35), (0, .ref x0), (1, .int x1), (2, .int x2), (3, .int x3)] [] w45 0 0
        refine pm_aload_n C dX16_checksBody_110 rfl rfl ?_
        refine pm_iload_n C dX16_checksBody_111 rfl rfl ?_
        obtain ⟨k47, hf⟩ := pm_if hf
        obtain ⟨v48, e49, hf⟩ := pm_bd hf
        refine pt_callV (as := [.int x3]) (st := []) C X dX16_checksBody_112 lnX16_655 myX16_behind viX16_behind ⟨by decide, by decide⟩ rfl rfl k47 (Nat.le_of_ble_eq_true rfl) (Nat.le_refl _) (Nat.le_refl _) (ctX16_behind e49 ?_)
        show pm_G g 115 [(4, .int v35), (0, .ref x0), (1, .int x1), (2, .int x2), (3, .int x3)] [.int v48.1] v48.2 0 0
        refine pm_istore_n (lv' := [(3, .int v48.1), (4, .int v35), (0, .ref x0), (1, .int x1), (2, .int x2)]) C dX16_checksBody_115 rfl (pt_nl X (by decide)) rfl ?_
        refine pm_aload_n C dX16_checksBody_116 rfl rfl ?_
        obtain ⟨k50, hf⟩ := pm_if hf
        refine pm_getI C dX16_checksBody_117 flX16_682 rfl k50 rfl ?_
        refine pm_if_le (tgt := 138) C dX16_checksBody_120 (by decide) (fun c51 => ?_) (fun c51 => ?_)
        · have hf := pm_it hf c51
          refine pm_iload_n C dX16_checksBody_138 rfl rfl ?_
          refine pm_istore_n (lv' := [(2, .int x2), (3, .int v48.1), (4, .int v35), (0, .ref x0), (1, .int x1)]) C dX16_checksBody_139 rfl (pt_nl X (by decide)) rfl ?_
          refine pm_goto (tgt := 58) C dX16_checksBody_140 (by decide) ?_
          cases hf
          exact pm_sub [3, 4, 0, 1] rfl (ih x0 x1 x2 v48.1 v48.2 hi)
        · have hf := pm_ie hf c51
          refine pm_aload_n C dX16_checksBody_123 rfl rfl ?_
          refine pm_getI C dX16_checksBody_124 flX16_685 rfl k50 rfl ?_
          refine pm_iload_n C dX16_checksBody_127 rfl rfl ?_
          refine pm_icmp_le (tgt := 138) C dX16_checksBody_128 (by decide) (fun c52 => ?_) (fun c52 => ?_)
          · have hf := pm_it hf c52
            refine pm_iload_n C dX16_checksBody_138 rfl rfl ?_
            refine pm_istore_n (lv' := [(2, .int x2), (3, .int v48.1), (4, .int v35), (0, .ref x0), (1, .int x1)]) C dX16_checksBody_139 rfl (pt_nl X (by decide)) rfl ?_
            refine pm_goto (tgt := 58) C dX16_checksBody_140 (by decide) ?_
            cases hf
            exact pm_sub [3, 4, 0, 1] rfl (ih x0 x1 x2 v48.1 v48.2 hi)
          · have hf := pm_ie hf c52
            refine pm_aload_n C dX16_checksBody_131 rfl rfl ?_
            refine pm_getI C dX16_checksBody_132 flX16_685 rfl k50 rfl ?_
            refine pm_goto (tgt := 139) C dX16_checksBody_135 (by decide) ?_
            obtain ⟨y53, e54, hf⟩ := pm_lt hf
            refine pm_topI e54 ?_
            refine pm_istore_n (lv' := [(2, .int y53), (3, .int v48.1), (4, .int v35), (0, .ref x0), (1, .int x1)]) C dX16_checksBody_139 rfl (pt_nl X (by decide)) rfl ?_
            refine pm_goto (tgt := 58) C dX16_checksBody_140 (by decide) ?_
            cases hf
            exact pm_sub [3, 4, 0, 1] rfl (ih x0 x1 y53 v48.1 v48.2 hi)
      · have hf := pm_it hf c39
        refine pm_aload_n C dX16_checksBody_90 rfl rfl ?_
        refine pm_bipush (v := 30) C dX16_checksBody_91 (by decide) ?_
        refine pm_iload_n C dX16_checksBody_93 rfl rfl ?_
        obtain ⟨k55, hf⟩ := pm_if hf
        obtain ⟨v56, e57, hf⟩ := pm_bd hf
        refine pt_callVT (as := [.int 30, .int x3]) (st := []) C X dX16_checksBody_94 ltX16_257 myX16_stops viX16_stops ⟨by decide, by decide⟩ rfl rfl k55 (Nat.le_of_ble_eq_true rfl) (Nat.le_refl _) (Nat.le_refl _) (ctX16_stops e57 ?_)
        rcases v56 with z59 | w58
        · have hf := pt_sl hf
          cases hf
          cases hi
          exact q
        have hf := pt_sr hf
        show pm_G g 97 [(4, .int v35), (0, .ref x0), (1, .int x1), (2, .int x2), (3, .int x3)] [] w58 0 0
        refine pm_aload_n C dX16_checksBody_97 rfl rfl ?_
        refine pm_iload_n C dX16_checksBody_98 rfl rfl ?_
        refine pm_iconst (v := 1) C dX16_checksBody_99 (by decide) ?_
        refine pm_iadd C dX16_checksBody_100 ?_
        obtain ⟨y60, e61, hf⟩ := pm_lt hf
        refine pm_topI e61 ?_
        obtain ⟨k62, hf⟩ := pm_if hf
        refine pm_putI C dX16_checksBody_101 flX16_594 rfl rfl k62 rfl rfl ?_
        refine pm_aload_n C dX16_checksBody_104 rfl rfl ?_
        refine pm_iload C dX16_checksBody_105 rfl ?_
        obtain ⟨v63, e64, hf⟩ := pm_bd hf
        refine pt_callVT (as := [.int v35]) (st := []) C X dX16_checksBody_107 ltX16_723 myX16_goesTogether viX16_goesTogether ⟨by decide, by decide⟩ rfl rfl k62 (Nat.le_of_ble_eq_true rfl) (Nat.le_refl _) (Nat.le_refl _) (ctX16_goesTogether e64 ?_)
        rcases v63 with z66 | w65
        · have hf := pt_sl hf
          cases hf
          cases hi
          exact q
        have hf := pt_sr hf
        show pm_G g 110 [(4, .int v35), (0, .ref x0), (1, .int x1), (2, .int x2), (3, .int x3)] [] w65 0 0
        refine pm_aload_n C dX16_checksBody_110 rfl rfl ?_
        refine pm_iload_n C dX16_checksBody_111 rfl rfl ?_
        obtain ⟨k67, hf⟩ := pm_if hf
        obtain ⟨v68, e69, hf⟩ := pm_bd hf
        refine pt_callV (as := [.int x3]) (st := []) C X dX16_checksBody_112 lnX16_655 myX16_behind viX16_behind ⟨by decide, by decide⟩ rfl rfl k67 (Nat.le_of_ble_eq_true rfl) (Nat.le_refl _) (Nat.le_refl _) (ctX16_behind e69 ?_)
        show pm_G g 115 [(4, .int v35), (0, .ref x0), (1, .int x1), (2, .int x2), (3, .int x3)] [.int v68.1] v68.2 0 0
        refine pm_istore_n (lv' := [(3, .int v68.1), (4, .int v35), (0, .ref x0), (1, .int x1), (2, .int x2)]) C dX16_checksBody_115 rfl (pt_nl X (by decide)) rfl ?_
        refine pm_aload_n C dX16_checksBody_116 rfl rfl ?_
        obtain ⟨k70, hf⟩ := pm_if hf
        refine pm_getI C dX16_checksBody_117 flX16_682 rfl k70 rfl ?_
        refine pm_if_le (tgt := 138) C dX16_checksBody_120 (by decide) (fun c71 => ?_) (fun c71 => ?_)
        · have hf := pm_it hf c71
          refine pm_iload_n C dX16_checksBody_138 rfl rfl ?_
          refine pm_istore_n (lv' := [(2, .int x2), (3, .int v68.1), (4, .int v35), (0, .ref x0), (1, .int x1)]) C dX16_checksBody_139 rfl (pt_nl X (by decide)) rfl ?_
          refine pm_goto (tgt := 58) C dX16_checksBody_140 (by decide) ?_
          cases hf
          exact pm_sub [3, 4, 0, 1] rfl (ih x0 x1 x2 v68.1 v68.2 hi)
        · have hf := pm_ie hf c71
          refine pm_aload_n C dX16_checksBody_123 rfl rfl ?_
          refine pm_getI C dX16_checksBody_124 flX16_685 rfl k70 rfl ?_
          refine pm_iload_n C dX16_checksBody_127 rfl rfl ?_
          refine pm_icmp_le (tgt := 138) C dX16_checksBody_128 (by decide) (fun c72 => ?_) (fun c72 => ?_)
          · have hf := pm_it hf c72
            refine pm_iload_n C dX16_checksBody_138 rfl rfl ?_
            refine pm_istore_n (lv' := [(2, .int x2), (3, .int v68.1), (4, .int v35), (0, .ref x0), (1, .int x1)]) C dX16_checksBody_139 rfl (pt_nl X (by decide)) rfl ?_
            refine pm_goto (tgt := 58) C dX16_checksBody_140 (by decide) ?_
            cases hf
            exact pm_sub [3, 4, 0, 1] rfl (ih x0 x1 x2 v68.1 v68.2 hi)
          · have hf := pm_ie hf c72
            refine pm_aload_n C dX16_checksBody_131 rfl rfl ?_
            refine pm_getI C dX16_checksBody_132 flX16_685 rfl k70 rfl ?_
            refine pm_goto (tgt := 139) C dX16_checksBody_135 (by decide) ?_
            obtain ⟨y73, e74, hf⟩ := pm_lt hf
            refine pm_topI e74 ?_
            refine pm_istore_n (lv' := [(2, .int y73), (3, .int v68.1), (4, .int v35), (0, .ref x0), (1, .int x1)]) C dX16_checksBody_139 rfl (pt_nl X (by decide)) rfl ?_
            refine pm_goto (tgt := 58) C dX16_checksBody_140 (by decide) ?_
            cases hf
            exact pm_sub [3, 4, 0, 1] rfl (ih x0 x1 y73 v68.1 v68.2 hi)
set_option maxHeartbeats 4000000 in
set_option maxRecDepth 100000 in
theorem ctX16_checksBody {l : Launch} {G : pm_Gl} {h : pm_H} {a0 : Nat} {p1 : Int32} {r : ((Nat × pm_H) ⊕ pm_H)} {Qr : Option Value → pm_H → Prop} {Qt : Nat → pm_H → Prop} (hf : fX16_checksBody h a0 p1 = some r) (q : pt_eV Qr Qt r) : pm_Ctt l G mX16_checksBody [.ref a0, .int p1] h 0 0 Qr Qt := by
  refine pm_bodyT pnX16 (Nat.le_of_ble_eq_true rfl) (fun g C X => ?_)
  have C : pm_C g cX16_checksBody RX16 := C
  show pm_G g 0 [(0, .ref a0), (1, .int p1)] [] h 0 0
  unfold fX16_checksBody at hf
  refine pm_aload_n C dX16_checksBody_0 rfl rfl ?_
  refine pm_iload_n C dX16_checksBody_1 rfl rfl ?_
  obtain ⟨k1, hf⟩ := pm_if hf
  refine pm_putI C dX16_checksBody_2 flX16_710 rfl rfl k1 rfl rfl ?_
  refine pm_aload_n C dX16_checksBody_5 rfl rfl ?_
  refine pm_aload_n C dX16_checksBody_6 rfl rfl ?_
  obtain ⟨v2, e3, hf⟩ := pm_bd hf
  refine pm_getR C dX16_checksBody_7 flX16_221 rfl k1 e3 ?_
  refine pm_aload_n C dX16_checksBody_10 rfl rfl ?_
  refine pm_getR C dX16_checksBody_11 flX16_221 rfl k1 e3 ?_
  refine pm_iconst (v := 0) C dX16_checksBody_14 (by decide) ?_
  obtain ⟨k4, hf⟩ := pm_if hf
  obtain ⟨v5, e6, hf⟩ := pm_bd hf
  refine pt_callV (as := [.int 0]) (st := [.ref v2, .ref a0]) C X dX16_checksBody_15 lnX16_664 myX14_imported viX14_imported ⟨by decide, by decide⟩ rfl rfl k4 (Nat.le_of_ble_eq_true rfl) (Nat.le_refl _) (Nat.le_refl _) (ctX14_imported e6 ?_)
  show pm_G g 18 [(0, .ref a0), (1, .int p1)] [.int v5, .ref v2, .ref a0] (pm_setI h a0 29 p1) 0 0
  refine pm_iload_n C dX16_checksBody_18 rfl rfl ?_
  refine pm_iadd C dX16_checksBody_19 ?_
  obtain ⟨v7, e8, hf⟩ := pm_bd hf
  refine pt_callV (as := [.int (v5 + p1)]) (st := [.ref a0]) C X dX16_checksBody_20 lnX16_621 myX14_typeOfFunction viX14_typeOfFunction ⟨by decide, by decide⟩ rfl rfl k4 (Nat.le_of_ble_eq_true rfl) (Nat.le_refl _) (Nat.le_refl _) (ctX14_typeOfFunction e8 ?_)
  show pm_G g 23 [(0, .ref a0), (1, .int p1)] [.int v7, .ref a0] (pm_setI h a0 29 p1) 0 0
  refine pm_putI C dX16_checksBody_23 flX16_713 rfl rfl k1 rfl rfl ?_
  refine pm_aload_n C dX16_checksBody_26 rfl rfl ?_
  refine pm_iconst (v := 0) C dX16_checksBody_27 (by decide) ?_
  refine pm_putI C dX16_checksBody_28 flX16_685 rfl rfl k1 rfl rfl ?_
  refine pm_aload_n C dX16_checksBody_31 rfl rfl ?_
  refine pm_iconst (v := 0) C dX16_checksBody_32 (by decide) ?_
  refine pm_putI C dX16_checksBody_33 flX16_682 rfl rfl k1 rfl rfl ?_
  refine pm_aload_n C dX16_checksBody_36 rfl rfl ?_
  refine pm_iconst (v := 0) C dX16_checksBody_37 (by decide) ?_
  refine pm_aload_n C dX16_checksBody_38 rfl rfl ?_
  refine pm_getI C dX16_checksBody_39 flX16_713 rfl k1 rfl ?_
  refine pm_i2l C dX16_checksBody_42 ?_
  obtain ⟨v9, e10, hf⟩ := pm_bd hf
  refine pt_callVT (as := [.int 0, .long ((pm_I (pm_setI (pm_setI (pm_setI (pm_setI h a0 29 p1) a0 30 v7) a0 23 0) a0 24 0) a0 30).toInt64)]) (st := []) C X dX16_checksBody_43 ltX16_716 myX16_begins viX16_begins ⟨by decide, by decide⟩ rfl rfl k1 (Nat.le_of_ble_eq_true rfl) (Nat.le_refl _) (Nat.le_refl _) (ctX16_begins e10 ?_)
  rcases v9 with z12 | w11
  · have hf := pt_kl hf
    cases hf
    exact q
  have hf := pt_kr hf
  show pm_G g 46 [(0, .ref a0), (1, .int p1)] [] w11 0 0
  refine pm_iconst (v := 0) C dX16_checksBody_46 (by decide) ?_
  refine pm_istore_n (lv' := [(2, .int 0), (0, .ref a0), (1, .int p1)]) C dX16_checksBody_47 rfl (pt_nl X (by decide)) rfl ?_
  refine pm_aload_n C dX16_checksBody_48 rfl rfl ?_
  obtain ⟨k13, hf⟩ := pm_if hf
  obtain ⟨v14, e15, hf⟩ := pm_bd hf
  refine pm_getR C dX16_checksBody_49 flX16_221 rfl k13 e15 ?_
  obtain ⟨k16, hf⟩ := pm_if hf
  obtain ⟨v17, e18, hf⟩ := pm_bd hf
  refine pm_getR C dX16_checksBody_52 flX16_523 rfl k16 e18 ?_
  refine pm_iload_n C dX16_checksBody_55 rfl rfl ?_
  obtain ⟨k19, hf⟩ := pm_if hf
  obtain ⟨u20, hf⟩ := pm_if hf
  refine pm_iald C dX16_checksBody_56 k19 u20 rfl ?_
  obtain ⟨y21, e22, hf⟩ := pm_lt hf
  refine pm_topI e22 ?_
  refine pm_istore_n (lv' := [(3, .int y21), (2, .int 0), (0, .ref a0), (1, .int p1)]) C dX16_checksBody_57 rfl (pt_nl X (by decide)) rfl ?_
  obtain ⟨n, hn⟩ := pm_lim_iter hf
  exact pm_sub [2, 3, 1, 0] rfl ((lpX16_checksBody C X q n) a0 p1 0 y21 w11 hn)
theorem dX16_readsBodies_0 : decode cX16_readsBodies 0 = .ok (.aload_n 0, 1) := by decide +kernel
theorem dX16_readsBodies_1 : decode cX16_readsBodies 1 = .ok (.invokevirtual 277, 3) := by decide +kernel
theorem dX16_readsBodies_4 : decode cX16_readsBodies 4 = .ok (.lstore_n 1, 1) := by decide +kernel
theorem dX16_readsBodies_5 : decode cX16_readsBodies 5 = .ok (.aload_n 0, 1) := by decide +kernel
theorem dX16_readsBodies_6 : decode cX16_readsBodies 6 = .ok (.getfield 221, 3) := by decide +kernel
theorem dX16_readsBodies_9 : decode cX16_readsBodies 9 = .ok (.lload_n 1, 1) := by decide +kernel
theorem dX16_readsBodies_10 : decode cX16_readsBodies 10 = .ok (.putfield 315, 3) := by decide +kernel
theorem dX16_readsBodies_13 : decode cX16_readsBodies 13 = .ok (.lconst 0, 1) := by decide +kernel
theorem dX16_readsBodies_14 : decode cX16_readsBodies 14 = .ok (.lstore_n 3, 1) := by decide +kernel
theorem dX16_readsBodies_15 : decode cX16_readsBodies 15 = .ok (.lload_n 3, 1) := by decide +kernel
theorem dX16_readsBodies_16 : decode cX16_readsBodies 16 = .ok (.lload_n 1, 1) := by decide +kernel
theorem dX16_readsBodies_17 : decode cX16_readsBodies 17 = .ok (.lcmp, 1) := by decide +kernel
theorem dX16_readsBodies_18 : decode cX16_readsBodies 18 = .ok (.ifCond .ge 108, 3) := by decide +kernel
theorem dX16_readsBodies_21 : decode cX16_readsBodies 21 = .ok (.aload_n 0, 1) := by decide +kernel
theorem dX16_readsBodies_22 : decode cX16_readsBodies 22 = .ok (.getfield 251, 3) := by decide +kernel
theorem dX16_readsBodies_25 : decode cX16_readsBodies 25 = .ok (.istore 5, 2) := by decide +kernel
theorem dX16_readsBodies_27 : decode cX16_readsBodies 27 = .ok (.aload_n 0, 1) := by decide +kernel
theorem dX16_readsBodies_28 : decode cX16_readsBodies 28 = .ok (.invokevirtual 277, 3) := by decide +kernel
theorem dX16_readsBodies_31 : decode cX16_readsBodies 31 = .ok (.lstore 6, 2) := by decide +kernel
theorem dX16_readsBodies_33 : decode cX16_readsBodies 33 = .ok (.lload 6, 2) := by decide +kernel
theorem dX16_readsBodies_35 : decode cX16_readsBodies 35 = .ok (.aload_n 0, 1) := by decide +kernel
theorem dX16_readsBodies_36 : decode cX16_readsBodies 36 = .ok (.getfield 254, 3) := by decide +kernel
theorem dX16_readsBodies_39 : decode cX16_readsBodies 39 = .ok (.aload_n 0, 1) := by decide +kernel
theorem dX16_readsBodies_40 : decode cX16_readsBodies 40 = .ok (.getfield 251, 3) := by decide +kernel
theorem dX16_readsBodies_43 : decode cX16_readsBodies 43 = .ok (.isub, 1) := by decide +kernel
theorem dX16_readsBodies_44 : decode cX16_readsBodies 44 = .ok (.i2l, 1) := by decide +kernel
theorem dX16_readsBodies_45 : decode cX16_readsBodies 45 = .ok (.lcmp, 1) := by decide +kernel
theorem dX16_readsBodies_46 : decode cX16_readsBodies 46 = .ok (.ifCond .le 10, 3) := by decide +kernel
theorem dX16_readsBodies_49 : decode cX16_readsBodies 49 = .ok (.aload_n 0, 1) := by decide +kernel
theorem dX16_readsBodies_50 : decode cX16_readsBodies 50 = .ok (.iconst 2, 1) := by decide +kernel
theorem dX16_readsBodies_51 : decode cX16_readsBodies 51 = .ok (.iload 5, 2) := by decide +kernel
theorem dX16_readsBodies_53 : decode cX16_readsBodies 53 = .ok (.invokevirtual 257, 3) := by decide +kernel
theorem dX16_readsBodies_56 : decode cX16_readsBodies 56 = .ok (.aload_n 0, 1) := by decide +kernel
theorem dX16_readsBodies_57 : decode cX16_readsBodies 57 = .ok (.getfield 254, 3) := by decide +kernel
theorem dX16_readsBodies_60 : decode cX16_readsBodies 60 = .ok (.istore 8, 2) := by decide +kernel
theorem dX16_readsBodies_62 : decode cX16_readsBodies 62 = .ok (.aload_n 0, 1) := by decide +kernel
theorem dX16_readsBodies_63 : decode cX16_readsBodies 63 = .ok (.aload_n 0, 1) := by decide +kernel
theorem dX16_readsBodies_64 : decode cX16_readsBodies 64 = .ok (.getfield 251, 3) := by decide +kernel
theorem dX16_readsBodies_67 : decode cX16_readsBodies 67 = .ok (.lload 6, 2) := by decide +kernel
theorem dX16_readsBodies_69 : decode cX16_readsBodies 69 = .ok (.l2i, 1) := by decide +kernel
theorem dX16_readsBodies_70 : decode cX16_readsBodies 70 = .ok (.iadd, 1) := by decide +kernel
theorem dX16_readsBodies_71 : decode cX16_readsBodies 71 = .ok (.putfield 254, 3) := by decide +kernel
theorem dX16_readsBodies_74 : decode cX16_readsBodies 74 = .ok (.aload_n 0, 1) := by decide +kernel
theorem dX16_readsBodies_75 : decode cX16_readsBodies 75 = .ok (.lload_n 3, 1) := by decide +kernel
theorem dX16_readsBodies_76 : decode cX16_readsBodies 76 = .ok (.ldc2_w 363, 3) := by decide +kernel
theorem dX16_readsBodies_79 : decode cX16_readsBodies 79 = .ok (.lcmp, 1) := by decide +kernel
theorem dX16_readsBodies_80 : decode cX16_readsBodies 80 = .ok (.ifCond .ge 8, 3) := by decide +kernel
theorem dX16_readsBodies_83 : decode cX16_readsBodies 83 = .ok (.lload_n 3, 1) := by decide +kernel
theorem dX16_readsBodies_84 : decode cX16_readsBodies 84 = .ok (.l2i, 1) := by decide +kernel
theorem dX16_readsBodies_85 : decode cX16_readsBodies 85 = .ok (.goto 5, 3) := by decide +kernel
theorem dX16_readsBodies_88 : decode cX16_readsBodies 88 = .ok (.bipush 63, 2) := by decide +kernel
theorem dX16_readsBodies_90 : decode cX16_readsBodies 90 = .ok (.invokevirtual 510, 3) := by decide +kernel
theorem dX16_readsBodies_93 : decode cX16_readsBodies 93 = .ok (.aload_n 0, 1) := by decide +kernel
theorem dX16_readsBodies_94 : decode cX16_readsBodies 94 = .ok (.getfield 251, 3) := by decide +kernel
theorem dX16_readsBodies_97 : decode cX16_readsBodies 97 = .ok (.aload_n 0, 1) := by decide +kernel
theorem dX16_readsBodies_98 : decode cX16_readsBodies 98 = .ok (.getfield 254, 3) := by decide +kernel
theorem dX16_readsBodies_101 : decode cX16_readsBodies 101 = .ok (.if_icmp .ge 12, 3) := by decide +kernel
theorem dX16_readsBodies_104 : decode cX16_readsBodies 104 = .ok (.aload_n 0, 1) := by decide +kernel
theorem dX16_readsBodies_105 : decode cX16_readsBodies 105 = .ok (.iconst 3, 1) := by decide +kernel
theorem dX16_readsBodies_106 : decode cX16_readsBodies 106 = .ok (.aload_n 0, 1) := by decide +kernel
theorem dX16_readsBodies_107 : decode cX16_readsBodies 107 = .ok (.getfield 251, 3) := by decide +kernel
theorem dX16_readsBodies_110 : decode cX16_readsBodies 110 = .ok (.invokevirtual 257, 3) := by decide +kernel
theorem dX16_readsBodies_113 : decode cX16_readsBodies 113 = .ok (.aload_n 0, 1) := by decide +kernel
theorem dX16_readsBodies_114 : decode cX16_readsBodies 114 = .ok (.iload 8, 2) := by decide +kernel
theorem dX16_readsBodies_116 : decode cX16_readsBodies 116 = .ok (.putfield 254, 3) := by decide +kernel
theorem dX16_readsBodies_119 : decode cX16_readsBodies 119 = .ok (.lload_n 3, 1) := by decide +kernel
theorem dX16_readsBodies_120 : decode cX16_readsBodies 120 = .ok (.lconst 1, 1) := by decide +kernel
theorem dX16_readsBodies_121 : decode cX16_readsBodies 121 = .ok (.ladd, 1) := by decide +kernel
theorem dX16_readsBodies_122 : decode cX16_readsBodies 122 = .ok (.lstore_n 3, 1) := by decide +kernel
theorem dX16_readsBodies_123 : decode cX16_readsBodies 123 = .ok (.goto (-108), 3) := by decide +kernel
theorem dX16_readsBodies_126 : decode cX16_readsBodies 126 = .ok (.return_, 1) := by decide +kernel
noncomputable def tX16_readsBodies_15 (x0 : Nat) (x1 : Int64) (x3 : Int64) (h : pm_H) : Option (((Nat × Int64 × Int64 × pm_H) ⊕ (Nat × Int64 × Int64 × Int64 × pm_H)) ⊕ ((Nat × pm_H) ⊕ pm_H)) := if x1 ≤ x3 then (some (.inr (.inr (h)))) else (if pm_kd h x0 = 16 then pm_let (pm_I h x0 11) fun y12 => (fX16_number h x0).bind fun v14 => pt_s v14 fun w16 => if pm_kd w16.2 x0 = 16 then if w16.1 ≤ (((pm_I w16.2 x0 12) - (pm_I w16.2 x0 11)).toInt64) then (some (.inl (.inr ((x0, x1, x3, w16.1, w16.2))))) else ((fX16_stops w16.2 x0 2 y12).bind fun v20 => pt_s v20 fun w22 => some (.inl (.inr ((x0, x1, x3, w16.1, w22))))) else none else none)
noncomputable def tX16_readsBodies_56 (x0 : Nat) (x1 : Int64) (x3 : Int64) (x6 : Int64) (h : pm_H) : Option (((Nat × Int64 × Int64 × pm_H) ⊕ (Nat × Int64 × Int64 × Int64 × pm_H)) ⊕ ((Nat × pm_H) ⊕ pm_H)) := if pm_kd h x0 = 16 then pm_let (pm_I h x0 12) fun y25 => pm_let ((pm_I h x0 11) + x6.toInt32) fun y27 => if 64 ≤ x3 then ((fX16_readsBody (pm_setI h x0 12 y27) x0 63).bind fun v30 => pt_s v30 fun w32 => if pm_kd w32 x0 = 16 then if (pm_I w32 x0 12) ≤ (pm_I w32 x0 11) then (pm_let (x3 + 1) fun y36 => some (.inl (.inl ((x0, x1, y36, pm_setI w32 x0 12 y25))))) else ((fX16_stops w32 x0 3 (pm_I w32 x0 11)).bind fun v38 => pt_s v38 fun w40 => if pm_kd w40 x0 = 16 then pm_let (x3 + 1) fun y43 => some (.inl (.inl ((x0, x1, y43, pm_setI w40 x0 12 y25)))) else none) else none) else ((fX16_readsBody (pm_setI h x0 12 y27) x0 x3.toInt32).bind fun v45 => pt_s v45 fun w47 => if pm_kd w47 x0 = 16 then if (pm_I w47 x0 12) ≤ (pm_I w47 x0 11) then (pm_let (x3 + 1) fun y51 => some (.inl (.inl ((x0, x1, y51, pm_setI w47 x0 12 y25))))) else ((fX16_stops w47 x0 3 (pm_I w47 x0 11)).bind fun v53 => pt_s v53 fun w55 => if pm_kd w55 x0 = 16 then pm_let (x3 + 1) fun y58 => some (.inl (.inl ((x0, x1, y58, pm_setI w55 x0 12 y25)))) else none) else none) else none
noncomputable def sX16_readsBodies : ((Nat × Int64 × Int64 × pm_H) ⊕ (Nat × Int64 × Int64 × Int64 × pm_H)) → Option (((Nat × Int64 × Int64 × pm_H) ⊕ (Nat × Int64 × Int64 × Int64 × pm_H)) ⊕ ((Nat × pm_H) ⊕ pm_H)) := fun z => match z with
  | .inl (x0, x1, x3, h) => tX16_readsBodies_15 x0 x1 x3 h
  | .inr (x0, x1, x3, x6, h) => tX16_readsBodies_56 x0 x1 x3 x6 h
noncomputable def fX16_readsBodies (h : pm_H) (a0 : Nat) : Option ((Nat × pm_H) ⊕ pm_H) := if pm_kd h a0 = 16 then (fX16_number h a0).bind fun v2 => pt_k v2 fun w4 => if pm_kd w4.2 a0 = 16 then (pm_R w4.2 a0 10).bind fun v7 => if pm_kd w4.2 v7 = 14 then pm_lim sX16_readsBodies (.inl ((a0, w4.1, 0, pm_setL w4.2 v7 50 w4.1))) else none else none else none
set_option maxHeartbeats 4000000 in
set_option maxRecDepth 100000 in
theorem lpX16_readsBodies {g : pm_Gm} {l : Launch} {G : pm_Gl} {Qr : Option Value → pm_H → Prop} {Qt : Nat → pm_H → Prop} (C : pm_C g cX16_readsBodies RX16) (X : pm_XT g l G mX16_readsBodies 0 0 Qr Qt) {r : ((Nat × pm_H) ⊕ pm_H)} (q : pt_eV Qr Qt r) : ∀ n : Nat, (∀ (x0 : Nat) (x1 : Int64) (x3 : Int64) (h : pm_H), pm_iter sX16_readsBodies n (.inl (x0, x1, x3, h)) = some r → pm_G g 15 [(0, .ref x0), (1, .long x1), (3, .long x3)] [] h 0 0) ∧ (∀ (x0 : Nat) (x1 : Int64) (x3 : Int64) (x6 : Int64) (h : pm_H), pm_iter sX16_readsBodies n (.inr (x0, x1, x3, x6, h)) = some r → pm_G g 56 [(0, .ref x0), (1, .long x1), (3, .long x3), (6, .long x6)] [] h 0 0) := by
  intro n
  induction n with
  | zero => exact ⟨fun _ _ _ _ hf => (by cases hf), fun _ _ _ _ _ hf => (by cases hf)⟩
  | succ n ih =>
    refine ⟨fun x0 x1 x3 h hf => ?_, ?_⟩
    · obtain ⟨y, hf, hi⟩ := pm_iter_s hf
      have hf : tX16_readsBodies_15 x0 x1 x3 h = some y := hf
      unfold tX16_readsBodies_15 at hf
      refine pm_lload_n C dX16_readsBodies_15 rfl rfl ?_
      refine pm_lload_n C dX16_readsBodies_16 rfl rfl ?_
      refine pm_lcmp C dX16_readsBodies_17 ?_
      refine pm_if_ge (tgt := 126) C dX16_readsBodies_18 (by decide) (fun c10 => ?_) (fun c10 => ?_)
      · have hf := pm_it hf ((pm_lg_ge _ _).mp c10)
        cases hf
        cases hi
        exact pt_vret C X dX16_readsBodies_126 rfl (Nat.le_refl _) (Nat.le_refl _) q
      · have hf := pm_ie hf ((fun z => c10 ((pm_lg_ge _ _).mpr z)))
        refine pm_aload_n C dX16_readsBodies_21 rfl rfl ?_
        obtain ⟨k11, hf⟩ := pm_if hf
        refine pm_getI C dX16_readsBodies_22 flX16_251 rfl k11 rfl ?_
        obtain ⟨y12, e13, hf⟩ := pm_lt hf
        refine pm_topI e13 ?_
        refine pm_istore (lv' := [(5, .int y12), (0, .ref x0), (1, .long x1), (3, .long x3)]) C dX16_readsBodies_25 (pt_nl X (by decide)) rfl ?_
        refine pm_aload_n C dX16_readsBodies_27 rfl rfl ?_
        obtain ⟨v14, e15, hf⟩ := pm_bd hf
        refine pt_callVT (as := []) (st := []) C X dX16_readsBodies_28 ltX16_277 myX16_number viX16_number ⟨by decide, by decide⟩ rfl rfl k11 (Nat.le_of_ble_eq_true rfl) (Nat.le_refl _) (Nat.le_refl _) (ctX16_number e15 ?_)
        rcases v14 with z17 | w16
        · have hf := pt_sl hf
          cases hf
          cases hi
          exact q
        have hf := pt_sr hf
        show pm_G g 31 [(5, .int y12), (0, .ref x0), (1, .long x1), (3, .long x3)] [.long w16.1] w16.2 0 0
        refine pm_lstore (lv' := [(6, .long w16.1), (5, .int y12), (0, .ref x0), (1, .long x1), (3, .long x3)]) C dX16_readsBodies_31 (pt_nl X (by decide)) rfl ?_
        refine pm_lload C dX16_readsBodies_33 rfl ?_
        refine pm_aload_n C dX16_readsBodies_35 rfl rfl ?_
        obtain ⟨k18, hf⟩ := pm_if hf
        refine pm_getI C dX16_readsBodies_36 flX16_254 rfl k18 rfl ?_
        refine pm_aload_n C dX16_readsBodies_39 rfl rfl ?_
        refine pm_getI C dX16_readsBodies_40 flX16_251 rfl k18 rfl ?_
        refine pm_isub C dX16_readsBodies_43 ?_
        refine pm_i2l C dX16_readsBodies_44 ?_
        refine pm_lcmp C dX16_readsBodies_45 ?_
        refine pm_if_le (tgt := 56) C dX16_readsBodies_46 (by decide) (fun c19 => ?_) (fun c19 => ?_)
        · have hf := pm_it hf ((pm_lg_le _ _).mp c19)
          cases hf
          exact pm_sub [2, 3, 4, 0] rfl (ih.2 x0 x1 x3 w16.1 w16.2 hi)
        · have hf := pm_ie hf ((fun z => c19 ((pm_lg_le _ _).mpr z)))
          refine pm_aload_n C dX16_readsBodies_49 rfl rfl ?_
          refine pm_iconst (v := 2) C dX16_readsBodies_50 (by decide) ?_
          refine pm_iload C dX16_readsBodies_51 rfl ?_
          obtain ⟨v20, e21, hf⟩ := pm_bd hf
          refine pt_callVT (as := [.int 2, .int y12]) (st := []) C X dX16_readsBodies_53 ltX16_257 myX16_stops viX16_stops ⟨by decide, by decide⟩ rfl rfl k18 (Nat.le_of_ble_eq_true rfl) (Nat.le_refl _) (Nat.le_refl _) (ctX16_stops e21 ?_)
          rcases v20 with z23 | w22
          · have hf := pt_sl hf
            cases hf
            cases hi
            exact q
          have hf := pt_sr hf
          show pm_G g 56 [(6, .long w16.1), (5, .int y12), (0, .ref x0), (1, .long x1), (3, .long x3)] [] w22 0 0
          cases hf
          exact pm_sub [2, 3, 4, 0] rfl (ih.2 x0 x1 x3 w16.1 w22 hi)
    refine fun x0 x1 x3 x6 h hf => ?_
    obtain ⟨y, hf, hi⟩ := pm_iter_s hf
    have hf : tX16_readsBodies_56 x0 x1 x3 x6 h = some y := hf
    unfold tX16_readsBodies_56 at hf
    refine pm_aload_n C dX16_readsBodies_56 rfl rfl ?_
    obtain ⟨k24, hf⟩ := pm_if hf
    refine pm_getI C dX16_readsBodies_57 flX16_254 rfl k24 rfl ?_
    obtain ⟨y25, e26, hf⟩ := pm_lt hf
    refine pm_topI e26 ?_
    refine pm_istore (lv' := [(8, .int y25), (0, .ref x0), (1, .long x1), (3, .long x3), (6, .long x6)]) C dX16_readsBodies_60 (pt_nl X (by decide)) rfl ?_
    refine pm_aload_n C dX16_readsBodies_62 rfl rfl ?_
    refine pm_aload_n C dX16_readsBodies_63 rfl rfl ?_
    refine pm_getI C dX16_readsBodies_64 flX16_251 rfl k24 rfl ?_
    refine pm_lload C dX16_readsBodies_67 rfl ?_
    refine pm_l2i C dX16_readsBodies_69 ?_
    refine pm_iadd C dX16_readsBodies_70 ?_
    obtain ⟨y27, e28, hf⟩ := pm_lt hf
    refine pm_topI e28 ?_
    refine pm_putI C dX16_readsBodies_71 flX16_254 rfl rfl k24 rfl rfl ?_
    refine pm_aload_n C dX16_readsBodies_74 rfl rfl ?_
    refine pm_lload_n C dX16_readsBodies_75 rfl rfl ?_
    refine pm_ldc2 C dX16_readsBodies_76 cnX16_363 ?_
    refine pm_lcmp C dX16_readsBodies_79 ?_
    refine pm_if_ge (tgt := 88) C dX16_readsBodies_80 (by decide) (fun c29 => ?_) (fun c29 => ?_)
    · have hf := pm_it hf ((pm_lg_ge _ _).mp c29)
      refine pm_bipush (v := 63) C dX16_readsBodies_88 (by decide) ?_
      obtain ⟨v30, e31, hf⟩ := pm_bd hf
      refine pt_callVT (as := [.int 63]) (st := []) C X dX16_readsBodies_90 ltX16_510 myX16_readsBody viX16_readsBody ⟨by decide, by decide⟩ rfl rfl k24 (Nat.le_of_ble_eq_true rfl) (Nat.le_refl _) (Nat.le_refl _) (ctX16_readsBody e31 ?_)
      rcases v30 with z33 | w32
      · have hf := pt_sl hf
        cases hf
        cases hi
        exact q
      have hf := pt_sr hf
      show pm_G g 93 [(8, .int y25), (0, .ref x0), (1, .long x1), (3, .long x3), (6, .long x6)] [] w32 0 0
      refine pm_aload_n C dX16_readsBodies_93 rfl rfl ?_
      obtain ⟨k34, hf⟩ := pm_if hf
      refine pm_getI C dX16_readsBodies_94 flX16_251 rfl k34 rfl ?_
      refine pm_aload_n C dX16_readsBodies_97 rfl rfl ?_
      refine pm_getI C dX16_readsBodies_98 flX16_254 rfl k34 rfl ?_
      refine pm_icmp_ge (tgt := 113) C dX16_readsBodies_101 (by decide) (fun c35 => ?_) (fun c35 => ?_)
      · have hf := pm_it hf c35
        refine pm_aload_n C dX16_readsBodies_113 rfl rfl ?_
        refine pm_iload C dX16_readsBodies_114 rfl ?_
        refine pm_putI C dX16_readsBodies_116 flX16_254 rfl rfl k34 rfl rfl ?_
        refine pm_lload_n C dX16_readsBodies_119 rfl rfl ?_
        refine pm_lconst (v := 1) C dX16_readsBodies_120 (by decide) ?_
        refine pm_ladd C dX16_readsBodies_121 ?_
        obtain ⟨y36, e37, hf⟩ := pm_lt hf
        refine pm_topL e37 ?_
        refine pm_lstore_n (lv' := [(3, .long y36), (8, .int y25), (0, .ref x0), (1, .long x1), (6, .long x6)]) C dX16_readsBodies_122 rfl (pt_nl X (by decide)) rfl ?_
        refine pm_goto (tgt := 15) C dX16_readsBodies_123 (by decide) ?_
        cases hf
        exact pm_sub [2, 3, 0] rfl (ih.1 x0 x1 y36 (pm_setI w32 x0 12 y25) hi)
      · have hf := pm_ie hf c35
        refine pm_aload_n C dX16_readsBodies_104 rfl rfl ?_
        refine pm_iconst (v := 3) C dX16_readsBodies_105 (by decide) ?_
        refine pm_aload_n C dX16_readsBodies_106 rfl rfl ?_
        refine pm_getI C dX16_readsBodies_107 flX16_251 rfl k34 rfl ?_
        obtain ⟨v38, e39, hf⟩ := pm_bd hf
        refine pt_callVT (as := [.int 3, .int (pm_I w32 x0 11)]) (st := []) C X dX16_readsBodies_110 ltX16_257 myX16_stops viX16_stops ⟨by decide, by decide⟩ rfl rfl k34 (Nat.le_of_ble_eq_true rfl) (Nat.le_refl _) (Nat.le_refl _) (ctX16_stops e39 ?_)
        rcases v38 with z41 | w40
        · have hf := pt_sl hf
          cases hf
          cases hi
          exact q
        have hf := pt_sr hf
        show pm_G g 113 [(8, .int y25), (0, .ref x0), (1, .long x1), (3, .long x3), (6, .long x6)] [] w40 0 0
        refine pm_aload_n C dX16_readsBodies_113 rfl rfl ?_
        refine pm_iload C dX16_readsBodies_114 rfl ?_
        obtain ⟨k42, hf⟩ := pm_if hf
        refine pm_putI C dX16_readsBodies_116 flX16_254 rfl rfl k42 rfl rfl ?_
        refine pm_lload_n C dX16_readsBodies_119 rfl rfl ?_
        refine pm_lconst (v := 1) C dX16_readsBodies_120 (by decide) ?_
        refine pm_ladd C dX16_readsBodies_121 ?_
        obtain ⟨y43, e44, hf⟩ := pm_lt hf
        refine pm_topL e44 ?_
        refine pm_lstore_n (lv' := [(3, .long y43), (8, .int y25), (0, .ref x0), (1, .long x1), (6, .long x6)]) C dX16_readsBodies_122 rfl (pt_nl X (by decide)) rfl ?_
        refine pm_goto (tgt := 15) C dX16_readsBodies_123 (by decide) ?_
        cases hf
        exact pm_sub [2, 3, 0] rfl (ih.1 x0 x1 y43 (pm_setI w40 x0 12 y25) hi)
    · have hf := pm_ie hf ((fun z => c29 ((pm_lg_ge _ _).mpr z)))
      refine pm_lload_n C dX16_readsBodies_83 rfl rfl ?_
      refine pm_l2i C dX16_readsBodies_84 ?_
      refine pm_goto (tgt := 90) C dX16_readsBodies_85 (by decide) ?_
      obtain ⟨v45, e46, hf⟩ := pm_bd hf
      refine pt_callVT (as := [.int x3.toInt32]) (st := []) C X dX16_readsBodies_90 ltX16_510 myX16_readsBody viX16_readsBody ⟨by decide, by decide⟩ rfl rfl k24 (Nat.le_of_ble_eq_true rfl) (Nat.le_refl _) (Nat.le_refl _) (ctX16_readsBody e46 ?_)
      rcases v45 with z48 | w47
      · have hf := pt_sl hf
        cases hf
        cases hi
        exact q
      have hf := pt_sr hf
      show pm_G g 93 [(8, .int y25), (0, .ref x0), (1, .long x1), (3, .long x3), (6, .long x6)] [] w47 0 0
      refine pm_aload_n C dX16_readsBodies_93 rfl rfl ?_
      obtain ⟨k49, hf⟩ := pm_if hf
      refine pm_getI C dX16_readsBodies_94 flX16_251 rfl k49 rfl ?_
      refine pm_aload_n C dX16_readsBodies_97 rfl rfl ?_
      refine pm_getI C dX16_readsBodies_98 flX16_254 rfl k49 rfl ?_
      refine pm_icmp_ge (tgt := 113) C dX16_readsBodies_101 (by decide) (fun c50 => ?_) (fun c50 => ?_)
      · have hf := pm_it hf c50
        refine pm_aload_n C dX16_readsBodies_113 rfl rfl ?_
        refine pm_iload C dX16_readsBodies_114 rfl ?_
        refine pm_putI C dX16_readsBodies_116 flX16_254 rfl rfl k49 rfl rfl ?_
        refine pm_lload_n C dX16_readsBodies_119 rfl rfl ?_
        refine pm_lconst (v := 1) C dX16_readsBodies_120 (by decide) ?_
        refine pm_ladd C dX16_readsBodies_121 ?_
        obtain ⟨y51, e52, hf⟩ := pm_lt hf
        refine pm_topL e52 ?_
        refine pm_lstore_n (lv' := [(3, .long y51), (8, .int y25), (0, .ref x0), (1, .long x1), (6, .long x6)]) C dX16_readsBodies_122 rfl (pt_nl X (by decide)) rfl ?_
        refine pm_goto (tgt := 15) C dX16_readsBodies_123 (by decide) ?_
        cases hf
        exact pm_sub [2, 3, 0] rfl (ih.1 x0 x1 y51 (pm_setI w47 x0 12 y25) hi)
      · have hf := pm_ie hf c50
        refine pm_aload_n C dX16_readsBodies_104 rfl rfl ?_
        refine pm_iconst (v := 3) C dX16_readsBodies_105 (by decide) ?_
        refine pm_aload_n C dX16_readsBodies_106 rfl rfl ?_
        refine pm_getI C dX16_readsBodies_107 flX16_251 rfl k49 rfl ?_
        obtain ⟨v53, e54, hf⟩ := pm_bd hf
        refine pt_callVT (as := [.int 3, .int (pm_I w47 x0 11)]) (st := []) C X dX16_readsBodies_110 ltX16_257 myX16_stops viX16_stops ⟨by decide, by decide⟩ rfl rfl k49 (Nat.le_of_ble_eq_true rfl) (Nat.le_refl _) (Nat.le_refl _) (ctX16_stops e54 ?_)
        rcases v53 with z56 | w55
        · have hf := pt_sl hf
          cases hf
          cases hi
          exact q
        have hf := pt_sr hf
        show pm_G g 113 [(8, .int y25), (0, .ref x0), (1, .long x1), (3, .long x3), (6, .long x6)] [] w55 0 0
        refine pm_aload_n C dX16_readsBodies_113 rfl rfl ?_
        refine pm_iload C dX16_readsBodies_114 rfl ?_
        obtain ⟨k57, hf⟩ := pm_if hf
        refine pm_putI C dX16_readsBodies_116 flX16_254 rfl rfl k57 rfl rfl ?_
        refine pm_lload_n C dX16_readsBodies_119 rfl rfl ?_
        refine pm_lconst (v := 1) C dX16_readsBodies_120 (by decide) ?_
        refine pm_ladd C dX16_readsBodies_121 ?_
        obtain ⟨y58, e59, hf⟩ := pm_lt hf
        refine pm_topL e59 ?_
        refine pm_lstore_n (lv' := [(3, .long y58), (8, .int y25), (0, .ref x0), (1, .long x1), (6, .long x6)]) C dX16_readsBodies_122 rfl (pt_nl X (by decide)) rfl ?_
        refine pm_goto (tgt := 15) C dX16_readsBodies_123 (by decide) ?_
        cases hf
        exact pm_sub [2, 3, 0] rfl (ih.1 x0 x1 y58 (pm_setI w55 x0 12 y25) hi)
set_option maxHeartbeats 4000000 in
set_option maxRecDepth 100000 in
theorem ctX16_readsBodies {l : Launch} {G : pm_Gl} {h : pm_H} {a0 : Nat} {r : ((Nat × pm_H) ⊕ pm_H)} {Qr : Option Value → pm_H → Prop} {Qt : Nat → pm_H → Prop} (hf : fX16_readsBodies h a0 = some r) (q : pt_eV Qr Qt r) : pm_Ctt l G mX16_readsBodies [.ref a0] h 0 0 Qr Qt := by
  refine pm_bodyT pnX16 (Nat.le_of_ble_eq_true rfl) (fun g C X => ?_)
  have C : pm_C g cX16_readsBodies RX16 := C
  show pm_G g 0 [(0, .ref a0)] [] h 0 0
  unfold fX16_readsBodies at hf
  refine pm_aload_n C dX16_readsBodies_0 rfl rfl ?_
  obtain ⟨k1, hf⟩ := pm_if hf
  obtain ⟨v2, e3, hf⟩ := pm_bd hf
  refine pt_callVT (as := []) (st := []) C X dX16_readsBodies_1 ltX16_277 myX16_number viX16_number ⟨by decide, by decide⟩ rfl rfl k1 (Nat.le_of_ble_eq_true rfl) (Nat.le_refl _) (Nat.le_refl _) (ctX16_number e3 ?_)
  rcases v2 with z5 | w4
  · have hf := pt_kl hf
    cases hf
    exact q
  have hf := pt_kr hf
  show pm_G g 4 [(0, .ref a0)] [.long w4.1] w4.2 0 0
  refine pm_lstore_n (lv' := [(1, .long w4.1), (0, .ref a0)]) C dX16_readsBodies_4 rfl (pt_nl X (by decide)) rfl ?_
  refine pm_aload_n C dX16_readsBodies_5 rfl rfl ?_
  obtain ⟨k6, hf⟩ := pm_if hf
  obtain ⟨v7, e8, hf⟩ := pm_bd hf
  refine pm_getR C dX16_readsBodies_6 flX16_221 rfl k6 e8 ?_
  refine pm_lload_n C dX16_readsBodies_9 rfl rfl ?_
  obtain ⟨k9, hf⟩ := pm_if hf
  refine pm_putL C dX16_readsBodies_10 flX16_315 rfl rfl k9 ?_
  refine pm_lconst (v := 0) C dX16_readsBodies_13 (by decide) ?_
  refine pm_lstore_n (lv' := [(3, .long 0), (1, .long w4.1), (0, .ref a0)]) C dX16_readsBodies_14 rfl (pt_nl X (by decide)) rfl ?_
  obtain ⟨n, hn⟩ := pm_lim_iter hf
  exact pm_sub [2, 1, 0] rfl ((lpX16_readsBodies C X q n).1 a0 w4.1 0 (pm_setL w4.2 v7 50 w4.1) hn)
theorem dX16_readsSection_0 : decode cX16_readsSection 0 = .ok (.iload_n 1, 1) := by decide +kernel
theorem dX16_readsSection_1 : decode cX16_readsSection 1 = .ok (.tableswitch 162 0 11 #[63, 78, 85, 92, 99, 106, 113, 120, 127, 141, 148, 155], 63) := by decide +kernel
theorem dX16_readsSection_64 : decode cX16_readsSection 64 = .ok (.aload_n 0, 1) := by decide +kernel
theorem dX16_readsSection_65 : decode cX16_readsSection 65 = .ok (.invokevirtual 324, 3) := by decide +kernel
theorem dX16_readsSection_68 : decode cX16_readsSection 68 = .ok (.aload_n 0, 1) := by decide +kernel
theorem dX16_readsSection_69 : decode cX16_readsSection 69 = .ok (.aload_n 0, 1) := by decide +kernel
theorem dX16_readsSection_70 : decode cX16_readsSection 70 = .ok (.getfield 254, 3) := by decide +kernel
theorem dX16_readsSection_73 : decode cX16_readsSection 73 = .ok (.putfield 251, 3) := by decide +kernel
theorem dX16_readsSection_76 : decode cX16_readsSection 76 = .ok (.goto 98, 3) := by decide +kernel
theorem dX16_readsSection_79 : decode cX16_readsSection 79 = .ok (.aload_n 0, 1) := by decide +kernel
theorem dX16_readsSection_80 : decode cX16_readsSection 80 = .ok (.invokevirtual 327, 3) := by decide +kernel
theorem dX16_readsSection_83 : decode cX16_readsSection 83 = .ok (.goto 91, 3) := by decide +kernel
theorem dX16_readsSection_86 : decode cX16_readsSection 86 = .ok (.aload_n 0, 1) := by decide +kernel
theorem dX16_readsSection_87 : decode cX16_readsSection 87 = .ok (.invokevirtual 330, 3) := by decide +kernel
theorem dX16_readsSection_90 : decode cX16_readsSection 90 = .ok (.goto 84, 3) := by decide +kernel
theorem dX16_readsSection_93 : decode cX16_readsSection 93 = .ok (.aload_n 0, 1) := by decide +kernel
theorem dX16_readsSection_94 : decode cX16_readsSection 94 = .ok (.invokevirtual 333, 3) := by decide +kernel
theorem dX16_readsSection_97 : decode cX16_readsSection 97 = .ok (.goto 77, 3) := by decide +kernel
theorem dX16_readsSection_100 : decode cX16_readsSection 100 = .ok (.aload_n 0, 1) := by decide +kernel
theorem dX16_readsSection_101 : decode cX16_readsSection 101 = .ok (.invokevirtual 336, 3) := by decide +kernel
theorem dX16_readsSection_104 : decode cX16_readsSection 104 = .ok (.goto 70, 3) := by decide +kernel
theorem dX16_readsSection_107 : decode cX16_readsSection 107 = .ok (.aload_n 0, 1) := by decide +kernel
theorem dX16_readsSection_108 : decode cX16_readsSection 108 = .ok (.invokevirtual 339, 3) := by decide +kernel
theorem dX16_readsSection_111 : decode cX16_readsSection 111 = .ok (.goto 63, 3) := by decide +kernel
theorem dX16_readsSection_114 : decode cX16_readsSection 114 = .ok (.aload_n 0, 1) := by decide +kernel
theorem dX16_readsSection_115 : decode cX16_readsSection 115 = .ok (.invokevirtual 342, 3) := by decide +kernel
theorem dX16_readsSection_118 : decode cX16_readsSection 118 = .ok (.goto 56, 3) := by decide +kernel
theorem dX16_readsSection_121 : decode cX16_readsSection 121 = .ok (.aload_n 0, 1) := by decide +kernel
theorem dX16_readsSection_122 : decode cX16_readsSection 122 = .ok (.invokevirtual 345, 3) := by decide +kernel
theorem dX16_readsSection_125 : decode cX16_readsSection 125 = .ok (.goto 49, 3) := by decide +kernel
theorem dX16_readsSection_128 : decode cX16_readsSection 128 = .ok (.aload_n 0, 1) := by decide +kernel
theorem dX16_readsSection_129 : decode cX16_readsSection 129 = .ok (.getfield 221, 3) := by decide +kernel
theorem dX16_readsSection_132 : decode cX16_readsSection 132 = .ok (.aload_n 0, 1) := by decide +kernel
theorem dX16_readsSection_133 : decode cX16_readsSection 133 = .ok (.invokevirtual 277, 3) := by decide +kernel
theorem dX16_readsSection_136 : decode cX16_readsSection 136 = .ok (.putfield 348, 3) := by decide +kernel
theorem dX16_readsSection_139 : decode cX16_readsSection 139 = .ok (.goto 35, 3) := by decide +kernel
theorem dX16_readsSection_142 : decode cX16_readsSection 142 = .ok (.aload_n 0, 1) := by decide +kernel
theorem dX16_readsSection_143 : decode cX16_readsSection 143 = .ok (.invokevirtual 351, 3) := by decide +kernel
theorem dX16_readsSection_146 : decode cX16_readsSection 146 = .ok (.goto 28, 3) := by decide +kernel
theorem dX16_readsSection_149 : decode cX16_readsSection 149 = .ok (.aload_n 0, 1) := by decide +kernel
theorem dX16_readsSection_150 : decode cX16_readsSection 150 = .ok (.invokevirtual 354, 3) := by decide +kernel
theorem dX16_readsSection_153 : decode cX16_readsSection 153 = .ok (.goto 21, 3) := by decide +kernel
theorem dX16_readsSection_156 : decode cX16_readsSection 156 = .ok (.aload_n 0, 1) := by decide +kernel
theorem dX16_readsSection_157 : decode cX16_readsSection 157 = .ok (.invokevirtual 357, 3) := by decide +kernel
theorem dX16_readsSection_160 : decode cX16_readsSection 160 = .ok (.goto 14, 3) := by decide +kernel
theorem dX16_readsSection_163 : decode cX16_readsSection 163 = .ok (.aload_n 0, 1) := by decide +kernel
theorem dX16_readsSection_164 : decode cX16_readsSection 164 = .ok (.getfield 221, 3) := by decide +kernel
theorem dX16_readsSection_167 : decode cX16_readsSection 167 = .ok (.aload_n 0, 1) := by decide +kernel
theorem dX16_readsSection_168 : decode cX16_readsSection 168 = .ok (.invokevirtual 277, 3) := by decide +kernel
theorem dX16_readsSection_171 : decode cX16_readsSection 171 = .ok (.putfield 318, 3) := by decide +kernel
theorem dX16_readsSection_174 : decode cX16_readsSection 174 = .ok (.return_, 1) := by decide +kernel
noncomputable def fX16_readsSection (h : pm_H) (a0 : Nat) (p1 : Int32) : Option ((Nat × pm_H) ⊕ pm_H) := if p1 = 0 then (if pm_kd h a0 = 16 then (fX16_name h a0).bind fun v3 => pt_k v3 fun w5 => if pm_kd w5 a0 = 16 then pm_let (pm_I w5 a0 12) fun y8 => some (.inr (pm_setI w5 a0 11 y8)) else none else none) else (if p1 = 1 then (if pm_kd h a0 = 16 then (fX16_readsTypes h a0).bind fun v12 => pt_k v12 fun w14 => some (.inr (w14)) else none) else (if p1 = 2 then (if pm_kd h a0 = 16 then (fX16_readsImports h a0).bind fun v18 => pt_k v18 fun w20 => some (.inr (w20)) else none) else (if p1 = 3 then (if pm_kd h a0 = 16 then (fX16_readsFunctions h a0).bind fun v24 => pt_k v24 fun w26 => some (.inr (w26)) else none) else (if p1 = 4 then (if pm_kd h a0 = 16 then (fX16_readsTables h a0).bind fun v30 => pt_k v30 fun w32 => some (.inr (w32)) else none) else (if p1 = 5 then (if pm_kd h a0 = 16 then (fX16_readsMemories h a0).bind fun v36 => pt_k v36 fun w38 => some (.inr (w38)) else none) else (if p1 = 6 then (if pm_kd h a0 = 16 then (fX16_readsGlobals h a0).bind fun v42 => pt_k v42 fun w44 => some (.inr (w44)) else none) else (if p1 = 7 then (if pm_kd h a0 = 16 then (fX16_readsExports h a0).bind fun v48 => pt_k v48 fun w50 => some (.inr (w50)) else none) else (if p1 = 8 then (if pm_kd h a0 = 16 then (pm_R h a0 10).bind fun v54 => (fX16_number h a0).bind fun v56 => pt_k v56 fun w58 => if pm_kd w58.2 v54 = 14 then some (.inr (pm_setL w58.2 v54 33 w58.1)) else none else none) else (if p1 = 9 then (if pm_kd h a0 = 16 then (fX16_readsElements h a0).bind fun v63 => pt_k v63 fun w65 => some (.inr (w65)) else none) else (if p1 = 10 then (if pm_kd h a0 = 16 then (fX16_readsBodies h a0).bind fun v69 => pt_k v69 fun w71 => some (.inr (w71)) else none) else (if p1 = 11 then (if pm_kd h a0 = 16 then (fX16_readsDatas h a0).bind fun v75 => pt_k v75 fun w77 => some (.inr (w77)) else none) else (if pm_kd h a0 = 16 then (pm_R h a0 10).bind fun v80 => (fX16_number h a0).bind fun v82 => pt_k v82 fun w84 => if pm_kd w84.2 v80 = 14 then some (.inr (pm_setL w84.2 v80 42 w84.1)) else none else none))))))))))))
set_option maxHeartbeats 4000000 in
set_option maxRecDepth 100000 in
theorem ctX16_readsSection {l : Launch} {G : pm_Gl} {h : pm_H} {a0 : Nat} {p1 : Int32} {r : ((Nat × pm_H) ⊕ pm_H)} {Qr : Option Value → pm_H → Prop} {Qt : Nat → pm_H → Prop} (hf : fX16_readsSection h a0 p1 = some r) (q : pt_eV Qr Qt r) : pm_Ctt l G mX16_readsSection [.ref a0, .int p1] h 0 0 Qr Qt := by
  refine pm_bodyT pnX16 (Nat.le_of_ble_eq_true rfl) (fun g C X => ?_)
  have C : pm_C g cX16_readsSection RX16 := C
  show pm_G g 0 [(0, .ref a0), (1, .int p1)] [] h 0 0
  unfold fX16_readsSection at hf
  refine pm_iload_n C dX16_readsSection_0 rfl rfl ?_
  by_cases c1 : p1 = 0
  · have hf := pm_it hf c1
    refine pm_tableIn (tgt := 64) C dX16_readsSection_1 (by rw [c1]; decide) (by rw [c1]; decide) (by rw [c1]; rfl) (by decide) ?_
    refine pm_aload_n C dX16_readsSection_64 rfl rfl ?_
    obtain ⟨k2, hf⟩ := pm_if hf
    obtain ⟨v3, e4, hf⟩ := pm_bd hf
    refine pt_callVT (as := []) (st := []) C X dX16_readsSection_65 ltX16_324 myX16_name viX16_name ⟨by decide, by decide⟩ rfl rfl k2 (Nat.le_of_ble_eq_true rfl) (Nat.le_refl _) (Nat.le_refl _) (ctX16_name e4 ?_)
    rcases v3 with z6 | w5
    · have hf := pt_kl hf
      cases hf
      exact q
    have hf := pt_kr hf
    show pm_G g 68 [(0, .ref a0), (1, .int p1)] [] w5 0 0
    refine pm_aload_n C dX16_readsSection_68 rfl rfl ?_
    refine pm_aload_n C dX16_readsSection_69 rfl rfl ?_
    obtain ⟨k7, hf⟩ := pm_if hf
    refine pm_getI C dX16_readsSection_70 flX16_254 rfl k7 rfl ?_
    obtain ⟨y8, e9, hf⟩ := pm_lt hf
    refine pm_topI e9 ?_
    refine pm_putI C dX16_readsSection_73 flX16_251 rfl rfl k7 rfl rfl ?_
    refine pm_goto (tgt := 174) C dX16_readsSection_76 (by decide) ?_
    cases hf
    exact pt_vret C X dX16_readsSection_174 rfl (Nat.le_refl _) (Nat.le_refl _) q
  have hf := pm_ie hf c1
  by_cases c10 : p1 = 1
  · have hf := pm_it hf c10
    refine pm_tableIn (tgt := 79) C dX16_readsSection_1 (by rw [c10]; decide) (by rw [c10]; decide) (by rw [c10]; rfl) (by decide) ?_
    refine pm_aload_n C dX16_readsSection_79 rfl rfl ?_
    obtain ⟨k11, hf⟩ := pm_if hf
    obtain ⟨v12, e13, hf⟩ := pm_bd hf
    refine pt_callVT (as := []) (st := []) C X dX16_readsSection_80 ltX16_327 myX16_readsTypes viX16_readsTypes ⟨by decide, by decide⟩ rfl rfl k11 (Nat.le_of_ble_eq_true rfl) (Nat.le_refl _) (Nat.le_refl _) (ctX16_readsTypes e13 ?_)
    rcases v12 with z15 | w14
    · have hf := pt_kl hf
      cases hf
      exact q
    have hf := pt_kr hf
    show pm_G g 83 [(0, .ref a0), (1, .int p1)] [] w14 0 0
    refine pm_goto (tgt := 174) C dX16_readsSection_83 (by decide) ?_
    cases hf
    exact pt_vret C X dX16_readsSection_174 rfl (Nat.le_refl _) (Nat.le_refl _) q
  have hf := pm_ie hf c10
  by_cases c16 : p1 = 2
  · have hf := pm_it hf c16
    refine pm_tableIn (tgt := 86) C dX16_readsSection_1 (by rw [c16]; decide) (by rw [c16]; decide) (by rw [c16]; rfl) (by decide) ?_
    refine pm_aload_n C dX16_readsSection_86 rfl rfl ?_
    obtain ⟨k17, hf⟩ := pm_if hf
    obtain ⟨v18, e19, hf⟩ := pm_bd hf
    refine pt_callVT (as := []) (st := []) C X dX16_readsSection_87 ltX16_330 myX16_readsImports viX16_readsImports ⟨by decide, by decide⟩ rfl rfl k17 (Nat.le_of_ble_eq_true rfl) (Nat.le_refl _) (Nat.le_refl _) (ctX16_readsImports e19 ?_)
    rcases v18 with z21 | w20
    · have hf := pt_kl hf
      cases hf
      exact q
    have hf := pt_kr hf
    show pm_G g 90 [(0, .ref a0), (1, .int p1)] [] w20 0 0
    refine pm_goto (tgt := 174) C dX16_readsSection_90 (by decide) ?_
    cases hf
    exact pt_vret C X dX16_readsSection_174 rfl (Nat.le_refl _) (Nat.le_refl _) q
  have hf := pm_ie hf c16
  by_cases c22 : p1 = 3
  · have hf := pm_it hf c22
    refine pm_tableIn (tgt := 93) C dX16_readsSection_1 (by rw [c22]; decide) (by rw [c22]; decide) (by rw [c22]; rfl) (by decide) ?_
    refine pm_aload_n C dX16_readsSection_93 rfl rfl ?_
    obtain ⟨k23, hf⟩ := pm_if hf
    obtain ⟨v24, e25, hf⟩ := pm_bd hf
    refine pt_callVT (as := []) (st := []) C X dX16_readsSection_94 ltX16_333 myX16_readsFunctions viX16_readsFunctions ⟨by decide, by decide⟩ rfl rfl k23 (Nat.le_of_ble_eq_true rfl) (Nat.le_refl _) (Nat.le_refl _) (ctX16_readsFunctions e25 ?_)
    rcases v24 with z27 | w26
    · have hf := pt_kl hf
      cases hf
      exact q
    have hf := pt_kr hf
    show pm_G g 97 [(0, .ref a0), (1, .int p1)] [] w26 0 0
    refine pm_goto (tgt := 174) C dX16_readsSection_97 (by decide) ?_
    cases hf
    exact pt_vret C X dX16_readsSection_174 rfl (Nat.le_refl _) (Nat.le_refl _) q
  have hf := pm_ie hf c22
  by_cases c28 : p1 = 4
  · have hf := pm_it hf c28
    refine pm_tableIn (tgt := 100) C dX16_readsSection_1 (by rw [c28]; decide) (by rw [c28]; decide) (by rw [c28]; rfl) (by decide) ?_
    refine pm_aload_n C dX16_readsSection_100 rfl rfl ?_
    obtain ⟨k29, hf⟩ := pm_if hf
    obtain ⟨v30, e31, hf⟩ := pm_bd hf
    refine pt_callVT (as := []) (st := []) C X dX16_readsSection_101 ltX16_336 myX16_readsTables viX16_readsTables ⟨by decide, by decide⟩ rfl rfl k29 (Nat.le_of_ble_eq_true rfl) (Nat.le_refl _) (Nat.le_refl _) (ctX16_readsTables e31 ?_)
    rcases v30 with z33 | w32
    · have hf := pt_kl hf
      cases hf
      exact q
    have hf := pt_kr hf
    show pm_G g 104 [(0, .ref a0), (1, .int p1)] [] w32 0 0
    refine pm_goto (tgt := 174) C dX16_readsSection_104 (by decide) ?_
    cases hf
    exact pt_vret C X dX16_readsSection_174 rfl (Nat.le_refl _) (Nat.le_refl _) q
  have hf := pm_ie hf c28
  by_cases c34 : p1 = 5
  · have hf := pm_it hf c34
    refine pm_tableIn (tgt := 107) C dX16_readsSection_1 (by rw [c34]; decide) (by rw [c34]; decide) (by rw [c34]; rfl) (by decide) ?_
    refine pm_aload_n C dX16_readsSection_107 rfl rfl ?_
    obtain ⟨k35, hf⟩ := pm_if hf
    obtain ⟨v36, e37, hf⟩ := pm_bd hf
    refine pt_callVT (as := []) (st := []) C X dX16_readsSection_108 ltX16_339 myX16_readsMemories viX16_readsMemories ⟨by decide, by decide⟩ rfl rfl k35 (Nat.le_of_ble_eq_true rfl) (Nat.le_refl _) (Nat.le_refl _) (ctX16_readsMemories e37 ?_)
    rcases v36 with z39 | w38
    · have hf := pt_kl hf
      cases hf
      exact q
    have hf := pt_kr hf
    show pm_G g 111 [(0, .ref a0), (1, .int p1)] [] w38 0 0
    refine pm_goto (tgt := 174) C dX16_readsSection_111 (by decide) ?_
    cases hf
    exact pt_vret C X dX16_readsSection_174 rfl (Nat.le_refl _) (Nat.le_refl _) q
  have hf := pm_ie hf c34
  by_cases c40 : p1 = 6
  · have hf := pm_it hf c40
    refine pm_tableIn (tgt := 114) C dX16_readsSection_1 (by rw [c40]; decide) (by rw [c40]; decide) (by rw [c40]; rfl) (by decide) ?_
    refine pm_aload_n C dX16_readsSection_114 rfl rfl ?_
    obtain ⟨k41, hf⟩ := pm_if hf
    obtain ⟨v42, e43, hf⟩ := pm_bd hf
    refine pt_callVT (as := []) (st := []) C X dX16_readsSection_115 ltX16_342 myX16_readsGlobals viX16_readsGlobals ⟨by decide, by decide⟩ rfl rfl k41 (Nat.le_of_ble_eq_true rfl) (Nat.le_refl _) (Nat.le_refl _) (ctX16_readsGlobals e43 ?_)
    rcases v42 with z45 | w44
    · have hf := pt_kl hf
      cases hf
      exact q
    have hf := pt_kr hf
    show pm_G g 118 [(0, .ref a0), (1, .int p1)] [] w44 0 0
    refine pm_goto (tgt := 174) C dX16_readsSection_118 (by decide) ?_
    cases hf
    exact pt_vret C X dX16_readsSection_174 rfl (Nat.le_refl _) (Nat.le_refl _) q
  have hf := pm_ie hf c40
  by_cases c46 : p1 = 7
  · have hf := pm_it hf c46
    refine pm_tableIn (tgt := 121) C dX16_readsSection_1 (by rw [c46]; decide) (by rw [c46]; decide) (by rw [c46]; rfl) (by decide) ?_
    refine pm_aload_n C dX16_readsSection_121 rfl rfl ?_
    obtain ⟨k47, hf⟩ := pm_if hf
    obtain ⟨v48, e49, hf⟩ := pm_bd hf
    refine pt_callVT (as := []) (st := []) C X dX16_readsSection_122 ltX16_345 myX16_readsExports viX16_readsExports ⟨by decide, by decide⟩ rfl rfl k47 (Nat.le_of_ble_eq_true rfl) (Nat.le_refl _) (Nat.le_refl _) (ctX16_readsExports e49 ?_)
    rcases v48 with z51 | w50
    · have hf := pt_kl hf
      cases hf
      exact q
    have hf := pt_kr hf
    show pm_G g 125 [(0, .ref a0), (1, .int p1)] [] w50 0 0
    refine pm_goto (tgt := 174) C dX16_readsSection_125 (by decide) ?_
    cases hf
    exact pt_vret C X dX16_readsSection_174 rfl (Nat.le_refl _) (Nat.le_refl _) q
  have hf := pm_ie hf c46
  by_cases c52 : p1 = 8
  · have hf := pm_it hf c52
    refine pm_tableIn (tgt := 128) C dX16_readsSection_1 (by rw [c52]; decide) (by rw [c52]; decide) (by rw [c52]; rfl) (by decide) ?_
    refine pm_aload_n C dX16_readsSection_128 rfl rfl ?_
    obtain ⟨k53, hf⟩ := pm_if hf
    obtain ⟨v54, e55, hf⟩ := pm_bd hf
    refine pm_getR C dX16_readsSection_129 flX16_221 rfl k53 e55 ?_
    refine pm_aload_n C dX16_readsSection_132 rfl rfl ?_
    obtain ⟨v56, e57, hf⟩ := pm_bd hf
    refine pt_callVT (as := []) (st := [.ref v54]) C X dX16_readsSection_133 ltX16_277 myX16_number viX16_number ⟨by decide, by decide⟩ rfl rfl k53 (Nat.le_of_ble_eq_true rfl) (Nat.le_refl _) (Nat.le_refl _) (ctX16_number e57 ?_)
    rcases v56 with z59 | w58
    · have hf := pt_kl hf
      cases hf
      exact q
    have hf := pt_kr hf
    show pm_G g 136 [(0, .ref a0), (1, .int p1)] [.long w58.1, .ref v54] w58.2 0 0
    obtain ⟨k60, hf⟩ := pm_if hf
    refine pm_putL C dX16_readsSection_136 flX16_348 rfl rfl k60 ?_
    refine pm_goto (tgt := 174) C dX16_readsSection_139 (by decide) ?_
    cases hf
    exact pt_vret C X dX16_readsSection_174 rfl (Nat.le_refl _) (Nat.le_refl _) q
  have hf := pm_ie hf c52
  by_cases c61 : p1 = 9
  · have hf := pm_it hf c61
    refine pm_tableIn (tgt := 142) C dX16_readsSection_1 (by rw [c61]; decide) (by rw [c61]; decide) (by rw [c61]; rfl) (by decide) ?_
    refine pm_aload_n C dX16_readsSection_142 rfl rfl ?_
    obtain ⟨k62, hf⟩ := pm_if hf
    obtain ⟨v63, e64, hf⟩ := pm_bd hf
    refine pt_callVT (as := []) (st := []) C X dX16_readsSection_143 ltX16_351 myX16_readsElements viX16_readsElements ⟨by decide, by decide⟩ rfl rfl k62 (Nat.le_of_ble_eq_true rfl) (Nat.le_refl _) (Nat.le_refl _) (ctX16_readsElements e64 ?_)
    rcases v63 with z66 | w65
    · have hf := pt_kl hf
      cases hf
      exact q
    have hf := pt_kr hf
    show pm_G g 146 [(0, .ref a0), (1, .int p1)] [] w65 0 0
    refine pm_goto (tgt := 174) C dX16_readsSection_146 (by decide) ?_
    cases hf
    exact pt_vret C X dX16_readsSection_174 rfl (Nat.le_refl _) (Nat.le_refl _) q
  have hf := pm_ie hf c61
  by_cases c67 : p1 = 10
  · have hf := pm_it hf c67
    refine pm_tableIn (tgt := 149) C dX16_readsSection_1 (by rw [c67]; decide) (by rw [c67]; decide) (by rw [c67]; rfl) (by decide) ?_
    refine pm_aload_n C dX16_readsSection_149 rfl rfl ?_
    obtain ⟨k68, hf⟩ := pm_if hf
    obtain ⟨v69, e70, hf⟩ := pm_bd hf
    refine pt_callVT (as := []) (st := []) C X dX16_readsSection_150 ltX16_354 myX16_readsBodies viX16_readsBodies ⟨by decide, by decide⟩ rfl rfl k68 (Nat.le_of_ble_eq_true rfl) (Nat.le_refl _) (Nat.le_refl _) (ctX16_readsBodies e70 ?_)
    rcases v69 with z72 | w71
    · have hf := pt_kl hf
      cases hf
      exact q
    have hf := pt_kr hf
    show pm_G g 153 [(0, .ref a0), (1, .int p1)] [] w71 0 0
    refine pm_goto (tgt := 174) C dX16_readsSection_153 (by decide) ?_
    cases hf
    exact pt_vret C X dX16_readsSection_174 rfl (Nat.le_refl _) (Nat.le_refl _) q
  have hf := pm_ie hf c67
  by_cases c73 : p1 = 11
  · have hf := pm_it hf c73
    refine pm_tableIn (tgt := 156) C dX16_readsSection_1 (by rw [c73]; decide) (by rw [c73]; decide) (by rw [c73]; rfl) (by decide) ?_
    refine pm_aload_n C dX16_readsSection_156 rfl rfl ?_
    obtain ⟨k74, hf⟩ := pm_if hf
    obtain ⟨v75, e76, hf⟩ := pm_bd hf
    refine pt_callVT (as := []) (st := []) C X dX16_readsSection_157 ltX16_357 myX16_readsDatas viX16_readsDatas ⟨by decide, by decide⟩ rfl rfl k74 (Nat.le_of_ble_eq_true rfl) (Nat.le_refl _) (Nat.le_refl _) (ctX16_readsDatas e76 ?_)
    rcases v75 with z78 | w77
    · have hf := pt_kl hf
      cases hf
      exact q
    have hf := pt_kr hf
    show pm_G g 160 [(0, .ref a0), (1, .int p1)] [] w77 0 0
    refine pm_goto (tgt := 174) C dX16_readsSection_160 (by decide) ?_
    cases hf
    exact pt_vret C X dX16_readsSection_174 rfl (Nat.le_refl _) (Nat.le_refl _) q
  have hf := pm_ie hf c73
  have nc1 := lv_neT c1 (by decide : (0 : Int32).toInt = 0)
  have nc10 := lv_neT c10 (by decide : (1 : Int32).toInt = 1)
  have nc16 := lv_neT c16 (by decide : (2 : Int32).toInt = 2)
  have nc22 := lv_neT c22 (by decide : (3 : Int32).toInt = 3)
  have nc28 := lv_neT c28 (by decide : (4 : Int32).toInt = 4)
  have nc34 := lv_neT c34 (by decide : (5 : Int32).toInt = 5)
  have nc40 := lv_neT c40 (by decide : (6 : Int32).toInt = 6)
  have nc46 := lv_neT c46 (by decide : (7 : Int32).toInt = 7)
  have nc52 := lv_neT c52 (by decide : (8 : Int32).toInt = 8)
  have nc61 := lv_neT c61 (by decide : (9 : Int32).toInt = 9)
  have nc67 := lv_neT c67 (by decide : (10 : Int32).toInt = 10)
  have nc73 := lv_neT c73 (by decide : (11 : Int32).toInt = 11)
  refine pm_tableOut (tgt := 163) C dX16_readsSection_1 (by omega) (by decide) ?_
  refine pm_aload_n C dX16_readsSection_163 rfl rfl ?_
  obtain ⟨k79, hf⟩ := pm_if hf
  obtain ⟨v80, e81, hf⟩ := pm_bd hf
  refine pm_getR C dX16_readsSection_164 flX16_221 rfl k79 e81 ?_
  refine pm_aload_n C dX16_readsSection_167 rfl rfl ?_
  obtain ⟨v82, e83, hf⟩ := pm_bd hf
  refine pt_callVT (as := []) (st := [.ref v80]) C X dX16_readsSection_168 ltX16_277 myX16_number viX16_number ⟨by decide, by decide⟩ rfl rfl k79 (Nat.le_of_ble_eq_true rfl) (Nat.le_refl _) (Nat.le_refl _) (ctX16_number e83 ?_)
  rcases v82 with z85 | w84
  · have hf := pt_kl hf
    cases hf
    exact q
  have hf := pt_kr hf
  show pm_G g 171 [(0, .ref a0), (1, .int p1)] [.long w84.1, .ref v80] w84.2 0 0
  obtain ⟨k86, hf⟩ := pm_if hf
  refine pm_putL C dX16_readsSection_171 flX16_318 rfl rfl k86 ?_
  cases hf
  exact pt_vret C X dX16_readsSection_174 rfl (Nat.le_refl _) (Nat.le_refl _) q
