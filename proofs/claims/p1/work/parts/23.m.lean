theorem dX2_setLocal_0 : decode cX2_setLocal 0 = .ok (.aload_n 0, 1) := by decide +kernel
theorem dX2_setLocal_1 : decode cX2_setLocal 1 = .ok (.iload_n 2, 1) := by decide +kernel
theorem dX2_setLocal_2 : decode cX2_setLocal 2 = .ok (.iconst 1, 1) := by decide +kernel
theorem dX2_setLocal_3 : decode cX2_setLocal 3 = .ok (.isub, 1) := by decide +kernel
theorem dX2_setLocal_4 : decode cX2_setLocal 4 = .ok (.invokevirtual 130, 3) := by decide +kernel
theorem dX2_setLocal_7 : decode cX2_setLocal 7 = .ok (.istore_n 3, 1) := by decide +kernel
theorem dX2_setLocal_8 : decode cX2_setLocal 8 = .ok (.iconst 0, 1) := by decide +kernel
theorem dX2_setLocal_9 : decode cX2_setLocal 9 = .ok (.istore 4, 2) := by decide +kernel
theorem dX2_setLocal_11 : decode cX2_setLocal 11 = .ok (.iload 4, 2) := by decide +kernel
theorem dX2_setLocal_13 : decode cX2_setLocal 13 = .ok (.iload_n 2, 1) := by decide +kernel
theorem dX2_setLocal_14 : decode cX2_setLocal 14 = .ok (.iconst 1, 1) := by decide +kernel
theorem dX2_setLocal_15 : decode cX2_setLocal 15 = .ok (.isub, 1) := by decide +kernel
theorem dX2_setLocal_16 : decode cX2_setLocal 16 = .ok (.if_icmp .ge 60, 3) := by decide +kernel
theorem dX2_setLocal_19 : decode cX2_setLocal 19 = .ok (.iload 4, 2) := by decide +kernel
theorem dX2_setLocal_21 : decode cX2_setLocal 21 = .ok (.aload_n 0, 1) := by decide +kernel
theorem dX2_setLocal_22 : decode cX2_setLocal 22 = .ok (.getfield 31, 3) := by decide +kernel
theorem dX2_setLocal_25 : decode cX2_setLocal 25 = .ok (.arraylength, 1) := by decide +kernel
theorem dX2_setLocal_26 : decode cX2_setLocal 26 = .ok (.if_icmp .ge 50, 3) := by decide +kernel
theorem dX2_setLocal_29 : decode cX2_setLocal 29 = .ok (.aload_n 0, 1) := by decide +kernel
theorem dX2_setLocal_30 : decode cX2_setLocal 30 = .ok (.getfield 31, 3) := by decide +kernel
theorem dX2_setLocal_33 : decode cX2_setLocal 33 = .ok (.iload 4, 2) := by decide +kernel
theorem dX2_setLocal_35 : decode cX2_setLocal 35 = .ok (.iaload, 1) := by decide +kernel
theorem dX2_setLocal_36 : decode cX2_setLocal 36 = .ok (.iload_n 1, 1) := by decide +kernel
theorem dX2_setLocal_37 : decode cX2_setLocal 37 = .ok (.if_icmp .eq 6, 3) := by decide +kernel
theorem dX2_setLocal_40 : decode cX2_setLocal 40 = .ok (.goto 30, 3) := by decide +kernel
theorem dX2_setLocal_43 : decode cX2_setLocal 43 = .ok (.aload_n 0, 1) := by decide +kernel
theorem dX2_setLocal_44 : decode cX2_setLocal 44 = .ok (.aload_n 0, 1) := by decide +kernel
theorem dX2_setLocal_45 : decode cX2_setLocal 45 = .ok (.getfield 50, 3) := by decide +kernel
theorem dX2_setLocal_48 : decode cX2_setLocal 48 = .ok (.iload 4, 2) := by decide +kernel
theorem dX2_setLocal_50 : decode cX2_setLocal 50 = .ok (.iadd, 1) := by decide +kernel
theorem dX2_setLocal_51 : decode cX2_setLocal 51 = .ok (.iload_n 1, 1) := by decide +kernel
theorem dX2_setLocal_52 : decode cX2_setLocal 52 = .ok (.iconst 0, 1) := by decide +kernel
theorem dX2_setLocal_53 : decode cX2_setLocal 53 = .ok (.invokevirtual 108, 3) := by decide +kernel
theorem dX2_setLocal_56 : decode cX2_setLocal 56 = .ok (.aload_n 0, 1) := by decide +kernel
theorem dX2_setLocal_57 : decode cX2_setLocal 57 = .ok (.getfield 31, 3) := by decide +kernel
theorem dX2_setLocal_60 : decode cX2_setLocal 60 = .ok (.iload 4, 2) := by decide +kernel
theorem dX2_setLocal_62 : decode cX2_setLocal 62 = .ok (.aload_n 0, 1) := by decide +kernel
theorem dX2_setLocal_63 : decode cX2_setLocal 63 = .ok (.getfield 50, 3) := by decide +kernel
theorem dX2_setLocal_66 : decode cX2_setLocal 66 = .ok (.iload 4, 2) := by decide +kernel
theorem dX2_setLocal_68 : decode cX2_setLocal 68 = .ok (.iadd, 1) := by decide +kernel
theorem dX2_setLocal_69 : decode cX2_setLocal 69 = .ok (.iastore, 1) := by decide +kernel
theorem dX2_setLocal_70 : decode cX2_setLocal 70 = .ok (.iinc 4 1, 3) := by decide +kernel
theorem dX2_setLocal_73 : decode cX2_setLocal 73 = .ok (.goto (-62), 3) := by decide +kernel
theorem dX2_setLocal_76 : decode cX2_setLocal 76 = .ok (.iload_n 3, 1) := by decide +kernel
theorem dX2_setLocal_77 : decode cX2_setLocal 77 = .ok (.iload_n 1, 1) := by decide +kernel
theorem dX2_setLocal_78 : decode cX2_setLocal 78 = .ok (.if_icmp .ne 16, 3) := by decide +kernel
theorem dX2_setLocal_81 : decode cX2_setLocal 81 = .ok (.aload_n 0, 1) := by decide +kernel
theorem dX2_setLocal_82 : decode cX2_setLocal 82 = .ok (.dup, 1) := by decide +kernel
theorem dX2_setLocal_83 : decode cX2_setLocal 83 = .ok (.getfield 57, 3) := by decide +kernel
theorem dX2_setLocal_86 : decode cX2_setLocal 86 = .ok (.iconst 1, 1) := by decide +kernel
theorem dX2_setLocal_87 : decode cX2_setLocal 87 = .ok (.iadd, 1) := by decide +kernel
theorem dX2_setLocal_88 : decode cX2_setLocal 88 = .ok (.putfield 57, 3) := by decide +kernel
theorem dX2_setLocal_91 : decode cX2_setLocal 91 = .ok (.goto 10, 3) := by decide +kernel
theorem dX2_setLocal_94 : decode cX2_setLocal 94 = .ok (.aload_n 0, 1) := by decide +kernel
theorem dX2_setLocal_95 : decode cX2_setLocal 95 = .ok (.iload_n 1, 1) := by decide +kernel
theorem dX2_setLocal_96 : decode cX2_setLocal 96 = .ok (.iload_n 3, 1) := by decide +kernel
theorem dX2_setLocal_97 : decode cX2_setLocal 97 = .ok (.iconst 1, 1) := by decide +kernel
theorem dX2_setLocal_98 : decode cX2_setLocal 98 = .ok (.invokevirtual 108, 3) := by decide +kernel
theorem dX2_setLocal_101 : decode cX2_setLocal 101 = .ok (.return_, 1) := by decide +kernel
def tX2_setLocal_11 (x0 : Nat) (x1 : Int32) (x2 : Int32) (x3 : Int32) (x4 : Int32) (h : pm_H) : Option (((Nat × Int32 × Int32 × Int32 × Int32 × pm_H)) ⊕ pm_H) := if (x2 - 1) ≤ x4 then (if x3 = x1 then (if pm_kd h x0 = 2 then pm_let ((pm_I h x0 11) + 1) fun y10 => some (.inr (pm_setI h x0 11 y10)) else none) else (if pm_kd h x0 = 2 then (fX2_emitMove h x0 x1 x3 1).bind fun v7 => some (.inr (v7)) else none)) else (if pm_kd h x0 = 2 then (pm_R h x0 10).bind fun v13 => if pm_kd h v13 = 34 then if (Int32.ofNat (pm_ln h v13)) ≤ x4 then (if x3 = x1 then (pm_let ((pm_I h x0 11) + 1) fun y20 => some (.inr (pm_setI h x0 11 y20))) else ((fX2_emitMove h x0 x1 x3 1).bind fun v18 => some (.inr (v18)))) else (if pm_in x4 (pm_ln h v13) then if (pm_I h v13 x4.toNatClampNeg) = x1 then ((fX2_emitMove h x0 ((pm_I h x0 2) + x4) x1 0).bind fun v24 => if pm_kd v24 x0 = 2 then (pm_R v24 x0 10).bind fun v27 => pm_let ((pm_I v24 x0 2) + x4) fun y29 => if pm_kd v24 v27 = 34 then if pm_in x4 (pm_ln v24 v27) then pm_let (x4 + 1) fun y33 => some (.inl ((x0, x1, x2, x3, y33, pm_setI v24 v27 x4.toNatClampNeg y29))) else none else none else none) else (pm_let (x4 + 1) fun y35 => some (.inl ((x0, x1, x2, x3, y35, h)))) else none) else none else none)
def sX2_setLocal : ((Nat × Int32 × Int32 × Int32 × Int32 × pm_H)) → Option (((Nat × Int32 × Int32 × Int32 × Int32 × pm_H)) ⊕ pm_H) := fun z => match z with
  | (x0, x1, x2, x3, x4, h) => tX2_setLocal_11 x0 x1 x2 x3 x4 h
noncomputable def fX2_setLocal (h : pm_H) (a0 : Nat) (p1 : Int32) (p2 : Int32) : Option pm_H := if pm_kd h a0 = 2 then (fX2_heldAt h a0 (p2 - 1)).bind fun v2 => pm_lim sX2_setLocal ((a0, p1, p2, v2, 0, h)) else none
set_option maxHeartbeats 4000000 in
set_option maxRecDepth 100000 in
theorem lpX2_setLocal {g : pm_Gm} {l : Launch} {G : pm_Gl} {Qr : Option Value → pm_H → Prop} (C : pm_C g cX2_setLocal RX2) (X : pm_X g l G mX2_setLocal 0 0 Qr) {r : pm_H} (q : Qr none r) : ∀ n : Nat, (∀ (x0 : Nat) (x1 : Int32) (x2 : Int32) (x3 : Int32) (x4 : Int32) (h : pm_H), pm_iter sX2_setLocal n (x0, x1, x2, x3, x4, h) = some r → pm_G g 11 [(0, .ref x0), (1, .int x1), (2, .int x2), (3, .int x3), (4, .int x4)] [] h 0 0) := by
  intro n
  induction n with
  | zero => exact fun _ _ _ _ _ _ hf => (by cases hf)
  | succ n ih =>
    refine fun x0 x1 x2 x3 x4 h hf => ?_
    obtain ⟨y, hf, hi⟩ := pm_iter_s hf
    have hf : tX2_setLocal_11 x0 x1 x2 x3 x4 h = some y := hf
    unfold tX2_setLocal_11 at hf
    refine pm_iload C dX2_setLocal_11 rfl ?_
    refine pm_iload_n C dX2_setLocal_13 rfl rfl ?_
    refine pm_iconst (v := 1) C dX2_setLocal_14 (by decide) ?_
    refine pm_isub C dX2_setLocal_15 ?_
    refine pm_icmp_ge (tgt := 76) C dX2_setLocal_16 (by decide) (fun c4 => ?_) (fun c4 => ?_)
    · have hf := pm_it hf c4
      refine pm_iload_n C dX2_setLocal_76 rfl rfl ?_
      refine pm_iload_n C dX2_setLocal_77 rfl rfl ?_
      refine pm_icmp_ne (tgt := 94) C dX2_setLocal_78 (by decide) (fun c5 => ?_) (fun c5 => ?_)
      · have hf := pm_ie hf c5
        refine pm_aload_n C dX2_setLocal_94 rfl rfl ?_
        refine pm_iload_n C dX2_setLocal_95 rfl rfl ?_
        refine pm_iload_n C dX2_setLocal_96 rfl rfl ?_
        refine pm_iconst (v := 1) C dX2_setLocal_97 (by decide) ?_
        obtain ⟨k6, hf⟩ := pm_if hf
        obtain ⟨v7, e8, hf⟩ := pm_bd hf
        refine pm_callV (as := [.int x1, .int x3, .int 1]) (st := []) C X dX2_setLocal_98 lnX2_108 myX2_emitMove viX2_emitMove ⟨by decide, by decide⟩ rfl rfl k6 (Nat.le_of_ble_eq_true rfl) (Nat.le_refl _) (Nat.le_refl _) (ctX2_emitMove e8 ?_)
        show pm_G g 101 [(0, .ref x0), (1, .int x1), (2, .int x2), (3, .int x3), (4, .int x4)] [] v7 0 0
        cases hf
        cases hi
        exact pm_vret C X dX2_setLocal_101 rfl (Nat.le_refl _) (Nat.le_refl _) q
      · have hf := pm_it hf c5
        refine pm_aload_n C dX2_setLocal_81 rfl rfl ?_
        refine pm_dup C dX2_setLocal_82 rfl ?_
        obtain ⟨k9, hf⟩ := pm_if hf
        refine pm_getI C dX2_setLocal_83 flX2_57 rfl k9 rfl ?_
        refine pm_iconst (v := 1) C dX2_setLocal_86 (by decide) ?_
        refine pm_iadd C dX2_setLocal_87 ?_
        obtain ⟨y10, e11, hf⟩ := pm_lt hf
        refine pm_topI e11 ?_
        refine pm_putI C dX2_setLocal_88 flX2_57 rfl rfl k9 rfl rfl ?_
        refine pm_goto (tgt := 101) C dX2_setLocal_91 (by decide) ?_
        cases hf
        cases hi
        exact pm_vret C X dX2_setLocal_101 rfl (Nat.le_refl _) (Nat.le_refl _) q
    · have hf := pm_ie hf c4
      refine pm_iload C dX2_setLocal_19 rfl ?_
      refine pm_aload_n C dX2_setLocal_21 rfl rfl ?_
      obtain ⟨k12, hf⟩ := pm_if hf
      obtain ⟨v13, e14, hf⟩ := pm_bd hf
      refine pm_getR C dX2_setLocal_22 flX2_31 rfl k12 e14 ?_
      obtain ⟨k15, hf⟩ := pm_if hf
      refine pm_alen (t := 2) C dX2_setLocal_25 (by decide) k15 rfl ?_
      refine pm_icmp_ge (tgt := 76) C dX2_setLocal_26 (by decide) (fun c16 => ?_) (fun c16 => ?_)
      · have hf := pm_it hf c16
        refine pm_iload_n C dX2_setLocal_76 rfl rfl ?_
        refine pm_iload_n C dX2_setLocal_77 rfl rfl ?_
        refine pm_icmp_ne (tgt := 94) C dX2_setLocal_78 (by decide) (fun c17 => ?_) (fun c17 => ?_)
        · have hf := pm_ie hf c17
          refine pm_aload_n C dX2_setLocal_94 rfl rfl ?_
          refine pm_iload_n C dX2_setLocal_95 rfl rfl ?_
          refine pm_iload_n C dX2_setLocal_96 rfl rfl ?_
          refine pm_iconst (v := 1) C dX2_setLocal_97 (by decide) ?_
          obtain ⟨v18, e19, hf⟩ := pm_bd hf
          refine pm_callV (as := [.int x1, .int x3, .int 1]) (st := []) C X dX2_setLocal_98 lnX2_108 myX2_emitMove viX2_emitMove ⟨by decide, by decide⟩ rfl rfl k12 (Nat.le_of_ble_eq_true rfl) (Nat.le_refl _) (Nat.le_refl _) (ctX2_emitMove e19 ?_)
          show pm_G g 101 [(0, .ref x0), (1, .int x1), (2, .int x2), (3, .int x3), (4, .int x4)] [] v18 0 0
          cases hf
          cases hi
          exact pm_vret C X dX2_setLocal_101 rfl (Nat.le_refl _) (Nat.le_refl _) q
        · have hf := pm_it hf c17
          refine pm_aload_n C dX2_setLocal_81 rfl rfl ?_
          refine pm_dup C dX2_setLocal_82 rfl ?_
          refine pm_getI C dX2_setLocal_83 flX2_57 rfl k12 rfl ?_
          refine pm_iconst (v := 1) C dX2_setLocal_86 (by decide) ?_
          refine pm_iadd C dX2_setLocal_87 ?_
          obtain ⟨y20, e21, hf⟩ := pm_lt hf
          refine pm_topI e21 ?_
          refine pm_putI C dX2_setLocal_88 flX2_57 rfl rfl k12 rfl rfl ?_
          refine pm_goto (tgt := 101) C dX2_setLocal_91 (by decide) ?_
          cases hf
          cases hi
          exact pm_vret C X dX2_setLocal_101 rfl (Nat.le_refl _) (Nat.le_refl _) q
      · have hf := pm_ie hf c16
        refine pm_aload_n C dX2_setLocal_29 rfl rfl ?_
        refine pm_getR C dX2_setLocal_30 flX2_31 rfl k12 e14 ?_
        refine pm_iload C dX2_setLocal_33 rfl ?_
        obtain ⟨u22, hf⟩ := pm_if hf
        refine pm_iald C dX2_setLocal_35 k15 u22 rfl ?_
        refine pm_iload_n C dX2_setLocal_36 rfl rfl ?_
        refine pm_icmp_eq (tgt := 43) C dX2_setLocal_37 (by decide) (fun c23 => ?_) (fun c23 => ?_)
        · have hf := pm_it hf c23
          refine pm_aload_n C dX2_setLocal_43 rfl rfl ?_
          refine pm_aload_n C dX2_setLocal_44 rfl rfl ?_
          refine pm_getI C dX2_setLocal_45 flX2_50 rfl k12 rfl ?_
          refine pm_iload C dX2_setLocal_48 rfl ?_
          refine pm_iadd C dX2_setLocal_50 ?_
          refine pm_iload_n C dX2_setLocal_51 rfl rfl ?_
          refine pm_iconst (v := 0) C dX2_setLocal_52 (by decide) ?_
          obtain ⟨v24, e25, hf⟩ := pm_bd hf
          refine pm_callV (as := [.int ((pm_I h x0 2) + x4), .int x1, .int 0]) (st := []) C X dX2_setLocal_53 lnX2_108 myX2_emitMove viX2_emitMove ⟨by decide, by decide⟩ rfl rfl k12 (Nat.le_of_ble_eq_true rfl) (Nat.le_refl _) (Nat.le_refl _) (ctX2_emitMove e25 ?_)
          show pm_G g 56 [(0, .ref x0), (1, .int x1), (2, .int x2), (3, .int x3), (4, .int x4)] [] v24 0 0
          refine pm_aload_n C dX2_setLocal_56 rfl rfl ?_
          obtain ⟨k26, hf⟩ := pm_if hf
          obtain ⟨v27, e28, hf⟩ := pm_bd hf
          refine pm_getR C dX2_setLocal_57 flX2_31 rfl k26 e28 ?_
          refine pm_iload C dX2_setLocal_60 rfl ?_
          refine pm_aload_n C dX2_setLocal_62 rfl rfl ?_
          refine pm_getI C dX2_setLocal_63 flX2_50 rfl k26 rfl ?_
          refine pm_iload C dX2_setLocal_66 rfl ?_
          refine pm_iadd C dX2_setLocal_68 ?_
          obtain ⟨y29, e30, hf⟩ := pm_lt hf
          refine pm_topI e30 ?_
          obtain ⟨k31, hf⟩ := pm_if hf
          obtain ⟨u32, hf⟩ := pm_if hf
          refine pm_iast C dX2_setLocal_69 k31 u32 ?_
          obtain ⟨y33, e34, hf⟩ := pm_lt hf
          refine pm_iinc (v := y33) (lv' := [(4, .int y33), (0, .ref x0), (1, .int x1), (2, .int x2), (3, .int x3)]) C dX2_setLocal_70 rfl ((congrArg (x4 + ·) (by decide : Int32.ofInt 1 = 1)).trans e34) (pm_nl X (by decide)) rfl ?_
          refine pm_goto (tgt := 11) C dX2_setLocal_73 (by decide) ?_
          cases hf
          exact pm_sub [1, 2, 3, 4, 0] rfl (ih x0 x1 x2 x3 y33 (pm_setI v24 v27 x4.toNatClampNeg y29) hi)
        · have hf := pm_ie hf c23
          refine pm_goto (tgt := 70) C dX2_setLocal_40 (by decide) ?_
          obtain ⟨y35, e36, hf⟩ := pm_lt hf
          refine pm_iinc (v := y35) (lv' := [(4, .int y35), (0, .ref x0), (1, .int x1), (2, .int x2), (3, .int x3)]) C dX2_setLocal_70 rfl ((congrArg (x4 + ·) (by decide : Int32.ofInt 1 = 1)).trans e36) (pm_nl X (by decide)) rfl ?_
          refine pm_goto (tgt := 11) C dX2_setLocal_73 (by decide) ?_
          cases hf
          exact pm_sub [1, 2, 3, 4, 0] rfl (ih x0 x1 x2 x3 y35 h hi)
set_option maxHeartbeats 4000000 in
set_option maxRecDepth 100000 in
theorem ctX2_setLocal {l : Launch} {G : pm_Gl} {h : pm_H} {a0 : Nat} {p1 : Int32} {p2 : Int32} {r : pm_H} {Qr : Option Value → pm_H → Prop} (hf : fX2_setLocal h a0 p1 p2 = some r) (q : Qr none r) : pm_Ct l G mX2_setLocal [.ref a0, .int p1, .int p2] h 0 0 Qr := by
  refine pm_body pnX2 (Nat.le_of_ble_eq_true rfl) (fun g C X => ?_)
  have C : pm_C g cX2_setLocal RX2 := C
  show pm_G g 0 [(0, .ref a0), (1, .int p1), (2, .int p2)] [] h 0 0
  unfold fX2_setLocal at hf
  refine pm_aload_n C dX2_setLocal_0 rfl rfl ?_
  refine pm_iload_n C dX2_setLocal_1 rfl rfl ?_
  refine pm_iconst (v := 1) C dX2_setLocal_2 (by decide) ?_
  refine pm_isub C dX2_setLocal_3 ?_
  obtain ⟨k1, hf⟩ := pm_if hf
  obtain ⟨v2, e3, hf⟩ := pm_bd hf
  refine pm_callV (as := [.int (p2 - 1)]) (st := []) C X dX2_setLocal_4 lnX2_130 myX2_heldAt viX2_heldAt ⟨by decide, by decide⟩ rfl rfl k1 (Nat.le_of_ble_eq_true rfl) (Nat.le_refl _) (Nat.le_refl _) (ctX2_heldAt e3 ?_)
  show pm_G g 7 [(0, .ref a0), (1, .int p1), (2, .int p2)] [.int v2] h 0 0
  refine pm_istore_n (lv' := [(3, .int v2), (0, .ref a0), (1, .int p1), (2, .int p2)]) C dX2_setLocal_7 rfl (pm_nl X (by decide)) rfl ?_
  refine pm_iconst (v := 0) C dX2_setLocal_8 (by decide) ?_
  refine pm_istore (lv' := [(4, .int 0), (3, .int v2), (0, .ref a0), (1, .int p1), (2, .int p2)]) C dX2_setLocal_9 (pm_nl X (by decide)) rfl ?_
  obtain ⟨n, hn⟩ := pm_lim_iter hf
  exact pm_sub [2, 3, 4, 1, 0] rfl ((lpX2_setLocal C X q n) a0 p1 p2 v2 0 h hn)
theorem dX4_exportKind_0 : decode cX4_exportKind 0 = .ok (.iload_n 1, 1) := by decide +kernel
theorem dX4_exportKind_1 : decode cX4_exportKind 1 = .ok (.ifCond .lt 17, 3) := by decide +kernel
theorem dX4_exportKind_4 : decode cX4_exportKind 4 = .ok (.iload_n 1, 1) := by decide +kernel
theorem dX4_exportKind_5 : decode cX4_exportKind 5 = .ok (.aload_n 0, 1) := by decide +kernel
theorem dX4_exportKind_6 : decode cX4_exportKind 6 = .ok (.getfield 7, 3) := by decide +kernel
theorem dX4_exportKind_9 : decode cX4_exportKind 9 = .ok (.getfield 48, 3) := by decide +kernel
theorem dX4_exportKind_12 : decode cX4_exportKind 12 = .ok (.arraylength, 1) := by decide +kernel
theorem dX4_exportKind_13 : decode cX4_exportKind 13 = .ok (.iconst 4, 1) := by decide +kernel
theorem dX4_exportKind_14 : decode cX4_exportKind 14 = .ok (.idiv, 1) := by decide +kernel
theorem dX4_exportKind_15 : decode cX4_exportKind 15 = .ok (.if_icmp .lt 5, 3) := by decide +kernel
theorem dX4_exportKind_18 : decode cX4_exportKind 18 = .ok (.iconst (-1), 1) := by decide +kernel
theorem dX4_exportKind_19 : decode cX4_exportKind 19 = .ok (.ireturn, 1) := by decide +kernel
theorem dX4_exportKind_20 : decode cX4_exportKind 20 = .ok (.aload_n 0, 1) := by decide +kernel
theorem dX4_exportKind_21 : decode cX4_exportKind 21 = .ok (.getfield 7, 3) := by decide +kernel
theorem dX4_exportKind_24 : decode cX4_exportKind 24 = .ok (.getfield 48, 3) := by decide +kernel
theorem dX4_exportKind_27 : decode cX4_exportKind 27 = .ok (.iload_n 1, 1) := by decide +kernel
theorem dX4_exportKind_28 : decode cX4_exportKind 28 = .ok (.iconst 4, 1) := by decide +kernel
theorem dX4_exportKind_29 : decode cX4_exportKind 29 = .ok (.imul, 1) := by decide +kernel
theorem dX4_exportKind_30 : decode cX4_exportKind 30 = .ok (.iconst 2, 1) := by decide +kernel
theorem dX4_exportKind_31 : decode cX4_exportKind 31 = .ok (.iadd, 1) := by decide +kernel
theorem dX4_exportKind_32 : decode cX4_exportKind 32 = .ok (.invokestatic 51, 3) := by decide +kernel
theorem dX4_exportKind_35 : decode cX4_exportKind 35 = .ok (.ireturn, 1) := by decide +kernel
def fX4_exportKind (h : pm_H) (a0 : Nat) (p1 : Int32) : Option Int32 := if p1 < 0 then (some ((-1))) else (if pm_kd h a0 = 4 then (pm_R h a0 0).bind fun v3 => if pm_kd h v3 = 7 then (pm_R h v3 8).bind fun v6 => if pm_kd h v6 = 34 then if p1 < ((Int32.ofNat (pm_ln h v6)) / 4) then ((fX12_item h v6 ((p1 * 4) + 2)).bind fun v10 => some v10) else (some ((-1))) else none else none else none)
set_option maxHeartbeats 4000000 in
set_option maxRecDepth 100000 in
theorem ctX4_exportKind {l : Launch} {G : pm_Gl} {h : pm_H} {a0 : Nat} {p1 : Int32} {r : Int32} {Qr : Option Value → pm_H → Prop} (hf : fX4_exportKind h a0 p1 = some r) (q : Qr (some (.int r)) h) : pm_Ct l G mX4_exportKind [.ref a0, .int p1] h 0 0 Qr := by
  refine pm_body pnX4 (Nat.le_of_ble_eq_true rfl) (fun g C X => ?_)
  have C : pm_C g cX4_exportKind RX4 := C
  show pm_G g 0 [(0, .ref a0), (1, .int p1)] [] h 0 0
  unfold fX4_exportKind at hf
  refine pm_iload_n C dX4_exportKind_0 rfl rfl ?_
  refine pm_if_lt (tgt := 18) C dX4_exportKind_1 (by decide) (fun c1 => ?_) (fun c1 => ?_)
  · have hf := pm_it hf c1
    refine pm_iconst (v := (-1)) C dX4_exportKind_18 (by decide) ?_
    cases hf
    exact pm_iret C X dX4_exportKind_19 rfl (Nat.le_refl _) (Nat.le_refl _) q
  · have hf := pm_ie hf c1
    refine pm_iload_n C dX4_exportKind_4 rfl rfl ?_
    refine pm_aload_n C dX4_exportKind_5 rfl rfl ?_
    obtain ⟨k2, hf⟩ := pm_if hf
    obtain ⟨v3, e4, hf⟩ := pm_bd hf
    refine pm_getR C dX4_exportKind_6 flX4_7 rfl k2 e4 ?_
    obtain ⟨k5, hf⟩ := pm_if hf
    obtain ⟨v6, e7, hf⟩ := pm_bd hf
    refine pm_getR C dX4_exportKind_9 flX4_48 rfl k5 e7 ?_
    obtain ⟨k8, hf⟩ := pm_if hf
    refine pm_alen (t := 2) C dX4_exportKind_12 (by decide) k8 rfl ?_
    refine pm_iconst (v := 4) C dX4_exportKind_13 (by decide) ?_
    refine pm_idiv C dX4_exportKind_14 (by decide) ?_
    refine pm_icmp_lt (tgt := 20) C dX4_exportKind_15 (by decide) (fun c9 => ?_) (fun c9 => ?_)
    · have hf := pm_it hf c9
      refine pm_aload_n C dX4_exportKind_20 rfl rfl ?_
      refine pm_getR C dX4_exportKind_21 flX4_7 rfl k2 e4 ?_
      refine pm_getR C dX4_exportKind_24 flX4_48 rfl k5 e7 ?_
      refine pm_iload_n C dX4_exportKind_27 rfl rfl ?_
      refine pm_iconst (v := 4) C dX4_exportKind_28 (by decide) ?_
      refine pm_imul C dX4_exportKind_29 ?_
      refine pm_iconst (v := 2) C dX4_exportKind_30 (by decide) ?_
      refine pm_iadd C dX4_exportKind_31 ?_
      obtain ⟨v10, e11, hf⟩ := pm_bd hf
      refine pm_callS (as := [.ref v6, .int ((p1 * 4) + 2)]) (st := []) C X dX4_exportKind_32 lnX4_51 myX12_item stX12_item ⟨by decide, by decide⟩ rfl rfl (Nat.le_of_ble_eq_true rfl) (Nat.le_refl _) (Nat.le_refl _) (ctX12_item e11 ?_)
      show pm_G g 35 [(0, .ref a0), (1, .int p1)] [.int v10] h 0 0
      cases hf
      exact pm_iret C X dX4_exportKind_35 rfl (Nat.le_refl _) (Nat.le_refl _) q
    · have hf := pm_ie hf c9
      refine pm_iconst (v := (-1)) C dX4_exportKind_18 (by decide) ?_
      cases hf
      exact pm_iret C X dX4_exportKind_19 rfl (Nat.le_refl _) (Nat.le_refl _) q
theorem dX4_exportNumber_0 : decode cX4_exportNumber 0 = .ok (.iload_n 1, 1) := by decide +kernel
theorem dX4_exportNumber_1 : decode cX4_exportNumber 1 = .ok (.ifCond .lt 17, 3) := by decide +kernel
theorem dX4_exportNumber_4 : decode cX4_exportNumber 4 = .ok (.iload_n 1, 1) := by decide +kernel
theorem dX4_exportNumber_5 : decode cX4_exportNumber 5 = .ok (.aload_n 0, 1) := by decide +kernel
theorem dX4_exportNumber_6 : decode cX4_exportNumber 6 = .ok (.getfield 7, 3) := by decide +kernel
theorem dX4_exportNumber_9 : decode cX4_exportNumber 9 = .ok (.getfield 48, 3) := by decide +kernel
theorem dX4_exportNumber_12 : decode cX4_exportNumber 12 = .ok (.arraylength, 1) := by decide +kernel
theorem dX4_exportNumber_13 : decode cX4_exportNumber 13 = .ok (.iconst 4, 1) := by decide +kernel
theorem dX4_exportNumber_14 : decode cX4_exportNumber 14 = .ok (.idiv, 1) := by decide +kernel
theorem dX4_exportNumber_15 : decode cX4_exportNumber 15 = .ok (.if_icmp .lt 5, 3) := by decide +kernel
theorem dX4_exportNumber_18 : decode cX4_exportNumber 18 = .ok (.iconst (-1), 1) := by decide +kernel
theorem dX4_exportNumber_19 : decode cX4_exportNumber 19 = .ok (.ireturn, 1) := by decide +kernel
theorem dX4_exportNumber_20 : decode cX4_exportNumber 20 = .ok (.aload_n 0, 1) := by decide +kernel
theorem dX4_exportNumber_21 : decode cX4_exportNumber 21 = .ok (.getfield 7, 3) := by decide +kernel
theorem dX4_exportNumber_24 : decode cX4_exportNumber 24 = .ok (.getfield 48, 3) := by decide +kernel
theorem dX4_exportNumber_27 : decode cX4_exportNumber 27 = .ok (.iload_n 1, 1) := by decide +kernel
theorem dX4_exportNumber_28 : decode cX4_exportNumber 28 = .ok (.iconst 4, 1) := by decide +kernel
theorem dX4_exportNumber_29 : decode cX4_exportNumber 29 = .ok (.imul, 1) := by decide +kernel
theorem dX4_exportNumber_30 : decode cX4_exportNumber 30 = .ok (.iconst 2, 1) := by decide +kernel
theorem dX4_exportNumber_31 : decode cX4_exportNumber 31 = .ok (.iadd, 1) := by decide +kernel
theorem dX4_exportNumber_32 : decode cX4_exportNumber 32 = .ok (.invokestatic 51, 3) := by decide +kernel
theorem dX4_exportNumber_35 : decode cX4_exportNumber 35 = .ok (.istore_n 2, 1) := by decide +kernel
theorem dX4_exportNumber_36 : decode cX4_exportNumber 36 = .ok (.aload_n 0, 1) := by decide +kernel
theorem dX4_exportNumber_37 : decode cX4_exportNumber 37 = .ok (.iload_n 2, 1) := by decide +kernel
theorem dX4_exportNumber_38 : decode cX4_exportNumber 38 = .ok (.invokevirtual 57, 3) := by decide +kernel
theorem dX4_exportNumber_41 : decode cX4_exportNumber 41 = .ok (.aload_n 0, 1) := by decide +kernel
theorem dX4_exportNumber_42 : decode cX4_exportNumber 42 = .ok (.getfield 7, 3) := by decide +kernel
theorem dX4_exportNumber_45 : decode cX4_exportNumber 45 = .ok (.getfield 48, 3) := by decide +kernel
theorem dX4_exportNumber_48 : decode cX4_exportNumber 48 = .ok (.iload_n 1, 1) := by decide +kernel
theorem dX4_exportNumber_49 : decode cX4_exportNumber 49 = .ok (.iconst 4, 1) := by decide +kernel
theorem dX4_exportNumber_50 : decode cX4_exportNumber 50 = .ok (.imul, 1) := by decide +kernel
theorem dX4_exportNumber_51 : decode cX4_exportNumber 51 = .ok (.iconst 3, 1) := by decide +kernel
theorem dX4_exportNumber_52 : decode cX4_exportNumber 52 = .ok (.iadd, 1) := by decide +kernel
theorem dX4_exportNumber_53 : decode cX4_exportNumber 53 = .ok (.invokestatic 51, 3) := by decide +kernel
theorem dX4_exportNumber_56 : decode cX4_exportNumber 56 = .ok (.invokestatic 51, 3) := by decide +kernel
theorem dX4_exportNumber_59 : decode cX4_exportNumber 59 = .ok (.ireturn, 1) := by decide +kernel
def fX4_exportNumber (h : pm_H) (a0 : Nat) (p1 : Int32) : Option Int32 := if p1 < 0 then (some ((-1))) else (if pm_kd h a0 = 4 then (pm_R h a0 0).bind fun v3 => if pm_kd h v3 = 7 then (pm_R h v3 8).bind fun v6 => if pm_kd h v6 = 34 then if p1 < ((Int32.ofNat (pm_ln h v6)) / 4) then ((fX12_item h v6 ((p1 * 4) + 2)).bind fun v10 => (fX4_numbers h a0 v10).bind fun v12 => (fX12_item h v6 ((p1 * 4) + 3)).bind fun v14 => (fX12_item h v12 v14).bind fun v16 => some v16) else (some ((-1))) else none else none else none)
set_option maxHeartbeats 4000000 in
set_option maxRecDepth 100000 in
theorem ctX4_exportNumber {l : Launch} {G : pm_Gl} {h : pm_H} {a0 : Nat} {p1 : Int32} {r : Int32} {Qr : Option Value → pm_H → Prop} (hf : fX4_exportNumber h a0 p1 = some r) (q : Qr (some (.int r)) h) : pm_Ct l G mX4_exportNumber [.ref a0, .int p1] h 0 0 Qr := by
  refine pm_body pnX4 (Nat.le_of_ble_eq_true rfl) (fun g C X => ?_)
  have C : pm_C g cX4_exportNumber RX4 := C
  show pm_G g 0 [(0, .ref a0), (1, .int p1)] [] h 0 0
  unfold fX4_exportNumber at hf
  refine pm_iload_n C dX4_exportNumber_0 rfl rfl ?_
  refine pm_if_lt (tgt := 18) C dX4_exportNumber_1 (by decide) (fun c1 => ?_) (fun c1 => ?_)
  · have hf := pm_it hf c1
    refine pm_iconst (v := (-1)) C dX4_exportNumber_18 (by decide) ?_
    cases hf
    exact pm_iret C X dX4_exportNumber_19 rfl (Nat.le_refl _) (Nat.le_refl _) q
  · have hf := pm_ie hf c1
    refine pm_iload_n C dX4_exportNumber_4 rfl rfl ?_
    refine pm_aload_n C dX4_exportNumber_5 rfl rfl ?_
    obtain ⟨k2, hf⟩ := pm_if hf
    obtain ⟨v3, e4, hf⟩ := pm_bd hf
    refine pm_getR C dX4_exportNumber_6 flX4_7 rfl k2 e4 ?_
    obtain ⟨k5, hf⟩ := pm_if hf
    obtain ⟨v6, e7, hf⟩ := pm_bd hf
    refine pm_getR C dX4_exportNumber_9 flX4_48 rfl k5 e7 ?_
    obtain ⟨k8, hf⟩ := pm_if hf
    refine pm_alen (t := 2) C dX4_exportNumber_12 (by decide) k8 rfl ?_
    refine pm_iconst (v := 4) C dX4_exportNumber_13 (by decide) ?_
    refine pm_idiv C dX4_exportNumber_14 (by decide) ?_
    refine pm_icmp_lt (tgt := 20) C dX4_exportNumber_15 (by decide) (fun c9 => ?_) (fun c9 => ?_)
    · have hf := pm_it hf c9
      refine pm_aload_n C dX4_exportNumber_20 rfl rfl ?_
      refine pm_getR C dX4_exportNumber_21 flX4_7 rfl k2 e4 ?_
      refine pm_getR C dX4_exportNumber_24 flX4_48 rfl k5 e7 ?_
      refine pm_iload_n C dX4_exportNumber_27 rfl rfl ?_
      refine pm_iconst (v := 4) C dX4_exportNumber_28 (by decide) ?_
      refine pm_imul C dX4_exportNumber_29 ?_
      refine pm_iconst (v := 2) C dX4_exportNumber_30 (by decide) ?_
      refine pm_iadd C dX4_exportNumber_31 ?_
      obtain ⟨v10, e11, hf⟩ := pm_bd hf
      refine pm_callS (as := [.ref v6, .int ((p1 * 4) + 2)]) (st := []) C X dX4_exportNumber_32 lnX4_51 myX12_item stX12_item ⟨by decide, by decide⟩ rfl rfl (Nat.le_of_ble_eq_true rfl) (Nat.le_refl _) (Nat.le_refl _) (ctX12_item e11 ?_)
      show pm_G g 35 [(0, .ref a0), (1, .int p1)] [.int v10] h 0 0
      refine pm_istore_n (lv' := [(2, .int v10), (0, .ref a0), (1, .int p1)]) C dX4_exportNumber_35 rfl (pm_nl X (by decide)) rfl ?_
      refine pm_aload_n C dX4_exportNumber_36 rfl rfl ?_
      refine pm_iload_n C dX4_exportNumber_37 rfl rfl ?_
      obtain ⟨v12, e13, hf⟩ := pm_bd hf
      refine pm_callV (as := [.int v10]) (st := []) C X dX4_exportNumber_38 lnX4_57 myX4_numbers viX4_numbers ⟨by decide, by decide⟩ rfl rfl k2 (Nat.le_of_ble_eq_true rfl) (Nat.le_refl _) (Nat.le_refl _) (ctX4_numbers e13 ?_)
      show pm_G g 41 [(2, .int v10), (0, .ref a0), (1, .int p1)] [.ref v12] h 0 0
      refine pm_aload_n C dX4_exportNumber_41 rfl rfl ?_
      refine pm_getR C dX4_exportNumber_42 flX4_7 rfl k2 e4 ?_
      refine pm_getR C dX4_exportNumber_45 flX4_48 rfl k5 e7 ?_
      refine pm_iload_n C dX4_exportNumber_48 rfl rfl ?_
      refine pm_iconst (v := 4) C dX4_exportNumber_49 (by decide) ?_
      refine pm_imul C dX4_exportNumber_50 ?_
      refine pm_iconst (v := 3) C dX4_exportNumber_51 (by decide) ?_
      refine pm_iadd C dX4_exportNumber_52 ?_
      obtain ⟨v14, e15, hf⟩ := pm_bd hf
      refine pm_callS (as := [.ref v6, .int ((p1 * 4) + 3)]) (st := [.ref v12]) C X dX4_exportNumber_53 lnX4_51 myX12_item stX12_item ⟨by decide, by decide⟩ rfl rfl (Nat.le_of_ble_eq_true rfl) (Nat.le_refl _) (Nat.le_refl _) (ctX12_item e15 ?_)
      show pm_G g 56 [(2, .int v10), (0, .ref a0), (1, .int p1)] [.int v14, .ref v12] h 0 0
      obtain ⟨v16, e17, hf⟩ := pm_bd hf
      refine pm_callS (as := [.ref v12, .int v14]) (st := []) C X dX4_exportNumber_56 lnX4_51 myX12_item stX12_item ⟨by decide, by decide⟩ rfl rfl (Nat.le_of_ble_eq_true rfl) (Nat.le_refl _) (Nat.le_refl _) (ctX12_item e17 ?_)
      show pm_G g 59 [(2, .int v10), (0, .ref a0), (1, .int p1)] [.int v16] h 0 0
      cases hf
      exact pm_iret C X dX4_exportNumber_59 rfl (Nat.le_refl _) (Nat.le_refl _) q
    · have hf := pm_ie hf c9
      refine pm_iconst (v := (-1)) C dX4_exportNumber_18 (by decide) ?_
      cases hf
      exact pm_iret C X dX4_exportNumber_19 rfl (Nat.le_refl _) (Nat.le_refl _) q
theorem dX5_clearLocals_0 : decode cX5_clearLocals 0 = .ok (.aload_n 0, 1) := by decide +kernel
theorem dX5_clearLocals_1 : decode cX5_clearLocals 1 = .ok (.getfield 51, 3) := by decide +kernel
theorem dX5_clearLocals_4 : decode cX5_clearLocals 4 = .ok (.getfield 198, 3) := by decide +kernel
theorem dX5_clearLocals_7 : decode cX5_clearLocals 7 = .ok (.iload_n 2, 1) := by decide +kernel
theorem dX5_clearLocals_8 : decode cX5_clearLocals 8 = .ok (.iadd, 1) := by decide +kernel
theorem dX5_clearLocals_9 : decode cX5_clearLocals 9 = .ok (.istore_n 3, 1) := by decide +kernel
theorem dX5_clearLocals_10 : decode cX5_clearLocals 10 = .ok (.iload_n 3, 1) := by decide +kernel
theorem dX5_clearLocals_11 : decode cX5_clearLocals 11 = .ok (.istore 4, 2) := by decide +kernel
theorem dX5_clearLocals_13 : decode cX5_clearLocals 13 = .ok (.iload 4, 2) := by decide +kernel
theorem dX5_clearLocals_15 : decode cX5_clearLocals 15 = .ok (.aload_n 0, 1) := by decide +kernel
theorem dX5_clearLocals_16 : decode cX5_clearLocals 16 = .ok (.getfield 51, 3) := by decide +kernel
theorem dX5_clearLocals_19 : decode cX5_clearLocals 19 = .ok (.getfield 118, 3) := by decide +kernel
theorem dX5_clearLocals_22 : decode cX5_clearLocals 22 = .ok (.if_icmp .ge 19, 3) := by decide +kernel
theorem dX5_clearLocals_25 : decode cX5_clearLocals 25 = .ok (.aload_n 0, 1) := by decide +kernel
theorem dX5_clearLocals_26 : decode cX5_clearLocals 26 = .ok (.getfield 15, 3) := by decide +kernel
theorem dX5_clearLocals_29 : decode cX5_clearLocals 29 = .ok (.iload 4, 2) := by decide +kernel
theorem dX5_clearLocals_31 : decode cX5_clearLocals 31 = .ok (.lconst 0, 1) := by decide +kernel
theorem dX5_clearLocals_32 : decode cX5_clearLocals 32 = .ok (.invokestatic 99, 3) := by decide +kernel
theorem dX5_clearLocals_35 : decode cX5_clearLocals 35 = .ok (.iinc 4 1, 3) := by decide +kernel
theorem dX5_clearLocals_38 : decode cX5_clearLocals 38 = .ok (.goto (-25), 3) := by decide +kernel
theorem dX5_clearLocals_41 : decode cX5_clearLocals 41 = .ok (.iconst 0, 1) := by decide +kernel
theorem dX5_clearLocals_42 : decode cX5_clearLocals 42 = .ok (.istore 4, 2) := by decide +kernel
theorem dX5_clearLocals_44 : decode cX5_clearLocals 44 = .ok (.iload 4, 2) := by decide +kernel
theorem dX5_clearLocals_46 : decode cX5_clearLocals 46 = .ok (.iconst 1, 1) := by decide +kernel
theorem dX5_clearLocals_47 : decode cX5_clearLocals 47 = .ok (.iadd, 1) := by decide +kernel
theorem dX5_clearLocals_48 : decode cX5_clearLocals 48 = .ok (.aload_n 1, 1) := by decide +kernel
theorem dX5_clearLocals_49 : decode cX5_clearLocals 49 = .ok (.getfield 216, 3) := by decide +kernel
theorem dX5_clearLocals_52 : decode cX5_clearLocals 52 = .ok (.arraylength, 1) := by decide +kernel
theorem dX5_clearLocals_53 : decode cX5_clearLocals 53 = .ok (.if_icmp .ge 58, 3) := by decide +kernel
theorem dX5_clearLocals_56 : decode cX5_clearLocals 56 = .ok (.aload_n 1, 1) := by decide +kernel
theorem dX5_clearLocals_57 : decode cX5_clearLocals 57 = .ok (.getfield 216, 3) := by decide +kernel
theorem dX5_clearLocals_60 : decode cX5_clearLocals 60 = .ok (.iload 4, 2) := by decide +kernel
theorem dX5_clearLocals_62 : decode cX5_clearLocals 62 = .ok (.iaload, 1) := by decide +kernel
theorem dX5_clearLocals_63 : decode cX5_clearLocals 63 = .ok (.istore 5, 2) := by decide +kernel
theorem dX5_clearLocals_65 : decode cX5_clearLocals 65 = .ok (.iload 5, 2) := by decide +kernel
theorem dX5_clearLocals_67 : decode cX5_clearLocals 67 = .ok (.aload_n 1, 1) := by decide +kernel
theorem dX5_clearLocals_68 : decode cX5_clearLocals 68 = .ok (.getfield 216, 3) := by decide +kernel
theorem dX5_clearLocals_71 : decode cX5_clearLocals 71 = .ok (.iload 4, 2) := by decide +kernel
theorem dX5_clearLocals_73 : decode cX5_clearLocals 73 = .ok (.iconst 1, 1) := by decide +kernel
theorem dX5_clearLocals_74 : decode cX5_clearLocals 74 = .ok (.iadd, 1) := by decide +kernel
theorem dX5_clearLocals_75 : decode cX5_clearLocals 75 = .ok (.iaload, 1) := by decide +kernel
theorem dX5_clearLocals_76 : decode cX5_clearLocals 76 = .ok (.if_icmp .ge 29, 3) := by decide +kernel
theorem dX5_clearLocals_79 : decode cX5_clearLocals 79 = .ok (.aload_n 0, 1) := by decide +kernel
theorem dX5_clearLocals_80 : decode cX5_clearLocals 80 = .ok (.getfield 15, 3) := by decide +kernel
theorem dX5_clearLocals_83 : decode cX5_clearLocals 83 = .ok (.aload_n 0, 1) := by decide +kernel
theorem dX5_clearLocals_84 : decode cX5_clearLocals 84 = .ok (.getfield 51, 3) := by decide +kernel
theorem dX5_clearLocals_87 : decode cX5_clearLocals 87 = .ok (.getfield 198, 3) := by decide +kernel
theorem dX5_clearLocals_90 : decode cX5_clearLocals 90 = .ok (.iload 5, 2) := by decide +kernel
theorem dX5_clearLocals_92 : decode cX5_clearLocals 92 = .ok (.iadd, 1) := by decide +kernel
theorem dX5_clearLocals_93 : decode cX5_clearLocals 93 = .ok (.ldc2_w 219, 3) := by decide +kernel
theorem dX5_clearLocals_96 : decode cX5_clearLocals 96 = .ok (.invokestatic 99, 3) := by decide +kernel
theorem dX5_clearLocals_99 : decode cX5_clearLocals 99 = .ok (.iinc 5 1, 3) := by decide +kernel
theorem dX5_clearLocals_102 : decode cX5_clearLocals 102 = .ok (.goto (-37), 3) := by decide +kernel
theorem dX5_clearLocals_105 : decode cX5_clearLocals 105 = .ok (.iinc 4 2, 3) := by decide +kernel
theorem dX5_clearLocals_108 : decode cX5_clearLocals 108 = .ok (.goto (-64), 3) := by decide +kernel
theorem dX5_clearLocals_111 : decode cX5_clearLocals 111 = .ok (.return_, 1) := by decide +kernel
def tX5_clearLocals_13 (x0 : Nat) (x1 : Nat) (x4 : Int32) (h : pm_H) : Option (((Nat × Nat × Int32 × pm_H) ⊕ (Nat × Nat × Int32 × pm_H) ⊕ (Nat × Nat × Int32 × Int32 × pm_H)) ⊕ pm_H) := if pm_kd h x0 = 5 then (pm_R h x0 12).bind fun v8 => if pm_kd h v8 = 3 then if (pm_I h v8 5) ≤ x4 then (some (.inl (.inr (.inl ((x0, x1, 0, h)))))) else ((pm_R h x0 10).bind fun v12 => (fX12_setItem_ h v12 x4 0).bind fun v14 => pm_let (x4 + 1) fun y16 => some (.inl (.inl ((x0, x1, y16, v14))))) else none else none
def tX5_clearLocals_44 (x0 : Nat) (x1 : Nat) (x4 : Int32) (h : pm_H) : Option (((Nat × Nat × Int32 × pm_H) ⊕ (Nat × Nat × Int32 × pm_H) ⊕ (Nat × Nat × Int32 × Int32 × pm_H)) ⊕ pm_H) := if pm_kd h x1 = 0 then (pm_R h x1 5).bind fun v19 => if pm_kd h v19 = 34 then if (Int32.ofNat (pm_ln h v19)) ≤ (x4 + 1) then (some (.inr (h))) else (if pm_in x4 (pm_ln h v19) then pm_let (pm_I h v19 x4.toNatClampNeg) fun y24 => some (.inl (.inr (.inr ((x0, x1, x4, y24, h))))) else none) else none else none
def tX5_clearLocals_65 (x0 : Nat) (x1 : Nat) (x4 : Int32) (x5 : Int32) (h : pm_H) : Option (((Nat × Nat × Int32 × pm_H) ⊕ (Nat × Nat × Int32 × pm_H) ⊕ (Nat × Nat × Int32 × Int32 × pm_H)) ⊕ pm_H) := if pm_kd h x1 = 0 then (pm_R h x1 5).bind fun v27 => pm_let (x4 + 1) fun y29 => if pm_kd h v27 = 34 then if pm_in y29 (pm_ln h v27) then if (pm_I h v27 y29.toNatClampNeg) ≤ x5 then (pm_let (x4 + 2) fun y34 => some (.inl (.inr (.inl ((x0, x1, y34, h)))))) else (if pm_kd h x0 = 5 then (pm_R h x0 10).bind fun v37 => (pm_R h x0 12).bind fun v39 => if pm_kd h v39 = 3 then (fX12_setItem_ h v37 ((pm_I h v39 4) + x5) (-1)).bind fun v42 => pm_let (x5 + 1) fun y44 => some (.inl (.inr (.inr ((x0, x1, x4, y44, v42))))) else none else none) else none else none else none
def sX5_clearLocals : ((Nat × Nat × Int32 × pm_H) ⊕ (Nat × Nat × Int32 × pm_H) ⊕ (Nat × Nat × Int32 × Int32 × pm_H)) → Option (((Nat × Nat × Int32 × pm_H) ⊕ (Nat × Nat × Int32 × pm_H) ⊕ (Nat × Nat × Int32 × Int32 × pm_H)) ⊕ pm_H) := fun z => match z with
  | .inl (x0, x1, x4, h) => tX5_clearLocals_13 x0 x1 x4 h
  | .inr (.inl (x0, x1, x4, h)) => tX5_clearLocals_44 x0 x1 x4 h
  | .inr (.inr (x0, x1, x4, x5, h)) => tX5_clearLocals_65 x0 x1 x4 x5 h
noncomputable def fX5_clearLocals (h : pm_H) (a0 : Nat) (p1 : Nat) (p2 : Int32) : Option pm_H := if pm_kd h a0 = 5 then (pm_R h a0 12).bind fun v2 => if pm_kd h v2 = 3 then pm_let ((pm_I h v2 4) + p2) fun y5 => pm_lim sX5_clearLocals (.inl ((a0, p1, y5, h))) else none else none
set_option maxHeartbeats 4000000 in
set_option maxRecDepth 100000 in
theorem lpX5_clearLocals {g : pm_Gm} {l : Launch} {G : pm_Gl} {Qr : Option Value → pm_H → Prop} (C : pm_C g cX5_clearLocals RX5) (X : pm_X g l G mX5_clearLocals 0 0 Qr) {r : pm_H} (q : Qr none r) : ∀ n : Nat, (∀ (x0 : Nat) (x1 : Nat) (x4 : Int32) (h : pm_H), pm_iter sX5_clearLocals n (.inl (x0, x1, x4, h)) = some r → pm_G g 13 [(0, .ref x0), (1, .ref x1), (4, .int x4)] [] h 0 0) ∧ (∀ (x0 : Nat) (x1 : Nat) (x4 : Int32) (h : pm_H), pm_iter sX5_clearLocals n (.inr (.inl (x0, x1, x4, h))) = some r → pm_G g 44 [(0, .ref x0), (1, .ref x1), (4, .int x4)] [] h 0 0) ∧ (∀ (x0 : Nat) (x1 : Nat) (x4 : Int32) (x5 : Int32) (h : pm_H), pm_iter sX5_clearLocals n (.inr (.inr (x0, x1, x4, x5, h))) = some r → pm_G g 65 [(0, .ref x0), (1, .ref x1), (4, .int x4), (5, .int x5)] [] h 0 0) := by
  intro n
  induction n with
  | zero => exact ⟨fun _ _ _ _ hf => (by cases hf), fun _ _ _ _ hf => (by cases hf), fun _ _ _ _ _ hf => (by cases hf)⟩
  | succ n ih =>
    refine ⟨fun x0 x1 x4 h hf => ?_, ?_⟩
    · obtain ⟨y, hf, hi⟩ := pm_iter_s hf
      have hf : tX5_clearLocals_13 x0 x1 x4 h = some y := hf
      unfold tX5_clearLocals_13 at hf
      refine pm_iload C dX5_clearLocals_13 rfl ?_
      refine pm_aload_n C dX5_clearLocals_15 rfl rfl ?_
      obtain ⟨k7, hf⟩ := pm_if hf
      obtain ⟨v8, e9, hf⟩ := pm_bd hf
      refine pm_getR C dX5_clearLocals_16 flX5_51 rfl k7 e9 ?_
      obtain ⟨k10, hf⟩ := pm_if hf
      refine pm_getI C dX5_clearLocals_19 flX5_118 rfl k10 rfl ?_
      refine pm_icmp_ge (tgt := 41) C dX5_clearLocals_22 (by decide) (fun c11 => ?_) (fun c11 => ?_)
      · have hf := pm_it hf c11
        refine pm_iconst (v := 0) C dX5_clearLocals_41 (by decide) ?_
        refine pm_istore (lv' := [(4, .int 0), (0, .ref x0), (1, .ref x1)]) C dX5_clearLocals_42 (pm_nl X (by decide)) rfl ?_
        cases hf
        exact pm_sub [1, 2, 0] rfl (ih.2.1 x0 x1 0 h hi)
      · have hf := pm_ie hf c11
        refine pm_aload_n C dX5_clearLocals_25 rfl rfl ?_
        obtain ⟨v12, e13, hf⟩ := pm_bd hf
        refine pm_getR C dX5_clearLocals_26 flX5_15 rfl k7 e13 ?_
        refine pm_iload C dX5_clearLocals_29 rfl ?_
        refine pm_lconst (v := 0) C dX5_clearLocals_31 (by decide) ?_
        obtain ⟨v14, e15, hf⟩ := pm_bd hf
        refine pm_callS (as := [.ref v12, .int x4, .long 0]) (st := []) C X dX5_clearLocals_32 lnX5_99 myX12_setItem_ stX12_setItem_ ⟨by decide, by decide⟩ rfl rfl (Nat.le_of_ble_eq_true rfl) (Nat.le_refl _) (Nat.le_refl _) (ctX12_setItem_ e15 ?_)
        show pm_G g 35 [(0, .ref x0), (1, .ref x1), (4, .int x4)] [] v14 0 0
        obtain ⟨y16, e17, hf⟩ := pm_lt hf
        refine pm_iinc (v := y16) (lv' := [(4, .int y16), (0, .ref x0), (1, .ref x1)]) C dX5_clearLocals_35 rfl ((congrArg (x4 + ·) (by decide : Int32.ofInt 1 = 1)).trans e17) (pm_nl X (by decide)) rfl ?_
        refine pm_goto (tgt := 13) C dX5_clearLocals_38 (by decide) ?_
        cases hf
        exact pm_sub [1, 2, 0] rfl (ih.1 x0 x1 y16 v14 hi)
    refine ⟨fun x0 x1 x4 h hf => ?_, ?_⟩
    · obtain ⟨y, hf, hi⟩ := pm_iter_s hf
      have hf : tX5_clearLocals_44 x0 x1 x4 h = some y := hf
      unfold tX5_clearLocals_44 at hf
      refine pm_iload C dX5_clearLocals_44 rfl ?_
      refine pm_iconst (v := 1) C dX5_clearLocals_46 (by decide) ?_
      refine pm_iadd C dX5_clearLocals_47 ?_
      refine pm_aload_n C dX5_clearLocals_48 rfl rfl ?_
      obtain ⟨k18, hf⟩ := pm_if hf
      obtain ⟨v19, e20, hf⟩ := pm_bd hf
      refine pm_getR C dX5_clearLocals_49 flX5_216 rfl k18 e20 ?_
      obtain ⟨k21, hf⟩ := pm_if hf
      refine pm_alen (t := 2) C dX5_clearLocals_52 (by decide) k21 rfl ?_
      refine pm_icmp_ge (tgt := 111) C dX5_clearLocals_53 (by decide) (fun c22 => ?_) (fun c22 => ?_)
      · have hf := pm_it hf c22
        cases hf
        cases hi
        exact pm_vret C X dX5_clearLocals_111 rfl (Nat.le_refl _) (Nat.le_refl _) q
      · have hf := pm_ie hf c22
        refine pm_aload_n C dX5_clearLocals_56 rfl rfl ?_
        refine pm_getR C dX5_clearLocals_57 flX5_216 rfl k18 e20 ?_
        refine pm_iload C dX5_clearLocals_60 rfl ?_
        obtain ⟨u23, hf⟩ := pm_if hf
        refine pm_iald C dX5_clearLocals_62 k21 u23 rfl ?_
        obtain ⟨y24, e25, hf⟩ := pm_lt hf
        refine pm_topI e25 ?_
        refine pm_istore (lv' := [(5, .int y24), (0, .ref x0), (1, .ref x1), (4, .int x4)]) C dX5_clearLocals_63 (pm_nl X (by decide)) rfl ?_
        cases hf
        exact pm_sub [1, 2, 3, 0] rfl (ih.2.2 x0 x1 x4 y24 h hi)
    refine fun x0 x1 x4 x5 h hf => ?_
    obtain ⟨y, hf, hi⟩ := pm_iter_s hf
    have hf : tX5_clearLocals_65 x0 x1 x4 x5 h = some y := hf
    unfold tX5_clearLocals_65 at hf
    refine pm_iload C dX5_clearLocals_65 rfl ?_
    refine pm_aload_n C dX5_clearLocals_67 rfl rfl ?_
    obtain ⟨k26, hf⟩ := pm_if hf
    obtain ⟨v27, e28, hf⟩ := pm_bd hf
    refine pm_getR C dX5_clearLocals_68 flX5_216 rfl k26 e28 ?_
    refine pm_iload C dX5_clearLocals_71 rfl ?_
    refine pm_iconst (v := 1) C dX5_clearLocals_73 (by decide) ?_
    refine pm_iadd C dX5_clearLocals_74 ?_
    obtain ⟨y29, e30, hf⟩ := pm_lt hf
    refine pm_topI e30 ?_
    obtain ⟨k31, hf⟩ := pm_if hf
    obtain ⟨u32, hf⟩ := pm_if hf
    refine pm_iald C dX5_clearLocals_75 k31 u32 rfl ?_
    refine pm_icmp_ge (tgt := 105) C dX5_clearLocals_76 (by decide) (fun c33 => ?_) (fun c33 => ?_)
    · have hf := pm_it hf c33
      obtain ⟨y34, e35, hf⟩ := pm_lt hf
      refine pm_iinc (v := y34) (lv' := [(4, .int y34), (0, .ref x0), (1, .ref x1), (5, .int x5)]) C dX5_clearLocals_105 rfl ((congrArg (x4 + ·) (by decide : Int32.ofInt 2 = 2)).trans e35) (pm_nl X (by decide)) rfl ?_
      refine pm_goto (tgt := 44) C dX5_clearLocals_108 (by decide) ?_
      cases hf
      exact pm_sub [1, 2, 0] rfl (ih.2.1 x0 x1 y34 h hi)
    · have hf := pm_ie hf c33
      refine pm_aload_n C dX5_clearLocals_79 rfl rfl ?_
      obtain ⟨k36, hf⟩ := pm_if hf
      obtain ⟨v37, e38, hf⟩ := pm_bd hf
      refine pm_getR C dX5_clearLocals_80 flX5_15 rfl k36 e38 ?_
      refine pm_aload_n C dX5_clearLocals_83 rfl rfl ?_
      obtain ⟨v39, e40, hf⟩ := pm_bd hf
      refine pm_getR C dX5_clearLocals_84 flX5_51 rfl k36 e40 ?_
      obtain ⟨k41, hf⟩ := pm_if hf
      refine pm_getI C dX5_clearLocals_87 flX5_198 rfl k41 rfl ?_
      refine pm_iload C dX5_clearLocals_90 rfl ?_
      refine pm_iadd C dX5_clearLocals_92 ?_
      refine pm_ldc2 C dX5_clearLocals_93 cnX5_219 ?_
      obtain ⟨v42, e43, hf⟩ := pm_bd hf
      refine pm_callS (as := [.ref v37, .int ((pm_I h v39 4) + x5), .long (-1)]) (st := []) C X dX5_clearLocals_96 lnX5_99 myX12_setItem_ stX12_setItem_ ⟨by decide, by decide⟩ rfl rfl (Nat.le_of_ble_eq_true rfl) (Nat.le_refl _) (Nat.le_refl _) (ctX12_setItem_ e43 ?_)
      show pm_G g 99 [(0, .ref x0), (1, .ref x1), (4, .int x4), (5, .int x5)] [] v42 0 0
      obtain ⟨y44, e45, hf⟩ := pm_lt hf
      refine pm_iinc (v := y44) (lv' := [(5, .int y44), (0, .ref x0), (1, .ref x1), (4, .int x4)]) C dX5_clearLocals_99 rfl ((congrArg (x5 + ·) (by decide : Int32.ofInt 1 = 1)).trans e45) (pm_nl X (by decide)) rfl ?_
      refine pm_goto (tgt := 65) C dX5_clearLocals_102 (by decide) ?_
      cases hf
      exact pm_sub [1, 2, 3, 0] rfl (ih.2.2 x0 x1 x4 y44 v42 hi)
set_option maxHeartbeats 4000000 in
set_option maxRecDepth 100000 in
theorem ctX5_clearLocals {l : Launch} {G : pm_Gl} {h : pm_H} {a0 : Nat} {p1 : Nat} {p2 : Int32} {r : pm_H} {Qr : Option Value → pm_H → Prop} (hf : fX5_clearLocals h a0 p1 p2 = some r) (q : Qr none r) : pm_Ct l G mX5_clearLocals [.ref a0, .ref p1, .int p2] h 0 0 Qr := by
  refine pm_body pnX5 (Nat.le_of_ble_eq_true rfl) (fun g C X => ?_)
  have C : pm_C g cX5_clearLocals RX5 := C
  show pm_G g 0 [(0, .ref a0), (1, .ref p1), (2, .int p2)] [] h 0 0
  unfold fX5_clearLocals at hf
  refine pm_aload_n C dX5_clearLocals_0 rfl rfl ?_
  obtain ⟨k1, hf⟩ := pm_if hf
  obtain ⟨v2, e3, hf⟩ := pm_bd hf
  refine pm_getR C dX5_clearLocals_1 flX5_51 rfl k1 e3 ?_
  obtain ⟨k4, hf⟩ := pm_if hf
  refine pm_getI C dX5_clearLocals_4 flX5_198 rfl k4 rfl ?_
  refine pm_iload_n C dX5_clearLocals_7 rfl rfl ?_
  refine pm_iadd C dX5_clearLocals_8 ?_
  obtain ⟨y5, e6, hf⟩ := pm_lt hf
  refine pm_topI e6 ?_
  refine pm_istore_n (lv' := [(3, .int y5), (0, .ref a0), (1, .ref p1), (2, .int p2)]) C dX5_clearLocals_9 rfl (pm_nl X (by decide)) rfl ?_
  refine pm_iload_n C dX5_clearLocals_10 rfl rfl ?_
  refine pm_istore (lv' := [(4, .int y5), (3, .int y5), (0, .ref a0), (1, .ref p1), (2, .int p2)]) C dX5_clearLocals_11 (pm_nl X (by decide)) rfl ?_
  obtain ⟨n, hn⟩ := pm_lim_iter hf
  exact pm_sub [2, 3, 0] rfl ((lpX5_clearLocals C X q n).1 a0 p1 y5 h hn)
theorem dX5_fail_0 : decode cX5_fail 0 = .ok (.aload_n 0, 1) := by decide +kernel
theorem dX5_fail_1 : decode cX5_fail 1 = .ok (.iload_n 1, 1) := by decide +kernel
theorem dX5_fail_2 : decode cX5_fail 2 = .ok (.putfield 71, 3) := by decide +kernel
theorem dX5_fail_5 : decode cX5_fail 5 = .ok (.aload_n 0, 1) := by decide +kernel
theorem dX5_fail_6 : decode cX5_fail 6 = .ok (.iconst 3, 1) := by decide +kernel
theorem dX5_fail_7 : decode cX5_fail 7 = .ok (.invokevirtual 74, 3) := by decide +kernel
theorem dX5_fail_10 : decode cX5_fail 10 = .ok (.return_, 1) := by decide +kernel
def fX5_fail (h : pm_H) (a0 : Nat) (p1 : Int32) : Option pm_H := if pm_kd h a0 = 5 then (fX5_stop (pm_setI h a0 1 p1) a0 3).bind fun v2 => some v2 else none
set_option maxHeartbeats 4000000 in
set_option maxRecDepth 100000 in
theorem ctX5_fail {l : Launch} {G : pm_Gl} {h : pm_H} {a0 : Nat} {p1 : Int32} {r : pm_H} {Qr : Option Value → pm_H → Prop} (hf : fX5_fail h a0 p1 = some r) (q : Qr none r) : pm_Ct l G mX5_fail [.ref a0, .int p1] h 0 0 Qr := by
  refine pm_body pnX5 (Nat.le_of_ble_eq_true rfl) (fun g C X => ?_)
  have C : pm_C g cX5_fail RX5 := C
  show pm_G g 0 [(0, .ref a0), (1, .int p1)] [] h 0 0
  unfold fX5_fail at hf
  refine pm_aload_n C dX5_fail_0 rfl rfl ?_
  refine pm_iload_n C dX5_fail_1 rfl rfl ?_
  obtain ⟨k1, hf⟩ := pm_if hf
  refine pm_putI C dX5_fail_2 flX5_71 rfl rfl k1 rfl rfl ?_
  refine pm_aload_n C dX5_fail_5 rfl rfl ?_
  refine pm_iconst (v := 3) C dX5_fail_6 (by decide) ?_
  obtain ⟨v2, e3, hf⟩ := pm_bd hf
  refine pm_callV (as := [.int 3]) (st := []) C X dX5_fail_7 lnX5_74 myX5_stop viX5_stop ⟨by decide, by decide⟩ rfl rfl k1 (Nat.le_of_ble_eq_true rfl) (Nat.le_refl _) (Nat.le_refl _) (ctX5_stop e3 ?_)
  show pm_G g 10 [(0, .ref a0), (1, .int p1)] [] v2 0 0
  cases hf
  exact pm_vret C X dX5_fail_10 rfl (Nat.le_refl _) (Nat.le_refl _) q
theorem dX5_failAtMaking_0 : decode cX5_failAtMaking 0 = .ok (.aload_n 0, 1) := by decide +kernel
theorem dX5_failAtMaking_1 : decode cX5_failAtMaking 1 = .ok (.iconst 0, 1) := by decide +kernel
theorem dX5_failAtMaking_2 : decode cX5_failAtMaking 2 = .ok (.putfield 78, 3) := by decide +kernel
theorem dX5_failAtMaking_5 : decode cX5_failAtMaking 5 = .ok (.aload_n 0, 1) := by decide +kernel
theorem dX5_failAtMaking_6 : decode cX5_failAtMaking 6 = .ok (.iload_n 1, 1) := by decide +kernel
theorem dX5_failAtMaking_7 : decode cX5_failAtMaking 7 = .ok (.invokevirtual 81, 3) := by decide +kernel
theorem dX5_failAtMaking_10 : decode cX5_failAtMaking 10 = .ok (.return_, 1) := by decide +kernel
def fX5_failAtMaking (h : pm_H) (a0 : Nat) (p1 : Int32) : Option pm_H := if pm_kd h a0 = 5 then (fX5_fail (pm_setI h a0 2 0) a0 p1).bind fun v2 => some v2 else none
set_option maxHeartbeats 4000000 in
set_option maxRecDepth 100000 in
theorem ctX5_failAtMaking {l : Launch} {G : pm_Gl} {h : pm_H} {a0 : Nat} {p1 : Int32} {r : pm_H} {Qr : Option Value → pm_H → Prop} (hf : fX5_failAtMaking h a0 p1 = some r) (q : Qr none r) : pm_Ct l G mX5_failAtMaking [.ref a0, .int p1] h 0 0 Qr := by
  refine pm_body pnX5 (Nat.le_of_ble_eq_true rfl) (fun g C X => ?_)
  have C : pm_C g cX5_failAtMaking RX5 := C
  show pm_G g 0 [(0, .ref a0), (1, .int p1)] [] h 0 0
  unfold fX5_failAtMaking at hf
  refine pm_aload_n C dX5_failAtMaking_0 rfl rfl ?_
  refine pm_iconst (v := 0) C dX5_failAtMaking_1 (by decide) ?_
  obtain ⟨k1, hf⟩ := pm_if hf
  refine pm_putI C dX5_failAtMaking_2 flX5_78 rfl rfl k1 rfl rfl ?_
  refine pm_aload_n C dX5_failAtMaking_5 rfl rfl ?_
  refine pm_iload_n C dX5_failAtMaking_6 rfl rfl ?_
  obtain ⟨v2, e3, hf⟩ := pm_bd hf
  refine pm_callV (as := [.int p1]) (st := []) C X dX5_failAtMaking_7 lnX5_81 myX5_fail viX5_fail ⟨by decide, by decide⟩ rfl rfl k1 (Nat.le_of_ble_eq_true rfl) (Nat.le_refl _) (Nat.le_refl _) (ctX5_fail e3 ?_)
  show pm_G g 10 [(0, .ref a0), (1, .int p1)] [] v2 0 0
  cases hf
  exact pm_vret C X dX5_failAtMaking_10 rfl (Nat.le_refl _) (Nat.le_refl _) q
theorem dX5_pop_0 : decode cX5_pop 0 = .ok (.aload_n 0, 1) := by decide +kernel
theorem dX5_pop_1 : decode cX5_pop 1 = .ok (.getfield 51, 3) := by decide +kernel
theorem dX5_pop_4 : decode cX5_pop 4 = .ok (.dup, 1) := by decide +kernel
theorem dX5_pop_5 : decode cX5_pop 5 = .ok (.getfield 118, 3) := by decide +kernel
theorem dX5_pop_8 : decode cX5_pop 8 = .ok (.iconst 1, 1) := by decide +kernel
theorem dX5_pop_9 : decode cX5_pop 9 = .ok (.isub, 1) := by decide +kernel
theorem dX5_pop_10 : decode cX5_pop 10 = .ok (.putfield 118, 3) := by decide +kernel
theorem dX5_pop_13 : decode cX5_pop 13 = .ok (.aload_n 0, 1) := by decide +kernel
theorem dX5_pop_14 : decode cX5_pop 14 = .ok (.getfield 15, 3) := by decide +kernel
theorem dX5_pop_17 : decode cX5_pop 17 = .ok (.aload_n 0, 1) := by decide +kernel
theorem dX5_pop_18 : decode cX5_pop 18 = .ok (.getfield 51, 3) := by decide +kernel
theorem dX5_pop_21 : decode cX5_pop 21 = .ok (.getfield 118, 3) := by decide +kernel
theorem dX5_pop_24 : decode cX5_pop 24 = .ok (.invokestatic 92, 3) := by decide +kernel
theorem dX5_pop_27 : decode cX5_pop 27 = .ok (.lreturn, 1) := by decide +kernel
def fX5_pop (h : pm_H) (a0 : Nat) : Option (Int64 × pm_H) := if pm_kd h a0 = 5 then (pm_R h a0 12).bind fun v2 => if pm_kd h v2 = 3 then pm_let ((pm_I h v2 5) - 1) fun y5 => (pm_R (pm_setI h v2 5 y5) a0 10).bind fun v7 => (fX12_item_ (pm_setI h v2 5 y5) v7 (pm_I (pm_setI h v2 5 y5) v2 5)).bind fun v9 => some ((v9, pm_setI h v2 5 y5)) else none else none
set_option maxHeartbeats 4000000 in
set_option maxRecDepth 100000 in
theorem ctX5_pop {l : Launch} {G : pm_Gl} {h : pm_H} {a0 : Nat} {r : (Int64 × pm_H)} {Qr : Option Value → pm_H → Prop} (hf : fX5_pop h a0 = some r) (q : Qr (some (.long r.1)) r.2) : pm_Ct l G mX5_pop [.ref a0] h 0 0 Qr := by
  refine pm_body pnX5 (Nat.le_of_ble_eq_true rfl) (fun g C X => ?_)
  have C : pm_C g cX5_pop RX5 := C
  show pm_G g 0 [(0, .ref a0)] [] h 0 0
  unfold fX5_pop at hf
  refine pm_aload_n C dX5_pop_0 rfl rfl ?_
  obtain ⟨k1, hf⟩ := pm_if hf
  obtain ⟨v2, e3, hf⟩ := pm_bd hf
  refine pm_getR C dX5_pop_1 flX5_51 rfl k1 e3 ?_
  refine pm_dup C dX5_pop_4 rfl ?_
  obtain ⟨k4, hf⟩ := pm_if hf
  refine pm_getI C dX5_pop_5 flX5_118 rfl k4 rfl ?_
  refine pm_iconst (v := 1) C dX5_pop_8 (by decide) ?_
  refine pm_isub C dX5_pop_9 ?_
  obtain ⟨y5, e6, hf⟩ := pm_lt hf
  refine pm_topI e6 ?_
  refine pm_putI C dX5_pop_10 flX5_118 rfl rfl k4 rfl rfl ?_
  refine pm_aload_n C dX5_pop_13 rfl rfl ?_
  obtain ⟨v7, e8, hf⟩ := pm_bd hf
  refine pm_getR C dX5_pop_14 flX5_15 rfl k1 e8 ?_
  refine pm_aload_n C dX5_pop_17 rfl rfl ?_
  refine pm_getR C dX5_pop_18 flX5_51 rfl k1 e3 ?_
  refine pm_getI C dX5_pop_21 flX5_118 rfl k4 rfl ?_
  obtain ⟨v9, e10, hf⟩ := pm_bd hf
  refine pm_callS (as := [.ref v7, .int (pm_I (pm_setI h v2 5 y5) v2 5)]) (st := []) C X dX5_pop_24 lnX5_92 myX12_item_ stX12_item_ ⟨by decide, by decide⟩ rfl rfl (Nat.le_of_ble_eq_true rfl) (Nat.le_refl _) (Nat.le_refl _) (ctX12_item_ e10 ?_)
  show pm_G g 27 [(0, .ref a0)] [.long v9] (pm_setI h v2 5 y5) 0 0
  cases hf
  exact pm_lret C X dX5_pop_27 rfl (Nat.le_refl _) (Nat.le_refl _) q
theorem dX5_push_0 : decode cX5_push 0 = .ok (.aload_n 0, 1) := by decide +kernel
theorem dX5_push_1 : decode cX5_push 1 = .ok (.getfield 15, 3) := by decide +kernel
theorem dX5_push_4 : decode cX5_push 4 = .ok (.aload_n 0, 1) := by decide +kernel
theorem dX5_push_5 : decode cX5_push 5 = .ok (.getfield 51, 3) := by decide +kernel
theorem dX5_push_8 : decode cX5_push 8 = .ok (.getfield 118, 3) := by decide +kernel
theorem dX5_push_11 : decode cX5_push 11 = .ok (.lload_n 1, 1) := by decide +kernel
theorem dX5_push_12 : decode cX5_push 12 = .ok (.invokestatic 99, 3) := by decide +kernel
theorem dX5_push_15 : decode cX5_push 15 = .ok (.aload_n 0, 1) := by decide +kernel
theorem dX5_push_16 : decode cX5_push 16 = .ok (.getfield 51, 3) := by decide +kernel
theorem dX5_push_19 : decode cX5_push 19 = .ok (.dup, 1) := by decide +kernel
theorem dX5_push_20 : decode cX5_push 20 = .ok (.getfield 118, 3) := by decide +kernel
theorem dX5_push_23 : decode cX5_push 23 = .ok (.iconst 1, 1) := by decide +kernel
theorem dX5_push_24 : decode cX5_push 24 = .ok (.iadd, 1) := by decide +kernel
theorem dX5_push_25 : decode cX5_push 25 = .ok (.putfield 118, 3) := by decide +kernel
theorem dX5_push_28 : decode cX5_push 28 = .ok (.return_, 1) := by decide +kernel
def fX5_push (h : pm_H) (a0 : Nat) (p1 : Int64) : Option pm_H := if pm_kd h a0 = 5 then (pm_R h a0 10).bind fun v2 => (pm_R h a0 12).bind fun v4 => if pm_kd h v4 = 3 then (fX12_setItem_ h v2 (pm_I h v4 5) p1).bind fun v7 => if pm_kd v7 a0 = 5 then (pm_R v7 a0 12).bind fun v10 => if pm_kd v7 v10 = 3 then pm_let ((pm_I v7 v10 5) + 1) fun y13 => some (pm_setI v7 v10 5 y13) else none else none else none else none
set_option maxHeartbeats 4000000 in
set_option maxRecDepth 100000 in
theorem ctX5_push {l : Launch} {G : pm_Gl} {h : pm_H} {a0 : Nat} {p1 : Int64} {r : pm_H} {Qr : Option Value → pm_H → Prop} (hf : fX5_push h a0 p1 = some r) (q : Qr none r) : pm_Ct l G mX5_push [.ref a0, .long p1] h 0 0 Qr := by
  refine pm_body pnX5 (Nat.le_of_ble_eq_true rfl) (fun g C X => ?_)
  have C : pm_C g cX5_push RX5 := C
  show pm_G g 0 [(0, .ref a0), (1, .long p1)] [] h 0 0
  unfold fX5_push at hf
  refine pm_aload_n C dX5_push_0 rfl rfl ?_
  obtain ⟨k1, hf⟩ := pm_if hf
  obtain ⟨v2, e3, hf⟩ := pm_bd hf
  refine pm_getR C dX5_push_1 flX5_15 rfl k1 e3 ?_
  refine pm_aload_n C dX5_push_4 rfl rfl ?_
  obtain ⟨v4, e5, hf⟩ := pm_bd hf
  refine pm_getR C dX5_push_5 flX5_51 rfl k1 e5 ?_
  obtain ⟨k6, hf⟩ := pm_if hf
  refine pm_getI C dX5_push_8 flX5_118 rfl k6 rfl ?_
  refine pm_lload_n C dX5_push_11 rfl rfl ?_
  obtain ⟨v7, e8, hf⟩ := pm_bd hf
  refine pm_callS (as := [.ref v2, .int (pm_I h v4 5), .long p1]) (st := []) C X dX5_push_12 lnX5_99 myX12_setItem_ stX12_setItem_ ⟨by decide, by decide⟩ rfl rfl (Nat.le_of_ble_eq_true rfl) (Nat.le_refl _) (Nat.le_refl _) (ctX12_setItem_ e8 ?_)
  show pm_G g 15 [(0, .ref a0), (1, .long p1)] [] v7 0 0
  refine pm_aload_n C dX5_push_15 rfl rfl ?_
  obtain ⟨k9, hf⟩ := pm_if hf
  obtain ⟨v10, e11, hf⟩ := pm_bd hf
  refine pm_getR C dX5_push_16 flX5_51 rfl k9 e11 ?_
  refine pm_dup C dX5_push_19 rfl ?_
  obtain ⟨k12, hf⟩ := pm_if hf
  refine pm_getI C dX5_push_20 flX5_118 rfl k12 rfl ?_
  refine pm_iconst (v := 1) C dX5_push_23 (by decide) ?_
  refine pm_iadd C dX5_push_24 ?_
  obtain ⟨y13, e14, hf⟩ := pm_lt hf
  refine pm_topI e14 ?_
  refine pm_putI C dX5_push_25 flX5_118 rfl rfl k12 rfl rfl ?_
  cases hf
  exact pm_vret C X dX5_push_28 rfl (Nat.le_refl _) (Nat.le_refl _) q
theorem dX5_register_0 : decode cX5_register 0 = .ok (.iload_n 1, 1) := by decide +kernel
theorem dX5_register_1 : decode cX5_register 1 = .ok (.ifCond .lt 22, 3) := by decide +kernel
theorem dX5_register_4 : decode cX5_register 4 = .ok (.aload_n 0, 1) := by decide +kernel
theorem dX5_register_5 : decode cX5_register 5 = .ok (.getfield 15, 3) := by decide +kernel
theorem dX5_register_8 : decode cX5_register 8 = .ok (.aload_n 0, 1) := by decide +kernel
theorem dX5_register_9 : decode cX5_register 9 = .ok (.getfield 51, 3) := by decide +kernel
theorem dX5_register_12 : decode cX5_register 12 = .ok (.getfield 198, 3) := by decide +kernel
theorem dX5_register_15 : decode cX5_register 15 = .ok (.iload_n 1, 1) := by decide +kernel
theorem dX5_register_16 : decode cX5_register 16 = .ok (.iadd, 1) := by decide +kernel
theorem dX5_register_17 : decode cX5_register 17 = .ok (.invokestatic 92, 3) := by decide +kernel
theorem dX5_register_20 : decode cX5_register 20 = .ok (.goto 19, 3) := by decide +kernel
theorem dX5_register_23 : decode cX5_register 23 = .ok (.aload_n 0, 1) := by decide +kernel
theorem dX5_register_24 : decode cX5_register 24 = .ok (.getfield 51, 3) := by decide +kernel
theorem dX5_register_27 : decode cX5_register 27 = .ok (.getfield 148, 3) := by decide +kernel
theorem dX5_register_30 : decode cX5_register 30 = .ok (.getfield 277, 3) := by decide +kernel
theorem dX5_register_33 : decode cX5_register 33 = .ok (.iconst (-1), 1) := by decide +kernel
theorem dX5_register_34 : decode cX5_register 34 = .ok (.iload_n 1, 1) := by decide +kernel
theorem dX5_register_35 : decode cX5_register 35 = .ok (.isub, 1) := by decide +kernel
theorem dX5_register_36 : decode cX5_register 36 = .ok (.invokestatic 92, 3) := by decide +kernel
theorem dX5_register_39 : decode cX5_register 39 = .ok (.lreturn, 1) := by decide +kernel
def fX5_register (h : pm_H) (a0 : Nat) (p1 : Int32) : Option Int64 := if p1 < 0 then (if pm_kd h a0 = 5 then (pm_R h a0 12).bind fun v3 => if pm_kd h v3 = 3 then (pm_R h v3 1).bind fun v6 => if pm_kd h v6 = 0 then (pm_R h v6 8).bind fun v9 => (fX12_item_ h v9 ((-1) - p1)).bind fun v11 => some v11 else none else none else none) else (if pm_kd h a0 = 5 then (pm_R h a0 10).bind fun v14 => (pm_R h a0 12).bind fun v16 => if pm_kd h v16 = 3 then (fX12_item_ h v14 ((pm_I h v16 4) + p1)).bind fun v19 => some v19 else none else none)
set_option maxHeartbeats 4000000 in
set_option maxRecDepth 100000 in
theorem ctX5_register {l : Launch} {G : pm_Gl} {h : pm_H} {a0 : Nat} {p1 : Int32} {r : Int64} {Qr : Option Value → pm_H → Prop} (hf : fX5_register h a0 p1 = some r) (q : Qr (some (.long r)) h) : pm_Ct l G mX5_register [.ref a0, .int p1] h 0 0 Qr := by
  refine pm_body pnX5 (Nat.le_of_ble_eq_true rfl) (fun g C X => ?_)
  have C : pm_C g cX5_register RX5 := C
  show pm_G g 0 [(0, .ref a0), (1, .int p1)] [] h 0 0
  unfold fX5_register at hf
  refine pm_iload_n C dX5_register_0 rfl rfl ?_
  refine pm_if_lt (tgt := 23) C dX5_register_1 (by decide) (fun c1 => ?_) (fun c1 => ?_)
  · have hf := pm_it hf c1
    refine pm_aload_n C dX5_register_23 rfl rfl ?_
    obtain ⟨k2, hf⟩ := pm_if hf
    obtain ⟨v3, e4, hf⟩ := pm_bd hf
    refine pm_getR C dX5_register_24 flX5_51 rfl k2 e4 ?_
    obtain ⟨k5, hf⟩ := pm_if hf
    obtain ⟨v6, e7, hf⟩ := pm_bd hf
    refine pm_getR C dX5_register_27 flX5_148 rfl k5 e7 ?_
    obtain ⟨k8, hf⟩ := pm_if hf
    obtain ⟨v9, e10, hf⟩ := pm_bd hf
    refine pm_getR C dX5_register_30 flX5_277 rfl k8 e10 ?_
    refine pm_iconst (v := (-1)) C dX5_register_33 (by decide) ?_
    refine pm_iload_n C dX5_register_34 rfl rfl ?_
    refine pm_isub C dX5_register_35 ?_
    obtain ⟨v11, e12, hf⟩ := pm_bd hf
    refine pm_callS (as := [.ref v9, .int ((-1) - p1)]) (st := []) C X dX5_register_36 lnX5_92 myX12_item_ stX12_item_ ⟨by decide, by decide⟩ rfl rfl (Nat.le_of_ble_eq_true rfl) (Nat.le_refl _) (Nat.le_refl _) (ctX12_item_ e12 ?_)
    show pm_G g 39 [(0, .ref a0), (1, .int p1)] [.long v11] h 0 0
    cases hf
    exact pm_lret C X dX5_register_39 rfl (Nat.le_refl _) (Nat.le_refl _) q
  · have hf := pm_ie hf c1
    refine pm_aload_n C dX5_register_4 rfl rfl ?_
    obtain ⟨k13, hf⟩ := pm_if hf
    obtain ⟨v14, e15, hf⟩ := pm_bd hf
    refine pm_getR C dX5_register_5 flX5_15 rfl k13 e15 ?_
    refine pm_aload_n C dX5_register_8 rfl rfl ?_
    obtain ⟨v16, e17, hf⟩ := pm_bd hf
    refine pm_getR C dX5_register_9 flX5_51 rfl k13 e17 ?_
    obtain ⟨k18, hf⟩ := pm_if hf
    refine pm_getI C dX5_register_12 flX5_198 rfl k18 rfl ?_
    refine pm_iload_n C dX5_register_15 rfl rfl ?_
    refine pm_iadd C dX5_register_16 ?_
    obtain ⟨v19, e20, hf⟩ := pm_bd hf
    refine pm_callS (as := [.ref v14, .int ((pm_I h v16 4) + p1)]) (st := []) C X dX5_register_17 lnX5_92 myX12_item_ stX12_item_ ⟨by decide, by decide⟩ rfl rfl (Nat.le_of_ble_eq_true rfl) (Nat.le_refl _) (Nat.le_refl _) (ctX12_item_ e20 ?_)
    show pm_G g 20 [(0, .ref a0), (1, .int p1)] [.long v19] h 0 0
    refine pm_goto (tgt := 39) C dX5_register_20 (by decide) ?_
    cases hf
    exact pm_lret C X dX5_register_39 rfl (Nat.le_refl _) (Nat.le_refl _) q
theorem dX5_tell_0 : decode cX5_tell 0 = .ok (.aload_n 0, 1) := by decide +kernel
theorem dX5_tell_1 : decode cX5_tell 1 = .ok (.iload_n 2, 1) := by decide +kernel
theorem dX5_tell_2 : decode cX5_tell 2 = .ok (.putfield 115, 3) := by decide +kernel
theorem dX5_tell_5 : decode cX5_tell 5 = .ok (.iconst 0, 1) := by decide +kernel
theorem dX5_tell_6 : decode cX5_tell 6 = .ok (.istore_n 3, 1) := by decide +kernel
theorem dX5_tell_7 : decode cX5_tell 7 = .ok (.iload_n 3, 1) := by decide +kernel
theorem dX5_tell_8 : decode cX5_tell 8 = .ok (.iload_n 2, 1) := by decide +kernel
theorem dX5_tell_9 : decode cX5_tell 9 = .ok (.if_icmp .ge 27, 3) := by decide +kernel
theorem dX5_tell_12 : decode cX5_tell 12 = .ok (.aload_n 0, 1) := by decide +kernel
theorem dX5_tell_13 : decode cX5_tell 13 = .ok (.getfield 9, 3) := by decide +kernel
theorem dX5_tell_16 : decode cX5_tell 16 = .ok (.iload_n 3, 1) := by decide +kernel
theorem dX5_tell_17 : decode cX5_tell 17 = .ok (.aload_n 0, 1) := by decide +kernel
theorem dX5_tell_18 : decode cX5_tell 18 = .ok (.getfield 15, 3) := by decide +kernel
theorem dX5_tell_21 : decode cX5_tell 21 = .ok (.iload_n 1, 1) := by decide +kernel
theorem dX5_tell_22 : decode cX5_tell 22 = .ok (.iload_n 3, 1) := by decide +kernel
theorem dX5_tell_23 : decode cX5_tell 23 = .ok (.iadd, 1) := by decide +kernel
theorem dX5_tell_24 : decode cX5_tell 24 = .ok (.invokestatic 92, 3) := by decide +kernel
theorem dX5_tell_27 : decode cX5_tell 27 = .ok (.invokestatic 99, 3) := by decide +kernel
theorem dX5_tell_30 : decode cX5_tell 30 = .ok (.iinc 3 1, 3) := by decide +kernel
theorem dX5_tell_33 : decode cX5_tell 33 = .ok (.goto (-26), 3) := by decide +kernel
theorem dX5_tell_36 : decode cX5_tell 36 = .ok (.return_, 1) := by decide +kernel
def tX5_tell_7 (x0 : Nat) (x1 : Int32) (x2 : Int32) (x3 : Int32) (h : pm_H) : Option (((Nat × Int32 × Int32 × Int32 × pm_H)) ⊕ pm_H) := if x2 ≤ x3 then (some (.inr (h))) else (if pm_kd h x0 = 5 then (pm_R h x0 6).bind fun v4 => (pm_R h x0 10).bind fun v6 => (fX12_item_ h v6 (x1 + x3)).bind fun v8 => (fX12_setItem_ h v4 x3 v8).bind fun v10 => pm_let (x3 + 1) fun y12 => some (.inl ((x0, x1, x2, y12, v10))) else none)
def sX5_tell : ((Nat × Int32 × Int32 × Int32 × pm_H)) → Option (((Nat × Int32 × Int32 × Int32 × pm_H)) ⊕ pm_H) := fun z => match z with
  | (x0, x1, x2, x3, h) => tX5_tell_7 x0 x1 x2 x3 h
noncomputable def fX5_tell (h : pm_H) (a0 : Nat) (p1 : Int32) (p2 : Int32) : Option pm_H := if pm_kd h a0 = 5 then pm_lim sX5_tell ((a0, p1, p2, 0, pm_setI h a0 7 p2)) else none
set_option maxHeartbeats 4000000 in
set_option maxRecDepth 100000 in
theorem lpX5_tell {g : pm_Gm} {l : Launch} {G : pm_Gl} {Qr : Option Value → pm_H → Prop} (C : pm_C g cX5_tell RX5) (X : pm_X g l G mX5_tell 0 0 Qr) {r : pm_H} (q : Qr none r) : ∀ n : Nat, (∀ (x0 : Nat) (x1 : Int32) (x2 : Int32) (x3 : Int32) (h : pm_H), pm_iter sX5_tell n (x0, x1, x2, x3, h) = some r → pm_G g 7 [(0, .ref x0), (1, .int x1), (2, .int x2), (3, .int x3)] [] h 0 0) := by
  intro n
  induction n with
  | zero => exact fun _ _ _ _ _ hf => (by cases hf)
  | succ n ih =>
    refine fun x0 x1 x2 x3 h hf => ?_
    obtain ⟨y, hf, hi⟩ := pm_iter_s hf
    have hf : tX5_tell_7 x0 x1 x2 x3 h = some y := hf
    unfold tX5_tell_7 at hf
    refine pm_iload_n C dX5_tell_7 rfl rfl ?_
    refine pm_iload_n C dX5_tell_8 rfl rfl ?_
    refine pm_icmp_ge (tgt := 36) C dX5_tell_9 (by decide) (fun c2 => ?_) (fun c2 => ?_)
    · have hf := pm_it hf c2
      cases hf
      cases hi
      exact pm_vret C X dX5_tell_36 rfl (Nat.le_refl _) (Nat.le_refl _) q
    · have hf := pm_ie hf c2
      refine pm_aload_n C dX5_tell_12 rfl rfl ?_
      obtain ⟨k3, hf⟩ := pm_if hf
      obtain ⟨v4, e5, hf⟩ := pm_bd hf
      refine pm_getR C dX5_tell_13 flX5_9 rfl k3 e5 ?_
      refine pm_iload_n C dX5_tell_16 rfl rfl ?_
      refine pm_aload_n C dX5_tell_17 rfl rfl ?_
      obtain ⟨v6, e7, hf⟩ := pm_bd hf
      refine pm_getR C dX5_tell_18 flX5_15 rfl k3 e7 ?_
      refine pm_iload_n C dX5_tell_21 rfl rfl ?_
      refine pm_iload_n C dX5_tell_22 rfl rfl ?_
      refine pm_iadd C dX5_tell_23 ?_
      obtain ⟨v8, e9, hf⟩ := pm_bd hf
      refine pm_callS (as := [.ref v6, .int (x1 + x3)]) (st := [.int x3, .ref v4]) C X dX5_tell_24 lnX5_92 myX12_item_ stX12_item_ ⟨by decide, by decide⟩ rfl rfl (Nat.le_of_ble_eq_true rfl) (Nat.le_refl _) (Nat.le_refl _) (ctX12_item_ e9 ?_)
      show pm_G g 27 [(0, .ref x0), (1, .int x1), (2, .int x2), (3, .int x3)] [.long v8, .int x3, .ref v4] h 0 0
      obtain ⟨v10, e11, hf⟩ := pm_bd hf
      refine pm_callS (as := [.ref v4, .int x3, .long v8]) (st := []) C X dX5_tell_27 lnX5_99 myX12_setItem_ stX12_setItem_ ⟨by decide, by decide⟩ rfl rfl (Nat.le_of_ble_eq_true rfl) (Nat.le_refl _) (Nat.le_refl _) (ctX12_setItem_ e11 ?_)
      show pm_G g 30 [(0, .ref x0), (1, .int x1), (2, .int x2), (3, .int x3)] [] v10 0 0
      obtain ⟨y12, e13, hf⟩ := pm_lt hf
      refine pm_iinc (v := y12) (lv' := [(3, .int y12), (0, .ref x0), (1, .int x1), (2, .int x2)]) C dX5_tell_30 rfl ((congrArg (x3 + ·) (by decide : Int32.ofInt 1 = 1)).trans e13) (pm_nl X (by decide)) rfl ?_
      refine pm_goto (tgt := 7) C dX5_tell_33 (by decide) ?_
      cases hf
      exact pm_sub [1, 2, 3, 0] rfl (ih x0 x1 x2 y12 v10 hi)
set_option maxHeartbeats 4000000 in
set_option maxRecDepth 100000 in
theorem ctX5_tell {l : Launch} {G : pm_Gl} {h : pm_H} {a0 : Nat} {p1 : Int32} {p2 : Int32} {r : pm_H} {Qr : Option Value → pm_H → Prop} (hf : fX5_tell h a0 p1 p2 = some r) (q : Qr none r) : pm_Ct l G mX5_tell [.ref a0, .int p1, .int p2] h 0 0 Qr := by
  refine pm_body pnX5 (Nat.le_of_ble_eq_true rfl) (fun g C X => ?_)
  have C : pm_C g cX5_tell RX5 := C
  show pm_G g 0 [(0, .ref a0), (1, .int p1), (2, .int p2)] [] h 0 0
  unfold fX5_tell at hf
  refine pm_aload_n C dX5_tell_0 rfl rfl ?_
  refine pm_iload_n C dX5_tell_1 rfl rfl ?_
  obtain ⟨k1, hf⟩ := pm_if hf
  refine pm_putI C dX5_tell_2 flX5_115 rfl rfl k1 rfl rfl ?_
  refine pm_iconst (v := 0) C dX5_tell_5 (by decide) ?_
  refine pm_istore_n (lv' := [(3, .int 0), (0, .ref a0), (1, .int p1), (2, .int p2)]) C dX5_tell_6 rfl (pm_nl X (by decide)) rfl ?_
  obtain ⟨n, hn⟩ := pm_lim_iter hf
  exact pm_sub [1, 2, 3, 0] rfl ((lpX5_tell C X q n) a0 p1 p2 0 (pm_setI h a0 7 p2) hn)
theorem dX6_byteAt_0 : decode cX6_byteAt 0 = .ok (.aload_n 0, 1) := by decide +kernel
theorem dX6_byteAt_1 : decode cX6_byteAt 1 = .ok (.getfield 25, 3) := by decide +kernel
theorem dX6_byteAt_4 : decode cX6_byteAt 4 = .ok (.aload_n 0, 1) := by decide +kernel
theorem dX6_byteAt_5 : decode cX6_byteAt 5 = .ok (.iload_n 1, 1) := by decide +kernel
theorem dX6_byteAt_6 : decode cX6_byteAt 6 = .ok (.lload_n 2, 1) := by decide +kernel
theorem dX6_byteAt_7 : decode cX6_byteAt 7 = .ok (.invokevirtual 62, 3) := by decide +kernel
theorem dX6_byteAt_10 : decode cX6_byteAt 10 = .ok (.aaload, 1) := by decide +kernel
theorem dX6_byteAt_11 : decode cX6_byteAt 11 = .ok (.astore 4, 2) := by decide +kernel
theorem dX6_byteAt_13 : decode cX6_byteAt 13 = .ok (.lload_n 2, 1) := by decide +kernel
theorem dX6_byteAt_14 : decode cX6_byteAt 14 = .ok (.ldc2_w 65, 3) := by decide +kernel
theorem dX6_byteAt_17 : decode cX6_byteAt 17 = .ok (.land, 1) := by decide +kernel
theorem dX6_byteAt_18 : decode cX6_byteAt 18 = .ok (.l2i, 1) := by decide +kernel
theorem dX6_byteAt_19 : decode cX6_byteAt 19 = .ok (.istore 5, 2) := by decide +kernel
theorem dX6_byteAt_21 : decode cX6_byteAt 21 = .ok (.iload 5, 2) := by decide +kernel
theorem dX6_byteAt_23 : decode cX6_byteAt 23 = .ok (.aload 4, 2) := by decide +kernel
theorem dX6_byteAt_25 : decode cX6_byteAt 25 = .ok (.arraylength, 1) := by decide +kernel
theorem dX6_byteAt_26 : decode cX6_byteAt 26 = .ok (.if_icmp .ge 15, 3) := by decide +kernel
theorem dX6_byteAt_29 : decode cX6_byteAt 29 = .ok (.aload 4, 2) := by decide +kernel
theorem dX6_byteAt_31 : decode cX6_byteAt 31 = .ok (.iload 5, 2) := by decide +kernel
theorem dX6_byteAt_33 : decode cX6_byteAt 33 = .ok (.baload, 1) := by decide +kernel
theorem dX6_byteAt_34 : decode cX6_byteAt 34 = .ok (.sipush 255, 3) := by decide +kernel
theorem dX6_byteAt_37 : decode cX6_byteAt 37 = .ok (.iand, 1) := by decide +kernel
theorem dX6_byteAt_38 : decode cX6_byteAt 38 = .ok (.goto 4, 3) := by decide +kernel
theorem dX6_byteAt_41 : decode cX6_byteAt 41 = .ok (.iconst 0, 1) := by decide +kernel
theorem dX6_byteAt_42 : decode cX6_byteAt 42 = .ok (.ireturn, 1) := by decide +kernel
def fX6_byteAt (h : pm_H) (a0 : Nat) (p1 : Int32) (p2 : Int64) : Option Int32 := if pm_kd h a0 = 6 then (pm_R h a0 4).bind fun v2 => (fX6_pageOf h a0 p1 p2).bind fun v4 => if pm_kd h v2 = 37 then if pm_in v4 (pm_ln h v2) then (pm_R h v2 v4.toNatClampNeg).bind fun v8 => pm_let ((p2 &&& 65535).toInt32) fun y10 => if pm_kd h v8 = 33 then if (Int32.ofNat (pm_ln h v8)) ≤ y10 then (some 0) else (if pm_in y10 (pm_ln h v8) then some ((pm_I h v8 y10.toNatClampNeg) &&& 255) else none) else none else none else none else none
set_option maxHeartbeats 4000000 in
set_option maxRecDepth 100000 in
theorem ctX6_byteAt {l : Launch} {G : pm_Gl} {h : pm_H} {a0 : Nat} {p1 : Int32} {p2 : Int64} {r : Int32} {Qr : Option Value → pm_H → Prop} (hf : fX6_byteAt h a0 p1 p2 = some r) (q : Qr (some (.int r)) h) : pm_Ct l G mX6_byteAt [.ref a0, .int p1, .long p2] h 0 0 Qr := by
  refine pm_body pnX6 (Nat.le_of_ble_eq_true rfl) (fun g C X => ?_)
  have C : pm_C g cX6_byteAt RX6 := C
  show pm_G g 0 [(0, .ref a0), (1, .int p1), (2, .long p2)] [] h 0 0
  unfold fX6_byteAt at hf
  refine pm_aload_n C dX6_byteAt_0 rfl rfl ?_
  obtain ⟨k1, hf⟩ := pm_if hf
  obtain ⟨v2, e3, hf⟩ := pm_bd hf
  refine pm_getR C dX6_byteAt_1 flX6_25 rfl k1 e3 ?_
  refine pm_aload_n C dX6_byteAt_4 rfl rfl ?_
  refine pm_iload_n C dX6_byteAt_5 rfl rfl ?_
  refine pm_lload_n C dX6_byteAt_6 rfl rfl ?_
  obtain ⟨v4, e5, hf⟩ := pm_bd hf
  refine pm_callV (as := [.int p1, .long p2]) (st := [.ref v2]) C X dX6_byteAt_7 lnX6_62 myX6_pageOf viX6_pageOf ⟨by decide, by decide⟩ rfl rfl k1 (Nat.le_of_ble_eq_true rfl) (Nat.le_refl _) (Nat.le_refl _) (ctX6_pageOf e5 ?_)
  show pm_G g 10 [(0, .ref a0), (1, .int p1), (2, .long p2)] [.int v4, .ref v2] h 0 0
  obtain ⟨k6, hf⟩ := pm_if hf
  obtain ⟨u7, hf⟩ := pm_if hf
  obtain ⟨v8, e9, hf⟩ := pm_bd hf
  refine pm_ald (t := 5) C dX6_byteAt_10 (by decide) rfl k6 u7 e9 ?_
  refine pm_astore (lv' := [(4, .ref v8), (0, .ref a0), (1, .int p1), (2, .long p2)]) C dX6_byteAt_11 (pm_nl X (by decide)) rfl ?_
  refine pm_lload_n C dX6_byteAt_13 rfl rfl ?_
  refine pm_ldc2 C dX6_byteAt_14 cnX6_65 ?_
  refine pm_land C dX6_byteAt_17 ?_
  refine pm_l2i C dX6_byteAt_18 ?_
  obtain ⟨y10, e11, hf⟩ := pm_lt hf
  refine pm_topI e11 ?_
  refine pm_istore (lv' := [(5, .int y10), (4, .ref v8), (0, .ref a0), (1, .int p1), (2, .long p2)]) C dX6_byteAt_19 (pm_nl X (by decide)) rfl ?_
  refine pm_iload C dX6_byteAt_21 rfl ?_
  refine pm_aload C dX6_byteAt_23 rfl ?_
  obtain ⟨k12, hf⟩ := pm_if hf
  refine pm_alen (t := 1) C dX6_byteAt_25 (by decide) k12 rfl ?_
  refine pm_icmp_ge (tgt := 41) C dX6_byteAt_26 (by decide) (fun c13 => ?_) (fun c13 => ?_)
  · have hf := pm_it hf c13
    refine pm_iconst (v := 0) C dX6_byteAt_41 (by decide) ?_
    cases hf
    exact pm_iret C X dX6_byteAt_42 rfl (Nat.le_refl _) (Nat.le_refl _) q
  · have hf := pm_ie hf c13
    refine pm_aload C dX6_byteAt_29 rfl ?_
    refine pm_iload C dX6_byteAt_31 rfl ?_
    obtain ⟨u14, hf⟩ := pm_if hf
    refine pm_bald C dX6_byteAt_33 k12 u14 rfl ?_
    refine pm_sipush (v := 255) C dX6_byteAt_34 (by decide) ?_
    refine pm_iand C dX6_byteAt_37 ?_
    refine pm_goto (tgt := 42) C dX6_byteAt_38 (by decide) ?_
    cases hf
    exact pm_iret C X dX6_byteAt_42 rfl (Nat.le_refl _) (Nat.le_refl _) q
theorem dX6_leftOfPage_0 : decode cX6_leftOfPage 0 = .ok (.lload_n 2, 1) := by decide +kernel
theorem dX6_leftOfPage_1 : decode cX6_leftOfPage 1 = .ok (.lconst 0, 1) := by decide +kernel
theorem dX6_leftOfPage_2 : decode cX6_leftOfPage 2 = .ok (.lcmp, 1) := by decide +kernel
theorem dX6_leftOfPage_3 : decode cX6_leftOfPage 3 = .ok (.ifCond .lt 54, 3) := by decide +kernel
theorem dX6_leftOfPage_6 : decode cX6_leftOfPage 6 = .ok (.iload_n 1, 1) := by decide +kernel
theorem dX6_leftOfPage_7 : decode cX6_leftOfPage 7 = .ok (.ifCond .lt 50, 3) := by decide +kernel
theorem dX6_leftOfPage_10 : decode cX6_leftOfPage 10 = .ok (.lload_n 2, 1) := by decide +kernel
theorem dX6_leftOfPage_11 : decode cX6_leftOfPage 11 = .ok (.aload_n 0, 1) := by decide +kernel
theorem dX6_leftOfPage_12 : decode cX6_leftOfPage 12 = .ok (.getfield 15, 3) := by decide +kernel
theorem dX6_leftOfPage_15 : decode cX6_leftOfPage 15 = .ok (.iload_n 1, 1) := by decide +kernel
theorem dX6_leftOfPage_16 : decode cX6_leftOfPage 16 = .ok (.invokestatic 52, 3) := by decide +kernel
theorem dX6_leftOfPage_19 : decode cX6_leftOfPage 19 = .ok (.i2l, 1) := by decide +kernel
theorem dX6_leftOfPage_20 : decode cX6_leftOfPage 20 = .ok (.ldc2_w 59, 3) := by decide +kernel
theorem dX6_leftOfPage_23 : decode cX6_leftOfPage 23 = .ok (.lmul, 1) := by decide +kernel
theorem dX6_leftOfPage_24 : decode cX6_leftOfPage 24 = .ok (.lcmp, 1) := by decide +kernel
theorem dX6_leftOfPage_25 : decode cX6_leftOfPage 25 = .ok (.ifCond .ge 32, 3) := by decide +kernel
theorem dX6_leftOfPage_28 : decode cX6_leftOfPage 28 = .ok (.aload_n 0, 1) := by decide +kernel
theorem dX6_leftOfPage_29 : decode cX6_leftOfPage 29 = .ok (.getfield 25, 3) := by decide +kernel
theorem dX6_leftOfPage_32 : decode cX6_leftOfPage 32 = .ok (.aload_n 0, 1) := by decide +kernel
theorem dX6_leftOfPage_33 : decode cX6_leftOfPage 33 = .ok (.iload_n 1, 1) := by decide +kernel
theorem dX6_leftOfPage_34 : decode cX6_leftOfPage 34 = .ok (.lload_n 2, 1) := by decide +kernel
theorem dX6_leftOfPage_35 : decode cX6_leftOfPage 35 = .ok (.invokevirtual 62, 3) := by decide +kernel
theorem dX6_leftOfPage_38 : decode cX6_leftOfPage 38 = .ok (.aaload, 1) := by decide +kernel
theorem dX6_leftOfPage_39 : decode cX6_leftOfPage 39 = .ok (.arraylength, 1) := by decide +kernel
theorem dX6_leftOfPage_40 : decode cX6_leftOfPage 40 = .ok (.ldc 61, 2) := by decide +kernel
theorem dX6_leftOfPage_42 : decode cX6_leftOfPage 42 = .ok (.if_icmp .ne 15, 3) := by decide +kernel
theorem dX6_leftOfPage_45 : decode cX6_leftOfPage 45 = .ok (.ldc 61, 2) := by decide +kernel
theorem dX6_leftOfPage_47 : decode cX6_leftOfPage 47 = .ok (.lload_n 2, 1) := by decide +kernel
theorem dX6_leftOfPage_48 : decode cX6_leftOfPage 48 = .ok (.ldc2_w 65, 3) := by decide +kernel
theorem dX6_leftOfPage_51 : decode cX6_leftOfPage 51 = .ok (.land, 1) := by decide +kernel
theorem dX6_leftOfPage_52 : decode cX6_leftOfPage 52 = .ok (.l2i, 1) := by decide +kernel
theorem dX6_leftOfPage_53 : decode cX6_leftOfPage 53 = .ok (.isub, 1) := by decide +kernel
theorem dX6_leftOfPage_54 : decode cX6_leftOfPage 54 = .ok (.goto 4, 3) := by decide +kernel
theorem dX6_leftOfPage_57 : decode cX6_leftOfPage 57 = .ok (.iconst 0, 1) := by decide +kernel
theorem dX6_leftOfPage_58 : decode cX6_leftOfPage 58 = .ok (.ireturn, 1) := by decide +kernel
def fX6_leftOfPage (h : pm_H) (a0 : Nat) (p1 : Int32) (p2 : Int64) : Option Int32 := if p2 < 0 then (some 0) else (if p1 < 0 then (some 0) else (if pm_kd h a0 = 6 then (pm_R h a0 2).bind fun v4 => (fX12_item h v4 p1).bind fun v6 => if (v6.toInt64 * 65536) ≤ p2 then (some 0) else ((pm_R h a0 4).bind fun v9 => (fX6_pageOf h a0 p1 p2).bind fun v11 => if pm_kd h v9 = 37 then if pm_in v11 (pm_ln h v9) then (pm_R h v9 v11.toNatClampNeg).bind fun v15 => if pm_kd h v15 = 33 then if (Int32.ofNat (pm_ln h v15)) = 65536 then (some (65536 - ((p2 &&& 65535).toInt32))) else (some 0) else none else none else none) else none))
set_option maxHeartbeats 4000000 in
set_option maxRecDepth 100000 in
theorem ctX6_leftOfPage {l : Launch} {G : pm_Gl} {h : pm_H} {a0 : Nat} {p1 : Int32} {p2 : Int64} {r : Int32} {Qr : Option Value → pm_H → Prop} (hf : fX6_leftOfPage h a0 p1 p2 = some r) (q : Qr (some (.int r)) h) : pm_Ct l G mX6_leftOfPage [.ref a0, .int p1, .long p2] h 0 0 Qr := by
  refine pm_body pnX6 (Nat.le_of_ble_eq_true rfl) (fun g C X => ?_)
  have C : pm_C g cX6_leftOfPage RX6 := C
  show pm_G g 0 [(0, .ref a0), (1, .int p1), (2, .long p2)] [] h 0 0
  unfold fX6_leftOfPage at hf
  refine pm_lload_n C dX6_leftOfPage_0 rfl rfl ?_
  refine pm_lconst (v := 0) C dX6_leftOfPage_1 (by decide) ?_
  refine pm_lcmp C dX6_leftOfPage_2 ?_
  refine pm_if_lt (tgt := 57) C dX6_leftOfPage_3 (by decide) (fun c1 => ?_) (fun c1 => ?_)
  · have hf := pm_it hf ((pm_lg_lt _ _).mp c1)
    refine pm_iconst (v := 0) C dX6_leftOfPage_57 (by decide) ?_
    cases hf
    exact pm_iret C X dX6_leftOfPage_58 rfl (Nat.le_refl _) (Nat.le_refl _) q
  · have hf := pm_ie hf ((fun z => c1 ((pm_lg_lt _ _).mpr z)))
    refine pm_iload_n C dX6_leftOfPage_6 rfl rfl ?_
    refine pm_if_lt (tgt := 57) C dX6_leftOfPage_7 (by decide) (fun c2 => ?_) (fun c2 => ?_)
    · have hf := pm_it hf c2
      refine pm_iconst (v := 0) C dX6_leftOfPage_57 (by decide) ?_
      cases hf
      exact pm_iret C X dX6_leftOfPage_58 rfl (Nat.le_refl _) (Nat.le_refl _) q
    · have hf := pm_ie hf c2
      refine pm_lload_n C dX6_leftOfPage_10 rfl rfl ?_
      refine pm_aload_n C dX6_leftOfPage_11 rfl rfl ?_
      obtain ⟨k3, hf⟩ := pm_if hf
      obtain ⟨v4, e5, hf⟩ := pm_bd hf
      refine pm_getR C dX6_leftOfPage_12 flX6_15 rfl k3 e5 ?_
      refine pm_iload_n C dX6_leftOfPage_15 rfl rfl ?_
      obtain ⟨v6, e7, hf⟩ := pm_bd hf
      refine pm_callS (as := [.ref v4, .int p1]) (st := [.long p2]) C X dX6_leftOfPage_16 lnX6_52 myX12_item stX12_item ⟨by decide, by decide⟩ rfl rfl (Nat.le_of_ble_eq_true rfl) (Nat.le_refl _) (Nat.le_refl _) (ctX12_item e7 ?_)
      show pm_G g 19 [(0, .ref a0), (1, .int p1), (2, .long p2)] [.int v6, .long p2] h 0 0
      refine pm_i2l C dX6_leftOfPage_19 ?_
      refine pm_ldc2 C dX6_leftOfPage_20 cnX6_59 ?_
      refine pm_lmul C dX6_leftOfPage_23 ?_
      refine pm_lcmp C dX6_leftOfPage_24 ?_
      refine pm_if_ge (tgt := 57) C dX6_leftOfPage_25 (by decide) (fun c8 => ?_) (fun c8 => ?_)
      · have hf := pm_it hf ((pm_lg_ge _ _).mp c8)
        refine pm_iconst (v := 0) C dX6_leftOfPage_57 (by decide) ?_
        cases hf
        exact pm_iret C X dX6_leftOfPage_58 rfl (Nat.le_refl _) (Nat.le_refl _) q
      · have hf := pm_ie hf ((fun z => c8 ((pm_lg_ge _ _).mpr z)))
        refine pm_aload_n C dX6_leftOfPage_28 rfl rfl ?_
        obtain ⟨v9, e10, hf⟩ := pm_bd hf
        refine pm_getR C dX6_leftOfPage_29 flX6_25 rfl k3 e10 ?_
        refine pm_aload_n C dX6_leftOfPage_32 rfl rfl ?_
        refine pm_iload_n C dX6_leftOfPage_33 rfl rfl ?_
        refine pm_lload_n C dX6_leftOfPage_34 rfl rfl ?_
        obtain ⟨v11, e12, hf⟩ := pm_bd hf
        refine pm_callV (as := [.int p1, .long p2]) (st := [.ref v9]) C X dX6_leftOfPage_35 lnX6_62 myX6_pageOf viX6_pageOf ⟨by decide, by decide⟩ rfl rfl k3 (Nat.le_of_ble_eq_true rfl) (Nat.le_refl _) (Nat.le_refl _) (ctX6_pageOf e12 ?_)
        show pm_G g 38 [(0, .ref a0), (1, .int p1), (2, .long p2)] [.int v11, .ref v9] h 0 0
        obtain ⟨k13, hf⟩ := pm_if hf
        obtain ⟨u14, hf⟩ := pm_if hf
        obtain ⟨v15, e16, hf⟩ := pm_bd hf
        refine pm_ald (t := 5) C dX6_leftOfPage_38 (by decide) rfl k13 u14 e16 ?_
        obtain ⟨k17, hf⟩ := pm_if hf
        refine pm_alen (t := 1) C dX6_leftOfPage_39 (by decide) k17 rfl ?_
        refine pm_ldc C dX6_leftOfPage_40 cnX6_61 ?_
        refine pm_icmp_ne (tgt := 57) C dX6_leftOfPage_42 (by decide) (fun c18 => ?_) (fun c18 => ?_)
        · have hf := pm_ie hf c18
          refine pm_iconst (v := 0) C dX6_leftOfPage_57 (by decide) ?_
          cases hf
          exact pm_iret C X dX6_leftOfPage_58 rfl (Nat.le_refl _) (Nat.le_refl _) q
        · have hf := pm_it hf c18
          refine pm_ldc C dX6_leftOfPage_45 cnX6_61 ?_
          refine pm_lload_n C dX6_leftOfPage_47 rfl rfl ?_
          refine pm_ldc2 C dX6_leftOfPage_48 cnX6_65 ?_
          refine pm_land C dX6_leftOfPage_51 ?_
          refine pm_l2i C dX6_leftOfPage_52 ?_
          refine pm_isub C dX6_leftOfPage_53 ?_
          refine pm_goto (tgt := 58) C dX6_leftOfPage_54 (by decide) ?_
          cases hf
          exact pm_iret C X dX6_leftOfPage_58 rfl (Nat.le_refl _) (Nat.le_refl _) q
theorem dX6_reaches_0 : decode cX6_reaches 0 = .ok (.lload_n 2, 1) := by decide +kernel
theorem dX6_reaches_1 : decode cX6_reaches 1 = .ok (.lconst 0, 1) := by decide +kernel
theorem dX6_reaches_2 : decode cX6_reaches 2 = .ok (.lcmp, 1) := by decide +kernel
theorem dX6_reaches_3 : decode cX6_reaches 3 = .ok (.ifCond .lt 35, 3) := by decide +kernel
theorem dX6_reaches_6 : decode cX6_reaches 6 = .ok (.lload 4, 2) := by decide +kernel
theorem dX6_reaches_8 : decode cX6_reaches 8 = .ok (.lconst 0, 1) := by decide +kernel
theorem dX6_reaches_9 : decode cX6_reaches 9 = .ok (.lcmp, 1) := by decide +kernel
theorem dX6_reaches_10 : decode cX6_reaches 10 = .ok (.ifCond .lt 28, 3) := by decide +kernel
theorem dX6_reaches_13 : decode cX6_reaches 13 = .ok (.lload_n 2, 1) := by decide +kernel
theorem dX6_reaches_14 : decode cX6_reaches 14 = .ok (.lload 4, 2) := by decide +kernel
theorem dX6_reaches_16 : decode cX6_reaches 16 = .ok (.ladd, 1) := by decide +kernel
theorem dX6_reaches_17 : decode cX6_reaches 17 = .ok (.aload_n 0, 1) := by decide +kernel
theorem dX6_reaches_18 : decode cX6_reaches 18 = .ok (.getfield 15, 3) := by decide +kernel
theorem dX6_reaches_21 : decode cX6_reaches 21 = .ok (.iload_n 1, 1) := by decide +kernel
theorem dX6_reaches_22 : decode cX6_reaches 22 = .ok (.invokestatic 52, 3) := by decide +kernel
theorem dX6_reaches_25 : decode cX6_reaches 25 = .ok (.i2l, 1) := by decide +kernel
theorem dX6_reaches_26 : decode cX6_reaches 26 = .ok (.ldc2_w 59, 3) := by decide +kernel
theorem dX6_reaches_29 : decode cX6_reaches 29 = .ok (.lmul, 1) := by decide +kernel
theorem dX6_reaches_30 : decode cX6_reaches 30 = .ok (.lcmp, 1) := by decide +kernel
theorem dX6_reaches_31 : decode cX6_reaches 31 = .ok (.ifCond .gt 7, 3) := by decide +kernel
theorem dX6_reaches_34 : decode cX6_reaches 34 = .ok (.iconst 1, 1) := by decide +kernel
theorem dX6_reaches_35 : decode cX6_reaches 35 = .ok (.goto 4, 3) := by decide +kernel
theorem dX6_reaches_38 : decode cX6_reaches 38 = .ok (.iconst 0, 1) := by decide +kernel
theorem dX6_reaches_39 : decode cX6_reaches 39 = .ok (.ireturn, 1) := by decide +kernel
def fX6_reaches (h : pm_H) (a0 : Nat) (p1 : Int32) (p2 : Int64) (p3 : Int64) : Option Int32 := if p2 < 0 then (some 0) else (if p3 < 0 then (some 0) else (if pm_kd h a0 = 6 then (pm_R h a0 2).bind fun v4 => (fX12_item h v4 p1).bind fun v6 => if (v6.toInt64 * 65536) < (p2 + p3) then (some 0) else (some 1) else none))
set_option maxHeartbeats 4000000 in
set_option maxRecDepth 100000 in
theorem ctX6_reaches {l : Launch} {G : pm_Gl} {h : pm_H} {a0 : Nat} {p1 : Int32} {p2 : Int64} {p3 : Int64} {r : Int32} {Qr : Option Value → pm_H → Prop} (hf : fX6_reaches h a0 p1 p2 p3 = some r) (q : Qr (some (.int r)) h) : pm_Ct l G mX6_reaches [.ref a0, .int p1, .long p2, .long p3] h 0 0 Qr := by
  refine pm_body pnX6 (Nat.le_of_ble_eq_true rfl) (fun g C X => ?_)
  have C : pm_C g cX6_reaches RX6 := C
  show pm_G g 0 [(0, .ref a0), (1, .int p1), (2, .long p2), (4, .long p3)] [] h 0 0
  unfold fX6_reaches at hf
  refine pm_lload_n C dX6_reaches_0 rfl rfl ?_
  refine pm_lconst (v := 0) C dX6_reaches_1 (by decide) ?_
  refine pm_lcmp C dX6_reaches_2 ?_
  refine pm_if_lt (tgt := 38) C dX6_reaches_3 (by decide) (fun c1 => ?_) (fun c1 => ?_)
  · have hf := pm_it hf ((pm_lg_lt _ _).mp c1)
    refine pm_iconst (v := 0) C dX6_reaches_38 (by decide) ?_
    cases hf
    exact pm_zret C X dX6_reaches_39 rfl (by decide) (Nat.le_refl _) (Nat.le_refl _) q
  · have hf := pm_ie hf ((fun z => c1 ((pm_lg_lt _ _).mpr z)))
    refine pm_lload C dX6_reaches_6 rfl ?_
    refine pm_lconst (v := 0) C dX6_reaches_8 (by decide) ?_
    refine pm_lcmp C dX6_reaches_9 ?_
    refine pm_if_lt (tgt := 38) C dX6_reaches_10 (by decide) (fun c2 => ?_) (fun c2 => ?_)
    · have hf := pm_it hf ((pm_lg_lt _ _).mp c2)
      refine pm_iconst (v := 0) C dX6_reaches_38 (by decide) ?_
      cases hf
      exact pm_zret C X dX6_reaches_39 rfl (by decide) (Nat.le_refl _) (Nat.le_refl _) q
    · have hf := pm_ie hf ((fun z => c2 ((pm_lg_lt _ _).mpr z)))
      refine pm_lload_n C dX6_reaches_13 rfl rfl ?_
      refine pm_lload C dX6_reaches_14 rfl ?_
      refine pm_ladd C dX6_reaches_16 ?_
      refine pm_aload_n C dX6_reaches_17 rfl rfl ?_
      obtain ⟨k3, hf⟩ := pm_if hf
      obtain ⟨v4, e5, hf⟩ := pm_bd hf
      refine pm_getR C dX6_reaches_18 flX6_15 rfl k3 e5 ?_
      refine pm_iload_n C dX6_reaches_21 rfl rfl ?_
      obtain ⟨v6, e7, hf⟩ := pm_bd hf
      refine pm_callS (as := [.ref v4, .int p1]) (st := [.long (p2 + p3)]) C X dX6_reaches_22 lnX6_52 myX12_item stX12_item ⟨by decide, by decide⟩ rfl rfl (Nat.le_of_ble_eq_true rfl) (Nat.le_refl _) (Nat.le_refl _) (ctX12_item e7 ?_)
      show pm_G g 25 [(0, .ref a0), (1, .int p1), (2, .long p2), (4, .long p3)] [.int v6, .long (p2 + p3)] h 0 0
      refine pm_i2l C dX6_reaches_25 ?_
      refine pm_ldc2 C dX6_reaches_26 cnX6_59 ?_
      refine pm_lmul C dX6_reaches_29 ?_
      refine pm_lcmp C dX6_reaches_30 ?_
      refine pm_if_gt (tgt := 38) C dX6_reaches_31 (by decide) (fun c8 => ?_) (fun c8 => ?_)
      · have hf := pm_it hf ((pm_lg_gt _ _).mp c8)
        refine pm_iconst (v := 0) C dX6_reaches_38 (by decide) ?_
        cases hf
        exact pm_zret C X dX6_reaches_39 rfl (by decide) (Nat.le_refl _) (Nat.le_refl _) q
      · have hf := pm_ie hf ((fun z => c8 ((pm_lg_gt _ _).mpr z)))
        refine pm_iconst (v := 1) C dX6_reaches_34 (by decide) ?_
        refine pm_goto (tgt := 39) C dX6_reaches_35 (by decide) ?_
        cases hf
        exact pm_zret C X dX6_reaches_39 rfl (by decide) (Nat.le_refl _) (Nat.le_refl _) q
theorem dX7_count_0 : decode cX7_count 0 = .ok (.aload_n 0, 1) := by decide +kernel
theorem dX7_count_1 : decode cX7_count 1 = .ok (.iload_n 1, 1) := by decide +kernel
theorem dX7_count_2 : decode cX7_count 2 = .ok (.invokevirtual 65, 3) := by decide +kernel
theorem dX7_count_5 : decode cX7_count 5 = .ok (.arraylength, 1) := by decide +kernel
theorem dX7_count_6 : decode cX7_count 6 = .ok (.bipush 6, 2) := by decide +kernel
theorem dX7_count_8 : decode cX7_count 8 = .ok (.idiv, 1) := by decide +kernel
theorem dX7_count_9 : decode cX7_count 9 = .ok (.ireturn, 1) := by decide +kernel
def fX7_count (h : pm_H) (a0 : Nat) (p1 : Int32) : Option Int32 := if pm_kd h a0 = 7 then (fX7_space h a0 p1).bind fun v2 => if pm_kd h v2 = 35 then some ((Int32.ofNat (pm_ln h v2)) / 6) else none else none
set_option maxHeartbeats 4000000 in
set_option maxRecDepth 100000 in
theorem ctX7_count {l : Launch} {G : pm_Gl} {h : pm_H} {a0 : Nat} {p1 : Int32} {r : Int32} {Qr : Option Value → pm_H → Prop} (hf : fX7_count h a0 p1 = some r) (q : Qr (some (.int r)) h) : pm_Ct l G mX7_count [.ref a0, .int p1] h 0 0 Qr := by
  refine pm_body pnX7 (Nat.le_of_ble_eq_true rfl) (fun g C X => ?_)
  have C : pm_C g cX7_count RX7 := C
  show pm_G g 0 [(0, .ref a0), (1, .int p1)] [] h 0 0
  unfold fX7_count at hf
  refine pm_aload_n C dX7_count_0 rfl rfl ?_
  refine pm_iload_n C dX7_count_1 rfl rfl ?_
  obtain ⟨k1, hf⟩ := pm_if hf
  obtain ⟨v2, e3, hf⟩ := pm_bd hf
  refine pm_callV (as := [.int p1]) (st := []) C X dX7_count_2 lnX7_65 myX7_space viX7_space ⟨by decide, by decide⟩ rfl rfl k1 (Nat.le_of_ble_eq_true rfl) (Nat.le_refl _) (Nat.le_refl _) (ctX7_space e3 ?_)
  show pm_G g 5 [(0, .ref a0), (1, .int p1)] [.ref v2] h 0 0
  obtain ⟨k4, hf⟩ := pm_if hf
  refine pm_alen (t := 3) C dX7_count_5 (by decide) k4 rfl ?_
  refine pm_bipush (v := 6) C dX7_count_6 (by decide) ?_
  refine pm_idiv C dX7_count_8 (by decide) ?_
  cases hf
  exact pm_iret C X dX7_count_9 rfl (Nat.le_refl _) (Nat.le_refl _) q
theorem dX7_has_0 : decode cX7_has 0 = .ok (.lload_n 2, 1) := by decide +kernel
theorem dX7_has_1 : decode cX7_has 1 = .ok (.lconst 0, 1) := by decide +kernel
theorem dX7_has_2 : decode cX7_has 2 = .ok (.lcmp, 1) := by decide +kernel
theorem dX7_has_3 : decode cX7_has 3 = .ok (.ifCond .lt 18, 3) := by decide +kernel
theorem dX7_has_6 : decode cX7_has 6 = .ok (.lload_n 2, 1) := by decide +kernel
theorem dX7_has_7 : decode cX7_has 7 = .ok (.aload_n 0, 1) := by decide +kernel
theorem dX7_has_8 : decode cX7_has 8 = .ok (.iload_n 1, 1) := by decide +kernel
theorem dX7_has_9 : decode cX7_has 9 = .ok (.invokevirtual 69, 3) := by decide +kernel
theorem dX7_has_12 : decode cX7_has 12 = .ok (.i2l, 1) := by decide +kernel
theorem dX7_has_13 : decode cX7_has 13 = .ok (.lcmp, 1) := by decide +kernel
theorem dX7_has_14 : decode cX7_has 14 = .ok (.ifCond .ge 7, 3) := by decide +kernel
theorem dX7_has_17 : decode cX7_has 17 = .ok (.iconst 1, 1) := by decide +kernel
theorem dX7_has_18 : decode cX7_has 18 = .ok (.goto 4, 3) := by decide +kernel
theorem dX7_has_21 : decode cX7_has 21 = .ok (.iconst 0, 1) := by decide +kernel
theorem dX7_has_22 : decode cX7_has 22 = .ok (.ireturn, 1) := by decide +kernel
def fX7_has (h : pm_H) (a0 : Nat) (p1 : Int32) (p2 : Int64) : Option Int32 := if p2 < 0 then (some 0) else (if pm_kd h a0 = 7 then (fX7_count h a0 p1).bind fun v3 => if v3.toInt64 ≤ p2 then (some 0) else (some 1) else none)
set_option maxHeartbeats 4000000 in
set_option maxRecDepth 100000 in
theorem ctX7_has {l : Launch} {G : pm_Gl} {h : pm_H} {a0 : Nat} {p1 : Int32} {p2 : Int64} {r : Int32} {Qr : Option Value → pm_H → Prop} (hf : fX7_has h a0 p1 p2 = some r) (q : Qr (some (.int r)) h) : pm_Ct l G mX7_has [.ref a0, .int p1, .long p2] h 0 0 Qr := by
  refine pm_body pnX7 (Nat.le_of_ble_eq_true rfl) (fun g C X => ?_)
  have C : pm_C g cX7_has RX7 := C
  show pm_G g 0 [(0, .ref a0), (1, .int p1), (2, .long p2)] [] h 0 0
  unfold fX7_has at hf
  refine pm_lload_n C dX7_has_0 rfl rfl ?_
  refine pm_lconst (v := 0) C dX7_has_1 (by decide) ?_
  refine pm_lcmp C dX7_has_2 ?_
  refine pm_if_lt (tgt := 21) C dX7_has_3 (by decide) (fun c1 => ?_) (fun c1 => ?_)
  · have hf := pm_it hf ((pm_lg_lt _ _).mp c1)
    refine pm_iconst (v := 0) C dX7_has_21 (by decide) ?_
    cases hf
    exact pm_zret C X dX7_has_22 rfl (by decide) (Nat.le_refl _) (Nat.le_refl _) q
  · have hf := pm_ie hf ((fun z => c1 ((pm_lg_lt _ _).mpr z)))
    refine pm_lload_n C dX7_has_6 rfl rfl ?_
    refine pm_aload_n C dX7_has_7 rfl rfl ?_
    refine pm_iload_n C dX7_has_8 rfl rfl ?_
    obtain ⟨k2, hf⟩ := pm_if hf
    obtain ⟨v3, e4, hf⟩ := pm_bd hf
    refine pm_callV (as := [.int p1]) (st := [.long p2]) C X dX7_has_9 lnX7_69 myX7_count viX7_count ⟨by decide, by decide⟩ rfl rfl k2 (Nat.le_of_ble_eq_true rfl) (Nat.le_refl _) (Nat.le_refl _) (ctX7_count e4 ?_)
    show pm_G g 12 [(0, .ref a0), (1, .int p1), (2, .long p2)] [.int v3, .long p2] h 0 0
    refine pm_i2l C dX7_has_12 ?_
    refine pm_lcmp C dX7_has_13 ?_
    refine pm_if_ge (tgt := 21) C dX7_has_14 (by decide) (fun c5 => ?_) (fun c5 => ?_)
    · have hf := pm_it hf ((pm_lg_ge _ _).mp c5)
      refine pm_iconst (v := 0) C dX7_has_21 (by decide) ?_
      cases hf
      exact pm_zret C X dX7_has_22 rfl (by decide) (Nat.le_refl _) (Nat.le_refl _) q
    · have hf := pm_ie hf ((fun z => c5 ((pm_lg_ge _ _).mpr z)))
      refine pm_iconst (v := 1) C dX7_has_17 (by decide) ?_
      refine pm_goto (tgt := 22) C dX7_has_18 (by decide) ?_
      cases hf
      exact pm_zret C X dX7_has_22 rfl (by decide) (Nat.le_refl _) (Nat.le_refl _) q
theorem dX7_of_0 : decode cX7_of 0 = .ok (.aload_n 0, 1) := by decide +kernel
theorem dX7_of_1 : decode cX7_of 1 = .ok (.iload_n 1, 1) := by decide +kernel
theorem dX7_of_2 : decode cX7_of 2 = .ok (.invokevirtual 65, 3) := by decide +kernel
theorem dX7_of_5 : decode cX7_of 5 = .ok (.iload_n 2, 1) := by decide +kernel
theorem dX7_of_6 : decode cX7_of 6 = .ok (.bipush 6, 2) := by decide +kernel
theorem dX7_of_8 : decode cX7_of 8 = .ok (.imul, 1) := by decide +kernel
theorem dX7_of_9 : decode cX7_of 9 = .ok (.iload_n 3, 1) := by decide +kernel
theorem dX7_of_10 : decode cX7_of 10 = .ok (.iadd, 1) := by decide +kernel
theorem dX7_of_11 : decode cX7_of 11 = .ok (.invokestatic 73, 3) := by decide +kernel
theorem dX7_of_14 : decode cX7_of 14 = .ok (.lreturn, 1) := by decide +kernel
def fX7_of (h : pm_H) (a0 : Nat) (p1 : Int32) (p2 : Int32) (p3 : Int32) : Option Int64 := if pm_kd h a0 = 7 then (fX7_space h a0 p1).bind fun v2 => (fX12_item_ h v2 ((p2 * 6) + p3)).bind fun v4 => some v4 else none
set_option maxHeartbeats 4000000 in
set_option maxRecDepth 100000 in
theorem ctX7_of {l : Launch} {G : pm_Gl} {h : pm_H} {a0 : Nat} {p1 : Int32} {p2 : Int32} {p3 : Int32} {r : Int64} {Qr : Option Value → pm_H → Prop} (hf : fX7_of h a0 p1 p2 p3 = some r) (q : Qr (some (.long r)) h) : pm_Ct l G mX7_of [.ref a0, .int p1, .int p2, .int p3] h 0 0 Qr := by
  refine pm_body pnX7 (Nat.le_of_ble_eq_true rfl) (fun g C X => ?_)
  have C : pm_C g cX7_of RX7 := C
  show pm_G g 0 [(0, .ref a0), (1, .int p1), (2, .int p2), (3, .int p3)] [] h 0 0
  unfold fX7_of at hf
  refine pm_aload_n C dX7_of_0 rfl rfl ?_
  refine pm_iload_n C dX7_of_1 rfl rfl ?_
  obtain ⟨k1, hf⟩ := pm_if hf
  obtain ⟨v2, e3, hf⟩ := pm_bd hf
  refine pm_callV (as := [.int p1]) (st := []) C X dX7_of_2 lnX7_65 myX7_space viX7_space ⟨by decide, by decide⟩ rfl rfl k1 (Nat.le_of_ble_eq_true rfl) (Nat.le_refl _) (Nat.le_refl _) (ctX7_space e3 ?_)
  show pm_G g 5 [(0, .ref a0), (1, .int p1), (2, .int p2), (3, .int p3)] [.ref v2] h 0 0
  refine pm_iload_n C dX7_of_5 rfl rfl ?_
  refine pm_bipush (v := 6) C dX7_of_6 (by decide) ?_
  refine pm_imul C dX7_of_8 ?_
  refine pm_iload_n C dX7_of_9 rfl rfl ?_
  refine pm_iadd C dX7_of_10 ?_
  obtain ⟨v4, e5, hf⟩ := pm_bd hf
  refine pm_callS (as := [.ref v2, .int ((p2 * 6) + p3)]) (st := []) C X dX7_of_11 lnX7_73 myX12_item_ stX12_item_ ⟨by decide, by decide⟩ rfl rfl (Nat.le_of_ble_eq_true rfl) (Nat.le_refl _) (Nat.le_refl _) (ctX12_item_ e5 ?_)
  show pm_G g 14 [(0, .ref a0), (1, .int p1), (2, .int p2), (3, .int p3)] [.long v4] h 0 0
  cases hf
  exact pm_lret C X dX7_of_14 rfl (Nat.le_refl _) (Nat.le_refl _) q
