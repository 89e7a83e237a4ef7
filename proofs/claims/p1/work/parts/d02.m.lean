theorem dX6_logOfWidth_0 : decode cX6_logOfWidth 0 = .ok (.iload_n 0, 1) := by decide +kernel
theorem dX6_logOfWidth_1 : decode cX6_logOfWidth 1 = .ok (.bipush 40, 2) := by decide +kernel
theorem dX6_logOfWidth_3 : decode cX6_logOfWidth 3 = .ok (.if_icmp .lt 24, 3) := by decide +kernel
theorem dX6_logOfWidth_6 : decode cX6_logOfWidth 6 = .ok (.iload_n 0, 1) := by decide +kernel
theorem dX6_logOfWidth_7 : decode cX6_logOfWidth 7 = .ok (.bipush 62, 2) := by decide +kernel
theorem dX6_logOfWidth_9 : decode cX6_logOfWidth 9 = .ok (.if_icmp .gt 18, 3) := by decide +kernel
theorem dX6_logOfWidth_12 : decode cX6_logOfWidth 12 = .ok (.ldc 28, 2) := by decide +kernel
theorem dX6_logOfWidth_14 : decode cX6_logOfWidth 14 = .ok (.iload_n 0, 1) := by decide +kernel
theorem dX6_logOfWidth_15 : decode cX6_logOfWidth 15 = .ok (.bipush 40, 2) := by decide +kernel
theorem dX6_logOfWidth_17 : decode cX6_logOfWidth 17 = .ok (.isub, 1) := by decide +kernel
theorem dX6_logOfWidth_18 : decode cX6_logOfWidth 18 = .ok (.invokevirtual 30, 3) := by decide +kernel
theorem dX6_logOfWidth_21 : decode cX6_logOfWidth 21 = .ok (.bipush 48, 2) := by decide +kernel
theorem dX6_logOfWidth_23 : decode cX6_logOfWidth 23 = .ok (.isub, 1) := by decide +kernel
theorem dX6_logOfWidth_24 : decode cX6_logOfWidth 24 = .ok (.goto 4, 3) := by decide +kernel
theorem dX6_logOfWidth_27 : decode cX6_logOfWidth 27 = .ok (.iconst 0, 1) := by decide +kernel
theorem dX6_logOfWidth_28 : decode cX6_logOfWidth 28 = .ok (.ireturn, 1) := by decide +kernel
def fX6_logOfWidth (p1 : Int32) : Option Int32 := if p1 < 40 then (some 0) else (if 62 < p1 then (some 0) else (pm_let (p1 - 40) fun y3 => if pm_in y3 23 then some ((pm_chr 0 y3) - 48) else none))
set_option maxHeartbeats 4000000 in
set_option maxRecDepth 100000 in
theorem ctX6_logOfWidth {l : Launch} {G : pm_Gl} {h : pm_H} {p1 : Int32} {r : Int32} {Qr : Option Value → pm_H → Prop} (hf : fX6_logOfWidth p1 = some r) (q : Qr (some (.int r)) h) : pm_Ct l G mX6_logOfWidth [.int p1] h 0 0 Qr := by
  refine pm_body pnX6 (Nat.le_of_ble_eq_true rfl) (fun g C X => ?_)
  have C : pm_C g cX6_logOfWidth RX6 := C
  show pm_G g 0 [(0, .int p1)] [] h 0 0
  unfold fX6_logOfWidth at hf
  refine pm_iload_n C dX6_logOfWidth_0 rfl rfl ?_
  refine pm_bipush (v := 40) C dX6_logOfWidth_1 (by decide) ?_
  refine pm_icmp_lt (tgt := 27) C dX6_logOfWidth_3 (by decide) (fun c1 => ?_) (fun c1 => ?_)
  · have hf := pm_it hf c1
    refine pm_iconst (v := 0) C dX6_logOfWidth_27 (by decide) ?_
    cases hf
    exact pm_iret C X dX6_logOfWidth_28 rfl (Nat.le_refl _) (Nat.le_refl _) q
  · have hf := pm_ie hf c1
    refine pm_iload_n C dX6_logOfWidth_6 rfl rfl ?_
    refine pm_bipush (v := 62) C dX6_logOfWidth_7 (by decide) ?_
    refine pm_icmp_gt (tgt := 27) C dX6_logOfWidth_9 (by decide) (fun c2 => ?_) (fun c2 => ?_)
    · have hf := pm_it hf c2
      refine pm_iconst (v := 0) C dX6_logOfWidth_27 (by decide) ?_
      cases hf
      exact pm_iret C X dX6_logOfWidth_28 rfl (Nat.le_refl _) (Nat.le_refl _) q
    · have hf := pm_ie hf c2
      refine pm_ldcS (i := 0) C X dX6_logOfWidth_12 (by decide) rfl rfl ?_
      refine pm_iload_n C dX6_logOfWidth_14 rfl rfl ?_
      refine pm_bipush (v := 40) C dX6_logOfWidth_15 (by decide) ?_
      refine pm_isub C dX6_logOfWidth_17 ?_
      obtain ⟨y3, e4, hf⟩ := pm_lt hf
      refine pm_topI e4 ?_
      obtain ⟨u5, hf⟩ := pm_if hf
      refine pm_callK (j := 0) (as := [.int y3]) (st := []) C X dX6_logOfWidth_18 ltX6_30 myJ0_charAt_5068e rfl wiJ0_charAt_5068e wvJ0_charAt_5068e ⟨by decide, by decide⟩ (by decide) rfl rfl (Nat.le_of_ble_eq_true rfl) (Nat.le_refl _) (Nat.le_refl _) (ctJ0_charAt_5068e (i := 0) (by decide) u5 ?_)
      show pm_G g 21 [(0, .int p1)] [.int (pm_chr 0 y3)] h 0 0
      refine pm_bipush (v := 48) C dX6_logOfWidth_21 (by decide) ?_
      refine pm_isub C dX6_logOfWidth_23 ?_
      refine pm_goto (tgt := 28) C dX6_logOfWidth_24 (by decide) ?_
      cases hf
      exact pm_iret C X dX6_logOfWidth_28 rfl (Nat.le_refl _) (Nat.le_refl _) q
theorem dX6_save_0 : decode cX6_save 0 = .ok (.iconst 1, 1) := by decide +kernel
theorem dX6_save_1 : decode cX6_save 1 = .ok (.iload_n 2, 1) := by decide +kernel
theorem dX6_save_2 : decode cX6_save 2 = .ok (.invokestatic 69, 3) := by decide +kernel
theorem dX6_save_5 : decode cX6_save 5 = .ok (.ishl, 1) := by decide +kernel
theorem dX6_save_6 : decode cX6_save 6 = .ok (.istore 7, 2) := by decide +kernel
theorem dX6_save_8 : decode cX6_save 8 = .ok (.iconst 0, 1) := by decide +kernel
theorem dX6_save_9 : decode cX6_save 9 = .ok (.istore 8, 2) := by decide +kernel
theorem dX6_save_11 : decode cX6_save 11 = .ok (.iload 8, 2) := by decide +kernel
theorem dX6_save_13 : decode cX6_save 13 = .ok (.iload 7, 2) := by decide +kernel
theorem dX6_save_15 : decode cX6_save 15 = .ok (.if_icmp .ge 28, 3) := by decide +kernel
theorem dX6_save_18 : decode cX6_save 18 = .ok (.aload_n 0, 1) := by decide +kernel
theorem dX6_save_19 : decode cX6_save 19 = .ok (.iload_n 1, 1) := by decide +kernel
theorem dX6_save_20 : decode cX6_save 20 = .ok (.lload_n 3, 1) := by decide +kernel
theorem dX6_save_21 : decode cX6_save 21 = .ok (.iload 8, 2) := by decide +kernel
theorem dX6_save_23 : decode cX6_save 23 = .ok (.i2l, 1) := by decide +kernel
theorem dX6_save_24 : decode cX6_save 24 = .ok (.ladd, 1) := by decide +kernel
theorem dX6_save_25 : decode cX6_save 25 = .ok (.lload 5, 2) := by decide +kernel
theorem dX6_save_27 : decode cX6_save 27 = .ok (.bipush 8, 2) := by decide +kernel
theorem dX6_save_29 : decode cX6_save 29 = .ok (.iload 8, 2) := by decide +kernel
theorem dX6_save_31 : decode cX6_save 31 = .ok (.imul, 1) := by decide +kernel
theorem dX6_save_32 : decode cX6_save 32 = .ok (.lushr, 1) := by decide +kernel
theorem dX6_save_33 : decode cX6_save 33 = .ok (.l2i, 1) := by decide +kernel
theorem dX6_save_34 : decode cX6_save 34 = .ok (.invokevirtual 78, 3) := by decide +kernel
theorem dX6_save_37 : decode cX6_save 37 = .ok (.iinc 8 1, 3) := by decide +kernel
theorem dX6_save_40 : decode cX6_save 40 = .ok (.goto (-29), 3) := by decide +kernel
theorem dX6_save_43 : decode cX6_save 43 = .ok (.return_, 1) := by decide +kernel
def tX6_save_11 (x0 : Nat) (x1 : Int32) (x3 : Int64) (x5 : Int64) (x7 : Int32) (x8 : Int32) (h : pm_H) : Option (((Nat × Int32 × Int64 × Int64 × Int32 × Int32 × pm_H)) ⊕ pm_H) := if x7 ≤ x8 then (some (.inr (h))) else (if pm_kd h x0 = 6 then (fX6_setByte h x0 x1 (x3 + x8.toInt64) (((x5.toUInt64 >>> ((8 * x8).toInt64.toUInt64 &&& Int64.toUInt64 63)).toInt64).toInt32)).bind fun v7 => pm_let (x8 + 1) fun y9 => some (.inl ((x0, x1, x3, x5, x7, y9, v7))) else none)
def sX6_save : ((Nat × Int32 × Int64 × Int64 × Int32 × Int32 × pm_H)) → Option (((Nat × Int32 × Int64 × Int64 × Int32 × Int32 × pm_H)) ⊕ pm_H) := fun z => match z with
  | (x0, x1, x3, x5, x7, x8, h) => tX6_save_11 x0 x1 x3 x5 x7 x8 h
noncomputable def fX6_save (h : pm_H) (a0 : Nat) (p1 : Int32) (p2 : Int32) (p3 : Int64) (p4 : Int64) : Option pm_H := (fX6_logOfWidth p2).bind fun v1 => pm_let ((1 : Int32) <<< (v1 &&& 31)) fun y3 => pm_lim sX6_save ((a0, p1, p3, p4, y3, 0, h))
set_option maxHeartbeats 4000000 in
set_option maxRecDepth 100000 in
theorem lpX6_save {g : pm_Gm} {l : Launch} {G : pm_Gl} {Qr : Option Value → pm_H → Prop} (C : pm_C g cX6_save RX6) (X : pm_X g l G mX6_save 0 0 Qr) {r : pm_H} (q : Qr none r) : ∀ n : Nat, (∀ (x0 : Nat) (x1 : Int32) (x3 : Int64) (x5 : Int64) (x7 : Int32) (x8 : Int32) (h : pm_H), pm_iter sX6_save n (x0, x1, x3, x5, x7, x8, h) = some r → pm_G g 11 [(0, .ref x0), (1, .int x1), (3, .long x3), (5, .long x5), (7, .int x7), (8, .int x8)] [] h 0 0) := by
  intro n
  induction n with
  | zero => exact fun _ _ _ _ _ _ _ hf => (by cases hf)
  | succ n ih =>
    refine fun x0 x1 x3 x5 x7 x8 h hf => ?_
    obtain ⟨y, hf, hi⟩ := pm_iter_s hf
    have hf : tX6_save_11 x0 x1 x3 x5 x7 x8 h = some y := hf
    unfold tX6_save_11 at hf
    refine pm_iload C dX6_save_11 rfl ?_
    refine pm_iload C dX6_save_13 rfl ?_
    refine pm_icmp_ge (tgt := 43) C dX6_save_15 (by decide) (fun c5 => ?_) (fun c5 => ?_)
    · have hf := pm_it hf c5
      cases hf
      cases hi
      exact pm_vret C X dX6_save_43 rfl (Nat.le_refl _) (Nat.le_refl _) q
    · have hf := pm_ie hf c5
      refine pm_aload_n C dX6_save_18 rfl rfl ?_
      refine pm_iload_n C dX6_save_19 rfl rfl ?_
      refine pm_lload_n C dX6_save_20 rfl rfl ?_
      refine pm_iload C dX6_save_21 rfl ?_
      refine pm_i2l C dX6_save_23 ?_
      refine pm_ladd C dX6_save_24 ?_
      refine pm_lload C dX6_save_25 rfl ?_
      refine pm_bipush (v := 8) C dX6_save_27 (by decide) ?_
      refine pm_iload C dX6_save_29 rfl ?_
      refine pm_imul C dX6_save_31 ?_
      refine pm_lushr C dX6_save_32 ?_
      refine pm_l2i C dX6_save_33 ?_
      obtain ⟨k6, hf⟩ := pm_if hf
      obtain ⟨v7, e8, hf⟩ := pm_bd hf
      refine pm_callV (as := [.int x1, .long (x3 + x8.toInt64), .int (((x5.toUInt64 >>> ((8 * x8).toInt64.toUInt64 &&& Int64.toUInt64 63)).toInt64).toInt32)]) (st := []) C X dX6_save_34 lnX6_78 myX6_setByte viX6_setByte ⟨by decide, by decide⟩ rfl rfl k6 (Nat.le_of_ble_eq_true rfl) (Nat.le_refl _) (Nat.le_refl _) (ctX6_setByte e8 ?_)
      show pm_G g 37 [(0, .ref x0), (1, .int x1), (3, .long x3), (5, .long x5), (7, .int x7), (8, .int x8)] [] v7 0 0
      obtain ⟨y9, e10, hf⟩ := pm_lt hf
      refine pm_iinc (v := y9) (lv' := [(8, .int y9), (0, .ref x0), (1, .int x1), (3, .long x3), (5, .long x5), (7, .int x7)]) C dX6_save_37 rfl ((congrArg (x8 + ·) (by decide : Int32.ofInt 1 = 1)).trans e10) (pm_nl X (by decide)) rfl ?_
      refine pm_goto (tgt := 11) C dX6_save_40 (by decide) ?_
      cases hf
      exact pm_sub [1, 2, 3, 4, 5, 0] rfl (ih x0 x1 x3 x5 x7 y9 v7 hi)
set_option maxHeartbeats 4000000 in
set_option maxRecDepth 100000 in
theorem ctX6_save {l : Launch} {G : pm_Gl} {h : pm_H} {a0 : Nat} {p1 : Int32} {p2 : Int32} {p3 : Int64} {p4 : Int64} {r : pm_H} {Qr : Option Value → pm_H → Prop} (hf : fX6_save h a0 p1 p2 p3 p4 = some r) (q : Qr none r) : pm_Ct l G mX6_save [.ref a0, .int p1, .int p2, .long p3, .long p4] h 0 0 Qr := by
  refine pm_body pnX6 (Nat.le_of_ble_eq_true rfl) (fun g C X => ?_)
  have C : pm_C g cX6_save RX6 := C
  show pm_G g 0 [(0, .ref a0), (1, .int p1), (2, .int p2), (3, .long p3), (5, .long p4)] [] h 0 0
  unfold fX6_save at hf
  refine pm_iconst (v := 1) C dX6_save_0 (by decide) ?_
  refine pm_iload_n C dX6_save_1 rfl rfl ?_
  obtain ⟨v1, e2, hf⟩ := pm_bd hf
  refine pm_callS (as := [.int p2]) (st := [.int 1]) C X dX6_save_2 lnX6_69 myX6_logOfWidth stX6_logOfWidth ⟨by decide, by decide⟩ rfl rfl (Nat.le_of_ble_eq_true rfl) (Nat.le_refl _) (Nat.le_refl _) (ctX6_logOfWidth e2 ?_)
  show pm_G g 5 [(0, .ref a0), (1, .int p1), (2, .int p2), (3, .long p3), (5, .long p4)] [.int v1, .int 1] h 0 0
  refine pm_ishl C dX6_save_5 ?_
  obtain ⟨y3, e4, hf⟩ := pm_lt hf
  refine pm_topI e4 ?_
  refine pm_istore (lv' := [(7, .int y3), (0, .ref a0), (1, .int p1), (2, .int p2), (3, .long p3), (5, .long p4)]) C dX6_save_6 (pm_nl X (by decide)) rfl ?_
  refine pm_iconst (v := 0) C dX6_save_8 (by decide) ?_
  refine pm_istore (lv' := [(8, .int 0), (7, .int y3), (0, .ref a0), (1, .int p1), (2, .int p2), (3, .long p3), (5, .long p4)]) C dX6_save_9 (pm_nl X (by decide)) rfl ?_
  obtain ⟨n, hn⟩ := pm_lim_iter hf
  exact pm_sub [2, 3, 5, 6, 1, 0] rfl ((lpX6_save C X q n) a0 p1 p3 p4 y3 0 h hn)
set_option maxHeartbeats 4000000 in
set_option maxRecDepth 100000 in
theorem klX6_save {r : pm_H} : ∀ n : Nat, (∀ (x0 : Nat) (x1 : Int32) (x3 : Int64) (x5 : Int64) (x7 : Int32) (x8 : Int32) (h : pm_H), pm_iter sX6_save n (x0, x1, x3, x5, x7, x8, h) = some r → pm_S3 r h) := by
  intro n
  induction n with
  | zero => exact fun _ _ _ _ _ _ _ hf => (by cases hf)
  | succ n ih =>
    refine fun x0 x1 x3 x5 x7 x8 h hf => ?_
    obtain ⟨y, hf, hi⟩ := pm_iter_s hf
    have hf : tX6_save_11 x0 x1 x3 x5 x7 x8 h = some y := hf
    unfold tX6_save_11 at hf
    have K0 := pm_S3.rf h
    by_cases c5 : x7 ≤ x8
    · have hf := pm_it hf c5
      cases hf
      cases hi
      exact K0
    · have hf := pm_ie hf c5
      obtain ⟨k6, hf⟩ := pm_if hf
      obtain ⟨v7, e8, hf⟩ := pm_bd hf
      have K9 := pm_S3.trans (kpX6_setByte e8) K0
      obtain ⟨y10, e11, hf⟩ := pm_lt hf
      cases hf
      exact pm_S3.trans (ih x0 x1 x3 x5 x7 y10 v7 hi) K9
set_option maxHeartbeats 4000000 in
set_option maxRecDepth 100000 in
theorem kpX6_save {h : pm_H} {a0 : Nat} {p1 : Int32} {p2 : Int32} {p3 : Int64} {p4 : Int64} {r : pm_H} (hf : fX6_save h a0 p1 p2 p3 p4 = some r) : pm_S3 r h := by
  unfold fX6_save at hf
  have K0 := pm_S3.rf h
  obtain ⟨v1, e2, hf⟩ := pm_bd hf
  obtain ⟨y3, e4, hf⟩ := pm_lt hf
  obtain ⟨n, hn⟩ := pm_lim_iter hf
  exact pm_S3.trans ((klX6_save n) a0 p1 p3 p4 y3 0 h hn) K0
theorem dX6_valueType_0 : decode cX6_valueType 0 = .ok (.bipush 127, 2) := by decide +kernel
theorem dX6_valueType_2 : decode cX6_valueType 2 = .ok (.iload_n 0, 1) := by decide +kernel
theorem dX6_valueType_3 : decode cX6_valueType 3 = .ok (.bipush 40, 2) := by decide +kernel
theorem dX6_valueType_5 : decode cX6_valueType 5 = .ok (.if_icmp .lt 24, 3) := by decide +kernel
theorem dX6_valueType_8 : decode cX6_valueType 8 = .ok (.iload_n 0, 1) := by decide +kernel
theorem dX6_valueType_9 : decode cX6_valueType 9 = .ok (.bipush 62, 2) := by decide +kernel
theorem dX6_valueType_11 : decode cX6_valueType 11 = .ok (.if_icmp .gt 18, 3) := by decide +kernel
theorem dX6_valueType_14 : decode cX6_valueType 14 = .ok (.ldc 36, 2) := by decide +kernel
theorem dX6_valueType_16 : decode cX6_valueType 16 = .ok (.iload_n 0, 1) := by decide +kernel
theorem dX6_valueType_17 : decode cX6_valueType 17 = .ok (.bipush 40, 2) := by decide +kernel
theorem dX6_valueType_19 : decode cX6_valueType 19 = .ok (.isub, 1) := by decide +kernel
theorem dX6_valueType_20 : decode cX6_valueType 20 = .ok (.invokevirtual 30, 3) := by decide +kernel
theorem dX6_valueType_23 : decode cX6_valueType 23 = .ok (.bipush 48, 2) := by decide +kernel
theorem dX6_valueType_25 : decode cX6_valueType 25 = .ok (.isub, 1) := by decide +kernel
theorem dX6_valueType_26 : decode cX6_valueType 26 = .ok (.goto 4, 3) := by decide +kernel
theorem dX6_valueType_29 : decode cX6_valueType 29 = .ok (.iconst 0, 1) := by decide +kernel
theorem dX6_valueType_30 : decode cX6_valueType 30 = .ok (.isub, 1) := by decide +kernel
theorem dX6_valueType_31 : decode cX6_valueType 31 = .ok (.ireturn, 1) := by decide +kernel
def fX6_valueType (p1 : Int32) : Option Int32 := if p1 < 40 then (some ((127 : Int32) - 0)) else (if 62 < p1 then (some ((127 : Int32) - 0)) else (pm_let (p1 - 40) fun y3 => if pm_in y3 23 then some (127 - ((pm_chr 1 y3) - 48)) else none))
set_option maxHeartbeats 4000000 in
set_option maxRecDepth 100000 in
theorem ctX6_valueType {l : Launch} {G : pm_Gl} {h : pm_H} {p1 : Int32} {r : Int32} {Qr : Option Value → pm_H → Prop} (hf : fX6_valueType p1 = some r) (q : Qr (some (.int r)) h) : pm_Ct l G mX6_valueType [.int p1] h 0 0 Qr := by
  refine pm_body pnX6 (Nat.le_of_ble_eq_true rfl) (fun g C X => ?_)
  have C : pm_C g cX6_valueType RX6 := C
  show pm_G g 0 [(0, .int p1)] [] h 0 0
  unfold fX6_valueType at hf
  refine pm_bipush (v := 127) C dX6_valueType_0 (by decide) ?_
  refine pm_iload_n C dX6_valueType_2 rfl rfl ?_
  refine pm_bipush (v := 40) C dX6_valueType_3 (by decide) ?_
  refine pm_icmp_lt (tgt := 29) C dX6_valueType_5 (by decide) (fun c1 => ?_) (fun c1 => ?_)
  · have hf := pm_it hf c1
    refine pm_iconst (v := 0) C dX6_valueType_29 (by decide) ?_
    refine pm_isub C dX6_valueType_30 ?_
    cases hf
    exact pm_iret C X dX6_valueType_31 rfl (Nat.le_refl _) (Nat.le_refl _) q
  · have hf := pm_ie hf c1
    refine pm_iload_n C dX6_valueType_8 rfl rfl ?_
    refine pm_bipush (v := 62) C dX6_valueType_9 (by decide) ?_
    refine pm_icmp_gt (tgt := 29) C dX6_valueType_11 (by decide) (fun c2 => ?_) (fun c2 => ?_)
    · have hf := pm_it hf c2
      refine pm_iconst (v := 0) C dX6_valueType_29 (by decide) ?_
      refine pm_isub C dX6_valueType_30 ?_
      cases hf
      exact pm_iret C X dX6_valueType_31 rfl (Nat.le_refl _) (Nat.le_refl _) q
    · have hf := pm_ie hf c2
      refine pm_ldcS (i := 1) C X dX6_valueType_14 (by decide) rfl rfl ?_
      refine pm_iload_n C dX6_valueType_16 rfl rfl ?_
      refine pm_bipush (v := 40) C dX6_valueType_17 (by decide) ?_
      refine pm_isub C dX6_valueType_19 ?_
      obtain ⟨y3, e4, hf⟩ := pm_lt hf
      refine pm_topI e4 ?_
      obtain ⟨u5, hf⟩ := pm_if hf
      refine pm_callK (j := 1) (as := [.int y3]) (st := [.int 127]) C X dX6_valueType_20 ltX6_30 myJ0_charAt_5068e rfl wiJ0_charAt_5068e wvJ0_charAt_5068e ⟨by decide, by decide⟩ (by decide) rfl rfl (Nat.le_of_ble_eq_true rfl) (Nat.le_refl _) (Nat.le_refl _) (ctJ0_charAt_5068e (i := 1) (by decide) u5 ?_)
      show pm_G g 23 [(0, .int p1)] [.int (pm_chr 1 y3), .int 127] h 0 0
      refine pm_bipush (v := 48) C dX6_valueType_23 (by decide) ?_
      refine pm_isub C dX6_valueType_25 ?_
      refine pm_goto (tgt := 30) C dX6_valueType_26 (by decide) ?_
      refine pm_isub C dX6_valueType_30 ?_
      cases hf
      exact pm_iret C X dX6_valueType_31 rfl (Nat.le_refl _) (Nat.le_refl _) q
theorem dX8_operandType_0 : decode cX8_operandType 0 = .ok (.iload_n 0, 1) := by decide +kernel
theorem dX8_operandType_1 : decode cX8_operandType 1 = .ok (.sipush 200, 3) := by decide +kernel
theorem dX8_operandType_4 : decode cX8_operandType 4 = .ok (.if_icmp .lt 11, 3) := by decide +kernel
theorem dX8_operandType_7 : decode cX8_operandType 7 = .ok (.iconst 2, 1) := by decide +kernel
theorem dX8_operandType_8 : decode cX8_operandType 8 = .ok (.iload_n 0, 1) := by decide +kernel
theorem dX8_operandType_9 : decode cX8_operandType 9 = .ok (.iconst 1, 1) := by decide +kernel
theorem dX8_operandType_10 : decode cX8_operandType 10 = .ok (.ishr, 1) := by decide +kernel
theorem dX8_operandType_11 : decode cX8_operandType 11 = .ok (.iconst 1, 1) := by decide +kernel
theorem dX8_operandType_12 : decode cX8_operandType 12 = .ok (.iand, 1) := by decide +kernel
theorem dX8_operandType_13 : decode cX8_operandType 13 = .ok (.iadd, 1) := by decide +kernel
theorem dX8_operandType_14 : decode cX8_operandType 14 = .ok (.ireturn, 1) := by decide +kernel
theorem dX8_operandType_15 : decode cX8_operandType 15 = .ok (.iload_n 0, 1) := by decide +kernel
theorem dX8_operandType_16 : decode cX8_operandType 16 = .ok (.sipush 167, 3) := by decide +kernel
theorem dX8_operandType_19 : decode cX8_operandType 19 = .ok (.if_icmp .lt 22, 3) := by decide +kernel
theorem dX8_operandType_22 : decode cX8_operandType 22 = .ok (.ldc 11, 2) := by decide +kernel
theorem dX8_operandType_24 : decode cX8_operandType 24 = .ok (.iload_n 0, 1) := by decide +kernel
theorem dX8_operandType_25 : decode cX8_operandType 25 = .ok (.sipush 167, 3) := by decide +kernel
theorem dX8_operandType_28 : decode cX8_operandType 28 = .ok (.isub, 1) := by decide +kernel
theorem dX8_operandType_29 : decode cX8_operandType 29 = .ok (.bipush 29, 2) := by decide +kernel
theorem dX8_operandType_31 : decode cX8_operandType 31 = .ok (.invokestatic 13, 3) := by decide +kernel
theorem dX8_operandType_34 : decode cX8_operandType 34 = .ok (.invokevirtual 19, 3) := by decide +kernel
theorem dX8_operandType_37 : decode cX8_operandType 37 = .ok (.bipush 48, 2) := by decide +kernel
theorem dX8_operandType_39 : decode cX8_operandType 39 = .ok (.isub, 1) := by decide +kernel
theorem dX8_operandType_40 : decode cX8_operandType 40 = .ok (.ireturn, 1) := by decide +kernel
theorem dX8_operandType_41 : decode cX8_operandType 41 = .ok (.iload_n 0, 1) := by decide +kernel
theorem dX8_operandType_42 : decode cX8_operandType 42 = .ok (.bipush 103, 2) := by decide +kernel
theorem dX8_operandType_44 : decode cX8_operandType 44 = .ok (.if_icmp .ge 35, 3) := by decide +kernel
theorem dX8_operandType_47 : decode cX8_operandType 47 = .ok (.iload_n 0, 1) := by decide +kernel
theorem dX8_operandType_48 : decode cX8_operandType 48 = .ok (.bipush 80, 2) := by decide +kernel
theorem dX8_operandType_50 : decode cX8_operandType 50 = .ok (.if_icmp .ge 7, 3) := by decide +kernel
theorem dX8_operandType_53 : decode cX8_operandType 53 = .ok (.iconst 0, 1) := by decide +kernel
theorem dX8_operandType_54 : decode cX8_operandType 54 = .ok (.goto 24, 3) := by decide +kernel
theorem dX8_operandType_57 : decode cX8_operandType 57 = .ok (.iload_n 0, 1) := by decide +kernel
theorem dX8_operandType_58 : decode cX8_operandType 58 = .ok (.bipush 91, 2) := by decide +kernel
theorem dX8_operandType_60 : decode cX8_operandType 60 = .ok (.if_icmp .ge 7, 3) := by decide +kernel
theorem dX8_operandType_63 : decode cX8_operandType 63 = .ok (.iconst 1, 1) := by decide +kernel
theorem dX8_operandType_64 : decode cX8_operandType 64 = .ok (.goto 14, 3) := by decide +kernel
theorem dX8_operandType_67 : decode cX8_operandType 67 = .ok (.iload_n 0, 1) := by decide +kernel
theorem dX8_operandType_68 : decode cX8_operandType 68 = .ok (.bipush 97, 2) := by decide +kernel
theorem dX8_operandType_70 : decode cX8_operandType 70 = .ok (.if_icmp .ge 7, 3) := by decide +kernel
theorem dX8_operandType_73 : decode cX8_operandType 73 = .ok (.iconst 2, 1) := by decide +kernel
theorem dX8_operandType_74 : decode cX8_operandType 74 = .ok (.goto 4, 3) := by decide +kernel
theorem dX8_operandType_77 : decode cX8_operandType 77 = .ok (.iconst 3, 1) := by decide +kernel
theorem dX8_operandType_78 : decode cX8_operandType 78 = .ok (.ireturn, 1) := by decide +kernel
theorem dX8_operandType_79 : decode cX8_operandType 79 = .ok (.iload_n 0, 1) := by decide +kernel
theorem dX8_operandType_80 : decode cX8_operandType 80 = .ok (.bipush 121, 2) := by decide +kernel
theorem dX8_operandType_82 : decode cX8_operandType 82 = .ok (.if_icmp .ge 7, 3) := by decide +kernel
theorem dX8_operandType_85 : decode cX8_operandType 85 = .ok (.iconst 0, 1) := by decide +kernel
theorem dX8_operandType_86 : decode cX8_operandType 86 = .ok (.goto 26, 3) := by decide +kernel
theorem dX8_operandType_89 : decode cX8_operandType 89 = .ok (.iload_n 0, 1) := by decide +kernel
theorem dX8_operandType_90 : decode cX8_operandType 90 = .ok (.sipush 139, 3) := by decide +kernel
theorem dX8_operandType_93 : decode cX8_operandType 93 = .ok (.if_icmp .ge 7, 3) := by decide +kernel
theorem dX8_operandType_96 : decode cX8_operandType 96 = .ok (.iconst 1, 1) := by decide +kernel
theorem dX8_operandType_97 : decode cX8_operandType 97 = .ok (.goto 15, 3) := by decide +kernel
theorem dX8_operandType_100 : decode cX8_operandType 100 = .ok (.iload_n 0, 1) := by decide +kernel
theorem dX8_operandType_101 : decode cX8_operandType 101 = .ok (.sipush 153, 3) := by decide +kernel
theorem dX8_operandType_104 : decode cX8_operandType 104 = .ok (.if_icmp .ge 7, 3) := by decide +kernel
theorem dX8_operandType_107 : decode cX8_operandType 107 = .ok (.iconst 2, 1) := by decide +kernel
theorem dX8_operandType_108 : decode cX8_operandType 108 = .ok (.goto 4, 3) := by decide +kernel
theorem dX8_operandType_111 : decode cX8_operandType 111 = .ok (.iconst 3, 1) := by decide +kernel
theorem dX8_operandType_112 : decode cX8_operandType 112 = .ok (.ireturn, 1) := by decide +kernel
def fX8_operandType (p1 : Int32) : Option Int32 := if p1 < 200 then (if p1 < 167 then (if 103 ≤ p1 then (if 121 ≤ p1 then (if 139 ≤ p1 then (if 153 ≤ p1 then (some 3) else (some 2)) else (some 1)) else (some 0)) else (if 80 ≤ p1 then (if 91 ≤ p1 then (if 97 ≤ p1 then (some 3) else (some 2)) else (some 1)) else (some 0))) else (pm_let (if (29 : Int32) < (p1 - 167) then (29 : Int32) else (p1 - 167)) fun y10 => if pm_in y10 30 then some ((pm_chr 2 y10) - 48) else none)) else (some (2 + ((p1 >>> ((1 : Int32) &&& 31)) &&& 1)))
set_option maxHeartbeats 4000000 in
set_option maxRecDepth 100000 in
theorem ctX8_operandType {l : Launch} {G : pm_Gl} {h : pm_H} {p1 : Int32} {r : Int32} {Qr : Option Value → pm_H → Prop} (hf : fX8_operandType p1 = some r) (q : Qr (some (.int r)) h) : pm_Ct l G mX8_operandType [.int p1] h 0 0 Qr := by
  refine pm_body pnX8 (Nat.le_of_ble_eq_true rfl) (fun g C X => ?_)
  have C : pm_C g cX8_operandType RX8 := C
  show pm_G g 0 [(0, .int p1)] [] h 0 0
  unfold fX8_operandType at hf
  refine pm_iload_n C dX8_operandType_0 rfl rfl ?_
  refine pm_sipush (v := 200) C dX8_operandType_1 (by decide) ?_
  refine pm_icmp_lt (tgt := 15) C dX8_operandType_4 (by decide) (fun c1 => ?_) (fun c1 => ?_)
  · have hf := pm_it hf c1
    refine pm_iload_n C dX8_operandType_15 rfl rfl ?_
    refine pm_sipush (v := 167) C dX8_operandType_16 (by decide) ?_
    refine pm_icmp_lt (tgt := 41) C dX8_operandType_19 (by decide) (fun c2 => ?_) (fun c2 => ?_)
    · have hf := pm_it hf c2
      refine pm_iload_n C dX8_operandType_41 rfl rfl ?_
      refine pm_bipush (v := 103) C dX8_operandType_42 (by decide) ?_
      refine pm_icmp_ge (tgt := 79) C dX8_operandType_44 (by decide) (fun c3 => ?_) (fun c3 => ?_)
      · have hf := pm_it hf c3
        refine pm_iload_n C dX8_operandType_79 rfl rfl ?_
        refine pm_bipush (v := 121) C dX8_operandType_80 (by decide) ?_
        refine pm_icmp_ge (tgt := 89) C dX8_operandType_82 (by decide) (fun c4 => ?_) (fun c4 => ?_)
        · have hf := pm_it hf c4
          refine pm_iload_n C dX8_operandType_89 rfl rfl ?_
          refine pm_sipush (v := 139) C dX8_operandType_90 (by decide) ?_
          refine pm_icmp_ge (tgt := 100) C dX8_operandType_93 (by decide) (fun c5 => ?_) (fun c5 => ?_)
          · have hf := pm_it hf c5
            refine pm_iload_n C dX8_operandType_100 rfl rfl ?_
            refine pm_sipush (v := 153) C dX8_operandType_101 (by decide) ?_
            refine pm_icmp_ge (tgt := 111) C dX8_operandType_104 (by decide) (fun c6 => ?_) (fun c6 => ?_)
            · have hf := pm_it hf c6
              refine pm_iconst (v := 3) C dX8_operandType_111 (by decide) ?_
              cases hf
              exact pm_iret C X dX8_operandType_112 rfl (Nat.le_refl _) (Nat.le_refl _) q
            · have hf := pm_ie hf c6
              refine pm_iconst (v := 2) C dX8_operandType_107 (by decide) ?_
              refine pm_goto (tgt := 112) C dX8_operandType_108 (by decide) ?_
              cases hf
              exact pm_iret C X dX8_operandType_112 rfl (Nat.le_refl _) (Nat.le_refl _) q
          · have hf := pm_ie hf c5
            refine pm_iconst (v := 1) C dX8_operandType_96 (by decide) ?_
            refine pm_goto (tgt := 112) C dX8_operandType_97 (by decide) ?_
            cases hf
            exact pm_iret C X dX8_operandType_112 rfl (Nat.le_refl _) (Nat.le_refl _) q
        · have hf := pm_ie hf c4
          refine pm_iconst (v := 0) C dX8_operandType_85 (by decide) ?_
          refine pm_goto (tgt := 112) C dX8_operandType_86 (by decide) ?_
          cases hf
          exact pm_iret C X dX8_operandType_112 rfl (Nat.le_refl _) (Nat.le_refl _) q
      · have hf := pm_ie hf c3
        refine pm_iload_n C dX8_operandType_47 rfl rfl ?_
        refine pm_bipush (v := 80) C dX8_operandType_48 (by decide) ?_
        refine pm_icmp_ge (tgt := 57) C dX8_operandType_50 (by decide) (fun c7 => ?_) (fun c7 => ?_)
        · have hf := pm_it hf c7
          refine pm_iload_n C dX8_operandType_57 rfl rfl ?_
          refine pm_bipush (v := 91) C dX8_operandType_58 (by decide) ?_
          refine pm_icmp_ge (tgt := 67) C dX8_operandType_60 (by decide) (fun c8 => ?_) (fun c8 => ?_)
          · have hf := pm_it hf c8
            refine pm_iload_n C dX8_operandType_67 rfl rfl ?_
            refine pm_bipush (v := 97) C dX8_operandType_68 (by decide) ?_
            refine pm_icmp_ge (tgt := 77) C dX8_operandType_70 (by decide) (fun c9 => ?_) (fun c9 => ?_)
            · have hf := pm_it hf c9
              refine pm_iconst (v := 3) C dX8_operandType_77 (by decide) ?_
              cases hf
              exact pm_iret C X dX8_operandType_78 rfl (Nat.le_refl _) (Nat.le_refl _) q
            · have hf := pm_ie hf c9
              refine pm_iconst (v := 2) C dX8_operandType_73 (by decide) ?_
              refine pm_goto (tgt := 78) C dX8_operandType_74 (by decide) ?_
              cases hf
              exact pm_iret C X dX8_operandType_78 rfl (Nat.le_refl _) (Nat.le_refl _) q
          · have hf := pm_ie hf c8
            refine pm_iconst (v := 1) C dX8_operandType_63 (by decide) ?_
            refine pm_goto (tgt := 78) C dX8_operandType_64 (by decide) ?_
            cases hf
            exact pm_iret C X dX8_operandType_78 rfl (Nat.le_refl _) (Nat.le_refl _) q
        · have hf := pm_ie hf c7
          refine pm_iconst (v := 0) C dX8_operandType_53 (by decide) ?_
          refine pm_goto (tgt := 78) C dX8_operandType_54 (by decide) ?_
          cases hf
          exact pm_iret C X dX8_operandType_78 rfl (Nat.le_refl _) (Nat.le_refl _) q
    · have hf := pm_ie hf c2
      refine pm_ldcS (i := 2) C X dX8_operandType_22 (by decide) rfl rfl ?_
      refine pm_iload_n C dX8_operandType_24 rfl rfl ?_
      refine pm_sipush (v := 167) C dX8_operandType_25 (by decide) ?_
      refine pm_isub C dX8_operandType_28 ?_
      refine pm_bipush (v := 29) C dX8_operandType_29 (by decide) ?_
      refine pm_mminI C (pm_XR X) dX8_operandType_31 mtX8_13 (by decide) (by decide) (Nat.le_of_ble_eq_true rfl) (Nat.zero_le _) (Nat.zero_le _) ?_
      obtain ⟨y10, e11, hf⟩ := pm_lt hf
      refine pm_topI e11 ?_
      obtain ⟨u12, hf⟩ := pm_if hf
      refine pm_callK (j := 2) (as := [.int y10]) (st := []) C X dX8_operandType_34 ltX8_19 myJ0_charAt_5068e rfl wiJ0_charAt_5068e wvJ0_charAt_5068e ⟨by decide, by decide⟩ (by decide) rfl rfl (Nat.le_of_ble_eq_true rfl) (Nat.le_refl _) (Nat.le_refl _) (ctJ0_charAt_5068e (i := 2) (by decide) u12 ?_)
      show pm_G g 37 [(0, .int p1)] [.int (pm_chr 2 y10)] h 0 0
      refine pm_bipush (v := 48) C dX8_operandType_37 (by decide) ?_
      refine pm_isub C dX8_operandType_39 ?_
      cases hf
      exact pm_iret C X dX8_operandType_40 rfl (Nat.le_refl _) (Nat.le_refl _) q
  · have hf := pm_ie hf c1
    refine pm_iconst (v := 2) C dX8_operandType_7 (by decide) ?_
    refine pm_iload_n C dX8_operandType_8 rfl rfl ?_
    refine pm_iconst (v := 1) C dX8_operandType_9 (by decide) ?_
    refine pm_ishr C dX8_operandType_10 ?_
    refine pm_iconst (v := 1) C dX8_operandType_11 (by decide) ?_
    refine pm_iand C dX8_operandType_12 ?_
    refine pm_iadd C dX8_operandType_13 ?_
    cases hf
    exact pm_iret C X dX8_operandType_14 rfl (Nat.le_refl _) (Nat.le_refl _) q
theorem dX8_resultType_0 : decode cX8_resultType 0 = .ok (.iload_n 0, 1) := by decide +kernel
theorem dX8_resultType_1 : decode cX8_resultType 1 = .ok (.sipush 200, 3) := by decide +kernel
theorem dX8_resultType_4 : decode cX8_resultType 4 = .ok (.if_icmp .lt 16, 3) := by decide +kernel
theorem dX8_resultType_7 : decode cX8_resultType 7 = .ok (.iload_n 0, 1) := by decide +kernel
theorem dX8_resultType_8 : decode cX8_resultType 8 = .ok (.sipush 204, 3) := by decide +kernel
theorem dX8_resultType_11 : decode cX8_resultType 11 = .ok (.if_icmp .ge 7, 3) := by decide +kernel
theorem dX8_resultType_14 : decode cX8_resultType 14 = .ok (.iconst 0, 1) := by decide +kernel
theorem dX8_resultType_15 : decode cX8_resultType 15 = .ok (.goto 4, 3) := by decide +kernel
theorem dX8_resultType_18 : decode cX8_resultType 18 = .ok (.iconst 1, 1) := by decide +kernel
theorem dX8_resultType_19 : decode cX8_resultType 19 = .ok (.ireturn, 1) := by decide +kernel
theorem dX8_resultType_20 : decode cX8_resultType 20 = .ok (.iload_n 0, 1) := by decide +kernel
theorem dX8_resultType_21 : decode cX8_resultType 21 = .ok (.sipush 167, 3) := by decide +kernel
theorem dX8_resultType_24 : decode cX8_resultType 24 = .ok (.if_icmp .lt 22, 3) := by decide +kernel
theorem dX8_resultType_27 : decode cX8_resultType 27 = .ok (.ldc 25, 2) := by decide +kernel
theorem dX8_resultType_29 : decode cX8_resultType 29 = .ok (.iload_n 0, 1) := by decide +kernel
theorem dX8_resultType_30 : decode cX8_resultType 30 = .ok (.sipush 167, 3) := by decide +kernel
theorem dX8_resultType_33 : decode cX8_resultType 33 = .ok (.isub, 1) := by decide +kernel
theorem dX8_resultType_34 : decode cX8_resultType 34 = .ok (.bipush 29, 2) := by decide +kernel
theorem dX8_resultType_36 : decode cX8_resultType 36 = .ok (.invokestatic 13, 3) := by decide +kernel
theorem dX8_resultType_39 : decode cX8_resultType 39 = .ok (.invokevirtual 19, 3) := by decide +kernel
theorem dX8_resultType_42 : decode cX8_resultType 42 = .ok (.bipush 48, 2) := by decide +kernel
theorem dX8_resultType_44 : decode cX8_resultType 44 = .ok (.isub, 1) := by decide +kernel
theorem dX8_resultType_45 : decode cX8_resultType 45 = .ok (.ireturn, 1) := by decide +kernel
theorem dX8_resultType_46 : decode cX8_resultType 46 = .ok (.iload_n 0, 1) := by decide +kernel
theorem dX8_resultType_47 : decode cX8_resultType 47 = .ok (.bipush 103, 2) := by decide +kernel
theorem dX8_resultType_49 : decode cX8_resultType 49 = .ok (.if_icmp .ge 7, 3) := by decide +kernel
theorem dX8_resultType_52 : decode cX8_resultType 52 = .ok (.iconst 0, 1) := by decide +kernel
theorem dX8_resultType_53 : decode cX8_resultType 53 = .ok (.goto 7, 3) := by decide +kernel
theorem dX8_resultType_56 : decode cX8_resultType 56 = .ok (.iload_n 0, 1) := by decide +kernel
theorem dX8_resultType_57 : decode cX8_resultType 57 = .ok (.invokestatic 27, 3) := by decide +kernel
theorem dX8_resultType_60 : decode cX8_resultType 60 = .ok (.ireturn, 1) := by decide +kernel
def fX8_resultType (p1 : Int32) : Option Int32 := if p1 < 200 then (if p1 < 167 then (if 103 ≤ p1 then ((fX8_operandType p1).bind fun v4 => some v4) else (some 0)) else (pm_let (if (29 : Int32) < (p1 - 167) then (29 : Int32) else (p1 - 167)) fun y6 => if pm_in y6 30 then some ((pm_chr 3 y6) - 48) else none)) else (if 204 ≤ p1 then (some 1) else (some 0))
set_option maxHeartbeats 4000000 in
set_option maxRecDepth 100000 in
theorem ctX8_resultType {l : Launch} {G : pm_Gl} {h : pm_H} {p1 : Int32} {r : Int32} {Qr : Option Value → pm_H → Prop} (hf : fX8_resultType p1 = some r) (q : Qr (some (.int r)) h) : pm_Ct l G mX8_resultType [.int p1] h 0 0 Qr := by
  refine pm_body pnX8 (Nat.le_of_ble_eq_true rfl) (fun g C X => ?_)
  have C : pm_C g cX8_resultType RX8 := C
  show pm_G g 0 [(0, .int p1)] [] h 0 0
  unfold fX8_resultType at hf
  refine pm_iload_n C dX8_resultType_0 rfl rfl ?_
  refine pm_sipush (v := 200) C dX8_resultType_1 (by decide) ?_
  refine pm_icmp_lt (tgt := 20) C dX8_resultType_4 (by decide) (fun c1 => ?_) (fun c1 => ?_)
  · have hf := pm_it hf c1
    refine pm_iload_n C dX8_resultType_20 rfl rfl ?_
    refine pm_sipush (v := 167) C dX8_resultType_21 (by decide) ?_
    refine pm_icmp_lt (tgt := 46) C dX8_resultType_24 (by decide) (fun c2 => ?_) (fun c2 => ?_)
    · have hf := pm_it hf c2
      refine pm_iload_n C dX8_resultType_46 rfl rfl ?_
      refine pm_bipush (v := 103) C dX8_resultType_47 (by decide) ?_
      refine pm_icmp_ge (tgt := 56) C dX8_resultType_49 (by decide) (fun c3 => ?_) (fun c3 => ?_)
      · have hf := pm_it hf c3
        refine pm_iload_n C dX8_resultType_56 rfl rfl ?_
        obtain ⟨v4, e5, hf⟩ := pm_bd hf
        refine pm_callS (as := [.int p1]) (st := []) C X dX8_resultType_57 lnX8_27 myX8_operandType stX8_operandType ⟨by decide, by decide⟩ rfl rfl (Nat.le_of_ble_eq_true rfl) (Nat.le_refl _) (Nat.le_refl _) (ctX8_operandType e5 ?_)
        show pm_G g 60 [(0, .int p1)] [.int v4] h 0 0
        cases hf
        exact pm_iret C X dX8_resultType_60 rfl (Nat.le_refl _) (Nat.le_refl _) q
      · have hf := pm_ie hf c3
        refine pm_iconst (v := 0) C dX8_resultType_52 (by decide) ?_
        refine pm_goto (tgt := 60) C dX8_resultType_53 (by decide) ?_
        cases hf
        exact pm_iret C X dX8_resultType_60 rfl (Nat.le_refl _) (Nat.le_refl _) q
    · have hf := pm_ie hf c2
      refine pm_ldcS (i := 3) C X dX8_resultType_27 (by decide) rfl rfl ?_
      refine pm_iload_n C dX8_resultType_29 rfl rfl ?_
      refine pm_sipush (v := 167) C dX8_resultType_30 (by decide) ?_
      refine pm_isub C dX8_resultType_33 ?_
      refine pm_bipush (v := 29) C dX8_resultType_34 (by decide) ?_
      refine pm_mminI C (pm_XR X) dX8_resultType_36 mtX8_13 (by decide) (by decide) (Nat.le_of_ble_eq_true rfl) (Nat.zero_le _) (Nat.zero_le _) ?_
      obtain ⟨y6, e7, hf⟩ := pm_lt hf
      refine pm_topI e7 ?_
      obtain ⟨u8, hf⟩ := pm_if hf
      refine pm_callK (j := 3) (as := [.int y6]) (st := []) C X dX8_resultType_39 ltX8_19 myJ0_charAt_5068e rfl wiJ0_charAt_5068e wvJ0_charAt_5068e ⟨by decide, by decide⟩ (by decide) rfl rfl (Nat.le_of_ble_eq_true rfl) (Nat.le_refl _) (Nat.le_refl _) (ctJ0_charAt_5068e (i := 3) (by decide) u8 ?_)
      show pm_G g 42 [(0, .int p1)] [.int (pm_chr 3 y6)] h 0 0
      refine pm_bipush (v := 48) C dX8_resultType_42 (by decide) ?_
      refine pm_isub C dX8_resultType_44 ?_
      cases hf
      exact pm_iret C X dX8_resultType_45 rfl (Nat.le_refl _) (Nat.le_refl _) q
  · have hf := pm_ie hf c1
    refine pm_iload_n C dX8_resultType_7 rfl rfl ?_
    refine pm_sipush (v := 204) C dX8_resultType_8 (by decide) ?_
    refine pm_icmp_ge (tgt := 18) C dX8_resultType_11 (by decide) (fun c9 => ?_) (fun c9 => ?_)
    · have hf := pm_it hf c9
      refine pm_iconst (v := 1) C dX8_resultType_18 (by decide) ?_
      cases hf
      exact pm_iret C X dX8_resultType_19 rfl (Nat.le_refl _) (Nat.le_refl _) q
    · have hf := pm_ie hf c9
      refine pm_iconst (v := 0) C dX8_resultType_14 (by decide) ?_
      refine pm_goto (tgt := 19) C dX8_resultType_15 (by decide) ?_
      cases hf
      exact pm_iret C X dX8_resultType_19 rfl (Nat.le_refl _) (Nat.le_refl _) q
