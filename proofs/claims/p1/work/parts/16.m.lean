theorem dX12_write_0 : decode cX12_write 0 = .ok (.iload_n 2, 1) := by decide +kernel
theorem dX12_write_1 : decode cX12_write 1 = .ok (.ifCond .lt 14, 3) := by decide +kernel
theorem dX12_write_4 : decode cX12_write 4 = .ok (.iload_n 2, 1) := by decide +kernel
theorem dX12_write_5 : decode cX12_write 5 = .ok (.aload_n 0, 1) := by decide +kernel
theorem dX12_write_6 : decode cX12_write 6 = .ok (.getfield 10, 3) := by decide +kernel
theorem dX12_write_9 : decode cX12_write 9 = .ok (.arraylength, 1) := by decide +kernel
theorem dX12_write_10 : decode cX12_write 10 = .ok (.iconst 4, 1) := by decide +kernel
theorem dX12_write_11 : decode cX12_write 11 = .ok (.isub, 1) := by decide +kernel
theorem dX12_write_12 : decode cX12_write 12 = .ok (.if_icmp .le 4, 3) := by decide +kernel
theorem dX12_write_15 : decode cX12_write 15 = .ok (.return_, 1) := by decide +kernel
theorem dX12_write_16 : decode cX12_write 16 = .ok (.iconst 0, 1) := by decide +kernel
theorem dX12_write_17 : decode cX12_write 17 = .ok (.istore_n 3, 1) := by decide +kernel
theorem dX12_write_18 : decode cX12_write 18 = .ok (.iload_n 3, 1) := by decide +kernel
theorem dX12_write_19 : decode cX12_write 19 = .ok (.iconst 4, 1) := by decide +kernel
theorem dX12_write_20 : decode cX12_write 20 = .ok (.if_icmp .ge 27, 3) := by decide +kernel
theorem dX12_write_23 : decode cX12_write 23 = .ok (.aload_n 0, 1) := by decide +kernel
theorem dX12_write_24 : decode cX12_write 24 = .ok (.getfield 10, 3) := by decide +kernel
theorem dX12_write_27 : decode cX12_write 27 = .ok (.iload_n 2, 1) := by decide +kernel
theorem dX12_write_28 : decode cX12_write 28 = .ok (.iload_n 3, 1) := by decide +kernel
theorem dX12_write_29 : decode cX12_write 29 = .ok (.iadd, 1) := by decide +kernel
theorem dX12_write_30 : decode cX12_write 30 = .ok (.iload_n 1, 1) := by decide +kernel
theorem dX12_write_31 : decode cX12_write 31 = .ok (.bipush 24, 2) := by decide +kernel
theorem dX12_write_33 : decode cX12_write 33 = .ok (.bipush 8, 2) := by decide +kernel
theorem dX12_write_35 : decode cX12_write 35 = .ok (.iload_n 3, 1) := by decide +kernel
theorem dX12_write_36 : decode cX12_write 36 = .ok (.imul, 1) := by decide +kernel
theorem dX12_write_37 : decode cX12_write 37 = .ok (.isub, 1) := by decide +kernel
theorem dX12_write_38 : decode cX12_write 38 = .ok (.iushr, 1) := by decide +kernel
theorem dX12_write_39 : decode cX12_write 39 = .ok (.i2b, 1) := by decide +kernel
theorem dX12_write_40 : decode cX12_write 40 = .ok (.bastore, 1) := by decide +kernel
theorem dX12_write_41 : decode cX12_write 41 = .ok (.iinc 3 1, 3) := by decide +kernel
theorem dX12_write_44 : decode cX12_write 44 = .ok (.goto (-26), 3) := by decide +kernel
theorem dX12_write_47 : decode cX12_write 47 = .ok (.return_, 1) := by decide +kernel
def tX12_write_18 (x0 : Nat) (x1 : Int32) (x2 : Int32) (x3 : Int32) (h : pm_H) : Option (((Nat × Int32 × Int32 × Int32 × pm_H)) ⊕ pm_H) := if 4 ≤ x3 then (some (.inr (h))) else (if pm_kd h x0 = 12 then (pm_R h x0 0).bind fun v9 => pm_let (((x1.toUInt32 >>> ((24 - (8 * x3)).toUInt32 &&& Int32.toUInt32 31)).toInt32).toInt8.toInt32) fun y11 => if pm_kd h v9 = 33 then if pm_in (x2 + x3) (pm_ln h v9) then pm_let (x3 + 1) fun y15 => some (.inl ((x0, x1, x2, y15, pm_setI h v9 ((x2 + x3).toNatClampNeg) (vp_nar .byte y11)))) else none else none else none)
def sX12_write : ((Nat × Int32 × Int32 × Int32 × pm_H)) → Option (((Nat × Int32 × Int32 × Int32 × pm_H)) ⊕ pm_H) := fun z => match z with
  | (x0, x1, x2, x3, h) => tX12_write_18 x0 x1 x2 x3 h
noncomputable def fX12_write (h : pm_H) (a0 : Nat) (p1 : Int32) (p2 : Int32) : Option pm_H := if p2 < 0 then (some h) else (if pm_kd h a0 = 12 then (pm_R h a0 0).bind fun v3 => if pm_kd h v3 = 33 then if p2 ≤ ((Int32.ofNat (pm_ln h v3)) - 4) then (pm_lim sX12_write ((a0, p1, p2, 0, h))) else (some h) else none else none)
set_option maxHeartbeats 4000000 in
set_option maxRecDepth 100000 in
theorem lpX12_write {g : pm_Gm} {l : Launch} {G : pm_Gl} {Qr : Option Value → pm_H → Prop} (C : pm_C g cX12_write RX12) (X : pm_X g l G mX12_write 0 0 Qr) {r : pm_H} (q : Qr none r) : ∀ n : Nat, (∀ (x0 : Nat) (x1 : Int32) (x2 : Int32) (x3 : Int32) (h : pm_H), pm_iter sX12_write n (x0, x1, x2, x3, h) = some r → pm_G g 18 [(0, .ref x0), (1, .int x1), (2, .int x2), (3, .int x3)] [] h 0 0) := by
  intro n
  induction n with
  | zero => exact fun _ _ _ _ _ hf => (by cases hf)
  | succ n ih =>
    refine fun x0 x1 x2 x3 h hf => ?_
    obtain ⟨y, hf, hi⟩ := pm_iter_s hf
    have hf : tX12_write_18 x0 x1 x2 x3 h = some y := hf
    unfold tX12_write_18 at hf
    refine pm_iload_n C dX12_write_18 rfl rfl ?_
    refine pm_iconst (v := 4) C dX12_write_19 (by decide) ?_
    refine pm_icmp_ge (tgt := 47) C dX12_write_20 (by decide) (fun c7 => ?_) (fun c7 => ?_)
    · have hf := pm_it hf c7
      cases hf
      cases hi
      exact pm_vret C X dX12_write_47 rfl (Nat.le_refl _) (Nat.le_refl _) q
    · have hf := pm_ie hf c7
      refine pm_aload_n C dX12_write_23 rfl rfl ?_
      obtain ⟨k8, hf⟩ := pm_if hf
      obtain ⟨v9, e10, hf⟩ := pm_bd hf
      refine pm_getR C dX12_write_24 flX12_10 rfl k8 e10 ?_
      refine pm_iload_n C dX12_write_27 rfl rfl ?_
      refine pm_iload_n C dX12_write_28 rfl rfl ?_
      refine pm_iadd C dX12_write_29 ?_
      refine pm_iload_n C dX12_write_30 rfl rfl ?_
      refine pm_bipush (v := 24) C dX12_write_31 (by decide) ?_
      refine pm_bipush (v := 8) C dX12_write_33 (by decide) ?_
      refine pm_iload_n C dX12_write_35 rfl rfl ?_
      refine pm_imul C dX12_write_36 ?_
      refine pm_isub C dX12_write_37 ?_
      refine pm_iushr C dX12_write_38 ?_
      refine pm_i2b C dX12_write_39 ?_
      obtain ⟨y11, e12, hf⟩ := pm_lt hf
      refine pm_topI e12 ?_
      obtain ⟨k13, hf⟩ := pm_if hf
      obtain ⟨u14, hf⟩ := pm_if hf
      refine pm_bast C dX12_write_40 k13 u14 ?_
      obtain ⟨y15, e16, hf⟩ := pm_lt hf
      refine pm_iinc (v := y15) (lv' := [(3, .int y15), (0, .ref x0), (1, .int x1), (2, .int x2)]) C dX12_write_41 rfl ((congrArg (x3 + ·) (by decide : Int32.ofInt 1 = 1)).trans e16) (pm_nl X (by decide)) rfl ?_
      refine pm_goto (tgt := 18) C dX12_write_44 (by decide) ?_
      cases hf
      exact pm_sub [1, 2, 3, 0] rfl (ih x0 x1 x2 y15 (pm_setI h v9 ((x2 + x3).toNatClampNeg) (vp_nar .byte y11)) hi)
set_option maxHeartbeats 4000000 in
set_option maxRecDepth 100000 in
theorem ctX12_write {l : Launch} {G : pm_Gl} {h : pm_H} {a0 : Nat} {p1 : Int32} {p2 : Int32} {r : pm_H} {Qr : Option Value → pm_H → Prop} (hf : fX12_write h a0 p1 p2 = some r) (q : Qr none r) : pm_Ct l G mX12_write [.ref a0, .int p1, .int p2] h 0 0 Qr := by
  refine pm_body pnX12 (Nat.le_of_ble_eq_true rfl) (fun g C X => ?_)
  have C : pm_C g cX12_write RX12 := C
  show pm_G g 0 [(0, .ref a0), (1, .int p1), (2, .int p2)] [] h 0 0
  unfold fX12_write at hf
  refine pm_iload_n C dX12_write_0 rfl rfl ?_
  refine pm_if_lt (tgt := 15) C dX12_write_1 (by decide) (fun c1 => ?_) (fun c1 => ?_)
  · have hf := pm_it hf c1
    cases hf
    exact pm_vret C X dX12_write_15 rfl (Nat.le_refl _) (Nat.le_refl _) q
  · have hf := pm_ie hf c1
    refine pm_iload_n C dX12_write_4 rfl rfl ?_
    refine pm_aload_n C dX12_write_5 rfl rfl ?_
    obtain ⟨k2, hf⟩ := pm_if hf
    obtain ⟨v3, e4, hf⟩ := pm_bd hf
    refine pm_getR C dX12_write_6 flX12_10 rfl k2 e4 ?_
    obtain ⟨k5, hf⟩ := pm_if hf
    refine pm_alen (t := 1) C dX12_write_9 (by decide) k5 rfl ?_
    refine pm_iconst (v := 4) C dX12_write_10 (by decide) ?_
    refine pm_isub C dX12_write_11 ?_
    refine pm_icmp_le (tgt := 16) C dX12_write_12 (by decide) (fun c6 => ?_) (fun c6 => ?_)
    · have hf := pm_it hf c6
      refine pm_iconst (v := 0) C dX12_write_16 (by decide) ?_
      refine pm_istore_n (lv' := [(3, .int 0), (0, .ref a0), (1, .int p1), (2, .int p2)]) C dX12_write_17 rfl (pm_nl X (by decide)) rfl ?_
      obtain ⟨n, hn⟩ := pm_lim_iter hf
      exact pm_sub [1, 2, 3, 0] rfl ((lpX12_write C X q n) a0 p1 p2 0 h hn)
    · have hf := pm_ie hf c6
      cases hf
      exact pm_vret C X dX12_write_15 rfl (Nat.le_refl _) (Nat.le_refl _) q
theorem dX14_at_0 : decode cX14_at 0 = .ok (.aload_n 0, 1) := by decide +kernel
theorem dX14_at_1 : decode cX14_at 1 = .ok (.getfield 147, 3) := by decide +kernel
theorem dX14_at_4 : decode cX14_at 4 = .ok (.iload_n 1, 1) := by decide +kernel
theorem dX14_at_5 : decode cX14_at 5 = .ok (.baload, 1) := by decide +kernel
theorem dX14_at_6 : decode cX14_at 6 = .ok (.sipush 255, 3) := by decide +kernel
theorem dX14_at_9 : decode cX14_at 9 = .ok (.iand, 1) := by decide +kernel
theorem dX14_at_10 : decode cX14_at 10 = .ok (.ireturn, 1) := by decide +kernel
def fX14_at (h : pm_H) (a0 : Nat) (p1 : Int32) : Option Int32 := if pm_kd h a0 = 14 then (pm_R h a0 0).bind fun v2 => if pm_kd h v2 = 33 then if pm_in p1 (pm_ln h v2) then some ((pm_I h v2 p1.toNatClampNeg) &&& 255) else none else none else none
set_option maxHeartbeats 4000000 in
set_option maxRecDepth 100000 in
theorem ctX14_at {l : Launch} {G : pm_Gl} {h : pm_H} {a0 : Nat} {p1 : Int32} {r : Int32} {Qr : Option Value → pm_H → Prop} (hf : fX14_at h a0 p1 = some r) (q : Qr (some (.int r)) h) : pm_Ct l G mX14_at [.ref a0, .int p1] h 0 0 Qr := by
  refine pm_body pnX14 (Nat.le_of_ble_eq_true rfl) (fun g C X => ?_)
  have C : pm_C g cX14_at RX14 := C
  show pm_G g 0 [(0, .ref a0), (1, .int p1)] [] h 0 0
  unfold fX14_at at hf
  refine pm_aload_n C dX14_at_0 rfl rfl ?_
  obtain ⟨k1, hf⟩ := pm_if hf
  obtain ⟨v2, e3, hf⟩ := pm_bd hf
  refine pm_getR C dX14_at_1 flX14_147 rfl k1 e3 ?_
  refine pm_iload_n C dX14_at_4 rfl rfl ?_
  obtain ⟨k4, hf⟩ := pm_if hf
  obtain ⟨u5, hf⟩ := pm_if hf
  refine pm_bald C dX14_at_5 k4 u5 rfl ?_
  refine pm_sipush (v := 255) C dX14_at_6 (by decide) ?_
  refine pm_iand C dX14_at_9 ?_
  cases hf
  exact pm_iret C X dX14_at_10 rfl (Nat.le_refl _) (Nat.le_refl _) q
theorem dX14_importOf_0 : decode cX14_importOf 0 = .ok (.iload_n 2, 1) := by decide +kernel
theorem dX14_importOf_1 : decode cX14_importOf 1 = .ok (.istore_n 3, 1) := by decide +kernel
theorem dX14_importOf_2 : decode cX14_importOf 2 = .ok (.iconst 0, 1) := by decide +kernel
theorem dX14_importOf_3 : decode cX14_importOf 3 = .ok (.istore 4, 2) := by decide +kernel
theorem dX14_importOf_5 : decode cX14_importOf 5 = .ok (.iload 4, 2) := by decide +kernel
theorem dX14_importOf_7 : decode cX14_importOf 7 = .ok (.aload_n 0, 1) := by decide +kernel
theorem dX14_importOf_8 : decode cX14_importOf 8 = .ok (.getfield 160, 3) := by decide +kernel
theorem dX14_importOf_11 : decode cX14_importOf 11 = .ok (.if_icmp .ge 46, 3) := by decide +kernel
theorem dX14_importOf_14 : decode cX14_importOf 14 = .ok (.aload_n 0, 1) := by decide +kernel
theorem dX14_importOf_15 : decode cX14_importOf 15 = .ok (.getfield 28, 3) := by decide +kernel
theorem dX14_importOf_18 : decode cX14_importOf 18 = .ok (.iload 4, 2) := by decide +kernel
theorem dX14_importOf_20 : decode cX14_importOf 20 = .ok (.iaload, 1) := by decide +kernel
theorem dX14_importOf_21 : decode cX14_importOf 21 = .ok (.iload_n 1, 1) := by decide +kernel
theorem dX14_importOf_22 : decode cX14_importOf 22 = .ok (.if_icmp .ne 10, 3) := by decide +kernel
theorem dX14_importOf_25 : decode cX14_importOf 25 = .ok (.iload_n 3, 1) := by decide +kernel
theorem dX14_importOf_26 : decode cX14_importOf 26 = .ok (.ifCond .ne 6, 3) := by decide +kernel
theorem dX14_importOf_29 : decode cX14_importOf 29 = .ok (.iload 4, 2) := by decide +kernel
theorem dX14_importOf_31 : decode cX14_importOf 31 = .ok (.ireturn, 1) := by decide +kernel
theorem dX14_importOf_32 : decode cX14_importOf 32 = .ok (.iload_n 3, 1) := by decide +kernel
theorem dX14_importOf_33 : decode cX14_importOf 33 = .ok (.aload_n 0, 1) := by decide +kernel
theorem dX14_importOf_34 : decode cX14_importOf 34 = .ok (.getfield 28, 3) := by decide +kernel
theorem dX14_importOf_37 : decode cX14_importOf 37 = .ok (.iload 4, 2) := by decide +kernel
theorem dX14_importOf_39 : decode cX14_importOf 39 = .ok (.iaload, 1) := by decide +kernel
theorem dX14_importOf_40 : decode cX14_importOf 40 = .ok (.iload_n 1, 1) := by decide +kernel
theorem dX14_importOf_41 : decode cX14_importOf 41 = .ok (.if_icmp .ne 7, 3) := by decide +kernel
theorem dX14_importOf_44 : decode cX14_importOf 44 = .ok (.iconst 1, 1) := by decide +kernel
theorem dX14_importOf_45 : decode cX14_importOf 45 = .ok (.goto 4, 3) := by decide +kernel
theorem dX14_importOf_48 : decode cX14_importOf 48 = .ok (.iconst 0, 1) := by decide +kernel
theorem dX14_importOf_49 : decode cX14_importOf 49 = .ok (.isub, 1) := by decide +kernel
theorem dX14_importOf_50 : decode cX14_importOf 50 = .ok (.istore_n 3, 1) := by decide +kernel
theorem dX14_importOf_51 : decode cX14_importOf 51 = .ok (.iinc 4 1, 3) := by decide +kernel
theorem dX14_importOf_54 : decode cX14_importOf 54 = .ok (.goto (-49), 3) := by decide +kernel
theorem dX14_importOf_57 : decode cX14_importOf 57 = .ok (.iconst 0, 1) := by decide +kernel
theorem dX14_importOf_58 : decode cX14_importOf 58 = .ok (.ireturn, 1) := by decide +kernel
def tX14_importOf_5 (h : pm_H) (x0 : Nat) (x1 : Int32) (x3 : Int32) (x4 : Int32) : Option (((Nat × Int32 × Int32 × Int32) ⊕ (Nat × Int32 × Int32 × Int32)) ⊕ Int32) := if pm_kd h x0 = 14 then if (pm_I h x0 8) ≤ x4 then (some (.inr (0))) else ((pm_R h x0 9).bind fun v3 => if pm_kd h v3 = 34 then if pm_in x4 (pm_ln h v3) then if (pm_I h v3 x4.toNatClampNeg) = x1 then (if x3 = 0 then (some (.inr (x4))) else (some (.inl (.inr ((x0, x1, x3, x4)))))) else (some (.inl (.inr ((x0, x1, x3, x4))))) else none else none) else none
def tX14_importOf_32 (h : pm_H) (x0 : Nat) (x1 : Int32) (x3 : Int32) (x4 : Int32) : Option (((Nat × Int32 × Int32 × Int32) ⊕ (Nat × Int32 × Int32 × Int32)) ⊕ Int32) := if pm_kd h x0 = 14 then (pm_R h x0 9).bind fun v10 => if pm_kd h v10 = 34 then if pm_in x4 (pm_ln h v10) then if (pm_I h v10 x4.toNatClampNeg) = x1 then (pm_let (x3 - 1) fun y19 => pm_let (x4 + 1) fun y21 => some (.inl (.inl ((x0, x1, y19, y21))))) else (pm_let (x3 - 0) fun y15 => pm_let (x4 + 1) fun y17 => some (.inl (.inl ((x0, x1, y15, y17))))) else none else none else none
def sX14_importOf (h : pm_H) : ((Nat × Int32 × Int32 × Int32) ⊕ (Nat × Int32 × Int32 × Int32)) → Option (((Nat × Int32 × Int32 × Int32) ⊕ (Nat × Int32 × Int32 × Int32)) ⊕ Int32) := fun z => match z with
  | .inl (x0, x1, x3, x4) => tX14_importOf_5 h x0 x1 x3 x4
  | .inr (x0, x1, x3, x4) => tX14_importOf_32 h x0 x1 x3 x4
noncomputable def fX14_importOf (h : pm_H) (a0 : Nat) (p1 : Int32) (p2 : Int32) : Option Int32 := pm_lim (sX14_importOf h) (.inl ((a0, p1, p2, 0)))
set_option maxHeartbeats 4000000 in
set_option maxRecDepth 100000 in
theorem lpX14_importOf {g : pm_Gm} {l : Launch} {G : pm_Gl} {Qr : Option Value → pm_H → Prop} (C : pm_C g cX14_importOf RX14) (X : pm_X g l G mX14_importOf 0 0 Qr) {h : pm_H} {r : Int32} (q : Qr (some (.int r)) h) : ∀ n : Nat, (∀ (x0 : Nat) (x1 : Int32) (x3 : Int32) (x4 : Int32), pm_iter (sX14_importOf h) n (.inl (x0, x1, x3, x4)) = some r → pm_G g 5 [(0, .ref x0), (1, .int x1), (3, .int x3), (4, .int x4)] [] h 0 0) ∧ (∀ (x0 : Nat) (x1 : Int32) (x3 : Int32) (x4 : Int32), pm_iter (sX14_importOf h) n (.inr (x0, x1, x3, x4)) = some r → pm_G g 32 [(0, .ref x0), (1, .int x1), (3, .int x3), (4, .int x4)] [] h 0 0) := by
  intro n
  induction n with
  | zero => exact ⟨fun _ _ _ _ hf => (by cases hf), fun _ _ _ _ hf => (by cases hf)⟩
  | succ n ih =>
    refine ⟨fun x0 x1 x3 x4 hf => ?_, ?_⟩
    · obtain ⟨y, hf, hi⟩ := pm_iter_s hf
      have hf : tX14_importOf_5 h x0 x1 x3 x4 = some y := hf
      unfold tX14_importOf_5 at hf
      refine pm_iload C dX14_importOf_5 rfl ?_
      refine pm_aload_n C dX14_importOf_7 rfl rfl ?_
      obtain ⟨k1, hf⟩ := pm_if hf
      refine pm_getI C dX14_importOf_8 flX14_160 rfl k1 rfl ?_
      refine pm_icmp_ge (tgt := 57) C dX14_importOf_11 (by decide) (fun c2 => ?_) (fun c2 => ?_)
      · have hf := pm_it hf c2
        refine pm_iconst (v := 0) C dX14_importOf_57 (by decide) ?_
        cases hf
        cases hi
        exact pm_iret C X dX14_importOf_58 rfl (Nat.le_refl _) (Nat.le_refl _) q
      · have hf := pm_ie hf c2
        refine pm_aload_n C dX14_importOf_14 rfl rfl ?_
        obtain ⟨v3, e4, hf⟩ := pm_bd hf
        refine pm_getR C dX14_importOf_15 flX14_28 rfl k1 e4 ?_
        refine pm_iload C dX14_importOf_18 rfl ?_
        obtain ⟨k5, hf⟩ := pm_if hf
        obtain ⟨u6, hf⟩ := pm_if hf
        refine pm_iald C dX14_importOf_20 k5 u6 rfl ?_
        refine pm_iload_n C dX14_importOf_21 rfl rfl ?_
        refine pm_icmp_ne (tgt := 32) C dX14_importOf_22 (by decide) (fun c7 => ?_) (fun c7 => ?_)
        · have hf := pm_ie hf c7
          cases hf
          exact pm_sub [0, 1, 2, 3] rfl (ih.2 x0 x1 x3 x4 hi)
        · have hf := pm_it hf c7
          refine pm_iload_n C dX14_importOf_25 rfl rfl ?_
          refine pm_if_ne (tgt := 32) C dX14_importOf_26 (by decide) (fun c8 => ?_) (fun c8 => ?_)
          · have hf := pm_ie hf c8
            cases hf
            exact pm_sub [0, 1, 2, 3] rfl (ih.2 x0 x1 x3 x4 hi)
          · have hf := pm_it hf c8
            refine pm_iload C dX14_importOf_29 rfl ?_
            cases hf
            cases hi
            exact pm_iret C X dX14_importOf_31 rfl (Nat.le_refl _) (Nat.le_refl _) q
    refine fun x0 x1 x3 x4 hf => ?_
    obtain ⟨y, hf, hi⟩ := pm_iter_s hf
    have hf : tX14_importOf_32 h x0 x1 x3 x4 = some y := hf
    unfold tX14_importOf_32 at hf
    refine pm_iload_n C dX14_importOf_32 rfl rfl ?_
    refine pm_aload_n C dX14_importOf_33 rfl rfl ?_
    obtain ⟨k9, hf⟩ := pm_if hf
    obtain ⟨v10, e11, hf⟩ := pm_bd hf
    refine pm_getR C dX14_importOf_34 flX14_28 rfl k9 e11 ?_
    refine pm_iload C dX14_importOf_37 rfl ?_
    obtain ⟨k12, hf⟩ := pm_if hf
    obtain ⟨u13, hf⟩ := pm_if hf
    refine pm_iald C dX14_importOf_39 k12 u13 rfl ?_
    refine pm_iload_n C dX14_importOf_40 rfl rfl ?_
    refine pm_icmp_ne (tgt := 48) C dX14_importOf_41 (by decide) (fun c14 => ?_) (fun c14 => ?_)
    · have hf := pm_ie hf c14
      refine pm_iconst (v := 0) C dX14_importOf_48 (by decide) ?_
      refine pm_isub C dX14_importOf_49 ?_
      obtain ⟨y15, e16, hf⟩ := pm_lt hf
      refine pm_topI e16 ?_
      refine pm_istore_n (lv' := [(3, .int y15), (0, .ref x0), (1, .int x1), (4, .int x4)]) C dX14_importOf_50 rfl (pm_nl X (by decide)) rfl ?_
      obtain ⟨y17, e18, hf⟩ := pm_lt hf
      refine pm_iinc (v := y17) (lv' := [(4, .int y17), (3, .int y15), (0, .ref x0), (1, .int x1)]) C dX14_importOf_51 rfl ((congrArg (x4 + ·) (by decide : Int32.ofInt 1 = 1)).trans e18) (pm_nl X (by decide)) rfl ?_
      refine pm_goto (tgt := 5) C dX14_importOf_54 (by decide) ?_
      cases hf
      exact pm_sub [2, 3, 1, 0] rfl (ih.1 x0 x1 y15 y17 hi)
    · have hf := pm_it hf c14
      refine pm_iconst (v := 1) C dX14_importOf_44 (by decide) ?_
      refine pm_goto (tgt := 49) C dX14_importOf_45 (by decide) ?_
      refine pm_isub C dX14_importOf_49 ?_
      obtain ⟨y19, e20, hf⟩ := pm_lt hf
      refine pm_topI e20 ?_
      refine pm_istore_n (lv' := [(3, .int y19), (0, .ref x0), (1, .int x1), (4, .int x4)]) C dX14_importOf_50 rfl (pm_nl X (by decide)) rfl ?_
      obtain ⟨y21, e22, hf⟩ := pm_lt hf
      refine pm_iinc (v := y21) (lv' := [(4, .int y21), (3, .int y19), (0, .ref x0), (1, .int x1)]) C dX14_importOf_51 rfl ((congrArg (x4 + ·) (by decide : Int32.ofInt 1 = 1)).trans e22) (pm_nl X (by decide)) rfl ?_
      refine pm_goto (tgt := 5) C dX14_importOf_54 (by decide) ?_
      cases hf
      exact pm_sub [2, 3, 1, 0] rfl (ih.1 x0 x1 y19 y21 hi)
set_option maxHeartbeats 4000000 in
set_option maxRecDepth 100000 in
theorem ctX14_importOf {l : Launch} {G : pm_Gl} {h : pm_H} {a0 : Nat} {p1 : Int32} {p2 : Int32} {r : Int32} {Qr : Option Value → pm_H → Prop} (hf : fX14_importOf h a0 p1 p2 = some r) (q : Qr (some (.int r)) h) : pm_Ct l G mX14_importOf [.ref a0, .int p1, .int p2] h 0 0 Qr := by
  refine pm_body pnX14 (Nat.le_of_ble_eq_true rfl) (fun g C X => ?_)
  have C : pm_C g cX14_importOf RX14 := C
  show pm_G g 0 [(0, .ref a0), (1, .int p1), (2, .int p2)] [] h 0 0
  unfold fX14_importOf at hf
  refine pm_iload_n C dX14_importOf_0 rfl rfl ?_
  refine pm_istore_n (lv' := [(3, .int p2), (0, .ref a0), (1, .int p1), (2, .int p2)]) C dX14_importOf_1 rfl (pm_nl X (by decide)) rfl ?_
  refine pm_iconst (v := 0) C dX14_importOf_2 (by decide) ?_
  refine pm_istore (lv' := [(4, .int 0), (3, .int p2), (0, .ref a0), (1, .int p1), (2, .int p2)]) C dX14_importOf_3 (pm_nl X (by decide)) rfl ?_
  obtain ⟨n, hn⟩ := pm_lim_iter hf
  exact pm_sub [2, 3, 1, 0] rfl ((lpX14_importOf C X q n).1 a0 p1 p2 0 hn)
theorem dX14_imported_0 : decode cX14_imported 0 = .ok (.iconst 0, 1) := by decide +kernel
theorem dX14_imported_1 : decode cX14_imported 1 = .ok (.istore_n 2, 1) := by decide +kernel
theorem dX14_imported_2 : decode cX14_imported 2 = .ok (.iconst 0, 1) := by decide +kernel
theorem dX14_imported_3 : decode cX14_imported 3 = .ok (.istore_n 3, 1) := by decide +kernel
theorem dX14_imported_4 : decode cX14_imported 4 = .ok (.iload_n 3, 1) := by decide +kernel
theorem dX14_imported_5 : decode cX14_imported 5 = .ok (.aload_n 0, 1) := by decide +kernel
theorem dX14_imported_6 : decode cX14_imported 6 = .ok (.getfield 160, 3) := by decide +kernel
theorem dX14_imported_9 : decode cX14_imported 9 = .ok (.if_icmp .ge 27, 3) := by decide +kernel
theorem dX14_imported_12 : decode cX14_imported 12 = .ok (.iload_n 2, 1) := by decide +kernel
theorem dX14_imported_13 : decode cX14_imported 13 = .ok (.aload_n 0, 1) := by decide +kernel
theorem dX14_imported_14 : decode cX14_imported 14 = .ok (.getfield 28, 3) := by decide +kernel
theorem dX14_imported_17 : decode cX14_imported 17 = .ok (.iload_n 3, 1) := by decide +kernel
theorem dX14_imported_18 : decode cX14_imported 18 = .ok (.iaload, 1) := by decide +kernel
theorem dX14_imported_19 : decode cX14_imported 19 = .ok (.iload_n 1, 1) := by decide +kernel
theorem dX14_imported_20 : decode cX14_imported 20 = .ok (.if_icmp .ne 7, 3) := by decide +kernel
theorem dX14_imported_23 : decode cX14_imported 23 = .ok (.iconst 1, 1) := by decide +kernel
theorem dX14_imported_24 : decode cX14_imported 24 = .ok (.goto 4, 3) := by decide +kernel
theorem dX14_imported_27 : decode cX14_imported 27 = .ok (.iconst 0, 1) := by decide +kernel
theorem dX14_imported_28 : decode cX14_imported 28 = .ok (.iadd, 1) := by decide +kernel
theorem dX14_imported_29 : decode cX14_imported 29 = .ok (.istore_n 2, 1) := by decide +kernel
theorem dX14_imported_30 : decode cX14_imported 30 = .ok (.iinc 3 1, 3) := by decide +kernel
theorem dX14_imported_33 : decode cX14_imported 33 = .ok (.goto (-29), 3) := by decide +kernel
theorem dX14_imported_36 : decode cX14_imported 36 = .ok (.iload_n 2, 1) := by decide +kernel
theorem dX14_imported_37 : decode cX14_imported 37 = .ok (.ireturn, 1) := by decide +kernel
def tX14_imported_4 (h : pm_H) (x0 : Nat) (x1 : Int32) (x2 : Int32) (x3 : Int32) : Option (((Nat × Int32 × Int32 × Int32)) ⊕ Int32) := if pm_kd h x0 = 14 then if (pm_I h x0 8) ≤ x3 then (some (.inr (x2))) else ((pm_R h x0 9).bind fun v3 => if pm_kd h v3 = 34 then if pm_in x3 (pm_ln h v3) then if (pm_I h v3 x3.toNatClampNeg) = x1 then (pm_let (x2 + 1) fun y12 => pm_let (x3 + 1) fun y14 => some (.inl ((x0, x1, y12, y14)))) else (pm_let (x2 + 0) fun y8 => pm_let (x3 + 1) fun y10 => some (.inl ((x0, x1, y8, y10)))) else none else none) else none
def sX14_imported (h : pm_H) : ((Nat × Int32 × Int32 × Int32)) → Option (((Nat × Int32 × Int32 × Int32)) ⊕ Int32) := fun z => match z with
  | (x0, x1, x2, x3) => tX14_imported_4 h x0 x1 x2 x3
noncomputable def fX14_imported (h : pm_H) (a0 : Nat) (p1 : Int32) : Option Int32 := pm_lim (sX14_imported h) ((a0, p1, 0, 0))
set_option maxHeartbeats 4000000 in
set_option maxRecDepth 100000 in
theorem lpX14_imported {g : pm_Gm} {l : Launch} {G : pm_Gl} {Qr : Option Value → pm_H → Prop} (C : pm_C g cX14_imported RX14) (X : pm_X g l G mX14_imported 0 0 Qr) {h : pm_H} {r : Int32} (q : Qr (some (.int r)) h) : ∀ n : Nat, (∀ (x0 : Nat) (x1 : Int32) (x2 : Int32) (x3 : Int32), pm_iter (sX14_imported h) n (x0, x1, x2, x3) = some r → pm_G g 4 [(0, .ref x0), (1, .int x1), (2, .int x2), (3, .int x3)] [] h 0 0) := by
  intro n
  induction n with
  | zero => exact fun _ _ _ _ hf => (by cases hf)
  | succ n ih =>
    refine fun x0 x1 x2 x3 hf => ?_
    obtain ⟨y, hf, hi⟩ := pm_iter_s hf
    have hf : tX14_imported_4 h x0 x1 x2 x3 = some y := hf
    unfold tX14_imported_4 at hf
    refine pm_iload_n C dX14_imported_4 rfl rfl ?_
    refine pm_aload_n C dX14_imported_5 rfl rfl ?_
    obtain ⟨k1, hf⟩ := pm_if hf
    refine pm_getI C dX14_imported_6 flX14_160 rfl k1 rfl ?_
    refine pm_icmp_ge (tgt := 36) C dX14_imported_9 (by decide) (fun c2 => ?_) (fun c2 => ?_)
    · have hf := pm_it hf c2
      refine pm_iload_n C dX14_imported_36 rfl rfl ?_
      cases hf
      cases hi
      exact pm_iret C X dX14_imported_37 rfl (Nat.le_refl _) (Nat.le_refl _) q
    · have hf := pm_ie hf c2
      refine pm_iload_n C dX14_imported_12 rfl rfl ?_
      refine pm_aload_n C dX14_imported_13 rfl rfl ?_
      obtain ⟨v3, e4, hf⟩ := pm_bd hf
      refine pm_getR C dX14_imported_14 flX14_28 rfl k1 e4 ?_
      refine pm_iload_n C dX14_imported_17 rfl rfl ?_
      obtain ⟨k5, hf⟩ := pm_if hf
      obtain ⟨u6, hf⟩ := pm_if hf
      refine pm_iald C dX14_imported_18 k5 u6 rfl ?_
      refine pm_iload_n C dX14_imported_19 rfl rfl ?_
      refine pm_icmp_ne (tgt := 27) C dX14_imported_20 (by decide) (fun c7 => ?_) (fun c7 => ?_)
      · have hf := pm_ie hf c7
        refine pm_iconst (v := 0) C dX14_imported_27 (by decide) ?_
        refine pm_iadd C dX14_imported_28 ?_
        obtain ⟨y8, e9, hf⟩ := pm_lt hf
        refine pm_topI e9 ?_
        refine pm_istore_n (lv' := [(2, .int y8), (0, .ref x0), (1, .int x1), (3, .int x3)]) C dX14_imported_29 rfl (pm_nl X (by decide)) rfl ?_
        obtain ⟨y10, e11, hf⟩ := pm_lt hf
        refine pm_iinc (v := y10) (lv' := [(3, .int y10), (2, .int y8), (0, .ref x0), (1, .int x1)]) C dX14_imported_30 rfl ((congrArg (x3 + ·) (by decide : Int32.ofInt 1 = 1)).trans e11) (pm_nl X (by decide)) rfl ?_
        refine pm_goto (tgt := 4) C dX14_imported_33 (by decide) ?_
        cases hf
        exact pm_sub [2, 3, 1, 0] rfl (ih x0 x1 y8 y10 hi)
      · have hf := pm_it hf c7
        refine pm_iconst (v := 1) C dX14_imported_23 (by decide) ?_
        refine pm_goto (tgt := 28) C dX14_imported_24 (by decide) ?_
        refine pm_iadd C dX14_imported_28 ?_
        obtain ⟨y12, e13, hf⟩ := pm_lt hf
        refine pm_topI e13 ?_
        refine pm_istore_n (lv' := [(2, .int y12), (0, .ref x0), (1, .int x1), (3, .int x3)]) C dX14_imported_29 rfl (pm_nl X (by decide)) rfl ?_
        obtain ⟨y14, e15, hf⟩ := pm_lt hf
        refine pm_iinc (v := y14) (lv' := [(3, .int y14), (2, .int y12), (0, .ref x0), (1, .int x1)]) C dX14_imported_30 rfl ((congrArg (x3 + ·) (by decide : Int32.ofInt 1 = 1)).trans e15) (pm_nl X (by decide)) rfl ?_
        refine pm_goto (tgt := 4) C dX14_imported_33 (by decide) ?_
        cases hf
        exact pm_sub [2, 3, 1, 0] rfl (ih x0 x1 y12 y14 hi)
set_option maxHeartbeats 4000000 in
set_option maxRecDepth 100000 in
theorem ctX14_imported {l : Launch} {G : pm_Gl} {h : pm_H} {a0 : Nat} {p1 : Int32} {r : Int32} {Qr : Option Value → pm_H → Prop} (hf : fX14_imported h a0 p1 = some r) (q : Qr (some (.int r)) h) : pm_Ct l G mX14_imported [.ref a0, .int p1] h 0 0 Qr := by
  refine pm_body pnX14 (Nat.le_of_ble_eq_true rfl) (fun g C X => ?_)
  have C : pm_C g cX14_imported RX14 := C
  show pm_G g 0 [(0, .ref a0), (1, .int p1)] [] h 0 0
  unfold fX14_imported at hf
  refine pm_iconst (v := 0) C dX14_imported_0 (by decide) ?_
  refine pm_istore_n (lv' := [(2, .int 0), (0, .ref a0), (1, .int p1)]) C dX14_imported_1 rfl (pm_nl X (by decide)) rfl ?_
  refine pm_iconst (v := 0) C dX14_imported_2 (by decide) ?_
  refine pm_istore_n (lv' := [(3, .int 0), (2, .int 0), (0, .ref a0), (1, .int p1)]) C dX14_imported_3 rfl (pm_nl X (by decide)) rfl ?_
  obtain ⟨n, hn⟩ := pm_lim_iter hf
  exact pm_sub [2, 3, 1, 0] rfl ((lpX14_imported C X q n) a0 p1 0 0 hn)
theorem dX14_typeOfFunction_0 : decode cX14_typeOfFunction 0 = .ok (.aload_n 0, 1) := by decide +kernel
theorem dX14_typeOfFunction_1 : decode cX14_typeOfFunction 1 = .ok (.iconst 0, 1) := by decide +kernel
theorem dX14_typeOfFunction_2 : decode cX14_typeOfFunction 2 = .ok (.invokevirtual 193, 3) := by decide +kernel
theorem dX14_typeOfFunction_5 : decode cX14_typeOfFunction 5 = .ok (.istore_n 2, 1) := by decide +kernel
theorem dX14_typeOfFunction_6 : decode cX14_typeOfFunction 6 = .ok (.iload_n 1, 1) := by decide +kernel
theorem dX14_typeOfFunction_7 : decode cX14_typeOfFunction 7 = .ok (.iload_n 2, 1) := by decide +kernel
theorem dX14_typeOfFunction_8 : decode cX14_typeOfFunction 8 = .ok (.if_icmp .ge 17, 3) := by decide +kernel
theorem dX14_typeOfFunction_11 : decode cX14_typeOfFunction 11 = .ok (.aload_n 0, 1) := by decide +kernel
theorem dX14_typeOfFunction_12 : decode cX14_typeOfFunction 12 = .ok (.getfield 31, 3) := by decide +kernel
theorem dX14_typeOfFunction_15 : decode cX14_typeOfFunction 15 = .ok (.aload_n 0, 1) := by decide +kernel
theorem dX14_typeOfFunction_16 : decode cX14_typeOfFunction 16 = .ok (.iconst 0, 1) := by decide +kernel
theorem dX14_typeOfFunction_17 : decode cX14_typeOfFunction 17 = .ok (.iload_n 1, 1) := by decide +kernel
theorem dX14_typeOfFunction_18 : decode cX14_typeOfFunction 18 = .ok (.invokevirtual 197, 3) := by decide +kernel
theorem dX14_typeOfFunction_21 : decode cX14_typeOfFunction 21 = .ok (.laload, 1) := by decide +kernel
theorem dX14_typeOfFunction_22 : decode cX14_typeOfFunction 22 = .ok (.goto 11, 3) := by decide +kernel
theorem dX14_typeOfFunction_25 : decode cX14_typeOfFunction 25 = .ok (.aload_n 0, 1) := by decide +kernel
theorem dX14_typeOfFunction_26 : decode cX14_typeOfFunction 26 = .ok (.getfield 45, 3) := by decide +kernel
theorem dX14_typeOfFunction_29 : decode cX14_typeOfFunction 29 = .ok (.iload_n 1, 1) := by decide +kernel
theorem dX14_typeOfFunction_30 : decode cX14_typeOfFunction 30 = .ok (.iload_n 2, 1) := by decide +kernel
theorem dX14_typeOfFunction_31 : decode cX14_typeOfFunction 31 = .ok (.isub, 1) := by decide +kernel
theorem dX14_typeOfFunction_32 : decode cX14_typeOfFunction 32 = .ok (.laload, 1) := by decide +kernel
theorem dX14_typeOfFunction_33 : decode cX14_typeOfFunction 33 = .ok (.l2i, 1) := by decide +kernel
theorem dX14_typeOfFunction_34 : decode cX14_typeOfFunction 34 = .ok (.ireturn, 1) := by decide +kernel
noncomputable def fX14_typeOfFunction (h : pm_H) (a0 : Nat) (p1 : Int32) : Option Int32 := if pm_kd h a0 = 14 then (fX14_imported h a0 0).bind fun v2 => if v2 ≤ p1 then ((pm_R h a0 16).bind fun v5 => pm_let (p1 - v2) fun y7 => if pm_kd h v5 = 35 then if pm_in y7 (pm_ln h v5) then some ((pm_L h v5 y7.toNatClampNeg).toInt32) else none else none) else ((pm_R h a0 10).bind fun v11 => (fX14_importOf h a0 0 p1).bind fun v13 => if pm_kd h v11 = 35 then if pm_in v13 (pm_ln h v11) then some ((pm_L h v11 v13.toNatClampNeg).toInt32) else none else none) else none
set_option maxHeartbeats 4000000 in
set_option maxRecDepth 100000 in
theorem ctX14_typeOfFunction {l : Launch} {G : pm_Gl} {h : pm_H} {a0 : Nat} {p1 : Int32} {r : Int32} {Qr : Option Value → pm_H → Prop} (hf : fX14_typeOfFunction h a0 p1 = some r) (q : Qr (some (.int r)) h) : pm_Ct l G mX14_typeOfFunction [.ref a0, .int p1] h 0 0 Qr := by
  refine pm_body pnX14 (Nat.le_of_ble_eq_true rfl) (fun g C X => ?_)
  have C : pm_C g cX14_typeOfFunction RX14 := C
  show pm_G g 0 [(0, .ref a0), (1, .int p1)] [] h 0 0
  unfold fX14_typeOfFunction at hf
  refine pm_aload_n C dX14_typeOfFunction_0 rfl rfl ?_
  refine pm_iconst (v := 0) C dX14_typeOfFunction_1 (by decide) ?_
  obtain ⟨k1, hf⟩ := pm_if hf
  obtain ⟨v2, e3, hf⟩ := pm_bd hf
  refine pm_callV (as := [.int 0]) (st := []) C X dX14_typeOfFunction_2 lnX14_193 myX14_imported viX14_imported ⟨by decide, by decide⟩ rfl rfl k1 (Nat.le_of_ble_eq_true rfl) (Nat.le_refl _) (Nat.le_refl _) (ctX14_imported e3 ?_)
  show pm_G g 5 [(0, .ref a0), (1, .int p1)] [.int v2] h 0 0
  refine pm_istore_n (lv' := [(2, .int v2), (0, .ref a0), (1, .int p1)]) C dX14_typeOfFunction_5 rfl (pm_nl X (by decide)) rfl ?_
  refine pm_iload_n C dX14_typeOfFunction_6 rfl rfl ?_
  refine pm_iload_n C dX14_typeOfFunction_7 rfl rfl ?_
  refine pm_icmp_ge (tgt := 25) C dX14_typeOfFunction_8 (by decide) (fun c4 => ?_) (fun c4 => ?_)
  · have hf := pm_it hf c4
    refine pm_aload_n C dX14_typeOfFunction_25 rfl rfl ?_
    obtain ⟨v5, e6, hf⟩ := pm_bd hf
    refine pm_getR C dX14_typeOfFunction_26 flX14_45 rfl k1 e6 ?_
    refine pm_iload_n C dX14_typeOfFunction_29 rfl rfl ?_
    refine pm_iload_n C dX14_typeOfFunction_30 rfl rfl ?_
    refine pm_isub C dX14_typeOfFunction_31 ?_
    obtain ⟨y7, e8, hf⟩ := pm_lt hf
    refine pm_topI e8 ?_
    obtain ⟨k9, hf⟩ := pm_if hf
    obtain ⟨u10, hf⟩ := pm_if hf
    refine pm_lald C dX14_typeOfFunction_32 k9 u10 rfl ?_
    refine pm_l2i C dX14_typeOfFunction_33 ?_
    cases hf
    exact pm_iret C X dX14_typeOfFunction_34 rfl (Nat.le_refl _) (Nat.le_refl _) q
  · have hf := pm_ie hf c4
    refine pm_aload_n C dX14_typeOfFunction_11 rfl rfl ?_
    obtain ⟨v11, e12, hf⟩ := pm_bd hf
    refine pm_getR C dX14_typeOfFunction_12 flX14_31 rfl k1 e12 ?_
    refine pm_aload_n C dX14_typeOfFunction_15 rfl rfl ?_
    refine pm_iconst (v := 0) C dX14_typeOfFunction_16 (by decide) ?_
    refine pm_iload_n C dX14_typeOfFunction_17 rfl rfl ?_
    obtain ⟨v13, e14, hf⟩ := pm_bd hf
    refine pm_callV (as := [.int 0, .int p1]) (st := [.ref v11]) C X dX14_typeOfFunction_18 lnX14_197 myX14_importOf viX14_importOf ⟨by decide, by decide⟩ rfl rfl k1 (Nat.le_of_ble_eq_true rfl) (Nat.le_refl _) (Nat.le_refl _) (ctX14_importOf e14 ?_)
    show pm_G g 21 [(2, .int v2), (0, .ref a0), (1, .int p1)] [.int v13, .ref v11] h 0 0
    obtain ⟨k15, hf⟩ := pm_if hf
    obtain ⟨u16, hf⟩ := pm_if hf
    refine pm_lald C dX14_typeOfFunction_21 k15 u16 rfl ?_
    refine pm_goto (tgt := 33) C dX14_typeOfFunction_22 (by decide) ?_
    refine pm_l2i C dX14_typeOfFunction_33 ?_
    cases hf
    exact pm_iret C X dX14_typeOfFunction_34 rfl (Nat.le_refl _) (Nat.le_refl _) q
theorem dX14_typeOfGlobal_0 : decode cX14_typeOfGlobal 0 = .ok (.aload_n 0, 1) := by decide +kernel
theorem dX14_typeOfGlobal_1 : decode cX14_typeOfGlobal 1 = .ok (.iconst 3, 1) := by decide +kernel
theorem dX14_typeOfGlobal_2 : decode cX14_typeOfGlobal 2 = .ok (.invokevirtual 193, 3) := by decide +kernel
theorem dX14_typeOfGlobal_5 : decode cX14_typeOfGlobal 5 = .ok (.istore_n 2, 1) := by decide +kernel
theorem dX14_typeOfGlobal_6 : decode cX14_typeOfGlobal 6 = .ok (.iload_n 1, 1) := by decide +kernel
theorem dX14_typeOfGlobal_7 : decode cX14_typeOfGlobal 7 = .ok (.iload_n 2, 1) := by decide +kernel
theorem dX14_typeOfGlobal_8 : decode cX14_typeOfGlobal 8 = .ok (.if_icmp .ge 18, 3) := by decide +kernel
theorem dX14_typeOfGlobal_11 : decode cX14_typeOfGlobal 11 = .ok (.aload_n 0, 1) := by decide +kernel
theorem dX14_typeOfGlobal_12 : decode cX14_typeOfGlobal 12 = .ok (.getfield 31, 3) := by decide +kernel
theorem dX14_typeOfGlobal_15 : decode cX14_typeOfGlobal 15 = .ok (.aload_n 0, 1) := by decide +kernel
theorem dX14_typeOfGlobal_16 : decode cX14_typeOfGlobal 16 = .ok (.iconst 3, 1) := by decide +kernel
theorem dX14_typeOfGlobal_17 : decode cX14_typeOfGlobal 17 = .ok (.iload_n 1, 1) := by decide +kernel
theorem dX14_typeOfGlobal_18 : decode cX14_typeOfGlobal 18 = .ok (.invokevirtual 197, 3) := by decide +kernel
theorem dX14_typeOfGlobal_21 : decode cX14_typeOfGlobal 21 = .ok (.laload, 1) := by decide +kernel
theorem dX14_typeOfGlobal_22 : decode cX14_typeOfGlobal 22 = .ok (.l2i, 1) := by decide +kernel
theorem dX14_typeOfGlobal_23 : decode cX14_typeOfGlobal 23 = .ok (.goto 11, 3) := by decide +kernel
theorem dX14_typeOfGlobal_26 : decode cX14_typeOfGlobal 26 = .ok (.aload_n 0, 1) := by decide +kernel
theorem dX14_typeOfGlobal_27 : decode cX14_typeOfGlobal 27 = .ok (.getfield 63, 3) := by decide +kernel
theorem dX14_typeOfGlobal_30 : decode cX14_typeOfGlobal 30 = .ok (.iload_n 1, 1) := by decide +kernel
theorem dX14_typeOfGlobal_31 : decode cX14_typeOfGlobal 31 = .ok (.iload_n 2, 1) := by decide +kernel
theorem dX14_typeOfGlobal_32 : decode cX14_typeOfGlobal 32 = .ok (.isub, 1) := by decide +kernel
theorem dX14_typeOfGlobal_33 : decode cX14_typeOfGlobal 33 = .ok (.iaload, 1) := by decide +kernel
theorem dX14_typeOfGlobal_34 : decode cX14_typeOfGlobal 34 = .ok (.ireturn, 1) := by decide +kernel
noncomputable def fX14_typeOfGlobal (h : pm_H) (a0 : Nat) (p1 : Int32) : Option Int32 := if pm_kd h a0 = 14 then (fX14_imported h a0 3).bind fun v2 => if v2 ≤ p1 then ((pm_R h a0 25).bind fun v5 => pm_let (p1 - v2) fun y7 => if pm_kd h v5 = 34 then if pm_in y7 (pm_ln h v5) then some (pm_I h v5 y7.toNatClampNeg) else none else none) else ((pm_R h a0 10).bind fun v11 => (fX14_importOf h a0 3 p1).bind fun v13 => if pm_kd h v11 = 35 then if pm_in v13 (pm_ln h v11) then some ((pm_L h v11 v13.toNatClampNeg).toInt32) else none else none) else none
set_option maxHeartbeats 4000000 in
set_option maxRecDepth 100000 in
theorem ctX14_typeOfGlobal {l : Launch} {G : pm_Gl} {h : pm_H} {a0 : Nat} {p1 : Int32} {r : Int32} {Qr : Option Value → pm_H → Prop} (hf : fX14_typeOfGlobal h a0 p1 = some r) (q : Qr (some (.int r)) h) : pm_Ct l G mX14_typeOfGlobal [.ref a0, .int p1] h 0 0 Qr := by
  refine pm_body pnX14 (Nat.le_of_ble_eq_true rfl) (fun g C X => ?_)
  have C : pm_C g cX14_typeOfGlobal RX14 := C
  show pm_G g 0 [(0, .ref a0), (1, .int p1)] [] h 0 0
  unfold fX14_typeOfGlobal at hf
  refine pm_aload_n C dX14_typeOfGlobal_0 rfl rfl ?_
  refine pm_iconst (v := 3) C dX14_typeOfGlobal_1 (by decide) ?_
  obtain ⟨k1, hf⟩ := pm_if hf
  obtain ⟨v2, e3, hf⟩ := pm_bd hf
  refine pm_callV (as := [.int 3]) (st := []) C X dX14_typeOfGlobal_2 lnX14_193 myX14_imported viX14_imported ⟨by decide, by decide⟩ rfl rfl k1 (Nat.le_of_ble_eq_true rfl) (Nat.le_refl _) (Nat.le_refl _) (ctX14_imported e3 ?_)
  show pm_G g 5 [(0, .ref a0), (1, .int p1)] [.int v2] h 0 0
  refine pm_istore_n (lv' := [(2, .int v2), (0, .ref a0), (1, .int p1)]) C dX14_typeOfGlobal_5 rfl (pm_nl X (by decide)) rfl ?_
  refine pm_iload_n C dX14_typeOfGlobal_6 rfl rfl ?_
  refine pm_iload_n C dX14_typeOfGlobal_7 rfl rfl ?_
  refine pm_icmp_ge (tgt := 26) C dX14_typeOfGlobal_8 (by decide) (fun c4 => ?_) (fun c4 => ?_)
  · have hf := pm_it hf c4
    refine pm_aload_n C dX14_typeOfGlobal_26 rfl rfl ?_
    obtain ⟨v5, e6, hf⟩ := pm_bd hf
    refine pm_getR C dX14_typeOfGlobal_27 flX14_63 rfl k1 e6 ?_
    refine pm_iload_n C dX14_typeOfGlobal_30 rfl rfl ?_
    refine pm_iload_n C dX14_typeOfGlobal_31 rfl rfl ?_
    refine pm_isub C dX14_typeOfGlobal_32 ?_
    obtain ⟨y7, e8, hf⟩ := pm_lt hf
    refine pm_topI e8 ?_
    obtain ⟨k9, hf⟩ := pm_if hf
    obtain ⟨u10, hf⟩ := pm_if hf
    refine pm_iald C dX14_typeOfGlobal_33 k9 u10 rfl ?_
    cases hf
    exact pm_iret C X dX14_typeOfGlobal_34 rfl (Nat.le_refl _) (Nat.le_refl _) q
  · have hf := pm_ie hf c4
    refine pm_aload_n C dX14_typeOfGlobal_11 rfl rfl ?_
    obtain ⟨v11, e12, hf⟩ := pm_bd hf
    refine pm_getR C dX14_typeOfGlobal_12 flX14_31 rfl k1 e12 ?_
    refine pm_aload_n C dX14_typeOfGlobal_15 rfl rfl ?_
    refine pm_iconst (v := 3) C dX14_typeOfGlobal_16 (by decide) ?_
    refine pm_iload_n C dX14_typeOfGlobal_17 rfl rfl ?_
    obtain ⟨v13, e14, hf⟩ := pm_bd hf
    refine pm_callV (as := [.int 3, .int p1]) (st := [.ref v11]) C X dX14_typeOfGlobal_18 lnX14_197 myX14_importOf viX14_importOf ⟨by decide, by decide⟩ rfl rfl k1 (Nat.le_of_ble_eq_true rfl) (Nat.le_refl _) (Nat.le_refl _) (ctX14_importOf e14 ?_)
    show pm_G g 21 [(2, .int v2), (0, .ref a0), (1, .int p1)] [.int v13, .ref v11] h 0 0
    obtain ⟨k15, hf⟩ := pm_if hf
    obtain ⟨u16, hf⟩ := pm_if hf
    refine pm_lald C dX14_typeOfGlobal_21 k15 u16 rfl ?_
    refine pm_l2i C dX14_typeOfGlobal_22 ?_
    refine pm_goto (tgt := 34) C dX14_typeOfGlobal_23 (by decide) ?_
    cases hf
    exact pm_iret C X dX14_typeOfGlobal_34 rfl (Nat.le_refl _) (Nat.le_refl _) q
theorem dX14_typeOfTable_0 : decode cX14_typeOfTable 0 = .ok (.aload_n 0, 1) := by decide +kernel
theorem dX14_typeOfTable_1 : decode cX14_typeOfTable 1 = .ok (.iconst 1, 1) := by decide +kernel
theorem dX14_typeOfTable_2 : decode cX14_typeOfTable 2 = .ok (.invokevirtual 193, 3) := by decide +kernel
theorem dX14_typeOfTable_5 : decode cX14_typeOfTable 5 = .ok (.istore_n 2, 1) := by decide +kernel
theorem dX14_typeOfTable_6 : decode cX14_typeOfTable 6 = .ok (.iload_n 1, 1) := by decide +kernel
theorem dX14_typeOfTable_7 : decode cX14_typeOfTable 7 = .ok (.iload_n 2, 1) := by decide +kernel
theorem dX14_typeOfTable_8 : decode cX14_typeOfTable 8 = .ok (.if_icmp .ge 18, 3) := by decide +kernel
theorem dX14_typeOfTable_11 : decode cX14_typeOfTable 11 = .ok (.aload_n 0, 1) := by decide +kernel
theorem dX14_typeOfTable_12 : decode cX14_typeOfTable 12 = .ok (.getfield 31, 3) := by decide +kernel
theorem dX14_typeOfTable_15 : decode cX14_typeOfTable 15 = .ok (.aload_n 0, 1) := by decide +kernel
theorem dX14_typeOfTable_16 : decode cX14_typeOfTable 16 = .ok (.iconst 1, 1) := by decide +kernel
theorem dX14_typeOfTable_17 : decode cX14_typeOfTable 17 = .ok (.iload_n 1, 1) := by decide +kernel
theorem dX14_typeOfTable_18 : decode cX14_typeOfTable 18 = .ok (.invokevirtual 197, 3) := by decide +kernel
theorem dX14_typeOfTable_21 : decode cX14_typeOfTable 21 = .ok (.laload, 1) := by decide +kernel
theorem dX14_typeOfTable_22 : decode cX14_typeOfTable 22 = .ok (.l2i, 1) := by decide +kernel
theorem dX14_typeOfTable_23 : decode cX14_typeOfTable 23 = .ok (.goto 11, 3) := by decide +kernel
theorem dX14_typeOfTable_26 : decode cX14_typeOfTable 26 = .ok (.aload_n 0, 1) := by decide +kernel
theorem dX14_typeOfTable_27 : decode cX14_typeOfTable 27 = .ok (.getfield 48, 3) := by decide +kernel
theorem dX14_typeOfTable_30 : decode cX14_typeOfTable 30 = .ok (.iload_n 1, 1) := by decide +kernel
theorem dX14_typeOfTable_31 : decode cX14_typeOfTable 31 = .ok (.iload_n 2, 1) := by decide +kernel
theorem dX14_typeOfTable_32 : decode cX14_typeOfTable 32 = .ok (.isub, 1) := by decide +kernel
theorem dX14_typeOfTable_33 : decode cX14_typeOfTable 33 = .ok (.iaload, 1) := by decide +kernel
theorem dX14_typeOfTable_34 : decode cX14_typeOfTable 34 = .ok (.ireturn, 1) := by decide +kernel
noncomputable def fX14_typeOfTable (h : pm_H) (a0 : Nat) (p1 : Int32) : Option Int32 := if pm_kd h a0 = 14 then (fX14_imported h a0 1).bind fun v2 => if v2 ≤ p1 then ((pm_R h a0 18).bind fun v5 => pm_let (p1 - v2) fun y7 => if pm_kd h v5 = 34 then if pm_in y7 (pm_ln h v5) then some (pm_I h v5 y7.toNatClampNeg) else none else none) else ((pm_R h a0 10).bind fun v11 => (fX14_importOf h a0 1 p1).bind fun v13 => if pm_kd h v11 = 35 then if pm_in v13 (pm_ln h v11) then some ((pm_L h v11 v13.toNatClampNeg).toInt32) else none else none) else none
set_option maxHeartbeats 4000000 in
set_option maxRecDepth 100000 in
theorem ctX14_typeOfTable {l : Launch} {G : pm_Gl} {h : pm_H} {a0 : Nat} {p1 : Int32} {r : Int32} {Qr : Option Value → pm_H → Prop} (hf : fX14_typeOfTable h a0 p1 = some r) (q : Qr (some (.int r)) h) : pm_Ct l G mX14_typeOfTable [.ref a0, .int p1] h 0 0 Qr := by
  refine pm_body pnX14 (Nat.le_of_ble_eq_true rfl) (fun g C X => ?_)
  have C : pm_C g cX14_typeOfTable RX14 := C
  show pm_G g 0 [(0, .ref a0), (1, .int p1)] [] h 0 0
  unfold fX14_typeOfTable at hf
  refine pm_aload_n C dX14_typeOfTable_0 rfl rfl ?_
  refine pm_iconst (v := 1) C dX14_typeOfTable_1 (by decide) ?_
  obtain ⟨k1, hf⟩ := pm_if hf
  obtain ⟨v2, e3, hf⟩ := pm_bd hf
  refine pm_callV (as := [.int 1]) (st := []) C X dX14_typeOfTable_2 lnX14_193 myX14_imported viX14_imported ⟨by decide, by decide⟩ rfl rfl k1 (Nat.le_of_ble_eq_true rfl) (Nat.le_refl _) (Nat.le_refl _) (ctX14_imported e3 ?_)
  show pm_G g 5 [(0, .ref a0), (1, .int p1)] [.int v2] h 0 0
  refine pm_istore_n (lv' := [(2, .int v2), (0, .ref a0), (1, .int p1)]) C dX14_typeOfTable_5 rfl (pm_nl X (by decide)) rfl ?_
  refine pm_iload_n C dX14_typeOfTable_6 rfl rfl ?_
  refine pm_iload_n C dX14_typeOfTable_7 rfl rfl ?_
  refine pm_icmp_ge (tgt := 26) C dX14_typeOfTable_8 (by decide) (fun c4 => ?_) (fun c4 => ?_)
  · have hf := pm_it hf c4
    refine pm_aload_n C dX14_typeOfTable_26 rfl rfl ?_
    obtain ⟨v5, e6, hf⟩ := pm_bd hf
    refine pm_getR C dX14_typeOfTable_27 flX14_48 rfl k1 e6 ?_
    refine pm_iload_n C dX14_typeOfTable_30 rfl rfl ?_
    refine pm_iload_n C dX14_typeOfTable_31 rfl rfl ?_
    refine pm_isub C dX14_typeOfTable_32 ?_
    obtain ⟨y7, e8, hf⟩ := pm_lt hf
    refine pm_topI e8 ?_
    obtain ⟨k9, hf⟩ := pm_if hf
    obtain ⟨u10, hf⟩ := pm_if hf
    refine pm_iald C dX14_typeOfTable_33 k9 u10 rfl ?_
    cases hf
    exact pm_iret C X dX14_typeOfTable_34 rfl (Nat.le_refl _) (Nat.le_refl _) q
  · have hf := pm_ie hf c4
    refine pm_aload_n C dX14_typeOfTable_11 rfl rfl ?_
    obtain ⟨v11, e12, hf⟩ := pm_bd hf
    refine pm_getR C dX14_typeOfTable_12 flX14_31 rfl k1 e12 ?_
    refine pm_aload_n C dX14_typeOfTable_15 rfl rfl ?_
    refine pm_iconst (v := 1) C dX14_typeOfTable_16 (by decide) ?_
    refine pm_iload_n C dX14_typeOfTable_17 rfl rfl ?_
    obtain ⟨v13, e14, hf⟩ := pm_bd hf
    refine pm_callV (as := [.int 1, .int p1]) (st := [.ref v11]) C X dX14_typeOfTable_18 lnX14_197 myX14_importOf viX14_importOf ⟨by decide, by decide⟩ rfl rfl k1 (Nat.le_of_ble_eq_true rfl) (Nat.le_refl _) (Nat.le_refl _) (ctX14_importOf e14 ?_)
    show pm_G g 21 [(2, .int v2), (0, .ref a0), (1, .int p1)] [.int v13, .ref v11] h 0 0
    obtain ⟨k15, hf⟩ := pm_if hf
    obtain ⟨u16, hf⟩ := pm_if hf
    refine pm_lald C dX14_typeOfTable_21 k15 u16 rfl ?_
    refine pm_l2i C dX14_typeOfTable_22 ?_
    refine pm_goto (tgt := 34) C dX14_typeOfTable_23 (by decide) ?_
    cases hf
    exact pm_iret C X dX14_typeOfTable_34 rfl (Nat.le_refl _) (Nat.le_refl _) q
theorem dX15_read_0 : decode cX15_read 0 = .ok (.iload_n 1, 1) := by decide +kernel
theorem dX15_read_1 : decode cX15_read 1 = .ok (.iconst 2, 1) := by decide +kernel
theorem dX15_read_2 : decode cX15_read 2 = .ok (.if_icmp .ne 8, 3) := by decide +kernel
theorem dX15_read_5 : decode cX15_read 5 = .ok (.bipush 23, 2) := by decide +kernel
theorem dX15_read_7 : decode cX15_read 7 = .ok (.goto 5, 3) := by decide +kernel
theorem dX15_read_10 : decode cX15_read 10 = .ok (.bipush 52, 2) := by decide +kernel
theorem dX15_read_12 : decode cX15_read 12 = .ok (.istore 4, 2) := by decide +kernel
theorem dX15_read_14 : decode cX15_read 14 = .ok (.iload_n 1, 1) := by decide +kernel
theorem dX15_read_15 : decode cX15_read 15 = .ok (.iconst 2, 1) := by decide +kernel
theorem dX15_read_16 : decode cX15_read 16 = .ok (.if_icmp .ne 9, 3) := by decide +kernel
theorem dX15_read_19 : decode cX15_read 19 = .ok (.sipush 255, 3) := by decide +kernel
theorem dX15_read_22 : decode cX15_read 22 = .ok (.goto 6, 3) := by decide +kernel
theorem dX15_read_25 : decode cX15_read 25 = .ok (.sipush 2047, 3) := by decide +kernel
theorem dX15_read_28 : decode cX15_read 28 = .ok (.istore 5, 2) := by decide +kernel
theorem dX15_read_30 : decode cX15_read 30 = .ok (.lload_n 2, 1) := by decide +kernel
theorem dX15_read_31 : decode cX15_read 31 = .ok (.lconst 1, 1) := by decide +kernel
theorem dX15_read_32 : decode cX15_read 32 = .ok (.iload 4, 2) := by decide +kernel
theorem dX15_read_34 : decode cX15_read 34 = .ok (.lshl, 1) := by decide +kernel
theorem dX15_read_35 : decode cX15_read 35 = .ok (.lconst 1, 1) := by decide +kernel
theorem dX15_read_36 : decode cX15_read 36 = .ok (.lsub, 1) := by decide +kernel
theorem dX15_read_37 : decode cX15_read 37 = .ok (.land, 1) := by decide +kernel
theorem dX15_read_38 : decode cX15_read 38 = .ok (.lstore 6, 2) := by decide +kernel
theorem dX15_read_40 : decode cX15_read 40 = .ok (.lload_n 2, 1) := by decide +kernel
theorem dX15_read_41 : decode cX15_read 41 = .ok (.iload 4, 2) := by decide +kernel
theorem dX15_read_43 : decode cX15_read 43 = .ok (.lshr, 1) := by decide +kernel
theorem dX15_read_44 : decode cX15_read 44 = .ok (.l2i, 1) := by decide +kernel
theorem dX15_read_45 : decode cX15_read 45 = .ok (.iload 5, 2) := by decide +kernel
theorem dX15_read_47 : decode cX15_read 47 = .ok (.iand, 1) := by decide +kernel
theorem dX15_read_48 : decode cX15_read 48 = .ok (.istore 8, 2) := by decide +kernel
theorem dX15_read_50 : decode cX15_read 50 = .ok (.aload_n 0, 1) := by decide +kernel
theorem dX15_read_51 : decode cX15_read 51 = .ok (.lload_n 2, 1) := by decide +kernel
theorem dX15_read_52 : decode cX15_read 52 = .ok (.iload_n 1, 1) := by decide +kernel
theorem dX15_read_53 : decode cX15_read 53 = .ok (.iconst 2, 1) := by decide +kernel
theorem dX15_read_54 : decode cX15_read 54 = .ok (.if_icmp .ne 8, 3) := by decide +kernel
theorem dX15_read_57 : decode cX15_read 57 = .ok (.bipush 31, 2) := by decide +kernel
theorem dX15_read_59 : decode cX15_read 59 = .ok (.goto 5, 3) := by decide +kernel
theorem dX15_read_62 : decode cX15_read 62 = .ok (.bipush 63, 2) := by decide +kernel
theorem dX15_read_64 : decode cX15_read 64 = .ok (.lshr, 1) := by decide +kernel
theorem dX15_read_65 : decode cX15_read 65 = .ok (.lconst 1, 1) := by decide +kernel
theorem dX15_read_66 : decode cX15_read 66 = .ok (.land, 1) := by decide +kernel
theorem dX15_read_67 : decode cX15_read 67 = .ok (.lconst 1, 1) := by decide +kernel
theorem dX15_read_68 : decode cX15_read 68 = .ok (.lcmp, 1) := by decide +kernel
theorem dX15_read_69 : decode cX15_read 69 = .ok (.ifCond .ne 7, 3) := by decide +kernel
theorem dX15_read_72 : decode cX15_read 72 = .ok (.iconst 1, 1) := by decide +kernel
theorem dX15_read_73 : decode cX15_read 73 = .ok (.goto 4, 3) := by decide +kernel
theorem dX15_read_76 : decode cX15_read 76 = .ok (.iconst 0, 1) := by decide +kernel
theorem dX15_read_77 : decode cX15_read 77 = .ok (.putfield 7, 3) := by decide +kernel
theorem dX15_read_80 : decode cX15_read 80 = .ok (.aload_n 0, 1) := by decide +kernel
theorem dX15_read_81 : decode cX15_read 81 = .ok (.iload 8, 2) := by decide +kernel
theorem dX15_read_83 : decode cX15_read 83 = .ok (.iload 5, 2) := by decide +kernel
theorem dX15_read_85 : decode cX15_read 85 = .ok (.if_icmp .ne 18, 3) := by decide +kernel
theorem dX15_read_88 : decode cX15_read 88 = .ok (.lload 6, 2) := by decide +kernel
theorem dX15_read_90 : decode cX15_read 90 = .ok (.lconst 0, 1) := by decide +kernel
theorem dX15_read_91 : decode cX15_read 91 = .ok (.lcmp, 1) := by decide +kernel
theorem dX15_read_92 : decode cX15_read 92 = .ok (.ifCond .ne 7, 3) := by decide +kernel
theorem dX15_read_95 : decode cX15_read 95 = .ok (.iconst 2, 1) := by decide +kernel
theorem dX15_read_96 : decode cX15_read 96 = .ok (.goto 24, 3) := by decide +kernel
theorem dX15_read_99 : decode cX15_read 99 = .ok (.iconst 3, 1) := by decide +kernel
theorem dX15_read_100 : decode cX15_read 100 = .ok (.goto 20, 3) := by decide +kernel
theorem dX15_read_103 : decode cX15_read 103 = .ok (.iload 8, 2) := by decide +kernel
theorem dX15_read_105 : decode cX15_read 105 = .ok (.ifCond .ne 14, 3) := by decide +kernel
theorem dX15_read_108 : decode cX15_read 108 = .ok (.lload 6, 2) := by decide +kernel
theorem dX15_read_110 : decode cX15_read 110 = .ok (.lconst 0, 1) := by decide +kernel
theorem dX15_read_111 : decode cX15_read 111 = .ok (.lcmp, 1) := by decide +kernel
theorem dX15_read_112 : decode cX15_read 112 = .ok (.ifCond .ne 7, 3) := by decide +kernel
theorem dX15_read_115 : decode cX15_read 115 = .ok (.iconst 1, 1) := by decide +kernel
theorem dX15_read_116 : decode cX15_read 116 = .ok (.goto 4, 3) := by decide +kernel
theorem dX15_read_119 : decode cX15_read 119 = .ok (.iconst 0, 1) := by decide +kernel
theorem dX15_read_120 : decode cX15_read 120 = .ok (.putfield 13, 3) := by decide +kernel
theorem dX15_read_123 : decode cX15_read 123 = .ok (.aload_n 0, 1) := by decide +kernel
theorem dX15_read_124 : decode cX15_read 124 = .ok (.iload 8, 2) := by decide +kernel
theorem dX15_read_126 : decode cX15_read 126 = .ok (.ifCond .ne 8, 3) := by decide +kernel
theorem dX15_read_129 : decode cX15_read 129 = .ok (.lload 6, 2) := by decide +kernel
theorem dX15_read_131 : decode cX15_read 131 = .ok (.goto 10, 3) := by decide +kernel
theorem dX15_read_134 : decode cX15_read 134 = .ok (.lload 6, 2) := by decide +kernel
theorem dX15_read_136 : decode cX15_read 136 = .ok (.lconst 1, 1) := by decide +kernel
theorem dX15_read_137 : decode cX15_read 137 = .ok (.iload 4, 2) := by decide +kernel
theorem dX15_read_139 : decode cX15_read 139 = .ok (.lshl, 1) := by decide +kernel
theorem dX15_read_140 : decode cX15_read 140 = .ok (.lor, 1) := by decide +kernel
theorem dX15_read_141 : decode cX15_read 141 = .ok (.putfield 17, 3) := by decide +kernel
theorem dX15_read_144 : decode cX15_read 144 = .ok (.aload_n 0, 1) := by decide +kernel
theorem dX15_read_145 : decode cX15_read 145 = .ok (.iload 8, 2) := by decide +kernel
theorem dX15_read_147 : decode cX15_read 147 = .ok (.ifCond .ne 7, 3) := by decide +kernel
theorem dX15_read_150 : decode cX15_read 150 = .ok (.iconst 1, 1) := by decide +kernel
theorem dX15_read_151 : decode cX15_read 151 = .ok (.goto 5, 3) := by decide +kernel
theorem dX15_read_154 : decode cX15_read 154 = .ok (.iload 8, 2) := by decide +kernel
theorem dX15_read_156 : decode cX15_read 156 = .ok (.iload_n 1, 1) := by decide +kernel
theorem dX15_read_157 : decode cX15_read 157 = .ok (.iconst 2, 1) := by decide +kernel
theorem dX15_read_158 : decode cX15_read 158 = .ok (.if_icmp .ne 9, 3) := by decide +kernel
theorem dX15_read_161 : decode cX15_read 161 = .ok (.sipush 150, 3) := by decide +kernel
theorem dX15_read_164 : decode cX15_read 164 = .ok (.goto 6, 3) := by decide +kernel
theorem dX15_read_167 : decode cX15_read 167 = .ok (.sipush 1075, 3) := by decide +kernel
theorem dX15_read_170 : decode cX15_read 170 = .ok (.isub, 1) := by decide +kernel
theorem dX15_read_171 : decode cX15_read 171 = .ok (.putfield 21, 3) := by decide +kernel
theorem dX15_read_174 : decode cX15_read 174 = .ok (.return_, 1) := by decide +kernel
def fX15_read_b141 (h : pm_H) (x0 : Nat) (x1 : Int32) (x8 : Int32) (s0 : Int64) (s1 : Nat) : Option pm_H := if pm_kd h s1 = 15 then if x8 = 0 then (if x1 = 2 then (pm_let ((1 : Int32) - 150) fun y30 => if pm_kd (pm_setL h s1 2 s0) x0 = 15 then some (pm_setI (pm_setL h s1 2 s0) x0 3 y30) else none) else (pm_let ((1 : Int32) - 1075) fun y27 => if pm_kd (pm_setL h s1 2 s0) x0 = 15 then some (pm_setI (pm_setL h s1 2 s0) x0 3 y27) else none)) else (if x1 = 2 then (pm_let (x8 - 150) fun y23 => if pm_kd (pm_setL h s1 2 s0) x0 = 15 then some (pm_setI (pm_setL h s1 2 s0) x0 3 y23) else none) else (pm_let (x8 - 1075) fun y20 => if pm_kd (pm_setL h s1 2 s0) x0 = 15 then some (pm_setI (pm_setL h s1 2 s0) x0 3 y20) else none)) else none
def fX15_read_b120 (h : pm_H) (x0 : Nat) (x1 : Int32) (x4 : Int32) (x6 : Int64) (x8 : Int32) (s0 : Int32) (s1 : Nat) : Option pm_H := if pm_kd h s1 = 15 then if x8 = 0 then (fX15_read_b141 (pm_setI h s1 1 s0) x0 x1 x8 x6 x0) else (fX15_read_b141 (pm_setI h s1 1 s0) x0 x1 x8 (x6 ||| ((1 : Int64) <<< (x4.toInt64 &&& 63))) x0) else none
def fX15_read_b77 (h : pm_H) (x0 : Nat) (x1 : Int32) (x4 : Int32) (x5 : Int32) (x6 : Int64) (x8 : Int32) (s0 : Int32) (s1 : Nat) : Option pm_H := if pm_kd h s1 = 15 then if s0 = 0 ∨ s0 = 1 then if x8 = x5 then (if x6 = 0 then (fX15_read_b120 (pm_setI h s1 0 s0) x0 x1 x4 x6 x8 2 x0) else (fX15_read_b120 (pm_setI h s1 0 s0) x0 x1 x4 x6 x8 3 x0)) else (if x8 = 0 then (if x6 = 0 then (fX15_read_b120 (pm_setI h s1 0 s0) x0 x1 x4 x6 x8 1 x0) else (fX15_read_b120 (pm_setI h s1 0 s0) x0 x1 x4 x6 x8 0 x0)) else (fX15_read_b120 (pm_setI h s1 0 s0) x0 x1 x4 x6 x8 0 x0)) else none else none
def fX15_read_b64 (h : pm_H) (x0 : Nat) (x1 : Int32) (x4 : Int32) (x5 : Int32) (x6 : Int64) (x8 : Int32) (s0 : Int32) (s1 : Int64) (s2 : Nat) : Option pm_H := if ((s1 >>> (s0.toInt64 &&& 63)) &&& 1) = 1 then (fX15_read_b77 h x0 x1 x4 x5 x6 x8 1 s2) else (fX15_read_b77 h x0 x1 x4 x5 x6 x8 0 s2)
def fX15_read_b28 (h : pm_H) (x0 : Nat) (x1 : Int32) (x2 : Int64) (x4 : Int32) (s0 : Int32) : Option pm_H := pm_let (x2 &&& (((1 : Int64) <<< (x4.toInt64 &&& 63)) - 1)) fun y3 => pm_let (((x2 >>> (x4.toInt64 &&& 63)).toInt32) &&& s0) fun y5 => if x1 = 2 then (fX15_read_b64 h x0 x1 x4 s0 y3 y5 31 x2 x0) else (fX15_read_b64 h x0 x1 x4 s0 y3 y5 63 x2 x0)
def fX15_read_b12 (h : pm_H) (x0 : Nat) (x1 : Int32) (x2 : Int64) (s0 : Int32) : Option pm_H := if x1 = 2 then (fX15_read_b28 h x0 x1 x2 s0 255) else (fX15_read_b28 h x0 x1 x2 s0 2047)
def fX15_read (h : pm_H) (a0 : Nat) (p1 : Int32) (p2 : Int64) : Option pm_H := if p1 = 2 then (fX15_read_b12 h a0 p1 p2 23) else (fX15_read_b12 h a0 p1 p2 52)
set_option maxHeartbeats 4000000 in
set_option maxRecDepth 100000 in
theorem bX15_read_141 {g : pm_Gm} {l : Launch} {G : pm_Gl} {Qr : Option Value → pm_H → Prop} (C : pm_C g cX15_read RX15) (X : pm_X g l G mX15_read 0 0 Qr) {h : pm_H} {x0 : Nat} {x1 : Int32} {x8 : Int32} {s0 : Int64} {s1 : Nat} {r : pm_H} (hf : fX15_read_b141 h x0 x1 x8 s0 s1 = some r) (q : Qr none r) : pm_G g 141 [(0, .ref x0), (1, .int x1), (8, .int x8)] [.long s0, .ref s1] h 0 0 := by
  unfold fX15_read_b141 at hf
  obtain ⟨k17, hf⟩ := pm_if hf
  refine pm_putL C dX15_read_141 flX15_17 rfl rfl k17 ?_
  refine pm_aload_n C dX15_read_144 rfl rfl ?_
  refine pm_iload C dX15_read_145 rfl ?_
  refine pm_if_ne (tgt := 154) C dX15_read_147 (by decide) (fun c18 => ?_) (fun c18 => ?_)
  · have hf := pm_ie hf c18
    refine pm_iload C dX15_read_154 rfl ?_
    refine pm_iload_n C dX15_read_156 rfl rfl ?_
    refine pm_iconst (v := 2) C dX15_read_157 (by decide) ?_
    refine pm_icmp_ne (tgt := 167) C dX15_read_158 (by decide) (fun c19 => ?_) (fun c19 => ?_)
    · have hf := pm_ie hf c19
      refine pm_sipush (v := 1075) C dX15_read_167 (by decide) ?_
      refine pm_isub C dX15_read_170 ?_
      obtain ⟨y20, e21, hf⟩ := pm_lt hf
      refine pm_topI e21 ?_
      obtain ⟨k22, hf⟩ := pm_if hf
      refine pm_putI C dX15_read_171 flX15_21 rfl rfl k22 rfl rfl ?_
      cases hf
      exact pm_vret C X dX15_read_174 rfl (Nat.le_refl _) (Nat.le_refl _) q
    · have hf := pm_it hf c19
      refine pm_sipush (v := 150) C dX15_read_161 (by decide) ?_
      refine pm_goto (tgt := 170) C dX15_read_164 (by decide) ?_
      refine pm_isub C dX15_read_170 ?_
      obtain ⟨y23, e24, hf⟩ := pm_lt hf
      refine pm_topI e24 ?_
      obtain ⟨k25, hf⟩ := pm_if hf
      refine pm_putI C dX15_read_171 flX15_21 rfl rfl k25 rfl rfl ?_
      cases hf
      exact pm_vret C X dX15_read_174 rfl (Nat.le_refl _) (Nat.le_refl _) q
  · have hf := pm_it hf c18
    refine pm_iconst (v := 1) C dX15_read_150 (by decide) ?_
    refine pm_goto (tgt := 156) C dX15_read_151 (by decide) ?_
    refine pm_iload_n C dX15_read_156 rfl rfl ?_
    refine pm_iconst (v := 2) C dX15_read_157 (by decide) ?_
    refine pm_icmp_ne (tgt := 167) C dX15_read_158 (by decide) (fun c26 => ?_) (fun c26 => ?_)
    · have hf := pm_ie hf c26
      refine pm_sipush (v := 1075) C dX15_read_167 (by decide) ?_
      refine pm_isub C dX15_read_170 ?_
      obtain ⟨y27, e28, hf⟩ := pm_lt hf
      refine pm_topI e28 ?_
      obtain ⟨k29, hf⟩ := pm_if hf
      refine pm_putI C dX15_read_171 flX15_21 rfl rfl k29 rfl rfl ?_
      cases hf
      exact pm_vret C X dX15_read_174 rfl (Nat.le_refl _) (Nat.le_refl _) q
    · have hf := pm_it hf c26
      refine pm_sipush (v := 150) C dX15_read_161 (by decide) ?_
      refine pm_goto (tgt := 170) C dX15_read_164 (by decide) ?_
      refine pm_isub C dX15_read_170 ?_
      obtain ⟨y30, e31, hf⟩ := pm_lt hf
      refine pm_topI e31 ?_
      obtain ⟨k32, hf⟩ := pm_if hf
      refine pm_putI C dX15_read_171 flX15_21 rfl rfl k32 rfl rfl ?_
      cases hf
      exact pm_vret C X dX15_read_174 rfl (Nat.le_refl _) (Nat.le_refl _) q
set_option maxHeartbeats 4000000 in
set_option maxRecDepth 100000 in
theorem bX15_read_120 {g : pm_Gm} {l : Launch} {G : pm_Gl} {Qr : Option Value → pm_H → Prop} (C : pm_C g cX15_read RX15) (X : pm_X g l G mX15_read 0 0 Qr) {h : pm_H} {x0 : Nat} {x1 : Int32} {x4 : Int32} {x6 : Int64} {x8 : Int32} {s0 : Int32} {s1 : Nat} {r : pm_H} (hf : fX15_read_b120 h x0 x1 x4 x6 x8 s0 s1 = some r) (q : Qr none r) : pm_G g 120 [(0, .ref x0), (1, .int x1), (4, .int x4), (6, .long x6), (8, .int x8)] [.int s0, .ref s1] h 0 0 := by
  unfold fX15_read_b120 at hf
  obtain ⟨k15, hf⟩ := pm_if hf
  refine pm_putI C dX15_read_120 flX15_13 rfl rfl k15 rfl rfl ?_
  refine pm_aload_n C dX15_read_123 rfl rfl ?_
  refine pm_iload C dX15_read_124 rfl ?_
  refine pm_if_ne (tgt := 134) C dX15_read_126 (by decide) (fun c16 => ?_) (fun c16 => ?_)
  · have hf := pm_ie hf c16
    refine pm_lload C dX15_read_134 rfl ?_
    refine pm_lconst (v := 1) C dX15_read_136 (by decide) ?_
    refine pm_iload C dX15_read_137 rfl ?_
    refine pm_lshl C dX15_read_139 ?_
    refine pm_lor C dX15_read_140 ?_
    exact pm_sub [0, 1, 4] rfl (bX15_read_141 C X hf q)
  · have hf := pm_it hf c16
    refine pm_lload C dX15_read_129 rfl ?_
    refine pm_goto (tgt := 141) C dX15_read_131 (by decide) ?_
    exact pm_sub [0, 1, 4] rfl (bX15_read_141 C X hf q)
set_option maxHeartbeats 4000000 in
set_option maxRecDepth 100000 in
theorem bX15_read_77 {g : pm_Gm} {l : Launch} {G : pm_Gl} {Qr : Option Value → pm_H → Prop} (C : pm_C g cX15_read RX15) (X : pm_X g l G mX15_read 0 0 Qr) {h : pm_H} {x0 : Nat} {x1 : Int32} {x4 : Int32} {x5 : Int32} {x6 : Int64} {x8 : Int32} {s0 : Int32} {s1 : Nat} {r : pm_H} (hf : fX15_read_b77 h x0 x1 x4 x5 x6 x8 s0 s1 = some r) (q : Qr none r) : pm_G g 77 [(0, .ref x0), (1, .int x1), (4, .int x4), (5, .int x5), (6, .long x6), (8, .int x8)] [.int s0, .ref s1] h 0 0 := by
  unfold fX15_read_b77 at hf
  obtain ⟨k9, hf⟩ := pm_if hf
  obtain ⟨u10, hf⟩ := pm_if hf
  refine pm_putI C dX15_read_77 flX15_7 rfl rfl k9 (pm_b01 u10).1 (pm_b01 u10).2 ?_
  refine pm_aload_n C dX15_read_80 rfl rfl ?_
  refine pm_iload C dX15_read_81 rfl ?_
  refine pm_iload C dX15_read_83 rfl ?_
  refine pm_icmp_ne (tgt := 103) C dX15_read_85 (by decide) (fun c11 => ?_) (fun c11 => ?_)
  · have hf := pm_ie hf c11
    refine pm_iload C dX15_read_103 rfl ?_
    refine pm_if_ne (tgt := 119) C dX15_read_105 (by decide) (fun c12 => ?_) (fun c12 => ?_)
    · have hf := pm_ie hf c12
      refine pm_iconst (v := 0) C dX15_read_119 (by decide) ?_
      exact pm_sub [0, 1, 2, 4, 5] rfl (bX15_read_120 C X hf q)
    · have hf := pm_it hf c12
      refine pm_lload C dX15_read_108 rfl ?_
      refine pm_lconst (v := 0) C dX15_read_110 (by decide) ?_
      refine pm_lcmp C dX15_read_111 ?_
      refine pm_if_ne (tgt := 119) C dX15_read_112 (by decide) (fun c13 => ?_) (fun c13 => ?_)
      · have hf := pm_ie hf ((fun z => c13 ((pm_lg_eq _ _).mpr z)))
        refine pm_iconst (v := 0) C dX15_read_119 (by decide) ?_
        exact pm_sub [0, 1, 2, 4, 5] rfl (bX15_read_120 C X hf q)
      · have hf := pm_it hf ((pm_lg_eq _ _).mp c13)
        refine pm_iconst (v := 1) C dX15_read_115 (by decide) ?_
        refine pm_goto (tgt := 120) C dX15_read_116 (by decide) ?_
        exact pm_sub [0, 1, 2, 4, 5] rfl (bX15_read_120 C X hf q)
  · have hf := pm_it hf c11
    refine pm_lload C dX15_read_88 rfl ?_
    refine pm_lconst (v := 0) C dX15_read_90 (by decide) ?_
    refine pm_lcmp C dX15_read_91 ?_
    refine pm_if_ne (tgt := 99) C dX15_read_92 (by decide) (fun c14 => ?_) (fun c14 => ?_)
    · have hf := pm_ie hf ((fun z => c14 ((pm_lg_eq _ _).mpr z)))
      refine pm_iconst (v := 3) C dX15_read_99 (by decide) ?_
      refine pm_goto (tgt := 120) C dX15_read_100 (by decide) ?_
      exact pm_sub [0, 1, 2, 4, 5] rfl (bX15_read_120 C X hf q)
    · have hf := pm_it hf ((pm_lg_eq _ _).mp c14)
      refine pm_iconst (v := 2) C dX15_read_95 (by decide) ?_
      refine pm_goto (tgt := 120) C dX15_read_96 (by decide) ?_
      exact pm_sub [0, 1, 2, 4, 5] rfl (bX15_read_120 C X hf q)
set_option maxHeartbeats 4000000 in
set_option maxRecDepth 100000 in
theorem bX15_read_64 {g : pm_Gm} {l : Launch} {G : pm_Gl} {Qr : Option Value → pm_H → Prop} (C : pm_C g cX15_read RX15) (X : pm_X g l G mX15_read 0 0 Qr) {h : pm_H} {x0 : Nat} {x1 : Int32} {x4 : Int32} {x5 : Int32} {x6 : Int64} {x8 : Int32} {s0 : Int32} {s1 : Int64} {s2 : Nat} {r : pm_H} (hf : fX15_read_b64 h x0 x1 x4 x5 x6 x8 s0 s1 s2 = some r) (q : Qr none r) : pm_G g 64 [(0, .ref x0), (1, .int x1), (4, .int x4), (5, .int x5), (6, .long x6), (8, .int x8)] [.int s0, .long s1, .ref s2] h 0 0 := by
  unfold fX15_read_b64 at hf
  refine pm_lshr C dX15_read_64 ?_
  refine pm_lconst (v := 1) C dX15_read_65 (by decide) ?_
  refine pm_land C dX15_read_66 ?_
  refine pm_lconst (v := 1) C dX15_read_67 (by decide) ?_
  refine pm_lcmp C dX15_read_68 ?_
  refine pm_if_ne (tgt := 76) C dX15_read_69 (by decide) (fun c8 => ?_) (fun c8 => ?_)
  · have hf := pm_ie hf ((fun z => c8 ((pm_lg_eq _ _).mpr z)))
    refine pm_iconst (v := 0) C dX15_read_76 (by decide) ?_
    exact pm_sub [0, 1, 2, 3, 4, 5] rfl (bX15_read_77 C X hf q)
  · have hf := pm_it hf ((pm_lg_eq _ _).mp c8)
    refine pm_iconst (v := 1) C dX15_read_72 (by decide) ?_
    refine pm_goto (tgt := 77) C dX15_read_73 (by decide) ?_
    exact pm_sub [0, 1, 2, 3, 4, 5] rfl (bX15_read_77 C X hf q)
set_option maxHeartbeats 4000000 in
set_option maxRecDepth 100000 in
theorem bX15_read_28 {g : pm_Gm} {l : Launch} {G : pm_Gl} {Qr : Option Value → pm_H → Prop} (C : pm_C g cX15_read RX15) (X : pm_X g l G mX15_read 0 0 Qr) {h : pm_H} {x0 : Nat} {x1 : Int32} {x2 : Int64} {x4 : Int32} {s0 : Int32} {r : pm_H} (hf : fX15_read_b28 h x0 x1 x2 x4 s0 = some r) (q : Qr none r) : pm_G g 28 [(0, .ref x0), (1, .int x1), (2, .long x2), (4, .int x4)] [.int s0] h 0 0 := by
  unfold fX15_read_b28 at hf
  refine pm_istore (lv' := [(5, .int s0), (0, .ref x0), (1, .int x1), (2, .long x2), (4, .int x4)]) C dX15_read_28 (pm_nl X (by decide)) rfl ?_
  refine pm_lload_n C dX15_read_30 rfl rfl ?_
  refine pm_lconst (v := 1) C dX15_read_31 (by decide) ?_
  refine pm_iload C dX15_read_32 rfl ?_
  refine pm_lshl C dX15_read_34 ?_
  refine pm_lconst (v := 1) C dX15_read_35 (by decide) ?_
  refine pm_lsub C dX15_read_36 ?_
  refine pm_land C dX15_read_37 ?_
  obtain ⟨y3, e4, hf⟩ := pm_lt hf
  refine pm_topL e4 ?_
  refine pm_lstore (lv' := [(6, .long y3), (5, .int s0), (0, .ref x0), (1, .int x1), (2, .long x2), (4, .int x4)]) C dX15_read_38 (pm_nl X (by decide)) rfl ?_
  refine pm_lload_n C dX15_read_40 rfl rfl ?_
  refine pm_iload C dX15_read_41 rfl ?_
  refine pm_lshr C dX15_read_43 ?_
  refine pm_l2i C dX15_read_44 ?_
  refine pm_iload C dX15_read_45 rfl ?_
  refine pm_iand C dX15_read_47 ?_
  obtain ⟨y5, e6, hf⟩ := pm_lt hf
  refine pm_topI e6 ?_
  refine pm_istore (lv' := [(8, .int y5), (6, .long y3), (5, .int s0), (0, .ref x0), (1, .int x1), (2, .long x2), (4, .int x4)]) C dX15_read_48 (pm_nl X (by decide)) rfl ?_
  refine pm_aload_n C dX15_read_50 rfl rfl ?_
  refine pm_lload_n C dX15_read_51 rfl rfl ?_
  refine pm_iload_n C dX15_read_52 rfl rfl ?_
  refine pm_iconst (v := 2) C dX15_read_53 (by decide) ?_
  refine pm_icmp_ne (tgt := 62) C dX15_read_54 (by decide) (fun c7 => ?_) (fun c7 => ?_)
  · have hf := pm_ie hf c7
    refine pm_bipush (v := 63) C dX15_read_62 (by decide) ?_
    exact pm_sub [3, 4, 6, 2, 1, 0] rfl (bX15_read_64 C X hf q)
  · have hf := pm_it hf c7
    refine pm_bipush (v := 31) C dX15_read_57 (by decide) ?_
    refine pm_goto (tgt := 64) C dX15_read_59 (by decide) ?_
    exact pm_sub [3, 4, 6, 2, 1, 0] rfl (bX15_read_64 C X hf q)
set_option maxHeartbeats 4000000 in
set_option maxRecDepth 100000 in
theorem bX15_read_12 {g : pm_Gm} {l : Launch} {G : pm_Gl} {Qr : Option Value → pm_H → Prop} (C : pm_C g cX15_read RX15) (X : pm_X g l G mX15_read 0 0 Qr) {h : pm_H} {x0 : Nat} {x1 : Int32} {x2 : Int64} {s0 : Int32} {r : pm_H} (hf : fX15_read_b12 h x0 x1 x2 s0 = some r) (q : Qr none r) : pm_G g 12 [(0, .ref x0), (1, .int x1), (2, .long x2)] [.int s0] h 0 0 := by
  unfold fX15_read_b12 at hf
  refine pm_istore (lv' := [(4, .int s0), (0, .ref x0), (1, .int x1), (2, .long x2)]) C dX15_read_12 (pm_nl X (by decide)) rfl ?_
  refine pm_iload_n C dX15_read_14 rfl rfl ?_
  refine pm_iconst (v := 2) C dX15_read_15 (by decide) ?_
  refine pm_icmp_ne (tgt := 25) C dX15_read_16 (by decide) (fun c2 => ?_) (fun c2 => ?_)
  · have hf := pm_ie hf c2
    refine pm_sipush (v := 2047) C dX15_read_25 (by decide) ?_
    exact pm_sub [1, 2, 3, 0] rfl (bX15_read_28 C X hf q)
  · have hf := pm_it hf c2
    refine pm_sipush (v := 255) C dX15_read_19 (by decide) ?_
    refine pm_goto (tgt := 28) C dX15_read_22 (by decide) ?_
    exact pm_sub [1, 2, 3, 0] rfl (bX15_read_28 C X hf q)
set_option maxHeartbeats 4000000 in
set_option maxRecDepth 100000 in
theorem ctX15_read {l : Launch} {G : pm_Gl} {h : pm_H} {a0 : Nat} {p1 : Int32} {p2 : Int64} {r : pm_H} {Qr : Option Value → pm_H → Prop} (hf : fX15_read h a0 p1 p2 = some r) (q : Qr none r) : pm_Ct l G mX15_read [.ref a0, .int p1, .long p2] h 0 0 Qr := by
  refine pm_body pnX15 (Nat.le_of_ble_eq_true rfl) (fun g C X => ?_)
  have C : pm_C g cX15_read RX15 := C
  show pm_G g 0 [(0, .ref a0), (1, .int p1), (2, .long p2)] [] h 0 0
  unfold fX15_read at hf
  refine pm_iload_n C dX15_read_0 rfl rfl ?_
  refine pm_iconst (v := 2) C dX15_read_1 (by decide) ?_
  refine pm_icmp_ne (tgt := 10) C dX15_read_2 (by decide) (fun c1 => ?_) (fun c1 => ?_)
  · have hf := pm_ie hf c1
    refine pm_bipush (v := 52) C dX15_read_10 (by decide) ?_
    exact pm_sub [0, 1, 2] rfl (bX15_read_12 C X hf q)
  · have hf := pm_it hf c1
    refine pm_bipush (v := 23) C dX15_read_5 (by decide) ?_
    refine pm_goto (tgt := 12) C dX15_read_7 (by decide) ?_
    exact pm_sub [0, 1, 2] rfl (bX15_read_12 C X hf q)
theorem dX16_accessType_0 : decode cX16_accessType 0 = .ok (.iload_n 0, 1) := by decide +kernel
theorem dX16_accessType_1 : decode cX16_accessType 1 = .ok (.bipush 42, 2) := by decide +kernel
theorem dX16_accessType_3 : decode cX16_accessType 3 = .ok (.if_icmp .eq 9, 3) := by decide +kernel
theorem dX16_accessType_6 : decode cX16_accessType 6 = .ok (.iload_n 0, 1) := by decide +kernel
theorem dX16_accessType_7 : decode cX16_accessType 7 = .ok (.bipush 56, 2) := by decide +kernel
theorem dX16_accessType_9 : decode cX16_accessType 9 = .ok (.if_icmp .ne 6, 3) := by decide +kernel
theorem dX16_accessType_12 : decode cX16_accessType 12 = .ok (.bipush 125, 2) := by decide +kernel
theorem dX16_accessType_14 : decode cX16_accessType 14 = .ok (.ireturn, 1) := by decide +kernel
theorem dX16_accessType_15 : decode cX16_accessType 15 = .ok (.iload_n 0, 1) := by decide +kernel
theorem dX16_accessType_16 : decode cX16_accessType 16 = .ok (.bipush 43, 2) := by decide +kernel
theorem dX16_accessType_18 : decode cX16_accessType 18 = .ok (.if_icmp .eq 9, 3) := by decide +kernel
theorem dX16_accessType_21 : decode cX16_accessType 21 = .ok (.iload_n 0, 1) := by decide +kernel
theorem dX16_accessType_22 : decode cX16_accessType 22 = .ok (.bipush 57, 2) := by decide +kernel
theorem dX16_accessType_24 : decode cX16_accessType 24 = .ok (.if_icmp .ne 6, 3) := by decide +kernel
theorem dX16_accessType_27 : decode cX16_accessType 27 = .ok (.bipush 124, 2) := by decide +kernel
theorem dX16_accessType_29 : decode cX16_accessType 29 = .ok (.ireturn, 1) := by decide +kernel
theorem dX16_accessType_30 : decode cX16_accessType 30 = .ok (.iload_n 0, 1) := by decide +kernel
theorem dX16_accessType_31 : decode cX16_accessType 31 = .ok (.bipush 40, 2) := by decide +kernel
theorem dX16_accessType_33 : decode cX16_accessType 33 = .ok (.if_icmp .eq 33, 3) := by decide +kernel
theorem dX16_accessType_36 : decode cX16_accessType 36 = .ok (.iload_n 0, 1) := by decide +kernel
theorem dX16_accessType_37 : decode cX16_accessType 37 = .ok (.bipush 44, 2) := by decide +kernel
theorem dX16_accessType_39 : decode cX16_accessType 39 = .ok (.if_icmp .lt 9, 3) := by decide +kernel
theorem dX16_accessType_42 : decode cX16_accessType 42 = .ok (.iload_n 0, 1) := by decide +kernel
theorem dX16_accessType_43 : decode cX16_accessType 43 = .ok (.bipush 47, 2) := by decide +kernel
theorem dX16_accessType_45 : decode cX16_accessType 45 = .ok (.if_icmp .le 21, 3) := by decide +kernel
theorem dX16_accessType_48 : decode cX16_accessType 48 = .ok (.iload_n 0, 1) := by decide +kernel
theorem dX16_accessType_49 : decode cX16_accessType 49 = .ok (.bipush 54, 2) := by decide +kernel
theorem dX16_accessType_51 : decode cX16_accessType 51 = .ok (.if_icmp .eq 15, 3) := by decide +kernel
theorem dX16_accessType_54 : decode cX16_accessType 54 = .ok (.iload_n 0, 1) := by decide +kernel
theorem dX16_accessType_55 : decode cX16_accessType 55 = .ok (.bipush 58, 2) := by decide +kernel
theorem dX16_accessType_57 : decode cX16_accessType 57 = .ok (.if_icmp .eq 9, 3) := by decide +kernel
theorem dX16_accessType_60 : decode cX16_accessType 60 = .ok (.iload_n 0, 1) := by decide +kernel
theorem dX16_accessType_61 : decode cX16_accessType 61 = .ok (.bipush 59, 2) := by decide +kernel
theorem dX16_accessType_63 : decode cX16_accessType 63 = .ok (.if_icmp .ne 8, 3) := by decide +kernel
theorem dX16_accessType_66 : decode cX16_accessType 66 = .ok (.bipush 127, 2) := by decide +kernel
theorem dX16_accessType_68 : decode cX16_accessType 68 = .ok (.goto 5, 3) := by decide +kernel
theorem dX16_accessType_71 : decode cX16_accessType 71 = .ok (.bipush 126, 2) := by decide +kernel
theorem dX16_accessType_73 : decode cX16_accessType 73 = .ok (.ireturn, 1) := by decide +kernel
def fX16_accessType_b48 (x0 : Int32) : Int32 := if x0 = 54 then (127) else (if x0 = 58 then (127) else (if x0 = 59 then (127) else (126)))
def fX16_accessType (p1 : Int32) : Int32 := if p1 = 42 then (125) else (if p1 = 56 then (125) else (if p1 = 43 then (124) else (if p1 = 57 then (124) else (if p1 = 40 then (127) else (if p1 < 44 then (fX16_accessType_b48 p1) else (if p1 ≤ 47 then (127) else (fX16_accessType_b48 p1)))))))
set_option maxHeartbeats 4000000 in
set_option maxRecDepth 100000 in
theorem bX16_accessType_48 {g : pm_Gm} {l : Launch} {G : pm_Gl} {Qr : Option Value → pm_H → Prop} (C : pm_C g cX16_accessType RX16) (X : pm_X g l G mX16_accessType 0 0 Qr) {h : pm_H} {x0 : Int32} {r : Int32} (hf : fX16_accessType_b48 x0 = r) (q : Qr (some (.int r)) h) : pm_G g 48 [(0, .int x0)] [] h 0 0 := by
  unfold fX16_accessType_b48 at hf
  refine pm_iload_n C dX16_accessType_48 rfl rfl ?_
  refine pm_bipush (v := 54) C dX16_accessType_49 (by decide) ?_
  refine pm_icmp_eq (tgt := 66) C dX16_accessType_51 (by decide) (fun c8 => ?_) (fun c8 => ?_)
  · have hf := pm_it hf c8
    refine pm_bipush (v := 127) C dX16_accessType_66 (by decide) ?_
    refine pm_goto (tgt := 73) C dX16_accessType_68 (by decide) ?_
    subst hf
    exact pm_iret C X dX16_accessType_73 rfl (Nat.le_refl _) (Nat.le_refl _) q
  · have hf := pm_ie hf c8
    refine pm_iload_n C dX16_accessType_54 rfl rfl ?_
    refine pm_bipush (v := 58) C dX16_accessType_55 (by decide) ?_
    refine pm_icmp_eq (tgt := 66) C dX16_accessType_57 (by decide) (fun c9 => ?_) (fun c9 => ?_)
    · have hf := pm_it hf c9
      refine pm_bipush (v := 127) C dX16_accessType_66 (by decide) ?_
      refine pm_goto (tgt := 73) C dX16_accessType_68 (by decide) ?_
      subst hf
      exact pm_iret C X dX16_accessType_73 rfl (Nat.le_refl _) (Nat.le_refl _) q
    · have hf := pm_ie hf c9
      refine pm_iload_n C dX16_accessType_60 rfl rfl ?_
      refine pm_bipush (v := 59) C dX16_accessType_61 (by decide) ?_
      refine pm_icmp_ne (tgt := 71) C dX16_accessType_63 (by decide) (fun c10 => ?_) (fun c10 => ?_)
      · have hf := pm_ie hf c10
        refine pm_bipush (v := 126) C dX16_accessType_71 (by decide) ?_
        subst hf
        exact pm_iret C X dX16_accessType_73 rfl (Nat.le_refl _) (Nat.le_refl _) q
      · have hf := pm_it hf c10
        refine pm_bipush (v := 127) C dX16_accessType_66 (by decide) ?_
        refine pm_goto (tgt := 73) C dX16_accessType_68 (by decide) ?_
        subst hf
        exact pm_iret C X dX16_accessType_73 rfl (Nat.le_refl _) (Nat.le_refl _) q
set_option maxHeartbeats 4000000 in
set_option maxRecDepth 100000 in
theorem ctX16_accessType {l : Launch} {G : pm_Gl} {h : pm_H} {p1 : Int32} {r : Int32} {Qr : Option Value → pm_H → Prop} (hf : fX16_accessType p1 = r) (q : Qr (some (.int r)) h) : pm_Ct l G mX16_accessType [.int p1] h 0 0 Qr := by
  refine pm_body pnX16 (Nat.le_of_ble_eq_true rfl) (fun g C X => ?_)
  have C : pm_C g cX16_accessType RX16 := C
  show pm_G g 0 [(0, .int p1)] [] h 0 0
  unfold fX16_accessType at hf
  refine pm_iload_n C dX16_accessType_0 rfl rfl ?_
  refine pm_bipush (v := 42) C dX16_accessType_1 (by decide) ?_
  refine pm_icmp_eq (tgt := 12) C dX16_accessType_3 (by decide) (fun c1 => ?_) (fun c1 => ?_)
  · have hf := pm_it hf c1
    refine pm_bipush (v := 125) C dX16_accessType_12 (by decide) ?_
    subst hf
    exact pm_iret C X dX16_accessType_14 rfl (Nat.le_refl _) (Nat.le_refl _) q
  · have hf := pm_ie hf c1
    refine pm_iload_n C dX16_accessType_6 rfl rfl ?_
    refine pm_bipush (v := 56) C dX16_accessType_7 (by decide) ?_
    refine pm_icmp_ne (tgt := 15) C dX16_accessType_9 (by decide) (fun c2 => ?_) (fun c2 => ?_)
    · have hf := pm_ie hf c2
      refine pm_iload_n C dX16_accessType_15 rfl rfl ?_
      refine pm_bipush (v := 43) C dX16_accessType_16 (by decide) ?_
      refine pm_icmp_eq (tgt := 27) C dX16_accessType_18 (by decide) (fun c3 => ?_) (fun c3 => ?_)
      · have hf := pm_it hf c3
        refine pm_bipush (v := 124) C dX16_accessType_27 (by decide) ?_
        subst hf
        exact pm_iret C X dX16_accessType_29 rfl (Nat.le_refl _) (Nat.le_refl _) q
      · have hf := pm_ie hf c3
        refine pm_iload_n C dX16_accessType_21 rfl rfl ?_
        refine pm_bipush (v := 57) C dX16_accessType_22 (by decide) ?_
        refine pm_icmp_ne (tgt := 30) C dX16_accessType_24 (by decide) (fun c4 => ?_) (fun c4 => ?_)
        · have hf := pm_ie hf c4
          refine pm_iload_n C dX16_accessType_30 rfl rfl ?_
          refine pm_bipush (v := 40) C dX16_accessType_31 (by decide) ?_
          refine pm_icmp_eq (tgt := 66) C dX16_accessType_33 (by decide) (fun c5 => ?_) (fun c5 => ?_)
          · have hf := pm_it hf c5
            refine pm_bipush (v := 127) C dX16_accessType_66 (by decide) ?_
            refine pm_goto (tgt := 73) C dX16_accessType_68 (by decide) ?_
            subst hf
            exact pm_iret C X dX16_accessType_73 rfl (Nat.le_refl _) (Nat.le_refl _) q
          · have hf := pm_ie hf c5
            refine pm_iload_n C dX16_accessType_36 rfl rfl ?_
            refine pm_bipush (v := 44) C dX16_accessType_37 (by decide) ?_
            refine pm_icmp_lt (tgt := 48) C dX16_accessType_39 (by decide) (fun c6 => ?_) (fun c6 => ?_)
            · have hf := pm_it hf c6
              exact pm_sub [0] rfl (bX16_accessType_48 C X hf q)
            · have hf := pm_ie hf c6
              refine pm_iload_n C dX16_accessType_42 rfl rfl ?_
              refine pm_bipush (v := 47) C dX16_accessType_43 (by decide) ?_
              refine pm_icmp_le (tgt := 66) C dX16_accessType_45 (by decide) (fun c7 => ?_) (fun c7 => ?_)
              · have hf := pm_it hf c7
                refine pm_bipush (v := 127) C dX16_accessType_66 (by decide) ?_
                refine pm_goto (tgt := 73) C dX16_accessType_68 (by decide) ?_
                subst hf
                exact pm_iret C X dX16_accessType_73 rfl (Nat.le_refl _) (Nat.le_refl _) q
              · have hf := pm_ie hf c7
                exact pm_sub [0] rfl (bX16_accessType_48 C X hf q)
        · have hf := pm_it hf c4
          refine pm_bipush (v := 124) C dX16_accessType_27 (by decide) ?_
          subst hf
          exact pm_iret C X dX16_accessType_29 rfl (Nat.le_refl _) (Nat.le_refl _) q
    · have hf := pm_it hf c2
      refine pm_bipush (v := 125) C dX16_accessType_12 (by decide) ?_
      subst hf
      exact pm_iret C X dX16_accessType_14 rfl (Nat.le_refl _) (Nat.le_refl _) q
theorem dX16_areLimits_0 : decode cX16_areLimits 0 = .ok (.lload_n 2, 1) := by decide +kernel
theorem dX16_areLimits_1 : decode cX16_areLimits 1 = .ok (.lconst 0, 1) := by decide +kernel
theorem dX16_areLimits_2 : decode cX16_areLimits 2 = .ok (.lcmp, 1) := by decide +kernel
theorem dX16_areLimits_3 : decode cX16_areLimits 3 = .ok (.ifCond .lt 9, 3) := by decide +kernel
theorem dX16_areLimits_6 : decode cX16_areLimits 6 = .ok (.lload_n 0, 1) := by decide +kernel
theorem dX16_areLimits_7 : decode cX16_areLimits 7 = .ok (.lload_n 2, 1) := by decide +kernel
theorem dX16_areLimits_8 : decode cX16_areLimits 8 = .ok (.lcmp, 1) := by decide +kernel
theorem dX16_areLimits_9 : decode cX16_areLimits 9 = .ok (.ifCond .gt 28, 3) := by decide +kernel
theorem dX16_areLimits_12 : decode cX16_areLimits 12 = .ok (.iload 4, 2) := by decide +kernel
theorem dX16_areLimits_14 : decode cX16_areLimits 14 = .ok (.ifCond .eq 19, 3) := by decide +kernel
theorem dX16_areLimits_17 : decode cX16_areLimits 17 = .ok (.lload_n 0, 1) := by decide +kernel
theorem dX16_areLimits_18 : decode cX16_areLimits 18 = .ok (.ldc2_w 636, 3) := by decide +kernel
theorem dX16_areLimits_21 : decode cX16_areLimits 21 = .ok (.lcmp, 1) := by decide +kernel
theorem dX16_areLimits_22 : decode cX16_areLimits 22 = .ok (.ifCond .gt 15, 3) := by decide +kernel
theorem dX16_areLimits_25 : decode cX16_areLimits 25 = .ok (.lload_n 2, 1) := by decide +kernel
theorem dX16_areLimits_26 : decode cX16_areLimits 26 = .ok (.ldc2_w 636, 3) := by decide +kernel
theorem dX16_areLimits_29 : decode cX16_areLimits 29 = .ok (.lcmp, 1) := by decide +kernel
theorem dX16_areLimits_30 : decode cX16_areLimits 30 = .ok (.ifCond .gt 7, 3) := by decide +kernel
theorem dX16_areLimits_33 : decode cX16_areLimits 33 = .ok (.iconst 1, 1) := by decide +kernel
theorem dX16_areLimits_34 : decode cX16_areLimits 34 = .ok (.goto 4, 3) := by decide +kernel
theorem dX16_areLimits_37 : decode cX16_areLimits 37 = .ok (.iconst 0, 1) := by decide +kernel
theorem dX16_areLimits_38 : decode cX16_areLimits 38 = .ok (.ireturn, 1) := by decide +kernel
def fX16_areLimits (p1 : Int64) (p2 : Int64) (p3 : Int32) : Int32 := if p2 < 0 then (if p3 = 0 then (1) else (if 65536 < p1 then (0) else (if 65536 < p2 then (0) else (1)))) else (if p2 < p1 then (0) else (if p3 = 0 then (1) else (if 65536 < p1 then (0) else (if 65536 < p2 then (0) else (1)))))
set_option maxHeartbeats 4000000 in
set_option maxRecDepth 100000 in
theorem ctX16_areLimits {l : Launch} {G : pm_Gl} {h : pm_H} {p1 : Int64} {p2 : Int64} {p3 : Int32} {r : Int32} {Qr : Option Value → pm_H → Prop} (hf : fX16_areLimits p1 p2 p3 = r) (q : Qr (some (.int r)) h) : pm_Ct l G mX16_areLimits [.long p1, .long p2, .int p3] h 0 0 Qr := by
  refine pm_body pnX16 (Nat.le_of_ble_eq_true rfl) (fun g C X => ?_)
  have C : pm_C g cX16_areLimits RX16 := C
  show pm_G g 0 [(0, .long p1), (2, .long p2), (4, .int p3)] [] h 0 0
  unfold fX16_areLimits at hf
  refine pm_lload_n C dX16_areLimits_0 rfl rfl ?_
  refine pm_lconst (v := 0) C dX16_areLimits_1 (by decide) ?_
  refine pm_lcmp C dX16_areLimits_2 ?_
  refine pm_if_lt (tgt := 12) C dX16_areLimits_3 (by decide) (fun c1 => ?_) (fun c1 => ?_)
  · have hf := pm_it hf ((pm_lg_lt _ _).mp c1)
    refine pm_iload C dX16_areLimits_12 rfl ?_
    refine pm_if_eq (tgt := 33) C dX16_areLimits_14 (by decide) (fun c2 => ?_) (fun c2 => ?_)
    · have hf := pm_it hf c2
      refine pm_iconst (v := 1) C dX16_areLimits_33 (by decide) ?_
      refine pm_goto (tgt := 38) C dX16_areLimits_34 (by decide) ?_
      subst hf
      exact pm_zret C X dX16_areLimits_38 rfl (by decide) (Nat.le_refl _) (Nat.le_refl _) q
    · have hf := pm_ie hf c2
      refine pm_lload_n C dX16_areLimits_17 rfl rfl ?_
      refine pm_ldc2 C dX16_areLimits_18 cnX16_636 ?_
      refine pm_lcmp C dX16_areLimits_21 ?_
      refine pm_if_gt (tgt := 37) C dX16_areLimits_22 (by decide) (fun c3 => ?_) (fun c3 => ?_)
      · have hf := pm_it hf ((pm_lg_gt _ _).mp c3)
        refine pm_iconst (v := 0) C dX16_areLimits_37 (by decide) ?_
        subst hf
        exact pm_zret C X dX16_areLimits_38 rfl (by decide) (Nat.le_refl _) (Nat.le_refl _) q
      · have hf := pm_ie hf ((fun z => c3 ((pm_lg_gt _ _).mpr z)))
        refine pm_lload_n C dX16_areLimits_25 rfl rfl ?_
        refine pm_ldc2 C dX16_areLimits_26 cnX16_636 ?_
        refine pm_lcmp C dX16_areLimits_29 ?_
        refine pm_if_gt (tgt := 37) C dX16_areLimits_30 (by decide) (fun c4 => ?_) (fun c4 => ?_)
        · have hf := pm_it hf ((pm_lg_gt _ _).mp c4)
          refine pm_iconst (v := 0) C dX16_areLimits_37 (by decide) ?_
          subst hf
          exact pm_zret C X dX16_areLimits_38 rfl (by decide) (Nat.le_refl _) (Nat.le_refl _) q
        · have hf := pm_ie hf ((fun z => c4 ((pm_lg_gt _ _).mpr z)))
          refine pm_iconst (v := 1) C dX16_areLimits_33 (by decide) ?_
          refine pm_goto (tgt := 38) C dX16_areLimits_34 (by decide) ?_
          subst hf
          exact pm_zret C X dX16_areLimits_38 rfl (by decide) (Nat.le_refl _) (Nat.le_refl _) q
  · have hf := pm_ie hf ((fun z => c1 ((pm_lg_lt _ _).mpr z)))
    refine pm_lload_n C dX16_areLimits_6 rfl rfl ?_
    refine pm_lload_n C dX16_areLimits_7 rfl rfl ?_
    refine pm_lcmp C dX16_areLimits_8 ?_
    refine pm_if_gt (tgt := 37) C dX16_areLimits_9 (by decide) (fun c5 => ?_) (fun c5 => ?_)
    · have hf := pm_it hf ((pm_lg_gt _ _).mp c5)
      refine pm_iconst (v := 0) C dX16_areLimits_37 (by decide) ?_
      subst hf
      exact pm_zret C X dX16_areLimits_38 rfl (by decide) (Nat.le_refl _) (Nat.le_refl _) q
    · have hf := pm_ie hf ((fun z => c5 ((pm_lg_gt _ _).mpr z)))
      refine pm_iload C dX16_areLimits_12 rfl ?_
      refine pm_if_eq (tgt := 33) C dX16_areLimits_14 (by decide) (fun c6 => ?_) (fun c6 => ?_)
      · have hf := pm_it hf c6
        refine pm_iconst (v := 1) C dX16_areLimits_33 (by decide) ?_
        refine pm_goto (tgt := 38) C dX16_areLimits_34 (by decide) ?_
        subst hf
        exact pm_zret C X dX16_areLimits_38 rfl (by decide) (Nat.le_refl _) (Nat.le_refl _) q
      · have hf := pm_ie hf c6
        refine pm_lload_n C dX16_areLimits_17 rfl rfl ?_
        refine pm_ldc2 C dX16_areLimits_18 cnX16_636 ?_
        refine pm_lcmp C dX16_areLimits_21 ?_
        refine pm_if_gt (tgt := 37) C dX16_areLimits_22 (by decide) (fun c7 => ?_) (fun c7 => ?_)
        · have hf := pm_it hf ((pm_lg_gt _ _).mp c7)
          refine pm_iconst (v := 0) C dX16_areLimits_37 (by decide) ?_
          subst hf
          exact pm_zret C X dX16_areLimits_38 rfl (by decide) (Nat.le_refl _) (Nat.le_refl _) q
        · have hf := pm_ie hf ((fun z => c7 ((pm_lg_gt _ _).mpr z)))
          refine pm_lload_n C dX16_areLimits_25 rfl rfl ?_
          refine pm_ldc2 C dX16_areLimits_26 cnX16_636 ?_
          refine pm_lcmp C dX16_areLimits_29 ?_
          refine pm_if_gt (tgt := 37) C dX16_areLimits_30 (by decide) (fun c8 => ?_) (fun c8 => ?_)
          · have hf := pm_it hf ((pm_lg_gt _ _).mp c8)
            refine pm_iconst (v := 0) C dX16_areLimits_37 (by decide) ?_
            subst hf
            exact pm_zret C X dX16_areLimits_38 rfl (by decide) (Nat.le_refl _) (Nat.le_refl _) q
          · have hf := pm_ie hf ((fun z => c8 ((pm_lg_gt _ _).mpr z)))
            refine pm_iconst (v := 1) C dX16_areLimits_33 (by decide) ?_
            refine pm_goto (tgt := 38) C dX16_areLimits_34 (by decide) ?_
            subst hf
            exact pm_zret C X dX16_areLimits_38 rfl (by decide) (Nat.le_refl _) (Nat.le_refl _) q
theorem dX16_argument_0 : decode cX16_argument 0 = .ok (.aload_n 0, 1) := by decide +kernel
theorem dX16_argument_1 : decode cX16_argument 1 = .ok (.getfield 1069, 3) := by decide +kernel
theorem dX16_argument_4 : decode cX16_argument 4 = .ok (.bipush 16, 2) := by decide +kernel
theorem dX16_argument_6 : decode cX16_argument 6 = .ok (.if_icmp .ne 5, 3) := by decide +kernel
theorem dX16_argument_9 : decode cX16_argument 9 = .ok (.iconst (-1), 1) := by decide +kernel
theorem dX16_argument_10 : decode cX16_argument 10 = .ok (.ireturn, 1) := by decide +kernel
theorem dX16_argument_11 : decode cX16_argument 11 = .ok (.aload_n 0, 1) := by decide +kernel
theorem dX16_argument_12 : decode cX16_argument 12 = .ok (.getfield 167, 3) := by decide +kernel
theorem dX16_argument_15 : decode cX16_argument 15 = .ok (.aload_n 0, 1) := by decide +kernel
theorem dX16_argument_16 : decode cX16_argument 16 = .ok (.getfield 1069, 3) := by decide +kernel
theorem dX16_argument_19 : decode cX16_argument 19 = .ok (.lload_n 1, 1) := by decide +kernel
theorem dX16_argument_20 : decode cX16_argument 20 = .ok (.lastore, 1) := by decide +kernel
theorem dX16_argument_21 : decode cX16_argument 21 = .ok (.aload_n 0, 1) := by decide +kernel
theorem dX16_argument_22 : decode cX16_argument 22 = .ok (.dup, 1) := by decide +kernel
theorem dX16_argument_23 : decode cX16_argument 23 = .ok (.getfield 1069, 3) := by decide +kernel
theorem dX16_argument_26 : decode cX16_argument 26 = .ok (.iconst 1, 1) := by decide +kernel
theorem dX16_argument_27 : decode cX16_argument 27 = .ok (.iadd, 1) := by decide +kernel
theorem dX16_argument_28 : decode cX16_argument 28 = .ok (.putfield 1069, 3) := by decide +kernel
theorem dX16_argument_31 : decode cX16_argument 31 = .ok (.aload_n 0, 1) := by decide +kernel
theorem dX16_argument_32 : decode cX16_argument 32 = .ok (.getfield 1069, 3) := by decide +kernel
theorem dX16_argument_35 : decode cX16_argument 35 = .ok (.ireturn, 1) := by decide +kernel
def fX16_argument (h : pm_H) (a0 : Nat) (p1 : Int64) : Option (Int32 × pm_H) := if pm_kd h a0 = 16 then if (pm_I h a0 81) = 16 then (some (((-1), h))) else ((pm_R h a0 82).bind fun v3 => if pm_kd h v3 = 35 then if pm_in (pm_I h a0 81) (pm_ln h v3) then pm_let ((pm_I (pm_setL h v3 ((pm_I h a0 81).toNatClampNeg) p1) a0 81) + 1) fun y7 => some ((pm_I (pm_setI (pm_setL h v3 ((pm_I h a0 81).toNatClampNeg) p1) a0 81 y7) a0 81, pm_setI (pm_setL h v3 ((pm_I h a0 81).toNatClampNeg) p1) a0 81 y7)) else none else none) else none
set_option maxHeartbeats 4000000 in
set_option maxRecDepth 100000 in
theorem ctX16_argument {l : Launch} {G : pm_Gl} {h : pm_H} {a0 : Nat} {p1 : Int64} {r : (Int32 × pm_H)} {Qr : Option Value → pm_H → Prop} (hf : fX16_argument h a0 p1 = some r) (q : Qr (some (.int r.1)) r.2) : pm_Ct l G mX16_argument [.ref a0, .long p1] h 0 0 Qr := by
  refine pm_body pnX16 (Nat.le_of_ble_eq_true rfl) (fun g C X => ?_)
  have C : pm_C g cX16_argument RX16 := C
  show pm_G g 0 [(0, .ref a0), (1, .long p1)] [] h 0 0
  unfold fX16_argument at hf
  refine pm_aload_n C dX16_argument_0 rfl rfl ?_
  obtain ⟨k1, hf⟩ := pm_if hf
  refine pm_getI C dX16_argument_1 flX16_1069 rfl k1 rfl ?_
  refine pm_bipush (v := 16) C dX16_argument_4 (by decide) ?_
  refine pm_icmp_ne (tgt := 11) C dX16_argument_6 (by decide) (fun c2 => ?_) (fun c2 => ?_)
  · have hf := pm_ie hf c2
    refine pm_aload_n C dX16_argument_11 rfl rfl ?_
    obtain ⟨v3, e4, hf⟩ := pm_bd hf
    refine pm_getR C dX16_argument_12 flX16_167 rfl k1 e4 ?_
    refine pm_aload_n C dX16_argument_15 rfl rfl ?_
    refine pm_getI C dX16_argument_16 flX16_1069 rfl k1 rfl ?_
    refine pm_lload_n C dX16_argument_19 rfl rfl ?_
    obtain ⟨k5, hf⟩ := pm_if hf
    obtain ⟨u6, hf⟩ := pm_if hf
    refine pm_last C dX16_argument_20 k5 u6 ?_
    refine pm_aload_n C dX16_argument_21 rfl rfl ?_
    refine pm_dup C dX16_argument_22 rfl ?_
    refine pm_getI C dX16_argument_23 flX16_1069 rfl k1 rfl ?_
    refine pm_iconst (v := 1) C dX16_argument_26 (by decide) ?_
    refine pm_iadd C dX16_argument_27 ?_
    obtain ⟨y7, e8, hf⟩ := pm_lt hf
    refine pm_topI e8 ?_
    refine pm_putI C dX16_argument_28 flX16_1069 rfl rfl k1 rfl rfl ?_
    refine pm_aload_n C dX16_argument_31 rfl rfl ?_
    refine pm_getI C dX16_argument_32 flX16_1069 rfl k1 rfl ?_
    cases hf
    exact pm_iret C X dX16_argument_35 rfl (Nat.le_refl _) (Nat.le_refl _) q
  · have hf := pm_it hf c2
    refine pm_iconst (v := (-1)) C dX16_argument_9 (by decide) ?_
    cases hf
    exact pm_iret C X dX16_argument_10 rfl (Nat.le_refl _) (Nat.le_refl _) q
theorem dX16_branches_0 : decode cX16_branches 0 = .ok (.aload_n 0, 1) := by decide +kernel
theorem dX16_branches_1 : decode cX16_branches 1 = .ok (.getfield 1086, 3) := by decide +kernel
theorem dX16_branches_4 : decode cX16_branches 4 = .ok (.iconst 1, 1) := by decide +kernel
theorem dX16_branches_5 : decode cX16_branches 5 = .ok (.isub, 1) := by decide +kernel
theorem dX16_branches_6 : decode cX16_branches 6 = .ok (.iload_n 1, 1) := by decide +kernel
theorem dX16_branches_7 : decode cX16_branches 7 = .ok (.isub, 1) := by decide +kernel
theorem dX16_branches_8 : decode cX16_branches 8 = .ok (.istore_n 2, 1) := by decide +kernel
theorem dX16_branches_9 : decode cX16_branches 9 = .ok (.aload_n 0, 1) := by decide +kernel
theorem dX16_branches_10 : decode cX16_branches 10 = .ok (.getfield 201, 3) := by decide +kernel
theorem dX16_branches_13 : decode cX16_branches 13 = .ok (.iload_n 2, 1) := by decide +kernel
theorem dX16_branches_14 : decode cX16_branches 14 = .ok (.iaload, 1) := by decide +kernel
theorem dX16_branches_15 : decode cX16_branches 15 = .ok (.istore_n 3, 1) := by decide +kernel
theorem dX16_branches_16 : decode cX16_branches 16 = .ok (.aload_n 0, 1) := by decide +kernel
theorem dX16_branches_17 : decode cX16_branches 17 = .ok (.getfield 1104, 3) := by decide +kernel
theorem dX16_branches_20 : decode cX16_branches 20 = .ok (.iload_n 3, 1) := by decide +kernel
theorem dX16_branches_21 : decode cX16_branches 21 = .ok (.isub, 1) := by decide +kernel
theorem dX16_branches_22 : decode cX16_branches 22 = .ok (.istore 4, 2) := by decide +kernel
theorem dX16_branches_24 : decode cX16_branches 24 = .ok (.iconst 0, 1) := by decide +kernel
theorem dX16_branches_25 : decode cX16_branches 25 = .ok (.istore 5, 2) := by decide +kernel
theorem dX16_branches_27 : decode cX16_branches 27 = .ok (.iload 5, 2) := by decide +kernel
theorem dX16_branches_29 : decode cX16_branches 29 = .ok (.iload_n 3, 1) := by decide +kernel
theorem dX16_branches_30 : decode cX16_branches 30 = .ok (.if_icmp .ge 33, 3) := by decide +kernel
theorem dX16_branches_33 : decode cX16_branches 33 = .ok (.aload_n 0, 1) := by decide +kernel
theorem dX16_branches_34 : decode cX16_branches 34 = .ok (.getfield 191, 3) := by decide +kernel
theorem dX16_branches_37 : decode cX16_branches 37 = .ok (.aload_n 0, 1) := by decide +kernel
theorem dX16_branches_38 : decode cX16_branches 38 = .ok (.getfield 198, 3) := by decide +kernel
theorem dX16_branches_41 : decode cX16_branches 41 = .ok (.iload_n 2, 1) := by decide +kernel
theorem dX16_branches_42 : decode cX16_branches 42 = .ok (.iaload, 1) := by decide +kernel
theorem dX16_branches_43 : decode cX16_branches 43 = .ok (.iload 5, 2) := by decide +kernel
theorem dX16_branches_45 : decode cX16_branches 45 = .ok (.iadd, 1) := by decide +kernel
theorem dX16_branches_46 : decode cX16_branches 46 = .ok (.aload_n 0, 1) := by decide +kernel
theorem dX16_branches_47 : decode cX16_branches 47 = .ok (.getfield 191, 3) := by decide +kernel
theorem dX16_branches_50 : decode cX16_branches 50 = .ok (.iload 4, 2) := by decide +kernel
theorem dX16_branches_52 : decode cX16_branches 52 = .ok (.iload 5, 2) := by decide +kernel
theorem dX16_branches_54 : decode cX16_branches 54 = .ok (.iadd, 1) := by decide +kernel
theorem dX16_branches_55 : decode cX16_branches 55 = .ok (.laload, 1) := by decide +kernel
theorem dX16_branches_56 : decode cX16_branches 56 = .ok (.lastore, 1) := by decide +kernel
theorem dX16_branches_57 : decode cX16_branches 57 = .ok (.iinc 5 1, 3) := by decide +kernel
theorem dX16_branches_60 : decode cX16_branches 60 = .ok (.goto (-33), 3) := by decide +kernel
theorem dX16_branches_63 : decode cX16_branches 63 = .ok (.aload_n 0, 1) := by decide +kernel
theorem dX16_branches_64 : decode cX16_branches 64 = .ok (.aload_n 0, 1) := by decide +kernel
theorem dX16_branches_65 : decode cX16_branches 65 = .ok (.getfield 198, 3) := by decide +kernel
theorem dX16_branches_68 : decode cX16_branches 68 = .ok (.iload_n 2, 1) := by decide +kernel
theorem dX16_branches_69 : decode cX16_branches 69 = .ok (.iaload, 1) := by decide +kernel
theorem dX16_branches_70 : decode cX16_branches 70 = .ok (.iload_n 3, 1) := by decide +kernel
theorem dX16_branches_71 : decode cX16_branches 71 = .ok (.iadd, 1) := by decide +kernel
theorem dX16_branches_72 : decode cX16_branches 72 = .ok (.putfield 1104, 3) := by decide +kernel
theorem dX16_branches_75 : decode cX16_branches 75 = .ok (.aload_n 0, 1) := by decide +kernel
theorem dX16_branches_76 : decode cX16_branches 76 = .ok (.aload_n 0, 1) := by decide +kernel
theorem dX16_branches_77 : decode cX16_branches 77 = .ok (.getfield 195, 3) := by decide +kernel
theorem dX16_branches_80 : decode cX16_branches 80 = .ok (.iload_n 2, 1) := by decide +kernel
theorem dX16_branches_81 : decode cX16_branches 81 = .ok (.iaload, 1) := by decide +kernel
theorem dX16_branches_82 : decode cX16_branches 82 = .ok (.putfield 1107, 3) := by decide +kernel
theorem dX16_branches_85 : decode cX16_branches 85 = .ok (.aload_n 0, 1) := by decide +kernel
theorem dX16_branches_86 : decode cX16_branches 86 = .ok (.aload_n 0, 1) := by decide +kernel
theorem dX16_branches_87 : decode cX16_branches 87 = .ok (.getfield 204, 3) := by decide +kernel
theorem dX16_branches_90 : decode cX16_branches 90 = .ok (.iload_n 2, 1) := by decide +kernel
theorem dX16_branches_91 : decode cX16_branches 91 = .ok (.baload, 1) := by decide +kernel
theorem dX16_branches_92 : decode cX16_branches 92 = .ok (.ifCond .eq 9, 3) := by decide +kernel
theorem dX16_branches_95 : decode cX16_branches 95 = .ok (.iload_n 2, 1) := by decide +kernel
theorem dX16_branches_96 : decode cX16_branches 96 = .ok (.iconst 1, 1) := by decide +kernel
theorem dX16_branches_97 : decode cX16_branches 97 = .ok (.iadd, 1) := by decide +kernel
theorem dX16_branches_98 : decode cX16_branches 98 = .ok (.goto 4, 3) := by decide +kernel
theorem dX16_branches_101 : decode cX16_branches 101 = .ok (.iload_n 2, 1) := by decide +kernel
theorem dX16_branches_102 : decode cX16_branches 102 = .ok (.putfield 1086, 3) := by decide +kernel
theorem dX16_branches_105 : decode cX16_branches 105 = .ok (.return_, 1) := by decide +kernel
def tX16_branches_27 (x0 : Nat) (x2 : Int32) (x3 : Int32) (x4 : Int32) (x5 : Int32) (h : pm_H) : Option (((Nat × Int32 × Int32 × Int32 × Int32 × pm_H)) ⊕ pm_H) := if x3 ≤ x5 then (if pm_kd h x0 = 16 then (pm_R h x0 98).bind fun v14 => if pm_kd h v14 = 34 then if pm_in x2 (pm_ln h v14) then pm_let ((pm_I h v14 x2.toNatClampNeg) + x3) fun y18 => (pm_R (pm_setI h x0 93 y18) x0 97).bind fun v20 => if pm_kd (pm_setI h x0 93 y18) v20 = 34 then if pm_in x2 (pm_ln (pm_setI h x0 93 y18) v20) then pm_let (pm_I (pm_setI h x0 93 y18) v20 x2.toNatClampNeg) fun y24 => (pm_R (pm_setI (pm_setI h x0 93 y18) x0 94 y24) x0 100).bind fun v26 => if pm_kd (pm_setI (pm_setI h x0 93 y18) x0 94 y24) v26 = 32 then if pm_in x2 (pm_ln (pm_setI (pm_setI h x0 93 y18) x0 94 y24) v26) then if (pm_I (pm_setI (pm_setI h x0 93 y18) x0 94 y24) v26 x2.toNatClampNeg) = 0 then (some (.inr (pm_setI (pm_setI (pm_setI h x0 93 y18) x0 94 y24) x0 96 x2))) else (pm_let (x2 + 1) fun y31 => some (.inr (pm_setI (pm_setI (pm_setI h x0 93 y18) x0 94 y24) x0 96 y31))) else none else none else none else none else none else none else none) else (if pm_kd h x0 = 16 then (pm_R h x0 92).bind fun v34 => (pm_R h x0 98).bind fun v36 => if pm_kd h v36 = 34 then if pm_in x2 (pm_ln h v36) then pm_let (x4 + x5) fun y40 => if pm_kd h v34 = 35 then if pm_in y40 (pm_ln h v34) then pm_let (pm_L h v34 y40.toNatClampNeg) fun y44 => if pm_in ((pm_I h v36 x2.toNatClampNeg) + x5) (pm_ln h v34) then pm_let (x5 + 1) fun y47 => some (.inl ((x0, x2, x3, x4, y47, pm_setL h v34 (((pm_I h v36 x2.toNatClampNeg) + x5).toNatClampNeg) y44))) else none else none else none else none else none else none)
def sX16_branches : ((Nat × Int32 × Int32 × Int32 × Int32 × pm_H)) → Option (((Nat × Int32 × Int32 × Int32 × Int32 × pm_H)) ⊕ pm_H) := fun z => match z with
  | (x0, x2, x3, x4, x5, h) => tX16_branches_27 x0 x2 x3 x4 x5 h
noncomputable def fX16_branches (h : pm_H) (a0 : Nat) (p1 : Int32) : Option pm_H := if pm_kd h a0 = 16 then pm_let (((pm_I h a0 96) - 1) - p1) fun y2 => (pm_R h a0 99).bind fun v4 => if pm_kd h v4 = 34 then if pm_in y2 (pm_ln h v4) then pm_let (pm_I h v4 y2.toNatClampNeg) fun y8 => pm_let ((pm_I h a0 93) - y8) fun y10 => pm_lim sX16_branches ((a0, y2, y8, y10, 0, h)) else none else none else none
set_option maxHeartbeats 4000000 in
set_option maxRecDepth 100000 in
theorem lpX16_branches {g : pm_Gm} {l : Launch} {G : pm_Gl} {Qr : Option Value → pm_H → Prop} (C : pm_C g cX16_branches RX16) (X : pm_X g l G mX16_branches 0 0 Qr) {r : pm_H} (q : Qr none r) : ∀ n : Nat, (∀ (x0 : Nat) (x2 : Int32) (x3 : Int32) (x4 : Int32) (x5 : Int32) (h : pm_H), pm_iter sX16_branches n (x0, x2, x3, x4, x5, h) = some r → pm_G g 27 [(0, .ref x0), (2, .int x2), (3, .int x3), (4, .int x4), (5, .int x5)] [] h 0 0) := by
  intro n
  induction n with
  | zero => exact fun _ _ _ _ _ _ hf => (by cases hf)
  | succ n ih =>
    refine fun x0 x2 x3 x4 x5 h hf => ?_
    obtain ⟨y, hf, hi⟩ := pm_iter_s hf
    have hf : tX16_branches_27 x0 x2 x3 x4 x5 h = some y := hf
    unfold tX16_branches_27 at hf
    refine pm_iload C dX16_branches_27 rfl ?_
    refine pm_iload_n C dX16_branches_29 rfl rfl ?_
    refine pm_icmp_ge (tgt := 63) C dX16_branches_30 (by decide) (fun c12 => ?_) (fun c12 => ?_)
    · have hf := pm_it hf c12
      refine pm_aload_n C dX16_branches_63 rfl rfl ?_
      refine pm_aload_n C dX16_branches_64 rfl rfl ?_
      obtain ⟨k13, hf⟩ := pm_if hf
      obtain ⟨v14, e15, hf⟩ := pm_bd hf
      refine pm_getR C dX16_branches_65 flX16_198 rfl k13 e15 ?_
      refine pm_iload_n C dX16_branches_68 rfl rfl ?_
      obtain ⟨k16, hf⟩ := pm_if hf
      obtain ⟨u17, hf⟩ := pm_if hf
      refine pm_iald C dX16_branches_69 k16 u17 rfl ?_
      refine pm_iload_n C dX16_branches_70 rfl rfl ?_
      refine pm_iadd C dX16_branches_71 ?_
      obtain ⟨y18, e19, hf⟩ := pm_lt hf
      refine pm_topI e19 ?_
      refine pm_putI C dX16_branches_72 flX16_1104 rfl rfl k13 rfl rfl ?_
      refine pm_aload_n C dX16_branches_75 rfl rfl ?_
      refine pm_aload_n C dX16_branches_76 rfl rfl ?_
      obtain ⟨v20, e21, hf⟩ := pm_bd hf
      refine pm_getR C dX16_branches_77 flX16_195 rfl k13 e21 ?_
      refine pm_iload_n C dX16_branches_80 rfl rfl ?_
      obtain ⟨k22, hf⟩ := pm_if hf
      obtain ⟨u23, hf⟩ := pm_if hf
      refine pm_iald C dX16_branches_81 k22 u23 rfl ?_
      obtain ⟨y24, e25, hf⟩ := pm_lt hf
      refine pm_topI e25 ?_
      refine pm_putI C dX16_branches_82 flX16_1107 rfl rfl k13 rfl rfl ?_
      refine pm_aload_n C dX16_branches_85 rfl rfl ?_
      refine pm_aload_n C dX16_branches_86 rfl rfl ?_
      obtain ⟨v26, e27, hf⟩ := pm_bd hf
      refine pm_getR C dX16_branches_87 flX16_204 rfl k13 e27 ?_
      refine pm_iload_n C dX16_branches_90 rfl rfl ?_
      obtain ⟨k28, hf⟩ := pm_if hf
      obtain ⟨u29, hf⟩ := pm_if hf
      refine pm_zald C dX16_branches_91 k28 u29 rfl ?_
      refine pm_if_eq (tgt := 101) C dX16_branches_92 (by decide) (fun c30 => ?_) (fun c30 => ?_)
      · have hf := pm_it hf c30
        refine pm_iload_n C dX16_branches_101 rfl rfl ?_
        refine pm_putI C dX16_branches_102 flX16_1086 rfl rfl k13 rfl rfl ?_
        cases hf
        cases hi
        exact pm_vret C X dX16_branches_105 rfl (Nat.le_refl _) (Nat.le_refl _) q
      · have hf := pm_ie hf c30
        refine pm_iload_n C dX16_branches_95 rfl rfl ?_
        refine pm_iconst (v := 1) C dX16_branches_96 (by decide) ?_
        refine pm_iadd C dX16_branches_97 ?_
        refine pm_goto (tgt := 102) C dX16_branches_98 (by decide) ?_
        obtain ⟨y31, e32, hf⟩ := pm_lt hf
        refine pm_topI e32 ?_
        refine pm_putI C dX16_branches_102 flX16_1086 rfl rfl k13 rfl rfl ?_
        cases hf
        cases hi
        exact pm_vret C X dX16_branches_105 rfl (Nat.le_refl _) (Nat.le_refl _) q
    · have hf := pm_ie hf c12
      refine pm_aload_n C dX16_branches_33 rfl rfl ?_
      obtain ⟨k33, hf⟩ := pm_if hf
      obtain ⟨v34, e35, hf⟩ := pm_bd hf
      refine pm_getR C dX16_branches_34 flX16_191 rfl k33 e35 ?_
      refine pm_aload_n C dX16_branches_37 rfl rfl ?_
      obtain ⟨v36, e37, hf⟩ := pm_bd hf
      refine pm_getR C dX16_branches_38 flX16_198 rfl k33 e37 ?_
      refine pm_iload_n C dX16_branches_41 rfl rfl ?_
      obtain ⟨k38, hf⟩ := pm_if hf
      obtain ⟨u39, hf⟩ := pm_if hf
      refine pm_iald C dX16_branches_42 k38 u39 rfl ?_
      refine pm_iload C dX16_branches_43 rfl ?_
      refine pm_iadd C dX16_branches_45 ?_
      refine pm_aload_n C dX16_branches_46 rfl rfl ?_
      refine pm_getR C dX16_branches_47 flX16_191 rfl k33 e35 ?_
      refine pm_iload C dX16_branches_50 rfl ?_
      refine pm_iload C dX16_branches_52 rfl ?_
      refine pm_iadd C dX16_branches_54 ?_
      obtain ⟨y40, e41, hf⟩ := pm_lt hf
      refine pm_topI e41 ?_
      obtain ⟨k42, hf⟩ := pm_if hf
      obtain ⟨u43, hf⟩ := pm_if hf
      refine pm_lald C dX16_branches_55 k42 u43 rfl ?_
      obtain ⟨y44, e45, hf⟩ := pm_lt hf
      refine pm_topL e45 ?_
      obtain ⟨u46, hf⟩ := pm_if hf
      refine pm_last C dX16_branches_56 k42 u46 ?_
      obtain ⟨y47, e48, hf⟩ := pm_lt hf
      refine pm_iinc (v := y47) (lv' := [(5, .int y47), (0, .ref x0), (2, .int x2), (3, .int x3), (4, .int x4)]) C dX16_branches_57 rfl ((congrArg (x5 + ·) (by decide : Int32.ofInt 1 = 1)).trans e48) (pm_nl X (by decide)) rfl ?_
      refine pm_goto (tgt := 27) C dX16_branches_60 (by decide) ?_
      cases hf
      exact pm_sub [1, 2, 3, 4, 0] rfl (ih x0 x2 x3 x4 y47 (pm_setL h v34 (((pm_I h v36 x2.toNatClampNeg) + x5).toNatClampNeg) y44) hi)
set_option maxHeartbeats 4000000 in
set_option maxRecDepth 100000 in
theorem ctX16_branches {l : Launch} {G : pm_Gl} {h : pm_H} {a0 : Nat} {p1 : Int32} {r : pm_H} {Qr : Option Value → pm_H → Prop} (hf : fX16_branches h a0 p1 = some r) (q : Qr none r) : pm_Ct l G mX16_branches [.ref a0, .int p1] h 0 0 Qr := by
  refine pm_body pnX16 (Nat.le_of_ble_eq_true rfl) (fun g C X => ?_)
  have C : pm_C g cX16_branches RX16 := C
  show pm_G g 0 [(0, .ref a0), (1, .int p1)] [] h 0 0
  unfold fX16_branches at hf
  refine pm_aload_n C dX16_branches_0 rfl rfl ?_
  obtain ⟨k1, hf⟩ := pm_if hf
  refine pm_getI C dX16_branches_1 flX16_1086 rfl k1 rfl ?_
  refine pm_iconst (v := 1) C dX16_branches_4 (by decide) ?_
  refine pm_isub C dX16_branches_5 ?_
  refine pm_iload_n C dX16_branches_6 rfl rfl ?_
  refine pm_isub C dX16_branches_7 ?_
  obtain ⟨y2, e3, hf⟩ := pm_lt hf
  refine pm_topI e3 ?_
  refine pm_istore_n (lv' := [(2, .int y2), (0, .ref a0), (1, .int p1)]) C dX16_branches_8 rfl (pm_nl X (by decide)) rfl ?_
  refine pm_aload_n C dX16_branches_9 rfl rfl ?_
  obtain ⟨v4, e5, hf⟩ := pm_bd hf
  refine pm_getR C dX16_branches_10 flX16_201 rfl k1 e5 ?_
  refine pm_iload_n C dX16_branches_13 rfl rfl ?_
  obtain ⟨k6, hf⟩ := pm_if hf
  obtain ⟨u7, hf⟩ := pm_if hf
  refine pm_iald C dX16_branches_14 k6 u7 rfl ?_
  obtain ⟨y8, e9, hf⟩ := pm_lt hf
  refine pm_topI e9 ?_
  refine pm_istore_n (lv' := [(3, .int y8), (2, .int y2), (0, .ref a0), (1, .int p1)]) C dX16_branches_15 rfl (pm_nl X (by decide)) rfl ?_
  refine pm_aload_n C dX16_branches_16 rfl rfl ?_
  refine pm_getI C dX16_branches_17 flX16_1104 rfl k1 rfl ?_
  refine pm_iload_n C dX16_branches_20 rfl rfl ?_
  refine pm_isub C dX16_branches_21 ?_
  obtain ⟨y10, e11, hf⟩ := pm_lt hf
  refine pm_topI e11 ?_
  refine pm_istore (lv' := [(4, .int y10), (3, .int y8), (2, .int y2), (0, .ref a0), (1, .int p1)]) C dX16_branches_22 (pm_nl X (by decide)) rfl ?_
  refine pm_iconst (v := 0) C dX16_branches_24 (by decide) ?_
  refine pm_istore (lv' := [(5, .int 0), (4, .int y10), (3, .int y8), (2, .int y2), (0, .ref a0), (1, .int p1)]) C dX16_branches_25 (pm_nl X (by decide)) rfl ?_
  obtain ⟨n, hn⟩ := pm_lim_iter hf
  exact pm_sub [4, 3, 2, 1, 0] rfl ((lpX16_branches C X q n) a0 y2 y8 y10 0 h hn)
theorem dX16_bytesAt_0 : decode cX16_bytesAt 0 = .ok (.lconst 0, 1) := by decide +kernel
theorem dX16_bytesAt_1 : decode cX16_bytesAt 1 = .ok (.lstore_n 2, 1) := by decide +kernel
theorem dX16_bytesAt_2 : decode cX16_bytesAt 2 = .ok (.iconst 0, 1) := by decide +kernel
theorem dX16_bytesAt_3 : decode cX16_bytesAt 3 = .ok (.istore 4, 2) := by decide +kernel
theorem dX16_bytesAt_5 : decode cX16_bytesAt 5 = .ok (.iload 4, 2) := by decide +kernel
theorem dX16_bytesAt_7 : decode cX16_bytesAt 7 = .ok (.iload_n 1, 1) := by decide +kernel
theorem dX16_bytesAt_8 : decode cX16_bytesAt 8 = .ok (.if_icmp .ge 33, 3) := by decide +kernel
theorem dX16_bytesAt_11 : decode cX16_bytesAt 11 = .ok (.lload_n 2, 1) := by decide +kernel
theorem dX16_bytesAt_12 : decode cX16_bytesAt 12 = .ok (.aload_n 0, 1) := by decide +kernel
theorem dX16_bytesAt_13 : decode cX16_bytesAt 13 = .ok (.getfield 221, 3) := by decide +kernel
theorem dX16_bytesAt_16 : decode cX16_bytesAt 16 = .ok (.aload_n 0, 1) := by decide +kernel
theorem dX16_bytesAt_17 : decode cX16_bytesAt 17 = .ok (.getfield 594, 3) := by decide +kernel
theorem dX16_bytesAt_20 : decode cX16_bytesAt 20 = .ok (.iload 4, 2) := by decide +kernel
theorem dX16_bytesAt_22 : decode cX16_bytesAt 22 = .ok (.iadd, 1) := by decide +kernel
theorem dX16_bytesAt_23 : decode cX16_bytesAt 23 = .ok (.invokevirtual 261, 3) := by decide +kernel
theorem dX16_bytesAt_26 : decode cX16_bytesAt 26 = .ok (.i2l, 1) := by decide +kernel
theorem dX16_bytesAt_27 : decode cX16_bytesAt 27 = .ok (.bipush 8, 2) := by decide +kernel
theorem dX16_bytesAt_29 : decode cX16_bytesAt 29 = .ok (.iload 4, 2) := by decide +kernel
theorem dX16_bytesAt_31 : decode cX16_bytesAt 31 = .ok (.imul, 1) := by decide +kernel
theorem dX16_bytesAt_32 : decode cX16_bytesAt 32 = .ok (.lshl, 1) := by decide +kernel
theorem dX16_bytesAt_33 : decode cX16_bytesAt 33 = .ok (.lor, 1) := by decide +kernel
theorem dX16_bytesAt_34 : decode cX16_bytesAt 34 = .ok (.lstore_n 2, 1) := by decide +kernel
theorem dX16_bytesAt_35 : decode cX16_bytesAt 35 = .ok (.iinc 4 1, 3) := by decide +kernel
theorem dX16_bytesAt_38 : decode cX16_bytesAt 38 = .ok (.goto (-33), 3) := by decide +kernel
theorem dX16_bytesAt_41 : decode cX16_bytesAt 41 = .ok (.aload_n 0, 1) := by decide +kernel
theorem dX16_bytesAt_42 : decode cX16_bytesAt 42 = .ok (.dup, 1) := by decide +kernel
theorem dX16_bytesAt_43 : decode cX16_bytesAt 43 = .ok (.getfield 594, 3) := by decide +kernel
theorem dX16_bytesAt_46 : decode cX16_bytesAt 46 = .ok (.iload_n 1, 1) := by decide +kernel
theorem dX16_bytesAt_47 : decode cX16_bytesAt 47 = .ok (.iadd, 1) := by decide +kernel
theorem dX16_bytesAt_48 : decode cX16_bytesAt 48 = .ok (.putfield 594, 3) := by decide +kernel
theorem dX16_bytesAt_51 : decode cX16_bytesAt 51 = .ok (.lload_n 2, 1) := by decide +kernel
theorem dX16_bytesAt_52 : decode cX16_bytesAt 52 = .ok (.lreturn, 1) := by decide +kernel
def tX16_bytesAt_5 (x0 : Nat) (x1 : Int32) (x2 : Int64) (x4 : Int32) (h : pm_H) : Option (((Nat × Int32 × Int64 × Int32 × pm_H)) ⊕ (Int64 × pm_H)) := if x1 ≤ x4 then (if pm_kd h x0 = 16 then pm_let ((pm_I h x0 19) + x1) fun y3 => some (.inr ((x2, pm_setI h x0 19 y3))) else none) else (if pm_kd h x0 = 16 then (pm_R h x0 10).bind fun v6 => if pm_kd h v6 = 14 then (fX14_at h v6 ((pm_I h x0 19) + x4)).bind fun v9 => pm_let (x2 ||| (v9.toInt64 <<< ((8 * x4).toInt64 &&& 63))) fun y11 => pm_let (x4 + 1) fun y13 => some (.inl ((x0, x1, y11, y13, h))) else none else none)
def sX16_bytesAt : ((Nat × Int32 × Int64 × Int32 × pm_H)) → Option (((Nat × Int32 × Int64 × Int32 × pm_H)) ⊕ (Int64 × pm_H)) := fun z => match z with
  | (x0, x1, x2, x4, h) => tX16_bytesAt_5 x0 x1 x2 x4 h
noncomputable def fX16_bytesAt (h : pm_H) (a0 : Nat) (p1 : Int32) : Option (Int64 × pm_H) := pm_lim sX16_bytesAt ((a0, p1, 0, 0, h))
set_option maxHeartbeats 4000000 in
set_option maxRecDepth 100000 in
theorem lpX16_bytesAt {g : pm_Gm} {l : Launch} {G : pm_Gl} {Qr : Option Value → pm_H → Prop} (C : pm_C g cX16_bytesAt RX16) (X : pm_X g l G mX16_bytesAt 0 0 Qr) {r : (Int64 × pm_H)} (q : Qr (some (.long r.1)) r.2) : ∀ n : Nat, (∀ (x0 : Nat) (x1 : Int32) (x2 : Int64) (x4 : Int32) (h : pm_H), pm_iter sX16_bytesAt n (x0, x1, x2, x4, h) = some r → pm_G g 5 [(0, .ref x0), (1, .int x1), (2, .long x2), (4, .int x4)] [] h 0 0) := by
  intro n
  induction n with
  | zero => exact fun _ _ _ _ _ hf => (by cases hf)
  | succ n ih =>
    refine fun x0 x1 x2 x4 h hf => ?_
    obtain ⟨y, hf, hi⟩ := pm_iter_s hf
    have hf : tX16_bytesAt_5 x0 x1 x2 x4 h = some y := hf
    unfold tX16_bytesAt_5 at hf
    refine pm_iload C dX16_bytesAt_5 rfl ?_
    refine pm_iload_n C dX16_bytesAt_7 rfl rfl ?_
    refine pm_icmp_ge (tgt := 41) C dX16_bytesAt_8 (by decide) (fun c1 => ?_) (fun c1 => ?_)
    · have hf := pm_it hf c1
      refine pm_aload_n C dX16_bytesAt_41 rfl rfl ?_
      refine pm_dup C dX16_bytesAt_42 rfl ?_
      obtain ⟨k2, hf⟩ := pm_if hf
      refine pm_getI C dX16_bytesAt_43 flX16_594 rfl k2 rfl ?_
      refine pm_iload_n C dX16_bytesAt_46 rfl rfl ?_
      refine pm_iadd C dX16_bytesAt_47 ?_
      obtain ⟨y3, e4, hf⟩ := pm_lt hf
      refine pm_topI e4 ?_
      refine pm_putI C dX16_bytesAt_48 flX16_594 rfl rfl k2 rfl rfl ?_
      refine pm_lload_n C dX16_bytesAt_51 rfl rfl ?_
      cases hf
      cases hi
      exact pm_lret C X dX16_bytesAt_52 rfl (Nat.le_refl _) (Nat.le_refl _) q
    · have hf := pm_ie hf c1
      refine pm_lload_n C dX16_bytesAt_11 rfl rfl ?_
      refine pm_aload_n C dX16_bytesAt_12 rfl rfl ?_
      obtain ⟨k5, hf⟩ := pm_if hf
      obtain ⟨v6, e7, hf⟩ := pm_bd hf
      refine pm_getR C dX16_bytesAt_13 flX16_221 rfl k5 e7 ?_
      refine pm_aload_n C dX16_bytesAt_16 rfl rfl ?_
      refine pm_getI C dX16_bytesAt_17 flX16_594 rfl k5 rfl ?_
      refine pm_iload C dX16_bytesAt_20 rfl ?_
      refine pm_iadd C dX16_bytesAt_22 ?_
      obtain ⟨k8, hf⟩ := pm_if hf
      obtain ⟨v9, e10, hf⟩ := pm_bd hf
      refine pm_callV (as := [.int ((pm_I h x0 19) + x4)]) (st := [.long x2]) C X dX16_bytesAt_23 lnX16_261 myX14_at viX14_at ⟨by decide, by decide⟩ rfl rfl k8 (Nat.le_of_ble_eq_true rfl) (Nat.le_refl _) (Nat.le_refl _) (ctX14_at e10 ?_)
      show pm_G g 26 [(0, .ref x0), (1, .int x1), (2, .long x2), (4, .int x4)] [.int v9, .long x2] h 0 0
      refine pm_i2l C dX16_bytesAt_26 ?_
      refine pm_bipush (v := 8) C dX16_bytesAt_27 (by decide) ?_
      refine pm_iload C dX16_bytesAt_29 rfl ?_
      refine pm_imul C dX16_bytesAt_31 ?_
      refine pm_lshl C dX16_bytesAt_32 ?_
      refine pm_lor C dX16_bytesAt_33 ?_
      obtain ⟨y11, e12, hf⟩ := pm_lt hf
      refine pm_topL e12 ?_
      refine pm_lstore_n (lv' := [(2, .long y11), (0, .ref x0), (1, .int x1), (4, .int x4)]) C dX16_bytesAt_34 rfl (pm_nl X (by decide)) rfl ?_
      obtain ⟨y13, e14, hf⟩ := pm_lt hf
      refine pm_iinc (v := y13) (lv' := [(4, .int y13), (2, .long y11), (0, .ref x0), (1, .int x1)]) C dX16_bytesAt_35 rfl ((congrArg (x4 + ·) (by decide : Int32.ofInt 1 = 1)).trans e14) (pm_nl X (by decide)) rfl ?_
      refine pm_goto (tgt := 5) C dX16_bytesAt_38 (by decide) ?_
      cases hf
      exact pm_sub [2, 3, 1, 0] rfl (ih x0 x1 y11 y13 h hi)
set_option maxHeartbeats 4000000 in
set_option maxRecDepth 100000 in
theorem ctX16_bytesAt {l : Launch} {G : pm_Gl} {h : pm_H} {a0 : Nat} {p1 : Int32} {r : (Int64 × pm_H)} {Qr : Option Value → pm_H → Prop} (hf : fX16_bytesAt h a0 p1 = some r) (q : Qr (some (.long r.1)) r.2) : pm_Ct l G mX16_bytesAt [.ref a0, .int p1] h 0 0 Qr := by
  refine pm_body pnX16 (Nat.le_of_ble_eq_true rfl) (fun g C X => ?_)
  have C : pm_C g cX16_bytesAt RX16 := C
  show pm_G g 0 [(0, .ref a0), (1, .int p1)] [] h 0 0
  unfold fX16_bytesAt at hf
  refine pm_lconst (v := 0) C dX16_bytesAt_0 (by decide) ?_
  refine pm_lstore_n (lv' := [(2, .long 0), (0, .ref a0), (1, .int p1)]) C dX16_bytesAt_1 rfl (pm_nl X (by decide)) rfl ?_
  refine pm_iconst (v := 0) C dX16_bytesAt_2 (by decide) ?_
  refine pm_istore (lv' := [(4, .int 0), (2, .long 0), (0, .ref a0), (1, .int p1)]) C dX16_bytesAt_3 (pm_nl X (by decide)) rfl ?_
  obtain ⟨n, hn⟩ := pm_lim_iter hf
  exact pm_sub [2, 3, 1, 0] rfl ((lpX16_bytesAt C X q n) a0 p1 0 0 h hn)
