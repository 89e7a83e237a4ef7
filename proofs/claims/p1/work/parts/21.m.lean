theorem dX16_value_0 : decode cX16_value 0 = .ok (.aload_n 0, 1) := by decide +kernel
theorem dX16_value_1 : decode cX16_value 1 = .ok (.getfield 970, 3) := by decide +kernel
theorem dX16_value_4 : decode cX16_value 4 = .ok (.iconst 2, 1) := by decide +kernel
theorem dX16_value_5 : decode cX16_value 5 = .ok (.if_icmp .eq 11, 3) := by decide +kernel
theorem dX16_value_8 : decode cX16_value 8 = .ok (.aload_n 0, 1) := by decide +kernel
theorem dX16_value_9 : decode cX16_value 9 = .ok (.getfield 970, 3) := by decide +kernel
theorem dX16_value_12 : decode cX16_value 12 = .ok (.iconst 5, 1) := by decide +kernel
theorem dX16_value_13 : decode cX16_value 13 = .ok (.if_icmp .ne 24, 3) := by decide +kernel
theorem dX16_value_16 : decode cX16_value 16 = .ok (.iload_n 1, 1) := by decide +kernel
theorem dX16_value_17 : decode cX16_value 17 = .ok (.ifCond .lt 20, 3) := by decide +kernel
theorem dX16_value_20 : decode cX16_value 20 = .ok (.iload_n 1, 1) := by decide +kernel
theorem dX16_value_21 : decode cX16_value 21 = .ok (.aload_n 0, 1) := by decide +kernel
theorem dX16_value_22 : decode cX16_value 22 = .ok (.getfield 1098, 3) := by decide +kernel
theorem dX16_value_25 : decode cX16_value 25 = .ok (.if_icmp .ge 12, 3) := by decide +kernel
theorem dX16_value_28 : decode cX16_value 28 = .ok (.aload_n 0, 1) := by decide +kernel
theorem dX16_value_29 : decode cX16_value 29 = .ok (.getfield 170, 3) := by decide +kernel
theorem dX16_value_32 : decode cX16_value 32 = .ok (.iload_n 1, 1) := by decide +kernel
theorem dX16_value_33 : decode cX16_value 33 = .ok (.laload, 1) := by decide +kernel
theorem dX16_value_34 : decode cX16_value 34 = .ok (.goto 4, 3) := by decide +kernel
theorem dX16_value_37 : decode cX16_value 37 = .ok (.lconst 0, 1) := by decide +kernel
theorem dX16_value_38 : decode cX16_value 38 = .ok (.lreturn, 1) := by decide +kernel
def fX16_value (h : pm_H) (a0 : Nat) (p1 : Int32) : Option Int64 := if pm_kd h a0 = 16 then if (pm_I h a0 76) = 2 then (if p1 < 0 then (some 0) else (if (pm_I h a0 83) ≤ p1 then (some 0) else ((pm_R h a0 84).bind fun v5 => if pm_kd h v5 = 35 then if pm_in p1 (pm_ln h v5) then some (pm_L h v5 p1.toNatClampNeg) else none else none))) else (if (pm_I h a0 76) = 5 then (if p1 < 0 then (some 0) else (if (pm_I h a0 83) ≤ p1 then (some 0) else ((pm_R h a0 84).bind fun v12 => if pm_kd h v12 = 35 then if pm_in p1 (pm_ln h v12) then some (pm_L h v12 p1.toNatClampNeg) else none else none))) else (some 0)) else none
set_option maxHeartbeats 4000000 in
set_option maxRecDepth 100000 in
theorem ctX16_value {l : Launch} {G : pm_Gl} {h : pm_H} {a0 : Nat} {p1 : Int32} {r : Int64} {Qr : Option Value → pm_H → Prop} (hf : fX16_value h a0 p1 = some r) (q : Qr (some (.long r)) h) : pm_Ct l G mX16_value [.ref a0, .int p1] h 0 0 Qr := by
  refine pm_body pnX16 (Nat.le_of_ble_eq_true rfl) (fun g C X => ?_)
  have C : pm_C g cX16_value RX16 := C
  show pm_G g 0 [(0, .ref a0), (1, .int p1)] [] h 0 0
  unfold fX16_value at hf
  refine pm_aload_n C dX16_value_0 rfl rfl ?_
  obtain ⟨k1, hf⟩ := pm_if hf
  refine pm_getI C dX16_value_1 flX16_970 rfl k1 rfl ?_
  refine pm_iconst (v := 2) C dX16_value_4 (by decide) ?_
  refine pm_icmp_eq (tgt := 16) C dX16_value_5 (by decide) (fun c2 => ?_) (fun c2 => ?_)
  · have hf := pm_it hf c2
    refine pm_iload_n C dX16_value_16 rfl rfl ?_
    refine pm_if_lt (tgt := 37) C dX16_value_17 (by decide) (fun c3 => ?_) (fun c3 => ?_)
    · have hf := pm_it hf c3
      refine pm_lconst (v := 0) C dX16_value_37 (by decide) ?_
      cases hf
      exact pm_lret C X dX16_value_38 rfl (Nat.le_refl _) (Nat.le_refl _) q
    · have hf := pm_ie hf c3
      refine pm_iload_n C dX16_value_20 rfl rfl ?_
      refine pm_aload_n C dX16_value_21 rfl rfl ?_
      refine pm_getI C dX16_value_22 flX16_1098 rfl k1 rfl ?_
      refine pm_icmp_ge (tgt := 37) C dX16_value_25 (by decide) (fun c4 => ?_) (fun c4 => ?_)
      · have hf := pm_it hf c4
        refine pm_lconst (v := 0) C dX16_value_37 (by decide) ?_
        cases hf
        exact pm_lret C X dX16_value_38 rfl (Nat.le_refl _) (Nat.le_refl _) q
      · have hf := pm_ie hf c4
        refine pm_aload_n C dX16_value_28 rfl rfl ?_
        obtain ⟨v5, e6, hf⟩ := pm_bd hf
        refine pm_getR C dX16_value_29 flX16_170 rfl k1 e6 ?_
        refine pm_iload_n C dX16_value_32 rfl rfl ?_
        obtain ⟨k7, hf⟩ := pm_if hf
        obtain ⟨u8, hf⟩ := pm_if hf
        refine pm_lald C dX16_value_33 k7 u8 rfl ?_
        refine pm_goto (tgt := 38) C dX16_value_34 (by decide) ?_
        cases hf
        exact pm_lret C X dX16_value_38 rfl (Nat.le_refl _) (Nat.le_refl _) q
  · have hf := pm_ie hf c2
    refine pm_aload_n C dX16_value_8 rfl rfl ?_
    refine pm_getI C dX16_value_9 flX16_970 rfl k1 rfl ?_
    refine pm_iconst (v := 5) C dX16_value_12 (by decide) ?_
    refine pm_icmp_ne (tgt := 37) C dX16_value_13 (by decide) (fun c9 => ?_) (fun c9 => ?_)
    · have hf := pm_ie hf c9
      refine pm_lconst (v := 0) C dX16_value_37 (by decide) ?_
      cases hf
      exact pm_lret C X dX16_value_38 rfl (Nat.le_refl _) (Nat.le_refl _) q
    · have hf := pm_it hf c9
      refine pm_iload_n C dX16_value_16 rfl rfl ?_
      refine pm_if_lt (tgt := 37) C dX16_value_17 (by decide) (fun c10 => ?_) (fun c10 => ?_)
      · have hf := pm_it hf c10
        refine pm_lconst (v := 0) C dX16_value_37 (by decide) ?_
        cases hf
        exact pm_lret C X dX16_value_38 rfl (Nat.le_refl _) (Nat.le_refl _) q
      · have hf := pm_ie hf c10
        refine pm_iload_n C dX16_value_20 rfl rfl ?_
        refine pm_aload_n C dX16_value_21 rfl rfl ?_
        refine pm_getI C dX16_value_22 flX16_1098 rfl k1 rfl ?_
        refine pm_icmp_ge (tgt := 37) C dX16_value_25 (by decide) (fun c11 => ?_) (fun c11 => ?_)
        · have hf := pm_it hf c11
          refine pm_lconst (v := 0) C dX16_value_37 (by decide) ?_
          cases hf
          exact pm_lret C X dX16_value_38 rfl (Nat.le_refl _) (Nat.le_refl _) q
        · have hf := pm_ie hf c11
          refine pm_aload_n C dX16_value_28 rfl rfl ?_
          obtain ⟨v12, e13, hf⟩ := pm_bd hf
          refine pm_getR C dX16_value_29 flX16_170 rfl k1 e13 ?_
          refine pm_iload_n C dX16_value_32 rfl rfl ?_
          obtain ⟨k14, hf⟩ := pm_if hf
          obtain ⟨u15, hf⟩ := pm_if hf
          refine pm_lald C dX16_value_33 k14 u15 rfl ?_
          refine pm_goto (tgt := 38) C dX16_value_34 (by decide) ?_
          cases hf
          exact pm_lret C X dX16_value_38 rfl (Nat.le_refl _) (Nat.le_refl _) q
theorem dX16_wantedAt_0 : decode cX16_wantedAt 0 = .ok (.aload_n 0, 1) := by decide +kernel
theorem dX16_wantedAt_1 : decode cX16_wantedAt 1 = .ok (.getfield 682, 3) := by decide +kernel
theorem dX16_wantedAt_4 : decode cX16_wantedAt 4 = .ok (.iconst 1, 1) := by decide +kernel
theorem dX16_wantedAt_5 : decode cX16_wantedAt 5 = .ok (.isub, 1) := by decide +kernel
theorem dX16_wantedAt_6 : decode cX16_wantedAt 6 = .ok (.iload_n 1, 1) := by decide +kernel
theorem dX16_wantedAt_7 : decode cX16_wantedAt 7 = .ok (.isub, 1) := by decide +kernel
theorem dX16_wantedAt_8 : decode cX16_wantedAt 8 = .ok (.istore_n 3, 1) := by decide +kernel
theorem dX16_wantedAt_9 : decode cX16_wantedAt 9 = .ok (.aload_n 0, 1) := by decide +kernel
theorem dX16_wantedAt_10 : decode cX16_wantedAt 10 = .ok (.getfield 42, 3) := by decide +kernel
theorem dX16_wantedAt_13 : decode cX16_wantedAt 13 = .ok (.iload_n 3, 1) := by decide +kernel
theorem dX16_wantedAt_14 : decode cX16_wantedAt 14 = .ok (.iaload, 1) := by decide +kernel
theorem dX16_wantedAt_15 : decode cX16_wantedAt 15 = .ok (.iconst 3, 1) := by decide +kernel
theorem dX16_wantedAt_16 : decode cX16_wantedAt 16 = .ok (.if_icmp .ne 17, 3) := by decide +kernel
theorem dX16_wantedAt_19 : decode cX16_wantedAt 19 = .ok (.aload_n 0, 1) := by decide +kernel
theorem dX16_wantedAt_20 : decode cX16_wantedAt 20 = .ok (.aload_n 0, 1) := by decide +kernel
theorem dX16_wantedAt_21 : decode cX16_wantedAt 21 = .ok (.getfield 45, 3) := by decide +kernel
theorem dX16_wantedAt_24 : decode cX16_wantedAt 24 = .ok (.iload_n 3, 1) := by decide +kernel
theorem dX16_wantedAt_25 : decode cX16_wantedAt 25 = .ok (.laload, 1) := by decide +kernel
theorem dX16_wantedAt_26 : decode cX16_wantedAt 26 = .ok (.iload_n 2, 1) := by decide +kernel
theorem dX16_wantedAt_27 : decode cX16_wantedAt 27 = .ok (.invokevirtual 678, 3) := by decide +kernel
theorem dX16_wantedAt_30 : decode cX16_wantedAt 30 = .ok (.goto 14, 3) := by decide +kernel
theorem dX16_wantedAt_33 : decode cX16_wantedAt 33 = .ok (.aload_n 0, 1) := by decide +kernel
theorem dX16_wantedAt_34 : decode cX16_wantedAt 34 = .ok (.aload_n 0, 1) := by decide +kernel
theorem dX16_wantedAt_35 : decode cX16_wantedAt 35 = .ok (.getfield 45, 3) := by decide +kernel
theorem dX16_wantedAt_38 : decode cX16_wantedAt 38 = .ok (.iload_n 3, 1) := by decide +kernel
theorem dX16_wantedAt_39 : decode cX16_wantedAt 39 = .ok (.laload, 1) := by decide +kernel
theorem dX16_wantedAt_40 : decode cX16_wantedAt 40 = .ok (.iload_n 2, 1) := by decide +kernel
theorem dX16_wantedAt_41 : decode cX16_wantedAt 41 = .ok (.invokevirtual 701, 3) := by decide +kernel
theorem dX16_wantedAt_44 : decode cX16_wantedAt 44 = .ok (.ireturn, 1) := by decide +kernel
def fX16_wantedAt (h : pm_H) (a0 : Nat) (p1 : Int32) (p2 : Int32) : Option Int32 := if pm_kd h a0 = 16 then pm_let (((pm_I h a0 24) - 1) - p1) fun y2 => (pm_R h a0 25).bind fun v4 => if pm_kd h v4 = 34 then if pm_in y2 (pm_ln h v4) then if (pm_I h v4 y2.toNatClampNeg) = 3 then ((pm_R h a0 26).bind fun v15 => if pm_kd h v15 = 35 then if pm_in y2 (pm_ln h v15) then (fX16_parameterAt h a0 (pm_L h v15 y2.toNatClampNeg) p2).bind fun v19 => some v19 else none else none) else ((pm_R h a0 26).bind fun v9 => if pm_kd h v9 = 35 then if pm_in y2 (pm_ln h v9) then (fX16_resultAt h a0 (pm_L h v9 y2.toNatClampNeg) p2).bind fun v13 => some v13 else none else none) else none else none else none
set_option maxHeartbeats 4000000 in
set_option maxRecDepth 100000 in
theorem ctX16_wantedAt {l : Launch} {G : pm_Gl} {h : pm_H} {a0 : Nat} {p1 : Int32} {p2 : Int32} {r : Int32} {Qr : Option Value → pm_H → Prop} (hf : fX16_wantedAt h a0 p1 p2 = some r) (q : Qr (some (.int r)) h) : pm_Ct l G mX16_wantedAt [.ref a0, .int p1, .int p2] h 0 0 Qr := by
  refine pm_body pnX16 (Nat.le_of_ble_eq_true rfl) (fun g C X => ?_)
  have C : pm_C g cX16_wantedAt RX16 := C
  show pm_G g 0 [(0, .ref a0), (1, .int p1), (2, .int p2)] [] h 0 0
  unfold fX16_wantedAt at hf
  refine pm_aload_n C dX16_wantedAt_0 rfl rfl ?_
  obtain ⟨k1, hf⟩ := pm_if hf
  refine pm_getI C dX16_wantedAt_1 flX16_682 rfl k1 rfl ?_
  refine pm_iconst (v := 1) C dX16_wantedAt_4 (by decide) ?_
  refine pm_isub C dX16_wantedAt_5 ?_
  refine pm_iload_n C dX16_wantedAt_6 rfl rfl ?_
  refine pm_isub C dX16_wantedAt_7 ?_
  obtain ⟨y2, e3, hf⟩ := pm_lt hf
  refine pm_topI e3 ?_
  refine pm_istore_n (lv' := [(3, .int y2), (0, .ref a0), (1, .int p1), (2, .int p2)]) C dX16_wantedAt_8 rfl (pm_nl X (by decide)) rfl ?_
  refine pm_aload_n C dX16_wantedAt_9 rfl rfl ?_
  obtain ⟨v4, e5, hf⟩ := pm_bd hf
  refine pm_getR C dX16_wantedAt_10 flX16_42 rfl k1 e5 ?_
  refine pm_iload_n C dX16_wantedAt_13 rfl rfl ?_
  obtain ⟨k6, hf⟩ := pm_if hf
  obtain ⟨u7, hf⟩ := pm_if hf
  refine pm_iald C dX16_wantedAt_14 k6 u7 rfl ?_
  refine pm_iconst (v := 3) C dX16_wantedAt_15 (by decide) ?_
  refine pm_icmp_ne (tgt := 33) C dX16_wantedAt_16 (by decide) (fun c8 => ?_) (fun c8 => ?_)
  · have hf := pm_ie hf c8
    refine pm_aload_n C dX16_wantedAt_33 rfl rfl ?_
    refine pm_aload_n C dX16_wantedAt_34 rfl rfl ?_
    obtain ⟨v9, e10, hf⟩ := pm_bd hf
    refine pm_getR C dX16_wantedAt_35 flX16_45 rfl k1 e10 ?_
    refine pm_iload_n C dX16_wantedAt_38 rfl rfl ?_
    obtain ⟨k11, hf⟩ := pm_if hf
    obtain ⟨u12, hf⟩ := pm_if hf
    refine pm_lald C dX16_wantedAt_39 k11 u12 rfl ?_
    refine pm_iload_n C dX16_wantedAt_40 rfl rfl ?_
    obtain ⟨v13, e14, hf⟩ := pm_bd hf
    refine pm_callV (as := [.long (pm_L h v9 y2.toNatClampNeg), .int p2]) (st := []) C X dX16_wantedAt_41 lnX16_701 myX16_resultAt viX16_resultAt ⟨by decide, by decide⟩ rfl rfl k1 (Nat.le_of_ble_eq_true rfl) (Nat.le_refl _) (Nat.le_refl _) (ctX16_resultAt e14 ?_)
    show pm_G g 44 [(3, .int y2), (0, .ref a0), (1, .int p1), (2, .int p2)] [.int v13] h 0 0
    cases hf
    exact pm_iret C X dX16_wantedAt_44 rfl (Nat.le_refl _) (Nat.le_refl _) q
  · have hf := pm_it hf c8
    refine pm_aload_n C dX16_wantedAt_19 rfl rfl ?_
    refine pm_aload_n C dX16_wantedAt_20 rfl rfl ?_
    obtain ⟨v15, e16, hf⟩ := pm_bd hf
    refine pm_getR C dX16_wantedAt_21 flX16_45 rfl k1 e16 ?_
    refine pm_iload_n C dX16_wantedAt_24 rfl rfl ?_
    obtain ⟨k17, hf⟩ := pm_if hf
    obtain ⟨u18, hf⟩ := pm_if hf
    refine pm_lald C dX16_wantedAt_25 k17 u18 rfl ?_
    refine pm_iload_n C dX16_wantedAt_26 rfl rfl ?_
    obtain ⟨v19, e20, hf⟩ := pm_bd hf
    refine pm_callV (as := [.long (pm_L h v15 y2.toNatClampNeg), .int p2]) (st := []) C X dX16_wantedAt_27 lnX16_678 myX16_parameterAt viX16_parameterAt ⟨by decide, by decide⟩ rfl rfl k1 (Nat.le_of_ble_eq_true rfl) (Nat.le_refl _) (Nat.le_refl _) (ctX16_parameterAt e20 ?_)
    show pm_G g 30 [(3, .int y2), (0, .ref a0), (1, .int p1), (2, .int p2)] [.int v19] h 0 0
    refine pm_goto (tgt := 44) C dX16_wantedAt_30 (by decide) ?_
    cases hf
    exact pm_iret C X dX16_wantedAt_44 rfl (Nat.le_refl _) (Nat.le_refl _) q
theorem dX16_wantedBy_0 : decode cX16_wantedBy 0 = .ok (.aload_n 0, 1) := by decide +kernel
theorem dX16_wantedBy_1 : decode cX16_wantedBy 1 = .ok (.getfield 682, 3) := by decide +kernel
theorem dX16_wantedBy_4 : decode cX16_wantedBy 4 = .ok (.iconst 1, 1) := by decide +kernel
theorem dX16_wantedBy_5 : decode cX16_wantedBy 5 = .ok (.isub, 1) := by decide +kernel
theorem dX16_wantedBy_6 : decode cX16_wantedBy 6 = .ok (.iload_n 1, 1) := by decide +kernel
theorem dX16_wantedBy_7 : decode cX16_wantedBy 7 = .ok (.isub, 1) := by decide +kernel
theorem dX16_wantedBy_8 : decode cX16_wantedBy 8 = .ok (.istore_n 2, 1) := by decide +kernel
theorem dX16_wantedBy_9 : decode cX16_wantedBy 9 = .ok (.aload_n 0, 1) := by decide +kernel
theorem dX16_wantedBy_10 : decode cX16_wantedBy 10 = .ok (.getfield 42, 3) := by decide +kernel
theorem dX16_wantedBy_13 : decode cX16_wantedBy 13 = .ok (.iload_n 2, 1) := by decide +kernel
theorem dX16_wantedBy_14 : decode cX16_wantedBy 14 = .ok (.iaload, 1) := by decide +kernel
theorem dX16_wantedBy_15 : decode cX16_wantedBy 15 = .ok (.iconst 3, 1) := by decide +kernel
theorem dX16_wantedBy_16 : decode cX16_wantedBy 16 = .ok (.if_icmp .ne 16, 3) := by decide +kernel
theorem dX16_wantedBy_19 : decode cX16_wantedBy 19 = .ok (.aload_n 0, 1) := by decide +kernel
theorem dX16_wantedBy_20 : decode cX16_wantedBy 20 = .ok (.aload_n 0, 1) := by decide +kernel
theorem dX16_wantedBy_21 : decode cX16_wantedBy 21 = .ok (.getfield 45, 3) := by decide +kernel
theorem dX16_wantedBy_24 : decode cX16_wantedBy 24 = .ok (.iload_n 2, 1) := by decide +kernel
theorem dX16_wantedBy_25 : decode cX16_wantedBy 25 = .ok (.laload, 1) := by decide +kernel
theorem dX16_wantedBy_26 : decode cX16_wantedBy 26 = .ok (.invokevirtual 689, 3) := by decide +kernel
theorem dX16_wantedBy_29 : decode cX16_wantedBy 29 = .ok (.goto 13, 3) := by decide +kernel
theorem dX16_wantedBy_32 : decode cX16_wantedBy 32 = .ok (.aload_n 0, 1) := by decide +kernel
theorem dX16_wantedBy_33 : decode cX16_wantedBy 33 = .ok (.aload_n 0, 1) := by decide +kernel
theorem dX16_wantedBy_34 : decode cX16_wantedBy 34 = .ok (.getfield 45, 3) := by decide +kernel
theorem dX16_wantedBy_37 : decode cX16_wantedBy 37 = .ok (.iload_n 2, 1) := by decide +kernel
theorem dX16_wantedBy_38 : decode cX16_wantedBy 38 = .ok (.laload, 1) := by decide +kernel
theorem dX16_wantedBy_39 : decode cX16_wantedBy 39 = .ok (.invokevirtual 698, 3) := by decide +kernel
theorem dX16_wantedBy_42 : decode cX16_wantedBy 42 = .ok (.ireturn, 1) := by decide +kernel
def fX16_wantedBy (h : pm_H) (a0 : Nat) (p1 : Int32) : Option Int32 := if pm_kd h a0 = 16 then pm_let (((pm_I h a0 24) - 1) - p1) fun y2 => (pm_R h a0 25).bind fun v4 => if pm_kd h v4 = 34 then if pm_in y2 (pm_ln h v4) then if (pm_I h v4 y2.toNatClampNeg) = 3 then ((pm_R h a0 26).bind fun v15 => if pm_kd h v15 = 35 then if pm_in y2 (pm_ln h v15) then (fX16_parametersOf h a0 (pm_L h v15 y2.toNatClampNeg)).bind fun v19 => some v19 else none else none) else ((pm_R h a0 26).bind fun v9 => if pm_kd h v9 = 35 then if pm_in y2 (pm_ln h v9) then (fX16_resultsOf h a0 (pm_L h v9 y2.toNatClampNeg)).bind fun v13 => some v13 else none else none) else none else none else none
set_option maxHeartbeats 4000000 in
set_option maxRecDepth 100000 in
theorem ctX16_wantedBy {l : Launch} {G : pm_Gl} {h : pm_H} {a0 : Nat} {p1 : Int32} {r : Int32} {Qr : Option Value → pm_H → Prop} (hf : fX16_wantedBy h a0 p1 = some r) (q : Qr (some (.int r)) h) : pm_Ct l G mX16_wantedBy [.ref a0, .int p1] h 0 0 Qr := by
  refine pm_body pnX16 (Nat.le_of_ble_eq_true rfl) (fun g C X => ?_)
  have C : pm_C g cX16_wantedBy RX16 := C
  show pm_G g 0 [(0, .ref a0), (1, .int p1)] [] h 0 0
  unfold fX16_wantedBy at hf
  refine pm_aload_n C dX16_wantedBy_0 rfl rfl ?_
  obtain ⟨k1, hf⟩ := pm_if hf
  refine pm_getI C dX16_wantedBy_1 flX16_682 rfl k1 rfl ?_
  refine pm_iconst (v := 1) C dX16_wantedBy_4 (by decide) ?_
  refine pm_isub C dX16_wantedBy_5 ?_
  refine pm_iload_n C dX16_wantedBy_6 rfl rfl ?_
  refine pm_isub C dX16_wantedBy_7 ?_
  obtain ⟨y2, e3, hf⟩ := pm_lt hf
  refine pm_topI e3 ?_
  refine pm_istore_n (lv' := [(2, .int y2), (0, .ref a0), (1, .int p1)]) C dX16_wantedBy_8 rfl (pm_nl X (by decide)) rfl ?_
  refine pm_aload_n C dX16_wantedBy_9 rfl rfl ?_
  obtain ⟨v4, e5, hf⟩ := pm_bd hf
  refine pm_getR C dX16_wantedBy_10 flX16_42 rfl k1 e5 ?_
  refine pm_iload_n C dX16_wantedBy_13 rfl rfl ?_
  obtain ⟨k6, hf⟩ := pm_if hf
  obtain ⟨u7, hf⟩ := pm_if hf
  refine pm_iald C dX16_wantedBy_14 k6 u7 rfl ?_
  refine pm_iconst (v := 3) C dX16_wantedBy_15 (by decide) ?_
  refine pm_icmp_ne (tgt := 32) C dX16_wantedBy_16 (by decide) (fun c8 => ?_) (fun c8 => ?_)
  · have hf := pm_ie hf c8
    refine pm_aload_n C dX16_wantedBy_32 rfl rfl ?_
    refine pm_aload_n C dX16_wantedBy_33 rfl rfl ?_
    obtain ⟨v9, e10, hf⟩ := pm_bd hf
    refine pm_getR C dX16_wantedBy_34 flX16_45 rfl k1 e10 ?_
    refine pm_iload_n C dX16_wantedBy_37 rfl rfl ?_
    obtain ⟨k11, hf⟩ := pm_if hf
    obtain ⟨u12, hf⟩ := pm_if hf
    refine pm_lald C dX16_wantedBy_38 k11 u12 rfl ?_
    obtain ⟨v13, e14, hf⟩ := pm_bd hf
    refine pm_callV (as := [.long (pm_L h v9 y2.toNatClampNeg)]) (st := []) C X dX16_wantedBy_39 lnX16_698 myX16_resultsOf viX16_resultsOf ⟨by decide, by decide⟩ rfl rfl k1 (Nat.le_of_ble_eq_true rfl) (Nat.le_refl _) (Nat.le_refl _) (ctX16_resultsOf e14 ?_)
    show pm_G g 42 [(2, .int y2), (0, .ref a0), (1, .int p1)] [.int v13] h 0 0
    cases hf
    exact pm_iret C X dX16_wantedBy_42 rfl (Nat.le_refl _) (Nat.le_refl _) q
  · have hf := pm_it hf c8
    refine pm_aload_n C dX16_wantedBy_19 rfl rfl ?_
    refine pm_aload_n C dX16_wantedBy_20 rfl rfl ?_
    obtain ⟨v15, e16, hf⟩ := pm_bd hf
    refine pm_getR C dX16_wantedBy_21 flX16_45 rfl k1 e16 ?_
    refine pm_iload_n C dX16_wantedBy_24 rfl rfl ?_
    obtain ⟨k17, hf⟩ := pm_if hf
    obtain ⟨u18, hf⟩ := pm_if hf
    refine pm_lald C dX16_wantedBy_25 k17 u18 rfl ?_
    obtain ⟨v19, e20, hf⟩ := pm_bd hf
    refine pm_callV (as := [.long (pm_L h v15 y2.toNatClampNeg)]) (st := []) C X dX16_wantedBy_26 lnX16_689 myX16_parametersOf viX16_parametersOf ⟨by decide, by decide⟩ rfl rfl k1 (Nat.le_of_ble_eq_true rfl) (Nat.le_refl _) (Nat.le_refl _) (ctX16_parametersOf e20 ?_)
    show pm_G g 29 [(2, .int y2), (0, .ref a0), (1, .int p1)] [.int v19] h 0 0
    refine pm_goto (tgt := 42) C dX16_wantedBy_29 (by decide) ?_
    cases hf
    exact pm_iret C X dX16_wantedBy_42 rfl (Nat.le_refl _) (Nat.le_refl _) q
theorem dX16_widthOf_0 : decode cX16_widthOf 0 = .ok (.iload_n 0, 1) := by decide +kernel
theorem dX16_widthOf_1 : decode cX16_widthOf 1 = .ok (.tableswitch 113 40 62 #[109, 107, 109, 107, 113, 113, 111, 111, 113, 113, 111, 111, 109, 109, 109, 107, 109, 107, 113, 111, 113, 111, 109], 107) := by decide +kernel
theorem dX16_widthOf_108 : decode cX16_widthOf 108 = .ok (.iconst 3, 1) := by decide +kernel
theorem dX16_widthOf_109 : decode cX16_widthOf 109 = .ok (.ireturn, 1) := by decide +kernel
theorem dX16_widthOf_110 : decode cX16_widthOf 110 = .ok (.iconst 2, 1) := by decide +kernel
theorem dX16_widthOf_111 : decode cX16_widthOf 111 = .ok (.ireturn, 1) := by decide +kernel
theorem dX16_widthOf_112 : decode cX16_widthOf 112 = .ok (.iconst 1, 1) := by decide +kernel
theorem dX16_widthOf_113 : decode cX16_widthOf 113 = .ok (.ireturn, 1) := by decide +kernel
theorem dX16_widthOf_114 : decode cX16_widthOf 114 = .ok (.iconst 0, 1) := by decide +kernel
theorem dX16_widthOf_115 : decode cX16_widthOf 115 = .ok (.ireturn, 1) := by decide +kernel
def fX16_widthOf (p1 : Int32) : Int32 := if p1 = 40 then (2) else (if p1 = 41 then (3) else (if p1 = 42 then (2) else (if p1 = 43 then (3) else (if p1 = 44 then (0) else (if p1 = 45 then (0) else (if p1 = 46 then (1) else (if p1 = 47 then (1) else (if p1 = 48 then (0) else (if p1 = 49 then (0) else (if p1 = 50 then (1) else (if p1 = 51 then (1) else (if p1 = 52 then (2) else (if p1 = 53 then (2) else (if p1 = 54 then (2) else (if p1 = 55 then (3) else (if p1 = 56 then (2) else (if p1 = 57 then (3) else (if p1 = 58 then (0) else (if p1 = 59 then (1) else (if p1 = 60 then (0) else (if p1 = 61 then (1) else (if p1 = 62 then (2) else (0)))))))))))))))))))))))
set_option maxHeartbeats 4000000 in
set_option maxRecDepth 100000 in
theorem ctX16_widthOf {l : Launch} {G : pm_Gl} {h : pm_H} {p1 : Int32} {r : Int32} {Qr : Option Value → pm_H → Prop} (hf : fX16_widthOf p1 = r) (q : Qr (some (.int r)) h) : pm_Ct l G mX16_widthOf [.int p1] h 0 0 Qr := by
  refine pm_body pnX16 (Nat.le_of_ble_eq_true rfl) (fun g C X => ?_)
  have C : pm_C g cX16_widthOf RX16 := C
  show pm_G g 0 [(0, .int p1)] [] h 0 0
  unfold fX16_widthOf at hf
  refine pm_iload_n C dX16_widthOf_0 rfl rfl ?_
  by_cases c1 : p1 = 40
  · have hf := pm_it hf c1
    refine pm_tableIn (tgt := 110) C dX16_widthOf_1 (by rw [c1]; decide) (by rw [c1]; decide) (by rw [c1]; rfl) (by decide) ?_
    refine pm_iconst (v := 2) C dX16_widthOf_110 (by decide) ?_
    subst hf
    exact pm_iret C X dX16_widthOf_111 rfl (Nat.le_refl _) (Nat.le_refl _) q
  have hf := pm_ie hf c1
  by_cases c2 : p1 = 41
  · have hf := pm_it hf c2
    refine pm_tableIn (tgt := 108) C dX16_widthOf_1 (by rw [c2]; decide) (by rw [c2]; decide) (by rw [c2]; rfl) (by decide) ?_
    refine pm_iconst (v := 3) C dX16_widthOf_108 (by decide) ?_
    subst hf
    exact pm_iret C X dX16_widthOf_109 rfl (Nat.le_refl _) (Nat.le_refl _) q
  have hf := pm_ie hf c2
  by_cases c3 : p1 = 42
  · have hf := pm_it hf c3
    refine pm_tableIn (tgt := 110) C dX16_widthOf_1 (by rw [c3]; decide) (by rw [c3]; decide) (by rw [c3]; rfl) (by decide) ?_
    refine pm_iconst (v := 2) C dX16_widthOf_110 (by decide) ?_
    subst hf
    exact pm_iret C X dX16_widthOf_111 rfl (Nat.le_refl _) (Nat.le_refl _) q
  have hf := pm_ie hf c3
  by_cases c4 : p1 = 43
  · have hf := pm_it hf c4
    refine pm_tableIn (tgt := 108) C dX16_widthOf_1 (by rw [c4]; decide) (by rw [c4]; decide) (by rw [c4]; rfl) (by decide) ?_
    refine pm_iconst (v := 3) C dX16_widthOf_108 (by decide) ?_
    subst hf
    exact pm_iret C X dX16_widthOf_109 rfl (Nat.le_refl _) (Nat.le_refl _) q
  have hf := pm_ie hf c4
  by_cases c5 : p1 = 44
  · have hf := pm_it hf c5
    refine pm_tableIn (tgt := 114) C dX16_widthOf_1 (by rw [c5]; decide) (by rw [c5]; decide) (by rw [c5]; rfl) (by decide) ?_
    refine pm_iconst (v := 0) C dX16_widthOf_114 (by decide) ?_
    subst hf
    exact pm_iret C X dX16_widthOf_115 rfl (Nat.le_refl _) (Nat.le_refl _) q
  have hf := pm_ie hf c5
  by_cases c6 : p1 = 45
  · have hf := pm_it hf c6
    refine pm_tableIn (tgt := 114) C dX16_widthOf_1 (by rw [c6]; decide) (by rw [c6]; decide) (by rw [c6]; rfl) (by decide) ?_
    refine pm_iconst (v := 0) C dX16_widthOf_114 (by decide) ?_
    subst hf
    exact pm_iret C X dX16_widthOf_115 rfl (Nat.le_refl _) (Nat.le_refl _) q
  have hf := pm_ie hf c6
  by_cases c7 : p1 = 46
  · have hf := pm_it hf c7
    refine pm_tableIn (tgt := 112) C dX16_widthOf_1 (by rw [c7]; decide) (by rw [c7]; decide) (by rw [c7]; rfl) (by decide) ?_
    refine pm_iconst (v := 1) C dX16_widthOf_112 (by decide) ?_
    subst hf
    exact pm_iret C X dX16_widthOf_113 rfl (Nat.le_refl _) (Nat.le_refl _) q
  have hf := pm_ie hf c7
  by_cases c8 : p1 = 47
  · have hf := pm_it hf c8
    refine pm_tableIn (tgt := 112) C dX16_widthOf_1 (by rw [c8]; decide) (by rw [c8]; decide) (by rw [c8]; rfl) (by decide) ?_
    refine pm_iconst (v := 1) C dX16_widthOf_112 (by decide) ?_
    subst hf
    exact pm_iret C X dX16_widthOf_113 rfl (Nat.le_refl _) (Nat.le_refl _) q
  have hf := pm_ie hf c8
  by_cases c9 : p1 = 48
  · have hf := pm_it hf c9
    refine pm_tableIn (tgt := 114) C dX16_widthOf_1 (by rw [c9]; decide) (by rw [c9]; decide) (by rw [c9]; rfl) (by decide) ?_
    refine pm_iconst (v := 0) C dX16_widthOf_114 (by decide) ?_
    subst hf
    exact pm_iret C X dX16_widthOf_115 rfl (Nat.le_refl _) (Nat.le_refl _) q
  have hf := pm_ie hf c9
  by_cases c10 : p1 = 49
  · have hf := pm_it hf c10
    refine pm_tableIn (tgt := 114) C dX16_widthOf_1 (by rw [c10]; decide) (by rw [c10]; decide) (by rw [c10]; rfl) (by decide) ?_
    refine pm_iconst (v := 0) C dX16_widthOf_114 (by decide) ?_
    subst hf
    exact pm_iret C X dX16_widthOf_115 rfl (Nat.le_refl _) (Nat.le_refl _) q
  have hf := pm_ie hf c10
  by_cases c11 : p1 = 50
  · have hf := pm_it hf c11
    refine pm_tableIn (tgt := 112) C dX16_widthOf_1 (by rw [c11]; decide) (by rw [c11]; decide) (by rw [c11]; rfl) (by decide) ?_
    refine pm_iconst (v := 1) C dX16_widthOf_112 (by decide) ?_
    subst hf
    exact pm_iret C X dX16_widthOf_113 rfl (Nat.le_refl _) (Nat.le_refl _) q
  have hf := pm_ie hf c11
  by_cases c12 : p1 = 51
  · have hf := pm_it hf c12
    refine pm_tableIn (tgt := 112) C dX16_widthOf_1 (by rw [c12]; decide) (by rw [c12]; decide) (by rw [c12]; rfl) (by decide) ?_
    refine pm_iconst (v := 1) C dX16_widthOf_112 (by decide) ?_
    subst hf
    exact pm_iret C X dX16_widthOf_113 rfl (Nat.le_refl _) (Nat.le_refl _) q
  have hf := pm_ie hf c12
  by_cases c13 : p1 = 52
  · have hf := pm_it hf c13
    refine pm_tableIn (tgt := 110) C dX16_widthOf_1 (by rw [c13]; decide) (by rw [c13]; decide) (by rw [c13]; rfl) (by decide) ?_
    refine pm_iconst (v := 2) C dX16_widthOf_110 (by decide) ?_
    subst hf
    exact pm_iret C X dX16_widthOf_111 rfl (Nat.le_refl _) (Nat.le_refl _) q
  have hf := pm_ie hf c13
  by_cases c14 : p1 = 53
  · have hf := pm_it hf c14
    refine pm_tableIn (tgt := 110) C dX16_widthOf_1 (by rw [c14]; decide) (by rw [c14]; decide) (by rw [c14]; rfl) (by decide) ?_
    refine pm_iconst (v := 2) C dX16_widthOf_110 (by decide) ?_
    subst hf
    exact pm_iret C X dX16_widthOf_111 rfl (Nat.le_refl _) (Nat.le_refl _) q
  have hf := pm_ie hf c14
  by_cases c15 : p1 = 54
  · have hf := pm_it hf c15
    refine pm_tableIn (tgt := 110) C dX16_widthOf_1 (by rw [c15]; decide) (by rw [c15]; decide) (by rw [c15]; rfl) (by decide) ?_
    refine pm_iconst (v := 2) C dX16_widthOf_110 (by decide) ?_
    subst hf
    exact pm_iret C X dX16_widthOf_111 rfl (Nat.le_refl _) (Nat.le_refl _) q
  have hf := pm_ie hf c15
  by_cases c16 : p1 = 55
  · have hf := pm_it hf c16
    refine pm_tableIn (tgt := 108) C dX16_widthOf_1 (by rw [c16]; decide) (by rw [c16]; decide) (by rw [c16]; rfl) (by decide) ?_
    refine pm_iconst (v := 3) C dX16_widthOf_108 (by decide) ?_
    subst hf
    exact pm_iret C X dX16_widthOf_109 rfl (Nat.le_refl _) (Nat.le_refl _) q
  have hf := pm_ie hf c16
  by_cases c17 : p1 = 56
  · have hf := pm_it hf c17
    refine pm_tableIn (tgt := 110) C dX16_widthOf_1 (by rw [c17]; decide) (by rw [c17]; decide) (by rw [c17]; rfl) (by decide) ?_
    refine pm_iconst (v := 2) C dX16_widthOf_110 (by decide) ?_
    subst hf
    exact pm_iret C X dX16_widthOf_111 rfl (Nat.le_refl _) (Nat.le_refl _) q
  have hf := pm_ie hf c17
  by_cases c18 : p1 = 57
  · have hf := pm_it hf c18
    refine pm_tableIn (tgt := 108) C dX16_widthOf_1 (by rw [c18]; decide) (by rw [c18]; decide) (by rw [c18]; rfl) (by decide) ?_
    refine pm_iconst (v := 3) C dX16_widthOf_108 (by decide) ?_
    subst hf
    exact pm_iret C X dX16_widthOf_109 rfl (Nat.le_refl _) (Nat.le_refl _) q
  have hf := pm_ie hf c18
  by_cases c19 : p1 = 58
  · have hf := pm_it hf c19
    refine pm_tableIn (tgt := 114) C dX16_widthOf_1 (by rw [c19]; decide) (by rw [c19]; decide) (by rw [c19]; rfl) (by decide) ?_
    refine pm_iconst (v := 0) C dX16_widthOf_114 (by decide) ?_
    subst hf
    exact pm_iret C X dX16_widthOf_115 rfl (Nat.le_refl _) (Nat.le_refl _) q
  have hf := pm_ie hf c19
  by_cases c20 : p1 = 59
  · have hf := pm_it hf c20
    refine pm_tableIn (tgt := 112) C dX16_widthOf_1 (by rw [c20]; decide) (by rw [c20]; decide) (by rw [c20]; rfl) (by decide) ?_
    refine pm_iconst (v := 1) C dX16_widthOf_112 (by decide) ?_
    subst hf
    exact pm_iret C X dX16_widthOf_113 rfl (Nat.le_refl _) (Nat.le_refl _) q
  have hf := pm_ie hf c20
  by_cases c21 : p1 = 60
  · have hf := pm_it hf c21
    refine pm_tableIn (tgt := 114) C dX16_widthOf_1 (by rw [c21]; decide) (by rw [c21]; decide) (by rw [c21]; rfl) (by decide) ?_
    refine pm_iconst (v := 0) C dX16_widthOf_114 (by decide) ?_
    subst hf
    exact pm_iret C X dX16_widthOf_115 rfl (Nat.le_refl _) (Nat.le_refl _) q
  have hf := pm_ie hf c21
  by_cases c22 : p1 = 61
  · have hf := pm_it hf c22
    refine pm_tableIn (tgt := 112) C dX16_widthOf_1 (by rw [c22]; decide) (by rw [c22]; decide) (by rw [c22]; rfl) (by decide) ?_
    refine pm_iconst (v := 1) C dX16_widthOf_112 (by decide) ?_
    subst hf
    exact pm_iret C X dX16_widthOf_113 rfl (Nat.le_refl _) (Nat.le_refl _) q
  have hf := pm_ie hf c22
  by_cases c23 : p1 = 62
  · have hf := pm_it hf c23
    refine pm_tableIn (tgt := 110) C dX16_widthOf_1 (by rw [c23]; decide) (by rw [c23]; decide) (by rw [c23]; rfl) (by decide) ?_
    refine pm_iconst (v := 2) C dX16_widthOf_110 (by decide) ?_
    subst hf
    exact pm_iret C X dX16_widthOf_111 rfl (Nat.le_refl _) (Nat.le_refl _) q
  have hf := pm_ie hf c23
  have nc1 := lv_neT c1 (by decide : (40 : Int32).toInt = 40)
  have nc2 := lv_neT c2 (by decide : (41 : Int32).toInt = 41)
  have nc3 := lv_neT c3 (by decide : (42 : Int32).toInt = 42)
  have nc4 := lv_neT c4 (by decide : (43 : Int32).toInt = 43)
  have nc5 := lv_neT c5 (by decide : (44 : Int32).toInt = 44)
  have nc6 := lv_neT c6 (by decide : (45 : Int32).toInt = 45)
  have nc7 := lv_neT c7 (by decide : (46 : Int32).toInt = 46)
  have nc8 := lv_neT c8 (by decide : (47 : Int32).toInt = 47)
  have nc9 := lv_neT c9 (by decide : (48 : Int32).toInt = 48)
  have nc10 := lv_neT c10 (by decide : (49 : Int32).toInt = 49)
  have nc11 := lv_neT c11 (by decide : (50 : Int32).toInt = 50)
  have nc12 := lv_neT c12 (by decide : (51 : Int32).toInt = 51)
  have nc13 := lv_neT c13 (by decide : (52 : Int32).toInt = 52)
  have nc14 := lv_neT c14 (by decide : (53 : Int32).toInt = 53)
  have nc15 := lv_neT c15 (by decide : (54 : Int32).toInt = 54)
  have nc16 := lv_neT c16 (by decide : (55 : Int32).toInt = 55)
  have nc17 := lv_neT c17 (by decide : (56 : Int32).toInt = 56)
  have nc18 := lv_neT c18 (by decide : (57 : Int32).toInt = 57)
  have nc19 := lv_neT c19 (by decide : (58 : Int32).toInt = 58)
  have nc20 := lv_neT c20 (by decide : (59 : Int32).toInt = 59)
  have nc21 := lv_neT c21 (by decide : (60 : Int32).toInt = 60)
  have nc22 := lv_neT c22 (by decide : (61 : Int32).toInt = 61)
  have nc23 := lv_neT c23 (by decide : (62 : Int32).toInt = 62)
  refine pm_tableOut (tgt := 114) C dX16_widthOf_1 (by omega) (by decide) ?_
  refine pm_iconst (v := 0) C dX16_widthOf_114 (by decide) ?_
  subst hf
  exact pm_iret C X dX16_widthOf_115 rfl (Nat.le_refl _) (Nat.le_refl _) q
theorem dX16_withSign_0 : decode cX16_withSign 0 = .ok (.iload_n 1, 1) := by decide +kernel
theorem dX16_withSign_1 : decode cX16_withSign 1 = .ok (.ifCond .eq 12, 3) := by decide +kernel
theorem dX16_withSign_4 : decode cX16_withSign 4 = .ok (.lload_n 2, 1) := by decide +kernel
theorem dX16_withSign_5 : decode cX16_withSign 5 = .ok (.iload_n 0, 1) := by decide +kernel
theorem dX16_withSign_6 : decode cX16_withSign 6 = .ok (.invokestatic 865, 3) := by decide +kernel
theorem dX16_withSign_9 : decode cX16_withSign 9 = .ok (.lor, 1) := by decide +kernel
theorem dX16_withSign_10 : decode cX16_withSign 10 = .ok (.goto 4, 3) := by decide +kernel
theorem dX16_withSign_13 : decode cX16_withSign 13 = .ok (.lload_n 2, 1) := by decide +kernel
theorem dX16_withSign_14 : decode cX16_withSign 14 = .ok (.lreturn, 1) := by decide +kernel
def fX16_withSign (p1 : Int32) (p2 : Int32) (p3 : Int64) : Int64 := if p2 = 0 then (p3) else (pm_let (fX16_signOf p1) fun v2 => p3 ||| v2)
set_option maxHeartbeats 4000000 in
set_option maxRecDepth 100000 in
theorem ctX16_withSign {l : Launch} {G : pm_Gl} {h : pm_H} {p1 : Int32} {p2 : Int32} {p3 : Int64} {r : Int64} {Qr : Option Value → pm_H → Prop} (hf : fX16_withSign p1 p2 p3 = r) (q : Qr (some (.long r)) h) : pm_Ct l G mX16_withSign [.int p1, .int p2, .long p3] h 0 0 Qr := by
  refine pm_body pnX16 (Nat.le_of_ble_eq_true rfl) (fun g C X => ?_)
  have C : pm_C g cX16_withSign RX16 := C
  show pm_G g 0 [(0, .int p1), (1, .int p2), (2, .long p3)] [] h 0 0
  unfold fX16_withSign at hf
  refine pm_iload_n C dX16_withSign_0 rfl rfl ?_
  refine pm_if_eq (tgt := 13) C dX16_withSign_1 (by decide) (fun c1 => ?_) (fun c1 => ?_)
  · have hf := pm_it hf c1
    refine pm_lload_n C dX16_withSign_13 rfl rfl ?_
    subst hf
    exact pm_lret C X dX16_withSign_14 rfl (Nat.le_refl _) (Nat.le_refl _) q
  · have hf := pm_ie hf c1
    refine pm_lload_n C dX16_withSign_4 rfl rfl ?_
    refine pm_iload_n C dX16_withSign_5 rfl rfl ?_
    obtain ⟨v2, e3, hf⟩ := pm_lt hf
    refine pm_callS (as := [.int p1]) (st := [.long p3]) C X dX16_withSign_6 lnX16_865 myX16_signOf stX16_signOf ⟨by decide, by decide⟩ rfl rfl (Nat.le_of_ble_eq_true rfl) (Nat.le_refl _) (Nat.le_refl _) (ctX16_signOf e3 ?_)
    show pm_G g 9 [(0, .int p1), (1, .int p2), (2, .long p3)] [.long v2, .long p3] h 0 0
    refine pm_lor C dX16_withSign_9 ?_
    refine pm_goto (tgt := 14) C dX16_withSign_10 (by decide) ?_
    subst hf
    exact pm_lret C X dX16_withSign_14 rfl (Nat.le_refl _) (Nat.le_refl _) q
theorem dX16_word_0 : decode cX16_word 0 = .ok (.lconst 0, 1) := by decide +kernel
theorem dX16_word_1 : decode cX16_word 1 = .ok (.lstore_n 1, 1) := by decide +kernel
theorem dX16_word_2 : decode cX16_word 2 = .ok (.iconst 0, 1) := by decide +kernel
theorem dX16_word_3 : decode cX16_word 3 = .ok (.istore_n 3, 1) := by decide +kernel
theorem dX16_word_4 : decode cX16_word 4 = .ok (.sipush 128, 3) := by decide +kernel
theorem dX16_word_7 : decode cX16_word 7 = .ok (.istore 4, 2) := by decide +kernel
theorem dX16_word_9 : decode cX16_word 9 = .ok (.iload 4, 2) := by decide +kernel
theorem dX16_word_11 : decode cX16_word 11 = .ok (.bipush 127, 2) := by decide +kernel
theorem dX16_word_13 : decode cX16_word 13 = .ok (.if_icmp .le 43, 3) := by decide +kernel
theorem dX16_word_16 : decode cX16_word 16 = .ok (.aload_n 0, 1) := by decide +kernel
theorem dX16_word_17 : decode cX16_word 17 = .ok (.getfield 221, 3) := by decide +kernel
theorem dX16_word_20 : decode cX16_word 20 = .ok (.aload_n 0, 1) := by decide +kernel
theorem dX16_word_21 : decode cX16_word 21 = .ok (.getfield 594, 3) := by decide +kernel
theorem dX16_word_24 : decode cX16_word 24 = .ok (.invokevirtual 261, 3) := by decide +kernel
theorem dX16_word_27 : decode cX16_word 27 = .ok (.istore 4, 2) := by decide +kernel
theorem dX16_word_29 : decode cX16_word 29 = .ok (.lload_n 1, 1) := by decide +kernel
theorem dX16_word_30 : decode cX16_word 30 = .ok (.iload 4, 2) := by decide +kernel
theorem dX16_word_32 : decode cX16_word 32 = .ok (.bipush 127, 2) := by decide +kernel
theorem dX16_word_34 : decode cX16_word 34 = .ok (.iand, 1) := by decide +kernel
theorem dX16_word_35 : decode cX16_word 35 = .ok (.i2l, 1) := by decide +kernel
theorem dX16_word_36 : decode cX16_word 36 = .ok (.iload_n 3, 1) := by decide +kernel
theorem dX16_word_37 : decode cX16_word 37 = .ok (.lshl, 1) := by decide +kernel
theorem dX16_word_38 : decode cX16_word 38 = .ok (.lor, 1) := by decide +kernel
theorem dX16_word_39 : decode cX16_word 39 = .ok (.lstore_n 1, 1) := by decide +kernel
theorem dX16_word_40 : decode cX16_word 40 = .ok (.iinc 3 7, 3) := by decide +kernel
theorem dX16_word_43 : decode cX16_word 43 = .ok (.aload_n 0, 1) := by decide +kernel
theorem dX16_word_44 : decode cX16_word 44 = .ok (.dup, 1) := by decide +kernel
theorem dX16_word_45 : decode cX16_word 45 = .ok (.getfield 594, 3) := by decide +kernel
theorem dX16_word_48 : decode cX16_word 48 = .ok (.iconst 1, 1) := by decide +kernel
theorem dX16_word_49 : decode cX16_word 49 = .ok (.iadd, 1) := by decide +kernel
theorem dX16_word_50 : decode cX16_word 50 = .ok (.putfield 594, 3) := by decide +kernel
theorem dX16_word_53 : decode cX16_word 53 = .ok (.goto (-44), 3) := by decide +kernel
theorem dX16_word_56 : decode cX16_word 56 = .ok (.lload_n 1, 1) := by decide +kernel
theorem dX16_word_57 : decode cX16_word 57 = .ok (.lreturn, 1) := by decide +kernel
def tX16_word_9 (x0 : Nat) (x1 : Int64) (x3 : Int32) (x4 : Int32) (h : pm_H) : Option (((Nat × Int64 × Int32 × Int32 × pm_H)) ⊕ (Int64 × pm_H)) := if x4 ≤ 127 then (some (.inr ((x1, h)))) else (if pm_kd h x0 = 16 then (pm_R h x0 10).bind fun v3 => if pm_kd h v3 = 14 then (fX14_at h v3 (pm_I h x0 19)).bind fun v6 => pm_let (x1 ||| (((v6 &&& 127).toInt64) <<< (x3.toInt64 &&& 63))) fun y8 => pm_let (x3 + 7) fun y10 => pm_let ((pm_I h x0 19) + 1) fun y12 => some (.inl ((x0, y8, y10, v6, pm_setI h x0 19 y12))) else none else none)
def sX16_word : ((Nat × Int64 × Int32 × Int32 × pm_H)) → Option (((Nat × Int64 × Int32 × Int32 × pm_H)) ⊕ (Int64 × pm_H)) := fun z => match z with
  | (x0, x1, x3, x4, h) => tX16_word_9 x0 x1 x3 x4 h
noncomputable def fX16_word (h : pm_H) (a0 : Nat) : Option (Int64 × pm_H) := pm_lim sX16_word ((a0, 0, 0, 128, h))
set_option maxHeartbeats 4000000 in
set_option maxRecDepth 100000 in
theorem lpX16_word {g : pm_Gm} {l : Launch} {G : pm_Gl} {Qr : Option Value → pm_H → Prop} (C : pm_C g cX16_word RX16) (X : pm_X g l G mX16_word 0 0 Qr) {r : (Int64 × pm_H)} (q : Qr (some (.long r.1)) r.2) : ∀ n : Nat, (∀ (x0 : Nat) (x1 : Int64) (x3 : Int32) (x4 : Int32) (h : pm_H), pm_iter sX16_word n (x0, x1, x3, x4, h) = some r → pm_G g 9 [(0, .ref x0), (1, .long x1), (3, .int x3), (4, .int x4)] [] h 0 0) := by
  intro n
  induction n with
  | zero => exact fun _ _ _ _ _ hf => (by cases hf)
  | succ n ih =>
    refine fun x0 x1 x3 x4 h hf => ?_
    obtain ⟨y, hf, hi⟩ := pm_iter_s hf
    have hf : tX16_word_9 x0 x1 x3 x4 h = some y := hf
    unfold tX16_word_9 at hf
    refine pm_iload C dX16_word_9 rfl ?_
    refine pm_bipush (v := 127) C dX16_word_11 (by decide) ?_
    refine pm_icmp_le (tgt := 56) C dX16_word_13 (by decide) (fun c1 => ?_) (fun c1 => ?_)
    · have hf := pm_it hf c1
      refine pm_lload_n C dX16_word_56 rfl rfl ?_
      cases hf
      cases hi
      exact pm_lret C X dX16_word_57 rfl (Nat.le_refl _) (Nat.le_refl _) q
    · have hf := pm_ie hf c1
      refine pm_aload_n C dX16_word_16 rfl rfl ?_
      obtain ⟨k2, hf⟩ := pm_if hf
      obtain ⟨v3, e4, hf⟩ := pm_bd hf
      refine pm_getR C dX16_word_17 flX16_221 rfl k2 e4 ?_
      refine pm_aload_n C dX16_word_20 rfl rfl ?_
      refine pm_getI C dX16_word_21 flX16_594 rfl k2 rfl ?_
      obtain ⟨k5, hf⟩ := pm_if hf
      obtain ⟨v6, e7, hf⟩ := pm_bd hf
      refine pm_callV (as := [.int (pm_I h x0 19)]) (st := []) C X dX16_word_24 lnX16_261 myX14_at viX14_at ⟨by decide, by decide⟩ rfl rfl k5 (Nat.le_of_ble_eq_true rfl) (Nat.le_refl _) (Nat.le_refl _) (ctX14_at e7 ?_)
      show pm_G g 27 [(0, .ref x0), (1, .long x1), (3, .int x3), (4, .int x4)] [.int v6] h 0 0
      refine pm_istore (lv' := [(4, .int v6), (0, .ref x0), (1, .long x1), (3, .int x3)]) C dX16_word_27 (pm_nl X (by decide)) rfl ?_
      refine pm_lload_n C dX16_word_29 rfl rfl ?_
      refine pm_iload C dX16_word_30 rfl ?_
      refine pm_bipush (v := 127) C dX16_word_32 (by decide) ?_
      refine pm_iand C dX16_word_34 ?_
      refine pm_i2l C dX16_word_35 ?_
      refine pm_iload_n C dX16_word_36 rfl rfl ?_
      refine pm_lshl C dX16_word_37 ?_
      refine pm_lor C dX16_word_38 ?_
      obtain ⟨y8, e9, hf⟩ := pm_lt hf
      refine pm_topL e9 ?_
      refine pm_lstore_n (lv' := [(1, .long y8), (4, .int v6), (0, .ref x0), (3, .int x3)]) C dX16_word_39 rfl (pm_nl X (by decide)) rfl ?_
      obtain ⟨y10, e11, hf⟩ := pm_lt hf
      refine pm_iinc (v := y10) (lv' := [(3, .int y10), (1, .long y8), (4, .int v6), (0, .ref x0)]) C dX16_word_40 rfl ((congrArg (x3 + ·) (by decide : Int32.ofInt 7 = 7)).trans e11) (pm_nl X (by decide)) rfl ?_
      refine pm_aload_n C dX16_word_43 rfl rfl ?_
      refine pm_dup C dX16_word_44 rfl ?_
      refine pm_getI C dX16_word_45 flX16_594 rfl k2 rfl ?_
      refine pm_iconst (v := 1) C dX16_word_48 (by decide) ?_
      refine pm_iadd C dX16_word_49 ?_
      obtain ⟨y12, e13, hf⟩ := pm_lt hf
      refine pm_topI e13 ?_
      refine pm_putI C dX16_word_50 flX16_594 rfl rfl k2 rfl rfl ?_
      refine pm_goto (tgt := 9) C dX16_word_53 (by decide) ?_
      cases hf
      exact pm_sub [3, 1, 0, 2] rfl (ih x0 y8 y10 v6 (pm_setI h x0 19 y12) hi)
set_option maxHeartbeats 4000000 in
set_option maxRecDepth 100000 in
theorem ctX16_word {l : Launch} {G : pm_Gl} {h : pm_H} {a0 : Nat} {r : (Int64 × pm_H)} {Qr : Option Value → pm_H → Prop} (hf : fX16_word h a0 = some r) (q : Qr (some (.long r.1)) r.2) : pm_Ct l G mX16_word [.ref a0] h 0 0 Qr := by
  refine pm_body pnX16 (Nat.le_of_ble_eq_true rfl) (fun g C X => ?_)
  have C : pm_C g cX16_word RX16 := C
  show pm_G g 0 [(0, .ref a0)] [] h 0 0
  unfold fX16_word at hf
  refine pm_lconst (v := 0) C dX16_word_0 (by decide) ?_
  refine pm_lstore_n (lv' := [(1, .long 0), (0, .ref a0)]) C dX16_word_1 rfl (pm_nl X (by decide)) rfl ?_
  refine pm_iconst (v := 0) C dX16_word_2 (by decide) ?_
  refine pm_istore_n (lv' := [(3, .int 0), (1, .long 0), (0, .ref a0)]) C dX16_word_3 rfl (pm_nl X (by decide)) rfl ?_
  refine pm_sipush (v := 128) C dX16_word_4 (by decide) ?_
  refine pm_istore (lv' := [(4, .int 128), (3, .int 0), (1, .long 0), (0, .ref a0)]) C dX16_word_7 (pm_nl X (by decide)) rfl ?_
  obtain ⟨n, hn⟩ := pm_lim_iter hf
  exact pm_sub [3, 2, 1, 0] rfl ((lpX16_word C X q n) a0 0 0 128 h hn)
theorem dX16_zeros_0 : decode cX16_zeros 0 = .ok (.iconst 0, 1) := by decide +kernel
theorem dX16_zeros_1 : decode cX16_zeros 1 = .ok (.istore 4, 2) := by decide +kernel
theorem dX16_zeros_3 : decode cX16_zeros 3 = .ok (.iload 4, 2) := by decide +kernel
theorem dX16_zeros_5 : decode cX16_zeros 5 = .ok (.iload_n 2, 1) := by decide +kernel
theorem dX16_zeros_6 : decode cX16_zeros 6 = .ok (.if_icmp .ge 33, 3) := by decide +kernel
theorem dX16_zeros_9 : decode cX16_zeros 9 = .ok (.lload_n 0, 1) := by decide +kernel
theorem dX16_zeros_10 : decode cX16_zeros 10 = .ok (.iload_n 3, 1) := by decide +kernel
theorem dX16_zeros_11 : decode cX16_zeros 11 = .ok (.ifCond .eq 12, 3) := by decide +kernel
theorem dX16_zeros_14 : decode cX16_zeros 14 = .ok (.iload_n 2, 1) := by decide +kernel
theorem dX16_zeros_15 : decode cX16_zeros 15 = .ok (.iconst 1, 1) := by decide +kernel
theorem dX16_zeros_16 : decode cX16_zeros 16 = .ok (.isub, 1) := by decide +kernel
theorem dX16_zeros_17 : decode cX16_zeros 17 = .ok (.iload 4, 2) := by decide +kernel
theorem dX16_zeros_19 : decode cX16_zeros 19 = .ok (.isub, 1) := by decide +kernel
theorem dX16_zeros_20 : decode cX16_zeros 20 = .ok (.goto 5, 3) := by decide +kernel
theorem dX16_zeros_23 : decode cX16_zeros 23 = .ok (.iload 4, 2) := by decide +kernel
theorem dX16_zeros_25 : decode cX16_zeros 25 = .ok (.lushr, 1) := by decide +kernel
theorem dX16_zeros_26 : decode cX16_zeros 26 = .ok (.lconst 1, 1) := by decide +kernel
theorem dX16_zeros_27 : decode cX16_zeros 27 = .ok (.land, 1) := by decide +kernel
theorem dX16_zeros_28 : decode cX16_zeros 28 = .ok (.lconst 0, 1) := by decide +kernel
theorem dX16_zeros_29 : decode cX16_zeros 29 = .ok (.lcmp, 1) := by decide +kernel
theorem dX16_zeros_30 : decode cX16_zeros 30 = .ok (.ifCond .ne 9, 3) := by decide +kernel
theorem dX16_zeros_33 : decode cX16_zeros 33 = .ok (.iinc 4 1, 3) := by decide +kernel
theorem dX16_zeros_36 : decode cX16_zeros 36 = .ok (.goto (-33), 3) := by decide +kernel
theorem dX16_zeros_39 : decode cX16_zeros 39 = .ok (.iload 4, 2) := by decide +kernel
theorem dX16_zeros_41 : decode cX16_zeros 41 = .ok (.ireturn, 1) := by decide +kernel
def tX16_zeros_3 (x0 : Int64) (x2 : Int32) (x3 : Int32) (x4 : Int32) : Option (((Int64 × Int32 × Int32 × Int32)) ⊕ Int32) := if x2 ≤ x4 then (some (.inr (x4))) else (if x3 = 0 then (if (((x0.toUInt64 >>> (x4.toInt64.toUInt64 &&& Int64.toUInt64 63)).toInt64) &&& 1) = 0 then (pm_let (x4 + 1) fun y4 => some (.inl ((x0, x2, x3, y4)))) else (some (.inr (x4)))) else (if (((x0.toUInt64 >>> (((x2 - 1) - x4).toInt64.toUInt64 &&& Int64.toUInt64 63)).toInt64) &&& 1) = 0 then (pm_let (x4 + 1) fun y7 => some (.inl ((x0, x2, x3, y7)))) else (some (.inr (x4)))))
def sX16_zeros : ((Int64 × Int32 × Int32 × Int32)) → Option (((Int64 × Int32 × Int32 × Int32)) ⊕ Int32) := fun z => match z with
  | (x0, x2, x3, x4) => tX16_zeros_3 x0 x2 x3 x4
noncomputable def fX16_zeros (p1 : Int64) (p2 : Int32) (p3 : Int32) : Option Int32 := pm_lim sX16_zeros ((p1, p2, p3, 0))
set_option maxHeartbeats 4000000 in
set_option maxRecDepth 100000 in
theorem lpX16_zeros {g : pm_Gm} {l : Launch} {G : pm_Gl} {Qr : Option Value → pm_H → Prop} (C : pm_C g cX16_zeros RX16) (X : pm_X g l G mX16_zeros 0 0 Qr) {h : pm_H} {r : Int32} (q : Qr (some (.int r)) h) : ∀ n : Nat, (∀ (x0 : Int64) (x2 : Int32) (x3 : Int32) (x4 : Int32), pm_iter sX16_zeros n (x0, x2, x3, x4) = some r → pm_G g 3 [(0, .long x0), (2, .int x2), (3, .int x3), (4, .int x4)] [] h 0 0) := by
  intro n
  induction n with
  | zero => exact fun _ _ _ _ hf => (by cases hf)
  | succ n ih =>
    refine fun x0 x2 x3 x4 hf => ?_
    obtain ⟨y, hf, hi⟩ := pm_iter_s hf
    have hf : tX16_zeros_3 x0 x2 x3 x4 = some y := hf
    unfold tX16_zeros_3 at hf
    refine pm_iload C dX16_zeros_3 rfl ?_
    refine pm_iload_n C dX16_zeros_5 rfl rfl ?_
    refine pm_icmp_ge (tgt := 39) C dX16_zeros_6 (by decide) (fun c1 => ?_) (fun c1 => ?_)
    · have hf := pm_it hf c1
      refine pm_iload C dX16_zeros_39 rfl ?_
      cases hf
      cases hi
      exact pm_iret C X dX16_zeros_41 rfl (Nat.le_refl _) (Nat.le_refl _) q
    · have hf := pm_ie hf c1
      refine pm_lload_n C dX16_zeros_9 rfl rfl ?_
      refine pm_iload_n C dX16_zeros_10 rfl rfl ?_
      refine pm_if_eq (tgt := 23) C dX16_zeros_11 (by decide) (fun c2 => ?_) (fun c2 => ?_)
      · have hf := pm_it hf c2
        refine pm_iload C dX16_zeros_23 rfl ?_
        refine pm_lushr C dX16_zeros_25 ?_
        refine pm_lconst (v := 1) C dX16_zeros_26 (by decide) ?_
        refine pm_land C dX16_zeros_27 ?_
        refine pm_lconst (v := 0) C dX16_zeros_28 (by decide) ?_
        refine pm_lcmp C dX16_zeros_29 ?_
        refine pm_if_ne (tgt := 39) C dX16_zeros_30 (by decide) (fun c3 => ?_) (fun c3 => ?_)
        · have hf := pm_ie hf ((fun z => c3 ((pm_lg_eq _ _).mpr z)))
          refine pm_iload C dX16_zeros_39 rfl ?_
          cases hf
          cases hi
          exact pm_iret C X dX16_zeros_41 rfl (Nat.le_refl _) (Nat.le_refl _) q
        · have hf := pm_it hf ((pm_lg_eq _ _).mp c3)
          obtain ⟨y4, e5, hf⟩ := pm_lt hf
          refine pm_iinc (v := y4) (lv' := [(4, .int y4), (0, .long x0), (2, .int x2), (3, .int x3)]) C dX16_zeros_33 rfl ((congrArg (x4 + ·) (by decide : Int32.ofInt 1 = 1)).trans e5) (pm_nl X (by decide)) rfl ?_
          refine pm_goto (tgt := 3) C dX16_zeros_36 (by decide) ?_
          cases hf
          exact pm_sub [1, 2, 3, 0] rfl (ih x0 x2 x3 y4 hi)
      · have hf := pm_ie hf c2
        refine pm_iload_n C dX16_zeros_14 rfl rfl ?_
        refine pm_iconst (v := 1) C dX16_zeros_15 (by decide) ?_
        refine pm_isub C dX16_zeros_16 ?_
        refine pm_iload C dX16_zeros_17 rfl ?_
        refine pm_isub C dX16_zeros_19 ?_
        refine pm_goto (tgt := 25) C dX16_zeros_20 (by decide) ?_
        refine pm_lushr C dX16_zeros_25 ?_
        refine pm_lconst (v := 1) C dX16_zeros_26 (by decide) ?_
        refine pm_land C dX16_zeros_27 ?_
        refine pm_lconst (v := 0) C dX16_zeros_28 (by decide) ?_
        refine pm_lcmp C dX16_zeros_29 ?_
        refine pm_if_ne (tgt := 39) C dX16_zeros_30 (by decide) (fun c6 => ?_) (fun c6 => ?_)
        · have hf := pm_ie hf ((fun z => c6 ((pm_lg_eq _ _).mpr z)))
          refine pm_iload C dX16_zeros_39 rfl ?_
          cases hf
          cases hi
          exact pm_iret C X dX16_zeros_41 rfl (Nat.le_refl _) (Nat.le_refl _) q
        · have hf := pm_it hf ((pm_lg_eq _ _).mp c6)
          obtain ⟨y7, e8, hf⟩ := pm_lt hf
          refine pm_iinc (v := y7) (lv' := [(4, .int y7), (0, .long x0), (2, .int x2), (3, .int x3)]) C dX16_zeros_33 rfl ((congrArg (x4 + ·) (by decide : Int32.ofInt 1 = 1)).trans e8) (pm_nl X (by decide)) rfl ?_
          refine pm_goto (tgt := 3) C dX16_zeros_36 (by decide) ?_
          cases hf
          exact pm_sub [1, 2, 3, 0] rfl (ih x0 x2 x3 y7 hi)
set_option maxHeartbeats 4000000 in
set_option maxRecDepth 100000 in
theorem ctX16_zeros {l : Launch} {G : pm_Gl} {h : pm_H} {p1 : Int64} {p2 : Int32} {p3 : Int32} {r : Int32} {Qr : Option Value → pm_H → Prop} (hf : fX16_zeros p1 p2 p3 = some r) (q : Qr (some (.int r)) h) : pm_Ct l G mX16_zeros [.long p1, .int p2, .int p3] h 0 0 Qr := by
  refine pm_body pnX16 (Nat.le_of_ble_eq_true rfl) (fun g C X => ?_)
  have C : pm_C g cX16_zeros RX16 := C
  show pm_G g 0 [(0, .long p1), (2, .int p2), (3, .int p3)] [] h 0 0
  unfold fX16_zeros at hf
  refine pm_iconst (v := 0) C dX16_zeros_0 (by decide) ?_
  refine pm_istore (lv' := [(4, .int 0), (0, .long p1), (2, .int p2), (3, .int p3)]) C dX16_zeros_1 (pm_nl X (by decide)) rfl ?_
  obtain ⟨n, hn⟩ := pm_lim_iter hf
  exact pm_sub [1, 2, 3, 0] rfl ((lpX16_zeros C X q n) p1 p2 p3 0 hn)
theorem dX0_aim_0 : decode cX0_aim 0 = .ok (.aload_n 0, 1) := by decide +kernel
theorem dX0_aim_1 : decode cX0_aim 1 = .ok (.getfield 29, 3) := by decide +kernel
theorem dX0_aim_4 : decode cX0_aim 4 = .ok (.iload_n 1, 1) := by decide +kernel
theorem dX0_aim_5 : decode cX0_aim 5 = .ok (.iconst 5, 1) := by decide +kernel
theorem dX0_aim_6 : decode cX0_aim 6 = .ok (.imul, 1) := by decide +kernel
theorem dX0_aim_7 : decode cX0_aim 7 = .ok (.iconst 1, 1) := by decide +kernel
theorem dX0_aim_8 : decode cX0_aim 8 = .ok (.iadd, 1) := by decide +kernel
theorem dX0_aim_9 : decode cX0_aim 9 = .ok (.iload_n 2, 1) := by decide +kernel
theorem dX0_aim_10 : decode cX0_aim 10 = .ok (.invokestatic 36, 3) := by decide +kernel
theorem dX0_aim_13 : decode cX0_aim 13 = .ok (.return_, 1) := by decide +kernel
def fX0_aim (h : pm_H) (a0 : Nat) (p1 : Int32) (p2 : Int32) : Option pm_H := if pm_kd h a0 = 0 then (pm_R h a0 1).bind fun v2 => (fX12_setItem h v2 ((p1 * 5) + 1) p2).bind fun v4 => some v4 else none
set_option maxHeartbeats 4000000 in
set_option maxRecDepth 100000 in
theorem ctX0_aim {l : Launch} {G : pm_Gl} {h : pm_H} {a0 : Nat} {p1 : Int32} {p2 : Int32} {r : pm_H} {Qr : Option Value → pm_H → Prop} (hf : fX0_aim h a0 p1 p2 = some r) (q : Qr none r) : pm_Ct l G mX0_aim [.ref a0, .int p1, .int p2] h 0 0 Qr := by
  refine pm_body pnX0 (Nat.le_of_ble_eq_true rfl) (fun g C X => ?_)
  have C : pm_C g cX0_aim RX0 := C
  show pm_G g 0 [(0, .ref a0), (1, .int p1), (2, .int p2)] [] h 0 0
  unfold fX0_aim at hf
  refine pm_aload_n C dX0_aim_0 rfl rfl ?_
  obtain ⟨k1, hf⟩ := pm_if hf
  obtain ⟨v2, e3, hf⟩ := pm_bd hf
  refine pm_getR C dX0_aim_1 flX0_29 rfl k1 e3 ?_
  refine pm_iload_n C dX0_aim_4 rfl rfl ?_
  refine pm_iconst (v := 5) C dX0_aim_5 (by decide) ?_
  refine pm_imul C dX0_aim_6 ?_
  refine pm_iconst (v := 1) C dX0_aim_7 (by decide) ?_
  refine pm_iadd C dX0_aim_8 ?_
  refine pm_iload_n C dX0_aim_9 rfl rfl ?_
  obtain ⟨v4, e5, hf⟩ := pm_bd hf
  refine pm_callS (as := [.ref v2, .int ((p1 * 5) + 1), .int p2]) (st := []) C X dX0_aim_10 lnX0_36 myX12_setItem stX12_setItem ⟨by decide, by decide⟩ rfl rfl (Nat.le_of_ble_eq_true rfl) (Nat.le_refl _) (Nat.le_refl _) (ctX12_setItem e5 ?_)
  show pm_G g 13 [(0, .ref a0), (1, .int p1), (2, .int p2)] [] v4 0 0
  cases hf
  exact pm_vret C X dX0_aim_13 rfl (Nat.le_refl _) (Nat.le_refl _) q
theorem dX1_aimCondition_0 : decode cX1_aimCondition 0 = .ok (.aload_n 0, 1) := by decide +kernel
theorem dX1_aimCondition_1 : decode cX1_aimCondition 1 = .ok (.iload_n 1, 1) := by decide +kernel
theorem dX1_aimCondition_2 : decode cX1_aimCondition 2 = .ok (.bipush 6, 2) := by decide +kernel
theorem dX1_aimCondition_4 : decode cX1_aimCondition 4 = .ok (.invokevirtual 284, 3) := by decide +kernel
theorem dX1_aimCondition_7 : decode cX1_aimCondition 7 = .ok (.istore_n 2, 1) := by decide +kernel
theorem dX1_aimCondition_8 : decode cX1_aimCondition 8 = .ok (.aload_n 0, 1) := by decide +kernel
theorem dX1_aimCondition_9 : decode cX1_aimCondition 9 = .ok (.iload_n 1, 1) := by decide +kernel
theorem dX1_aimCondition_10 : decode cX1_aimCondition 10 = .ok (.iconst 0, 1) := by decide +kernel
theorem dX1_aimCondition_11 : decode cX1_aimCondition 11 = .ok (.invokevirtual 284, 3) := by decide +kernel
theorem dX1_aimCondition_14 : decode cX1_aimCondition 14 = .ok (.iconst 4, 1) := by decide +kernel
theorem dX1_aimCondition_15 : decode cX1_aimCondition 15 = .ok (.if_icmp .ne 22, 3) := by decide +kernel
theorem dX1_aimCondition_18 : decode cX1_aimCondition 18 = .ok (.iload_n 2, 1) := by decide +kernel
theorem dX1_aimCondition_19 : decode cX1_aimCondition 19 = .ok (.ifCond .lt 18, 3) := by decide +kernel
theorem dX1_aimCondition_22 : decode cX1_aimCondition 22 = .ok (.aload_n 0, 1) := by decide +kernel
theorem dX1_aimCondition_23 : decode cX1_aimCondition 23 = .ok (.getfield 49, 3) := by decide +kernel
theorem dX1_aimCondition_26 : decode cX1_aimCondition 26 = .ok (.iload_n 2, 1) := by decide +kernel
theorem dX1_aimCondition_27 : decode cX1_aimCondition 27 = .ok (.aload_n 0, 1) := by decide +kernel
theorem dX1_aimCondition_28 : decode cX1_aimCondition 28 = .ok (.getfield 49, 3) := by decide +kernel
theorem dX1_aimCondition_31 : decode cX1_aimCondition 31 = .ok (.getfield 391, 3) := by decide +kernel
theorem dX1_aimCondition_34 : decode cX1_aimCondition 34 = .ok (.invokevirtual 403, 3) := by decide +kernel
theorem dX1_aimCondition_37 : decode cX1_aimCondition 37 = .ok (.return_, 1) := by decide +kernel
def fX1_aimCondition (h : pm_H) (a0 : Nat) (p1 : Int32) : Option pm_H := if pm_kd h a0 = 1 then (fX1_label h a0 p1 6).bind fun v2 => (fX1_label h a0 p1 0).bind fun v4 => if v4 = 4 then (if v2 < 0 then (some h) else ((pm_R h a0 17).bind fun v8 => if pm_kd h v8 = 0 then (fX0_aim h v8 v2 (pm_I h v8 2)).bind fun v11 => some v11 else none)) else (some h) else none
set_option maxHeartbeats 4000000 in
set_option maxRecDepth 100000 in
theorem ctX1_aimCondition {l : Launch} {G : pm_Gl} {h : pm_H} {a0 : Nat} {p1 : Int32} {r : pm_H} {Qr : Option Value → pm_H → Prop} (hf : fX1_aimCondition h a0 p1 = some r) (q : Qr none r) : pm_Ct l G mX1_aimCondition [.ref a0, .int p1] h 0 0 Qr := by
  refine pm_body pnX1 (Nat.le_of_ble_eq_true rfl) (fun g C X => ?_)
  have C : pm_C g cX1_aimCondition RX1 := C
  show pm_G g 0 [(0, .ref a0), (1, .int p1)] [] h 0 0
  unfold fX1_aimCondition at hf
  refine pm_aload_n C dX1_aimCondition_0 rfl rfl ?_
  refine pm_iload_n C dX1_aimCondition_1 rfl rfl ?_
  refine pm_bipush (v := 6) C dX1_aimCondition_2 (by decide) ?_
  obtain ⟨k1, hf⟩ := pm_if hf
  obtain ⟨v2, e3, hf⟩ := pm_bd hf
  refine pm_callV (as := [.int p1, .int 6]) (st := []) C X dX1_aimCondition_4 lnX1_284 myX1_label viX1_label ⟨by decide, by decide⟩ rfl rfl k1 (Nat.le_of_ble_eq_true rfl) (Nat.le_refl _) (Nat.le_refl _) (ctX1_label e3 ?_)
  show pm_G g 7 [(0, .ref a0), (1, .int p1)] [.int v2] h 0 0
  refine pm_istore_n (lv' := [(2, .int v2), (0, .ref a0), (1, .int p1)]) C dX1_aimCondition_7 rfl (pm_nl X (by decide)) rfl ?_
  refine pm_aload_n C dX1_aimCondition_8 rfl rfl ?_
  refine pm_iload_n C dX1_aimCondition_9 rfl rfl ?_
  refine pm_iconst (v := 0) C dX1_aimCondition_10 (by decide) ?_
  obtain ⟨v4, e5, hf⟩ := pm_bd hf
  refine pm_callV (as := [.int p1, .int 0]) (st := []) C X dX1_aimCondition_11 lnX1_284 myX1_label viX1_label ⟨by decide, by decide⟩ rfl rfl k1 (Nat.le_of_ble_eq_true rfl) (Nat.le_refl _) (Nat.le_refl _) (ctX1_label e5 ?_)
  show pm_G g 14 [(2, .int v2), (0, .ref a0), (1, .int p1)] [.int v4] h 0 0
  refine pm_iconst (v := 4) C dX1_aimCondition_14 (by decide) ?_
  refine pm_icmp_ne (tgt := 37) C dX1_aimCondition_15 (by decide) (fun c6 => ?_) (fun c6 => ?_)
  · have hf := pm_ie hf c6
    cases hf
    exact pm_vret C X dX1_aimCondition_37 rfl (Nat.le_refl _) (Nat.le_refl _) q
  · have hf := pm_it hf c6
    refine pm_iload_n C dX1_aimCondition_18 rfl rfl ?_
    refine pm_if_lt (tgt := 37) C dX1_aimCondition_19 (by decide) (fun c7 => ?_) (fun c7 => ?_)
    · have hf := pm_it hf c7
      cases hf
      exact pm_vret C X dX1_aimCondition_37 rfl (Nat.le_refl _) (Nat.le_refl _) q
    · have hf := pm_ie hf c7
      refine pm_aload_n C dX1_aimCondition_22 rfl rfl ?_
      obtain ⟨v8, e9, hf⟩ := pm_bd hf
      refine pm_getR C dX1_aimCondition_23 flX1_49 rfl k1 e9 ?_
      refine pm_iload_n C dX1_aimCondition_26 rfl rfl ?_
      refine pm_aload_n C dX1_aimCondition_27 rfl rfl ?_
      refine pm_getR C dX1_aimCondition_28 flX1_49 rfl k1 e9 ?_
      obtain ⟨k10, hf⟩ := pm_if hf
      refine pm_getI C dX1_aimCondition_31 flX1_391 rfl k10 rfl ?_
      obtain ⟨v11, e12, hf⟩ := pm_bd hf
      refine pm_callV (as := [.int v2, .int (pm_I h v8 2)]) (st := []) C X dX1_aimCondition_34 lnX1_403 myX0_aim viX0_aim ⟨by decide, by decide⟩ rfl rfl k10 (Nat.le_of_ble_eq_true rfl) (Nat.le_refl _) (Nat.le_refl _) (ctX0_aim e12 ?_)
      show pm_G g 37 [(2, .int v2), (0, .ref a0), (1, .int p1)] [] v11 0 0
      cases hf
      exact pm_vret C X dX1_aimCondition_37 rfl (Nat.le_refl _) (Nat.le_refl _) q
theorem dX1_failSection_0 : decode cX1_failSection 0 = .ok (.aload_n 0, 1) := by decide +kernel
theorem dX1_failSection_1 : decode cX1_failSection 1 = .ok (.iload_n 1, 1) := by decide +kernel
theorem dX1_failSection_2 : decode cX1_failSection 2 = .ok (.aload_n 0, 1) := by decide +kernel
theorem dX1_failSection_3 : decode cX1_failSection 3 = .ok (.getfield 40, 3) := by decide +kernel
theorem dX1_failSection_6 : decode cX1_failSection 6 = .ok (.getfield 102, 3) := by decide +kernel
theorem dX1_failSection_9 : decode cX1_failSection 9 = .ok (.iload_n 2, 1) := by decide +kernel
theorem dX1_failSection_10 : decode cX1_failSection 10 = .ok (.invokestatic 105, 3) := by decide +kernel
theorem dX1_failSection_13 : decode cX1_failSection 13 = .ok (.invokevirtual 66, 3) := by decide +kernel
theorem dX1_failSection_16 : decode cX1_failSection 16 = .ok (.return_, 1) := by decide +kernel
def fX1_failSection (h : pm_H) (a0 : Nat) (p1 : Int32) (p2 : Int32) : Option pm_H := if pm_kd h a0 = 1 then (pm_R h a0 2).bind fun v2 => if pm_kd h v2 = 7 then (pm_R h v2 1).bind fun v5 => (fX12_item h v5 p2).bind fun v7 => (fX1_failAt h a0 p1 v7).bind fun v9 => some v9 else none else none
set_option maxHeartbeats 4000000 in
set_option maxRecDepth 100000 in
theorem ctX1_failSection {l : Launch} {G : pm_Gl} {h : pm_H} {a0 : Nat} {p1 : Int32} {p2 : Int32} {r : pm_H} {Qr : Option Value → pm_H → Prop} (hf : fX1_failSection h a0 p1 p2 = some r) (q : Qr none r) : pm_Ct l G mX1_failSection [.ref a0, .int p1, .int p2] h 0 0 Qr := by
  refine pm_body pnX1 (Nat.le_of_ble_eq_true rfl) (fun g C X => ?_)
  have C : pm_C g cX1_failSection RX1 := C
  show pm_G g 0 [(0, .ref a0), (1, .int p1), (2, .int p2)] [] h 0 0
  unfold fX1_failSection at hf
  refine pm_aload_n C dX1_failSection_0 rfl rfl ?_
  refine pm_iload_n C dX1_failSection_1 rfl rfl ?_
  refine pm_aload_n C dX1_failSection_2 rfl rfl ?_
  obtain ⟨k1, hf⟩ := pm_if hf
  obtain ⟨v2, e3, hf⟩ := pm_bd hf
  refine pm_getR C dX1_failSection_3 flX1_40 rfl k1 e3 ?_
  obtain ⟨k4, hf⟩ := pm_if hf
  obtain ⟨v5, e6, hf⟩ := pm_bd hf
  refine pm_getR C dX1_failSection_6 flX1_102 rfl k4 e6 ?_
  refine pm_iload_n C dX1_failSection_9 rfl rfl ?_
  obtain ⟨v7, e8, hf⟩ := pm_bd hf
  refine pm_callS (as := [.ref v5, .int p2]) (st := [.int p1, .ref a0]) C X dX1_failSection_10 lnX1_105 myX12_item stX12_item ⟨by decide, by decide⟩ rfl rfl (Nat.le_of_ble_eq_true rfl) (Nat.le_refl _) (Nat.le_refl _) (ctX12_item e8 ?_)
  show pm_G g 13 [(0, .ref a0), (1, .int p1), (2, .int p2)] [.int v7, .int p1, .ref a0] h 0 0
  obtain ⟨v9, e10, hf⟩ := pm_bd hf
  refine pm_callV (as := [.int p1, .int v7]) (st := []) C X dX1_failSection_13 lnX1_66 myX1_failAt viX1_failAt ⟨by decide, by decide⟩ rfl rfl k1 (Nat.le_of_ble_eq_true rfl) (Nat.le_refl _) (Nat.le_refl _) (ctX1_failAt e10 ?_)
  show pm_G g 16 [(0, .ref a0), (1, .int p1), (2, .int p2)] [] v9 0 0
  cases hf
  exact pm_vret C X dX1_failSection_16 rfl (Nat.le_refl _) (Nat.le_refl _) q
theorem dX1_isEmitting_0 : decode cX1_isEmitting 0 = .ok (.aload_n 0, 1) := by decide +kernel
theorem dX1_isEmitting_1 : decode cX1_isEmitting 1 = .ok (.getfield 220, 3) := by decide +kernel
theorem dX1_isEmitting_4 : decode cX1_isEmitting 4 = .ok (.iconst 1, 1) := by decide +kernel
theorem dX1_isEmitting_5 : decode cX1_isEmitting 5 = .ok (.isub, 1) := by decide +kernel
theorem dX1_isEmitting_6 : decode cX1_isEmitting 6 = .ok (.istore_n 1, 1) := by decide +kernel
theorem dX1_isEmitting_7 : decode cX1_isEmitting 7 = .ok (.aload_n 0, 1) := by decide +kernel
theorem dX1_isEmitting_8 : decode cX1_isEmitting 8 = .ok (.iload_n 1, 1) := by decide +kernel
theorem dX1_isEmitting_9 : decode cX1_isEmitting 9 = .ok (.iconst 4, 1) := by decide +kernel
theorem dX1_isEmitting_10 : decode cX1_isEmitting 10 = .ok (.invokevirtual 284, 3) := by decide +kernel
theorem dX1_isEmitting_13 : decode cX1_isEmitting 13 = .ok (.ifCond .eq 16, 3) := by decide +kernel
theorem dX1_isEmitting_16 : decode cX1_isEmitting 16 = .ok (.aload_n 0, 1) := by decide +kernel
theorem dX1_isEmitting_17 : decode cX1_isEmitting 17 = .ok (.iload_n 1, 1) := by decide +kernel
theorem dX1_isEmitting_18 : decode cX1_isEmitting 18 = .ok (.iconst 3, 1) := by decide +kernel
theorem dX1_isEmitting_19 : decode cX1_isEmitting 19 = .ok (.invokevirtual 284, 3) := by decide +kernel
theorem dX1_isEmitting_22 : decode cX1_isEmitting 22 = .ok (.ifCond .ne 7, 3) := by decide +kernel
theorem dX1_isEmitting_25 : decode cX1_isEmitting 25 = .ok (.iconst 1, 1) := by decide +kernel
theorem dX1_isEmitting_26 : decode cX1_isEmitting 26 = .ok (.goto 4, 3) := by decide +kernel
theorem dX1_isEmitting_29 : decode cX1_isEmitting 29 = .ok (.iconst 0, 1) := by decide +kernel
theorem dX1_isEmitting_30 : decode cX1_isEmitting 30 = .ok (.ireturn, 1) := by decide +kernel
def fX1_isEmitting (h : pm_H) (a0 : Nat) : Option Int32 := if pm_kd h a0 = 1 then pm_let ((pm_I h a0 10) - 1) fun y2 => (fX1_label h a0 y2 4).bind fun v4 => if v4 = 0 then (some 0) else ((fX1_label h a0 y2 3).bind fun v7 => if v7 = 0 then (some 1) else (some 0)) else none
set_option maxHeartbeats 4000000 in
set_option maxRecDepth 100000 in
theorem ctX1_isEmitting {l : Launch} {G : pm_Gl} {h : pm_H} {a0 : Nat} {r : Int32} {Qr : Option Value → pm_H → Prop} (hf : fX1_isEmitting h a0 = some r) (q : Qr (some (.int r)) h) : pm_Ct l G mX1_isEmitting [.ref a0] h 0 0 Qr := by
  refine pm_body pnX1 (Nat.le_of_ble_eq_true rfl) (fun g C X => ?_)
  have C : pm_C g cX1_isEmitting RX1 := C
  show pm_G g 0 [(0, .ref a0)] [] h 0 0
  unfold fX1_isEmitting at hf
  refine pm_aload_n C dX1_isEmitting_0 rfl rfl ?_
  obtain ⟨k1, hf⟩ := pm_if hf
  refine pm_getI C dX1_isEmitting_1 flX1_220 rfl k1 rfl ?_
  refine pm_iconst (v := 1) C dX1_isEmitting_4 (by decide) ?_
  refine pm_isub C dX1_isEmitting_5 ?_
  obtain ⟨y2, e3, hf⟩ := pm_lt hf
  refine pm_topI e3 ?_
  refine pm_istore_n (lv' := [(1, .int y2), (0, .ref a0)]) C dX1_isEmitting_6 rfl (pm_nl X (by decide)) rfl ?_
  refine pm_aload_n C dX1_isEmitting_7 rfl rfl ?_
  refine pm_iload_n C dX1_isEmitting_8 rfl rfl ?_
  refine pm_iconst (v := 4) C dX1_isEmitting_9 (by decide) ?_
  obtain ⟨v4, e5, hf⟩ := pm_bd hf
  refine pm_callV (as := [.int y2, .int 4]) (st := []) C X dX1_isEmitting_10 lnX1_284 myX1_label viX1_label ⟨by decide, by decide⟩ rfl rfl k1 (Nat.le_of_ble_eq_true rfl) (Nat.le_refl _) (Nat.le_refl _) (ctX1_label e5 ?_)
  show pm_G g 13 [(1, .int y2), (0, .ref a0)] [.int v4] h 0 0
  refine pm_if_eq (tgt := 29) C dX1_isEmitting_13 (by decide) (fun c6 => ?_) (fun c6 => ?_)
  · have hf := pm_it hf c6
    refine pm_iconst (v := 0) C dX1_isEmitting_29 (by decide) ?_
    cases hf
    exact pm_zret C X dX1_isEmitting_30 rfl (by decide) (Nat.le_refl _) (Nat.le_refl _) q
  · have hf := pm_ie hf c6
    refine pm_aload_n C dX1_isEmitting_16 rfl rfl ?_
    refine pm_iload_n C dX1_isEmitting_17 rfl rfl ?_
    refine pm_iconst (v := 3) C dX1_isEmitting_18 (by decide) ?_
    obtain ⟨v7, e8, hf⟩ := pm_bd hf
    refine pm_callV (as := [.int y2, .int 3]) (st := []) C X dX1_isEmitting_19 lnX1_284 myX1_label viX1_label ⟨by decide, by decide⟩ rfl rfl k1 (Nat.le_of_ble_eq_true rfl) (Nat.le_refl _) (Nat.le_refl _) (ctX1_label e8 ?_)
    show pm_G g 22 [(1, .int y2), (0, .ref a0)] [.int v7] h 0 0
    refine pm_if_ne (tgt := 29) C dX1_isEmitting_22 (by decide) (fun c9 => ?_) (fun c9 => ?_)
    · have hf := pm_ie hf c9
      refine pm_iconst (v := 0) C dX1_isEmitting_29 (by decide) ?_
      cases hf
      exact pm_zret C X dX1_isEmitting_30 rfl (by decide) (Nat.le_refl _) (Nat.le_refl _) q
    · have hf := pm_it hf c9
      refine pm_iconst (v := 1) C dX1_isEmitting_25 (by decide) ?_
      refine pm_goto (tgt := 30) C dX1_isEmitting_26 (by decide) ?_
      cases hf
      exact pm_zret C X dX1_isEmitting_30 rfl (by decide) (Nat.le_refl _) (Nat.le_refl _) q
theorem dX1_isLimited_0 : decode cX1_isLimited 0 = .ok (.aload_n 0, 1) := by decide +kernel
theorem dX1_isLimited_1 : decode cX1_isLimited 1 = .ok (.iload_n 1, 1) := by decide +kernel
theorem dX1_isLimited_2 : decode cX1_isLimited 2 = .ok (.iconst 3, 1) := by decide +kernel
theorem dX1_isLimited_3 : decode cX1_isLimited 3 = .ok (.iadd, 1) := by decide +kernel
theorem dX1_isLimited_4 : decode cX1_isLimited 4 = .ok (.invokestatic 113, 3) := by decide +kernel
theorem dX1_isLimited_7 : decode cX1_isLimited 7 = .ok (.lstore_n 2, 1) := by decide +kernel
theorem dX1_isLimited_8 : decode cX1_isLimited 8 = .ok (.aload_n 0, 1) := by decide +kernel
theorem dX1_isLimited_9 : decode cX1_isLimited 9 = .ok (.iload_n 1, 1) := by decide +kernel
theorem dX1_isLimited_10 : decode cX1_isLimited 10 = .ok (.iconst 4, 1) := by decide +kernel
theorem dX1_isLimited_11 : decode cX1_isLimited 11 = .ok (.iadd, 1) := by decide +kernel
theorem dX1_isLimited_12 : decode cX1_isLimited 12 = .ok (.invokestatic 113, 3) := by decide +kernel
theorem dX1_isLimited_15 : decode cX1_isLimited 15 = .ok (.lstore 4, 2) := by decide +kernel
theorem dX1_isLimited_17 : decode cX1_isLimited 17 = .ok (.aload_n 0, 1) := by decide +kernel
theorem dX1_isLimited_18 : decode cX1_isLimited 18 = .ok (.iload_n 1, 1) := by decide +kernel
theorem dX1_isLimited_19 : decode cX1_isLimited 19 = .ok (.iconst 0, 1) := by decide +kernel
theorem dX1_isLimited_20 : decode cX1_isLimited 20 = .ok (.iadd, 1) := by decide +kernel
theorem dX1_isLimited_21 : decode cX1_isLimited 21 = .ok (.invokestatic 113, 3) := by decide +kernel
theorem dX1_isLimited_24 : decode cX1_isLimited 24 = .ok (.ldc2_w 139, 3) := by decide +kernel
theorem dX1_isLimited_27 : decode cX1_isLimited 27 = .ok (.lcmp, 1) := by decide +kernel
theorem dX1_isLimited_28 : decode cX1_isLimited 28 = .ok (.ifCond .ne 7, 3) := by decide +kernel
theorem dX1_isLimited_31 : decode cX1_isLimited 31 = .ok (.iconst 1, 1) := by decide +kernel
theorem dX1_isLimited_32 : decode cX1_isLimited 32 = .ok (.goto 4, 3) := by decide +kernel
theorem dX1_isLimited_35 : decode cX1_isLimited 35 = .ok (.iconst 0, 1) := by decide +kernel
theorem dX1_isLimited_36 : decode cX1_isLimited 36 = .ok (.istore 6, 2) := by decide +kernel
theorem dX1_isLimited_38 : decode cX1_isLimited 38 = .ok (.iload 6, 2) := by decide +kernel
theorem dX1_isLimited_40 : decode cX1_isLimited 40 = .ok (.ifCond .eq 22, 3) := by decide +kernel
theorem dX1_isLimited_43 : decode cX1_isLimited 43 = .ok (.lload_n 2, 1) := by decide +kernel
theorem dX1_isLimited_44 : decode cX1_isLimited 44 = .ok (.ldc2_w 141, 3) := by decide +kernel
theorem dX1_isLimited_47 : decode cX1_isLimited 47 = .ok (.lcmp, 1) := by decide +kernel
theorem dX1_isLimited_48 : decode cX1_isLimited 48 = .ok (.ifCond .gt 12, 3) := by decide +kernel
theorem dX1_isLimited_51 : decode cX1_isLimited 51 = .ok (.lload 4, 2) := by decide +kernel
theorem dX1_isLimited_53 : decode cX1_isLimited 53 = .ok (.ldc2_w 141, 3) := by decide +kernel
theorem dX1_isLimited_56 : decode cX1_isLimited 56 = .ok (.lcmp, 1) := by decide +kernel
theorem dX1_isLimited_57 : decode cX1_isLimited 57 = .ok (.ifCond .le 5, 3) := by decide +kernel
theorem dX1_isLimited_60 : decode cX1_isLimited 60 = .ok (.iconst 0, 1) := by decide +kernel
theorem dX1_isLimited_61 : decode cX1_isLimited 61 = .ok (.ireturn, 1) := by decide +kernel
theorem dX1_isLimited_62 : decode cX1_isLimited 62 = .ok (.lload 4, 2) := by decide +kernel
theorem dX1_isLimited_64 : decode cX1_isLimited 64 = .ok (.lconst 0, 1) := by decide +kernel
theorem dX1_isLimited_65 : decode cX1_isLimited 65 = .ok (.lcmp, 1) := by decide +kernel
theorem dX1_isLimited_66 : decode cX1_isLimited 66 = .ok (.ifCond .lt 10, 3) := by decide +kernel
theorem dX1_isLimited_69 : decode cX1_isLimited 69 = .ok (.lload_n 2, 1) := by decide +kernel
theorem dX1_isLimited_70 : decode cX1_isLimited 70 = .ok (.lload 4, 2) := by decide +kernel
theorem dX1_isLimited_72 : decode cX1_isLimited 72 = .ok (.lcmp, 1) := by decide +kernel
theorem dX1_isLimited_73 : decode cX1_isLimited 73 = .ok (.ifCond .gt 7, 3) := by decide +kernel
theorem dX1_isLimited_76 : decode cX1_isLimited 76 = .ok (.iconst 1, 1) := by decide +kernel
theorem dX1_isLimited_77 : decode cX1_isLimited 77 = .ok (.goto 4, 3) := by decide +kernel
theorem dX1_isLimited_80 : decode cX1_isLimited 80 = .ok (.iconst 0, 1) := by decide +kernel
theorem dX1_isLimited_81 : decode cX1_isLimited 81 = .ok (.ireturn, 1) := by decide +kernel
def fX1_isLimited_b36 (h : pm_H) (x2 : Int64) (x4 : Int64) (s0 : Int32) : Option Int32 := if s0 = 0 then (if x4 < 0 then (some 1) else (if x4 < x2 then (some 0) else (some 1))) else (if 65536 < x2 then (some 0) else (if x4 ≤ 65536 then (if x4 < 0 then (some 1) else (if x4 < x2 then (some 0) else (some 1))) else (some 0)))
def fX1_isLimited (h : pm_H) (p1 : Nat) (p2 : Int32) : Option Int32 := (fX12_item_ h p1 (p2 + 3)).bind fun v1 => (fX12_item_ h p1 (p2 + 4)).bind fun v3 => (fX12_item_ h p1 (p2 + 0)).bind fun v5 => if v5 = 2 then (fX1_isLimited_b36 h v1 v3 1) else (fX1_isLimited_b36 h v1 v3 0)
set_option maxHeartbeats 4000000 in
set_option maxRecDepth 100000 in
theorem bX1_isLimited_36 {g : pm_Gm} {l : Launch} {G : pm_Gl} {Qr : Option Value → pm_H → Prop} (C : pm_C g cX1_isLimited RX1) (X : pm_X g l G mX1_isLimited 0 0 Qr) {h : pm_H} {x2 : Int64} {x4 : Int64} {s0 : Int32} {r : Int32} (hf : fX1_isLimited_b36 h x2 x4 s0 = some r) (q : Qr (some (.int r)) h) : pm_G g 36 [(2, .long x2), (4, .long x4)] [.int s0] h 0 0 := by
  unfold fX1_isLimited_b36 at hf
  refine pm_istore (lv' := [(6, .int s0), (2, .long x2), (4, .long x4)]) C dX1_isLimited_36 (pm_nl X (by decide)) rfl ?_
  refine pm_iload C dX1_isLimited_38 rfl ?_
  refine pm_if_eq (tgt := 62) C dX1_isLimited_40 (by decide) (fun c8 => ?_) (fun c8 => ?_)
  · have hf := pm_it hf c8
    refine pm_lload C dX1_isLimited_62 rfl ?_
    refine pm_lconst (v := 0) C dX1_isLimited_64 (by decide) ?_
    refine pm_lcmp C dX1_isLimited_65 ?_
    refine pm_if_lt (tgt := 76) C dX1_isLimited_66 (by decide) (fun c9 => ?_) (fun c9 => ?_)
    · have hf := pm_it hf ((pm_lg_lt _ _).mp c9)
      refine pm_iconst (v := 1) C dX1_isLimited_76 (by decide) ?_
      refine pm_goto (tgt := 81) C dX1_isLimited_77 (by decide) ?_
      cases hf
      exact pm_zret C X dX1_isLimited_81 rfl (by decide) (Nat.le_refl _) (Nat.le_refl _) q
    · have hf := pm_ie hf ((fun z => c9 ((pm_lg_lt _ _).mpr z)))
      refine pm_lload_n C dX1_isLimited_69 rfl rfl ?_
      refine pm_lload C dX1_isLimited_70 rfl ?_
      refine pm_lcmp C dX1_isLimited_72 ?_
      refine pm_if_gt (tgt := 80) C dX1_isLimited_73 (by decide) (fun c10 => ?_) (fun c10 => ?_)
      · have hf := pm_it hf ((pm_lg_gt _ _).mp c10)
        refine pm_iconst (v := 0) C dX1_isLimited_80 (by decide) ?_
        cases hf
        exact pm_zret C X dX1_isLimited_81 rfl (by decide) (Nat.le_refl _) (Nat.le_refl _) q
      · have hf := pm_ie hf ((fun z => c10 ((pm_lg_gt _ _).mpr z)))
        refine pm_iconst (v := 1) C dX1_isLimited_76 (by decide) ?_
        refine pm_goto (tgt := 81) C dX1_isLimited_77 (by decide) ?_
        cases hf
        exact pm_zret C X dX1_isLimited_81 rfl (by decide) (Nat.le_refl _) (Nat.le_refl _) q
  · have hf := pm_ie hf c8
    refine pm_lload_n C dX1_isLimited_43 rfl rfl ?_
    refine pm_ldc2 C dX1_isLimited_44 cnX1_141 ?_
    refine pm_lcmp C dX1_isLimited_47 ?_
    refine pm_if_gt (tgt := 60) C dX1_isLimited_48 (by decide) (fun c11 => ?_) (fun c11 => ?_)
    · have hf := pm_it hf ((pm_lg_gt _ _).mp c11)
      refine pm_iconst (v := 0) C dX1_isLimited_60 (by decide) ?_
      cases hf
      exact pm_zret C X dX1_isLimited_61 rfl (by decide) (Nat.le_refl _) (Nat.le_refl _) q
    · have hf := pm_ie hf ((fun z => c11 ((pm_lg_gt _ _).mpr z)))
      refine pm_lload C dX1_isLimited_51 rfl ?_
      refine pm_ldc2 C dX1_isLimited_53 cnX1_141 ?_
      refine pm_lcmp C dX1_isLimited_56 ?_
      refine pm_if_le (tgt := 62) C dX1_isLimited_57 (by decide) (fun c12 => ?_) (fun c12 => ?_)
      · have hf := pm_it hf ((pm_lg_le _ _).mp c12)
        refine pm_lload C dX1_isLimited_62 rfl ?_
        refine pm_lconst (v := 0) C dX1_isLimited_64 (by decide) ?_
        refine pm_lcmp C dX1_isLimited_65 ?_
        refine pm_if_lt (tgt := 76) C dX1_isLimited_66 (by decide) (fun c13 => ?_) (fun c13 => ?_)
        · have hf := pm_it hf ((pm_lg_lt _ _).mp c13)
          refine pm_iconst (v := 1) C dX1_isLimited_76 (by decide) ?_
          refine pm_goto (tgt := 81) C dX1_isLimited_77 (by decide) ?_
          cases hf
          exact pm_zret C X dX1_isLimited_81 rfl (by decide) (Nat.le_refl _) (Nat.le_refl _) q
        · have hf := pm_ie hf ((fun z => c13 ((pm_lg_lt _ _).mpr z)))
          refine pm_lload_n C dX1_isLimited_69 rfl rfl ?_
          refine pm_lload C dX1_isLimited_70 rfl ?_
          refine pm_lcmp C dX1_isLimited_72 ?_
          refine pm_if_gt (tgt := 80) C dX1_isLimited_73 (by decide) (fun c14 => ?_) (fun c14 => ?_)
          · have hf := pm_it hf ((pm_lg_gt _ _).mp c14)
            refine pm_iconst (v := 0) C dX1_isLimited_80 (by decide) ?_
            cases hf
            exact pm_zret C X dX1_isLimited_81 rfl (by decide) (Nat.le_refl _) (Nat.le_refl _) q
          · have hf := pm_ie hf ((fun z => c14 ((pm_lg_gt _ _).mpr z)))
            refine pm_iconst (v := 1) C dX1_isLimited_76 (by decide) ?_
            refine pm_goto (tgt := 81) C dX1_isLimited_77 (by decide) ?_
            cases hf
            exact pm_zret C X dX1_isLimited_81 rfl (by decide) (Nat.le_refl _) (Nat.le_refl _) q
      · have hf := pm_ie hf ((fun z => c12 ((pm_lg_le _ _).mpr z)))
        refine pm_iconst (v := 0) C dX1_isLimited_60 (by decide) ?_
        cases hf
        exact pm_zret C X dX1_isLimited_61 rfl (by decide) (Nat.le_refl _) (Nat.le_refl _) q
set_option maxHeartbeats 4000000 in
set_option maxRecDepth 100000 in
theorem ctX1_isLimited {l : Launch} {G : pm_Gl} {h : pm_H} {p1 : Nat} {p2 : Int32} {r : Int32} {Qr : Option Value → pm_H → Prop} (hf : fX1_isLimited h p1 p2 = some r) (q : Qr (some (.int r)) h) : pm_Ct l G mX1_isLimited [.ref p1, .int p2] h 0 0 Qr := by
  refine pm_body pnX1 (Nat.le_of_ble_eq_true rfl) (fun g C X => ?_)
  have C : pm_C g cX1_isLimited RX1 := C
  show pm_G g 0 [(0, .ref p1), (1, .int p2)] [] h 0 0
  unfold fX1_isLimited at hf
  refine pm_aload_n C dX1_isLimited_0 rfl rfl ?_
  refine pm_iload_n C dX1_isLimited_1 rfl rfl ?_
  refine pm_iconst (v := 3) C dX1_isLimited_2 (by decide) ?_
  refine pm_iadd C dX1_isLimited_3 ?_
  obtain ⟨v1, e2, hf⟩ := pm_bd hf
  refine pm_callS (as := [.ref p1, .int (p2 + 3)]) (st := []) C X dX1_isLimited_4 lnX1_113 myX12_item_ stX12_item_ ⟨by decide, by decide⟩ rfl rfl (Nat.le_of_ble_eq_true rfl) (Nat.le_refl _) (Nat.le_refl _) (ctX12_item_ e2 ?_)
  show pm_G g 7 [(0, .ref p1), (1, .int p2)] [.long v1] h 0 0
  refine pm_lstore_n (lv' := [(2, .long v1), (0, .ref p1), (1, .int p2)]) C dX1_isLimited_7 rfl (pm_nl X (by decide)) rfl ?_
  refine pm_aload_n C dX1_isLimited_8 rfl rfl ?_
  refine pm_iload_n C dX1_isLimited_9 rfl rfl ?_
  refine pm_iconst (v := 4) C dX1_isLimited_10 (by decide) ?_
  refine pm_iadd C dX1_isLimited_11 ?_
  obtain ⟨v3, e4, hf⟩ := pm_bd hf
  refine pm_callS (as := [.ref p1, .int (p2 + 4)]) (st := []) C X dX1_isLimited_12 lnX1_113 myX12_item_ stX12_item_ ⟨by decide, by decide⟩ rfl rfl (Nat.le_of_ble_eq_true rfl) (Nat.le_refl _) (Nat.le_refl _) (ctX12_item_ e4 ?_)
  show pm_G g 15 [(2, .long v1), (0, .ref p1), (1, .int p2)] [.long v3] h 0 0
  refine pm_lstore (lv' := [(4, .long v3), (2, .long v1), (0, .ref p1), (1, .int p2)]) C dX1_isLimited_15 (pm_nl X (by decide)) rfl ?_
  refine pm_aload_n C dX1_isLimited_17 rfl rfl ?_
  refine pm_iload_n C dX1_isLimited_18 rfl rfl ?_
  refine pm_iconst (v := 0) C dX1_isLimited_19 (by decide) ?_
  refine pm_iadd C dX1_isLimited_20 ?_
  obtain ⟨v5, e6, hf⟩ := pm_bd hf
  refine pm_callS (as := [.ref p1, .int (p2 + 0)]) (st := []) C X dX1_isLimited_21 lnX1_113 myX12_item_ stX12_item_ ⟨by decide, by decide⟩ rfl rfl (Nat.le_of_ble_eq_true rfl) (Nat.le_refl _) (Nat.le_refl _) (ctX12_item_ e6 ?_)
  show pm_G g 24 [(4, .long v3), (2, .long v1), (0, .ref p1), (1, .int p2)] [.long v5] h 0 0
  refine pm_ldc2 C dX1_isLimited_24 cnX1_139 ?_
  refine pm_lcmp C dX1_isLimited_27 ?_
  refine pm_if_ne (tgt := 35) C dX1_isLimited_28 (by decide) (fun c7 => ?_) (fun c7 => ?_)
  · have hf := pm_ie hf ((fun z => c7 ((pm_lg_eq _ _).mpr z)))
    refine pm_iconst (v := 0) C dX1_isLimited_35 (by decide) ?_
    exact pm_sub [1, 0] rfl (bX1_isLimited_36 C X hf q)
  · have hf := pm_it hf ((pm_lg_eq _ _).mp c7)
    refine pm_iconst (v := 1) C dX1_isLimited_31 (by decide) ?_
    refine pm_goto (tgt := 36) C dX1_isLimited_32 (by decide) ?_
    exact pm_sub [1, 0] rfl (bX1_isLimited_36 C X hf q)
theorem dX1_isLoop_0 : decode cX1_isLoop 0 = .ok (.aload_n 0, 1) := by decide +kernel
theorem dX1_isLoop_1 : decode cX1_isLoop 1 = .ok (.iload_n 1, 1) := by decide +kernel
theorem dX1_isLoop_2 : decode cX1_isLoop 2 = .ok (.iconst 0, 1) := by decide +kernel
theorem dX1_isLoop_3 : decode cX1_isLoop 3 = .ok (.invokevirtual 284, 3) := by decide +kernel
theorem dX1_isLoop_6 : decode cX1_isLoop 6 = .ok (.iconst 3, 1) := by decide +kernel
theorem dX1_isLoop_7 : decode cX1_isLoop 7 = .ok (.if_icmp .ne 7, 3) := by decide +kernel
theorem dX1_isLoop_10 : decode cX1_isLoop 10 = .ok (.iconst 1, 1) := by decide +kernel
theorem dX1_isLoop_11 : decode cX1_isLoop 11 = .ok (.goto 4, 3) := by decide +kernel
theorem dX1_isLoop_14 : decode cX1_isLoop 14 = .ok (.iconst 0, 1) := by decide +kernel
theorem dX1_isLoop_15 : decode cX1_isLoop 15 = .ok (.ireturn, 1) := by decide +kernel
def fX1_isLoop (h : pm_H) (a0 : Nat) (p1 : Int32) : Option Int32 := if pm_kd h a0 = 1 then (fX1_label h a0 p1 0).bind fun v2 => if v2 = 3 then (some 1) else (some 0) else none
set_option maxHeartbeats 4000000 in
set_option maxRecDepth 100000 in
theorem ctX1_isLoop {l : Launch} {G : pm_Gl} {h : pm_H} {a0 : Nat} {p1 : Int32} {r : Int32} {Qr : Option Value → pm_H → Prop} (hf : fX1_isLoop h a0 p1 = some r) (q : Qr (some (.int r)) h) : pm_Ct l G mX1_isLoop [.ref a0, .int p1] h 0 0 Qr := by
  refine pm_body pnX1 (Nat.le_of_ble_eq_true rfl) (fun g C X => ?_)
  have C : pm_C g cX1_isLoop RX1 := C
  show pm_G g 0 [(0, .ref a0), (1, .int p1)] [] h 0 0
  unfold fX1_isLoop at hf
  refine pm_aload_n C dX1_isLoop_0 rfl rfl ?_
  refine pm_iload_n C dX1_isLoop_1 rfl rfl ?_
  refine pm_iconst (v := 0) C dX1_isLoop_2 (by decide) ?_
  obtain ⟨k1, hf⟩ := pm_if hf
  obtain ⟨v2, e3, hf⟩ := pm_bd hf
  refine pm_callV (as := [.int p1, .int 0]) (st := []) C X dX1_isLoop_3 lnX1_284 myX1_label viX1_label ⟨by decide, by decide⟩ rfl rfl k1 (Nat.le_of_ble_eq_true rfl) (Nat.le_refl _) (Nat.le_refl _) (ctX1_label e3 ?_)
  show pm_G g 6 [(0, .ref a0), (1, .int p1)] [.int v2] h 0 0
  refine pm_iconst (v := 3) C dX1_isLoop_6 (by decide) ?_
  refine pm_icmp_ne (tgt := 14) C dX1_isLoop_7 (by decide) (fun c4 => ?_) (fun c4 => ?_)
  · have hf := pm_ie hf c4
    refine pm_iconst (v := 0) C dX1_isLoop_14 (by decide) ?_
    cases hf
    exact pm_zret C X dX1_isLoop_15 rfl (by decide) (Nat.le_refl _) (Nat.le_refl _) q
  · have hf := pm_it hf c4
    refine pm_iconst (v := 1) C dX1_isLoop_10 (by decide) ?_
    refine pm_goto (tgt := 15) C dX1_isLoop_11 (by decide) ?_
    cases hf
    exact pm_zret C X dX1_isLoop_15 rfl (by decide) (Nat.le_refl _) (Nat.le_refl _) q
theorem dX1_isSameName_0 : decode cX1_isSameName 0 = .ok (.aload_n 0, 1) := by decide +kernel
theorem dX1_isSameName_1 : decode cX1_isSameName 1 = .ok (.getfield 40, 3) := by decide +kernel
theorem dX1_isSameName_4 : decode cX1_isSameName 4 = .ok (.getfield 143, 3) := by decide +kernel
theorem dX1_isSameName_7 : decode cX1_isSameName 7 = .ok (.iload_n 1, 1) := by decide +kernel
theorem dX1_isSameName_8 : decode cX1_isSameName 8 = .ok (.iconst 1, 1) := by decide +kernel
theorem dX1_isSameName_9 : decode cX1_isSameName 9 = .ok (.iadd, 1) := by decide +kernel
theorem dX1_isSameName_10 : decode cX1_isSameName 10 = .ok (.invokestatic 105, 3) := by decide +kernel
theorem dX1_isSameName_13 : decode cX1_isSameName 13 = .ok (.istore_n 3, 1) := by decide +kernel
theorem dX1_isSameName_14 : decode cX1_isSameName 14 = .ok (.iload_n 3, 1) := by decide +kernel
theorem dX1_isSameName_15 : decode cX1_isSameName 15 = .ok (.aload_n 0, 1) := by decide +kernel
theorem dX1_isSameName_16 : decode cX1_isSameName 16 = .ok (.getfield 40, 3) := by decide +kernel
theorem dX1_isSameName_19 : decode cX1_isSameName 19 = .ok (.getfield 143, 3) := by decide +kernel
theorem dX1_isSameName_22 : decode cX1_isSameName 22 = .ok (.iload_n 2, 1) := by decide +kernel
theorem dX1_isSameName_23 : decode cX1_isSameName 23 = .ok (.iconst 1, 1) := by decide +kernel
theorem dX1_isSameName_24 : decode cX1_isSameName 24 = .ok (.iadd, 1) := by decide +kernel
theorem dX1_isSameName_25 : decode cX1_isSameName 25 = .ok (.invokestatic 105, 3) := by decide +kernel
theorem dX1_isSameName_28 : decode cX1_isSameName 28 = .ok (.if_icmp .eq 5, 3) := by decide +kernel
theorem dX1_isSameName_31 : decode cX1_isSameName 31 = .ok (.iconst 0, 1) := by decide +kernel
theorem dX1_isSameName_32 : decode cX1_isSameName 32 = .ok (.ireturn, 1) := by decide +kernel
theorem dX1_isSameName_33 : decode cX1_isSameName 33 = .ok (.aload_n 0, 1) := by decide +kernel
theorem dX1_isSameName_34 : decode cX1_isSameName 34 = .ok (.getfield 40, 3) := by decide +kernel
theorem dX1_isSameName_37 : decode cX1_isSameName 37 = .ok (.getfield 143, 3) := by decide +kernel
theorem dX1_isSameName_40 : decode cX1_isSameName 40 = .ok (.iload_n 1, 1) := by decide +kernel
theorem dX1_isSameName_41 : decode cX1_isSameName 41 = .ok (.iconst 0, 1) := by decide +kernel
theorem dX1_isSameName_42 : decode cX1_isSameName 42 = .ok (.iadd, 1) := by decide +kernel
theorem dX1_isSameName_43 : decode cX1_isSameName 43 = .ok (.invokestatic 105, 3) := by decide +kernel
theorem dX1_isSameName_46 : decode cX1_isSameName 46 = .ok (.istore 4, 2) := by decide +kernel
theorem dX1_isSameName_48 : decode cX1_isSameName 48 = .ok (.aload_n 0, 1) := by decide +kernel
theorem dX1_isSameName_49 : decode cX1_isSameName 49 = .ok (.getfield 40, 3) := by decide +kernel
theorem dX1_isSameName_52 : decode cX1_isSameName 52 = .ok (.getfield 143, 3) := by decide +kernel
theorem dX1_isSameName_55 : decode cX1_isSameName 55 = .ok (.iload_n 2, 1) := by decide +kernel
theorem dX1_isSameName_56 : decode cX1_isSameName 56 = .ok (.iconst 0, 1) := by decide +kernel
theorem dX1_isSameName_57 : decode cX1_isSameName 57 = .ok (.iadd, 1) := by decide +kernel
theorem dX1_isSameName_58 : decode cX1_isSameName 58 = .ok (.invokestatic 105, 3) := by decide +kernel
theorem dX1_isSameName_61 : decode cX1_isSameName 61 = .ok (.istore 5, 2) := by decide +kernel
theorem dX1_isSameName_63 : decode cX1_isSameName 63 = .ok (.aload_n 0, 1) := by decide +kernel
theorem dX1_isSameName_64 : decode cX1_isSameName 64 = .ok (.getfield 40, 3) := by decide +kernel
theorem dX1_isSameName_67 : decode cX1_isSameName 67 = .ok (.getfield 158, 3) := by decide +kernel
theorem dX1_isSameName_70 : decode cX1_isSameName 70 = .ok (.arraylength, 1) := by decide +kernel
theorem dX1_isSameName_71 : decode cX1_isSameName 71 = .ok (.istore 6, 2) := by decide +kernel
theorem dX1_isSameName_73 : decode cX1_isSameName 73 = .ok (.iload 4, 2) := by decide +kernel
theorem dX1_isSameName_75 : decode cX1_isSameName 75 = .ok (.ifCond .lt 26, 3) := by decide +kernel
theorem dX1_isSameName_78 : decode cX1_isSameName 78 = .ok (.iload 5, 2) := by decide +kernel
theorem dX1_isSameName_80 : decode cX1_isSameName 80 = .ok (.ifCond .lt 21, 3) := by decide +kernel
theorem dX1_isSameName_83 : decode cX1_isSameName 83 = .ok (.iload 4, 2) := by decide +kernel
theorem dX1_isSameName_85 : decode cX1_isSameName 85 = .ok (.iload 6, 2) := by decide +kernel
theorem dX1_isSameName_87 : decode cX1_isSameName 87 = .ok (.iload_n 3, 1) := by decide +kernel
theorem dX1_isSameName_88 : decode cX1_isSameName 88 = .ok (.isub, 1) := by decide +kernel
theorem dX1_isSameName_89 : decode cX1_isSameName 89 = .ok (.if_icmp .gt 12, 3) := by decide +kernel
theorem dX1_isSameName_92 : decode cX1_isSameName 92 = .ok (.iload 5, 2) := by decide +kernel
theorem dX1_isSameName_94 : decode cX1_isSameName 94 = .ok (.iload 6, 2) := by decide +kernel
theorem dX1_isSameName_96 : decode cX1_isSameName 96 = .ok (.iload_n 3, 1) := by decide +kernel
theorem dX1_isSameName_97 : decode cX1_isSameName 97 = .ok (.isub, 1) := by decide +kernel
theorem dX1_isSameName_98 : decode cX1_isSameName 98 = .ok (.if_icmp .le 5, 3) := by decide +kernel
theorem dX1_isSameName_101 : decode cX1_isSameName 101 = .ok (.iconst 0, 1) := by decide +kernel
theorem dX1_isSameName_102 : decode cX1_isSameName 102 = .ok (.ireturn, 1) := by decide +kernel
theorem dX1_isSameName_103 : decode cX1_isSameName 103 = .ok (.iconst 0, 1) := by decide +kernel
theorem dX1_isSameName_104 : decode cX1_isSameName 104 = .ok (.istore 7, 2) := by decide +kernel
theorem dX1_isSameName_106 : decode cX1_isSameName 106 = .ok (.iload 7, 2) := by decide +kernel
theorem dX1_isSameName_108 : decode cX1_isSameName 108 = .ok (.iload_n 3, 1) := by decide +kernel
theorem dX1_isSameName_109 : decode cX1_isSameName 109 = .ok (.if_icmp .ge 40, 3) := by decide +kernel
theorem dX1_isSameName_112 : decode cX1_isSameName 112 = .ok (.aload_n 0, 1) := by decide +kernel
theorem dX1_isSameName_113 : decode cX1_isSameName 113 = .ok (.getfield 40, 3) := by decide +kernel
theorem dX1_isSameName_116 : decode cX1_isSameName 116 = .ok (.getfield 158, 3) := by decide +kernel
theorem dX1_isSameName_119 : decode cX1_isSameName 119 = .ok (.iload 4, 2) := by decide +kernel
theorem dX1_isSameName_121 : decode cX1_isSameName 121 = .ok (.iload 7, 2) := by decide +kernel
theorem dX1_isSameName_123 : decode cX1_isSameName 123 = .ok (.iadd, 1) := by decide +kernel
theorem dX1_isSameName_124 : decode cX1_isSameName 124 = .ok (.baload, 1) := by decide +kernel
theorem dX1_isSameName_125 : decode cX1_isSameName 125 = .ok (.aload_n 0, 1) := by decide +kernel
theorem dX1_isSameName_126 : decode cX1_isSameName 126 = .ok (.getfield 40, 3) := by decide +kernel
theorem dX1_isSameName_129 : decode cX1_isSameName 129 = .ok (.getfield 158, 3) := by decide +kernel
theorem dX1_isSameName_132 : decode cX1_isSameName 132 = .ok (.iload 5, 2) := by decide +kernel
theorem dX1_isSameName_134 : decode cX1_isSameName 134 = .ok (.iload 7, 2) := by decide +kernel
theorem dX1_isSameName_136 : decode cX1_isSameName 136 = .ok (.iadd, 1) := by decide +kernel
theorem dX1_isSameName_137 : decode cX1_isSameName 137 = .ok (.baload, 1) := by decide +kernel
theorem dX1_isSameName_138 : decode cX1_isSameName 138 = .ok (.if_icmp .eq 5, 3) := by decide +kernel
theorem dX1_isSameName_141 : decode cX1_isSameName 141 = .ok (.iconst 0, 1) := by decide +kernel
theorem dX1_isSameName_142 : decode cX1_isSameName 142 = .ok (.ireturn, 1) := by decide +kernel
theorem dX1_isSameName_143 : decode cX1_isSameName 143 = .ok (.iinc 7 1, 3) := by decide +kernel
theorem dX1_isSameName_146 : decode cX1_isSameName 146 = .ok (.goto (-40), 3) := by decide +kernel
theorem dX1_isSameName_149 : decode cX1_isSameName 149 = .ok (.iconst 1, 1) := by decide +kernel
theorem dX1_isSameName_150 : decode cX1_isSameName 150 = .ok (.ireturn, 1) := by decide +kernel
def tX1_isSameName_106 (h : pm_H) (x0 : Nat) (x3 : Int32) (x4 : Int32) (x5 : Int32) (x7 : Int32) : Option (((Nat × Int32 × Int32 × Int32 × Int32)) ⊕ Int32) := if x3 ≤ x7 then (some (.inr (1))) else (if pm_kd h x0 = 1 then (pm_R h x0 2).bind fun v27 => if pm_kd h v27 = 7 then (pm_R h v27 0).bind fun v30 => pm_let (x4 + x7) fun y32 => if pm_kd h v30 = 33 then if pm_in y32 (pm_ln h v30) then pm_let (x5 + x7) fun y36 => if pm_in y36 (pm_ln h v30) then if (pm_I h v30 y32.toNatClampNeg) = (pm_I h v30 y36.toNatClampNeg) then (pm_let (x7 + 1) fun y40 => some (.inl ((x0, x3, x4, x5, y40)))) else (some (.inr (0))) else none else none else none else none else none)
def sX1_isSameName (h : pm_H) : ((Nat × Int32 × Int32 × Int32 × Int32)) → Option (((Nat × Int32 × Int32 × Int32 × Int32)) ⊕ Int32) := fun z => match z with
  | (x0, x3, x4, x5, x7) => tX1_isSameName_106 h x0 x3 x4 x5 x7
noncomputable def fX1_isSameName (h : pm_H) (a0 : Nat) (p1 : Int32) (p2 : Int32) : Option Int32 := if pm_kd h a0 = 1 then (pm_R h a0 2).bind fun v2 => if pm_kd h v2 = 7 then (pm_R h v2 8).bind fun v5 => (fX12_item h v5 (p1 + 1)).bind fun v7 => (fX12_item h v5 (p2 + 1)).bind fun v9 => if v7 = v9 then ((fX12_item h v5 (p1 + 0)).bind fun v12 => (fX12_item h v5 (p2 + 0)).bind fun v14 => (pm_R h v2 0).bind fun v16 => if pm_kd h v16 = 33 then pm_let (Int32.ofNat (pm_ln h v16)) fun y19 => if v12 < 0 then (some 0) else (if v14 < 0 then (some 0) else (if (y19 - v7) < v12 then (some 0) else (if v14 ≤ (y19 - v7) then (pm_lim (sX1_isSameName h) ((a0, v7, v12, v14, 0))) else (some 0)))) else none) else (some 0) else none else none
set_option maxHeartbeats 4000000 in
set_option maxRecDepth 100000 in
theorem lpX1_isSameName {g : pm_Gm} {l : Launch} {G : pm_Gl} {Qr : Option Value → pm_H → Prop} (C : pm_C g cX1_isSameName RX1) (X : pm_X g l G mX1_isSameName 0 0 Qr) {h : pm_H} {r : Int32} (q : Qr (some (.int r)) h) : ∀ n : Nat, (∀ (x0 : Nat) (x3 : Int32) (x4 : Int32) (x5 : Int32) (x7 : Int32), pm_iter (sX1_isSameName h) n (x0, x3, x4, x5, x7) = some r → pm_G g 106 [(0, .ref x0), (3, .int x3), (4, .int x4), (5, .int x5), (7, .int x7)] [] h 0 0) := by
  intro n
  induction n with
  | zero => exact fun _ _ _ _ _ hf => (by cases hf)
  | succ n ih =>
    refine fun x0 x3 x4 x5 x7 hf => ?_
    obtain ⟨y, hf, hi⟩ := pm_iter_s hf
    have hf : tX1_isSameName_106 h x0 x3 x4 x5 x7 = some y := hf
    unfold tX1_isSameName_106 at hf
    refine pm_iload C dX1_isSameName_106 rfl ?_
    refine pm_iload_n C dX1_isSameName_108 rfl rfl ?_
    refine pm_icmp_ge (tgt := 149) C dX1_isSameName_109 (by decide) (fun c25 => ?_) (fun c25 => ?_)
    · have hf := pm_it hf c25
      refine pm_iconst (v := 1) C dX1_isSameName_149 (by decide) ?_
      cases hf
      cases hi
      exact pm_zret C X dX1_isSameName_150 rfl (by decide) (Nat.le_refl _) (Nat.le_refl _) q
    · have hf := pm_ie hf c25
      refine pm_aload_n C dX1_isSameName_112 rfl rfl ?_
      obtain ⟨k26, hf⟩ := pm_if hf
      obtain ⟨v27, e28, hf⟩ := pm_bd hf
      refine pm_getR C dX1_isSameName_113 flX1_40 rfl k26 e28 ?_
      obtain ⟨k29, hf⟩ := pm_if hf
      obtain ⟨v30, e31, hf⟩ := pm_bd hf
      refine pm_getR C dX1_isSameName_116 flX1_158 rfl k29 e31 ?_
      refine pm_iload C dX1_isSameName_119 rfl ?_
      refine pm_iload C dX1_isSameName_121 rfl ?_
      refine pm_iadd C dX1_isSameName_123 ?_
      obtain ⟨y32, e33, hf⟩ := pm_lt hf
      refine pm_topI e33 ?_
      obtain ⟨k34, hf⟩ := pm_if hf
      obtain ⟨u35, hf⟩ := pm_if hf
      refine pm_bald C dX1_isSameName_124 k34 u35 rfl ?_
      refine pm_aload_n C dX1_isSameName_125 rfl rfl ?_
      refine pm_getR C dX1_isSameName_126 flX1_40 rfl k26 e28 ?_
      refine pm_getR C dX1_isSameName_129 flX1_158 rfl k29 e31 ?_
      refine pm_iload C dX1_isSameName_132 rfl ?_
      refine pm_iload C dX1_isSameName_134 rfl ?_
      refine pm_iadd C dX1_isSameName_136 ?_
      obtain ⟨y36, e37, hf⟩ := pm_lt hf
      refine pm_topI e37 ?_
      obtain ⟨u38, hf⟩ := pm_if hf
      refine pm_bald C dX1_isSameName_137 k34 u38 rfl ?_
      refine pm_icmp_eq (tgt := 143) C dX1_isSameName_138 (by decide) (fun c39 => ?_) (fun c39 => ?_)
      · have hf := pm_it hf c39
        obtain ⟨y40, e41, hf⟩ := pm_lt hf
        refine pm_iinc (v := y40) (lv' := [(7, .int y40), (0, .ref x0), (3, .int x3), (4, .int x4), (5, .int x5)]) C dX1_isSameName_143 rfl ((congrArg (x7 + ·) (by decide : Int32.ofInt 1 = 1)).trans e41) (pm_nl X (by decide)) rfl ?_
        refine pm_goto (tgt := 106) C dX1_isSameName_146 (by decide) ?_
        cases hf
        exact pm_sub [1, 2, 3, 4, 0] rfl (ih x0 x3 x4 x5 y40 hi)
      · have hf := pm_ie hf c39
        refine pm_iconst (v := 0) C dX1_isSameName_141 (by decide) ?_
        cases hf
        cases hi
        exact pm_zret C X dX1_isSameName_142 rfl (by decide) (Nat.le_refl _) (Nat.le_refl _) q
set_option maxHeartbeats 4000000 in
set_option maxRecDepth 100000 in
theorem ctX1_isSameName {l : Launch} {G : pm_Gl} {h : pm_H} {a0 : Nat} {p1 : Int32} {p2 : Int32} {r : Int32} {Qr : Option Value → pm_H → Prop} (hf : fX1_isSameName h a0 p1 p2 = some r) (q : Qr (some (.int r)) h) : pm_Ct l G mX1_isSameName [.ref a0, .int p1, .int p2] h 0 0 Qr := by
  refine pm_body pnX1 (Nat.le_of_ble_eq_true rfl) (fun g C X => ?_)
  have C : pm_C g cX1_isSameName RX1 := C
  show pm_G g 0 [(0, .ref a0), (1, .int p1), (2, .int p2)] [] h 0 0
  unfold fX1_isSameName at hf
  refine pm_aload_n C dX1_isSameName_0 rfl rfl ?_
  obtain ⟨k1, hf⟩ := pm_if hf
  obtain ⟨v2, e3, hf⟩ := pm_bd hf
  refine pm_getR C dX1_isSameName_1 flX1_40 rfl k1 e3 ?_
  obtain ⟨k4, hf⟩ := pm_if hf
  obtain ⟨v5, e6, hf⟩ := pm_bd hf
  refine pm_getR C dX1_isSameName_4 flX1_143 rfl k4 e6 ?_
  refine pm_iload_n C dX1_isSameName_7 rfl rfl ?_
  refine pm_iconst (v := 1) C dX1_isSameName_8 (by decide) ?_
  refine pm_iadd C dX1_isSameName_9 ?_
  obtain ⟨v7, e8, hf⟩ := pm_bd hf
  refine pm_callS (as := [.ref v5, .int (p1 + 1)]) (st := []) C X dX1_isSameName_10 lnX1_105 myX12_item stX12_item ⟨by decide, by decide⟩ rfl rfl (Nat.le_of_ble_eq_true rfl) (Nat.le_refl _) (Nat.le_refl _) (ctX12_item e8 ?_)
  show pm_G g 13 [(0, .ref a0), (1, .int p1), (2, .int p2)] [.int v7] h 0 0
  refine pm_istore_n (lv' := [(3, .int v7), (0, .ref a0), (1, .int p1), (2, .int p2)]) C dX1_isSameName_13 rfl (pm_nl X (by decide)) rfl ?_
  refine pm_iload_n C dX1_isSameName_14 rfl rfl ?_
  refine pm_aload_n C dX1_isSameName_15 rfl rfl ?_
  refine pm_getR C dX1_isSameName_16 flX1_40 rfl k1 e3 ?_
  refine pm_getR C dX1_isSameName_19 flX1_143 rfl k4 e6 ?_
  refine pm_iload_n C dX1_isSameName_22 rfl rfl ?_
  refine pm_iconst (v := 1) C dX1_isSameName_23 (by decide) ?_
  refine pm_iadd C dX1_isSameName_24 ?_
  obtain ⟨v9, e10, hf⟩ := pm_bd hf
  refine pm_callS (as := [.ref v5, .int (p2 + 1)]) (st := [.int v7]) C X dX1_isSameName_25 lnX1_105 myX12_item stX12_item ⟨by decide, by decide⟩ rfl rfl (Nat.le_of_ble_eq_true rfl) (Nat.le_refl _) (Nat.le_refl _) (ctX12_item e10 ?_)
  show pm_G g 28 [(3, .int v7), (0, .ref a0), (1, .int p1), (2, .int p2)] [.int v9, .int v7] h 0 0
  refine pm_icmp_eq (tgt := 33) C dX1_isSameName_28 (by decide) (fun c11 => ?_) (fun c11 => ?_)
  · have hf := pm_it hf c11
    refine pm_aload_n C dX1_isSameName_33 rfl rfl ?_
    refine pm_getR C dX1_isSameName_34 flX1_40 rfl k1 e3 ?_
    refine pm_getR C dX1_isSameName_37 flX1_143 rfl k4 e6 ?_
    refine pm_iload_n C dX1_isSameName_40 rfl rfl ?_
    refine pm_iconst (v := 0) C dX1_isSameName_41 (by decide) ?_
    refine pm_iadd C dX1_isSameName_42 ?_
    obtain ⟨v12, e13, hf⟩ := pm_bd hf
    refine pm_callS (as := [.ref v5, .int (p1 + 0)]) (st := []) C X dX1_isSameName_43 lnX1_105 myX12_item stX12_item ⟨by decide, by decide⟩ rfl rfl (Nat.le_of_ble_eq_true rfl) (Nat.le_refl _) (Nat.le_refl _) (ctX12_item e13 ?_)
    show pm_G g 46 [(3, .int v7), (0, .ref a0), (1, .int p1), (2, .int p2)] [.int v12] h 0 0
    refine pm_istore (lv' := [(4, .int v12), (3, .int v7), (0, .ref a0), (1, .int p1), (2, .int p2)]) C dX1_isSameName_46 (pm_nl X (by decide)) rfl ?_
    refine pm_aload_n C dX1_isSameName_48 rfl rfl ?_
    refine pm_getR C dX1_isSameName_49 flX1_40 rfl k1 e3 ?_
    refine pm_getR C dX1_isSameName_52 flX1_143 rfl k4 e6 ?_
    refine pm_iload_n C dX1_isSameName_55 rfl rfl ?_
    refine pm_iconst (v := 0) C dX1_isSameName_56 (by decide) ?_
    refine pm_iadd C dX1_isSameName_57 ?_
    obtain ⟨v14, e15, hf⟩ := pm_bd hf
    refine pm_callS (as := [.ref v5, .int (p2 + 0)]) (st := []) C X dX1_isSameName_58 lnX1_105 myX12_item stX12_item ⟨by decide, by decide⟩ rfl rfl (Nat.le_of_ble_eq_true rfl) (Nat.le_refl _) (Nat.le_refl _) (ctX12_item e15 ?_)
    show pm_G g 61 [(4, .int v12), (3, .int v7), (0, .ref a0), (1, .int p1), (2, .int p2)] [.int v14] h 0 0
    refine pm_istore (lv' := [(5, .int v14), (4, .int v12), (3, .int v7), (0, .ref a0), (1, .int p1), (2, .int p2)]) C dX1_isSameName_61 (pm_nl X (by decide)) rfl ?_
    refine pm_aload_n C dX1_isSameName_63 rfl rfl ?_
    refine pm_getR C dX1_isSameName_64 flX1_40 rfl k1 e3 ?_
    obtain ⟨v16, e17, hf⟩ := pm_bd hf
    refine pm_getR C dX1_isSameName_67 flX1_158 rfl k4 e17 ?_
    obtain ⟨k18, hf⟩ := pm_if hf
    refine pm_alen (t := 1) C dX1_isSameName_70 (by decide) k18 rfl ?_
    obtain ⟨y19, e20, hf⟩ := pm_lt hf
    refine pm_topI e20 ?_
    refine pm_istore (lv' := [(6, .int y19), (5, .int v14), (4, .int v12), (3, .int v7), (0, .ref a0), (1, .int p1), (2, .int p2)]) C dX1_isSameName_71 (pm_nl X (by decide)) rfl ?_
    refine pm_iload C dX1_isSameName_73 rfl ?_
    refine pm_if_lt (tgt := 101) C dX1_isSameName_75 (by decide) (fun c21 => ?_) (fun c21 => ?_)
    · have hf := pm_it hf c21
      refine pm_iconst (v := 0) C dX1_isSameName_101 (by decide) ?_
      cases hf
      exact pm_zret C X dX1_isSameName_102 rfl (by decide) (Nat.le_refl _) (Nat.le_refl _) q
    · have hf := pm_ie hf c21
      refine pm_iload C dX1_isSameName_78 rfl ?_
      refine pm_if_lt (tgt := 101) C dX1_isSameName_80 (by decide) (fun c22 => ?_) (fun c22 => ?_)
      · have hf := pm_it hf c22
        refine pm_iconst (v := 0) C dX1_isSameName_101 (by decide) ?_
        cases hf
        exact pm_zret C X dX1_isSameName_102 rfl (by decide) (Nat.le_refl _) (Nat.le_refl _) q
      · have hf := pm_ie hf c22
        refine pm_iload C dX1_isSameName_83 rfl ?_
        refine pm_iload C dX1_isSameName_85 rfl ?_
        refine pm_iload_n C dX1_isSameName_87 rfl rfl ?_
        refine pm_isub C dX1_isSameName_88 ?_
        refine pm_icmp_gt (tgt := 101) C dX1_isSameName_89 (by decide) (fun c23 => ?_) (fun c23 => ?_)
        · have hf := pm_it hf c23
          refine pm_iconst (v := 0) C dX1_isSameName_101 (by decide) ?_
          cases hf
          exact pm_zret C X dX1_isSameName_102 rfl (by decide) (Nat.le_refl _) (Nat.le_refl _) q
        · have hf := pm_ie hf c23
          refine pm_iload C dX1_isSameName_92 rfl ?_
          refine pm_iload C dX1_isSameName_94 rfl ?_
          refine pm_iload_n C dX1_isSameName_96 rfl rfl ?_
          refine pm_isub C dX1_isSameName_97 ?_
          refine pm_icmp_le (tgt := 103) C dX1_isSameName_98 (by decide) (fun c24 => ?_) (fun c24 => ?_)
          · have hf := pm_it hf c24
            refine pm_iconst (v := 0) C dX1_isSameName_103 (by decide) ?_
            refine pm_istore (lv' := [(7, .int 0), (6, .int y19), (5, .int v14), (4, .int v12), (3, .int v7), (0, .ref a0), (1, .int p1), (2, .int p2)]) C dX1_isSameName_104 (pm_nl X (by decide)) rfl ?_
            obtain ⟨n, hn⟩ := pm_lim_iter hf
            exact pm_sub [5, 4, 3, 2, 0] rfl ((lpX1_isSameName C X q n) a0 v7 v12 v14 0 hn)
          · have hf := pm_ie hf c24
            refine pm_iconst (v := 0) C dX1_isSameName_101 (by decide) ?_
            cases hf
            exact pm_zret C X dX1_isSameName_102 rfl (by decide) (Nat.le_refl _) (Nat.le_refl _) q
  · have hf := pm_ie hf c11
    refine pm_iconst (v := 0) C dX1_isSameName_31 (by decide) ?_
    cases hf
    exact pm_zret C X dX1_isSameName_32 rfl (by decide) (Nat.le_refl _) (Nat.le_refl _) q
theorem dX1_put_0 : decode cX1_put 0 = .ok (.aload_n 0, 1) := by decide +kernel
theorem dX1_put_1 : decode cX1_put 1 = .ok (.getfield 214, 3) := by decide +kernel
theorem dX1_put_4 : decode cX1_put 4 = .ok (.sipush 1000, 3) := by decide +kernel
theorem dX1_put_7 : decode cX1_put 7 = .ok (.if_icmp .lt 10, 3) := by decide +kernel
theorem dX1_put_10 : decode cX1_put 10 = .ok (.aload_n 0, 1) := by decide +kernel
theorem dX1_put_11 : decode cX1_put 11 = .ok (.bipush 40, 2) := by decide +kernel
theorem dX1_put_13 : decode cX1_put 13 = .ok (.invokevirtual 198, 3) := by decide +kernel
theorem dX1_put_16 : decode cX1_put 16 = .ok (.return_, 1) := by decide +kernel
theorem dX1_put_17 : decode cX1_put 17 = .ok (.aload_n 0, 1) := by decide +kernel
theorem dX1_put_18 : decode cX1_put 18 = .ok (.getfield 15, 3) := by decide +kernel
theorem dX1_put_21 : decode cX1_put 21 = .ok (.aload_n 0, 1) := by decide +kernel
theorem dX1_put_22 : decode cX1_put 22 = .ok (.getfield 214, 3) := by decide +kernel
theorem dX1_put_25 : decode cX1_put 25 = .ok (.iload_n 1, 1) := by decide +kernel
theorem dX1_put_26 : decode cX1_put 26 = .ok (.invokestatic 266, 3) := by decide +kernel
theorem dX1_put_29 : decode cX1_put 29 = .ok (.aload_n 0, 1) := by decide +kernel
theorem dX1_put_30 : decode cX1_put 30 = .ok (.dup, 1) := by decide +kernel
theorem dX1_put_31 : decode cX1_put 31 = .ok (.getfield 214, 3) := by decide +kernel
theorem dX1_put_34 : decode cX1_put 34 = .ok (.iconst 1, 1) := by decide +kernel
theorem dX1_put_35 : decode cX1_put 35 = .ok (.iadd, 1) := by decide +kernel
theorem dX1_put_36 : decode cX1_put 36 = .ok (.putfield 214, 3) := by decide +kernel
theorem dX1_put_39 : decode cX1_put 39 = .ok (.return_, 1) := by decide +kernel
def fX1_put (h : pm_H) (a0 : Nat) (p1 : Int32) : Option pm_H := if pm_kd h a0 = 1 then if (pm_I h a0 6) < 1000 then ((pm_R h a0 5).bind fun v3 => (fX12_setItem h v3 (pm_I h a0 6) p1).bind fun v5 => if pm_kd v5 a0 = 1 then pm_let ((pm_I v5 a0 6) + 1) fun y8 => some (pm_setI v5 a0 6 y8) else none) else ((fX1_fail h a0 40).bind fun v10 => some v10) else none
set_option maxHeartbeats 4000000 in
set_option maxRecDepth 100000 in
theorem ctX1_put {l : Launch} {G : pm_Gl} {h : pm_H} {a0 : Nat} {p1 : Int32} {r : pm_H} {Qr : Option Value → pm_H → Prop} (hf : fX1_put h a0 p1 = some r) (q : Qr none r) : pm_Ct l G mX1_put [.ref a0, .int p1] h 0 0 Qr := by
  refine pm_body pnX1 (Nat.le_of_ble_eq_true rfl) (fun g C X => ?_)
  have C : pm_C g cX1_put RX1 := C
  show pm_G g 0 [(0, .ref a0), (1, .int p1)] [] h 0 0
  unfold fX1_put at hf
  refine pm_aload_n C dX1_put_0 rfl rfl ?_
  obtain ⟨k1, hf⟩ := pm_if hf
  refine pm_getI C dX1_put_1 flX1_214 rfl k1 rfl ?_
  refine pm_sipush (v := 1000) C dX1_put_4 (by decide) ?_
  refine pm_icmp_lt (tgt := 17) C dX1_put_7 (by decide) (fun c2 => ?_) (fun c2 => ?_)
  · have hf := pm_it hf c2
    refine pm_aload_n C dX1_put_17 rfl rfl ?_
    obtain ⟨v3, e4, hf⟩ := pm_bd hf
    refine pm_getR C dX1_put_18 flX1_15 rfl k1 e4 ?_
    refine pm_aload_n C dX1_put_21 rfl rfl ?_
    refine pm_getI C dX1_put_22 flX1_214 rfl k1 rfl ?_
    refine pm_iload_n C dX1_put_25 rfl rfl ?_
    obtain ⟨v5, e6, hf⟩ := pm_bd hf
    refine pm_callS (as := [.ref v3, .int (pm_I h a0 6), .int p1]) (st := []) C X dX1_put_26 lnX1_266 myX12_setItem stX12_setItem ⟨by decide, by decide⟩ rfl rfl (Nat.le_of_ble_eq_true rfl) (Nat.le_refl _) (Nat.le_refl _) (ctX12_setItem e6 ?_)
    show pm_G g 29 [(0, .ref a0), (1, .int p1)] [] v5 0 0
    refine pm_aload_n C dX1_put_29 rfl rfl ?_
    refine pm_dup C dX1_put_30 rfl ?_
    obtain ⟨k7, hf⟩ := pm_if hf
    refine pm_getI C dX1_put_31 flX1_214 rfl k7 rfl ?_
    refine pm_iconst (v := 1) C dX1_put_34 (by decide) ?_
    refine pm_iadd C dX1_put_35 ?_
    obtain ⟨y8, e9, hf⟩ := pm_lt hf
    refine pm_topI e9 ?_
    refine pm_putI C dX1_put_36 flX1_214 rfl rfl k7 rfl rfl ?_
    cases hf
    exact pm_vret C X dX1_put_39 rfl (Nat.le_refl _) (Nat.le_refl _) q
  · have hf := pm_ie hf c2
    refine pm_aload_n C dX1_put_10 rfl rfl ?_
    refine pm_bipush (v := 40) C dX1_put_11 (by decide) ?_
    obtain ⟨v10, e11, hf⟩ := pm_bd hf
    refine pm_callV (as := [.int 40]) (st := []) C X dX1_put_13 lnX1_198 myX1_fail viX1_fail ⟨by decide, by decide⟩ rfl rfl k1 (Nat.le_of_ble_eq_true rfl) (Nat.le_refl _) (Nat.le_refl _) (ctX1_fail e11 ?_)
    show pm_G g 16 [(0, .ref a0), (1, .int p1)] [] v10 0 0
    cases hf
    exact pm_vret C X dX1_put_16 rfl (Nat.le_refl _) (Nat.le_refl _) q
theorem dX1_putTypes_0 : decode cX1_putTypes 0 = .ok (.iconst 0, 1) := by decide +kernel
theorem dX1_putTypes_1 : decode cX1_putTypes 1 = .ok (.istore 4, 2) := by decide +kernel
theorem dX1_putTypes_3 : decode cX1_putTypes 3 = .ok (.iload 4, 2) := by decide +kernel
theorem dX1_putTypes_5 : decode cX1_putTypes 5 = .ok (.iload_n 3, 1) := by decide +kernel
theorem dX1_putTypes_6 : decode cX1_putTypes 6 = .ok (.if_icmp .ge 21, 3) := by decide +kernel
theorem dX1_putTypes_9 : decode cX1_putTypes 9 = .ok (.aload_n 0, 1) := by decide +kernel
theorem dX1_putTypes_10 : decode cX1_putTypes 10 = .ok (.aload_n 1, 1) := by decide +kernel
theorem dX1_putTypes_11 : decode cX1_putTypes 11 = .ok (.iload_n 2, 1) := by decide +kernel
theorem dX1_putTypes_12 : decode cX1_putTypes 12 = .ok (.iload 4, 2) := by decide +kernel
theorem dX1_putTypes_14 : decode cX1_putTypes 14 = .ok (.iadd, 1) := by decide +kernel
theorem dX1_putTypes_15 : decode cX1_putTypes 15 = .ok (.invokestatic 105, 3) := by decide +kernel
theorem dX1_putTypes_18 : decode cX1_putTypes 18 = .ok (.invokevirtual 292, 3) := by decide +kernel
theorem dX1_putTypes_21 : decode cX1_putTypes 21 = .ok (.iinc 4 1, 3) := by decide +kernel
theorem dX1_putTypes_24 : decode cX1_putTypes 24 = .ok (.goto (-21), 3) := by decide +kernel
theorem dX1_putTypes_27 : decode cX1_putTypes 27 = .ok (.return_, 1) := by decide +kernel
def tX1_putTypes_3 (x0 : Nat) (x1 : Nat) (x2 : Int32) (x3 : Int32) (x4 : Int32) (h : pm_H) : Option (((Nat × Nat × Int32 × Int32 × Int32 × pm_H)) ⊕ pm_H) := if x3 ≤ x4 then (some (.inr (h))) else ((fX12_item h x1 (x2 + x4)).bind fun v2 => if pm_kd h x0 = 1 then (fX1_put h x0 v2).bind fun v5 => pm_let (x4 + 1) fun y7 => some (.inl ((x0, x1, x2, x3, y7, v5))) else none)
def sX1_putTypes : ((Nat × Nat × Int32 × Int32 × Int32 × pm_H)) → Option (((Nat × Nat × Int32 × Int32 × Int32 × pm_H)) ⊕ pm_H) := fun z => match z with
  | (x0, x1, x2, x3, x4, h) => tX1_putTypes_3 x0 x1 x2 x3 x4 h
noncomputable def fX1_putTypes (h : pm_H) (a0 : Nat) (p1 : Nat) (p2 : Int32) (p3 : Int32) : Option pm_H := pm_lim sX1_putTypes ((a0, p1, p2, p3, 0, h))
set_option maxHeartbeats 4000000 in
set_option maxRecDepth 100000 in
theorem lpX1_putTypes {g : pm_Gm} {l : Launch} {G : pm_Gl} {Qr : Option Value → pm_H → Prop} (C : pm_C g cX1_putTypes RX1) (X : pm_X g l G mX1_putTypes 0 0 Qr) {r : pm_H} (q : Qr none r) : ∀ n : Nat, (∀ (x0 : Nat) (x1 : Nat) (x2 : Int32) (x3 : Int32) (x4 : Int32) (h : pm_H), pm_iter sX1_putTypes n (x0, x1, x2, x3, x4, h) = some r → pm_G g 3 [(0, .ref x0), (1, .ref x1), (2, .int x2), (3, .int x3), (4, .int x4)] [] h 0 0) := by
  intro n
  induction n with
  | zero => exact fun _ _ _ _ _ _ hf => (by cases hf)
  | succ n ih =>
    refine fun x0 x1 x2 x3 x4 h hf => ?_
    obtain ⟨y, hf, hi⟩ := pm_iter_s hf
    have hf : tX1_putTypes_3 x0 x1 x2 x3 x4 h = some y := hf
    unfold tX1_putTypes_3 at hf
    refine pm_iload C dX1_putTypes_3 rfl ?_
    refine pm_iload_n C dX1_putTypes_5 rfl rfl ?_
    refine pm_icmp_ge (tgt := 27) C dX1_putTypes_6 (by decide) (fun c1 => ?_) (fun c1 => ?_)
    · have hf := pm_it hf c1
      cases hf
      cases hi
      exact pm_vret C X dX1_putTypes_27 rfl (Nat.le_refl _) (Nat.le_refl _) q
    · have hf := pm_ie hf c1
      refine pm_aload_n C dX1_putTypes_9 rfl rfl ?_
      refine pm_aload_n C dX1_putTypes_10 rfl rfl ?_
      refine pm_iload_n C dX1_putTypes_11 rfl rfl ?_
      refine pm_iload C dX1_putTypes_12 rfl ?_
      refine pm_iadd C dX1_putTypes_14 ?_
      obtain ⟨v2, e3, hf⟩ := pm_bd hf
      refine pm_callS (as := [.ref x1, .int (x2 + x4)]) (st := [.ref x0]) C X dX1_putTypes_15 lnX1_105 myX12_item stX12_item ⟨by decide, by decide⟩ rfl rfl (Nat.le_of_ble_eq_true rfl) (Nat.le_refl _) (Nat.le_refl _) (ctX12_item e3 ?_)
      show pm_G g 18 [(0, .ref x0), (1, .ref x1), (2, .int x2), (3, .int x3), (4, .int x4)] [.int v2, .ref x0] h 0 0
      obtain ⟨k4, hf⟩ := pm_if hf
      obtain ⟨v5, e6, hf⟩ := pm_bd hf
      refine pm_callV (as := [.int v2]) (st := []) C X dX1_putTypes_18 lnX1_292 myX1_put viX1_put ⟨by decide, by decide⟩ rfl rfl k4 (Nat.le_of_ble_eq_true rfl) (Nat.le_refl _) (Nat.le_refl _) (ctX1_put e6 ?_)
      show pm_G g 21 [(0, .ref x0), (1, .ref x1), (2, .int x2), (3, .int x3), (4, .int x4)] [] v5 0 0
      obtain ⟨y7, e8, hf⟩ := pm_lt hf
      refine pm_iinc (v := y7) (lv' := [(4, .int y7), (0, .ref x0), (1, .ref x1), (2, .int x2), (3, .int x3)]) C dX1_putTypes_21 rfl ((congrArg (x4 + ·) (by decide : Int32.ofInt 1 = 1)).trans e8) (pm_nl X (by decide)) rfl ?_
      refine pm_goto (tgt := 3) C dX1_putTypes_24 (by decide) ?_
      cases hf
      exact pm_sub [1, 2, 3, 4, 0] rfl (ih x0 x1 x2 x3 y7 v5 hi)
set_option maxHeartbeats 4000000 in
set_option maxRecDepth 100000 in
theorem ctX1_putTypes {l : Launch} {G : pm_Gl} {h : pm_H} {a0 : Nat} {p1 : Nat} {p2 : Int32} {p3 : Int32} {r : pm_H} {Qr : Option Value → pm_H → Prop} (hf : fX1_putTypes h a0 p1 p2 p3 = some r) (q : Qr none r) : pm_Ct l G mX1_putTypes [.ref a0, .ref p1, .int p2, .int p3] h 0 0 Qr := by
  refine pm_body pnX1 (Nat.le_of_ble_eq_true rfl) (fun g C X => ?_)
  have C : pm_C g cX1_putTypes RX1 := C
  show pm_G g 0 [(0, .ref a0), (1, .ref p1), (2, .int p2), (3, .int p3)] [] h 0 0
  unfold fX1_putTypes at hf
  refine pm_iconst (v := 0) C dX1_putTypes_0 (by decide) ?_
  refine pm_istore (lv' := [(4, .int 0), (0, .ref a0), (1, .ref p1), (2, .int p2), (3, .int p3)]) C dX1_putTypes_1 (pm_nl X (by decide)) rfl ?_
  obtain ⟨n, hn⟩ := pm_lim_iter hf
  exact pm_sub [1, 2, 3, 4, 0] rfl ((lpX1_putTypes C X q n) a0 p1 p2 p3 0 h hn)
