theorem dX16_resultsIn_0 : decode cX16_resultsIn 0 = .ok (.aload_n 0, 1) := by decide +kernel
theorem dX16_resultsIn_1 : decode cX16_resultsIn 1 = .ok (.iload_n 1, 1) := by decide +kernel
theorem dX16_resultsIn_2 : decode cX16_resultsIn 2 = .ok (.invokevirtual 1065, 3) := by decide +kernel
theorem dX16_resultsIn_5 : decode cX16_resultsIn 5 = .ok (.getfield 390, 3) := by decide +kernel
theorem dX16_resultsIn_8 : decode cX16_resultsIn 8 = .ok (.aload_n 0, 1) := by decide +kernel
theorem dX16_resultsIn_9 : decode cX16_resultsIn 9 = .ok (.getfield 71, 3) := by decide +kernel
theorem dX16_resultsIn_12 : decode cX16_resultsIn 12 = .ok (.iload_n 1, 1) := by decide +kernel
theorem dX16_resultsIn_13 : decode cX16_resultsIn 13 = .ok (.iaload, 1) := by decide +kernel
theorem dX16_resultsIn_14 : decode cX16_resultsIn 14 = .ok (.iaload, 1) := by decide +kernel
theorem dX16_resultsIn_15 : decode cX16_resultsIn 15 = .ok (.ireturn, 1) := by decide +kernel
def fX16_resultsIn (h : pm_H) (a0 : Nat) (p1 : Int32) : Option Int32 := if pm_kd h a0 = 16 then (fX16_planOf h a0 p1).bind fun v2 => if pm_kd h v2 = 14 then (pm_R h v2 6).bind fun v5 => (pm_R h a0 38).bind fun v7 => if pm_kd h v7 = 34 then if pm_in p1 (pm_ln h v7) then pm_let (pm_I h v7 p1.toNatClampNeg) fun y11 => if pm_kd h v5 = 34 then if pm_in y11 (pm_ln h v5) then some (pm_I h v5 y11.toNatClampNeg) else none else none else none else none else none else none
set_option maxHeartbeats 4000000 in
set_option maxRecDepth 100000 in
theorem ctX16_resultsIn {l : Launch} {G : pm_Gl} {h : pm_H} {a0 : Nat} {p1 : Int32} {r : Int32} {Qr : Option Value → pm_H → Prop} (hf : fX16_resultsIn h a0 p1 = some r) (q : Qr (some (.int r)) h) : pm_Ct l G mX16_resultsIn [.ref a0, .int p1] h 0 0 Qr := by
  refine pm_body pnX16 (Nat.le_of_ble_eq_true rfl) (fun g C X => ?_)
  have C : pm_C g cX16_resultsIn RX16 := C
  show pm_G g 0 [(0, .ref a0), (1, .int p1)] [] h 0 0
  unfold fX16_resultsIn at hf
  refine pm_aload_n C dX16_resultsIn_0 rfl rfl ?_
  refine pm_iload_n C dX16_resultsIn_1 rfl rfl ?_
  obtain ⟨k1, hf⟩ := pm_if hf
  obtain ⟨v2, e3, hf⟩ := pm_bd hf
  refine pm_callV (as := [.int p1]) (st := []) C X dX16_resultsIn_2 lnX16_1065 myX16_planOf viX16_planOf ⟨by decide, by decide⟩ rfl rfl k1 (Nat.le_of_ble_eq_true rfl) (Nat.le_refl _) (Nat.le_refl _) (ctX16_planOf e3 ?_)
  show pm_G g 5 [(0, .ref a0), (1, .int p1)] [.ref v2] h 0 0
  obtain ⟨k4, hf⟩ := pm_if hf
  obtain ⟨v5, e6, hf⟩ := pm_bd hf
  refine pm_getR C dX16_resultsIn_5 flX16_390 rfl k4 e6 ?_
  refine pm_aload_n C dX16_resultsIn_8 rfl rfl ?_
  obtain ⟨v7, e8, hf⟩ := pm_bd hf
  refine pm_getR C dX16_resultsIn_9 flX16_71 rfl k1 e8 ?_
  refine pm_iload_n C dX16_resultsIn_12 rfl rfl ?_
  obtain ⟨k9, hf⟩ := pm_if hf
  obtain ⟨u10, hf⟩ := pm_if hf
  refine pm_iald C dX16_resultsIn_13 k9 u10 rfl ?_
  obtain ⟨y11, e12, hf⟩ := pm_lt hf
  refine pm_topI e12 ?_
  obtain ⟨k13, hf⟩ := pm_if hf
  obtain ⟨u14, hf⟩ := pm_if hf
  refine pm_iald C dX16_resultsIn_14 k13 u14 rfl ?_
  cases hf
  exact pm_iret C X dX16_resultsIn_15 rfl (Nat.le_refl _) (Nat.le_refl _) q
theorem dX16_resultsOf_0 : decode cX16_resultsOf 0 = .ok (.lload_n 1, 1) := by decide +kernel
theorem dX16_resultsOf_1 : decode cX16_resultsOf 1 = .ok (.lconst 0, 1) := by decide +kernel
theorem dX16_resultsOf_2 : decode cX16_resultsOf 2 = .ok (.lcmp, 1) := by decide +kernel
theorem dX16_resultsOf_3 : decode cX16_resultsOf 3 = .ok (.ifCond .lt 16, 3) := by decide +kernel
theorem dX16_resultsOf_6 : decode cX16_resultsOf 6 = .ok (.aload_n 0, 1) := by decide +kernel
theorem dX16_resultsOf_7 : decode cX16_resultsOf 7 = .ok (.getfield 221, 3) := by decide +kernel
theorem dX16_resultsOf_10 : decode cX16_resultsOf 10 = .ok (.getfield 390, 3) := by decide +kernel
theorem dX16_resultsOf_13 : decode cX16_resultsOf 13 = .ok (.lload_n 1, 1) := by decide +kernel
theorem dX16_resultsOf_14 : decode cX16_resultsOf 14 = .ok (.l2i, 1) := by decide +kernel
theorem dX16_resultsOf_15 : decode cX16_resultsOf 15 = .ok (.iaload, 1) := by decide +kernel
theorem dX16_resultsOf_16 : decode cX16_resultsOf 16 = .ok (.goto 16, 3) := by decide +kernel
theorem dX16_resultsOf_19 : decode cX16_resultsOf 19 = .ok (.lload_n 1, 1) := by decide +kernel
theorem dX16_resultsOf_20 : decode cX16_resultsOf 20 = .ok (.ldc2_w 676, 3) := by decide +kernel
theorem dX16_resultsOf_23 : decode cX16_resultsOf 23 = .ok (.lcmp, 1) := by decide +kernel
theorem dX16_resultsOf_24 : decode cX16_resultsOf 24 = .ok (.ifCond .ne 7, 3) := by decide +kernel
theorem dX16_resultsOf_27 : decode cX16_resultsOf 27 = .ok (.iconst 0, 1) := by decide +kernel
theorem dX16_resultsOf_28 : decode cX16_resultsOf 28 = .ok (.goto 4, 3) := by decide +kernel
theorem dX16_resultsOf_31 : decode cX16_resultsOf 31 = .ok (.iconst 1, 1) := by decide +kernel
theorem dX16_resultsOf_32 : decode cX16_resultsOf 32 = .ok (.ireturn, 1) := by decide +kernel
def fX16_resultsOf (h : pm_H) (a0 : Nat) (p1 : Int64) : Option Int32 := if p1 < 0 then (if p1 = (-64) then (some 0) else (some 1)) else (if pm_kd h a0 = 16 then (pm_R h a0 10).bind fun v4 => if pm_kd h v4 = 14 then (pm_R h v4 6).bind fun v7 => if pm_kd h v7 = 34 then if pm_in p1.toInt32 (pm_ln h v7) then some (pm_I h v7 p1.toInt32.toNatClampNeg) else none else none else none else none)
set_option maxHeartbeats 4000000 in
set_option maxRecDepth 100000 in
theorem ctX16_resultsOf {l : Launch} {G : pm_Gl} {h : pm_H} {a0 : Nat} {p1 : Int64} {r : Int32} {Qr : Option Value → pm_H → Prop} (hf : fX16_resultsOf h a0 p1 = some r) (q : Qr (some (.int r)) h) : pm_Ct l G mX16_resultsOf [.ref a0, .long p1] h 0 0 Qr := by
  refine pm_body pnX16 (Nat.le_of_ble_eq_true rfl) (fun g C X => ?_)
  have C : pm_C g cX16_resultsOf RX16 := C
  show pm_G g 0 [(0, .ref a0), (1, .long p1)] [] h 0 0
  unfold fX16_resultsOf at hf
  refine pm_lload_n C dX16_resultsOf_0 rfl rfl ?_
  refine pm_lconst (v := 0) C dX16_resultsOf_1 (by decide) ?_
  refine pm_lcmp C dX16_resultsOf_2 ?_
  refine pm_if_lt (tgt := 19) C dX16_resultsOf_3 (by decide) (fun c1 => ?_) (fun c1 => ?_)
  · have hf := pm_it hf ((pm_lg_lt _ _).mp c1)
    refine pm_lload_n C dX16_resultsOf_19 rfl rfl ?_
    refine pm_ldc2 C dX16_resultsOf_20 cnX16_676 ?_
    refine pm_lcmp C dX16_resultsOf_23 ?_
    refine pm_if_ne (tgt := 31) C dX16_resultsOf_24 (by decide) (fun c2 => ?_) (fun c2 => ?_)
    · have hf := pm_ie hf ((fun z => c2 ((pm_lg_eq _ _).mpr z)))
      refine pm_iconst (v := 1) C dX16_resultsOf_31 (by decide) ?_
      cases hf
      exact pm_iret C X dX16_resultsOf_32 rfl (Nat.le_refl _) (Nat.le_refl _) q
    · have hf := pm_it hf ((pm_lg_eq _ _).mp c2)
      refine pm_iconst (v := 0) C dX16_resultsOf_27 (by decide) ?_
      refine pm_goto (tgt := 32) C dX16_resultsOf_28 (by decide) ?_
      cases hf
      exact pm_iret C X dX16_resultsOf_32 rfl (Nat.le_refl _) (Nat.le_refl _) q
  · have hf := pm_ie hf ((fun z => c1 ((pm_lg_lt _ _).mpr z)))
    refine pm_aload_n C dX16_resultsOf_6 rfl rfl ?_
    obtain ⟨k3, hf⟩ := pm_if hf
    obtain ⟨v4, e5, hf⟩ := pm_bd hf
    refine pm_getR C dX16_resultsOf_7 flX16_221 rfl k3 e5 ?_
    obtain ⟨k6, hf⟩ := pm_if hf
    obtain ⟨v7, e8, hf⟩ := pm_bd hf
    refine pm_getR C dX16_resultsOf_10 flX16_390 rfl k6 e8 ?_
    refine pm_lload_n C dX16_resultsOf_13 rfl rfl ?_
    refine pm_l2i C dX16_resultsOf_14 ?_
    obtain ⟨k9, hf⟩ := pm_if hf
    obtain ⟨u10, hf⟩ := pm_if hf
    refine pm_iald C dX16_resultsOf_15 k9 u10 rfl ?_
    refine pm_goto (tgt := 32) C dX16_resultsOf_16 (by decide) ?_
    cases hf
    exact pm_iret C X dX16_resultsOf_32 rfl (Nat.le_refl _) (Nat.le_refl _) q
theorem dX16_runs_0 : decode cX16_runs 0 = .ok (.aload_n 0, 1) := by decide +kernel
theorem dX16_runs_1 : decode cX16_runs 1 = .ok (.getfield 970, 3) := by decide +kernel
theorem dX16_runs_4 : decode cX16_runs 4 = .ok (.iconst 1, 1) := by decide +kernel
theorem dX16_runs_5 : decode cX16_runs 5 = .ok (.if_icmp .eq 11, 3) := by decide +kernel
theorem dX16_runs_8 : decode cX16_runs 8 = .ok (.aload_n 0, 1) := by decide +kernel
theorem dX16_runs_9 : decode cX16_runs 9 = .ok (.getfield 970, 3) := by decide +kernel
theorem dX16_runs_12 : decode cX16_runs 12 = .ok (.iconst 5, 1) := by decide +kernel
theorem dX16_runs_13 : decode cX16_runs 13 = .ok (.if_icmp .ne 7, 3) := by decide +kernel
theorem dX16_runs_16 : decode cX16_runs 16 = .ok (.iconst 1, 1) := by decide +kernel
theorem dX16_runs_17 : decode cX16_runs 17 = .ok (.goto 4, 3) := by decide +kernel
theorem dX16_runs_20 : decode cX16_runs 20 = .ok (.iconst 0, 1) := by decide +kernel
theorem dX16_runs_21 : decode cX16_runs 21 = .ok (.ireturn, 1) := by decide +kernel
def fX16_runs (h : pm_H) (a0 : Nat) : Option Int32 := if pm_kd h a0 = 16 then if (pm_I h a0 76) = 1 then (some 1) else (if (pm_I h a0 76) = 5 then (some 1) else (some 0)) else none
set_option maxHeartbeats 4000000 in
set_option maxRecDepth 100000 in
theorem ctX16_runs {l : Launch} {G : pm_Gl} {h : pm_H} {a0 : Nat} {r : Int32} {Qr : Option Value → pm_H → Prop} (hf : fX16_runs h a0 = some r) (q : Qr (some (.int r)) h) : pm_Ct l G mX16_runs [.ref a0] h 0 0 Qr := by
  refine pm_body pnX16 (Nat.le_of_ble_eq_true rfl) (fun g C X => ?_)
  have C : pm_C g cX16_runs RX16 := C
  show pm_G g 0 [(0, .ref a0)] [] h 0 0
  unfold fX16_runs at hf
  refine pm_aload_n C dX16_runs_0 rfl rfl ?_
  obtain ⟨k1, hf⟩ := pm_if hf
  refine pm_getI C dX16_runs_1 flX16_970 rfl k1 rfl ?_
  refine pm_iconst (v := 1) C dX16_runs_4 (by decide) ?_
  refine pm_icmp_eq (tgt := 16) C dX16_runs_5 (by decide) (fun c2 => ?_) (fun c2 => ?_)
  · have hf := pm_it hf c2
    refine pm_iconst (v := 1) C dX16_runs_16 (by decide) ?_
    refine pm_goto (tgt := 21) C dX16_runs_17 (by decide) ?_
    cases hf
    exact pm_zret C X dX16_runs_21 rfl (by decide) (Nat.le_refl _) (Nat.le_refl _) q
  · have hf := pm_ie hf c2
    refine pm_aload_n C dX16_runs_8 rfl rfl ?_
    refine pm_getI C dX16_runs_9 flX16_970 rfl k1 rfl ?_
    refine pm_iconst (v := 5) C dX16_runs_12 (by decide) ?_
    refine pm_icmp_ne (tgt := 20) C dX16_runs_13 (by decide) (fun c3 => ?_) (fun c3 => ?_)
    · have hf := pm_ie hf c3
      refine pm_iconst (v := 0) C dX16_runs_20 (by decide) ?_
      cases hf
      exact pm_zret C X dX16_runs_21 rfl (by decide) (Nat.le_refl _) (Nat.le_refl _) q
    · have hf := pm_it hf c3
      refine pm_iconst (v := 1) C dX16_runs_16 (by decide) ?_
      refine pm_goto (tgt := 21) C dX16_runs_17 (by decide) ?_
      cases hf
      exact pm_zret C X dX16_runs_21 rfl (by decide) (Nat.le_refl _) (Nat.le_refl _) q
theorem dX16_sets_0 : decode cX16_sets 0 = .ok (.aload_n 0, 1) := by decide +kernel
theorem dX16_sets_1 : decode cX16_sets 1 = .ok (.getfield 119, 3) := by decide +kernel
theorem dX16_sets_4 : decode cX16_sets 4 = .ok (.aload_n 0, 1) := by decide +kernel
theorem dX16_sets_5 : decode cX16_sets 5 = .ok (.iload_n 1, 1) := by decide +kernel
theorem dX16_sets_6 : decode cX16_sets 6 = .ok (.lload_n 2, 1) := by decide +kernel
theorem dX16_sets_7 : decode cX16_sets 7 = .ok (.invokevirtual 1061, 3) := by decide +kernel
theorem dX16_sets_10 : decode cX16_sets 10 = .ok (.iload 4, 2) := by decide +kernel
theorem dX16_sets_12 : decode cX16_sets 12 = .ok (.bastore, 1) := by decide +kernel
theorem dX16_sets_13 : decode cX16_sets 13 = .ok (.return_, 1) := by decide +kernel
def fX16_sets (h : pm_H) (a0 : Nat) (p1 : Int32) (p2 : Int64) (p3 : Int32) : Option pm_H := if pm_kd h a0 = 16 then (pm_R h a0 57).bind fun v2 => (fX16_placeOf h a0 p1 p2).bind fun v4 => if pm_kd h v2 = 33 then if pm_in v4 (pm_ln h v2) then some (pm_setI h v2 v4.toNatClampNeg (vp_nar .byte p3)) else none else none else none
set_option maxHeartbeats 4000000 in
set_option maxRecDepth 100000 in
theorem ctX16_sets {l : Launch} {G : pm_Gl} {h : pm_H} {a0 : Nat} {p1 : Int32} {p2 : Int64} {p3 : Int32} {r : pm_H} {Qr : Option Value → pm_H → Prop} (hf : fX16_sets h a0 p1 p2 p3 = some r) (q : Qr none r) : pm_Ct l G mX16_sets [.ref a0, .int p1, .long p2, .int p3] h 0 0 Qr := by
  refine pm_body pnX16 (Nat.le_of_ble_eq_true rfl) (fun g C X => ?_)
  have C : pm_C g cX16_sets RX16 := C
  show pm_G g 0 [(0, .ref a0), (1, .int p1), (2, .long p2), (4, .int p3)] [] h 0 0
  unfold fX16_sets at hf
  refine pm_aload_n C dX16_sets_0 rfl rfl ?_
  obtain ⟨k1, hf⟩ := pm_if hf
  obtain ⟨v2, e3, hf⟩ := pm_bd hf
  refine pm_getR C dX16_sets_1 flX16_119 rfl k1 e3 ?_
  refine pm_aload_n C dX16_sets_4 rfl rfl ?_
  refine pm_iload_n C dX16_sets_5 rfl rfl ?_
  refine pm_lload_n C dX16_sets_6 rfl rfl ?_
  obtain ⟨v4, e5, hf⟩ := pm_bd hf
  refine pm_callV (as := [.int p1, .long p2]) (st := [.ref v2]) C X dX16_sets_7 lnX16_1061 myX16_placeOf viX16_placeOf ⟨by decide, by decide⟩ rfl rfl k1 (Nat.le_of_ble_eq_true rfl) (Nat.le_refl _) (Nat.le_refl _) (ctX16_placeOf e5 ?_)
  show pm_G g 10 [(0, .ref a0), (1, .int p1), (2, .long p2), (4, .int p3)] [.int v4, .ref v2] h 0 0
  refine pm_iload C dX16_sets_10 rfl ?_
  obtain ⟨k6, hf⟩ := pm_if hf
  obtain ⟨u7, hf⟩ := pm_if hf
  refine pm_bast C dX16_sets_12 k6 u7 ?_
  cases hf
  exact pm_vret C X dX16_sets_13 rfl (Nat.le_refl _) (Nat.le_refl _) q
theorem dX16_signOf_0 : decode cX16_signOf 0 = .ok (.lconst 1, 1) := by decide +kernel
theorem dX16_signOf_1 : decode cX16_signOf 1 = .ok (.iload_n 0, 1) := by decide +kernel
theorem dX16_signOf_2 : decode cX16_signOf 2 = .ok (.iconst 2, 1) := by decide +kernel
theorem dX16_signOf_3 : decode cX16_signOf 3 = .ok (.if_icmp .ne 8, 3) := by decide +kernel
theorem dX16_signOf_6 : decode cX16_signOf 6 = .ok (.bipush 31, 2) := by decide +kernel
theorem dX16_signOf_8 : decode cX16_signOf 8 = .ok (.goto 5, 3) := by decide +kernel
theorem dX16_signOf_11 : decode cX16_signOf 11 = .ok (.bipush 63, 2) := by decide +kernel
theorem dX16_signOf_13 : decode cX16_signOf 13 = .ok (.lshl, 1) := by decide +kernel
theorem dX16_signOf_14 : decode cX16_signOf 14 = .ok (.lreturn, 1) := by decide +kernel
def fX16_signOf (p1 : Int32) : Int64 := if p1 = 2 then ((1 : Int64) <<< ((31 : Int32).toInt64 &&& 63)) else ((1 : Int64) <<< ((63 : Int32).toInt64 &&& 63))
set_option maxHeartbeats 4000000 in
set_option maxRecDepth 100000 in
theorem ctX16_signOf {l : Launch} {G : pm_Gl} {h : pm_H} {p1 : Int32} {r : Int64} {Qr : Option Value → pm_H → Prop} (hf : fX16_signOf p1 = r) (q : Qr (some (.long r)) h) : pm_Ct l G mX16_signOf [.int p1] h 0 0 Qr := by
  refine pm_body pnX16 (Nat.le_of_ble_eq_true rfl) (fun g C X => ?_)
  have C : pm_C g cX16_signOf RX16 := C
  show pm_G g 0 [(0, .int p1)] [] h 0 0
  unfold fX16_signOf at hf
  refine pm_lconst (v := 1) C dX16_signOf_0 (by decide) ?_
  refine pm_iload_n C dX16_signOf_1 rfl rfl ?_
  refine pm_iconst (v := 2) C dX16_signOf_2 (by decide) ?_
  refine pm_icmp_ne (tgt := 11) C dX16_signOf_3 (by decide) (fun c1 => ?_) (fun c1 => ?_)
  · have hf := pm_ie hf c1
    refine pm_bipush (v := 63) C dX16_signOf_11 (by decide) ?_
    refine pm_lshl C dX16_signOf_13 ?_
    subst hf
    exact pm_lret C X dX16_signOf_14 rfl (Nat.le_refl _) (Nat.le_refl _) q
  · have hf := pm_it hf c1
    refine pm_bipush (v := 31) C dX16_signOf_6 (by decide) ?_
    refine pm_goto (tgt := 13) C dX16_signOf_8 (by decide) ?_
    refine pm_lshl C dX16_signOf_13 ?_
    subst hf
    exact pm_lret C X dX16_signOf_14 rfl (Nat.le_refl _) (Nat.le_refl _) q
theorem dX16_signedWord_0 : decode cX16_signedWord 0 = .ok (.lconst 0, 1) := by decide +kernel
theorem dX16_signedWord_1 : decode cX16_signedWord 1 = .ok (.lstore_n 1, 1) := by decide +kernel
theorem dX16_signedWord_2 : decode cX16_signedWord 2 = .ok (.iconst 0, 1) := by decide +kernel
theorem dX16_signedWord_3 : decode cX16_signedWord 3 = .ok (.istore_n 3, 1) := by decide +kernel
theorem dX16_signedWord_4 : decode cX16_signedWord 4 = .ok (.sipush 128, 3) := by decide +kernel
theorem dX16_signedWord_7 : decode cX16_signedWord 7 = .ok (.istore 4, 2) := by decide +kernel
theorem dX16_signedWord_9 : decode cX16_signedWord 9 = .ok (.iload 4, 2) := by decide +kernel
theorem dX16_signedWord_11 : decode cX16_signedWord 11 = .ok (.bipush 127, 2) := by decide +kernel
theorem dX16_signedWord_13 : decode cX16_signedWord 13 = .ok (.if_icmp .le 43, 3) := by decide +kernel
theorem dX16_signedWord_16 : decode cX16_signedWord 16 = .ok (.aload_n 0, 1) := by decide +kernel
theorem dX16_signedWord_17 : decode cX16_signedWord 17 = .ok (.getfield 221, 3) := by decide +kernel
theorem dX16_signedWord_20 : decode cX16_signedWord 20 = .ok (.aload_n 0, 1) := by decide +kernel
theorem dX16_signedWord_21 : decode cX16_signedWord 21 = .ok (.getfield 594, 3) := by decide +kernel
theorem dX16_signedWord_24 : decode cX16_signedWord 24 = .ok (.invokevirtual 261, 3) := by decide +kernel
theorem dX16_signedWord_27 : decode cX16_signedWord 27 = .ok (.istore 4, 2) := by decide +kernel
theorem dX16_signedWord_29 : decode cX16_signedWord 29 = .ok (.lload_n 1, 1) := by decide +kernel
theorem dX16_signedWord_30 : decode cX16_signedWord 30 = .ok (.iload 4, 2) := by decide +kernel
theorem dX16_signedWord_32 : decode cX16_signedWord 32 = .ok (.bipush 127, 2) := by decide +kernel
theorem dX16_signedWord_34 : decode cX16_signedWord 34 = .ok (.iand, 1) := by decide +kernel
theorem dX16_signedWord_35 : decode cX16_signedWord 35 = .ok (.i2l, 1) := by decide +kernel
theorem dX16_signedWord_36 : decode cX16_signedWord 36 = .ok (.iload_n 3, 1) := by decide +kernel
theorem dX16_signedWord_37 : decode cX16_signedWord 37 = .ok (.lshl, 1) := by decide +kernel
theorem dX16_signedWord_38 : decode cX16_signedWord 38 = .ok (.lor, 1) := by decide +kernel
theorem dX16_signedWord_39 : decode cX16_signedWord 39 = .ok (.lstore_n 1, 1) := by decide +kernel
theorem dX16_signedWord_40 : decode cX16_signedWord 40 = .ok (.iinc 3 7, 3) := by decide +kernel
theorem dX16_signedWord_43 : decode cX16_signedWord 43 = .ok (.aload_n 0, 1) := by decide +kernel
theorem dX16_signedWord_44 : decode cX16_signedWord 44 = .ok (.dup, 1) := by decide +kernel
theorem dX16_signedWord_45 : decode cX16_signedWord 45 = .ok (.getfield 594, 3) := by decide +kernel
theorem dX16_signedWord_48 : decode cX16_signedWord 48 = .ok (.iconst 1, 1) := by decide +kernel
theorem dX16_signedWord_49 : decode cX16_signedWord 49 = .ok (.iadd, 1) := by decide +kernel
theorem dX16_signedWord_50 : decode cX16_signedWord 50 = .ok (.putfield 594, 3) := by decide +kernel
theorem dX16_signedWord_53 : decode cX16_signedWord 53 = .ok (.goto (-44), 3) := by decide +kernel
theorem dX16_signedWord_56 : decode cX16_signedWord 56 = .ok (.iload_n 3, 1) := by decide +kernel
theorem dX16_signedWord_57 : decode cX16_signedWord 57 = .ok (.bipush 64, 2) := by decide +kernel
theorem dX16_signedWord_59 : decode cX16_signedWord 59 = .ok (.if_icmp .ge 21, 3) := by decide +kernel
theorem dX16_signedWord_62 : decode cX16_signedWord 62 = .ok (.iload 4, 2) := by decide +kernel
theorem dX16_signedWord_64 : decode cX16_signedWord 64 = .ok (.bipush 64, 2) := by decide +kernel
theorem dX16_signedWord_66 : decode cX16_signedWord 66 = .ok (.iand, 1) := by decide +kernel
theorem dX16_signedWord_67 : decode cX16_signedWord 67 = .ok (.ifCond .eq 13, 3) := by decide +kernel
theorem dX16_signedWord_70 : decode cX16_signedWord 70 = .ok (.lload_n 1, 1) := by decide +kernel
theorem dX16_signedWord_71 : decode cX16_signedWord 71 = .ok (.ldc2_w 268, 3) := by decide +kernel
theorem dX16_signedWord_74 : decode cX16_signedWord 74 = .ok (.iload_n 3, 1) := by decide +kernel
theorem dX16_signedWord_75 : decode cX16_signedWord 75 = .ok (.lshl, 1) := by decide +kernel
theorem dX16_signedWord_76 : decode cX16_signedWord 76 = .ok (.lor, 1) := by decide +kernel
theorem dX16_signedWord_77 : decode cX16_signedWord 77 = .ok (.goto 4, 3) := by decide +kernel
theorem dX16_signedWord_80 : decode cX16_signedWord 80 = .ok (.lload_n 1, 1) := by decide +kernel
theorem dX16_signedWord_81 : decode cX16_signedWord 81 = .ok (.lreturn, 1) := by decide +kernel
def tX16_signedWord_9 (x0 : Nat) (x1 : Int64) (x3 : Int32) (x4 : Int32) (h : pm_H) : Option (((Nat × Int64 × Int32 × Int32 × pm_H)) ⊕ (Int64 × pm_H)) := if x4 ≤ 127 then (if 64 ≤ x3 then (some (.inr ((x1, h)))) else (if (x4 &&& 64) = 0 then (some (.inr ((x1, h)))) else (some (.inr ((x1 ||| (((-1) : Int64) <<< (x3.toInt64 &&& 63)), h)))))) else (if pm_kd h x0 = 16 then (pm_R h x0 10).bind fun v5 => if pm_kd h v5 = 14 then (fX14_at h v5 (pm_I h x0 19)).bind fun v8 => pm_let (x1 ||| (((v8 &&& 127).toInt64) <<< (x3.toInt64 &&& 63))) fun y10 => pm_let (x3 + 7) fun y12 => pm_let ((pm_I h x0 19) + 1) fun y14 => some (.inl ((x0, y10, y12, v8, pm_setI h x0 19 y14))) else none else none)
def sX16_signedWord : ((Nat × Int64 × Int32 × Int32 × pm_H)) → Option (((Nat × Int64 × Int32 × Int32 × pm_H)) ⊕ (Int64 × pm_H)) := fun z => match z with
  | (x0, x1, x3, x4, h) => tX16_signedWord_9 x0 x1 x3 x4 h
noncomputable def fX16_signedWord (h : pm_H) (a0 : Nat) : Option (Int64 × pm_H) := pm_lim sX16_signedWord ((a0, 0, 0, 128, h))
set_option maxHeartbeats 4000000 in
set_option maxRecDepth 100000 in
theorem lpX16_signedWord {g : pm_Gm} {l : Launch} {G : pm_Gl} {Qr : Option Value → pm_H → Prop} (C : pm_C g cX16_signedWord RX16) (X : pm_X g l G mX16_signedWord 0 0 Qr) {r : (Int64 × pm_H)} (q : Qr (some (.long r.1)) r.2) : ∀ n : Nat, (∀ (x0 : Nat) (x1 : Int64) (x3 : Int32) (x4 : Int32) (h : pm_H), pm_iter sX16_signedWord n (x0, x1, x3, x4, h) = some r → pm_G g 9 [(0, .ref x0), (1, .long x1), (3, .int x3), (4, .int x4)] [] h 0 0) := by
  intro n
  induction n with
  | zero => exact fun _ _ _ _ _ hf => (by cases hf)
  | succ n ih =>
    refine fun x0 x1 x3 x4 h hf => ?_
    obtain ⟨y, hf, hi⟩ := pm_iter_s hf
    have hf : tX16_signedWord_9 x0 x1 x3 x4 h = some y := hf
    unfold tX16_signedWord_9 at hf
    refine pm_iload C dX16_signedWord_9 rfl ?_
    refine pm_bipush (v := 127) C dX16_signedWord_11 (by decide) ?_
    refine pm_icmp_le (tgt := 56) C dX16_signedWord_13 (by decide) (fun c1 => ?_) (fun c1 => ?_)
    · have hf := pm_it hf c1
      refine pm_iload_n C dX16_signedWord_56 rfl rfl ?_
      refine pm_bipush (v := 64) C dX16_signedWord_57 (by decide) ?_
      refine pm_icmp_ge (tgt := 80) C dX16_signedWord_59 (by decide) (fun c2 => ?_) (fun c2 => ?_)
      · have hf := pm_it hf c2
        refine pm_lload_n C dX16_signedWord_80 rfl rfl ?_
        cases hf
        cases hi
        exact pm_lret C X dX16_signedWord_81 rfl (Nat.le_refl _) (Nat.le_refl _) q
      · have hf := pm_ie hf c2
        refine pm_iload C dX16_signedWord_62 rfl ?_
        refine pm_bipush (v := 64) C dX16_signedWord_64 (by decide) ?_
        refine pm_iand C dX16_signedWord_66 ?_
        refine pm_if_eq (tgt := 80) C dX16_signedWord_67 (by decide) (fun c3 => ?_) (fun c3 => ?_)
        · have hf := pm_it hf c3
          refine pm_lload_n C dX16_signedWord_80 rfl rfl ?_
          cases hf
          cases hi
          exact pm_lret C X dX16_signedWord_81 rfl (Nat.le_refl _) (Nat.le_refl _) q
        · have hf := pm_ie hf c3
          refine pm_lload_n C dX16_signedWord_70 rfl rfl ?_
          refine pm_ldc2 C dX16_signedWord_71 cnX16_268 ?_
          refine pm_iload_n C dX16_signedWord_74 rfl rfl ?_
          refine pm_lshl C dX16_signedWord_75 ?_
          refine pm_lor C dX16_signedWord_76 ?_
          refine pm_goto (tgt := 81) C dX16_signedWord_77 (by decide) ?_
          cases hf
          cases hi
          exact pm_lret C X dX16_signedWord_81 rfl (Nat.le_refl _) (Nat.le_refl _) q
    · have hf := pm_ie hf c1
      refine pm_aload_n C dX16_signedWord_16 rfl rfl ?_
      obtain ⟨k4, hf⟩ := pm_if hf
      obtain ⟨v5, e6, hf⟩ := pm_bd hf
      refine pm_getR C dX16_signedWord_17 flX16_221 rfl k4 e6 ?_
      refine pm_aload_n C dX16_signedWord_20 rfl rfl ?_
      refine pm_getI C dX16_signedWord_21 flX16_594 rfl k4 rfl ?_
      obtain ⟨k7, hf⟩ := pm_if hf
      obtain ⟨v8, e9, hf⟩ := pm_bd hf
      refine pm_callV (as := [.int (pm_I h x0 19)]) (st := []) C X dX16_signedWord_24 lnX16_261 myX14_at viX14_at ⟨by decide, by decide⟩ rfl rfl k7 (Nat.le_of_ble_eq_true rfl) (Nat.le_refl _) (Nat.le_refl _) (ctX14_at e9 ?_)
      show pm_G g 27 [(0, .ref x0), (1, .long x1), (3, .int x3), (4, .int x4)] [.int v8] h 0 0
      refine pm_istore (lv' := [(4, .int v8), (0, .ref x0), (1, .long x1), (3, .int x3)]) C dX16_signedWord_27 (pm_nl X (by decide)) rfl ?_
      refine pm_lload_n C dX16_signedWord_29 rfl rfl ?_
      refine pm_iload C dX16_signedWord_30 rfl ?_
      refine pm_bipush (v := 127) C dX16_signedWord_32 (by decide) ?_
      refine pm_iand C dX16_signedWord_34 ?_
      refine pm_i2l C dX16_signedWord_35 ?_
      refine pm_iload_n C dX16_signedWord_36 rfl rfl ?_
      refine pm_lshl C dX16_signedWord_37 ?_
      refine pm_lor C dX16_signedWord_38 ?_
      obtain ⟨y10, e11, hf⟩ := pm_lt hf
      refine pm_topL e11 ?_
      refine pm_lstore_n (lv' := [(1, .long y10), (4, .int v8), (0, .ref x0), (3, .int x3)]) C dX16_signedWord_39 rfl (pm_nl X (by decide)) rfl ?_
      obtain ⟨y12, e13, hf⟩ := pm_lt hf
      refine pm_iinc (v := y12) (lv' := [(3, .int y12), (1, .long y10), (4, .int v8), (0, .ref x0)]) C dX16_signedWord_40 rfl ((congrArg (x3 + ·) (by decide : Int32.ofInt 7 = 7)).trans e13) (pm_nl X (by decide)) rfl ?_
      refine pm_aload_n C dX16_signedWord_43 rfl rfl ?_
      refine pm_dup C dX16_signedWord_44 rfl ?_
      refine pm_getI C dX16_signedWord_45 flX16_594 rfl k4 rfl ?_
      refine pm_iconst (v := 1) C dX16_signedWord_48 (by decide) ?_
      refine pm_iadd C dX16_signedWord_49 ?_
      obtain ⟨y14, e15, hf⟩ := pm_lt hf
      refine pm_topI e15 ?_
      refine pm_putI C dX16_signedWord_50 flX16_594 rfl rfl k4 rfl rfl ?_
      refine pm_goto (tgt := 9) C dX16_signedWord_53 (by decide) ?_
      cases hf
      exact pm_sub [3, 1, 0, 2] rfl (ih x0 y10 y12 v8 (pm_setI h x0 19 y14) hi)
set_option maxHeartbeats 4000000 in
set_option maxRecDepth 100000 in
theorem ctX16_signedWord {l : Launch} {G : pm_Gl} {h : pm_H} {a0 : Nat} {r : (Int64 × pm_H)} {Qr : Option Value → pm_H → Prop} (hf : fX16_signedWord h a0 = some r) (q : Qr (some (.long r.1)) r.2) : pm_Ct l G mX16_signedWord [.ref a0] h 0 0 Qr := by
  refine pm_body pnX16 (Nat.le_of_ble_eq_true rfl) (fun g C X => ?_)
  have C : pm_C g cX16_signedWord RX16 := C
  show pm_G g 0 [(0, .ref a0)] [] h 0 0
  unfold fX16_signedWord at hf
  refine pm_lconst (v := 0) C dX16_signedWord_0 (by decide) ?_
  refine pm_lstore_n (lv' := [(1, .long 0), (0, .ref a0)]) C dX16_signedWord_1 rfl (pm_nl X (by decide)) rfl ?_
  refine pm_iconst (v := 0) C dX16_signedWord_2 (by decide) ?_
  refine pm_istore_n (lv' := [(3, .int 0), (1, .long 0), (0, .ref a0)]) C dX16_signedWord_3 rfl (pm_nl X (by decide)) rfl ?_
  refine pm_sipush (v := 128) C dX16_signedWord_4 (by decide) ?_
  refine pm_istore (lv' := [(4, .int 128), (3, .int 0), (1, .long 0), (0, .ref a0)]) C dX16_signedWord_7 (pm_nl X (by decide)) rfl ?_
  obtain ⟨n, hn⟩ := pm_lim_iter hf
  exact pm_sub [3, 2, 1, 0] rfl ((lpX16_signedWord C X q n) a0 0 0 128 h hn)
theorem dX16_state_0 : decode cX16_state 0 = .ok (.iload_n 1, 1) := by decide +kernel
theorem dX16_state_1 : decode cX16_state 1 = .ok (.tableswitch 152 0 12 #[67, 72, 77, 82, 98, 115, 120, 125, 130, 135, 140, 145, 150], 67) := by decide +kernel
theorem dX16_state_68 : decode cX16_state 68 = .ok (.aload_n 0, 1) := by decide +kernel
theorem dX16_state_69 : decode cX16_state 69 = .ok (.getfield 970, 3) := by decide +kernel
theorem dX16_state_72 : decode cX16_state 72 = .ok (.ireturn, 1) := by decide +kernel
theorem dX16_state_73 : decode cX16_state 73 = .ok (.aload_n 0, 1) := by decide +kernel
theorem dX16_state_74 : decode cX16_state 74 = .ok (.getfield 1046, 3) := by decide +kernel
theorem dX16_state_77 : decode cX16_state 77 = .ok (.ireturn, 1) := by decide +kernel
theorem dX16_state_78 : decode cX16_state 78 = .ok (.aload_n 0, 1) := by decide +kernel
theorem dX16_state_79 : decode cX16_state 79 = .ok (.getfield 1049, 3) := by decide +kernel
theorem dX16_state_82 : decode cX16_state 82 = .ok (.ireturn, 1) := by decide +kernel
theorem dX16_state_83 : decode cX16_state 83 = .ok (.aload_n 0, 1) := by decide +kernel
theorem dX16_state_84 : decode cX16_state 84 = .ok (.invokevirtual 986, 3) := by decide +kernel
theorem dX16_state_87 : decode cX16_state 87 = .ok (.ifCond .eq 10, 3) := by decide +kernel
theorem dX16_state_90 : decode cX16_state 90 = .ok (.aload_n 0, 1) := by decide +kernel
theorem dX16_state_91 : decode cX16_state 91 = .ok (.getfield 1052, 3) := by decide +kernel
theorem dX16_state_94 : decode cX16_state 94 = .ok (.goto 4, 3) := by decide +kernel
theorem dX16_state_97 : decode cX16_state 97 = .ok (.iconst 0, 1) := by decide +kernel
theorem dX16_state_98 : decode cX16_state 98 = .ok (.ireturn, 1) := by decide +kernel
theorem dX16_state_99 : decode cX16_state 99 = .ok (.aload_n 0, 1) := by decide +kernel
theorem dX16_state_100 : decode cX16_state 100 = .ok (.getfield 970, 3) := by decide +kernel
theorem dX16_state_103 : decode cX16_state 103 = .ok (.iconst 5, 1) := by decide +kernel
theorem dX16_state_104 : decode cX16_state 104 = .ok (.if_icmp .ne 10, 3) := by decide +kernel
theorem dX16_state_107 : decode cX16_state 107 = .ok (.aload_n 0, 1) := by decide +kernel
theorem dX16_state_108 : decode cX16_state 108 = .ok (.getfield 164, 3) := by decide +kernel
theorem dX16_state_111 : decode cX16_state 111 = .ok (.goto 4, 3) := by decide +kernel
theorem dX16_state_114 : decode cX16_state 114 = .ok (.iconst (-1), 1) := by decide +kernel
theorem dX16_state_115 : decode cX16_state 115 = .ok (.ireturn, 1) := by decide +kernel
theorem dX16_state_116 : decode cX16_state 116 = .ok (.aload_n 0, 1) := by decide +kernel
theorem dX16_state_117 : decode cX16_state 117 = .ok (.getfield 218, 3) := by decide +kernel
theorem dX16_state_120 : decode cX16_state 120 = .ok (.ireturn, 1) := by decide +kernel
theorem dX16_state_121 : decode cX16_state 121 = .ok (.aload_n 0, 1) := by decide +kernel
theorem dX16_state_122 : decode cX16_state 122 = .ok (.getfield 949, 3) := by decide +kernel
theorem dX16_state_125 : decode cX16_state 125 = .ok (.ireturn, 1) := by decide +kernel
theorem dX16_state_126 : decode cX16_state 126 = .ok (.aload_n 0, 1) := by decide +kernel
theorem dX16_state_127 : decode cX16_state 127 = .ok (.getfield 977, 3) := by decide +kernel
theorem dX16_state_130 : decode cX16_state 130 = .ok (.ireturn, 1) := by decide +kernel
theorem dX16_state_131 : decode cX16_state 131 = .ok (.aload_n 0, 1) := by decide +kernel
theorem dX16_state_132 : decode cX16_state 132 = .ok (.getfield 106, 3) := by decide +kernel
theorem dX16_state_135 : decode cX16_state 135 = .ok (.ireturn, 1) := by decide +kernel
theorem dX16_state_136 : decode cX16_state 136 = .ok (.aload_n 0, 1) := by decide +kernel
theorem dX16_state_137 : decode cX16_state 137 = .ok (.getfield 89, 3) := by decide +kernel
theorem dX16_state_140 : decode cX16_state 140 = .ok (.ireturn, 1) := by decide +kernel
theorem dX16_state_141 : decode cX16_state 141 = .ok (.aload_n 0, 1) := by decide +kernel
theorem dX16_state_142 : decode cX16_state 142 = .ok (.getfield 215, 3) := by decide +kernel
theorem dX16_state_145 : decode cX16_state 145 = .ok (.ireturn, 1) := by decide +kernel
theorem dX16_state_146 : decode cX16_state 146 = .ok (.aload_n 0, 1) := by decide +kernel
theorem dX16_state_147 : decode cX16_state 147 = .ok (.getfield 1120, 3) := by decide +kernel
theorem dX16_state_150 : decode cX16_state 150 = .ok (.ireturn, 1) := by decide +kernel
theorem dX16_state_151 : decode cX16_state 151 = .ok (.iconst 0, 1) := by decide +kernel
theorem dX16_state_152 : decode cX16_state 152 = .ok (.ireturn, 1) := by decide +kernel
theorem dX16_state_153 : decode cX16_state 153 = .ok (.iconst (-1), 1) := by decide +kernel
theorem dX16_state_154 : decode cX16_state 154 = .ok (.ireturn, 1) := by decide +kernel
def fX16_state (h : pm_H) (a0 : Nat) (p1 : Int32) : Option Int32 := if p1 = 0 then (if pm_kd h a0 = 16 then some (pm_I h a0 76) else none) else (if p1 = 1 then (if pm_kd h a0 = 16 then some (pm_I h a0 77) else none) else (if p1 = 2 then (if pm_kd h a0 = 16 then some (pm_I h a0 78) else none) else (if p1 = 3 then (if pm_kd h a0 = 16 then (fX16_runs h a0).bind fun v9 => if v9 = 0 then (some 0) else (some (pm_I h a0 85)) else none) else (if p1 = 4 then (if pm_kd h a0 = 16 then if (pm_I h a0 76) = 5 then (some (pm_I h a0 79)) else (some ((-1))) else none) else (if p1 = 5 then (if pm_kd h a0 = 16 then some (pm_I h a0 3) else none) else (if p1 = 6 then (if pm_kd h a0 = 16 then some (pm_I h a0 62) else none) else (if p1 = 7 then (if pm_kd h a0 = 16 then some (pm_I h a0 36) else none) else (if p1 = 8 then (if pm_kd h a0 = 16 then some (pm_I h a0 53) else none) else (if p1 = 9 then (if pm_kd h a0 = 16 then some (pm_I h a0 47) else none) else (if p1 = 10 then (if pm_kd h a0 = 16 then some (pm_I h a0 1) else none) else (if p1 = 11 then (if pm_kd h a0 = 16 then some (pm_I h a0 45) else none) else (if p1 = 12 then (some 0) else (some ((-1)))))))))))))))
set_option maxHeartbeats 4000000 in
set_option maxRecDepth 100000 in
theorem ctX16_state {l : Launch} {G : pm_Gl} {h : pm_H} {a0 : Nat} {p1 : Int32} {r : Int32} {Qr : Option Value → pm_H → Prop} (hf : fX16_state h a0 p1 = some r) (q : Qr (some (.int r)) h) : pm_Ct l G mX16_state [.ref a0, .int p1] h 0 0 Qr := by
  refine pm_body pnX16 (Nat.le_of_ble_eq_true rfl) (fun g C X => ?_)
  have C : pm_C g cX16_state RX16 := C
  show pm_G g 0 [(0, .ref a0), (1, .int p1)] [] h 0 0
  unfold fX16_state at hf
  refine pm_iload_n C dX16_state_0 rfl rfl ?_
  by_cases c1 : p1 = 0
  · have hf := pm_it hf c1
    refine pm_tableIn (tgt := 68) C dX16_state_1 (by rw [c1]; decide) (by rw [c1]; decide) (by rw [c1]; rfl) (by decide) ?_
    refine pm_aload_n C dX16_state_68 rfl rfl ?_
    obtain ⟨k2, hf⟩ := pm_if hf
    refine pm_getI C dX16_state_69 flX16_970 rfl k2 rfl ?_
    cases hf
    exact pm_iret C X dX16_state_72 rfl (Nat.le_refl _) (Nat.le_refl _) q
  have hf := pm_ie hf c1
  by_cases c3 : p1 = 1
  · have hf := pm_it hf c3
    refine pm_tableIn (tgt := 73) C dX16_state_1 (by rw [c3]; decide) (by rw [c3]; decide) (by rw [c3]; rfl) (by decide) ?_
    refine pm_aload_n C dX16_state_73 rfl rfl ?_
    obtain ⟨k4, hf⟩ := pm_if hf
    refine pm_getI C dX16_state_74 flX16_1046 rfl k4 rfl ?_
    cases hf
    exact pm_iret C X dX16_state_77 rfl (Nat.le_refl _) (Nat.le_refl _) q
  have hf := pm_ie hf c3
  by_cases c5 : p1 = 2
  · have hf := pm_it hf c5
    refine pm_tableIn (tgt := 78) C dX16_state_1 (by rw [c5]; decide) (by rw [c5]; decide) (by rw [c5]; rfl) (by decide) ?_
    refine pm_aload_n C dX16_state_78 rfl rfl ?_
    obtain ⟨k6, hf⟩ := pm_if hf
    refine pm_getI C dX16_state_79 flX16_1049 rfl k6 rfl ?_
    cases hf
    exact pm_iret C X dX16_state_82 rfl (Nat.le_refl _) (Nat.le_refl _) q
  have hf := pm_ie hf c5
  by_cases c7 : p1 = 3
  · have hf := pm_it hf c7
    refine pm_tableIn (tgt := 83) C dX16_state_1 (by rw [c7]; decide) (by rw [c7]; decide) (by rw [c7]; rfl) (by decide) ?_
    refine pm_aload_n C dX16_state_83 rfl rfl ?_
    obtain ⟨k8, hf⟩ := pm_if hf
    obtain ⟨v9, e10, hf⟩ := pm_bd hf
    refine pm_callV (as := []) (st := []) C X dX16_state_84 lnX16_986 myX16_runs viX16_runs ⟨by decide, by decide⟩ rfl rfl k8 (Nat.le_of_ble_eq_true rfl) (Nat.le_refl _) (Nat.le_refl _) (ctX16_runs e10 ?_)
    show pm_G g 87 [(0, .ref a0), (1, .int p1)] [.int v9] h 0 0
    refine pm_if_eq (tgt := 97) C dX16_state_87 (by decide) (fun c11 => ?_) (fun c11 => ?_)
    · have hf := pm_it hf c11
      refine pm_iconst (v := 0) C dX16_state_97 (by decide) ?_
      cases hf
      exact pm_iret C X dX16_state_98 rfl (Nat.le_refl _) (Nat.le_refl _) q
    · have hf := pm_ie hf c11
      refine pm_aload_n C dX16_state_90 rfl rfl ?_
      refine pm_getI C dX16_state_91 flX16_1052 rfl k8 rfl ?_
      refine pm_goto (tgt := 98) C dX16_state_94 (by decide) ?_
      cases hf
      exact pm_iret C X dX16_state_98 rfl (Nat.le_refl _) (Nat.le_refl _) q
  have hf := pm_ie hf c7
  by_cases c12 : p1 = 4
  · have hf := pm_it hf c12
    refine pm_tableIn (tgt := 99) C dX16_state_1 (by rw [c12]; decide) (by rw [c12]; decide) (by rw [c12]; rfl) (by decide) ?_
    refine pm_aload_n C dX16_state_99 rfl rfl ?_
    obtain ⟨k13, hf⟩ := pm_if hf
    refine pm_getI C dX16_state_100 flX16_970 rfl k13 rfl ?_
    refine pm_iconst (v := 5) C dX16_state_103 (by decide) ?_
    refine pm_icmp_ne (tgt := 114) C dX16_state_104 (by decide) (fun c14 => ?_) (fun c14 => ?_)
    · have hf := pm_ie hf c14
      refine pm_iconst (v := (-1)) C dX16_state_114 (by decide) ?_
      cases hf
      exact pm_iret C X dX16_state_115 rfl (Nat.le_refl _) (Nat.le_refl _) q
    · have hf := pm_it hf c14
      refine pm_aload_n C dX16_state_107 rfl rfl ?_
      refine pm_getI C dX16_state_108 flX16_164 rfl k13 rfl ?_
      refine pm_goto (tgt := 115) C dX16_state_111 (by decide) ?_
      cases hf
      exact pm_iret C X dX16_state_115 rfl (Nat.le_refl _) (Nat.le_refl _) q
  have hf := pm_ie hf c12
  by_cases c15 : p1 = 5
  · have hf := pm_it hf c15
    refine pm_tableIn (tgt := 116) C dX16_state_1 (by rw [c15]; decide) (by rw [c15]; decide) (by rw [c15]; rfl) (by decide) ?_
    refine pm_aload_n C dX16_state_116 rfl rfl ?_
    obtain ⟨k16, hf⟩ := pm_if hf
    refine pm_getI C dX16_state_117 flX16_218 rfl k16 rfl ?_
    cases hf
    exact pm_iret C X dX16_state_120 rfl (Nat.le_refl _) (Nat.le_refl _) q
  have hf := pm_ie hf c15
  by_cases c17 : p1 = 6
  · have hf := pm_it hf c17
    refine pm_tableIn (tgt := 121) C dX16_state_1 (by rw [c17]; decide) (by rw [c17]; decide) (by rw [c17]; rfl) (by decide) ?_
    refine pm_aload_n C dX16_state_121 rfl rfl ?_
    obtain ⟨k18, hf⟩ := pm_if hf
    refine pm_getI C dX16_state_122 flX16_949 rfl k18 rfl ?_
    cases hf
    exact pm_iret C X dX16_state_125 rfl (Nat.le_refl _) (Nat.le_refl _) q
  have hf := pm_ie hf c17
  by_cases c19 : p1 = 7
  · have hf := pm_it hf c19
    refine pm_tableIn (tgt := 126) C dX16_state_1 (by rw [c19]; decide) (by rw [c19]; decide) (by rw [c19]; rfl) (by decide) ?_
    refine pm_aload_n C dX16_state_126 rfl rfl ?_
    obtain ⟨k20, hf⟩ := pm_if hf
    refine pm_getI C dX16_state_127 flX16_977 rfl k20 rfl ?_
    cases hf
    exact pm_iret C X dX16_state_130 rfl (Nat.le_refl _) (Nat.le_refl _) q
  have hf := pm_ie hf c19
  by_cases c21 : p1 = 8
  · have hf := pm_it hf c21
    refine pm_tableIn (tgt := 131) C dX16_state_1 (by rw [c21]; decide) (by rw [c21]; decide) (by rw [c21]; rfl) (by decide) ?_
    refine pm_aload_n C dX16_state_131 rfl rfl ?_
    obtain ⟨k22, hf⟩ := pm_if hf
    refine pm_getI C dX16_state_132 flX16_106 rfl k22 rfl ?_
    cases hf
    exact pm_iret C X dX16_state_135 rfl (Nat.le_refl _) (Nat.le_refl _) q
  have hf := pm_ie hf c21
  by_cases c23 : p1 = 9
  · have hf := pm_it hf c23
    refine pm_tableIn (tgt := 136) C dX16_state_1 (by rw [c23]; decide) (by rw [c23]; decide) (by rw [c23]; rfl) (by decide) ?_
    refine pm_aload_n C dX16_state_136 rfl rfl ?_
    obtain ⟨k24, hf⟩ := pm_if hf
    refine pm_getI C dX16_state_137 flX16_89 rfl k24 rfl ?_
    cases hf
    exact pm_iret C X dX16_state_140 rfl (Nat.le_refl _) (Nat.le_refl _) q
  have hf := pm_ie hf c23
  by_cases c25 : p1 = 10
  · have hf := pm_it hf c25
    refine pm_tableIn (tgt := 141) C dX16_state_1 (by rw [c25]; decide) (by rw [c25]; decide) (by rw [c25]; rfl) (by decide) ?_
    refine pm_aload_n C dX16_state_141 rfl rfl ?_
    obtain ⟨k26, hf⟩ := pm_if hf
    refine pm_getI C dX16_state_142 flX16_215 rfl k26 rfl ?_
    cases hf
    exact pm_iret C X dX16_state_145 rfl (Nat.le_refl _) (Nat.le_refl _) q
  have hf := pm_ie hf c25
  by_cases c27 : p1 = 11
  · have hf := pm_it hf c27
    refine pm_tableIn (tgt := 146) C dX16_state_1 (by rw [c27]; decide) (by rw [c27]; decide) (by rw [c27]; rfl) (by decide) ?_
    refine pm_aload_n C dX16_state_146 rfl rfl ?_
    obtain ⟨k28, hf⟩ := pm_if hf
    refine pm_getI C dX16_state_147 flX16_1120 rfl k28 rfl ?_
    cases hf
    exact pm_iret C X dX16_state_150 rfl (Nat.le_refl _) (Nat.le_refl _) q
  have hf := pm_ie hf c27
  by_cases c29 : p1 = 12
  · have hf := pm_it hf c29
    refine pm_tableIn (tgt := 151) C dX16_state_1 (by rw [c29]; decide) (by rw [c29]; decide) (by rw [c29]; rfl) (by decide) ?_
    refine pm_iconst (v := 0) C dX16_state_151 (by decide) ?_
    cases hf
    exact pm_iret C X dX16_state_152 rfl (Nat.le_refl _) (Nat.le_refl _) q
  have hf := pm_ie hf c29
  have nc1 := lv_neT c1 (by decide : (0 : Int32).toInt = 0)
  have nc3 := lv_neT c3 (by decide : (1 : Int32).toInt = 1)
  have nc5 := lv_neT c5 (by decide : (2 : Int32).toInt = 2)
  have nc7 := lv_neT c7 (by decide : (3 : Int32).toInt = 3)
  have nc12 := lv_neT c12 (by decide : (4 : Int32).toInt = 4)
  have nc15 := lv_neT c15 (by decide : (5 : Int32).toInt = 5)
  have nc17 := lv_neT c17 (by decide : (6 : Int32).toInt = 6)
  have nc19 := lv_neT c19 (by decide : (7 : Int32).toInt = 7)
  have nc21 := lv_neT c21 (by decide : (8 : Int32).toInt = 8)
  have nc23 := lv_neT c23 (by decide : (9 : Int32).toInt = 9)
  have nc25 := lv_neT c25 (by decide : (10 : Int32).toInt = 10)
  have nc27 := lv_neT c27 (by decide : (11 : Int32).toInt = 11)
  have nc29 := lv_neT c29 (by decide : (12 : Int32).toInt = 12)
  refine pm_tableOut (tgt := 153) C dX16_state_1 (by omega) (by decide) ?_
  refine pm_iconst (v := (-1)) C dX16_state_153 (by decide) ?_
  cases hf
  exact pm_iret C X dX16_state_154 rfl (Nat.le_refl _) (Nat.le_refl _) q
theorem dX16_tablesStep_0 : decode cX16_tablesStep 0 = .ok (.aload_n 0, 1) := by decide +kernel
theorem dX16_tablesStep_1 : decode cX16_tablesStep 1 = .ok (.getfield 137, 3) := by decide +kernel
theorem dX16_tablesStep_4 : decode cX16_tablesStep 4 = .ok (.sipush 128, 3) := by decide +kernel
theorem dX16_tablesStep_7 : decode cX16_tablesStep 7 = .ok (.aload_n 0, 1) := by decide +kernel
theorem dX16_tablesStep_8 : decode cX16_tablesStep 8 = .ok (.getfield 1110, 3) := by decide +kernel
theorem dX16_tablesStep_11 : decode cX16_tablesStep 11 = .ok (.imul, 1) := by decide +kernel
theorem dX16_tablesStep_12 : decode cX16_tablesStep 12 = .ok (.iload_n 1, 1) := by decide +kernel
theorem dX16_tablesStep_13 : decode cX16_tablesStep 13 = .ok (.bipush 12, 2) := by decide +kernel
theorem dX16_tablesStep_15 : decode cX16_tablesStep 15 = .ok (.if_icmp .ne 7, 3) := by decide +kernel
theorem dX16_tablesStep_18 : decode cX16_tablesStep 18 = .ok (.iload_n 3, 1) := by decide +kernel
theorem dX16_tablesStep_19 : decode cX16_tablesStep 19 = .ok (.goto 4, 3) := by decide +kernel
theorem dX16_tablesStep_22 : decode cX16_tablesStep 22 = .ok (.iload_n 2, 1) := by decide +kernel
theorem dX16_tablesStep_23 : decode cX16_tablesStep 23 = .ok (.iadd, 1) := by decide +kernel
theorem dX16_tablesStep_24 : decode cX16_tablesStep 24 = .ok (.iaload, 1) := by decide +kernel
theorem dX16_tablesStep_25 : decode cX16_tablesStep 25 = .ok (.istore 4, 2) := by decide +kernel
theorem dX16_tablesStep_27 : decode cX16_tablesStep 27 = .ok (.iload_n 1, 1) := by decide +kernel
theorem dX16_tablesStep_28 : decode cX16_tablesStep 28 = .ok (.bipush 16, 2) := by decide +kernel
theorem dX16_tablesStep_30 : decode cX16_tablesStep 30 = .ok (.if_icmp .ne 16, 3) := by decide +kernel
theorem dX16_tablesStep_33 : decode cX16_tablesStep 33 = .ok (.aload_n 0, 1) := by decide +kernel
theorem dX16_tablesStep_34 : decode cX16_tablesStep 34 = .ok (.aload_n 0, 1) := by decide +kernel
theorem dX16_tablesStep_35 : decode cX16_tablesStep 35 = .ok (.getfield 96, 3) := by decide +kernel
theorem dX16_tablesStep_38 : decode cX16_tablesStep 38 = .ok (.iload 4, 2) := by decide +kernel
theorem dX16_tablesStep_40 : decode cX16_tablesStep 40 = .ok (.iaload, 1) := by decide +kernel
theorem dX16_tablesStep_41 : decode cX16_tablesStep 41 = .ok (.i2l, 1) := by decide +kernel
theorem dX16_tablesStep_42 : decode cX16_tablesStep 42 = .ok (.invokevirtual 1136, 3) := by decide +kernel
theorem dX16_tablesStep_45 : decode cX16_tablesStep 45 = .ok (.return_, 1) := by decide +kernel
theorem dX16_tablesStep_46 : decode cX16_tablesStep 46 = .ok (.aload_n 0, 1) := by decide +kernel
theorem dX16_tablesStep_47 : decode cX16_tablesStep 47 = .ok (.invokevirtual 1157, 3) := by decide +kernel
theorem dX16_tablesStep_50 : decode cX16_tablesStep 50 = .ok (.lstore 5, 2) := by decide +kernel
theorem dX16_tablesStep_52 : decode cX16_tablesStep 52 = .ok (.aload_n 0, 1) := by decide +kernel
theorem dX16_tablesStep_53 : decode cX16_tablesStep 53 = .ok (.invokevirtual 1157, 3) := by decide +kernel
theorem dX16_tablesStep_56 : decode cX16_tablesStep 56 = .ok (.lstore 7, 2) := by decide +kernel
theorem dX16_tablesStep_58 : decode cX16_tablesStep 58 = .ok (.iload_n 1, 1) := by decide +kernel
theorem dX16_tablesStep_59 : decode cX16_tablesStep 59 = .ok (.bipush 15, 2) := by decide +kernel
theorem dX16_tablesStep_61 : decode cX16_tablesStep 61 = .ok (.if_icmp .ne 106, 3) := by decide +kernel
theorem dX16_tablesStep_64 : decode cX16_tablesStep 64 = .ok (.aload_n 0, 1) := by decide +kernel
theorem dX16_tablesStep_65 : decode cX16_tablesStep 65 = .ok (.getfield 99, 3) := by decide +kernel
theorem dX16_tablesStep_68 : decode cX16_tablesStep 68 = .ok (.iload 4, 2) := by decide +kernel
theorem dX16_tablesStep_70 : decode cX16_tablesStep 70 = .ok (.laload, 1) := by decide +kernel
theorem dX16_tablesStep_71 : decode cX16_tablesStep 71 = .ok (.lconst 0, 1) := by decide +kernel
theorem dX16_tablesStep_72 : decode cX16_tablesStep 72 = .ok (.lcmp, 1) := by decide +kernel
theorem dX16_tablesStep_73 : decode cX16_tablesStep 73 = .ok (.ifCond .ge 9, 3) := by decide +kernel
theorem dX16_tablesStep_76 : decode cX16_tablesStep 76 = .ok (.ldc2_w 513, 3) := by decide +kernel
theorem dX16_tablesStep_79 : decode cX16_tablesStep 79 = .ok (.goto 10, 3) := by decide +kernel
theorem dX16_tablesStep_82 : decode cX16_tablesStep 82 = .ok (.aload_n 0, 1) := by decide +kernel
theorem dX16_tablesStep_83 : decode cX16_tablesStep 83 = .ok (.getfield 99, 3) := by decide +kernel
theorem dX16_tablesStep_86 : decode cX16_tablesStep 86 = .ok (.iload 4, 2) := by decide +kernel
theorem dX16_tablesStep_88 : decode cX16_tablesStep 88 = .ok (.laload, 1) := by decide +kernel
theorem dX16_tablesStep_89 : decode cX16_tablesStep 89 = .ok (.lstore 9, 2) := by decide +kernel
theorem dX16_tablesStep_91 : decode cX16_tablesStep 91 = .ok (.aload_n 0, 1) := by decide +kernel
theorem dX16_tablesStep_92 : decode cX16_tablesStep 92 = .ok (.getfield 96, 3) := by decide +kernel
theorem dX16_tablesStep_95 : decode cX16_tablesStep 95 = .ok (.iload 4, 2) := by decide +kernel
theorem dX16_tablesStep_97 : decode cX16_tablesStep 97 = .ok (.iaload, 1) := by decide +kernel
theorem dX16_tablesStep_98 : decode cX16_tablesStep 98 = .ok (.i2l, 1) := by decide +kernel
theorem dX16_tablesStep_99 : decode cX16_tablesStep 99 = .ok (.lload 5, 2) := by decide +kernel
theorem dX16_tablesStep_101 : decode cX16_tablesStep 101 = .ok (.ladd, 1) := by decide +kernel
theorem dX16_tablesStep_102 : decode cX16_tablesStep 102 = .ok (.lload 9, 2) := by decide +kernel
theorem dX16_tablesStep_104 : decode cX16_tablesStep 104 = .ok (.lcmp, 1) := by decide +kernel
theorem dX16_tablesStep_105 : decode cX16_tablesStep 105 = .ok (.ifCond .gt 18, 3) := by decide +kernel
theorem dX16_tablesStep_108 : decode cX16_tablesStep 108 = .ok (.lload 5, 2) := by decide +kernel
theorem dX16_tablesStep_110 : decode cX16_tablesStep 110 = .ok (.aload_n 0, 1) := by decide +kernel
theorem dX16_tablesStep_111 : decode cX16_tablesStep 111 = .ok (.getfield 89, 3) := by decide +kernel
theorem dX16_tablesStep_114 : decode cX16_tablesStep 114 = .ok (.i2l, 1) := by decide +kernel
theorem dX16_tablesStep_115 : decode cX16_tablesStep 115 = .ok (.lcmp, 1) := by decide +kernel
theorem dX16_tablesStep_116 : decode cX16_tablesStep 116 = .ok (.ifCond .gt 7, 3) := by decide +kernel
theorem dX16_tablesStep_119 : decode cX16_tablesStep 119 = .ok (.iconst 1, 1) := by decide +kernel
theorem dX16_tablesStep_120 : decode cX16_tablesStep 120 = .ok (.goto 4, 3) := by decide +kernel
theorem dX16_tablesStep_123 : decode cX16_tablesStep 123 = .ok (.iconst 0, 1) := by decide +kernel
theorem dX16_tablesStep_124 : decode cX16_tablesStep 124 = .ok (.istore 11, 2) := by decide +kernel
theorem dX16_tablesStep_126 : decode cX16_tablesStep 126 = .ok (.aload_n 0, 1) := by decide +kernel
theorem dX16_tablesStep_127 : decode cX16_tablesStep 127 = .ok (.iload 11, 2) := by decide +kernel
theorem dX16_tablesStep_129 : decode cX16_tablesStep 129 = .ok (.ifCond .eq 14, 3) := by decide +kernel
theorem dX16_tablesStep_132 : decode cX16_tablesStep 132 = .ok (.aload_n 0, 1) := by decide +kernel
theorem dX16_tablesStep_133 : decode cX16_tablesStep 133 = .ok (.getfield 96, 3) := by decide +kernel
theorem dX16_tablesStep_136 : decode cX16_tablesStep 136 = .ok (.iload 4, 2) := by decide +kernel
theorem dX16_tablesStep_138 : decode cX16_tablesStep 138 = .ok (.iaload, 1) := by decide +kernel
theorem dX16_tablesStep_139 : decode cX16_tablesStep 139 = .ok (.i2l, 1) := by decide +kernel
theorem dX16_tablesStep_140 : decode cX16_tablesStep 140 = .ok (.goto 6, 3) := by decide +kernel
theorem dX16_tablesStep_143 : decode cX16_tablesStep 143 = .ok (.ldc2_w 513, 3) := by decide +kernel
theorem dX16_tablesStep_146 : decode cX16_tablesStep 146 = .ok (.invokevirtual 1136, 3) := by decide +kernel
theorem dX16_tablesStep_149 : decode cX16_tablesStep 149 = .ok (.iload 11, 2) := by decide +kernel
theorem dX16_tablesStep_151 : decode cX16_tablesStep 151 = .ok (.ifCond .eq 15, 3) := by decide +kernel
theorem dX16_tablesStep_154 : decode cX16_tablesStep 154 = .ok (.aload_n 0, 1) := by decide +kernel
theorem dX16_tablesStep_155 : decode cX16_tablesStep 155 = .ok (.iload 4, 2) := by decide +kernel
theorem dX16_tablesStep_157 : decode cX16_tablesStep 157 = .ok (.lload 5, 2) := by decide +kernel
theorem dX16_tablesStep_159 : decode cX16_tablesStep 159 = .ok (.l2i, 1) := by decide +kernel
theorem dX16_tablesStep_160 : decode cX16_tablesStep 160 = .ok (.lload 7, 2) := by decide +kernel
theorem dX16_tablesStep_162 : decode cX16_tablesStep 162 = .ok (.l2i, 1) := by decide +kernel
theorem dX16_tablesStep_163 : decode cX16_tablesStep 163 = .ok (.invokevirtual 1013, 3) := by decide +kernel
theorem dX16_tablesStep_166 : decode cX16_tablesStep 166 = .ok (.return_, 1) := by decide +kernel
theorem dX16_tablesStep_167 : decode cX16_tablesStep 167 = .ok (.aload_n 0, 1) := by decide +kernel
theorem dX16_tablesStep_168 : decode cX16_tablesStep 168 = .ok (.invokevirtual 1157, 3) := by decide +kernel
theorem dX16_tablesStep_171 : decode cX16_tablesStep 171 = .ok (.lstore 9, 2) := by decide +kernel
theorem dX16_tablesStep_173 : decode cX16_tablesStep 173 = .ok (.iload_n 1, 1) := by decide +kernel
theorem dX16_tablesStep_174 : decode cX16_tablesStep 174 = .ok (.bipush 12, 2) := by decide +kernel
theorem dX16_tablesStep_176 : decode cX16_tablesStep 176 = .ok (.if_icmp .ne 35, 3) := by decide +kernel
theorem dX16_tablesStep_179 : decode cX16_tablesStep 179 = .ok (.aload_n 0, 1) := by decide +kernel
theorem dX16_tablesStep_180 : decode cX16_tablesStep 180 = .ok (.bipush 6, 2) := by decide +kernel
theorem dX16_tablesStep_182 : decode cX16_tablesStep 182 = .ok (.aload_n 0, 1) := by decide +kernel
theorem dX16_tablesStep_183 : decode cX16_tablesStep 183 = .ok (.aload_n 0, 1) := by decide +kernel
theorem dX16_tablesStep_184 : decode cX16_tablesStep 184 = .ok (.getfield 1110, 3) := by decide +kernel
theorem dX16_tablesStep_187 : decode cX16_tablesStep 187 = .ok (.iload_n 2, 1) := by decide +kernel
theorem dX16_tablesStep_188 : decode cX16_tablesStep 188 = .ok (.iload 4, 2) := by decide +kernel
theorem dX16_tablesStep_190 : decode cX16_tablesStep 190 = .ok (.lload 9, 2) := by decide +kernel
theorem dX16_tablesStep_192 : decode cX16_tablesStep 192 = .ok (.lload 7, 2) := by decide +kernel
theorem dX16_tablesStep_194 : decode cX16_tablesStep 194 = .ok (.lload 5, 2) := by decide +kernel
theorem dX16_tablesStep_196 : decode cX16_tablesStep 196 = .ok (.invokevirtual 1030, 3) := by decide +kernel
theorem dX16_tablesStep_199 : decode cX16_tablesStep 199 = .ok (.ifCond .ne 7, 3) := by decide +kernel
theorem dX16_tablesStep_202 : decode cX16_tablesStep 202 = .ok (.iconst 1, 1) := by decide +kernel
theorem dX16_tablesStep_203 : decode cX16_tablesStep 203 = .ok (.goto 4, 3) := by decide +kernel
theorem dX16_tablesStep_206 : decode cX16_tablesStep 206 = .ok (.iconst 0, 1) := by decide +kernel
theorem dX16_tablesStep_207 : decode cX16_tablesStep 207 = .ok (.invokevirtual 1163, 3) := by decide +kernel
theorem dX16_tablesStep_210 : decode cX16_tablesStep 210 = .ok (.return_, 1) := by decide +kernel
theorem dX16_tablesStep_211 : decode cX16_tablesStep 211 = .ok (.aload_n 0, 1) := by decide +kernel
theorem dX16_tablesStep_212 : decode cX16_tablesStep 212 = .ok (.getfield 137, 3) := by decide +kernel
theorem dX16_tablesStep_215 : decode cX16_tablesStep 215 = .ok (.sipush 128, 3) := by decide +kernel
theorem dX16_tablesStep_218 : decode cX16_tablesStep 218 = .ok (.aload_n 0, 1) := by decide +kernel
theorem dX16_tablesStep_219 : decode cX16_tablesStep 219 = .ok (.getfield 1110, 3) := by decide +kernel
theorem dX16_tablesStep_222 : decode cX16_tablesStep 222 = .ok (.imul, 1) := by decide +kernel
theorem dX16_tablesStep_223 : decode cX16_tablesStep 223 = .ok (.iload_n 3, 1) := by decide +kernel
theorem dX16_tablesStep_224 : decode cX16_tablesStep 224 = .ok (.iadd, 1) := by decide +kernel
theorem dX16_tablesStep_225 : decode cX16_tablesStep 225 = .ok (.iaload, 1) := by decide +kernel
theorem dX16_tablesStep_226 : decode cX16_tablesStep 226 = .ok (.istore 11, 2) := by decide +kernel
theorem dX16_tablesStep_228 : decode cX16_tablesStep 228 = .ok (.lload 9, 2) := by decide +kernel
theorem dX16_tablesStep_230 : decode cX16_tablesStep 230 = .ok (.lload 5, 2) := by decide +kernel
theorem dX16_tablesStep_232 : decode cX16_tablesStep 232 = .ok (.ladd, 1) := by decide +kernel
theorem dX16_tablesStep_233 : decode cX16_tablesStep 233 = .ok (.aload_n 0, 1) := by decide +kernel
theorem dX16_tablesStep_234 : decode cX16_tablesStep 234 = .ok (.getfield 96, 3) := by decide +kernel
theorem dX16_tablesStep_237 : decode cX16_tablesStep 237 = .ok (.iload 4, 2) := by decide +kernel
theorem dX16_tablesStep_239 : decode cX16_tablesStep 239 = .ok (.iaload, 1) := by decide +kernel
theorem dX16_tablesStep_240 : decode cX16_tablesStep 240 = .ok (.i2l, 1) := by decide +kernel
theorem dX16_tablesStep_241 : decode cX16_tablesStep 241 = .ok (.lcmp, 1) := by decide +kernel
theorem dX16_tablesStep_242 : decode cX16_tablesStep 242 = .ok (.ifCond .gt 26, 3) := by decide +kernel
theorem dX16_tablesStep_245 : decode cX16_tablesStep 245 = .ok (.iload_n 1, 1) := by decide +kernel
theorem dX16_tablesStep_246 : decode cX16_tablesStep 246 = .ok (.bipush 14, 2) := by decide +kernel
theorem dX16_tablesStep_248 : decode cX16_tablesStep 248 = .ok (.if_icmp .ne 24, 3) := by decide +kernel
theorem dX16_tablesStep_251 : decode cX16_tablesStep 251 = .ok (.lload 7, 2) := by decide +kernel
theorem dX16_tablesStep_253 : decode cX16_tablesStep 253 = .ok (.lload 5, 2) := by decide +kernel
theorem dX16_tablesStep_255 : decode cX16_tablesStep 255 = .ok (.ladd, 1) := by decide +kernel
theorem dX16_tablesStep_256 : decode cX16_tablesStep 256 = .ok (.aload_n 0, 1) := by decide +kernel
theorem dX16_tablesStep_257 : decode cX16_tablesStep 257 = .ok (.getfield 96, 3) := by decide +kernel
theorem dX16_tablesStep_260 : decode cX16_tablesStep 260 = .ok (.iload 11, 2) := by decide +kernel
theorem dX16_tablesStep_262 : decode cX16_tablesStep 262 = .ok (.iaload, 1) := by decide +kernel
theorem dX16_tablesStep_263 : decode cX16_tablesStep 263 = .ok (.i2l, 1) := by decide +kernel
theorem dX16_tablesStep_264 : decode cX16_tablesStep 264 = .ok (.lcmp, 1) := by decide +kernel
theorem dX16_tablesStep_265 : decode cX16_tablesStep 265 = .ok (.ifCond .le 7, 3) := by decide +kernel
theorem dX16_tablesStep_268 : decode cX16_tablesStep 268 = .ok (.iconst 1, 1) := by decide +kernel
theorem dX16_tablesStep_269 : decode cX16_tablesStep 269 = .ok (.goto 4, 3) := by decide +kernel
theorem dX16_tablesStep_272 : decode cX16_tablesStep 272 = .ok (.iconst 0, 1) := by decide +kernel
theorem dX16_tablesStep_273 : decode cX16_tablesStep 273 = .ok (.istore 12, 2) := by decide +kernel
theorem dX16_tablesStep_275 : decode cX16_tablesStep 275 = .ok (.aload_n 0, 1) := by decide +kernel
theorem dX16_tablesStep_276 : decode cX16_tablesStep 276 = .ok (.bipush 6, 2) := by decide +kernel
theorem dX16_tablesStep_278 : decode cX16_tablesStep 278 = .ok (.iload 12, 2) := by decide +kernel
theorem dX16_tablesStep_280 : decode cX16_tablesStep 280 = .ok (.invokevirtual 1163, 3) := by decide +kernel
theorem dX16_tablesStep_283 : decode cX16_tablesStep 283 = .ok (.lconst 0, 1) := by decide +kernel
theorem dX16_tablesStep_284 : decode cX16_tablesStep 284 = .ok (.lstore 13, 2) := by decide +kernel
theorem dX16_tablesStep_286 : decode cX16_tablesStep 286 = .ok (.lload 13, 2) := by decide +kernel
theorem dX16_tablesStep_288 : decode cX16_tablesStep 288 = .ok (.lload 5, 2) := by decide +kernel
theorem dX16_tablesStep_290 : decode cX16_tablesStep 290 = .ok (.lcmp, 1) := by decide +kernel
theorem dX16_tablesStep_291 : decode cX16_tablesStep 291 = .ok (.ifCond .ge 94, 3) := by decide +kernel
theorem dX16_tablesStep_294 : decode cX16_tablesStep 294 = .ok (.iload 12, 2) := by decide +kernel
theorem dX16_tablesStep_296 : decode cX16_tablesStep 296 = .ok (.ifCond .ne 89, 3) := by decide +kernel
theorem dX16_tablesStep_299 : decode cX16_tablesStep 299 = .ok (.iload_n 1, 1) := by decide +kernel
theorem dX16_tablesStep_300 : decode cX16_tablesStep 300 = .ok (.bipush 14, 2) := by decide +kernel
theorem dX16_tablesStep_302 : decode cX16_tablesStep 302 = .ok (.if_icmp .ne 21, 3) := by decide +kernel
theorem dX16_tablesStep_305 : decode cX16_tablesStep 305 = .ok (.lload 7, 2) := by decide +kernel
theorem dX16_tablesStep_307 : decode cX16_tablesStep 307 = .ok (.lload 9, 2) := by decide +kernel
theorem dX16_tablesStep_309 : decode cX16_tablesStep 309 = .ok (.lcmp, 1) := by decide +kernel
theorem dX16_tablesStep_310 : decode cX16_tablesStep 310 = .ok (.ifCond .ge 13, 3) := by decide +kernel
theorem dX16_tablesStep_313 : decode cX16_tablesStep 313 = .ok (.lload 5, 2) := by decide +kernel
theorem dX16_tablesStep_315 : decode cX16_tablesStep 315 = .ok (.lconst 1, 1) := by decide +kernel
theorem dX16_tablesStep_316 : decode cX16_tablesStep 316 = .ok (.lsub, 1) := by decide +kernel
theorem dX16_tablesStep_317 : decode cX16_tablesStep 317 = .ok (.lload 13, 2) := by decide +kernel
theorem dX16_tablesStep_319 : decode cX16_tablesStep 319 = .ok (.lsub, 1) := by decide +kernel
theorem dX16_tablesStep_320 : decode cX16_tablesStep 320 = .ok (.goto 5, 3) := by decide +kernel
theorem dX16_tablesStep_323 : decode cX16_tablesStep 323 = .ok (.lload 13, 2) := by decide +kernel
theorem dX16_tablesStep_325 : decode cX16_tablesStep 325 = .ok (.l2i, 1) := by decide +kernel
theorem dX16_tablesStep_326 : decode cX16_tablesStep 326 = .ok (.istore 15, 2) := by decide +kernel
theorem dX16_tablesStep_328 : decode cX16_tablesStep 328 = .ok (.aload_n 0, 1) := by decide +kernel
theorem dX16_tablesStep_329 : decode cX16_tablesStep 329 = .ok (.getfield 103, 3) := by decide +kernel
theorem dX16_tablesStep_332 : decode cX16_tablesStep 332 = .ok (.sipush 1024, 3) := by decide +kernel
theorem dX16_tablesStep_335 : decode cX16_tablesStep 335 = .ok (.iload 4, 2) := by decide +kernel
theorem dX16_tablesStep_337 : decode cX16_tablesStep 337 = .ok (.imul, 1) := by decide +kernel
theorem dX16_tablesStep_338 : decode cX16_tablesStep 338 = .ok (.lload 9, 2) := by decide +kernel
theorem dX16_tablesStep_340 : decode cX16_tablesStep 340 = .ok (.l2i, 1) := by decide +kernel
theorem dX16_tablesStep_341 : decode cX16_tablesStep 341 = .ok (.iadd, 1) := by decide +kernel
theorem dX16_tablesStep_342 : decode cX16_tablesStep 342 = .ok (.iload 15, 2) := by decide +kernel
theorem dX16_tablesStep_344 : decode cX16_tablesStep 344 = .ok (.iadd, 1) := by decide +kernel
theorem dX16_tablesStep_345 : decode cX16_tablesStep 345 = .ok (.iload_n 1, 1) := by decide +kernel
theorem dX16_tablesStep_346 : decode cX16_tablesStep 346 = .ok (.bipush 17, 2) := by decide +kernel
theorem dX16_tablesStep_348 : decode cX16_tablesStep 348 = .ok (.if_icmp .ne 9, 3) := by decide +kernel
theorem dX16_tablesStep_351 : decode cX16_tablesStep 351 = .ok (.lload 7, 2) := by decide +kernel
theorem dX16_tablesStep_353 : decode cX16_tablesStep 353 = .ok (.l2i, 1) := by decide +kernel
theorem dX16_tablesStep_354 : decode cX16_tablesStep 354 = .ok (.goto 21, 3) := by decide +kernel
theorem dX16_tablesStep_357 : decode cX16_tablesStep 357 = .ok (.aload_n 0, 1) := by decide +kernel
theorem dX16_tablesStep_358 : decode cX16_tablesStep 358 = .ok (.getfield 103, 3) := by decide +kernel
theorem dX16_tablesStep_361 : decode cX16_tablesStep 361 = .ok (.sipush 1024, 3) := by decide +kernel
theorem dX16_tablesStep_364 : decode cX16_tablesStep 364 = .ok (.iload 11, 2) := by decide +kernel
theorem dX16_tablesStep_366 : decode cX16_tablesStep 366 = .ok (.imul, 1) := by decide +kernel
theorem dX16_tablesStep_367 : decode cX16_tablesStep 367 = .ok (.lload 7, 2) := by decide +kernel
theorem dX16_tablesStep_369 : decode cX16_tablesStep 369 = .ok (.l2i, 1) := by decide +kernel
theorem dX16_tablesStep_370 : decode cX16_tablesStep 370 = .ok (.iadd, 1) := by decide +kernel
theorem dX16_tablesStep_371 : decode cX16_tablesStep 371 = .ok (.iload 15, 2) := by decide +kernel
theorem dX16_tablesStep_373 : decode cX16_tablesStep 373 = .ok (.iadd, 1) := by decide +kernel
theorem dX16_tablesStep_374 : decode cX16_tablesStep 374 = .ok (.iaload, 1) := by decide +kernel
theorem dX16_tablesStep_375 : decode cX16_tablesStep 375 = .ok (.iastore, 1) := by decide +kernel
theorem dX16_tablesStep_376 : decode cX16_tablesStep 376 = .ok (.lload 13, 2) := by decide +kernel
theorem dX16_tablesStep_378 : decode cX16_tablesStep 378 = .ok (.lconst 1, 1) := by decide +kernel
theorem dX16_tablesStep_379 : decode cX16_tablesStep 379 = .ok (.ladd, 1) := by decide +kernel
theorem dX16_tablesStep_380 : decode cX16_tablesStep 380 = .ok (.lstore 13, 2) := by decide +kernel
theorem dX16_tablesStep_382 : decode cX16_tablesStep 382 = .ok (.goto (-96), 3) := by decide +kernel
theorem dX16_tablesStep_385 : decode cX16_tablesStep 385 = .ok (.return_, 1) := by decide +kernel
noncomputable def tX16_tablesStep_23 (x0 : Nat) (x1 : Int32) (x2 : Int32) (x3 : Int32) (s0 : Int32) (s1 : Int32) (s2 : Nat) (h : pm_H) : Option (((Nat × Int32 × Int32 × Int32 × Int32 × Int32 × Nat × pm_H) ⊕ (Nat × Int32 × Int32 × Int64 × Int64 × Int64 × Int32 × Int32 × Int64 × pm_H) ⊕ (Nat × Int32 × Int64 × Int64 × Int64 × pm_H) ⊕ (Nat × Int32 × Int32 × Int64 × Int64 × Int64 × Int32 × Int32 × Int64 × pm_H) ⊕ (Nat × Int32 × Int32 × Int64 × Int64 × Int64 × Int32 × Int32 × Int64 × Int64 × pm_H) ⊕ (Nat × Int32 × Int64 × Int64 × pm_H)) ⊕ pm_H) := pm_let (s1 + s0) fun y5 => if pm_kd h s2 = 34 then if pm_in y5 (pm_ln h s2) then pm_let (pm_I h s2 y5.toNatClampNeg) fun y9 => if x1 = 16 then (if pm_kd h x0 = 16 then (pm_R h x0 49).bind fun v66 => if pm_kd h v66 = 34 then if pm_in y9 (pm_ln h v66) then (fX16_push h x0 ((pm_I h v66 y9.toNatClampNeg).toInt64)).bind fun v70 => some (.inr (v70)) else none else none else none) else (if pm_kd h x0 = 16 then (fX16_pop h x0).bind fun v13 => if pm_kd v13.2 x0 = 16 then (fX16_pop v13.2 x0).bind fun v16 => if x1 = 15 then (if pm_kd v16.2 x0 = 16 then (pm_R v16.2 x0 50).bind fun v59 => if pm_kd v16.2 v59 = 35 then if pm_in y9 (pm_ln v16.2 v59) then if 0 ≤ (pm_L v16.2 v59 y9.toNatClampNeg) then (if pm_in y9 (pm_ln v16.2 v59) then some (.inl (.inr (.inr (.inl ((x0, y9, v13.1, v16.1, pm_L v16.2 v59 y9.toNatClampNeg, v16.2)))))) else none) else (some (.inl (.inr (.inr (.inl ((x0, y9, v13.1, v16.1, 4294967295, v16.2))))))) else none else none else none) else (if pm_kd v16.2 x0 = 16 then (fX16_pop v16.2 x0).bind fun v20 => if x1 = 12 then (if pm_kd v20.2 x0 = 16 then (fX16_copiesElement v20.2 x0 (pm_I v20.2 x0 95) x2 y9 v20.1 v16.1 v13.1).bind fun v49 => if v49.1 = 0 then (if pm_kd v49.2 x0 = 16 then (fX16_endsBy v49.2 x0 6 1).bind fun v56 => some (.inr (v56)) else none) else (if pm_kd v49.2 x0 = 16 then (fX16_endsBy v49.2 x0 6 0).bind fun v53 => some (.inr (v53)) else none) else none) else (if pm_kd v20.2 x0 = 16 then (pm_R v20.2 x0 65).bind fun v24 => pm_let ((128 * (pm_I v20.2 x0 95)) + x3) fun y26 => if pm_kd v20.2 v24 = 34 then if pm_in y26 (pm_ln v20.2 v24) then pm_let (pm_I v20.2 v24 y26.toNatClampNeg) fun y30 => (pm_R v20.2 x0 49).bind fun v32 => if pm_kd v20.2 v32 = 34 then if pm_in y9 (pm_ln v20.2 v32) then if ((pm_I v20.2 v32 y9.toNatClampNeg).toInt64) < (v20.1 + v13.1) then ((fX16_endsBy v20.2 x0 6 1).bind fun v37 => some (.inl (.inr (.inl ((x0, x1, y9, v13.1, v16.1, v20.1, y30, 1, 0, v37)))))) else (if x1 = 14 then (if pm_in y30 (pm_ln v20.2 v32) then if (v16.1 + v13.1) ≤ ((pm_I v20.2 v32 y30.toNatClampNeg).toInt64) then ((fX16_endsBy v20.2 x0 6 0).bind fun v44 => some (.inl (.inr (.inl ((x0, x1, y9, v13.1, v16.1, v20.1, y30, 0, 0, v44)))))) else ((fX16_endsBy v20.2 x0 6 1).bind fun v46 => some (.inl (.inr (.inl ((x0, x1, y9, v13.1, v16.1, v20.1, y30, 1, 0, v46)))))) else none) else ((fX16_endsBy v20.2 x0 6 0).bind fun v40 => some (.inl (.inr (.inl ((x0, x1, y9, v13.1, v16.1, v20.1, y30, 0, 0, v40))))))) else none else none else none else none else none) else none) else none else none) else none else none
noncomputable def tX16_tablesStep_286 (x0 : Nat) (x1 : Int32) (x4 : Int32) (x5 : Int64) (x7 : Int64) (x9 : Int64) (x11 : Int32) (x12 : Int32) (x13 : Int64) (h : pm_H) : Option (((Nat × Int32 × Int32 × Int32 × Int32 × Int32 × Nat × pm_H) ⊕ (Nat × Int32 × Int32 × Int64 × Int64 × Int64 × Int32 × Int32 × Int64 × pm_H) ⊕ (Nat × Int32 × Int64 × Int64 × Int64 × pm_H) ⊕ (Nat × Int32 × Int32 × Int64 × Int64 × Int64 × Int32 × Int32 × Int64 × pm_H) ⊕ (Nat × Int32 × Int32 × Int64 × Int64 × Int64 × Int32 × Int32 × Int64 × Int64 × pm_H) ⊕ (Nat × Int32 × Int64 × Int64 × pm_H)) ⊕ pm_H) := if x5 ≤ x13 then (some (.inr (h))) else (if x12 = 0 then (if x1 = 14 then (if x9 ≤ x7 then (some (.inl (.inr (.inr (.inr (.inl ((x0, x1, x4, x5, x7, x9, x11, x12, x13, h)))))))) else (some (.inl (.inr (.inr (.inr (.inr (.inl ((x0, x1, x4, x5, x7, x9, x11, x12, x13, (x5 - 1) - x13, h)))))))))) else (some (.inl (.inr (.inr (.inr (.inl ((x0, x1, x4, x5, x7, x9, x11, x12, x13, h))))))))) else (some (.inr (h))))
noncomputable def tX16_tablesStep_89 (x0 : Nat) (x4 : Int32) (x5 : Int64) (x7 : Int64) (s0 : Int64) (h : pm_H) : Option (((Nat × Int32 × Int32 × Int32 × Int32 × Int32 × Nat × pm_H) ⊕ (Nat × Int32 × Int32 × Int64 × Int64 × Int64 × Int32 × Int32 × Int64 × pm_H) ⊕ (Nat × Int32 × Int64 × Int64 × Int64 × pm_H) ⊕ (Nat × Int32 × Int32 × Int64 × Int64 × Int64 × Int32 × Int32 × Int64 × pm_H) ⊕ (Nat × Int32 × Int32 × Int64 × Int64 × Int64 × Int32 × Int32 × Int64 × Int64 × pm_H) ⊕ (Nat × Int32 × Int64 × Int64 × pm_H)) ⊕ pm_H) := if pm_kd h x0 = 16 then (pm_R h x0 49).bind fun v77 => if pm_kd h v77 = 34 then if pm_in x4 (pm_ln h v77) then if s0 < (((pm_I h v77 x4.toNatClampNeg).toInt64) + x5) then (some (.inl (.inr (.inr (.inr (.inr (.inr ((x0, x4, x5, x7, h))))))))) else (if ((pm_I h x0 47).toInt64) < x5 then (some (.inl (.inr (.inr (.inr (.inr (.inr ((x0, x4, x5, x7, h))))))))) else (if (1 : Int32) = (0 : Int32) then ((fX16_push h x0 4294967295).bind fun v84 => if (1 : Int32) = (0 : Int32) then (some (.inr (v84))) else (if pm_kd v84 x0 = 16 then (fX16_grows v84 x0 x4 x5.toInt32 x7.toInt32).bind fun v88 => some (.inr (v88)) else none)) else (if pm_in x4 (pm_ln h v77) then (fX16_push h x0 ((pm_I h v77 x4.toNatClampNeg).toInt64)).bind fun v91 => if (1 : Int32) = (0 : Int32) then (some (.inr (v91))) else (if pm_kd v91 x0 = 16 then (fX16_grows v91 x0 x4 x5.toInt32 x7.toInt32).bind fun v95 => some (.inr (v95)) else none) else none))) else none else none else none
noncomputable def tX16_tablesStep_323 (x0 : Nat) (x1 : Int32) (x4 : Int32) (x5 : Int64) (x7 : Int64) (x9 : Int64) (x11 : Int32) (x12 : Int32) (x13 : Int64) (h : pm_H) : Option (((Nat × Int32 × Int32 × Int32 × Int32 × Int32 × Nat × pm_H) ⊕ (Nat × Int32 × Int32 × Int64 × Int64 × Int64 × Int32 × Int32 × Int64 × pm_H) ⊕ (Nat × Int32 × Int64 × Int64 × Int64 × pm_H) ⊕ (Nat × Int32 × Int32 × Int64 × Int64 × Int64 × Int32 × Int32 × Int64 × pm_H) ⊕ (Nat × Int32 × Int32 × Int64 × Int64 × Int64 × Int32 × Int32 × Int64 × Int64 × pm_H) ⊕ (Nat × Int32 × Int64 × Int64 × pm_H)) ⊕ pm_H) := some (.inl (.inr (.inr (.inr (.inr (.inl ((x0, x1, x4, x5, x7, x9, x11, x12, x13, x13, h))))))))
noncomputable def tX16_tablesStep_325 (x0 : Nat) (x1 : Int32) (x4 : Int32) (x5 : Int64) (x7 : Int64) (x9 : Int64) (x11 : Int32) (x12 : Int32) (x13 : Int64) (s0 : Int64) (h : pm_H) : Option (((Nat × Int32 × Int32 × Int32 × Int32 × Int32 × Nat × pm_H) ⊕ (Nat × Int32 × Int32 × Int64 × Int64 × Int64 × Int32 × Int32 × Int64 × pm_H) ⊕ (Nat × Int32 × Int64 × Int64 × Int64 × pm_H) ⊕ (Nat × Int32 × Int32 × Int64 × Int64 × Int64 × Int32 × Int32 × Int64 × pm_H) ⊕ (Nat × Int32 × Int32 × Int64 × Int64 × Int64 × Int32 × Int32 × Int64 × Int64 × pm_H) ⊕ (Nat × Int32 × Int64 × Int64 × pm_H)) ⊕ pm_H) := if pm_kd h x0 = 16 then (pm_R h x0 51).bind fun v98 => if x1 = 17 then (if pm_kd h v98 = 34 then if pm_in (((1024 * x4) + x9.toInt32) + s0.toInt32) (pm_ln h v98) then pm_let (x13 + 1) fun y112 => some (.inl (.inr (.inl ((x0, x1, x4, x5, x7, x9, x11, x12, y112, pm_setI h v98 ((((1024 * x4) + x9.toInt32) + s0.toInt32).toNatClampNeg) x7.toInt32))))) else none else none) else (pm_let (((1024 * x11) + x7.toInt32) + s0.toInt32) fun y101 => if pm_kd h v98 = 34 then if pm_in y101 (pm_ln h v98) then pm_let (pm_I h v98 y101.toNatClampNeg) fun y105 => if pm_in (((1024 * x4) + x9.toInt32) + s0.toInt32) (pm_ln h v98) then pm_let (x13 + 1) fun y108 => some (.inl (.inr (.inl ((x0, x1, x4, x5, x7, x9, x11, x12, y108, pm_setI h v98 ((((1024 * x4) + x9.toInt32) + s0.toInt32).toNatClampNeg) y105))))) else none else none else none) else none
noncomputable def tX16_tablesStep_123 (x0 : Nat) (x4 : Int32) (x5 : Int64) (x7 : Int64) (h : pm_H) : Option (((Nat × Int32 × Int32 × Int32 × Int32 × Int32 × Nat × pm_H) ⊕ (Nat × Int32 × Int32 × Int64 × Int64 × Int64 × Int32 × Int32 × Int64 × pm_H) ⊕ (Nat × Int32 × Int64 × Int64 × Int64 × pm_H) ⊕ (Nat × Int32 × Int32 × Int64 × Int64 × Int64 × Int32 × Int32 × Int64 × pm_H) ⊕ (Nat × Int32 × Int32 × Int64 × Int64 × Int64 × Int32 × Int32 × Int64 × Int64 × pm_H) ⊕ (Nat × Int32 × Int64 × Int64 × pm_H)) ⊕ pm_H) := if (0 : Int32) = (0 : Int32) then (if pm_kd h x0 = 16 then (fX16_push h x0 4294967295).bind fun v116 => if (0 : Int32) = (0 : Int32) then (some (.inr (v116))) else (if pm_kd v116 x0 = 16 then (fX16_grows v116 x0 x4 x5.toInt32 x7.toInt32).bind fun v120 => some (.inr (v120)) else none) else none) else (if pm_kd h x0 = 16 then (pm_R h x0 49).bind fun v123 => if pm_kd h v123 = 34 then if pm_in x4 (pm_ln h v123) then (fX16_push h x0 ((pm_I h v123 x4.toNatClampNeg).toInt64)).bind fun v127 => if (0 : Int32) = (0 : Int32) then (some (.inr (v127))) else (if pm_kd v127 x0 = 16 then (fX16_grows v127 x0 x4 x5.toInt32 x7.toInt32).bind fun v131 => some (.inr (v131)) else none) else none else none else none)
noncomputable def sX16_tablesStep : ((Nat × Int32 × Int32 × Int32 × Int32 × Int32 × Nat × pm_H) ⊕ (Nat × Int32 × Int32 × Int64 × Int64 × Int64 × Int32 × Int32 × Int64 × pm_H) ⊕ (Nat × Int32 × Int64 × Int64 × Int64 × pm_H) ⊕ (Nat × Int32 × Int32 × Int64 × Int64 × Int64 × Int32 × Int32 × Int64 × pm_H) ⊕ (Nat × Int32 × Int32 × Int64 × Int64 × Int64 × Int32 × Int32 × Int64 × Int64 × pm_H) ⊕ (Nat × Int32 × Int64 × Int64 × pm_H)) → Option (((Nat × Int32 × Int32 × Int32 × Int32 × Int32 × Nat × pm_H) ⊕ (Nat × Int32 × Int32 × Int64 × Int64 × Int64 × Int32 × Int32 × Int64 × pm_H) ⊕ (Nat × Int32 × Int64 × Int64 × Int64 × pm_H) ⊕ (Nat × Int32 × Int32 × Int64 × Int64 × Int64 × Int32 × Int32 × Int64 × pm_H) ⊕ (Nat × Int32 × Int32 × Int64 × Int64 × Int64 × Int32 × Int32 × Int64 × Int64 × pm_H) ⊕ (Nat × Int32 × Int64 × Int64 × pm_H)) ⊕ pm_H) := fun z => match z with
  | .inl (x0, x1, x2, x3, s0, s1, s2, h) => tX16_tablesStep_23 x0 x1 x2 x3 s0 s1 s2 h
  | .inr (.inl (x0, x1, x4, x5, x7, x9, x11, x12, x13, h)) => tX16_tablesStep_286 x0 x1 x4 x5 x7 x9 x11 x12 x13 h
  | .inr (.inr (.inl (x0, x4, x5, x7, s0, h))) => tX16_tablesStep_89 x0 x4 x5 x7 s0 h
  | .inr (.inr (.inr (.inl (x0, x1, x4, x5, x7, x9, x11, x12, x13, h)))) => tX16_tablesStep_323 x0 x1 x4 x5 x7 x9 x11 x12 x13 h
  | .inr (.inr (.inr (.inr (.inl (x0, x1, x4, x5, x7, x9, x11, x12, x13, s0, h))))) => tX16_tablesStep_325 x0 x1 x4 x5 x7 x9 x11 x12 x13 s0 h
  | .inr (.inr (.inr (.inr (.inr (x0, x4, x5, x7, h))))) => tX16_tablesStep_123 x0 x4 x5 x7 h
noncomputable def fX16_tablesStep (h : pm_H) (a0 : Nat) (p1 : Int32) (p2 : Int32) (p3 : Int32) : Option pm_H := if pm_kd h a0 = 16 then (pm_R h a0 65).bind fun v2 => if p1 = 12 then (pm_lim sX16_tablesStep (.inl ((a0, p1, p2, p3, p3, 128 * (pm_I h a0 95), v2, h)))) else (pm_lim sX16_tablesStep (.inl ((a0, p1, p2, p3, p2, 128 * (pm_I h a0 95), v2, h)))) else none
set_option maxHeartbeats 4000000 in
set_option maxRecDepth 100000 in
theorem lpX16_tablesStep {g : pm_Gm} {l : Launch} {G : pm_Gl} {Qr : Option Value → pm_H → Prop} (C : pm_C g cX16_tablesStep RX16) (X : pm_X g l G mX16_tablesStep 0 0 Qr) {r : pm_H} (q : Qr none r) : ∀ n : Nat, (∀ (x0 : Nat) (x1 : Int32) (x2 : Int32) (x3 : Int32) (s0 : Int32) (s1 : Int32) (s2 : Nat) (h : pm_H), pm_iter sX16_tablesStep n (.inl (x0, x1, x2, x3, s0, s1, s2, h)) = some r → pm_G g 23 [(0, .ref x0), (1, .int x1), (2, .int x2), (3, .int x3)] [.int s0, .int s1, .ref s2] h 0 0) ∧ (∀ (x0 : Nat) (x1 : Int32) (x4 : Int32) (x5 : Int64) (x7 : Int64) (x9 : Int64) (x11 : Int32) (x12 : Int32) (x13 : Int64) (h : pm_H), pm_iter sX16_tablesStep n (.inr (.inl (x0, x1, x4, x5, x7, x9, x11, x12, x13, h))) = some r → pm_G g 286 [(0, .ref x0), (1, .int x1), (4, .int x4), (5, .long x5), (7, .long x7), (9, .long x9), (11, .int x11), (12, .int x12), (13, .long x13)] [] h 0 0) ∧ (∀ (x0 : Nat) (x4 : Int32) (x5 : Int64) (x7 : Int64) (s0 : Int64) (h : pm_H), pm_iter sX16_tablesStep n (.inr (.inr (.inl (x0, x4, x5, x7, s0, h)))) = some r → pm_G g 89 [(0, .ref x0), (4, .int x4), (5, .long x5), (7, .long x7)] [.long s0] h 0 0) ∧ (∀ (x0 : Nat) (x1 : Int32) (x4 : Int32) (x5 : Int64) (x7 : Int64) (x9 : Int64) (x11 : Int32) (x12 : Int32) (x13 : Int64) (h : pm_H), pm_iter sX16_tablesStep n (.inr (.inr (.inr (.inl (x0, x1, x4, x5, x7, x9, x11, x12, x13, h))))) = some r → pm_G g 323 [(0, .ref x0), (1, .int x1), (4, .int x4), (5, .long x5), (7, .long x7), (9, .long x9), (11, .int x11), (12, .int x12), (13, .long x13)] [] h 0 0) ∧ (∀ (x0 : Nat) (x1 : Int32) (x4 : Int32) (x5 : Int64) (x7 : Int64) (x9 : Int64) (x11 : Int32) (x12 : Int32) (x13 : Int64) (s0 : Int64) (h : pm_H), pm_iter sX16_tablesStep n (.inr (.inr (.inr (.inr (.inl (x0, x1, x4, x5, x7, x9, x11, x12, x13, s0, h)))))) = some r → pm_G g 325 [(0, .ref x0), (1, .int x1), (4, .int x4), (5, .long x5), (7, .long x7), (9, .long x9), (11, .int x11), (12, .int x12), (13, .long x13)] [.long s0] h 0 0) ∧ (∀ (x0 : Nat) (x4 : Int32) (x5 : Int64) (x7 : Int64) (h : pm_H), pm_iter sX16_tablesStep n (.inr (.inr (.inr (.inr (.inr (x0, x4, x5, x7, h)))))) = some r → pm_G g 123 [(0, .ref x0), (4, .int x4), (5, .long x5), (7, .long x7)] [] h 0 0) := by
  intro n
  induction n with
  | zero => exact ⟨fun _ _ _ _ _ _ _ _ hf => (by cases hf), fun _ _ _ _ _ _ _ _ _ _ hf => (by cases hf), fun _ _ _ _ _ _ hf => (by cases hf), fun _ _ _ _ _ _ _ _ _ _ hf => (by cases hf), fun _ _ _ _ _ _ _ _ _ _ _ hf => (by cases hf), fun _ _ _ _ _ hf => (by cases hf)⟩
  | succ n ih =>
    refine ⟨fun x0 x1 x2 x3 s0 s1 s2 h hf => ?_, ?_⟩
    · obtain ⟨y, hf, hi⟩ := pm_iter_s hf
      have hf : tX16_tablesStep_23 x0 x1 x2 x3 s0 s1 s2 h = some y := hf
      unfold tX16_tablesStep_23 at hf
      refine pm_iadd C dX16_tablesStep_23 ?_
      obtain ⟨y5, e6, hf⟩ := pm_lt hf
      refine pm_topI e6 ?_
      obtain ⟨k7, hf⟩ := pm_if hf
      obtain ⟨u8, hf⟩ := pm_if hf
      refine pm_iald C dX16_tablesStep_24 k7 u8 rfl ?_
      obtain ⟨y9, e10, hf⟩ := pm_lt hf
      refine pm_topI e10 ?_
      refine pm_istore (lv' := [(4, .int y9), (0, .ref x0), (1, .int x1), (2, .int x2), (3, .int x3)]) C dX16_tablesStep_25 (pm_nl X (by decide)) rfl ?_
      refine pm_iload_n C dX16_tablesStep_27 rfl rfl ?_
      refine pm_bipush (v := 16) C dX16_tablesStep_28 (by decide) ?_
      refine pm_icmp_ne (tgt := 46) C dX16_tablesStep_30 (by decide) (fun c11 => ?_) (fun c11 => ?_)
      · have hf := pm_ie hf c11
        refine pm_aload_n C dX16_tablesStep_46 rfl rfl ?_
        obtain ⟨k12, hf⟩ := pm_if hf
        obtain ⟨v13, e14, hf⟩ := pm_bd hf
        refine pm_callV (as := []) (st := []) C X dX16_tablesStep_47 lnX16_1157 myX16_pop viX16_pop ⟨by decide, by decide⟩ rfl rfl k12 (Nat.le_of_ble_eq_true rfl) (Nat.le_refl _) (Nat.le_refl _) (ctX16_pop e14 ?_)
        show pm_G g 50 [(4, .int y9), (0, .ref x0), (1, .int x1), (2, .int x2), (3, .int x3)] [.long v13.1] v13.2 0 0
        refine pm_lstore (lv' := [(5, .long v13.1), (4, .int y9), (0, .ref x0), (1, .int x1), (2, .int x2), (3, .int x3)]) C dX16_tablesStep_50 (pm_nl X (by decide)) rfl ?_
        refine pm_aload_n C dX16_tablesStep_52 rfl rfl ?_
        obtain ⟨k15, hf⟩ := pm_if hf
        obtain ⟨v16, e17, hf⟩ := pm_bd hf
        refine pm_callV (as := []) (st := []) C X dX16_tablesStep_53 lnX16_1157 myX16_pop viX16_pop ⟨by decide, by decide⟩ rfl rfl k15 (Nat.le_of_ble_eq_true rfl) (Nat.le_refl _) (Nat.le_refl _) (ctX16_pop e17 ?_)
        show pm_G g 56 [(5, .long v13.1), (4, .int y9), (0, .ref x0), (1, .int x1), (2, .int x2), (3, .int x3)] [.long v16.1] v16.2 0 0
        refine pm_lstore (lv' := [(7, .long v16.1), (5, .long v13.1), (4, .int y9), (0, .ref x0), (1, .int x1), (2, .int x2), (3, .int x3)]) C dX16_tablesStep_56 (pm_nl X (by decide)) rfl ?_
        refine pm_iload_n C dX16_tablesStep_58 rfl rfl ?_
        refine pm_bipush (v := 15) C dX16_tablesStep_59 (by decide) ?_
        refine pm_icmp_ne (tgt := 167) C dX16_tablesStep_61 (by decide) (fun c18 => ?_) (fun c18 => ?_)
        · have hf := pm_ie hf c18
          refine pm_aload_n C dX16_tablesStep_167 rfl rfl ?_
          obtain ⟨k19, hf⟩ := pm_if hf
          obtain ⟨v20, e21, hf⟩ := pm_bd hf
          refine pm_callV (as := []) (st := []) C X dX16_tablesStep_168 lnX16_1157 myX16_pop viX16_pop ⟨by decide, by decide⟩ rfl rfl k19 (Nat.le_of_ble_eq_true rfl) (Nat.le_refl _) (Nat.le_refl _) (ctX16_pop e21 ?_)
          show pm_G g 171 [(7, .long v16.1), (5, .long v13.1), (4, .int y9), (0, .ref x0), (1, .int x1), (2, .int x2), (3, .int x3)] [.long v20.1] v20.2 0 0
          refine pm_lstore (lv' := [(9, .long v20.1), (7, .long v16.1), (5, .long v13.1), (4, .int y9), (0, .ref x0), (1, .int x1), (2, .int x2), (3, .int x3)]) C dX16_tablesStep_171 (pm_nl X (by decide)) rfl ?_
          refine pm_iload_n C dX16_tablesStep_173 rfl rfl ?_
          refine pm_bipush (v := 12) C dX16_tablesStep_174 (by decide) ?_
          refine pm_icmp_ne (tgt := 211) C dX16_tablesStep_176 (by decide) (fun c22 => ?_) (fun c22 => ?_)
          · have hf := pm_ie hf c22
            refine pm_aload_n C dX16_tablesStep_211 rfl rfl ?_
            obtain ⟨k23, hf⟩ := pm_if hf
            obtain ⟨v24, e25, hf⟩ := pm_bd hf
            refine pm_getR C dX16_tablesStep_212 flX16_137 rfl k23 e25 ?_
            refine pm_sipush (v := 128) C dX16_tablesStep_215 (by decide) ?_
            refine pm_aload_n C dX16_tablesStep_218 rfl rfl ?_
            refine pm_getI C dX16_tablesStep_219 flX16_1110 rfl k23 rfl ?_
            refine pm_imul C dX16_tablesStep_222 ?_
            refine pm_iload_n C dX16_tablesStep_223 rfl rfl ?_
            refine pm_iadd C dX16_tablesStep_224 ?_
            obtain ⟨y26, e27, hf⟩ := pm_lt hf
            refine pm_topI e27 ?_
            obtain ⟨k28, hf⟩ := pm_if hf
            obtain ⟨u29, hf⟩ := pm_if hf
            refine pm_iald C dX16_tablesStep_225 k28 u29 rfl ?_
            obtain ⟨y30, e31, hf⟩ := pm_lt hf
            refine pm_topI e31 ?_
            refine pm_istore (lv' := [(11, .int y30), (9, .long v20.1), (7, .long v16.1), (5, .long v13.1), (4, .int y9), (0, .ref x0), (1, .int x1), (2, .int x2), (3, .int x3)]) C dX16_tablesStep_226 (pm_nl X (by decide)) rfl ?_
            refine pm_lload C dX16_tablesStep_228 rfl ?_
            refine pm_lload C dX16_tablesStep_230 rfl ?_
            refine pm_ladd C dX16_tablesStep_232 ?_
            refine pm_aload_n C dX16_tablesStep_233 rfl rfl ?_
            obtain ⟨v32, e33, hf⟩ := pm_bd hf
            refine pm_getR C dX16_tablesStep_234 flX16_96 rfl k23 e33 ?_
            refine pm_iload C dX16_tablesStep_237 rfl ?_
            obtain ⟨k34, hf⟩ := pm_if hf
            obtain ⟨u35, hf⟩ := pm_if hf
            refine pm_iald C dX16_tablesStep_239 k34 u35 rfl ?_
            refine pm_i2l C dX16_tablesStep_240 ?_
            refine pm_lcmp C dX16_tablesStep_241 ?_
            refine pm_if_gt (tgt := 268) C dX16_tablesStep_242 (by decide) (fun c36 => ?_) (fun c36 => ?_)
            · have hf := pm_it hf ((pm_lg_gt _ _).mp c36)
              refine pm_iconst (v := 1) C dX16_tablesStep_268 (by decide) ?_
              refine pm_goto (tgt := 273) C dX16_tablesStep_269 (by decide) ?_
              refine pm_istore (lv' := [(12, .int 1), (11, .int y30), (9, .long v20.1), (7, .long v16.1), (5, .long v13.1), (4, .int y9), (0, .ref x0), (1, .int x1), (2, .int x2), (3, .int x3)]) C dX16_tablesStep_273 (pm_nl X (by decide)) rfl ?_
              refine pm_aload_n C dX16_tablesStep_275 rfl rfl ?_
              refine pm_bipush (v := 6) C dX16_tablesStep_276 (by decide) ?_
              refine pm_iload C dX16_tablesStep_278 rfl ?_
              obtain ⟨v37, e38, hf⟩ := pm_bd hf
              refine pm_callV (as := [.int 6, .int 1]) (st := []) C X dX16_tablesStep_280 lnX16_1163 myX16_endsBy viX16_endsBy ⟨by decide, by decide⟩ rfl rfl k23 (Nat.le_of_ble_eq_true rfl) (Nat.le_refl _) (Nat.le_refl _) (ctX16_endsBy e38 ?_)
              show pm_G g 283 [(12, .int 1), (11, .int y30), (9, .long v20.1), (7, .long v16.1), (5, .long v13.1), (4, .int y9), (0, .ref x0), (1, .int x1), (2, .int x2), (3, .int x3)] [] v37 0 0
              refine pm_lconst (v := 0) C dX16_tablesStep_283 (by decide) ?_
              refine pm_lstore (lv' := [(13, .long 0), (12, .int 1), (11, .int y30), (9, .long v20.1), (7, .long v16.1), (5, .long v13.1), (4, .int y9), (0, .ref x0), (1, .int x1), (2, .int x2), (3, .int x3)]) C dX16_tablesStep_284 (pm_nl X (by decide)) rfl ?_
              cases hf
              exact pm_sub [7, 8, 6, 5, 4, 3, 2, 1, 0] rfl (ih.2.1 x0 x1 y9 v13.1 v16.1 v20.1 y30 1 0 v37 hi)
            · have hf := pm_ie hf ((fun z => c36 ((pm_lg_gt _ _).mpr z)))
              refine pm_iload_n C dX16_tablesStep_245 rfl rfl ?_
              refine pm_bipush (v := 14) C dX16_tablesStep_246 (by decide) ?_
              refine pm_icmp_ne (tgt := 272) C dX16_tablesStep_248 (by decide) (fun c39 => ?_) (fun c39 => ?_)
              · have hf := pm_ie hf c39
                refine pm_iconst (v := 0) C dX16_tablesStep_272 (by decide) ?_
                refine pm_istore (lv' := [(12, .int 0), (11, .int y30), (9, .long v20.1), (7, .long v16.1), (5, .long v13.1), (4, .int y9), (0, .ref x0), (1, .int x1), (2, .int x2), (3, .int x3)]) C dX16_tablesStep_273 (pm_nl X (by decide)) rfl ?_
                refine pm_aload_n C dX16_tablesStep_275 rfl rfl ?_
                refine pm_bipush (v := 6) C dX16_tablesStep_276 (by decide) ?_
                refine pm_iload C dX16_tablesStep_278 rfl ?_
                obtain ⟨v40, e41, hf⟩ := pm_bd hf
                refine pm_callV (as := [.int 6, .int 0]) (st := []) C X dX16_tablesStep_280 lnX16_1163 myX16_endsBy viX16_endsBy ⟨by decide, by decide⟩ rfl rfl k23 (Nat.le_of_ble_eq_true rfl) (Nat.le_refl _) (Nat.le_refl _) (ctX16_endsBy e41 ?_)
                show pm_G g 283 [(12, .int 0), (11, .int y30), (9, .long v20.1), (7, .long v16.1), (5, .long v13.1), (4, .int y9), (0, .ref x0), (1, .int x1), (2, .int x2), (3, .int x3)] [] v40 0 0
                refine pm_lconst (v := 0) C dX16_tablesStep_283 (by decide) ?_
                refine pm_lstore (lv' := [(13, .long 0), (12, .int 0), (11, .int y30), (9, .long v20.1), (7, .long v16.1), (5, .long v13.1), (4, .int y9), (0, .ref x0), (1, .int x1), (2, .int x2), (3, .int x3)]) C dX16_tablesStep_284 (pm_nl X (by decide)) rfl ?_
                cases hf
                exact pm_sub [7, 8, 6, 5, 4, 3, 2, 1, 0] rfl (ih.2.1 x0 x1 y9 v13.1 v16.1 v20.1 y30 0 0 v40 hi)
              · have hf := pm_it hf c39
                refine pm_lload C dX16_tablesStep_251 rfl ?_
                refine pm_lload C dX16_tablesStep_253 rfl ?_
                refine pm_ladd C dX16_tablesStep_255 ?_
                refine pm_aload_n C dX16_tablesStep_256 rfl rfl ?_
                refine pm_getR C dX16_tablesStep_257 flX16_96 rfl k23 e33 ?_
                refine pm_iload C dX16_tablesStep_260 rfl ?_
                obtain ⟨u42, hf⟩ := pm_if hf
                refine pm_iald C dX16_tablesStep_262 k34 u42 rfl ?_
                refine pm_i2l C dX16_tablesStep_263 ?_
                refine pm_lcmp C dX16_tablesStep_264 ?_
                refine pm_if_le (tgt := 272) C dX16_tablesStep_265 (by decide) (fun c43 => ?_) (fun c43 => ?_)
                · have hf := pm_it hf ((pm_lg_le _ _).mp c43)
                  refine pm_iconst (v := 0) C dX16_tablesStep_272 (by decide) ?_
                  refine pm_istore (lv' := [(12, .int 0), (11, .int y30), (9, .long v20.1), (7, .long v16.1), (5, .long v13.1), (4, .int y9), (0, .ref x0), (1, .int x1), (2, .int x2), (3, .int x3)]) C dX16_tablesStep_273 (pm_nl X (by decide)) rfl ?_
                  refine pm_aload_n C dX16_tablesStep_275 rfl rfl ?_
                  refine pm_bipush (v := 6) C dX16_tablesStep_276 (by decide) ?_
                  refine pm_iload C dX16_tablesStep_278 rfl ?_
                  obtain ⟨v44, e45, hf⟩ := pm_bd hf
                  refine pm_callV (as := [.int 6, .int 0]) (st := []) C X dX16_tablesStep_280 lnX16_1163 myX16_endsBy viX16_endsBy ⟨by decide, by decide⟩ rfl rfl k23 (Nat.le_of_ble_eq_true rfl) (Nat.le_refl _) (Nat.le_refl _) (ctX16_endsBy e45 ?_)
                  show pm_G g 283 [(12, .int 0), (11, .int y30), (9, .long v20.1), (7, .long v16.1), (5, .long v13.1), (4, .int y9), (0, .ref x0), (1, .int x1), (2, .int x2), (3, .int x3)] [] v44 0 0
                  refine pm_lconst (v := 0) C dX16_tablesStep_283 (by decide) ?_
                  refine pm_lstore (lv' := [(13, .long 0), (12, .int 0), (11, .int y30), (9, .long v20.1), (7, .long v16.1), (5, .long v13.1), (4, .int y9), (0, .ref x0), (1, .int x1), (2, .int x2), (3, .int x3)]) C dX16_tablesStep_284 (pm_nl X (by decide)) rfl ?_
                  cases hf
                  exact pm_sub [7, 8, 6, 5, 4, 3, 2, 1, 0] rfl (ih.2.1 x0 x1 y9 v13.1 v16.1 v20.1 y30 0 0 v44 hi)
                · have hf := pm_ie hf ((fun z => c43 ((pm_lg_le _ _).mpr z)))
                  refine pm_iconst (v := 1) C dX16_tablesStep_268 (by decide) ?_
                  refine pm_goto (tgt := 273) C dX16_tablesStep_269 (by decide) ?_
                  refine pm_istore (lv' := [(12, .int 1), (11, .int y30), (9, .long v20.1), (7, .long v16.1), (5, .long v13.1), (4, .int y9), (0, .ref x0), (1, .int x1), (2, .int x2), (3, .int x3)]) C dX16_tablesStep_273 (pm_nl X (by decide)) rfl ?_
                  refine pm_aload_n C dX16_tablesStep_275 rfl rfl ?_
                  refine pm_bipush (v := 6) C dX16_tablesStep_276 (by decide) ?_
                  refine pm_iload C dX16_tablesStep_278 rfl ?_
                  obtain ⟨v46, e47, hf⟩ := pm_bd hf
                  refine pm_callV (as := [.int 6, .int 1]) (st := []) C X dX16_tablesStep_280 lnX16_1163 myX16_endsBy viX16_endsBy ⟨by decide, by decide⟩ rfl rfl k23 (Nat.le_of_ble_eq_true rfl) (Nat.le_refl _) (Nat.le_refl _) (ctX16_endsBy e47 ?_)
                  show pm_G g 283 [(12, .int 1), (11, .int y30), (9, .long v20.1), (7, .long v16.1), (5, .long v13.1), (4, .int y9), (0, .ref x0), (1, .int x1), (2, .int x2), (3, .int x3)] [] v46 0 0
                  refine pm_lconst (v := 0) C dX16_tablesStep_283 (by decide) ?_
                  refine pm_lstore (lv' := [(13, .long 0), (12, .int 1), (11, .int y30), (9, .long v20.1), (7, .long v16.1), (5, .long v13.1), (4, .int y9), (0, .ref x0), (1, .int x1), (2, .int x2), (3, .int x3)]) C dX16_tablesStep_284 (pm_nl X (by decide)) rfl ?_
                  cases hf
                  exact pm_sub [7, 8, 6, 5, 4, 3, 2, 1, 0] rfl (ih.2.1 x0 x1 y9 v13.1 v16.1 v20.1 y30 1 0 v46 hi)
          · have hf := pm_it hf c22
            refine pm_aload_n C dX16_tablesStep_179 rfl rfl ?_
            refine pm_bipush (v := 6) C dX16_tablesStep_180 (by decide) ?_
            refine pm_aload_n C dX16_tablesStep_182 rfl rfl ?_
            refine pm_aload_n C dX16_tablesStep_183 rfl rfl ?_
            obtain ⟨k48, hf⟩ := pm_if hf
            refine pm_getI C dX16_tablesStep_184 flX16_1110 rfl k48 rfl ?_
            refine pm_iload_n C dX16_tablesStep_187 rfl rfl ?_
            refine pm_iload C dX16_tablesStep_188 rfl ?_
            refine pm_lload C dX16_tablesStep_190 rfl ?_
            refine pm_lload C dX16_tablesStep_192 rfl ?_
            refine pm_lload C dX16_tablesStep_194 rfl ?_
            obtain ⟨v49, e50, hf⟩ := pm_bd hf
            refine pm_callV (as := [.int (pm_I v20.2 x0 95), .int x2, .int y9, .long v20.1, .long v16.1, .long v13.1]) (st := [.int 6, .ref x0]) C X dX16_tablesStep_196 lnX16_1030 myX16_copiesElement viX16_copiesElement ⟨by decide, by decide⟩ rfl rfl k48 (Nat.le_of_ble_eq_true rfl) (Nat.le_refl _) (Nat.le_refl _) (ctX16_copiesElement e50 ?_)
            show pm_G g 199 [(9, .long v20.1), (7, .long v16.1), (5, .long v13.1), (4, .int y9), (0, .ref x0), (1, .int x1), (2, .int x2), (3, .int x3)] [.int v49.1, .int 6, .ref x0] v49.2 0 0
            refine pm_if_ne (tgt := 206) C dX16_tablesStep_199 (by decide) (fun c51 => ?_) (fun c51 => ?_)
            · have hf := pm_ie hf c51
              refine pm_iconst (v := 0) C dX16_tablesStep_206 (by decide) ?_
              obtain ⟨k52, hf⟩ := pm_if hf
              obtain ⟨v53, e54, hf⟩ := pm_bd hf
              refine pm_callV (as := [.int 6, .int 0]) (st := []) C X dX16_tablesStep_207 lnX16_1163 myX16_endsBy viX16_endsBy ⟨by decide, by decide⟩ rfl rfl k52 (Nat.le_of_ble_eq_true rfl) (Nat.le_refl _) (Nat.le_refl _) (ctX16_endsBy e54 ?_)
              show pm_G g 210 [(9, .long v20.1), (7, .long v16.1), (5, .long v13.1), (4, .int y9), (0, .ref x0), (1, .int x1), (2, .int x2), (3, .int x3)] [] v53 0 0
              cases hf
              cases hi
              exact pm_vret C X dX16_tablesStep_210 rfl (Nat.le_refl _) (Nat.le_refl _) q
            · have hf := pm_it hf c51
              refine pm_iconst (v := 1) C dX16_tablesStep_202 (by decide) ?_
              refine pm_goto (tgt := 207) C dX16_tablesStep_203 (by decide) ?_
              obtain ⟨k55, hf⟩ := pm_if hf
              obtain ⟨v56, e57, hf⟩ := pm_bd hf
              refine pm_callV (as := [.int 6, .int 1]) (st := []) C X dX16_tablesStep_207 lnX16_1163 myX16_endsBy viX16_endsBy ⟨by decide, by decide⟩ rfl rfl k55 (Nat.le_of_ble_eq_true rfl) (Nat.le_refl _) (Nat.le_refl _) (ctX16_endsBy e57 ?_)
              show pm_G g 210 [(9, .long v20.1), (7, .long v16.1), (5, .long v13.1), (4, .int y9), (0, .ref x0), (1, .int x1), (2, .int x2), (3, .int x3)] [] v56 0 0
              cases hf
              cases hi
              exact pm_vret C X dX16_tablesStep_210 rfl (Nat.le_refl _) (Nat.le_refl _) q
        · have hf := pm_it hf c18
          refine pm_aload_n C dX16_tablesStep_64 rfl rfl ?_
          obtain ⟨k58, hf⟩ := pm_if hf
          obtain ⟨v59, e60, hf⟩ := pm_bd hf
          refine pm_getR C dX16_tablesStep_65 flX16_99 rfl k58 e60 ?_
          refine pm_iload C dX16_tablesStep_68 rfl ?_
          obtain ⟨k61, hf⟩ := pm_if hf
          obtain ⟨u62, hf⟩ := pm_if hf
          refine pm_lald C dX16_tablesStep_70 k61 u62 rfl ?_
          refine pm_lconst (v := 0) C dX16_tablesStep_71 (by decide) ?_
          refine pm_lcmp C dX16_tablesStep_72 ?_
          refine pm_if_ge (tgt := 82) C dX16_tablesStep_73 (by decide) (fun c63 => ?_) (fun c63 => ?_)
          · have hf := pm_it hf ((pm_lg_ge _ _).mp c63)
            refine pm_aload_n C dX16_tablesStep_82 rfl rfl ?_
            refine pm_getR C dX16_tablesStep_83 flX16_99 rfl k58 e60 ?_
            refine pm_iload C dX16_tablesStep_86 rfl ?_
            obtain ⟨u64, hf⟩ := pm_if hf
            refine pm_lald C dX16_tablesStep_88 k61 u64 rfl ?_
            cases hf
            exact pm_sub [3, 2, 1, 0] rfl (ih.2.2.1 x0 y9 v13.1 v16.1 (pm_L v16.2 v59 y9.toNatClampNeg) v16.2 hi)
          · have hf := pm_ie hf ((fun z => c63 ((pm_lg_ge _ _).mpr z)))
            refine pm_ldc2 C dX16_tablesStep_76 cnX16_513 ?_
            refine pm_goto (tgt := 89) C dX16_tablesStep_79 (by decide) ?_
            cases hf
            exact pm_sub [3, 2, 1, 0] rfl (ih.2.2.1 x0 y9 v13.1 v16.1 4294967295 v16.2 hi)
      · have hf := pm_it hf c11
        refine pm_aload_n C dX16_tablesStep_33 rfl rfl ?_
        refine pm_aload_n C dX16_tablesStep_34 rfl rfl ?_
        obtain ⟨k65, hf⟩ := pm_if hf
        obtain ⟨v66, e67, hf⟩ := pm_bd hf
        refine pm_getR C dX16_tablesStep_35 flX16_96 rfl k65 e67 ?_
        refine pm_iload C dX16_tablesStep_38 rfl ?_
        obtain ⟨k68, hf⟩ := pm_if hf
        obtain ⟨u69, hf⟩ := pm_if hf
        refine pm_iald C dX16_tablesStep_40 k68 u69 rfl ?_
        refine pm_i2l C dX16_tablesStep_41 ?_
        obtain ⟨v70, e71, hf⟩ := pm_bd hf
        refine pm_callV (as := [.long ((pm_I h v66 y9.toNatClampNeg).toInt64)]) (st := []) C X dX16_tablesStep_42 lnX16_1136 myX16_push viX16_push ⟨by decide, by decide⟩ rfl rfl k65 (Nat.le_of_ble_eq_true rfl) (Nat.le_refl _) (Nat.le_refl _) (ctX16_push e71 ?_)
        show pm_G g 45 [(4, .int y9), (0, .ref x0), (1, .int x1), (2, .int x2), (3, .int x3)] [] v70 0 0
        cases hf
        cases hi
        exact pm_vret C X dX16_tablesStep_45 rfl (Nat.le_refl _) (Nat.le_refl _) q
    refine ⟨fun x0 x1 x4 x5 x7 x9 x11 x12 x13 h hf => ?_, ?_⟩
    · obtain ⟨y, hf, hi⟩ := pm_iter_s hf
      have hf : tX16_tablesStep_286 x0 x1 x4 x5 x7 x9 x11 x12 x13 h = some y := hf
      unfold tX16_tablesStep_286 at hf
      refine pm_lload C dX16_tablesStep_286 rfl ?_
      refine pm_lload C dX16_tablesStep_288 rfl ?_
      refine pm_lcmp C dX16_tablesStep_290 ?_
      refine pm_if_ge (tgt := 385) C dX16_tablesStep_291 (by decide) (fun c72 => ?_) (fun c72 => ?_)
      · have hf := pm_it hf ((pm_lg_ge _ _).mp c72)
        cases hf
        cases hi
        exact pm_vret C X dX16_tablesStep_385 rfl (Nat.le_refl _) (Nat.le_refl _) q
      · have hf := pm_ie hf ((fun z => c72 ((pm_lg_ge _ _).mpr z)))
        refine pm_iload C dX16_tablesStep_294 rfl ?_
        refine pm_if_ne (tgt := 385) C dX16_tablesStep_296 (by decide) (fun c73 => ?_) (fun c73 => ?_)
        · have hf := pm_ie hf c73
          cases hf
          cases hi
          exact pm_vret C X dX16_tablesStep_385 rfl (Nat.le_refl _) (Nat.le_refl _) q
        · have hf := pm_it hf c73
          refine pm_iload_n C dX16_tablesStep_299 rfl rfl ?_
          refine pm_bipush (v := 14) C dX16_tablesStep_300 (by decide) ?_
          refine pm_icmp_ne (tgt := 323) C dX16_tablesStep_302 (by decide) (fun c74 => ?_) (fun c74 => ?_)
          · have hf := pm_ie hf c74
            cases hf
            exact pm_sub [0, 1, 2, 3, 4, 5, 6, 7, 8] rfl (ih.2.2.2.1 x0 x1 x4 x5 x7 x9 x11 x12 x13 h hi)
          · have hf := pm_it hf c74
            refine pm_lload C dX16_tablesStep_305 rfl ?_
            refine pm_lload C dX16_tablesStep_307 rfl ?_
            refine pm_lcmp C dX16_tablesStep_309 ?_
            refine pm_if_ge (tgt := 323) C dX16_tablesStep_310 (by decide) (fun c75 => ?_) (fun c75 => ?_)
            · have hf := pm_it hf ((pm_lg_ge _ _).mp c75)
              cases hf
              exact pm_sub [0, 1, 2, 3, 4, 5, 6, 7, 8] rfl (ih.2.2.2.1 x0 x1 x4 x5 x7 x9 x11 x12 x13 h hi)
            · have hf := pm_ie hf ((fun z => c75 ((pm_lg_ge _ _).mpr z)))
              refine pm_lload C dX16_tablesStep_313 rfl ?_
              refine pm_lconst (v := 1) C dX16_tablesStep_315 (by decide) ?_
              refine pm_lsub C dX16_tablesStep_316 ?_
              refine pm_lload C dX16_tablesStep_317 rfl ?_
              refine pm_lsub C dX16_tablesStep_319 ?_
              refine pm_goto (tgt := 325) C dX16_tablesStep_320 (by decide) ?_
              cases hf
              exact pm_sub [0, 1, 2, 3, 4, 5, 6, 7, 8] rfl (ih.2.2.2.2.1 x0 x1 x4 x5 x7 x9 x11 x12 x13 ((x5 - 1) - x13) h hi)
    refine ⟨fun x0 x4 x5 x7 s0 h hf => ?_, ?_⟩
    · obtain ⟨y, hf, hi⟩ := pm_iter_s hf
      have hf : tX16_tablesStep_89 x0 x4 x5 x7 s0 h = some y := hf
      unfold tX16_tablesStep_89 at hf
      refine pm_lstore (lv' := [(9, .long s0), (0, .ref x0), (4, .int x4), (5, .long x5), (7, .long x7)]) C dX16_tablesStep_89 (pm_nl X (by decide)) rfl ?_
      refine pm_aload_n C dX16_tablesStep_91 rfl rfl ?_
      obtain ⟨k76, hf⟩ := pm_if hf
      obtain ⟨v77, e78, hf⟩ := pm_bd hf
      refine pm_getR C dX16_tablesStep_92 flX16_96 rfl k76 e78 ?_
      refine pm_iload C dX16_tablesStep_95 rfl ?_
      obtain ⟨k79, hf⟩ := pm_if hf
      obtain ⟨u80, hf⟩ := pm_if hf
      refine pm_iald C dX16_tablesStep_97 k79 u80 rfl ?_
      refine pm_i2l C dX16_tablesStep_98 ?_
      refine pm_lload C dX16_tablesStep_99 rfl ?_
      refine pm_ladd C dX16_tablesStep_101 ?_
      refine pm_lload C dX16_tablesStep_102 rfl ?_
      refine pm_lcmp C dX16_tablesStep_104 ?_
      refine pm_if_gt (tgt := 123) C dX16_tablesStep_105 (by decide) (fun c81 => ?_) (fun c81 => ?_)
      · have hf := pm_it hf ((pm_lg_gt _ _).mp c81)
        cases hf
        exact pm_sub [1, 2, 3, 4] rfl (ih.2.2.2.2.2 x0 x4 x5 x7 h hi)
      · have hf := pm_ie hf ((fun z => c81 ((pm_lg_gt _ _).mpr z)))
        refine pm_lload C dX16_tablesStep_108 rfl ?_
        refine pm_aload_n C dX16_tablesStep_110 rfl rfl ?_
        refine pm_getI C dX16_tablesStep_111 flX16_89 rfl k76 rfl ?_
        refine pm_i2l C dX16_tablesStep_114 ?_
        refine pm_lcmp C dX16_tablesStep_115 ?_
        refine pm_if_gt (tgt := 123) C dX16_tablesStep_116 (by decide) (fun c82 => ?_) (fun c82 => ?_)
        · have hf := pm_it hf ((pm_lg_gt _ _).mp c82)
          cases hf
          exact pm_sub [1, 2, 3, 4] rfl (ih.2.2.2.2.2 x0 x4 x5 x7 h hi)
        · have hf := pm_ie hf ((fun z => c82 ((pm_lg_gt _ _).mpr z)))
          refine pm_iconst (v := 1) C dX16_tablesStep_119 (by decide) ?_
          refine pm_goto (tgt := 124) C dX16_tablesStep_120 (by decide) ?_
          refine pm_istore (lv' := [(11, .int 1), (9, .long s0), (0, .ref x0), (4, .int x4), (5, .long x5), (7, .long x7)]) C dX16_tablesStep_124 (pm_nl X (by decide)) rfl ?_
          refine pm_aload_n C dX16_tablesStep_126 rfl rfl ?_
          refine pm_iload C dX16_tablesStep_127 rfl ?_
          refine pm_if_eq (tgt := 143) C dX16_tablesStep_129 (by decide) (fun c83 => ?_) (fun c83 => ?_)
          · have hf := pm_it hf c83
            refine pm_ldc2 C dX16_tablesStep_143 cnX16_513 ?_
            obtain ⟨v84, e85, hf⟩ := pm_bd hf
            refine pm_callV (as := [.long 4294967295]) (st := []) C X dX16_tablesStep_146 lnX16_1136 myX16_push viX16_push ⟨by decide, by decide⟩ rfl rfl k76 (Nat.le_of_ble_eq_true rfl) (Nat.le_refl _) (Nat.le_refl _) (ctX16_push e85 ?_)
            show pm_G g 149 [(11, .int 1), (9, .long s0), (0, .ref x0), (4, .int x4), (5, .long x5), (7, .long x7)] [] v84 0 0
            refine pm_iload C dX16_tablesStep_149 rfl ?_
            refine pm_if_eq (tgt := 166) C dX16_tablesStep_151 (by decide) (fun c86 => ?_) (fun c86 => ?_)
            · have hf := pm_it hf c86
              cases hf
              cases hi
              exact pm_vret C X dX16_tablesStep_166 rfl (Nat.le_refl _) (Nat.le_refl _) q
            · have hf := pm_ie hf c86
              refine pm_aload_n C dX16_tablesStep_154 rfl rfl ?_
              refine pm_iload C dX16_tablesStep_155 rfl ?_
              refine pm_lload C dX16_tablesStep_157 rfl ?_
              refine pm_l2i C dX16_tablesStep_159 ?_
              refine pm_lload C dX16_tablesStep_160 rfl ?_
              refine pm_l2i C dX16_tablesStep_162 ?_
              obtain ⟨k87, hf⟩ := pm_if hf
              obtain ⟨v88, e89, hf⟩ := pm_bd hf
              refine pm_callV (as := [.int x4, .int x5.toInt32, .int x7.toInt32]) (st := []) C X dX16_tablesStep_163 lnX16_1013 myX16_grows viX16_grows ⟨by decide, by decide⟩ rfl rfl k87 (Nat.le_of_ble_eq_true rfl) (Nat.le_refl _) (Nat.le_refl _) (ctX16_grows e89 ?_)
              show pm_G g 166 [(11, .int 1), (9, .long s0), (0, .ref x0), (4, .int x4), (5, .long x5), (7, .long x7)] [] v88 0 0
              cases hf
              cases hi
              exact pm_vret C X dX16_tablesStep_166 rfl (Nat.le_refl _) (Nat.le_refl _) q
          · have hf := pm_ie hf c83
            refine pm_aload_n C dX16_tablesStep_132 rfl rfl ?_
            refine pm_getR C dX16_tablesStep_133 flX16_96 rfl k76 e78 ?_
            refine pm_iload C dX16_tablesStep_136 rfl ?_
            obtain ⟨u90, hf⟩ := pm_if hf
            refine pm_iald C dX16_tablesStep_138 k79 u90 rfl ?_
            refine pm_i2l C dX16_tablesStep_139 ?_
            refine pm_goto (tgt := 146) C dX16_tablesStep_140 (by decide) ?_
            obtain ⟨v91, e92, hf⟩ := pm_bd hf
            refine pm_callV (as := [.long ((pm_I h v77 x4.toNatClampNeg).toInt64)]) (st := []) C X dX16_tablesStep_146 lnX16_1136 myX16_push viX16_push ⟨by decide, by decide⟩ rfl rfl k76 (Nat.le_of_ble_eq_true rfl) (Nat.le_refl _) (Nat.le_refl _) (ctX16_push e92 ?_)
            show pm_G g 149 [(11, .int 1), (9, .long s0), (0, .ref x0), (4, .int x4), (5, .long x5), (7, .long x7)] [] v91 0 0
            refine pm_iload C dX16_tablesStep_149 rfl ?_
            refine pm_if_eq (tgt := 166) C dX16_tablesStep_151 (by decide) (fun c93 => ?_) (fun c93 => ?_)
            · have hf := pm_it hf c93
              cases hf
              cases hi
              exact pm_vret C X dX16_tablesStep_166 rfl (Nat.le_refl _) (Nat.le_refl _) q
            · have hf := pm_ie hf c93
              refine pm_aload_n C dX16_tablesStep_154 rfl rfl ?_
              refine pm_iload C dX16_tablesStep_155 rfl ?_
              refine pm_lload C dX16_tablesStep_157 rfl ?_
              refine pm_l2i C dX16_tablesStep_159 ?_
              refine pm_lload C dX16_tablesStep_160 rfl ?_
              refine pm_l2i C dX16_tablesStep_162 ?_
              obtain ⟨k94, hf⟩ := pm_if hf
              obtain ⟨v95, e96, hf⟩ := pm_bd hf
              refine pm_callV (as := [.int x4, .int x5.toInt32, .int x7.toInt32]) (st := []) C X dX16_tablesStep_163 lnX16_1013 myX16_grows viX16_grows ⟨by decide, by decide⟩ rfl rfl k94 (Nat.le_of_ble_eq_true rfl) (Nat.le_refl _) (Nat.le_refl _) (ctX16_grows e96 ?_)
              show pm_G g 166 [(11, .int 1), (9, .long s0), (0, .ref x0), (4, .int x4), (5, .long x5), (7, .long x7)] [] v95 0 0
              cases hf
              cases hi
              exact pm_vret C X dX16_tablesStep_166 rfl (Nat.le_refl _) (Nat.le_refl _) q
    refine ⟨fun x0 x1 x4 x5 x7 x9 x11 x12 x13 h hf => ?_, ?_⟩
    · obtain ⟨y, hf, hi⟩ := pm_iter_s hf
      have hf : tX16_tablesStep_323 x0 x1 x4 x5 x7 x9 x11 x12 x13 h = some y := hf
      unfold tX16_tablesStep_323 at hf
      refine pm_lload C dX16_tablesStep_323 rfl ?_
      cases hf
      exact pm_sub [0, 1, 2, 3, 4, 5, 6, 7, 8] rfl (ih.2.2.2.2.1 x0 x1 x4 x5 x7 x9 x11 x12 x13 x13 h hi)
    refine ⟨fun x0 x1 x4 x5 x7 x9 x11 x12 x13 s0 h hf => ?_, ?_⟩
    · obtain ⟨y, hf, hi⟩ := pm_iter_s hf
      have hf : tX16_tablesStep_325 x0 x1 x4 x5 x7 x9 x11 x12 x13 s0 h = some y := hf
      unfold tX16_tablesStep_325 at hf
      refine pm_l2i C dX16_tablesStep_325 ?_
      refine pm_istore (lv' := [(15, .int s0.toInt32), (0, .ref x0), (1, .int x1), (4, .int x4), (5, .long x5), (7, .long x7), (9, .long x9), (11, .int x11), (12, .int x12), (13, .long x13)]) C dX16_tablesStep_326 (pm_nl X (by decide)) rfl ?_
      refine pm_aload_n C dX16_tablesStep_328 rfl rfl ?_
      obtain ⟨k97, hf⟩ := pm_if hf
      obtain ⟨v98, e99, hf⟩ := pm_bd hf
      refine pm_getR C dX16_tablesStep_329 flX16_103 rfl k97 e99 ?_
      refine pm_sipush (v := 1024) C dX16_tablesStep_332 (by decide) ?_
      refine pm_iload C dX16_tablesStep_335 rfl ?_
      refine pm_imul C dX16_tablesStep_337 ?_
      refine pm_lload C dX16_tablesStep_338 rfl ?_
      refine pm_l2i C dX16_tablesStep_340 ?_
      refine pm_iadd C dX16_tablesStep_341 ?_
      refine pm_iload C dX16_tablesStep_342 rfl ?_
      refine pm_iadd C dX16_tablesStep_344 ?_
      refine pm_iload_n C dX16_tablesStep_345 rfl rfl ?_
      refine pm_bipush (v := 17) C dX16_tablesStep_346 (by decide) ?_
      refine pm_icmp_ne (tgt := 357) C dX16_tablesStep_348 (by decide) (fun c100 => ?_) (fun c100 => ?_)
      · have hf := pm_ie hf c100
        refine pm_aload_n C dX16_tablesStep_357 rfl rfl ?_
        refine pm_getR C dX16_tablesStep_358 flX16_103 rfl k97 e99 ?_
        refine pm_sipush (v := 1024) C dX16_tablesStep_361 (by decide) ?_
        refine pm_iload C dX16_tablesStep_364 rfl ?_
        refine pm_imul C dX16_tablesStep_366 ?_
        refine pm_lload C dX16_tablesStep_367 rfl ?_
        refine pm_l2i C dX16_tablesStep_369 ?_
        refine pm_iadd C dX16_tablesStep_370 ?_
        refine pm_iload C dX16_tablesStep_371 rfl ?_
        refine pm_iadd C dX16_tablesStep_373 ?_
        obtain ⟨y101, e102, hf⟩ := pm_lt hf
        refine pm_topI e102 ?_
        obtain ⟨k103, hf⟩ := pm_if hf
        obtain ⟨u104, hf⟩ := pm_if hf
        refine pm_iald C dX16_tablesStep_374 k103 u104 rfl ?_
        obtain ⟨y105, e106, hf⟩ := pm_lt hf
        refine pm_topI e106 ?_
        obtain ⟨u107, hf⟩ := pm_if hf
        refine pm_iast C dX16_tablesStep_375 k103 u107 ?_
        refine pm_lload C dX16_tablesStep_376 rfl ?_
        refine pm_lconst (v := 1) C dX16_tablesStep_378 (by decide) ?_
        refine pm_ladd C dX16_tablesStep_379 ?_
        obtain ⟨y108, e109, hf⟩ := pm_lt hf
        refine pm_topL e109 ?_
        refine pm_lstore (lv' := [(13, .long y108), (15, .int s0.toInt32), (0, .ref x0), (1, .int x1), (4, .int x4), (5, .long x5), (7, .long x7), (9, .long x9), (11, .int x11), (12, .int x12)]) C dX16_tablesStep_380 (pm_nl X (by decide)) rfl ?_
        refine pm_goto (tgt := 286) C dX16_tablesStep_382 (by decide) ?_
        cases hf
        exact pm_sub [2, 3, 4, 5, 6, 7, 8, 9, 0] rfl (ih.2.1 x0 x1 x4 x5 x7 x9 x11 x12 y108 (pm_setI h v98 ((((1024 * x4) + x9.toInt32) + s0.toInt32).toNatClampNeg) y105) hi)
      · have hf := pm_it hf c100
        refine pm_lload C dX16_tablesStep_351 rfl ?_
        refine pm_l2i C dX16_tablesStep_353 ?_
        refine pm_goto (tgt := 375) C dX16_tablesStep_354 (by decide) ?_
        obtain ⟨k110, hf⟩ := pm_if hf
        obtain ⟨u111, hf⟩ := pm_if hf
        refine pm_iast C dX16_tablesStep_375 k110 u111 ?_
        refine pm_lload C dX16_tablesStep_376 rfl ?_
        refine pm_lconst (v := 1) C dX16_tablesStep_378 (by decide) ?_
        refine pm_ladd C dX16_tablesStep_379 ?_
        obtain ⟨y112, e113, hf⟩ := pm_lt hf
        refine pm_topL e113 ?_
        refine pm_lstore (lv' := [(13, .long y112), (15, .int s0.toInt32), (0, .ref x0), (1, .int x1), (4, .int x4), (5, .long x5), (7, .long x7), (9, .long x9), (11, .int x11), (12, .int x12)]) C dX16_tablesStep_380 (pm_nl X (by decide)) rfl ?_
        refine pm_goto (tgt := 286) C dX16_tablesStep_382 (by decide) ?_
        cases hf
        exact pm_sub [2, 3, 4, 5, 6, 7, 8, 9, 0] rfl (ih.2.1 x0 x1 x4 x5 x7 x9 x11 x12 y112 (pm_setI h v98 ((((1024 * x4) + x9.toInt32) + s0.toInt32).toNatClampNeg) x7.toInt32) hi)
    refine fun x0 x4 x5 x7 h hf => ?_
    obtain ⟨y, hf, hi⟩ := pm_iter_s hf
    have hf : tX16_tablesStep_123 x0 x4 x5 x7 h = some y := hf
    unfold tX16_tablesStep_123 at hf
    refine pm_iconst (v := 0) C dX16_tablesStep_123 (by decide) ?_
    refine pm_istore (lv' := [(11, .int 0), (0, .ref x0), (4, .int x4), (5, .long x5), (7, .long x7)]) C dX16_tablesStep_124 (pm_nl X (by decide)) rfl ?_
    refine pm_aload_n C dX16_tablesStep_126 rfl rfl ?_
    refine pm_iload C dX16_tablesStep_127 rfl ?_
    refine pm_if_eq (tgt := 143) C dX16_tablesStep_129 (by decide) (fun c114 => ?_) (fun c114 => ?_)
    · have hf := pm_it hf c114
      refine pm_ldc2 C dX16_tablesStep_143 cnX16_513 ?_
      obtain ⟨k115, hf⟩ := pm_if hf
      obtain ⟨v116, e117, hf⟩ := pm_bd hf
      refine pm_callV (as := [.long 4294967295]) (st := []) C X dX16_tablesStep_146 lnX16_1136 myX16_push viX16_push ⟨by decide, by decide⟩ rfl rfl k115 (Nat.le_of_ble_eq_true rfl) (Nat.le_refl _) (Nat.le_refl _) (ctX16_push e117 ?_)
      show pm_G g 149 [(11, .int 0), (0, .ref x0), (4, .int x4), (5, .long x5), (7, .long x7)] [] v116 0 0
      refine pm_iload C dX16_tablesStep_149 rfl ?_
      refine pm_if_eq (tgt := 166) C dX16_tablesStep_151 (by decide) (fun c118 => ?_) (fun c118 => ?_)
      · have hf := pm_it hf c118
        cases hf
        cases hi
        exact pm_vret C X dX16_tablesStep_166 rfl (Nat.le_refl _) (Nat.le_refl _) q
      · have hf := pm_ie hf c118
        refine pm_aload_n C dX16_tablesStep_154 rfl rfl ?_
        refine pm_iload C dX16_tablesStep_155 rfl ?_
        refine pm_lload C dX16_tablesStep_157 rfl ?_
        refine pm_l2i C dX16_tablesStep_159 ?_
        refine pm_lload C dX16_tablesStep_160 rfl ?_
        refine pm_l2i C dX16_tablesStep_162 ?_
        obtain ⟨k119, hf⟩ := pm_if hf
        obtain ⟨v120, e121, hf⟩ := pm_bd hf
        refine pm_callV (as := [.int x4, .int x5.toInt32, .int x7.toInt32]) (st := []) C X dX16_tablesStep_163 lnX16_1013 myX16_grows viX16_grows ⟨by decide, by decide⟩ rfl rfl k119 (Nat.le_of_ble_eq_true rfl) (Nat.le_refl _) (Nat.le_refl _) (ctX16_grows e121 ?_)
        show pm_G g 166 [(11, .int 0), (0, .ref x0), (4, .int x4), (5, .long x5), (7, .long x7)] [] v120 0 0
        cases hf
        cases hi
        exact pm_vret C X dX16_tablesStep_166 rfl (Nat.le_refl _) (Nat.le_refl _) q
    · have hf := pm_ie hf c114
      refine pm_aload_n C dX16_tablesStep_132 rfl rfl ?_
      obtain ⟨k122, hf⟩ := pm_if hf
      obtain ⟨v123, e124, hf⟩ := pm_bd hf
      refine pm_getR C dX16_tablesStep_133 flX16_96 rfl k122 e124 ?_
      refine pm_iload C dX16_tablesStep_136 rfl ?_
      obtain ⟨k125, hf⟩ := pm_if hf
      obtain ⟨u126, hf⟩ := pm_if hf
      refine pm_iald C dX16_tablesStep_138 k125 u126 rfl ?_
      refine pm_i2l C dX16_tablesStep_139 ?_
      refine pm_goto (tgt := 146) C dX16_tablesStep_140 (by decide) ?_
      obtain ⟨v127, e128, hf⟩ := pm_bd hf
      refine pm_callV (as := [.long ((pm_I h v123 x4.toNatClampNeg).toInt64)]) (st := []) C X dX16_tablesStep_146 lnX16_1136 myX16_push viX16_push ⟨by decide, by decide⟩ rfl rfl k122 (Nat.le_of_ble_eq_true rfl) (Nat.le_refl _) (Nat.le_refl _) (ctX16_push e128 ?_)
      show pm_G g 149 [(11, .int 0), (0, .ref x0), (4, .int x4), (5, .long x5), (7, .long x7)] [] v127 0 0
      refine pm_iload C dX16_tablesStep_149 rfl ?_
      refine pm_if_eq (tgt := 166) C dX16_tablesStep_151 (by decide) (fun c129 => ?_) (fun c129 => ?_)
      · have hf := pm_it hf c129
        cases hf
        cases hi
        exact pm_vret C X dX16_tablesStep_166 rfl (Nat.le_refl _) (Nat.le_refl _) q
      · have hf := pm_ie hf c129
        refine pm_aload_n C dX16_tablesStep_154 rfl rfl ?_
        refine pm_iload C dX16_tablesStep_155 rfl ?_
        refine pm_lload C dX16_tablesStep_157 rfl ?_
        refine pm_l2i C dX16_tablesStep_159 ?_
        refine pm_lload C dX16_tablesStep_160 rfl ?_
        refine pm_l2i C dX16_tablesStep_162 ?_
        obtain ⟨k130, hf⟩ := pm_if hf
        obtain ⟨v131, e132, hf⟩ := pm_bd hf
        refine pm_callV (as := [.int x4, .int x5.toInt32, .int x7.toInt32]) (st := []) C X dX16_tablesStep_163 lnX16_1013 myX16_grows viX16_grows ⟨by decide, by decide⟩ rfl rfl k130 (Nat.le_of_ble_eq_true rfl) (Nat.le_refl _) (Nat.le_refl _) (ctX16_grows e132 ?_)
        show pm_G g 166 [(11, .int 0), (0, .ref x0), (4, .int x4), (5, .long x5), (7, .long x7)] [] v131 0 0
        cases hf
        cases hi
        exact pm_vret C X dX16_tablesStep_166 rfl (Nat.le_refl _) (Nat.le_refl _) q
set_option maxHeartbeats 4000000 in
set_option maxRecDepth 100000 in
theorem ctX16_tablesStep {l : Launch} {G : pm_Gl} {h : pm_H} {a0 : Nat} {p1 : Int32} {p2 : Int32} {p3 : Int32} {r : pm_H} {Qr : Option Value → pm_H → Prop} (hf : fX16_tablesStep h a0 p1 p2 p3 = some r) (q : Qr none r) : pm_Ct l G mX16_tablesStep [.ref a0, .int p1, .int p2, .int p3] h 0 0 Qr := by
  refine pm_body pnX16 (Nat.le_of_ble_eq_true rfl) (fun g C X => ?_)
  have C : pm_C g cX16_tablesStep RX16 := C
  show pm_G g 0 [(0, .ref a0), (1, .int p1), (2, .int p2), (3, .int p3)] [] h 0 0
  unfold fX16_tablesStep at hf
  refine pm_aload_n C dX16_tablesStep_0 rfl rfl ?_
  obtain ⟨k1, hf⟩ := pm_if hf
  obtain ⟨v2, e3, hf⟩ := pm_bd hf
  refine pm_getR C dX16_tablesStep_1 flX16_137 rfl k1 e3 ?_
  refine pm_sipush (v := 128) C dX16_tablesStep_4 (by decide) ?_
  refine pm_aload_n C dX16_tablesStep_7 rfl rfl ?_
  refine pm_getI C dX16_tablesStep_8 flX16_1110 rfl k1 rfl ?_
  refine pm_imul C dX16_tablesStep_11 ?_
  refine pm_iload_n C dX16_tablesStep_12 rfl rfl ?_
  refine pm_bipush (v := 12) C dX16_tablesStep_13 (by decide) ?_
  refine pm_icmp_ne (tgt := 22) C dX16_tablesStep_15 (by decide) (fun c4 => ?_) (fun c4 => ?_)
  · have hf := pm_ie hf c4
    refine pm_iload_n C dX16_tablesStep_22 rfl rfl ?_
    obtain ⟨n, hn⟩ := pm_lim_iter hf
    exact pm_sub [0, 1, 2, 3] rfl ((lpX16_tablesStep C X q n).1 a0 p1 p2 p3 p2 (128 * (pm_I h a0 95)) v2 h hn)
  · have hf := pm_it hf c4
    refine pm_iload_n C dX16_tablesStep_18 rfl rfl ?_
    refine pm_goto (tgt := 23) C dX16_tablesStep_19 (by decide) ?_
    obtain ⟨n, hn⟩ := pm_lim_iter hf
    exact pm_sub [0, 1, 2, 3] rfl ((lpX16_tablesStep C X q n).1 a0 p1 p2 p3 p3 (128 * (pm_I h a0 95)) v2 h hn)
theorem dX16_thing_0 : decode cX16_thing 0 = .ok (.sipush 128, 3) := by decide +kernel
theorem dX16_thing_3 : decode cX16_thing 3 = .ok (.iload_n 2, 1) := by decide +kernel
theorem dX16_thing_4 : decode cX16_thing 4 = .ok (.imul, 1) := by decide +kernel
theorem dX16_thing_5 : decode cX16_thing 5 = .ok (.iload_n 3, 1) := by decide +kernel
theorem dX16_thing_6 : decode cX16_thing 6 = .ok (.iadd, 1) := by decide +kernel
theorem dX16_thing_7 : decode cX16_thing 7 = .ok (.istore 4, 2) := by decide +kernel
theorem dX16_thing_9 : decode cX16_thing 9 = .ok (.iload_n 1, 1) := by decide +kernel
theorem dX16_thing_10 : decode cX16_thing 10 = .ok (.ifCond .ne 13, 3) := by decide +kernel
theorem dX16_thing_13 : decode cX16_thing 13 = .ok (.aload_n 0, 1) := by decide +kernel
theorem dX16_thing_14 : decode cX16_thing 14 = .ok (.getfield 134, 3) := by decide +kernel
theorem dX16_thing_17 : decode cX16_thing 17 = .ok (.iload 4, 2) := by decide +kernel
theorem dX16_thing_19 : decode cX16_thing 19 = .ok (.iaload, 1) := by decide +kernel
theorem dX16_thing_20 : decode cX16_thing 20 = .ok (.goto 40, 3) := by decide +kernel
theorem dX16_thing_23 : decode cX16_thing 23 = .ok (.iload_n 1, 1) := by decide +kernel
theorem dX16_thing_24 : decode cX16_thing 24 = .ok (.iconst 1, 1) := by decide +kernel
theorem dX16_thing_25 : decode cX16_thing 25 = .ok (.if_icmp .ne 13, 3) := by decide +kernel
theorem dX16_thing_28 : decode cX16_thing 28 = .ok (.aload_n 0, 1) := by decide +kernel
theorem dX16_thing_29 : decode cX16_thing 29 = .ok (.getfield 137, 3) := by decide +kernel
theorem dX16_thing_32 : decode cX16_thing 32 = .ok (.iload 4, 2) := by decide +kernel
theorem dX16_thing_34 : decode cX16_thing 34 = .ok (.iaload, 1) := by decide +kernel
theorem dX16_thing_35 : decode cX16_thing 35 = .ok (.goto 25, 3) := by decide +kernel
theorem dX16_thing_38 : decode cX16_thing 38 = .ok (.iload_n 1, 1) := by decide +kernel
theorem dX16_thing_39 : decode cX16_thing 39 = .ok (.iconst 2, 1) := by decide +kernel
theorem dX16_thing_40 : decode cX16_thing 40 = .ok (.if_icmp .ne 13, 3) := by decide +kernel
theorem dX16_thing_43 : decode cX16_thing 43 = .ok (.aload_n 0, 1) := by decide +kernel
theorem dX16_thing_44 : decode cX16_thing 44 = .ok (.getfield 140, 3) := by decide +kernel
theorem dX16_thing_47 : decode cX16_thing 47 = .ok (.iload 4, 2) := by decide +kernel
theorem dX16_thing_49 : decode cX16_thing 49 = .ok (.iaload, 1) := by decide +kernel
theorem dX16_thing_50 : decode cX16_thing 50 = .ok (.goto 10, 3) := by decide +kernel
theorem dX16_thing_53 : decode cX16_thing 53 = .ok (.aload_n 0, 1) := by decide +kernel
theorem dX16_thing_54 : decode cX16_thing 54 = .ok (.getfield 143, 3) := by decide +kernel
theorem dX16_thing_57 : decode cX16_thing 57 = .ok (.iload 4, 2) := by decide +kernel
theorem dX16_thing_59 : decode cX16_thing 59 = .ok (.iaload, 1) := by decide +kernel
theorem dX16_thing_60 : decode cX16_thing 60 = .ok (.ireturn, 1) := by decide +kernel
def fX16_thing (h : pm_H) (a0 : Nat) (p1 : Int32) (p2 : Int32) (p3 : Int32) : Option Int32 := pm_let ((128 * p2) + p3) fun y1 => if p1 = 0 then (if pm_kd h a0 = 16 then (pm_R h a0 64).bind fun v22 => if pm_kd h v22 = 34 then if pm_in y1 (pm_ln h v22) then some (pm_I h v22 y1.toNatClampNeg) else none else none else none) else (if p1 = 1 then (if pm_kd h a0 = 16 then (pm_R h a0 65).bind fun v17 => if pm_kd h v17 = 34 then if pm_in y1 (pm_ln h v17) then some (pm_I h v17 y1.toNatClampNeg) else none else none else none) else (if p1 = 2 then (if pm_kd h a0 = 16 then (pm_R h a0 66).bind fun v12 => if pm_kd h v12 = 34 then if pm_in y1 (pm_ln h v12) then some (pm_I h v12 y1.toNatClampNeg) else none else none else none) else (if pm_kd h a0 = 16 then (pm_R h a0 67).bind fun v7 => if pm_kd h v7 = 34 then if pm_in y1 (pm_ln h v7) then some (pm_I h v7 y1.toNatClampNeg) else none else none else none)))
set_option maxHeartbeats 4000000 in
set_option maxRecDepth 100000 in
theorem ctX16_thing {l : Launch} {G : pm_Gl} {h : pm_H} {a0 : Nat} {p1 : Int32} {p2 : Int32} {p3 : Int32} {r : Int32} {Qr : Option Value → pm_H → Prop} (hf : fX16_thing h a0 p1 p2 p3 = some r) (q : Qr (some (.int r)) h) : pm_Ct l G mX16_thing [.ref a0, .int p1, .int p2, .int p3] h 0 0 Qr := by
  refine pm_body pnX16 (Nat.le_of_ble_eq_true rfl) (fun g C X => ?_)
  have C : pm_C g cX16_thing RX16 := C
  show pm_G g 0 [(0, .ref a0), (1, .int p1), (2, .int p2), (3, .int p3)] [] h 0 0
  unfold fX16_thing at hf
  refine pm_sipush (v := 128) C dX16_thing_0 (by decide) ?_
  refine pm_iload_n C dX16_thing_3 rfl rfl ?_
  refine pm_imul C dX16_thing_4 ?_
  refine pm_iload_n C dX16_thing_5 rfl rfl ?_
  refine pm_iadd C dX16_thing_6 ?_
  obtain ⟨y1, e2, hf⟩ := pm_lt hf
  refine pm_topI e2 ?_
  refine pm_istore (lv' := [(4, .int y1), (0, .ref a0), (1, .int p1), (2, .int p2), (3, .int p3)]) C dX16_thing_7 (pm_nl X (by decide)) rfl ?_
  refine pm_iload_n C dX16_thing_9 rfl rfl ?_
  refine pm_if_ne (tgt := 23) C dX16_thing_10 (by decide) (fun c3 => ?_) (fun c3 => ?_)
  · have hf := pm_ie hf c3
    refine pm_iload_n C dX16_thing_23 rfl rfl ?_
    refine pm_iconst (v := 1) C dX16_thing_24 (by decide) ?_
    refine pm_icmp_ne (tgt := 38) C dX16_thing_25 (by decide) (fun c4 => ?_) (fun c4 => ?_)
    · have hf := pm_ie hf c4
      refine pm_iload_n C dX16_thing_38 rfl rfl ?_
      refine pm_iconst (v := 2) C dX16_thing_39 (by decide) ?_
      refine pm_icmp_ne (tgt := 53) C dX16_thing_40 (by decide) (fun c5 => ?_) (fun c5 => ?_)
      · have hf := pm_ie hf c5
        refine pm_aload_n C dX16_thing_53 rfl rfl ?_
        obtain ⟨k6, hf⟩ := pm_if hf
        obtain ⟨v7, e8, hf⟩ := pm_bd hf
        refine pm_getR C dX16_thing_54 flX16_143 rfl k6 e8 ?_
        refine pm_iload C dX16_thing_57 rfl ?_
        obtain ⟨k9, hf⟩ := pm_if hf
        obtain ⟨u10, hf⟩ := pm_if hf
        refine pm_iald C dX16_thing_59 k9 u10 rfl ?_
        cases hf
        exact pm_iret C X dX16_thing_60 rfl (Nat.le_refl _) (Nat.le_refl _) q
      · have hf := pm_it hf c5
        refine pm_aload_n C dX16_thing_43 rfl rfl ?_
        obtain ⟨k11, hf⟩ := pm_if hf
        obtain ⟨v12, e13, hf⟩ := pm_bd hf
        refine pm_getR C dX16_thing_44 flX16_140 rfl k11 e13 ?_
        refine pm_iload C dX16_thing_47 rfl ?_
        obtain ⟨k14, hf⟩ := pm_if hf
        obtain ⟨u15, hf⟩ := pm_if hf
        refine pm_iald C dX16_thing_49 k14 u15 rfl ?_
        refine pm_goto (tgt := 60) C dX16_thing_50 (by decide) ?_
        cases hf
        exact pm_iret C X dX16_thing_60 rfl (Nat.le_refl _) (Nat.le_refl _) q
    · have hf := pm_it hf c4
      refine pm_aload_n C dX16_thing_28 rfl rfl ?_
      obtain ⟨k16, hf⟩ := pm_if hf
      obtain ⟨v17, e18, hf⟩ := pm_bd hf
      refine pm_getR C dX16_thing_29 flX16_137 rfl k16 e18 ?_
      refine pm_iload C dX16_thing_32 rfl ?_
      obtain ⟨k19, hf⟩ := pm_if hf
      obtain ⟨u20, hf⟩ := pm_if hf
      refine pm_iald C dX16_thing_34 k19 u20 rfl ?_
      refine pm_goto (tgt := 60) C dX16_thing_35 (by decide) ?_
      cases hf
      exact pm_iret C X dX16_thing_60 rfl (Nat.le_refl _) (Nat.le_refl _) q
  · have hf := pm_it hf c3
    refine pm_aload_n C dX16_thing_13 rfl rfl ?_
    obtain ⟨k21, hf⟩ := pm_if hf
    obtain ⟨v22, e23, hf⟩ := pm_bd hf
    refine pm_getR C dX16_thing_14 flX16_134 rfl k21 e23 ?_
    refine pm_iload C dX16_thing_17 rfl ?_
    obtain ⟨k24, hf⟩ := pm_if hf
    obtain ⟨u25, hf⟩ := pm_if hf
    refine pm_iald C dX16_thing_19 k24 u25 rfl ?_
    refine pm_goto (tgt := 60) C dX16_thing_20 (by decide) ?_
    cases hf
    exact pm_iret C X dX16_thing_60 rfl (Nat.le_refl _) (Nat.le_refl _) q
theorem dX16_tier_0 : decode cX16_tier 0 = .ok (.iload_n 1, 1) := by decide +kernel
theorem dX16_tier_1 : decode cX16_tier 1 = .ok (.ifCond .ge 5, 3) := by decide +kernel
theorem dX16_tier_4 : decode cX16_tier 4 = .ok (.iconst (-1), 1) := by decide +kernel
theorem dX16_tier_5 : decode cX16_tier 5 = .ok (.ireturn, 1) := by decide +kernel
theorem dX16_tier_6 : decode cX16_tier 6 = .ok (.aload_n 0, 1) := by decide +kernel
theorem dX16_tier_7 : decode cX16_tier 7 = .ok (.getfield 1117, 3) := by decide +kernel
theorem dX16_tier_10 : decode cX16_tier 10 = .ok (.istore_n 2, 1) := by decide +kernel
theorem dX16_tier_11 : decode cX16_tier 11 = .ok (.aload_n 0, 1) := by decide +kernel
theorem dX16_tier_12 : decode cX16_tier 12 = .ok (.iload_n 1, 1) := by decide +kernel
theorem dX16_tier_13 : decode cX16_tier 13 = .ok (.putfield 1117, 3) := by decide +kernel
theorem dX16_tier_16 : decode cX16_tier 16 = .ok (.iload_n 2, 1) := by decide +kernel
theorem dX16_tier_17 : decode cX16_tier 17 = .ok (.ireturn, 1) := by decide +kernel
def fX16_tier (h : pm_H) (a0 : Nat) (p1 : Int32) : Option (Int32 × pm_H) := if 0 ≤ p1 then (if pm_kd h a0 = 16 then pm_let (pm_I h a0 44) fun y3 => some ((y3, pm_setI h a0 44 p1)) else none) else (some (((-1), h)))
set_option maxHeartbeats 4000000 in
set_option maxRecDepth 100000 in
theorem ctX16_tier {l : Launch} {G : pm_Gl} {h : pm_H} {a0 : Nat} {p1 : Int32} {r : (Int32 × pm_H)} {Qr : Option Value → pm_H → Prop} (hf : fX16_tier h a0 p1 = some r) (q : Qr (some (.int r.1)) r.2) : pm_Ct l G mX16_tier [.ref a0, .int p1] h 0 0 Qr := by
  refine pm_body pnX16 (Nat.le_of_ble_eq_true rfl) (fun g C X => ?_)
  have C : pm_C g cX16_tier RX16 := C
  show pm_G g 0 [(0, .ref a0), (1, .int p1)] [] h 0 0
  unfold fX16_tier at hf
  refine pm_iload_n C dX16_tier_0 rfl rfl ?_
  refine pm_if_ge (tgt := 6) C dX16_tier_1 (by decide) (fun c1 => ?_) (fun c1 => ?_)
  · have hf := pm_it hf c1
    refine pm_aload_n C dX16_tier_6 rfl rfl ?_
    obtain ⟨k2, hf⟩ := pm_if hf
    refine pm_getI C dX16_tier_7 flX16_1117 rfl k2 rfl ?_
    obtain ⟨y3, e4, hf⟩ := pm_lt hf
    refine pm_topI e4 ?_
    refine pm_istore_n (lv' := [(2, .int y3), (0, .ref a0), (1, .int p1)]) C dX16_tier_10 rfl (pm_nl X (by decide)) rfl ?_
    refine pm_aload_n C dX16_tier_11 rfl rfl ?_
    refine pm_iload_n C dX16_tier_12 rfl rfl ?_
    refine pm_putI C dX16_tier_13 flX16_1117 rfl rfl k2 rfl rfl ?_
    refine pm_iload_n C dX16_tier_16 rfl rfl ?_
    cases hf
    exact pm_iret C X dX16_tier_17 rfl (Nat.le_refl _) (Nat.le_refl _) q
  · have hf := pm_ie hf c1
    refine pm_iconst (v := (-1)) C dX16_tier_4 (by decide) ?_
    cases hf
    exact pm_iret C X dX16_tier_5 rfl (Nat.le_refl _) (Nat.le_refl _) q
theorem dX16_traps_0 : decode cX16_traps 0 = .ok (.aload_n 0, 1) := by decide +kernel
theorem dX16_traps_1 : decode cX16_traps 1 = .ok (.iload_n 1, 1) := by decide +kernel
theorem dX16_traps_2 : decode cX16_traps 2 = .ok (.putfield 800, 3) := by decide +kernel
theorem dX16_traps_5 : decode cX16_traps 5 = .ok (.return_, 1) := by decide +kernel
def fX16_traps (h : pm_H) (a0 : Nat) (p1 : Int32) : Option pm_H := if pm_kd h a0 = 16 then some (pm_setI h a0 33 p1) else none
set_option maxHeartbeats 4000000 in
set_option maxRecDepth 100000 in
theorem ctX16_traps {l : Launch} {G : pm_Gl} {h : pm_H} {a0 : Nat} {p1 : Int32} {r : pm_H} {Qr : Option Value → pm_H → Prop} (hf : fX16_traps h a0 p1 = some r) (q : Qr none r) : pm_Ct l G mX16_traps [.ref a0, .int p1] h 0 0 Qr := by
  refine pm_body pnX16 (Nat.le_of_ble_eq_true rfl) (fun g C X => ?_)
  have C : pm_C g cX16_traps RX16 := C
  show pm_G g 0 [(0, .ref a0), (1, .int p1)] [] h 0 0
  unfold fX16_traps at hf
  refine pm_aload_n C dX16_traps_0 rfl rfl ?_
  refine pm_iload_n C dX16_traps_1 rfl rfl ?_
  obtain ⟨k1, hf⟩ := pm_if hf
  refine pm_putI C dX16_traps_2 flX16_800 rfl rfl k1 rfl rfl ?_
  cases hf
  exact pm_vret C X dX16_traps_5 rfl (Nat.le_refl _) (Nat.le_refl _) q
