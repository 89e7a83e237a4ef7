theorem dX1_takeAllResults_0 : decode cX1_takeAllResults 0 = .ok (.aload_n 0, 1) := by decide +kernel
theorem dX1_takeAllResults_1 : decode cX1_takeAllResults 1 = .ok (.iload_n 1, 1) := by decide +kernel
theorem dX1_takeAllResults_2 : decode cX1_takeAllResults 2 = .ok (.invokevirtual 301, 3) := by decide +kernel
theorem dX1_takeAllResults_5 : decode cX1_takeAllResults 5 = .ok (.astore_n 2, 1) := by decide +kernel
theorem dX1_takeAllResults_6 : decode cX1_takeAllResults 6 = .ok (.aload_n 0, 1) := by decide +kernel
theorem dX1_takeAllResults_7 : decode cX1_takeAllResults 7 = .ok (.aload_n 2, 1) := by decide +kernel
theorem dX1_takeAllResults_8 : decode cX1_takeAllResults 8 = .ok (.iconst 2, 1) := by decide +kernel
theorem dX1_takeAllResults_9 : decode cX1_takeAllResults 9 = .ok (.aload_n 2, 1) := by decide +kernel
theorem dX1_takeAllResults_10 : decode cX1_takeAllResults 10 = .ok (.iconst 0, 1) := by decide +kernel
theorem dX1_takeAllResults_11 : decode cX1_takeAllResults 11 = .ok (.invokestatic 105, 3) := by decide +kernel
theorem dX1_takeAllResults_14 : decode cX1_takeAllResults 14 = .ok (.iadd, 1) := by decide +kernel
theorem dX1_takeAllResults_15 : decode cX1_takeAllResults 15 = .ok (.aload_n 2, 1) := by decide +kernel
theorem dX1_takeAllResults_16 : decode cX1_takeAllResults 16 = .ok (.iconst 1, 1) := by decide +kernel
theorem dX1_takeAllResults_17 : decode cX1_takeAllResults 17 = .ok (.invokestatic 105, 3) := by decide +kernel
theorem dX1_takeAllResults_20 : decode cX1_takeAllResults 20 = .ok (.invokevirtual 295, 3) := by decide +kernel
theorem dX1_takeAllResults_23 : decode cX1_takeAllResults 23 = .ok (.aload_n 0, 1) := by decide +kernel
theorem dX1_takeAllResults_24 : decode cX1_takeAllResults 24 = .ok (.getfield 214, 3) := by decide +kernel
theorem dX1_takeAllResults_27 : decode cX1_takeAllResults 27 = .ok (.aload_n 0, 1) := by decide +kernel
theorem dX1_takeAllResults_28 : decode cX1_takeAllResults 28 = .ok (.iload_n 1, 1) := by decide +kernel
theorem dX1_takeAllResults_29 : decode cX1_takeAllResults 29 = .ok (.iconst 2, 1) := by decide +kernel
theorem dX1_takeAllResults_30 : decode cX1_takeAllResults 30 = .ok (.invokevirtual 284, 3) := by decide +kernel
theorem dX1_takeAllResults_33 : decode cX1_takeAllResults 33 = .ok (.if_icmp .eq 9, 3) := by decide +kernel
theorem dX1_takeAllResults_36 : decode cX1_takeAllResults 36 = .ok (.aload_n 0, 1) := by decide +kernel
theorem dX1_takeAllResults_37 : decode cX1_takeAllResults 37 = .ok (.bipush 29, 2) := by decide +kernel
theorem dX1_takeAllResults_39 : decode cX1_takeAllResults 39 = .ok (.invokevirtual 198, 3) := by decide +kernel
theorem dX1_takeAllResults_42 : decode cX1_takeAllResults 42 = .ok (.return_, 1) := by decide +kernel
noncomputable def fX1_takeAllResults_b5 (h : pm_H) (x0 : Nat) (x1 : Int32) (s0 : Nat) : Option pm_H := (fX12_item h s0 0).bind fun v4 => (fX12_item h s0 1).bind fun v6 => if pm_kd h x0 = 1 then (fX1_takeTypes h x0 s0 (2 + v4) v6).bind fun v9 => if pm_kd v9 x0 = 1 then (fX1_label v9 x0 x1 2).bind fun v13 => if (pm_I v9 x0 6) = v13 then (some v9) else ((fX1_fail v9 x0 29).bind fun v16 => some v16) else none else none
noncomputable def fX1_takeAllResults_b0 (h : pm_H) (x0 : Nat) (x1 : Int32) : Option pm_H := if pm_kd h x0 = 1 then (fX1_shapeOfLabel h x0 x1).bind fun v2 => fX1_takeAllResults_b5 v2.2 x0 x1 v2.1 else none
noncomputable def fX1_takeAllResults (h : pm_H) (a0 : Nat) (p1 : Int32) : Option pm_H := fX1_takeAllResults_b0 h a0 p1
set_option maxHeartbeats 4000000 in
set_option maxRecDepth 100000 in
theorem moX1_takeAllResults_b5 {h : pm_H} {x0 : Nat} {x1 : Int32} {s0 : Nat} {r : pm_H} (hf : fX1_takeAllResults_b5 h x0 x1 s0 = some r) : pm_Le h r := by
  unfold fX1_takeAllResults_b5 at hf
  have K0 := pm_S3.rf h
  obtain ⟨v4, e5, hf⟩ := pm_bd hf
  obtain ⟨v6, e7, hf⟩ := pm_bd hf
  obtain ⟨k8, hf⟩ := pm_if hf
  obtain ⟨v9, e10, hf⟩ := pm_bd hf
  have K11 := pm_S3.trans (kpX1_takeTypes e10) K0
  obtain ⟨k12, hf⟩ := pm_if hf
  obtain ⟨v13, e14, hf⟩ := pm_bd hf
  by_cases c15 : (pm_I v9 x0 6) = v13
  · have hf := pm_it hf c15
    have hf := Option.some.inj hf
    subst hf
    exact pm_S3.le K11
  · have hf := pm_ie hf c15
    obtain ⟨v16, e17, hf⟩ := pm_bd hf
    have K18 := pm_S3.trans (kpX1_fail e17) K11
    have hf := Option.some.inj hf
    subst hf
    exact pm_S3.le K18
set_option maxHeartbeats 4000000 in
set_option maxRecDepth 100000 in
theorem moX1_takeAllResults_b0 {h : pm_H} {x0 : Nat} {x1 : Int32} {r : pm_H} (hf : fX1_takeAllResults_b0 h x0 x1 = some r) : pm_Le h r := by
  unfold fX1_takeAllResults_b0 at hf
  have K0 := pm_S3.rf h
  obtain ⟨k1, hf⟩ := pm_if hf
  obtain ⟨v2, e3, hf⟩ := pm_bd hf
  exact ((pm_S3.le K0).trans (moX1_shapeOfLabel e3)).trans (moX1_takeAllResults_b5 hf)
set_option maxHeartbeats 4000000 in
set_option maxRecDepth 100000 in
theorem moX1_takeAllResults {h : pm_H} {a0 : Nat} {p1 : Int32} {r : pm_H} (hf : fX1_takeAllResults h a0 p1 = some r) : pm_Le h r := by
  unfold fX1_takeAllResults at hf
  have K0 := pm_S3.rf h
  exact (pm_S3.le K0).trans (moX1_takeAllResults_b0 hf)
set_option maxHeartbeats 4000000 in
set_option maxRecDepth 100000 in
theorem bX1_takeAllResults_5 {g : pm_Gm} {l : Launch} {G : pm_Gl} {Qr : Option Value → pm_H → Prop} (C : pm_C g cX1_takeAllResults RX1) {h0 h : pm_H} {x0 : Nat} {x1 : Int32} {s0 : Nat} {r : pm_H} (X : pm_X g l G mX1_takeAllResults (pm_sz r - pm_sz h0) (pm_us r - pm_us h0) Qr) (m0 : pm_Le h0 h) (hf : fX1_takeAllResults_b5 h x0 x1 s0 = some r) (q : Qr none r) : pm_G g 5 [(0, .ref x0), (1, .int x1)] [.ref s0] h (pm_sz h - pm_sz h0) (pm_us h - pm_us h0) := by
  have le0 := moX1_takeAllResults_b5 hf
  have kc1 := Nat.sub_le_sub_right le0.1 (pm_sz h0)
  have kc2 := Nat.sub_le_sub_right le0.2 (pm_us h0)
  have K0 := pm_S3.rf h
  unfold fX1_takeAllResults_b5 at hf
  refine pm_astore_n (lv' := [(2, .ref s0), (0, .ref x0), (1, .int x1)]) C dX1_takeAllResults_5 rfl (pm_nl X (by decide)) rfl ?_
  refine pm_aload_n C dX1_takeAllResults_6 rfl rfl ?_
  refine pm_aload_n C dX1_takeAllResults_7 rfl rfl ?_
  refine pm_iconst (v := 2) C dX1_takeAllResults_8 (by decide) ?_
  refine pm_aload_n C dX1_takeAllResults_9 rfl rfl ?_
  refine pm_iconst (v := 0) C dX1_takeAllResults_10 (by decide) ?_
  obtain ⟨v4, e5, hf⟩ := pm_bd hf
  refine pm_callS (as := [.ref s0, .int 0]) (st := [.int 2, .ref s0, .ref x0]) C X dX1_takeAllResults_11 lnX1_105 myX12_item stX12_item ⟨by decide, by decide⟩ rfl rfl (Nat.le_of_ble_eq_true rfl) kc1 kc2 (ctX12_item e5 ?_)
  show pm_G g 14 [(2, .ref s0), (0, .ref x0), (1, .int x1)] [.int v4, .int 2, .ref s0, .ref x0] h (pm_sz h - pm_sz h0) (pm_us h - pm_us h0)
  refine pm_iadd C dX1_takeAllResults_14 ?_
  refine pm_aload_n C dX1_takeAllResults_15 rfl rfl ?_
  refine pm_iconst (v := 1) C dX1_takeAllResults_16 (by decide) ?_
  obtain ⟨v6, e7, hf⟩ := pm_bd hf
  refine pm_callS (as := [.ref s0, .int 1]) (st := [.int (2 + v4), .ref s0, .ref x0]) C X dX1_takeAllResults_17 lnX1_105 myX12_item stX12_item ⟨by decide, by decide⟩ rfl rfl (Nat.le_of_ble_eq_true rfl) kc1 kc2 (ctX12_item e7 ?_)
  show pm_G g 20 [(2, .ref s0), (0, .ref x0), (1, .int x1)] [.int v6, .int (2 + v4), .ref s0, .ref x0] h (pm_sz h - pm_sz h0) (pm_us h - pm_us h0)
  obtain ⟨k8, hf⟩ := pm_if hf
  obtain ⟨v9, e10, hf⟩ := pm_bd hf
  refine pm_callV (as := [.ref s0, .int (2 + v4), .int v6]) (st := []) C X dX1_takeAllResults_20 lnX1_295 myX1_takeTypes viX1_takeTypes ⟨by decide, by decide⟩ rfl rfl k8 (Nat.le_of_ble_eq_true rfl) kc1 kc2 (ctX1_takeTypes e10 ?_)
  have K11 := pm_S3.trans (kpX1_takeTypes e10) K0
  show pm_G g 23 [(2, .ref s0), (0, .ref x0), (1, .int x1)] [] v9 (pm_sz h - pm_sz h0) (pm_us h - pm_us h0)
  refine pm_aload_n C dX1_takeAllResults_23 rfl rfl ?_
  obtain ⟨k12, hf⟩ := pm_if hf
  refine pm_getI C dX1_takeAllResults_24 flX1_214 rfl k12 rfl ?_
  refine pm_aload_n C dX1_takeAllResults_27 rfl rfl ?_
  refine pm_iload_n C dX1_takeAllResults_28 rfl rfl ?_
  refine pm_iconst (v := 2) C dX1_takeAllResults_29 (by decide) ?_
  obtain ⟨v13, e14, hf⟩ := pm_bd hf
  refine pm_callV (as := [.int x1, .int 2]) (st := [.int (pm_I v9 x0 6)]) C X dX1_takeAllResults_30 lnX1_284 myX1_label viX1_label ⟨by decide, by decide⟩ rfl rfl k12 (Nat.le_of_ble_eq_true rfl) kc1 kc2 (ctX1_label e14 ?_)
  show pm_G g 33 [(2, .ref s0), (0, .ref x0), (1, .int x1)] [.int v13, .int (pm_I v9 x0 6)] v9 (pm_sz h - pm_sz h0) (pm_us h - pm_us h0)
  refine pm_icmp_eq (tgt := 42) C dX1_takeAllResults_33 (by decide) (fun c15 => ?_) (fun c15 => ?_)
  · have hf := pm_it hf c15
    have hf := Option.some.inj hf
    subst hf
    exact pm_vret C X dX1_takeAllResults_42 rfl kc1 kc2 q
  · have hf := pm_ie hf c15
    refine pm_aload_n C dX1_takeAllResults_36 rfl rfl ?_
    refine pm_bipush (v := 29) C dX1_takeAllResults_37 (by decide) ?_
    obtain ⟨v16, e17, hf⟩ := pm_bd hf
    refine pm_callV (as := [.int 29]) (st := []) C X dX1_takeAllResults_39 lnX1_198 myX1_fail viX1_fail ⟨by decide, by decide⟩ rfl rfl k12 (Nat.le_of_ble_eq_true rfl) kc1 kc2 (ctX1_fail e17 ?_)
    have K18 := pm_S3.trans (kpX1_fail e17) K11
    show pm_G g 42 [(2, .ref s0), (0, .ref x0), (1, .int x1)] [] v16 (pm_sz h - pm_sz h0) (pm_us h - pm_us h0)
    have hf := Option.some.inj hf
    subst hf
    exact pm_vret C X dX1_takeAllResults_42 rfl kc1 kc2 q
set_option maxHeartbeats 4000000 in
set_option maxRecDepth 100000 in
theorem bX1_takeAllResults_0 {g : pm_Gm} {l : Launch} {G : pm_Gl} {Qr : Option Value → pm_H → Prop} (C : pm_C g cX1_takeAllResults RX1) {h0 h : pm_H} {x0 : Nat} {x1 : Int32} {r : pm_H} (X : pm_X g l G mX1_takeAllResults (pm_sz r - pm_sz h0) (pm_us r - pm_us h0) Qr) (m0 : pm_Le h0 h) (hf : fX1_takeAllResults_b0 h x0 x1 = some r) (q : Qr none r) : pm_G g 0 [(0, .ref x0), (1, .int x1)] [] h (pm_sz h - pm_sz h0) (pm_us h - pm_us h0) := by
  have le0 := moX1_takeAllResults_b0 hf
  have kc1 := Nat.sub_le_sub_right le0.1 (pm_sz h0)
  have kc2 := Nat.sub_le_sub_right le0.2 (pm_us h0)
  have K0 := pm_S3.rf h
  unfold fX1_takeAllResults_b0 at hf
  refine pm_aload_n C dX1_takeAllResults_0 rfl rfl ?_
  refine pm_iload_n C dX1_takeAllResults_1 rfl rfl ?_
  obtain ⟨k1, hf⟩ := pm_if hf
  obtain ⟨v2, e3, hf⟩ := pm_bd hf
  refine pm_callV (as := [.int x1]) (st := []) C X dX1_takeAllResults_2 lnX1_301 myX1_shapeOfLabel viX1_shapeOfLabel ⟨by decide, by decide⟩ rfl rfl k1 (Nat.le_of_ble_eq_true rfl) (pa_le1 K0 m0 (moX1_shapeOfLabel e3) (moX1_takeAllResults_b5 hf)) (pa_le2 K0 m0 (moX1_shapeOfLabel e3) (moX1_takeAllResults_b5 hf)) (ctX1_shapeOfLabel e3 ?_)
  show pm_G g 5 [(0, .ref x0), (1, .int x1)] [.ref v2.1] v2.2 (pm_sz h - pm_sz h0 + (pm_sz v2.2 - pm_sz h)) (pm_us h - pm_us h0 + (pm_us v2.2 - pm_us h))
  refine pa_fin K0 m0 (moX1_shapeOfLabel e3) ?_
  exact pm_sub [0, 1] rfl (bX1_takeAllResults_5 C X ((m0.trans (pm_S3.le K0)).trans (moX1_shapeOfLabel e3)) hf q)
set_option maxHeartbeats 4000000 in
set_option maxRecDepth 100000 in
theorem ctX1_takeAllResults {l : Launch} {G : pm_Gl} {h : pm_H} {a0 : Nat} {p1 : Int32} {r : pm_H} {Qr : Option Value → pm_H → Prop} (hf : fX1_takeAllResults h a0 p1 = some r) (q : Qr none r) : pm_Ct l G mX1_takeAllResults [.ref a0, .int p1] h (pm_sz r - pm_sz h) (pm_us r - pm_us h) Qr := by
  refine pm_body pnX1 (Nat.le_of_ble_eq_true rfl) (fun g C X => ?_)
  have C : pm_C g cX1_takeAllResults RX1 := C
  show pm_G g 0 [(0, .ref a0), (1, .int p1)] [] h 0 0
  unfold fX1_takeAllResults at hf
  exact pa_start (pm_sub [0, 1] rfl (bX1_takeAllResults_0 C X (pm_Le.rf h) hf q))
theorem dX1_wantedCount_0 : decode cX1_wantedCount 0 = .ok (.aload_n 0, 1) := by decide +kernel
theorem dX1_wantedCount_1 : decode cX1_wantedCount 1 = .ok (.iload_n 1, 1) := by decide +kernel
theorem dX1_wantedCount_2 : decode cX1_wantedCount 2 = .ok (.invokevirtual 301, 3) := by decide +kernel
theorem dX1_wantedCount_5 : decode cX1_wantedCount 5 = .ok (.aload_n 0, 1) := by decide +kernel
theorem dX1_wantedCount_6 : decode cX1_wantedCount 6 = .ok (.iload_n 1, 1) := by decide +kernel
theorem dX1_wantedCount_7 : decode cX1_wantedCount 7 = .ok (.invokevirtual 304, 3) := by decide +kernel
theorem dX1_wantedCount_10 : decode cX1_wantedCount 10 = .ok (.ifCond .eq 7, 3) := by decide +kernel
theorem dX1_wantedCount_13 : decode cX1_wantedCount 13 = .ok (.iconst 0, 1) := by decide +kernel
theorem dX1_wantedCount_14 : decode cX1_wantedCount 14 = .ok (.goto 4, 3) := by decide +kernel
theorem dX1_wantedCount_17 : decode cX1_wantedCount 17 = .ok (.iconst 1, 1) := by decide +kernel
theorem dX1_wantedCount_18 : decode cX1_wantedCount 18 = .ok (.invokestatic 105, 3) := by decide +kernel
theorem dX1_wantedCount_21 : decode cX1_wantedCount 21 = .ok (.ireturn, 1) := by decide +kernel
def fX1_wantedCount_b5 (h : pm_H) (x0 : Nat) (x1 : Int32) (s0 : Nat) : Option (Int32 × pm_H) := if pm_kd h x0 = 1 then (fX1_isLoop h x0 x1).bind fun v5 => if v5 = 0 then ((fX12_item h s0 1).bind fun v8 => some ((v8, h))) else ((fX12_item h s0 0).bind fun v10 => some ((v10, h))) else none
def fX1_wantedCount_b0 (h : pm_H) (x0 : Nat) (x1 : Int32) : Option (Int32 × pm_H) := if pm_kd h x0 = 1 then (fX1_shapeOfLabel h x0 x1).bind fun v2 => fX1_wantedCount_b5 v2.2 x0 x1 v2.1 else none
def fX1_wantedCount (h : pm_H) (a0 : Nat) (p1 : Int32) : Option (Int32 × pm_H) := fX1_wantedCount_b0 h a0 p1
set_option maxHeartbeats 4000000 in
set_option maxRecDepth 100000 in
theorem moX1_wantedCount_b5 {h : pm_H} {x0 : Nat} {x1 : Int32} {s0 : Nat} {r : (Int32 × pm_H)} (hf : fX1_wantedCount_b5 h x0 x1 s0 = some r) : pm_Le h r.2 := by
  unfold fX1_wantedCount_b5 at hf
  have K0 := pm_S3.rf h
  obtain ⟨k4, hf⟩ := pm_if hf
  obtain ⟨v5, e6, hf⟩ := pm_bd hf
  by_cases c7 : v5 = 0
  · have hf := pm_it hf c7
    obtain ⟨v8, e9, hf⟩ := pm_bd hf
    have hf := Option.some.inj hf
    subst hf
    exact pm_S3.le K0
  · have hf := pm_ie hf c7
    obtain ⟨v10, e11, hf⟩ := pm_bd hf
    have hf := Option.some.inj hf
    subst hf
    exact pm_S3.le K0
set_option maxHeartbeats 4000000 in
set_option maxRecDepth 100000 in
theorem moX1_wantedCount_b0 {h : pm_H} {x0 : Nat} {x1 : Int32} {r : (Int32 × pm_H)} (hf : fX1_wantedCount_b0 h x0 x1 = some r) : pm_Le h r.2 := by
  unfold fX1_wantedCount_b0 at hf
  have K0 := pm_S3.rf h
  obtain ⟨k1, hf⟩ := pm_if hf
  obtain ⟨v2, e3, hf⟩ := pm_bd hf
  exact ((pm_S3.le K0).trans (moX1_shapeOfLabel e3)).trans (moX1_wantedCount_b5 hf)
set_option maxHeartbeats 4000000 in
set_option maxRecDepth 100000 in
theorem moX1_wantedCount {h : pm_H} {a0 : Nat} {p1 : Int32} {r : (Int32 × pm_H)} (hf : fX1_wantedCount h a0 p1 = some r) : pm_Le h r.2 := by
  unfold fX1_wantedCount at hf
  have K0 := pm_S3.rf h
  exact (pm_S3.le K0).trans (moX1_wantedCount_b0 hf)
set_option maxHeartbeats 4000000 in
set_option maxRecDepth 100000 in
theorem bX1_wantedCount_5 {g : pm_Gm} {l : Launch} {G : pm_Gl} {Qr : Option Value → pm_H → Prop} (C : pm_C g cX1_wantedCount RX1) {h0 h : pm_H} {x0 : Nat} {x1 : Int32} {s0 : Nat} {r : (Int32 × pm_H)} (X : pm_X g l G mX1_wantedCount (pm_sz r.2 - pm_sz h0) (pm_us r.2 - pm_us h0) Qr) (m0 : pm_Le h0 h) (hf : fX1_wantedCount_b5 h x0 x1 s0 = some r) (q : Qr (some (.int r.1)) r.2) : pm_G g 5 [(0, .ref x0), (1, .int x1)] [.ref s0] h (pm_sz h - pm_sz h0) (pm_us h - pm_us h0) := by
  have le0 := moX1_wantedCount_b5 hf
  have kc1 := Nat.sub_le_sub_right le0.1 (pm_sz h0)
  have kc2 := Nat.sub_le_sub_right le0.2 (pm_us h0)
  have K0 := pm_S3.rf h
  unfold fX1_wantedCount_b5 at hf
  refine pm_aload_n C dX1_wantedCount_5 rfl rfl ?_
  refine pm_iload_n C dX1_wantedCount_6 rfl rfl ?_
  obtain ⟨k4, hf⟩ := pm_if hf
  obtain ⟨v5, e6, hf⟩ := pm_bd hf
  refine pm_callV (as := [.int x1]) (st := [.ref s0]) C X dX1_wantedCount_7 lnX1_304 myX1_isLoop viX1_isLoop ⟨by decide, by decide⟩ rfl rfl k4 (Nat.le_of_ble_eq_true rfl) kc1 kc2 (ctX1_isLoop e6 ?_)
  show pm_G g 10 [(0, .ref x0), (1, .int x1)] [.int v5, .ref s0] h (pm_sz h - pm_sz h0) (pm_us h - pm_us h0)
  refine pm_if_eq (tgt := 17) C dX1_wantedCount_10 (by decide) (fun c7 => ?_) (fun c7 => ?_)
  · have hf := pm_it hf c7
    refine pm_iconst (v := 1) C dX1_wantedCount_17 (by decide) ?_
    obtain ⟨v8, e9, hf⟩ := pm_bd hf
    refine pm_callS (as := [.ref s0, .int 1]) (st := []) C X dX1_wantedCount_18 lnX1_105 myX12_item stX12_item ⟨by decide, by decide⟩ rfl rfl (Nat.le_of_ble_eq_true rfl) kc1 kc2 (ctX12_item e9 ?_)
    show pm_G g 21 [(0, .ref x0), (1, .int x1)] [.int v8] h (pm_sz h - pm_sz h0) (pm_us h - pm_us h0)
    have hf := Option.some.inj hf
    subst hf
    exact pm_iret C X dX1_wantedCount_21 rfl kc1 kc2 q
  · have hf := pm_ie hf c7
    refine pm_iconst (v := 0) C dX1_wantedCount_13 (by decide) ?_
    refine pm_goto (tgt := 18) C dX1_wantedCount_14 (by decide) ?_
    obtain ⟨v10, e11, hf⟩ := pm_bd hf
    refine pm_callS (as := [.ref s0, .int 0]) (st := []) C X dX1_wantedCount_18 lnX1_105 myX12_item stX12_item ⟨by decide, by decide⟩ rfl rfl (Nat.le_of_ble_eq_true rfl) kc1 kc2 (ctX12_item e11 ?_)
    show pm_G g 21 [(0, .ref x0), (1, .int x1)] [.int v10] h (pm_sz h - pm_sz h0) (pm_us h - pm_us h0)
    have hf := Option.some.inj hf
    subst hf
    exact pm_iret C X dX1_wantedCount_21 rfl kc1 kc2 q
set_option maxHeartbeats 4000000 in
set_option maxRecDepth 100000 in
theorem bX1_wantedCount_0 {g : pm_Gm} {l : Launch} {G : pm_Gl} {Qr : Option Value → pm_H → Prop} (C : pm_C g cX1_wantedCount RX1) {h0 h : pm_H} {x0 : Nat} {x1 : Int32} {r : (Int32 × pm_H)} (X : pm_X g l G mX1_wantedCount (pm_sz r.2 - pm_sz h0) (pm_us r.2 - pm_us h0) Qr) (m0 : pm_Le h0 h) (hf : fX1_wantedCount_b0 h x0 x1 = some r) (q : Qr (some (.int r.1)) r.2) : pm_G g 0 [(0, .ref x0), (1, .int x1)] [] h (pm_sz h - pm_sz h0) (pm_us h - pm_us h0) := by
  have le0 := moX1_wantedCount_b0 hf
  have kc1 := Nat.sub_le_sub_right le0.1 (pm_sz h0)
  have kc2 := Nat.sub_le_sub_right le0.2 (pm_us h0)
  have K0 := pm_S3.rf h
  unfold fX1_wantedCount_b0 at hf
  refine pm_aload_n C dX1_wantedCount_0 rfl rfl ?_
  refine pm_iload_n C dX1_wantedCount_1 rfl rfl ?_
  obtain ⟨k1, hf⟩ := pm_if hf
  obtain ⟨v2, e3, hf⟩ := pm_bd hf
  refine pm_callV (as := [.int x1]) (st := []) C X dX1_wantedCount_2 lnX1_301 myX1_shapeOfLabel viX1_shapeOfLabel ⟨by decide, by decide⟩ rfl rfl k1 (Nat.le_of_ble_eq_true rfl) (pa_le1 K0 m0 (moX1_shapeOfLabel e3) (moX1_wantedCount_b5 hf)) (pa_le2 K0 m0 (moX1_shapeOfLabel e3) (moX1_wantedCount_b5 hf)) (ctX1_shapeOfLabel e3 ?_)
  show pm_G g 5 [(0, .ref x0), (1, .int x1)] [.ref v2.1] v2.2 (pm_sz h - pm_sz h0 + (pm_sz v2.2 - pm_sz h)) (pm_us h - pm_us h0 + (pm_us v2.2 - pm_us h))
  refine pa_fin K0 m0 (moX1_shapeOfLabel e3) ?_
  exact pm_sub [0, 1] rfl (bX1_wantedCount_5 C X ((m0.trans (pm_S3.le K0)).trans (moX1_shapeOfLabel e3)) hf q)
set_option maxHeartbeats 4000000 in
set_option maxRecDepth 100000 in
theorem ctX1_wantedCount {l : Launch} {G : pm_Gl} {h : pm_H} {a0 : Nat} {p1 : Int32} {r : (Int32 × pm_H)} {Qr : Option Value → pm_H → Prop} (hf : fX1_wantedCount h a0 p1 = some r) (q : Qr (some (.int r.1)) r.2) : pm_Ct l G mX1_wantedCount [.ref a0, .int p1] h (pm_sz r.2 - pm_sz h) (pm_us r.2 - pm_us h) Qr := by
  refine pm_body pnX1 (Nat.le_of_ble_eq_true rfl) (fun g C X => ?_)
  have C : pm_C g cX1_wantedCount RX1 := C
  show pm_G g 0 [(0, .ref a0), (1, .int p1)] [] h 0 0
  unfold fX1_wantedCount at hf
  exact pa_start (pm_sub [0, 1] rfl (bX1_wantedCount_0 C X (pm_Le.rf h) hf q))
theorem dX1_wantedFrom_0 : decode cX1_wantedFrom 0 = .ok (.aload_n 0, 1) := by decide +kernel
theorem dX1_wantedFrom_1 : decode cX1_wantedFrom 1 = .ok (.iload_n 1, 1) := by decide +kernel
theorem dX1_wantedFrom_2 : decode cX1_wantedFrom 2 = .ok (.invokevirtual 304, 3) := by decide +kernel
theorem dX1_wantedFrom_5 : decode cX1_wantedFrom 5 = .ok (.ifCond .eq 7, 3) := by decide +kernel
theorem dX1_wantedFrom_8 : decode cX1_wantedFrom 8 = .ok (.iconst 2, 1) := by decide +kernel
theorem dX1_wantedFrom_9 : decode cX1_wantedFrom 9 = .ok (.goto 14, 3) := by decide +kernel
theorem dX1_wantedFrom_12 : decode cX1_wantedFrom 12 = .ok (.iconst 2, 1) := by decide +kernel
theorem dX1_wantedFrom_13 : decode cX1_wantedFrom 13 = .ok (.aload_n 0, 1) := by decide +kernel
theorem dX1_wantedFrom_14 : decode cX1_wantedFrom 14 = .ok (.iload_n 1, 1) := by decide +kernel
theorem dX1_wantedFrom_15 : decode cX1_wantedFrom 15 = .ok (.invokevirtual 301, 3) := by decide +kernel
theorem dX1_wantedFrom_18 : decode cX1_wantedFrom 18 = .ok (.iconst 0, 1) := by decide +kernel
theorem dX1_wantedFrom_19 : decode cX1_wantedFrom 19 = .ok (.invokestatic 105, 3) := by decide +kernel
theorem dX1_wantedFrom_22 : decode cX1_wantedFrom 22 = .ok (.iadd, 1) := by decide +kernel
theorem dX1_wantedFrom_23 : decode cX1_wantedFrom 23 = .ok (.ireturn, 1) := by decide +kernel
def fX1_wantedFrom_b18 (h : pm_H) (s0 : Nat) (s1 : Int32) : Option (Int32 × pm_H) := (fX12_item h s0 0).bind fun v7 => some ((s1 + v7, h))
def fX1_wantedFrom_b0 (h : pm_H) (x0 : Nat) (x1 : Int32) : Option (Int32 × pm_H) := if pm_kd h x0 = 1 then (fX1_isLoop h x0 x1).bind fun v2 => if v2 = 0 then ((fX1_shapeOfLabel h x0 x1).bind fun v5 => fX1_wantedFrom_b18 v5.2 v5.1 2) else (some ((2, h))) else none
def fX1_wantedFrom (h : pm_H) (a0 : Nat) (p1 : Int32) : Option (Int32 × pm_H) := fX1_wantedFrom_b0 h a0 p1
set_option maxHeartbeats 4000000 in
set_option maxRecDepth 100000 in
theorem moX1_wantedFrom_b18 {h : pm_H} {s0 : Nat} {s1 : Int32} {r : (Int32 × pm_H)} (hf : fX1_wantedFrom_b18 h s0 s1 = some r) : pm_Le h r.2 := by
  unfold fX1_wantedFrom_b18 at hf
  have K0 := pm_S3.rf h
  obtain ⟨v7, e8, hf⟩ := pm_bd hf
  have hf := Option.some.inj hf
  subst hf
  exact pm_S3.le K0
set_option maxHeartbeats 4000000 in
set_option maxRecDepth 100000 in
theorem moX1_wantedFrom_b0 {h : pm_H} {x0 : Nat} {x1 : Int32} {r : (Int32 × pm_H)} (hf : fX1_wantedFrom_b0 h x0 x1 = some r) : pm_Le h r.2 := by
  unfold fX1_wantedFrom_b0 at hf
  have K0 := pm_S3.rf h
  obtain ⟨k1, hf⟩ := pm_if hf
  obtain ⟨v2, e3, hf⟩ := pm_bd hf
  by_cases c4 : v2 = 0
  · have hf := pm_it hf c4
    obtain ⟨v5, e6, hf⟩ := pm_bd hf
    exact ((pm_S3.le K0).trans (moX1_shapeOfLabel e6)).trans (moX1_wantedFrom_b18 hf)
  · have hf := pm_ie hf c4
    have hf := Option.some.inj hf
    subst hf
    exact pm_S3.le K0
set_option maxHeartbeats 4000000 in
set_option maxRecDepth 100000 in
theorem moX1_wantedFrom {h : pm_H} {a0 : Nat} {p1 : Int32} {r : (Int32 × pm_H)} (hf : fX1_wantedFrom h a0 p1 = some r) : pm_Le h r.2 := by
  unfold fX1_wantedFrom at hf
  have K0 := pm_S3.rf h
  exact (pm_S3.le K0).trans (moX1_wantedFrom_b0 hf)
set_option maxHeartbeats 4000000 in
set_option maxRecDepth 100000 in
theorem bX1_wantedFrom_18 {g : pm_Gm} {l : Launch} {G : pm_Gl} {Qr : Option Value → pm_H → Prop} (C : pm_C g cX1_wantedFrom RX1) {h0 h : pm_H} {s0 : Nat} {s1 : Int32} {r : (Int32 × pm_H)} (X : pm_X g l G mX1_wantedFrom (pm_sz r.2 - pm_sz h0) (pm_us r.2 - pm_us h0) Qr) (m0 : pm_Le h0 h) (hf : fX1_wantedFrom_b18 h s0 s1 = some r) (q : Qr (some (.int r.1)) r.2) : pm_G g 18 [] [.ref s0, .int s1] h (pm_sz h - pm_sz h0) (pm_us h - pm_us h0) := by
  have le0 := moX1_wantedFrom_b18 hf
  have kc1 := Nat.sub_le_sub_right le0.1 (pm_sz h0)
  have kc2 := Nat.sub_le_sub_right le0.2 (pm_us h0)
  have K0 := pm_S3.rf h
  unfold fX1_wantedFrom_b18 at hf
  refine pm_iconst (v := 0) C dX1_wantedFrom_18 (by decide) ?_
  obtain ⟨v7, e8, hf⟩ := pm_bd hf
  refine pm_callS (as := [.ref s0, .int 0]) (st := [.int s1]) C X dX1_wantedFrom_19 lnX1_105 myX12_item stX12_item ⟨by decide, by decide⟩ rfl rfl (Nat.le_of_ble_eq_true rfl) kc1 kc2 (ctX12_item e8 ?_)
  show pm_G g 22 [] [.int v7, .int s1] h (pm_sz h - pm_sz h0) (pm_us h - pm_us h0)
  refine pm_iadd C dX1_wantedFrom_22 ?_
  have hf := Option.some.inj hf
  subst hf
  exact pm_iret C X dX1_wantedFrom_23 rfl kc1 kc2 q
set_option maxHeartbeats 4000000 in
set_option maxRecDepth 100000 in
theorem bX1_wantedFrom_0 {g : pm_Gm} {l : Launch} {G : pm_Gl} {Qr : Option Value → pm_H → Prop} (C : pm_C g cX1_wantedFrom RX1) {h0 h : pm_H} {x0 : Nat} {x1 : Int32} {r : (Int32 × pm_H)} (X : pm_X g l G mX1_wantedFrom (pm_sz r.2 - pm_sz h0) (pm_us r.2 - pm_us h0) Qr) (m0 : pm_Le h0 h) (hf : fX1_wantedFrom_b0 h x0 x1 = some r) (q : Qr (some (.int r.1)) r.2) : pm_G g 0 [(0, .ref x0), (1, .int x1)] [] h (pm_sz h - pm_sz h0) (pm_us h - pm_us h0) := by
  have le0 := moX1_wantedFrom_b0 hf
  have kc1 := Nat.sub_le_sub_right le0.1 (pm_sz h0)
  have kc2 := Nat.sub_le_sub_right le0.2 (pm_us h0)
  have K0 := pm_S3.rf h
  unfold fX1_wantedFrom_b0 at hf
  refine pm_aload_n C dX1_wantedFrom_0 rfl rfl ?_
  refine pm_iload_n C dX1_wantedFrom_1 rfl rfl ?_
  obtain ⟨k1, hf⟩ := pm_if hf
  obtain ⟨v2, e3, hf⟩ := pm_bd hf
  refine pm_callV (as := [.int x1]) (st := []) C X dX1_wantedFrom_2 lnX1_304 myX1_isLoop viX1_isLoop ⟨by decide, by decide⟩ rfl rfl k1 (Nat.le_of_ble_eq_true rfl) kc1 kc2 (ctX1_isLoop e3 ?_)
  show pm_G g 5 [(0, .ref x0), (1, .int x1)] [.int v2] h (pm_sz h - pm_sz h0) (pm_us h - pm_us h0)
  refine pm_if_eq (tgt := 12) C dX1_wantedFrom_5 (by decide) (fun c4 => ?_) (fun c4 => ?_)
  · have hf := pm_it hf c4
    refine pm_iconst (v := 2) C dX1_wantedFrom_12 (by decide) ?_
    refine pm_aload_n C dX1_wantedFrom_13 rfl rfl ?_
    refine pm_iload_n C dX1_wantedFrom_14 rfl rfl ?_
    obtain ⟨v5, e6, hf⟩ := pm_bd hf
    refine pm_callV (as := [.int x1]) (st := [.int 2]) C X dX1_wantedFrom_15 lnX1_301 myX1_shapeOfLabel viX1_shapeOfLabel ⟨by decide, by decide⟩ rfl rfl k1 (Nat.le_of_ble_eq_true rfl) (pa_le1 K0 m0 (moX1_shapeOfLabel e6) (moX1_wantedFrom_b18 hf)) (pa_le2 K0 m0 (moX1_shapeOfLabel e6) (moX1_wantedFrom_b18 hf)) (ctX1_shapeOfLabel e6 ?_)
    show pm_G g 18 [(0, .ref x0), (1, .int x1)] [.ref v5.1, .int 2] v5.2 (pm_sz h - pm_sz h0 + (pm_sz v5.2 - pm_sz h)) (pm_us h - pm_us h0 + (pm_us v5.2 - pm_us h))
    refine pa_fin K0 m0 (moX1_shapeOfLabel e6) ?_
    exact pm_sub [] rfl (bX1_wantedFrom_18 C X ((m0.trans (pm_S3.le K0)).trans (moX1_shapeOfLabel e6)) hf q)
  · have hf := pm_ie hf c4
    refine pm_iconst (v := 2) C dX1_wantedFrom_8 (by decide) ?_
    refine pm_goto (tgt := 23) C dX1_wantedFrom_9 (by decide) ?_
    have hf := Option.some.inj hf
    subst hf
    exact pm_iret C X dX1_wantedFrom_23 rfl kc1 kc2 q
set_option maxHeartbeats 4000000 in
set_option maxRecDepth 100000 in
theorem ctX1_wantedFrom {l : Launch} {G : pm_Gl} {h : pm_H} {a0 : Nat} {p1 : Int32} {r : (Int32 × pm_H)} {Qr : Option Value → pm_H → Prop} (hf : fX1_wantedFrom h a0 p1 = some r) (q : Qr (some (.int r.1)) r.2) : pm_Ct l G mX1_wantedFrom [.ref a0, .int p1] h (pm_sz r.2 - pm_sz h) (pm_us r.2 - pm_us h) Qr := by
  refine pm_body pnX1 (Nat.le_of_ble_eq_true rfl) (fun g C X => ?_)
  have C : pm_C g cX1_wantedFrom RX1 := C
  show pm_G g 0 [(0, .ref a0), (1, .int p1)] [] h 0 0
  unfold fX1_wantedFrom at hf
  exact pa_start (pm_sub [0, 1] rfl (bX1_wantedFrom_0 C X (pm_Le.rf h) hf q))
theorem dX5_callByTable_0 : decode cX5_callByTable 0 = .ok (.aload_n 0, 1) := by decide +kernel
theorem dX5_callByTable_1 : decode cX5_callByTable 1 = .ok (.getfield 51, 3) := by decide +kernel
theorem dX5_callByTable_4 : decode cX5_callByTable 4 = .ok (.getfield 193, 3) := by decide +kernel
theorem dX5_callByTable_7 : decode cX5_callByTable 7 = .ok (.getfield 221, 3) := by decide +kernel
theorem dX5_callByTable_10 : decode cX5_callByTable 10 = .ok (.iload_n 2, 1) := by decide +kernel
theorem dX5_callByTable_11 : decode cX5_callByTable 11 = .ok (.invokestatic 88, 3) := by decide +kernel
theorem dX5_callByTable_14 : decode cX5_callByTable 14 = .ok (.istore 6, 2) := by decide +kernel
theorem dX5_callByTable_16 : decode cX5_callByTable 16 = .ok (.aload_n 0, 1) := by decide +kernel
theorem dX5_callByTable_17 : decode cX5_callByTable 17 = .ok (.getfield 24, 3) := by decide +kernel
theorem dX5_callByTable_20 : decode cX5_callByTable 20 = .ok (.getfield 226, 3) := by decide +kernel
theorem dX5_callByTable_23 : decode cX5_callByTable 23 = .ok (.iload 6, 2) := by decide +kernel
theorem dX5_callByTable_25 : decode cX5_callByTable 25 = .ok (.lload_n 3, 1) := by decide +kernel
theorem dX5_callByTable_26 : decode cX5_callByTable 26 = .ok (.lconst 1, 1) := by decide +kernel
theorem dX5_callByTable_27 : decode cX5_callByTable 27 = .ok (.invokevirtual 229, 3) := by decide +kernel
theorem dX5_callByTable_30 : decode cX5_callByTable 30 = .ok (.ifCond .ne 10, 3) := by decide +kernel
theorem dX5_callByTable_33 : decode cX5_callByTable 33 = .ok (.aload_n 0, 1) := by decide +kernel
theorem dX5_callByTable_34 : decode cX5_callByTable 34 = .ok (.bipush 7, 2) := by decide +kernel
theorem dX5_callByTable_36 : decode cX5_callByTable 36 = .ok (.invokevirtual 81, 3) := by decide +kernel
theorem dX5_callByTable_39 : decode cX5_callByTable 39 = .ok (.return_, 1) := by decide +kernel
theorem dX5_callByTable_40 : decode cX5_callByTable 40 = .ok (.aload_n 0, 1) := by decide +kernel
theorem dX5_callByTable_41 : decode cX5_callByTable 41 = .ok (.getfield 24, 3) := by decide +kernel
theorem dX5_callByTable_44 : decode cX5_callByTable 44 = .ok (.getfield 226, 3) := by decide +kernel
theorem dX5_callByTable_47 : decode cX5_callByTable 47 = .ok (.iload 6, 2) := by decide +kernel
theorem dX5_callByTable_49 : decode cX5_callByTable 49 = .ok (.lload_n 3, 1) := by decide +kernel
theorem dX5_callByTable_50 : decode cX5_callByTable 50 = .ok (.invokevirtual 235, 3) := by decide +kernel
theorem dX5_callByTable_53 : decode cX5_callByTable 53 = .ok (.istore 7, 2) := by decide +kernel
theorem dX5_callByTable_55 : decode cX5_callByTable 55 = .ok (.iload 7, 2) := by decide +kernel
theorem dX5_callByTable_57 : decode cX5_callByTable 57 = .ok (.ifCond .ge 12, 3) := by decide +kernel
theorem dX5_callByTable_60 : decode cX5_callByTable 60 = .ok (.aload_n 0, 1) := by decide +kernel
theorem dX5_callByTable_61 : decode cX5_callByTable 61 = .ok (.bipush 8, 2) := by decide +kernel
theorem dX5_callByTable_63 : decode cX5_callByTable 63 = .ok (.invokevirtual 81, 3) := by decide +kernel
theorem dX5_callByTable_66 : decode cX5_callByTable 66 = .ok (.goto 49, 3) := by decide +kernel
theorem dX5_callByTable_69 : decode cX5_callByTable 69 = .ok (.aload_n 0, 1) := by decide +kernel
theorem dX5_callByTable_70 : decode cX5_callByTable 70 = .ok (.getfield 24, 3) := by decide +kernel
theorem dX5_callByTable_73 : decode cX5_callByTable 73 = .ok (.iload 7, 2) := by decide +kernel
theorem dX5_callByTable_75 : decode cX5_callByTable 75 = .ok (.invokevirtual 84, 3) := by decide +kernel
theorem dX5_callByTable_78 : decode cX5_callByTable 78 = .ok (.aload_n 0, 1) := by decide +kernel
theorem dX5_callByTable_79 : decode cX5_callByTable 79 = .ok (.getfield 51, 3) := by decide +kernel
theorem dX5_callByTable_82 : decode cX5_callByTable 82 = .ok (.getfield 193, 3) := by decide +kernel
theorem dX5_callByTable_85 : decode cX5_callByTable 85 = .ok (.getfield 239, 3) := by decide +kernel
theorem dX5_callByTable_88 : decode cX5_callByTable 88 = .ok (.iload_n 1, 1) := by decide +kernel
theorem dX5_callByTable_89 : decode cX5_callByTable 89 = .ok (.invokevirtual 243, 3) := by decide +kernel
theorem dX5_callByTable_92 : decode cX5_callByTable 92 = .ok (.invokestatic 247, 3) := by decide +kernel
theorem dX5_callByTable_95 : decode cX5_callByTable 95 = .ok (.ifCond .ne 12, 3) := by decide +kernel
theorem dX5_callByTable_98 : decode cX5_callByTable 98 = .ok (.aload_n 0, 1) := by decide +kernel
theorem dX5_callByTable_99 : decode cX5_callByTable 99 = .ok (.bipush 9, 2) := by decide +kernel
theorem dX5_callByTable_101 : decode cX5_callByTable 101 = .ok (.invokevirtual 81, 3) := by decide +kernel
theorem dX5_callByTable_104 : decode cX5_callByTable 104 = .ok (.goto 11, 3) := by decide +kernel
theorem dX5_callByTable_107 : decode cX5_callByTable 107 = .ok (.aload_n 0, 1) := by decide +kernel
theorem dX5_callByTable_108 : decode cX5_callByTable 108 = .ok (.iload 7, 2) := by decide +kernel
theorem dX5_callByTable_110 : decode cX5_callByTable 110 = .ok (.iload 5, 2) := by decide +kernel
theorem dX5_callByTable_112 : decode cX5_callByTable 112 = .ok (.invokevirtual 103, 3) := by decide +kernel
theorem dX5_callByTable_115 : decode cX5_callByTable 115 = .ok (.return_, 1) := by decide +kernel
noncomputable def fX5_callByTable_b92 (h : pm_H) (x0 : Nat) (x5 : Int32) (x7 : Int32) (s0 : Nat) (s1 : Nat) : Option pm_H := (fX10_isSameShape h s1 s0).bind fun v37 => if v37 = 0 then (if pm_kd h x0 = 5 then (fX5_fail h x0 9).bind fun v45 => some v45 else none) else (if pm_kd h x0 = 5 then (fX5_enter h x0 x7 x5).bind fun v41 => some v41 else none)
noncomputable def fX5_callByTable_b0 (h : pm_H) (x0 : Nat) (x1 : Int32) (x2 : Int32) (x3 : Int64) (x5 : Int32) : Option pm_H := if pm_kd h x0 = 5 then (pm_R h x0 12).bind fun v2 => if pm_kd h v2 = 3 then (pm_R h v2 0).bind fun v5 => if pm_kd h v5 = 4 then (pm_R h v5 2).bind fun v8 => (fX12_item h v8 x2).bind fun v10 => (pm_R h x0 8).bind fun v12 => if pm_kd h v12 = 10 then (pm_R h v12 4).bind fun v15 => if pm_kd h v15 = 11 then (fX11_reaches h v15 v10 x3 1).bind fun v18 => if v18 = 0 then ((fX5_fail h x0 7).bind fun v34 => some v34) else ((fX11_entry h v15 v10 x3).bind fun v21 => if 0 ≤ v21 then ((fX10_shapeOf h v12 v21).bind fun v24 => (pm_R h v5 0).bind fun v26 => if pm_kd h v26 = 7 then (fX7_shape h v26 x1).bind fun v29 => fX5_callByTable_b92 v29.2 x0 x5 v21 v29.1 v24 else none) else ((fX5_fail h x0 8).bind fun v31 => some v31)) else none else none else none else none else none
noncomputable def fX5_callByTable (h : pm_H) (a0 : Nat) (p1 : Int32) (p2 : Int32) (p3 : Int64) (p4 : Int32) : Option pm_H := fX5_callByTable_b0 h a0 p1 p2 p3 p4
set_option maxHeartbeats 4000000 in
set_option maxRecDepth 100000 in
theorem moX5_callByTable_b92 {h : pm_H} {x0 : Nat} {x5 : Int32} {x7 : Int32} {s0 : Nat} {s1 : Nat} {r : pm_H} (hf : fX5_callByTable_b92 h x0 x5 x7 s0 s1 = some r) : pm_Le h r := by
  unfold fX5_callByTable_b92 at hf
  have K0 := pm_S3.rf h
  obtain ⟨v37, e38, hf⟩ := pm_bd hf
  by_cases c39 : v37 = 0
  · have hf := pm_it hf c39
    obtain ⟨k40, hf⟩ := pm_if hf
    obtain ⟨v41, e42, hf⟩ := pm_bd hf
    have K43 := pm_S3.trans (kpX5_fail e42) K0
    have hf := Option.some.inj hf
    subst hf
    exact pm_S3.le K43
  · have hf := pm_ie hf c39
    obtain ⟨k44, hf⟩ := pm_if hf
    obtain ⟨v45, e46, hf⟩ := pm_bd hf
    have K47 := pm_S3.trans (kpX5_enter e46) K0
    have hf := Option.some.inj hf
    subst hf
    exact pm_S3.le K47
set_option maxHeartbeats 4000000 in
set_option maxRecDepth 100000 in
theorem moX5_callByTable_b0 {h : pm_H} {x0 : Nat} {x1 : Int32} {x2 : Int32} {x3 : Int64} {x5 : Int32} {r : pm_H} (hf : fX5_callByTable_b0 h x0 x1 x2 x3 x5 = some r) : pm_Le h r := by
  unfold fX5_callByTable_b0 at hf
  have K0 := pm_S3.rf h
  obtain ⟨k1, hf⟩ := pm_if hf
  obtain ⟨v2, e3, hf⟩ := pm_bd hf
  obtain ⟨k4, hf⟩ := pm_if hf
  obtain ⟨v5, e6, hf⟩ := pm_bd hf
  obtain ⟨k7, hf⟩ := pm_if hf
  obtain ⟨v8, e9, hf⟩ := pm_bd hf
  obtain ⟨v10, e11, hf⟩ := pm_bd hf
  obtain ⟨v12, e13, hf⟩ := pm_bd hf
  obtain ⟨k14, hf⟩ := pm_if hf
  obtain ⟨v15, e16, hf⟩ := pm_bd hf
  obtain ⟨k17, hf⟩ := pm_if hf
  obtain ⟨v18, e19, hf⟩ := pm_bd hf
  by_cases c20 : v18 = 0
  · have hf := pm_it hf c20
    obtain ⟨v21, e22, hf⟩ := pm_bd hf
    have K23 := pm_S3.trans (kpX5_fail e22) K0
    have hf := Option.some.inj hf
    subst hf
    exact pm_S3.le K23
  · have hf := pm_ie hf c20
    obtain ⟨v24, e25, hf⟩ := pm_bd hf
    by_cases c26 : 0 ≤ v24
    · have hf := pm_it hf c26
      obtain ⟨v27, e28, hf⟩ := pm_bd hf
      obtain ⟨v29, e30, hf⟩ := pm_bd hf
      obtain ⟨k31, hf⟩ := pm_if hf
      obtain ⟨v32, e33, hf⟩ := pm_bd hf
      exact ((pm_S3.le K0).trans (moX7_shape e33)).trans (moX5_callByTable_b92 hf)
    · have hf := pm_ie hf c26
      obtain ⟨v34, e35, hf⟩ := pm_bd hf
      have K36 := pm_S3.trans (kpX5_fail e35) K0
      have hf := Option.some.inj hf
      subst hf
      exact pm_S3.le K36
set_option maxHeartbeats 4000000 in
set_option maxRecDepth 100000 in
theorem moX5_callByTable {h : pm_H} {a0 : Nat} {p1 : Int32} {p2 : Int32} {p3 : Int64} {p4 : Int32} {r : pm_H} (hf : fX5_callByTable h a0 p1 p2 p3 p4 = some r) : pm_Le h r := by
  unfold fX5_callByTable at hf
  have K0 := pm_S3.rf h
  exact (pm_S3.le K0).trans (moX5_callByTable_b0 hf)
set_option maxHeartbeats 4000000 in
set_option maxRecDepth 100000 in
theorem bX5_callByTable_92 {g : pm_Gm} {l : Launch} {G : pm_Gl} {Qr : Option Value → pm_H → Prop} (C : pm_C g cX5_callByTable RX5) {h0 h : pm_H} {x0 : Nat} {x5 : Int32} {x7 : Int32} {s0 : Nat} {s1 : Nat} {r : pm_H} (X : pm_X g l G mX5_callByTable (pm_sz r - pm_sz h0) (pm_us r - pm_us h0) Qr) (m0 : pm_Le h0 h) (hf : fX5_callByTable_b92 h x0 x5 x7 s0 s1 = some r) (q : Qr none r) : pm_G g 92 [(0, .ref x0), (5, .int x5), (7, .int x7)] [.ref s0, .ref s1] h (pm_sz h - pm_sz h0) (pm_us h - pm_us h0) := by
  have le0 := moX5_callByTable_b92 hf
  have kc1 := Nat.sub_le_sub_right le0.1 (pm_sz h0)
  have kc2 := Nat.sub_le_sub_right le0.2 (pm_us h0)
  have K0 := pm_S3.rf h
  unfold fX5_callByTable_b92 at hf
  obtain ⟨v37, e38, hf⟩ := pm_bd hf
  refine pm_callS (as := [.ref s1, .ref s0]) (st := []) C X dX5_callByTable_92 lnX5_247 myX10_isSameShape stX10_isSameShape ⟨by decide, by decide⟩ rfl rfl (Nat.le_of_ble_eq_true rfl) kc1 kc2 (ctX10_isSameShape e38 ?_)
  show pm_G g 95 [(0, .ref x0), (5, .int x5), (7, .int x7)] [.int v37] h (pm_sz h - pm_sz h0) (pm_us h - pm_us h0)
  refine pm_if_ne (tgt := 107) C dX5_callByTable_95 (by decide) (fun c39 => ?_) (fun c39 => ?_)
  · have hf := pm_ie hf c39
    refine pm_aload_n C dX5_callByTable_107 rfl rfl ?_
    refine pm_iload C dX5_callByTable_108 rfl ?_
    refine pm_iload C dX5_callByTable_110 rfl ?_
    obtain ⟨k40, hf⟩ := pm_if hf
    obtain ⟨v41, e42, hf⟩ := pm_bd hf
    refine pm_callV (as := [.int x7, .int x5]) (st := []) C X dX5_callByTable_112 lnX5_103 myX5_enter viX5_enter ⟨by decide, by decide⟩ rfl rfl k40 (Nat.le_of_ble_eq_true rfl) kc1 kc2 (ctX5_enter e42 ?_)
    have K43 := pm_S3.trans (kpX5_enter e42) K0
    show pm_G g 115 [(0, .ref x0), (5, .int x5), (7, .int x7)] [] v41 (pm_sz h - pm_sz h0) (pm_us h - pm_us h0)
    have hf := Option.some.inj hf
    subst hf
    exact pm_vret C X dX5_callByTable_115 rfl kc1 kc2 q
  · have hf := pm_it hf c39
    refine pm_aload_n C dX5_callByTable_98 rfl rfl ?_
    refine pm_bipush (v := 9) C dX5_callByTable_99 (by decide) ?_
    obtain ⟨k44, hf⟩ := pm_if hf
    obtain ⟨v45, e46, hf⟩ := pm_bd hf
    refine pm_callV (as := [.int 9]) (st := []) C X dX5_callByTable_101 lnX5_81 myX5_fail viX5_fail ⟨by decide, by decide⟩ rfl rfl k44 (Nat.le_of_ble_eq_true rfl) kc1 kc2 (ctX5_fail e46 ?_)
    have K47 := pm_S3.trans (kpX5_fail e46) K0
    show pm_G g 104 [(0, .ref x0), (5, .int x5), (7, .int x7)] [] v45 (pm_sz h - pm_sz h0) (pm_us h - pm_us h0)
    refine pm_goto (tgt := 115) C dX5_callByTable_104 (by decide) ?_
    have hf := Option.some.inj hf
    subst hf
    exact pm_vret C X dX5_callByTable_115 rfl kc1 kc2 q
set_option maxHeartbeats 4000000 in
set_option maxRecDepth 100000 in
theorem bX5_callByTable_0 {g : pm_Gm} {l : Launch} {G : pm_Gl} {Qr : Option Value → pm_H → Prop} (C : pm_C g cX5_callByTable RX5) {h0 h : pm_H} {x0 : Nat} {x1 : Int32} {x2 : Int32} {x3 : Int64} {x5 : Int32} {r : pm_H} (X : pm_X g l G mX5_callByTable (pm_sz r - pm_sz h0) (pm_us r - pm_us h0) Qr) (m0 : pm_Le h0 h) (hf : fX5_callByTable_b0 h x0 x1 x2 x3 x5 = some r) (q : Qr none r) : pm_G g 0 [(0, .ref x0), (1, .int x1), (2, .int x2), (3, .long x3), (5, .int x5)] [] h (pm_sz h - pm_sz h0) (pm_us h - pm_us h0) := by
  have le0 := moX5_callByTable_b0 hf
  have kc1 := Nat.sub_le_sub_right le0.1 (pm_sz h0)
  have kc2 := Nat.sub_le_sub_right le0.2 (pm_us h0)
  have K0 := pm_S3.rf h
  unfold fX5_callByTable_b0 at hf
  refine pm_aload_n C dX5_callByTable_0 rfl rfl ?_
  obtain ⟨k1, hf⟩ := pm_if hf
  obtain ⟨v2, e3, hf⟩ := pm_bd hf
  refine pm_getR C dX5_callByTable_1 flX5_51 rfl k1 e3 ?_
  obtain ⟨k4, hf⟩ := pm_if hf
  obtain ⟨v5, e6, hf⟩ := pm_bd hf
  refine pm_getR C dX5_callByTable_4 flX5_193 rfl k4 e6 ?_
  obtain ⟨k7, hf⟩ := pm_if hf
  obtain ⟨v8, e9, hf⟩ := pm_bd hf
  refine pm_getR C dX5_callByTable_7 flX5_221 rfl k7 e9 ?_
  refine pm_iload_n C dX5_callByTable_10 rfl rfl ?_
  obtain ⟨v10, e11, hf⟩ := pm_bd hf
  refine pm_callS (as := [.ref v8, .int x2]) (st := []) C X dX5_callByTable_11 lnX5_88 myX12_item stX12_item ⟨by decide, by decide⟩ rfl rfl (Nat.le_of_ble_eq_true rfl) kc1 kc2 (ctX12_item e11 ?_)
  show pm_G g 14 [(0, .ref x0), (1, .int x1), (2, .int x2), (3, .long x3), (5, .int x5)] [.int v10] h (pm_sz h - pm_sz h0) (pm_us h - pm_us h0)
  refine pm_istore (lv' := [(6, .int v10), (0, .ref x0), (1, .int x1), (2, .int x2), (3, .long x3), (5, .int x5)]) C dX5_callByTable_14 (pm_nl X (by decide)) rfl ?_
  refine pm_aload_n C dX5_callByTable_16 rfl rfl ?_
  obtain ⟨v12, e13, hf⟩ := pm_bd hf
  refine pm_getR C dX5_callByTable_17 flX5_24 rfl k1 e13 ?_
  obtain ⟨k14, hf⟩ := pm_if hf
  obtain ⟨v15, e16, hf⟩ := pm_bd hf
  refine pm_getR C dX5_callByTable_20 flX5_226 rfl k14 e16 ?_
  refine pm_iload C dX5_callByTable_23 rfl ?_
  refine pm_lload_n C dX5_callByTable_25 rfl rfl ?_
  refine pm_lconst (v := 1) C dX5_callByTable_26 (by decide) ?_
  obtain ⟨k17, hf⟩ := pm_if hf
  obtain ⟨v18, e19, hf⟩ := pm_bd hf
  refine pm_callV (as := [.int v10, .long x3, .long 1]) (st := []) C X dX5_callByTable_27 lnX5_229 myX11_reaches viX11_reaches ⟨by decide, by decide⟩ rfl rfl k17 (Nat.le_of_ble_eq_true rfl) kc1 kc2 (ctX11_reaches e19 ?_)
  show pm_G g 30 [(6, .int v10), (0, .ref x0), (1, .int x1), (2, .int x2), (3, .long x3), (5, .int x5)] [.int v18] h (pm_sz h - pm_sz h0) (pm_us h - pm_us h0)
  refine pm_if_ne (tgt := 40) C dX5_callByTable_30 (by decide) (fun c20 => ?_) (fun c20 => ?_)
  · have hf := pm_ie hf c20
    refine pm_aload_n C dX5_callByTable_40 rfl rfl ?_
    refine pm_getR C dX5_callByTable_41 flX5_24 rfl k1 e13 ?_
    refine pm_getR C dX5_callByTable_44 flX5_226 rfl k14 e16 ?_
    refine pm_iload C dX5_callByTable_47 rfl ?_
    refine pm_lload_n C dX5_callByTable_49 rfl rfl ?_
    obtain ⟨v21, e22, hf⟩ := pm_bd hf
    refine pm_callV (as := [.int v10, .long x3]) (st := []) C X dX5_callByTable_50 lnX5_235 myX11_entry viX11_entry ⟨by decide, by decide⟩ rfl rfl k17 (Nat.le_of_ble_eq_true rfl) kc1 kc2 (ctX11_entry e22 ?_)
    show pm_G g 53 [(6, .int v10), (0, .ref x0), (1, .int x1), (2, .int x2), (3, .long x3), (5, .int x5)] [.int v21] h (pm_sz h - pm_sz h0) (pm_us h - pm_us h0)
    refine pm_istore (lv' := [(7, .int v21), (6, .int v10), (0, .ref x0), (1, .int x1), (2, .int x2), (3, .long x3), (5, .int x5)]) C dX5_callByTable_53 (pm_nl X (by decide)) rfl ?_
    refine pm_iload C dX5_callByTable_55 rfl ?_
    refine pm_if_ge (tgt := 69) C dX5_callByTable_57 (by decide) (fun c23 => ?_) (fun c23 => ?_)
    · have hf := pm_it hf c23
      refine pm_aload_n C dX5_callByTable_69 rfl rfl ?_
      refine pm_getR C dX5_callByTable_70 flX5_24 rfl k1 e13 ?_
      refine pm_iload C dX5_callByTable_73 rfl ?_
      obtain ⟨v24, e25, hf⟩ := pm_bd hf
      refine pm_callV (as := [.int v21]) (st := []) C X dX5_callByTable_75 lnX5_84 myX10_shapeOf viX10_shapeOf ⟨by decide, by decide⟩ rfl rfl k14 (Nat.le_of_ble_eq_true rfl) kc1 kc2 (ctX10_shapeOf e25 ?_)
      show pm_G g 78 [(7, .int v21), (6, .int v10), (0, .ref x0), (1, .int x1), (2, .int x2), (3, .long x3), (5, .int x5)] [.ref v24] h (pm_sz h - pm_sz h0) (pm_us h - pm_us h0)
      refine pm_aload_n C dX5_callByTable_78 rfl rfl ?_
      refine pm_getR C dX5_callByTable_79 flX5_51 rfl k1 e3 ?_
      refine pm_getR C dX5_callByTable_82 flX5_193 rfl k4 e6 ?_
      obtain ⟨v26, e27, hf⟩ := pm_bd hf
      refine pm_getR C dX5_callByTable_85 flX5_239 rfl k7 e27 ?_
      refine pm_iload_n C dX5_callByTable_88 rfl rfl ?_
      obtain ⟨k28, hf⟩ := pm_if hf
      obtain ⟨v29, e30, hf⟩ := pm_bd hf
      refine pm_callV (as := [.int x1]) (st := [.ref v24]) C X dX5_callByTable_89 lnX5_243 myX7_shape viX7_shape ⟨by decide, by decide⟩ rfl rfl k28 (Nat.le_of_ble_eq_true rfl) (pa_le1 K0 m0 (moX7_shape e30) (moX5_callByTable_b92 hf)) (pa_le2 K0 m0 (moX7_shape e30) (moX5_callByTable_b92 hf)) (ctX7_shape e30 ?_)
      show pm_G g 92 [(7, .int v21), (6, .int v10), (0, .ref x0), (1, .int x1), (2, .int x2), (3, .long x3), (5, .int x5)] [.ref v29.1, .ref v24] v29.2 (pm_sz h - pm_sz h0 + (pm_sz v29.2 - pm_sz h)) (pm_us h - pm_us h0 + (pm_us v29.2 - pm_us h))
      refine pa_fin K0 m0 (moX7_shape e30) ?_
      exact pm_sub [2, 6, 0] rfl (bX5_callByTable_92 C X ((m0.trans (pm_S3.le K0)).trans (moX7_shape e30)) hf q)
    · have hf := pm_ie hf c23
      refine pm_aload_n C dX5_callByTable_60 rfl rfl ?_
      refine pm_bipush (v := 8) C dX5_callByTable_61 (by decide) ?_
      obtain ⟨v31, e32, hf⟩ := pm_bd hf
      refine pm_callV (as := [.int 8]) (st := []) C X dX5_callByTable_63 lnX5_81 myX5_fail viX5_fail ⟨by decide, by decide⟩ rfl rfl k1 (Nat.le_of_ble_eq_true rfl) kc1 kc2 (ctX5_fail e32 ?_)
      have K33 := pm_S3.trans (kpX5_fail e32) K0
      show pm_G g 66 [(7, .int v21), (6, .int v10), (0, .ref x0), (1, .int x1), (2, .int x2), (3, .long x3), (5, .int x5)] [] v31 (pm_sz h - pm_sz h0) (pm_us h - pm_us h0)
      refine pm_goto (tgt := 115) C dX5_callByTable_66 (by decide) ?_
      have hf := Option.some.inj hf
      subst hf
      exact pm_vret C X dX5_callByTable_115 rfl kc1 kc2 q
  · have hf := pm_it hf c20
    refine pm_aload_n C dX5_callByTable_33 rfl rfl ?_
    refine pm_bipush (v := 7) C dX5_callByTable_34 (by decide) ?_
    obtain ⟨v34, e35, hf⟩ := pm_bd hf
    refine pm_callV (as := [.int 7]) (st := []) C X dX5_callByTable_36 lnX5_81 myX5_fail viX5_fail ⟨by decide, by decide⟩ rfl rfl k1 (Nat.le_of_ble_eq_true rfl) kc1 kc2 (ctX5_fail e35 ?_)
    have K36 := pm_S3.trans (kpX5_fail e35) K0
    show pm_G g 39 [(6, .int v10), (0, .ref x0), (1, .int x1), (2, .int x2), (3, .long x3), (5, .int x5)] [] v34 (pm_sz h - pm_sz h0) (pm_us h - pm_us h0)
    have hf := Option.some.inj hf
    subst hf
    exact pm_vret C X dX5_callByTable_39 rfl kc1 kc2 q
set_option maxHeartbeats 4000000 in
set_option maxRecDepth 100000 in
theorem ctX5_callByTable {l : Launch} {G : pm_Gl} {h : pm_H} {a0 : Nat} {p1 : Int32} {p2 : Int32} {p3 : Int64} {p4 : Int32} {r : pm_H} {Qr : Option Value → pm_H → Prop} (hf : fX5_callByTable h a0 p1 p2 p3 p4 = some r) (q : Qr none r) : pm_Ct l G mX5_callByTable [.ref a0, .int p1, .int p2, .long p3, .int p4] h (pm_sz r - pm_sz h) (pm_us r - pm_us h) Qr := by
  refine pm_body pnX5 (Nat.le_of_ble_eq_true rfl) (fun g C X => ?_)
  have C : pm_C g cX5_callByTable RX5 := C
  show pm_G g 0 [(0, .ref a0), (1, .int p1), (2, .int p2), (3, .long p3), (5, .int p4)] [] h 0 0
  unfold fX5_callByTable at hf
  exact pa_start (pm_sub [0, 1, 2, 3, 4] rfl (bX5_callByTable_0 C X (pm_Le.rf h) hf q))
