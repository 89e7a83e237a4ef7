theorem dJ7_copyOf_59c91_0 : decode cJ7_copyOf_59c91 0 = .ok (.iload_n 1, 1) := by decide +kernel
theorem dJ7_copyOf_59c91_1 : decode cJ7_copyOf_59c91 1 = .ok (.aload_n 0, 1) := by decide +kernel
theorem dJ7_copyOf_59c91_2 : decode cJ7_copyOf_59c91 2 = .ok (.arraylength, 1) := by decide +kernel
theorem dJ7_copyOf_59c91_3 : decode cJ7_copyOf_59c91 3 = .ok (.if_icmp .ne 11, 3) := by decide +kernel
theorem dJ7_copyOf_59c91_6 : decode cJ7_copyOf_59c91 6 = .ok (.aload_n 0, 1) := by decide +kernel
theorem dJ7_copyOf_59c91_7 : decode cJ7_copyOf_59c91 7 = .ok (.invokevirtual 316, 3) := by decide +kernel
theorem dJ7_copyOf_59c91_10 : decode cJ7_copyOf_59c91 10 = .ok (.checkcast 317, 3) := by decide +kernel
theorem dJ7_copyOf_59c91_13 : decode cJ7_copyOf_59c91 13 = .ok (.areturn, 1) := by decide +kernel
theorem dJ7_copyOf_59c91_14 : decode cJ7_copyOf_59c91 14 = .ok (.iload_n 1, 1) := by decide +kernel
theorem dJ7_copyOf_59c91_15 : decode cJ7_copyOf_59c91 15 = .ok (.newarray .int, 2) := by decide +kernel
theorem dJ7_copyOf_59c91_17 : decode cJ7_copyOf_59c91 17 = .ok (.astore_n 2, 1) := by decide +kernel
theorem dJ7_copyOf_59c91_18 : decode cJ7_copyOf_59c91 18 = .ok (.aload_n 0, 1) := by decide +kernel
theorem dJ7_copyOf_59c91_19 : decode cJ7_copyOf_59c91 19 = .ok (.iconst 0, 1) := by decide +kernel
theorem dJ7_copyOf_59c91_20 : decode cJ7_copyOf_59c91 20 = .ok (.aload_n 2, 1) := by decide +kernel
theorem dJ7_copyOf_59c91_21 : decode cJ7_copyOf_59c91 21 = .ok (.iconst 0, 1) := by decide +kernel
theorem dJ7_copyOf_59c91_22 : decode cJ7_copyOf_59c91 22 = .ok (.aload_n 0, 1) := by decide +kernel
theorem dJ7_copyOf_59c91_23 : decode cJ7_copyOf_59c91 23 = .ok (.arraylength, 1) := by decide +kernel
theorem dJ7_copyOf_59c91_24 : decode cJ7_copyOf_59c91 24 = .ok (.iload_n 1, 1) := by decide +kernel
theorem dJ7_copyOf_59c91_25 : decode cJ7_copyOf_59c91 25 = .ok (.invokestatic 304, 3) := by decide +kernel
theorem dJ7_copyOf_59c91_28 : decode cJ7_copyOf_59c91 28 = .ok (.invokestatic 150, 3) := by decide +kernel
theorem dJ7_copyOf_59c91_31 : decode cJ7_copyOf_59c91 31 = .ok (.aload_n 2, 1) := by decide +kernel
theorem dJ7_copyOf_59c91_32 : decode cJ7_copyOf_59c91 32 = .ok (.areturn, 1) := by decide +kernel
def fJ7_copyOf_59c91_b10 (h : pm_H) (s0 : Nat) : Option (Nat × pm_H) := if pm_kd h s0 = 34 then some ((s0, h)) else none
def fJ7_copyOf_59c91_b17 (h : pm_H) (x0 : Nat) (x1 : Int32) (s0 : Nat) : Option (Nat × pm_H) := if pm_kd h x0 = 34 then if pm_kd h s0 = 34 then if ¬ (0 : Int32) < 0 ∧ ¬ (0 : Int32) < 0 ∧ ¬ ((if x1 < (Int32.ofNat (pm_ln h x0)) then x1 else (Int32.ofNat (pm_ln h x0)))) < 0 ∧ (0 : Int32).toNatClampNeg + ((if x1 < (Int32.ofNat (pm_ln h x0)) then x1 else (Int32.ofNat (pm_ln h x0)))).toNatClampNeg ≤ pm_ln h x0 ∧ (0 : Int32).toNatClampNeg + ((if x1 < (Int32.ofNat (pm_ln h x0)) then x1 else (Int32.ofNat (pm_ln h x0)))).toNatClampNeg ≤ pm_ln h s0 then some ((s0, pm_cpI h x0 ((0 : Int32).toNatClampNeg) s0 ((0 : Int32).toNatClampNeg) (((if x1 < (Int32.ofNat (pm_ln h x0)) then x1 else (Int32.ofNat (pm_ln h x0)))).toNatClampNeg))) else none else none else none
def fJ7_copyOf_59c91_b0 (h : pm_H) (x0 : Nat) (x1 : Int32) : Option (Nat × pm_H) := if pm_kd h x0 = 34 then if x1 = (Int32.ofNat (pm_ln h x0)) then (fJ7_copyOf_59c91_b10 (pm_cl h x0 2) (pm_sz h)) else (if ¬ x1 < 0 ∧ x1.toNatClampNeg * 4 ≤ 536870912 then fJ7_copyOf_59c91_b17 (pm_new h 34 x1.toNatClampNeg) x0 x1 (pm_sz h) else none) else none
def fJ7_copyOf_59c91 (h : pm_H) (p1 : Nat) (p2 : Int32) : Option (Nat × pm_H) := fJ7_copyOf_59c91_b0 h p1 p2
set_option maxHeartbeats 4000000 in
set_option maxRecDepth 100000 in
theorem moJ7_copyOf_59c91_b10 {h : pm_H} {s0 : Nat} {r : (Nat × pm_H)} (hf : fJ7_copyOf_59c91_b10 h s0 = some r) : pm_Le h r.2 := by
  unfold fJ7_copyOf_59c91_b10 at hf
  have K0 := pm_S3.rf h
  obtain ⟨k4, hf⟩ := pm_if hf
  have hf := Option.some.inj hf
  subst hf
  exact pm_S3.le K0
set_option maxHeartbeats 4000000 in
set_option maxRecDepth 100000 in
theorem moJ7_copyOf_59c91_b17 {h : pm_H} {x0 : Nat} {x1 : Int32} {s0 : Nat} {r : (Nat × pm_H)} (hf : fJ7_copyOf_59c91_b17 h x0 x1 s0 = some r) : pm_Le h r.2 := by
  unfold fJ7_copyOf_59c91_b17 at hf
  have K0 := pm_S3.rf h
  obtain ⟨k5, hf⟩ := pm_if hf
  obtain ⟨k6, hf⟩ := pm_if hf
  obtain ⟨u7, hf⟩ := pm_if hf
  have hf := Option.some.inj hf
  subst hf
  exact pm_S3.le (pm_S3CI K0)
set_option maxHeartbeats 4000000 in
set_option maxRecDepth 100000 in
theorem moJ7_copyOf_59c91_b0 {h : pm_H} {x0 : Nat} {x1 : Int32} {r : (Nat × pm_H)} (hf : fJ7_copyOf_59c91_b0 h x0 x1 = some r) : pm_Le h r.2 := by
  unfold fJ7_copyOf_59c91_b0 at hf
  have K0 := pm_S3.rf h
  obtain ⟨k1, hf⟩ := pm_if hf
  by_cases c2 : x1 = (Int32.ofNat (pm_ln h x0))
  · have hf := pm_it hf c2
    exact ((pm_S3.le K0).trans (pm_Le_cl _ _ _)).trans (moJ7_copyOf_59c91_b10 hf)
  · have hf := pm_ie hf c2
    obtain ⟨u3, hf⟩ := pm_if hf
    exact ((pm_S3.le K0).trans (pm_Le_new _ _ _)).trans (moJ7_copyOf_59c91_b17 hf)
set_option maxHeartbeats 4000000 in
set_option maxRecDepth 100000 in
theorem moJ7_copyOf_59c91 {h : pm_H} {p1 : Nat} {p2 : Int32} {r : (Nat × pm_H)} (hf : fJ7_copyOf_59c91 h p1 p2 = some r) : pm_Le h r.2 := by
  unfold fJ7_copyOf_59c91 at hf
  have K0 := pm_S3.rf h
  exact (pm_S3.le K0).trans (moJ7_copyOf_59c91_b0 hf)
set_option maxHeartbeats 4000000 in
set_option maxRecDepth 100000 in
theorem bJ7_copyOf_59c91_10 {g : pm_Gm} {l : Launch} {G : pm_Gl} {Qr : Option Value → pm_H → Prop} (C : pm_C g cJ7_copyOf_59c91 RJ7) {h0 h : pm_H} {s0 : Nat} {r : (Nat × pm_H)} (X : pm_X g l G mJ7_copyOf_59c91 (pm_sz r.2 - pm_sz h0) (pm_us r.2 - pm_us h0) Qr) (m0 : pm_Le h0 h) (hf : fJ7_copyOf_59c91_b10 h s0 = some r) (q : Qr (some (.ref r.1)) r.2) : pm_G g 10 [] [.ref s0] h (pm_sz h - pm_sz h0) (pm_us h - pm_us h0) := by
  have le0 := moJ7_copyOf_59c91_b10 hf
  have kc1 := Nat.sub_le_sub_right le0.1 (pm_sz h0)
  have kc2 := Nat.sub_le_sub_right le0.2 (pm_us h0)
  have K0 := pm_S3.rf h
  unfold fJ7_copyOf_59c91_b10 at hf
  obtain ⟨k7, hf⟩ := pm_if hf
  refine pm_castA (t := 2) C dJ7_copyOf_59c91_10 caJ7_317 (Or.inr (Or.inl rfl)) k7 ?_
  have hf := Option.some.inj hf
  subst hf
  exact pm_aret C X dJ7_copyOf_59c91_13 rfl (Or.inr ⟨_, rfl⟩) kc1 kc2 q
set_option maxHeartbeats 4000000 in
set_option maxRecDepth 100000 in
theorem bJ7_copyOf_59c91_17 {g : pm_Gm} {l : Launch} {G : pm_Gl} {Qr : Option Value → pm_H → Prop} (C : pm_C g cJ7_copyOf_59c91 RJ7) {h0 h : pm_H} {x0 : Nat} {x1 : Int32} {s0 : Nat} {r : (Nat × pm_H)} (X : pm_X g l G mJ7_copyOf_59c91 (pm_sz r.2 - pm_sz h0) (pm_us r.2 - pm_us h0) Qr) (m0 : pm_Le h0 h) (hf : fJ7_copyOf_59c91_b17 h x0 x1 s0 = some r) (q : Qr (some (.ref r.1)) r.2) : pm_G g 17 [(0, .ref x0), (1, .int x1)] [.ref s0] h (pm_sz h - pm_sz h0) (pm_us h - pm_us h0) := by
  have le0 := moJ7_copyOf_59c91_b17 hf
  have kc1 := Nat.sub_le_sub_right le0.1 (pm_sz h0)
  have kc2 := Nat.sub_le_sub_right le0.2 (pm_us h0)
  have K0 := pm_S3.rf h
  unfold fJ7_copyOf_59c91_b17 at hf
  refine pm_astore_n (lv' := [(2, .ref s0), (0, .ref x0), (1, .int x1)]) C dJ7_copyOf_59c91_17 rfl (pm_nl X (by decide)) rfl ?_
  refine pm_aload_n C dJ7_copyOf_59c91_18 rfl rfl ?_
  refine pm_iconst (v := 0) C dJ7_copyOf_59c91_19 (by decide) ?_
  refine pm_aload_n C dJ7_copyOf_59c91_20 rfl rfl ?_
  refine pm_iconst (v := 0) C dJ7_copyOf_59c91_21 (by decide) ?_
  refine pm_aload_n C dJ7_copyOf_59c91_22 rfl rfl ?_
  obtain ⟨k4, hf⟩ := pm_if hf
  refine pm_alen (t := 2) C dJ7_copyOf_59c91_23 (by decide) k4 rfl ?_
  refine pm_iload_n C dJ7_copyOf_59c91_24 rfl rfl ?_
  refine pm_mminI C (pm_XR X) dJ7_copyOf_59c91_25 mtJ7_304 (by decide) (by decide) (Nat.le_of_ble_eq_true rfl) kc1 kc2 ?_
  obtain ⟨k5, hf⟩ := pm_if hf
  obtain ⟨u6, hf⟩ := pm_if hf
  refine pm_copyI (t := 2) C (pm_XR X) dJ7_copyOf_59c91_28 acJ7_150 (Or.inr (Or.inr rfl)) k4 k5 u6.1 u6.2.1 u6.2.2.1 u6.2.2.2.1 u6.2.2.2.2 (fun _ _ => rfl) (by decide) (by decide) (Nat.le_of_ble_eq_true rfl) ?_
  refine pm_aload_n C dJ7_copyOf_59c91_31 rfl rfl ?_
  have hf := Option.some.inj hf
  subst hf
  exact pm_aret C X dJ7_copyOf_59c91_32 rfl (Or.inr ⟨_, rfl⟩) kc1 kc2 q
set_option maxHeartbeats 4000000 in
set_option maxRecDepth 100000 in
theorem bJ7_copyOf_59c91_0 {g : pm_Gm} {l : Launch} {G : pm_Gl} {Qr : Option Value → pm_H → Prop} (C : pm_C g cJ7_copyOf_59c91 RJ7) {h0 h : pm_H} {x0 : Nat} {x1 : Int32} {r : (Nat × pm_H)} (X : pm_X g l G mJ7_copyOf_59c91 (pm_sz r.2 - pm_sz h0) (pm_us r.2 - pm_us h0) Qr) (m0 : pm_Le h0 h) (hf : fJ7_copyOf_59c91_b0 h x0 x1 = some r) (q : Qr (some (.ref r.1)) r.2) : pm_G g 0 [(0, .ref x0), (1, .int x1)] [] h (pm_sz h - pm_sz h0) (pm_us h - pm_us h0) := by
  have le0 := moJ7_copyOf_59c91_b0 hf
  have kc1 := Nat.sub_le_sub_right le0.1 (pm_sz h0)
  have kc2 := Nat.sub_le_sub_right le0.2 (pm_us h0)
  have K0 := pm_S3.rf h
  unfold fJ7_copyOf_59c91_b0 at hf
  refine pm_iload_n C dJ7_copyOf_59c91_0 rfl rfl ?_
  refine pm_aload_n C dJ7_copyOf_59c91_1 rfl rfl ?_
  obtain ⟨k1, hf⟩ := pm_if hf
  refine pm_alen (t := 2) C dJ7_copyOf_59c91_2 (by decide) k1 rfl ?_
  refine pm_icmp_ne (tgt := 14) C dJ7_copyOf_59c91_3 (by decide) (fun c2 => ?_) (fun c2 => ?_)
  · have hf := pm_ie hf c2
    refine pm_iload_n C dJ7_copyOf_59c91_14 rfl rfl ?_
    obtain ⟨u3, hf⟩ := pm_if hf
    refine pa_newa (hb := h) (h0 := h0) (t := 2) (N := x1.toNatClampNeg) C X K0 m0 dJ7_copyOf_59c91_15 (by decide) rfl al2 u3.1 rfl u3.2 (moJ7_copyOf_59c91_b17 hf) ?_
    exact pm_sub [0, 1] rfl (bJ7_copyOf_59c91_17 C X ((m0.trans (pm_S3.le K0)).trans (pm_Le_new _ _ _)) hf q)
  · have hf := pm_it hf c2
    refine pm_aload_n C dJ7_copyOf_59c91_6 rfl rfl ?_
    refine pa_clone (hb := h) (h0 := h0) (t := 2) C X K0 m0 dJ7_copyOf_59c91_7 cwJ7_316 (Or.inr (Or.inl rfl)) k1 (fun _ _ => Or.inl rfl) (by decide) (by decide) (Nat.le_of_ble_eq_true rfl) (moJ7_copyOf_59c91_b10 hf) ?_
    exact pm_sub [] rfl (bJ7_copyOf_59c91_10 C X ((m0.trans (pm_S3.le K0)).trans (pm_Le_cl _ _ _)) hf q)
set_option maxHeartbeats 4000000 in
set_option maxRecDepth 100000 in
theorem ctJ7_copyOf_59c91 {l : Launch} {G : pm_Gl} {h : pm_H} {p1 : Nat} {p2 : Int32} {r : (Nat × pm_H)} {Qr : Option Value → pm_H → Prop} (hf : fJ7_copyOf_59c91 h p1 p2 = some r) (q : Qr (some (.ref r.1)) r.2) : pm_Ct l G mJ7_copyOf_59c91 [.ref p1, .int p2] h (pm_sz r.2 - pm_sz h) (pm_us r.2 - pm_us h) Qr := by
  refine pm_body pnJ7 (Nat.le_of_ble_eq_true rfl) (fun g C X => ?_)
  have C : pm_C g cJ7_copyOf_59c91 RJ7 := C
  show pm_G g 0 [(0, .ref p1), (1, .int p2)] [] h 0 0
  unfold fJ7_copyOf_59c91 at hf
  exact pa_start (pm_sub [0, 1] rfl (bJ7_copyOf_59c91_0 C X (pm_Le.rf h) hf q))
theorem dJ7_copyOf_9075b_0 : decode cJ7_copyOf_9075b 0 = .ok (.iload_n 1, 1) := by decide +kernel
theorem dJ7_copyOf_9075b_1 : decode cJ7_copyOf_9075b 1 = .ok (.aload_n 0, 1) := by decide +kernel
theorem dJ7_copyOf_9075b_2 : decode cJ7_copyOf_9075b 2 = .ok (.arraylength, 1) := by decide +kernel
theorem dJ7_copyOf_9075b_3 : decode cJ7_copyOf_9075b 3 = .ok (.if_icmp .ne 11, 3) := by decide +kernel
theorem dJ7_copyOf_9075b_6 : decode cJ7_copyOf_9075b 6 = .ok (.aload_n 0, 1) := by decide +kernel
theorem dJ7_copyOf_9075b_7 : decode cJ7_copyOf_9075b 7 = .ok (.invokevirtual 310, 3) := by decide +kernel
theorem dJ7_copyOf_9075b_10 : decode cJ7_copyOf_9075b 10 = .ok (.checkcast 311, 3) := by decide +kernel
theorem dJ7_copyOf_9075b_13 : decode cJ7_copyOf_9075b 13 = .ok (.areturn, 1) := by decide +kernel
theorem dJ7_copyOf_9075b_14 : decode cJ7_copyOf_9075b 14 = .ok (.iload_n 1, 1) := by decide +kernel
theorem dJ7_copyOf_9075b_15 : decode cJ7_copyOf_9075b 15 = .ok (.newarray .byte, 2) := by decide +kernel
theorem dJ7_copyOf_9075b_17 : decode cJ7_copyOf_9075b 17 = .ok (.astore_n 2, 1) := by decide +kernel
theorem dJ7_copyOf_9075b_18 : decode cJ7_copyOf_9075b 18 = .ok (.aload_n 0, 1) := by decide +kernel
theorem dJ7_copyOf_9075b_19 : decode cJ7_copyOf_9075b 19 = .ok (.iconst 0, 1) := by decide +kernel
theorem dJ7_copyOf_9075b_20 : decode cJ7_copyOf_9075b 20 = .ok (.aload_n 2, 1) := by decide +kernel
theorem dJ7_copyOf_9075b_21 : decode cJ7_copyOf_9075b 21 = .ok (.iconst 0, 1) := by decide +kernel
theorem dJ7_copyOf_9075b_22 : decode cJ7_copyOf_9075b 22 = .ok (.aload_n 0, 1) := by decide +kernel
theorem dJ7_copyOf_9075b_23 : decode cJ7_copyOf_9075b 23 = .ok (.arraylength, 1) := by decide +kernel
theorem dJ7_copyOf_9075b_24 : decode cJ7_copyOf_9075b 24 = .ok (.iload_n 1, 1) := by decide +kernel
theorem dJ7_copyOf_9075b_25 : decode cJ7_copyOf_9075b 25 = .ok (.invokestatic 304, 3) := by decide +kernel
theorem dJ7_copyOf_9075b_28 : decode cJ7_copyOf_9075b 28 = .ok (.invokestatic 150, 3) := by decide +kernel
theorem dJ7_copyOf_9075b_31 : decode cJ7_copyOf_9075b 31 = .ok (.aload_n 2, 1) := by decide +kernel
theorem dJ7_copyOf_9075b_32 : decode cJ7_copyOf_9075b 32 = .ok (.areturn, 1) := by decide +kernel
def fJ7_copyOf_9075b_b10 (h : pm_H) (s0 : Nat) : Option (Nat × pm_H) := if pm_kd h s0 = 33 then some ((s0, h)) else none
def fJ7_copyOf_9075b_b17 (h : pm_H) (x0 : Nat) (x1 : Int32) (s0 : Nat) : Option (Nat × pm_H) := if pm_kd h x0 = 33 then if pm_kd h s0 = 33 then if ¬ (0 : Int32) < 0 ∧ ¬ (0 : Int32) < 0 ∧ ¬ ((if x1 < (Int32.ofNat (pm_ln h x0)) then x1 else (Int32.ofNat (pm_ln h x0)))) < 0 ∧ (0 : Int32).toNatClampNeg + ((if x1 < (Int32.ofNat (pm_ln h x0)) then x1 else (Int32.ofNat (pm_ln h x0)))).toNatClampNeg ≤ pm_ln h x0 ∧ (0 : Int32).toNatClampNeg + ((if x1 < (Int32.ofNat (pm_ln h x0)) then x1 else (Int32.ofNat (pm_ln h x0)))).toNatClampNeg ≤ pm_ln h s0 then if (List.range ((if x1 < (Int32.ofNat (pm_ln h x0)) then x1 else (Int32.ofNat (pm_ln h x0)))).toNatClampNeg).all (fun j => fits .byte (.int (pm_I h x0 ((0 : Int32).toNatClampNeg + j)))) = true then some ((s0, pm_cpI h x0 ((0 : Int32).toNatClampNeg) s0 ((0 : Int32).toNatClampNeg) (((if x1 < (Int32.ofNat (pm_ln h x0)) then x1 else (Int32.ofNat (pm_ln h x0)))).toNatClampNeg))) else none else none else none else none
def fJ7_copyOf_9075b_b0 (h : pm_H) (x0 : Nat) (x1 : Int32) : Option (Nat × pm_H) := if pm_kd h x0 = 33 then if x1 = (Int32.ofNat (pm_ln h x0)) then (if (List.range (pm_ln h x0)).all (fun j => fits .byte (.int (pm_I h x0 j))) = true then fJ7_copyOf_9075b_b10 (pm_cl h x0 1) (pm_sz h) else none) else (if ¬ x1 < 0 ∧ x1.toNatClampNeg * 1 ≤ 536870912 then fJ7_copyOf_9075b_b17 (pm_new h 33 x1.toNatClampNeg) x0 x1 (pm_sz h) else none) else none
def fJ7_copyOf_9075b (h : pm_H) (p1 : Nat) (p2 : Int32) : Option (Nat × pm_H) := fJ7_copyOf_9075b_b0 h p1 p2
set_option maxHeartbeats 4000000 in
set_option maxRecDepth 100000 in
theorem moJ7_copyOf_9075b_b10 {h : pm_H} {s0 : Nat} {r : (Nat × pm_H)} (hf : fJ7_copyOf_9075b_b10 h s0 = some r) : pm_Le h r.2 := by
  unfold fJ7_copyOf_9075b_b10 at hf
  have K0 := pm_S3.rf h
  obtain ⟨k5, hf⟩ := pm_if hf
  have hf := Option.some.inj hf
  subst hf
  exact pm_S3.le K0
set_option maxHeartbeats 4000000 in
set_option maxRecDepth 100000 in
theorem moJ7_copyOf_9075b_b17 {h : pm_H} {x0 : Nat} {x1 : Int32} {s0 : Nat} {r : (Nat × pm_H)} (hf : fJ7_copyOf_9075b_b17 h x0 x1 s0 = some r) : pm_Le h r.2 := by
  unfold fJ7_copyOf_9075b_b17 at hf
  have K0 := pm_S3.rf h
  obtain ⟨k6, hf⟩ := pm_if hf
  obtain ⟨k7, hf⟩ := pm_if hf
  obtain ⟨u8, hf⟩ := pm_if hf
  obtain ⟨u9, hf⟩ := pm_if hf
  have hf := Option.some.inj hf
  subst hf
  exact pm_S3.le (pm_S3CI K0)
set_option maxHeartbeats 4000000 in
set_option maxRecDepth 100000 in
theorem moJ7_copyOf_9075b_b0 {h : pm_H} {x0 : Nat} {x1 : Int32} {r : (Nat × pm_H)} (hf : fJ7_copyOf_9075b_b0 h x0 x1 = some r) : pm_Le h r.2 := by
  unfold fJ7_copyOf_9075b_b0 at hf
  have K0 := pm_S3.rf h
  obtain ⟨k1, hf⟩ := pm_if hf
  by_cases c2 : x1 = (Int32.ofNat (pm_ln h x0))
  · have hf := pm_it hf c2
    obtain ⟨u3, hf⟩ := pm_if hf
    exact ((pm_S3.le K0).trans (pm_Le_cl _ _ _)).trans (moJ7_copyOf_9075b_b10 hf)
  · have hf := pm_ie hf c2
    obtain ⟨u4, hf⟩ := pm_if hf
    exact ((pm_S3.le K0).trans (pm_Le_new _ _ _)).trans (moJ7_copyOf_9075b_b17 hf)
set_option maxHeartbeats 4000000 in
set_option maxRecDepth 100000 in
theorem moJ7_copyOf_9075b {h : pm_H} {p1 : Nat} {p2 : Int32} {r : (Nat × pm_H)} (hf : fJ7_copyOf_9075b h p1 p2 = some r) : pm_Le h r.2 := by
  unfold fJ7_copyOf_9075b at hf
  have K0 := pm_S3.rf h
  exact (pm_S3.le K0).trans (moJ7_copyOf_9075b_b0 hf)
set_option maxHeartbeats 4000000 in
set_option maxRecDepth 100000 in
theorem bJ7_copyOf_9075b_10 {g : pm_Gm} {l : Launch} {G : pm_Gl} {Qr : Option Value → pm_H → Prop} (C : pm_C g cJ7_copyOf_9075b RJ7) {h0 h : pm_H} {s0 : Nat} {r : (Nat × pm_H)} (X : pm_X g l G mJ7_copyOf_9075b (pm_sz r.2 - pm_sz h0) (pm_us r.2 - pm_us h0) Qr) (m0 : pm_Le h0 h) (hf : fJ7_copyOf_9075b_b10 h s0 = some r) (q : Qr (some (.ref r.1)) r.2) : pm_G g 10 [] [.ref s0] h (pm_sz h - pm_sz h0) (pm_us h - pm_us h0) := by
  have le0 := moJ7_copyOf_9075b_b10 hf
  have kc1 := Nat.sub_le_sub_right le0.1 (pm_sz h0)
  have kc2 := Nat.sub_le_sub_right le0.2 (pm_us h0)
  have K0 := pm_S3.rf h
  unfold fJ7_copyOf_9075b_b10 at hf
  obtain ⟨k9, hf⟩ := pm_if hf
  refine pm_castA (t := 1) C dJ7_copyOf_9075b_10 caJ7_311 (Or.inl rfl) k9 ?_
  have hf := Option.some.inj hf
  subst hf
  exact pm_aret C X dJ7_copyOf_9075b_13 rfl (Or.inr ⟨_, rfl⟩) kc1 kc2 q
set_option maxHeartbeats 4000000 in
set_option maxRecDepth 100000 in
theorem bJ7_copyOf_9075b_17 {g : pm_Gm} {l : Launch} {G : pm_Gl} {Qr : Option Value → pm_H → Prop} (C : pm_C g cJ7_copyOf_9075b RJ7) {h0 h : pm_H} {x0 : Nat} {x1 : Int32} {s0 : Nat} {r : (Nat × pm_H)} (X : pm_X g l G mJ7_copyOf_9075b (pm_sz r.2 - pm_sz h0) (pm_us r.2 - pm_us h0) Qr) (m0 : pm_Le h0 h) (hf : fJ7_copyOf_9075b_b17 h x0 x1 s0 = some r) (q : Qr (some (.ref r.1)) r.2) : pm_G g 17 [(0, .ref x0), (1, .int x1)] [.ref s0] h (pm_sz h - pm_sz h0) (pm_us h - pm_us h0) := by
  have le0 := moJ7_copyOf_9075b_b17 hf
  have kc1 := Nat.sub_le_sub_right le0.1 (pm_sz h0)
  have kc2 := Nat.sub_le_sub_right le0.2 (pm_us h0)
  have K0 := pm_S3.rf h
  unfold fJ7_copyOf_9075b_b17 at hf
  refine pm_astore_n (lv' := [(2, .ref s0), (0, .ref x0), (1, .int x1)]) C dJ7_copyOf_9075b_17 rfl (pm_nl X (by decide)) rfl ?_
  refine pm_aload_n C dJ7_copyOf_9075b_18 rfl rfl ?_
  refine pm_iconst (v := 0) C dJ7_copyOf_9075b_19 (by decide) ?_
  refine pm_aload_n C dJ7_copyOf_9075b_20 rfl rfl ?_
  refine pm_iconst (v := 0) C dJ7_copyOf_9075b_21 (by decide) ?_
  refine pm_aload_n C dJ7_copyOf_9075b_22 rfl rfl ?_
  obtain ⟨k5, hf⟩ := pm_if hf
  refine pm_alen (t := 1) C dJ7_copyOf_9075b_23 (by decide) k5 rfl ?_
  refine pm_iload_n C dJ7_copyOf_9075b_24 rfl rfl ?_
  refine pm_mminI C (pm_XR X) dJ7_copyOf_9075b_25 mtJ7_304 (by decide) (by decide) (Nat.le_of_ble_eq_true rfl) kc1 kc2 ?_
  obtain ⟨k6, hf⟩ := pm_if hf
  obtain ⟨u7, hf⟩ := pm_if hf
  obtain ⟨u8, hf⟩ := pm_if hf
  refine pm_copyI (t := 1) C (pm_XR X) dJ7_copyOf_9075b_28 acJ7_150 (Or.inr (Or.inl rfl)) k5 k6 u7.1 u7.2.1 u7.2.2.1 u7.2.2.2.1 u7.2.2.2.2 (fun j hj => List.all_eq_true.mp u8 j (List.mem_range.mpr hj)) (by decide) (by decide) (Nat.le_of_ble_eq_true rfl) ?_
  refine pm_aload_n C dJ7_copyOf_9075b_31 rfl rfl ?_
  have hf := Option.some.inj hf
  subst hf
  exact pm_aret C X dJ7_copyOf_9075b_32 rfl (Or.inr ⟨_, rfl⟩) kc1 kc2 q
set_option maxHeartbeats 4000000 in
set_option maxRecDepth 100000 in
theorem bJ7_copyOf_9075b_0 {g : pm_Gm} {l : Launch} {G : pm_Gl} {Qr : Option Value → pm_H → Prop} (C : pm_C g cJ7_copyOf_9075b RJ7) {h0 h : pm_H} {x0 : Nat} {x1 : Int32} {r : (Nat × pm_H)} (X : pm_X g l G mJ7_copyOf_9075b (pm_sz r.2 - pm_sz h0) (pm_us r.2 - pm_us h0) Qr) (m0 : pm_Le h0 h) (hf : fJ7_copyOf_9075b_b0 h x0 x1 = some r) (q : Qr (some (.ref r.1)) r.2) : pm_G g 0 [(0, .ref x0), (1, .int x1)] [] h (pm_sz h - pm_sz h0) (pm_us h - pm_us h0) := by
  have le0 := moJ7_copyOf_9075b_b0 hf
  have kc1 := Nat.sub_le_sub_right le0.1 (pm_sz h0)
  have kc2 := Nat.sub_le_sub_right le0.2 (pm_us h0)
  have K0 := pm_S3.rf h
  unfold fJ7_copyOf_9075b_b0 at hf
  refine pm_iload_n C dJ7_copyOf_9075b_0 rfl rfl ?_
  refine pm_aload_n C dJ7_copyOf_9075b_1 rfl rfl ?_
  obtain ⟨k1, hf⟩ := pm_if hf
  refine pm_alen (t := 1) C dJ7_copyOf_9075b_2 (by decide) k1 rfl ?_
  refine pm_icmp_ne (tgt := 14) C dJ7_copyOf_9075b_3 (by decide) (fun c2 => ?_) (fun c2 => ?_)
  · have hf := pm_ie hf c2
    refine pm_iload_n C dJ7_copyOf_9075b_14 rfl rfl ?_
    obtain ⟨u3, hf⟩ := pm_if hf
    refine pa_newa (hb := h) (h0 := h0) (t := 1) (N := x1.toNatClampNeg) C X K0 m0 dJ7_copyOf_9075b_15 (by decide) rfl al1 u3.1 rfl u3.2 (moJ7_copyOf_9075b_b17 hf) ?_
    exact pm_sub [0, 1] rfl (bJ7_copyOf_9075b_17 C X ((m0.trans (pm_S3.le K0)).trans (pm_Le_new _ _ _)) hf q)
  · have hf := pm_it hf c2
    refine pm_aload_n C dJ7_copyOf_9075b_6 rfl rfl ?_
    obtain ⟨u4, hf⟩ := pm_if hf
    refine pa_clone (hb := h) (h0 := h0) (t := 1) C X K0 m0 dJ7_copyOf_9075b_7 cwJ7_310 (Or.inl rfl) k1 (fun j hj => Or.inl (List.all_eq_true.mp u4 j (List.mem_range.mpr hj))) (by decide) (by decide) (Nat.le_of_ble_eq_true rfl) (moJ7_copyOf_9075b_b10 hf) ?_
    exact pm_sub [] rfl (bJ7_copyOf_9075b_10 C X ((m0.trans (pm_S3.le K0)).trans (pm_Le_cl _ _ _)) hf q)
set_option maxHeartbeats 4000000 in
set_option maxRecDepth 100000 in
theorem ctJ7_copyOf_9075b {l : Launch} {G : pm_Gl} {h : pm_H} {p1 : Nat} {p2 : Int32} {r : (Nat × pm_H)} {Qr : Option Value → pm_H → Prop} (hf : fJ7_copyOf_9075b h p1 p2 = some r) (q : Qr (some (.ref r.1)) r.2) : pm_Ct l G mJ7_copyOf_9075b [.ref p1, .int p2] h (pm_sz r.2 - pm_sz h) (pm_us r.2 - pm_us h) Qr := by
  refine pm_body pnJ7 (Nat.le_of_ble_eq_true rfl) (fun g C X => ?_)
  have C : pm_C g cJ7_copyOf_9075b RJ7 := C
  show pm_G g 0 [(0, .ref p1), (1, .int p2)] [] h 0 0
  unfold fJ7_copyOf_9075b at hf
  exact pa_start (pm_sub [0, 1] rfl (bJ7_copyOf_9075b_0 C X (pm_Le.rf h) hf q))
theorem dJ7_copyOf_c38d5_0 : decode cJ7_copyOf_c38d5 0 = .ok (.iload_n 1, 1) := by decide +kernel
theorem dJ7_copyOf_c38d5_1 : decode cJ7_copyOf_c38d5 1 = .ok (.aload_n 0, 1) := by decide +kernel
theorem dJ7_copyOf_c38d5_2 : decode cJ7_copyOf_c38d5 2 = .ok (.arraylength, 1) := by decide +kernel
theorem dJ7_copyOf_c38d5_3 : decode cJ7_copyOf_c38d5 3 = .ok (.if_icmp .ne 11, 3) := by decide +kernel
theorem dJ7_copyOf_c38d5_6 : decode cJ7_copyOf_c38d5 6 = .ok (.aload_n 0, 1) := by decide +kernel
theorem dJ7_copyOf_c38d5_7 : decode cJ7_copyOf_c38d5 7 = .ok (.invokevirtual 319, 3) := by decide +kernel
theorem dJ7_copyOf_c38d5_10 : decode cJ7_copyOf_c38d5 10 = .ok (.checkcast 320, 3) := by decide +kernel
theorem dJ7_copyOf_c38d5_13 : decode cJ7_copyOf_c38d5 13 = .ok (.areturn, 1) := by decide +kernel
theorem dJ7_copyOf_c38d5_14 : decode cJ7_copyOf_c38d5 14 = .ok (.iload_n 1, 1) := by decide +kernel
theorem dJ7_copyOf_c38d5_15 : decode cJ7_copyOf_c38d5 15 = .ok (.newarray .long, 2) := by decide +kernel
theorem dJ7_copyOf_c38d5_17 : decode cJ7_copyOf_c38d5 17 = .ok (.astore_n 2, 1) := by decide +kernel
theorem dJ7_copyOf_c38d5_18 : decode cJ7_copyOf_c38d5 18 = .ok (.aload_n 0, 1) := by decide +kernel
theorem dJ7_copyOf_c38d5_19 : decode cJ7_copyOf_c38d5 19 = .ok (.iconst 0, 1) := by decide +kernel
theorem dJ7_copyOf_c38d5_20 : decode cJ7_copyOf_c38d5 20 = .ok (.aload_n 2, 1) := by decide +kernel
theorem dJ7_copyOf_c38d5_21 : decode cJ7_copyOf_c38d5 21 = .ok (.iconst 0, 1) := by decide +kernel
theorem dJ7_copyOf_c38d5_22 : decode cJ7_copyOf_c38d5 22 = .ok (.aload_n 0, 1) := by decide +kernel
theorem dJ7_copyOf_c38d5_23 : decode cJ7_copyOf_c38d5 23 = .ok (.arraylength, 1) := by decide +kernel
theorem dJ7_copyOf_c38d5_24 : decode cJ7_copyOf_c38d5 24 = .ok (.iload_n 1, 1) := by decide +kernel
theorem dJ7_copyOf_c38d5_25 : decode cJ7_copyOf_c38d5 25 = .ok (.invokestatic 304, 3) := by decide +kernel
theorem dJ7_copyOf_c38d5_28 : decode cJ7_copyOf_c38d5 28 = .ok (.invokestatic 150, 3) := by decide +kernel
theorem dJ7_copyOf_c38d5_31 : decode cJ7_copyOf_c38d5 31 = .ok (.aload_n 2, 1) := by decide +kernel
theorem dJ7_copyOf_c38d5_32 : decode cJ7_copyOf_c38d5 32 = .ok (.areturn, 1) := by decide +kernel
def fJ7_copyOf_c38d5_b10 (h : pm_H) (s0 : Nat) : Option (Nat × pm_H) := if pm_kd h s0 = 35 then some ((s0, h)) else none
def fJ7_copyOf_c38d5_b17 (h : pm_H) (x0 : Nat) (x1 : Int32) (s0 : Nat) : Option (Nat × pm_H) := if pm_kd h x0 = 35 then if pm_kd h s0 = 35 then if ¬ (0 : Int32) < 0 ∧ ¬ (0 : Int32) < 0 ∧ ¬ ((if x1 < (Int32.ofNat (pm_ln h x0)) then x1 else (Int32.ofNat (pm_ln h x0)))) < 0 ∧ (0 : Int32).toNatClampNeg + ((if x1 < (Int32.ofNat (pm_ln h x0)) then x1 else (Int32.ofNat (pm_ln h x0)))).toNatClampNeg ≤ pm_ln h x0 ∧ (0 : Int32).toNatClampNeg + ((if x1 < (Int32.ofNat (pm_ln h x0)) then x1 else (Int32.ofNat (pm_ln h x0)))).toNatClampNeg ≤ pm_ln h s0 then some ((s0, pm_cpL h x0 ((0 : Int32).toNatClampNeg) s0 ((0 : Int32).toNatClampNeg) (((if x1 < (Int32.ofNat (pm_ln h x0)) then x1 else (Int32.ofNat (pm_ln h x0)))).toNatClampNeg))) else none else none else none
def fJ7_copyOf_c38d5_b0 (h : pm_H) (x0 : Nat) (x1 : Int32) : Option (Nat × pm_H) := if pm_kd h x0 = 35 then if x1 = (Int32.ofNat (pm_ln h x0)) then (fJ7_copyOf_c38d5_b10 (pm_cl h x0 3) (pm_sz h)) else (if ¬ x1 < 0 ∧ x1.toNatClampNeg * 8 ≤ 536870912 then fJ7_copyOf_c38d5_b17 (pm_new h 35 x1.toNatClampNeg) x0 x1 (pm_sz h) else none) else none
def fJ7_copyOf_c38d5 (h : pm_H) (p1 : Nat) (p2 : Int32) : Option (Nat × pm_H) := fJ7_copyOf_c38d5_b0 h p1 p2
set_option maxHeartbeats 4000000 in
set_option maxRecDepth 100000 in
theorem moJ7_copyOf_c38d5_b10 {h : pm_H} {s0 : Nat} {r : (Nat × pm_H)} (hf : fJ7_copyOf_c38d5_b10 h s0 = some r) : pm_Le h r.2 := by
  unfold fJ7_copyOf_c38d5_b10 at hf
  have K0 := pm_S3.rf h
  obtain ⟨k4, hf⟩ := pm_if hf
  have hf := Option.some.inj hf
  subst hf
  exact pm_S3.le K0
set_option maxHeartbeats 4000000 in
set_option maxRecDepth 100000 in
theorem moJ7_copyOf_c38d5_b17 {h : pm_H} {x0 : Nat} {x1 : Int32} {s0 : Nat} {r : (Nat × pm_H)} (hf : fJ7_copyOf_c38d5_b17 h x0 x1 s0 = some r) : pm_Le h r.2 := by
  unfold fJ7_copyOf_c38d5_b17 at hf
  have K0 := pm_S3.rf h
  obtain ⟨k5, hf⟩ := pm_if hf
  obtain ⟨k6, hf⟩ := pm_if hf
  obtain ⟨u7, hf⟩ := pm_if hf
  have hf := Option.some.inj hf
  subst hf
  exact pm_S3.le (pm_S3CL K0)
set_option maxHeartbeats 4000000 in
set_option maxRecDepth 100000 in
theorem moJ7_copyOf_c38d5_b0 {h : pm_H} {x0 : Nat} {x1 : Int32} {r : (Nat × pm_H)} (hf : fJ7_copyOf_c38d5_b0 h x0 x1 = some r) : pm_Le h r.2 := by
  unfold fJ7_copyOf_c38d5_b0 at hf
  have K0 := pm_S3.rf h
  obtain ⟨k1, hf⟩ := pm_if hf
  by_cases c2 : x1 = (Int32.ofNat (pm_ln h x0))
  · have hf := pm_it hf c2
    exact ((pm_S3.le K0).trans (pm_Le_cl _ _ _)).trans (moJ7_copyOf_c38d5_b10 hf)
  · have hf := pm_ie hf c2
    obtain ⟨u3, hf⟩ := pm_if hf
    exact ((pm_S3.le K0).trans (pm_Le_new _ _ _)).trans (moJ7_copyOf_c38d5_b17 hf)
set_option maxHeartbeats 4000000 in
set_option maxRecDepth 100000 in
theorem moJ7_copyOf_c38d5 {h : pm_H} {p1 : Nat} {p2 : Int32} {r : (Nat × pm_H)} (hf : fJ7_copyOf_c38d5 h p1 p2 = some r) : pm_Le h r.2 := by
  unfold fJ7_copyOf_c38d5 at hf
  have K0 := pm_S3.rf h
  exact (pm_S3.le K0).trans (moJ7_copyOf_c38d5_b0 hf)
set_option maxHeartbeats 4000000 in
set_option maxRecDepth 100000 in
theorem bJ7_copyOf_c38d5_10 {g : pm_Gm} {l : Launch} {G : pm_Gl} {Qr : Option Value → pm_H → Prop} (C : pm_C g cJ7_copyOf_c38d5 RJ7) {h0 h : pm_H} {s0 : Nat} {r : (Nat × pm_H)} (X : pm_X g l G mJ7_copyOf_c38d5 (pm_sz r.2 - pm_sz h0) (pm_us r.2 - pm_us h0) Qr) (m0 : pm_Le h0 h) (hf : fJ7_copyOf_c38d5_b10 h s0 = some r) (q : Qr (some (.ref r.1)) r.2) : pm_G g 10 [] [.ref s0] h (pm_sz h - pm_sz h0) (pm_us h - pm_us h0) := by
  have le0 := moJ7_copyOf_c38d5_b10 hf
  have kc1 := Nat.sub_le_sub_right le0.1 (pm_sz h0)
  have kc2 := Nat.sub_le_sub_right le0.2 (pm_us h0)
  have K0 := pm_S3.rf h
  unfold fJ7_copyOf_c38d5_b10 at hf
  obtain ⟨k7, hf⟩ := pm_if hf
  refine pm_castA (t := 3) C dJ7_copyOf_c38d5_10 caJ7_320 (Or.inr (Or.inr rfl)) k7 ?_
  have hf := Option.some.inj hf
  subst hf
  exact pm_aret C X dJ7_copyOf_c38d5_13 rfl (Or.inr ⟨_, rfl⟩) kc1 kc2 q
set_option maxHeartbeats 4000000 in
set_option maxRecDepth 100000 in
theorem bJ7_copyOf_c38d5_17 {g : pm_Gm} {l : Launch} {G : pm_Gl} {Qr : Option Value → pm_H → Prop} (C : pm_C g cJ7_copyOf_c38d5 RJ7) {h0 h : pm_H} {x0 : Nat} {x1 : Int32} {s0 : Nat} {r : (Nat × pm_H)} (X : pm_X g l G mJ7_copyOf_c38d5 (pm_sz r.2 - pm_sz h0) (pm_us r.2 - pm_us h0) Qr) (m0 : pm_Le h0 h) (hf : fJ7_copyOf_c38d5_b17 h x0 x1 s0 = some r) (q : Qr (some (.ref r.1)) r.2) : pm_G g 17 [(0, .ref x0), (1, .int x1)] [.ref s0] h (pm_sz h - pm_sz h0) (pm_us h - pm_us h0) := by
  have le0 := moJ7_copyOf_c38d5_b17 hf
  have kc1 := Nat.sub_le_sub_right le0.1 (pm_sz h0)
  have kc2 := Nat.sub_le_sub_right le0.2 (pm_us h0)
  have K0 := pm_S3.rf h
  unfold fJ7_copyOf_c38d5_b17 at hf
  refine pm_astore_n (lv' := [(2, .ref s0), (0, .ref x0), (1, .int x1)]) C dJ7_copyOf_c38d5_17 rfl (pm_nl X (by decide)) rfl ?_
  refine pm_aload_n C dJ7_copyOf_c38d5_18 rfl rfl ?_
  refine pm_iconst (v := 0) C dJ7_copyOf_c38d5_19 (by decide) ?_
  refine pm_aload_n C dJ7_copyOf_c38d5_20 rfl rfl ?_
  refine pm_iconst (v := 0) C dJ7_copyOf_c38d5_21 (by decide) ?_
  refine pm_aload_n C dJ7_copyOf_c38d5_22 rfl rfl ?_
  obtain ⟨k4, hf⟩ := pm_if hf
  refine pm_alen (t := 3) C dJ7_copyOf_c38d5_23 (by decide) k4 rfl ?_
  refine pm_iload_n C dJ7_copyOf_c38d5_24 rfl rfl ?_
  refine pm_mminI C (pm_XR X) dJ7_copyOf_c38d5_25 mtJ7_304 (by decide) (by decide) (Nat.le_of_ble_eq_true rfl) kc1 kc2 ?_
  obtain ⟨k5, hf⟩ := pm_if hf
  obtain ⟨u6, hf⟩ := pm_if hf
  refine pm_copyL (t := 3) C (pm_XR X) dJ7_copyOf_c38d5_28 acJ7_150 rfl k4 k5 u6.1 u6.2.1 u6.2.2.1 u6.2.2.2.1 u6.2.2.2.2 (fun _ _ => rfl) (by decide) (by decide) (Nat.le_of_ble_eq_true rfl) ?_
  refine pm_aload_n C dJ7_copyOf_c38d5_31 rfl rfl ?_
  have hf := Option.some.inj hf
  subst hf
  exact pm_aret C X dJ7_copyOf_c38d5_32 rfl (Or.inr ⟨_, rfl⟩) kc1 kc2 q
set_option maxHeartbeats 4000000 in
set_option maxRecDepth 100000 in
theorem bJ7_copyOf_c38d5_0 {g : pm_Gm} {l : Launch} {G : pm_Gl} {Qr : Option Value → pm_H → Prop} (C : pm_C g cJ7_copyOf_c38d5 RJ7) {h0 h : pm_H} {x0 : Nat} {x1 : Int32} {r : (Nat × pm_H)} (X : pm_X g l G mJ7_copyOf_c38d5 (pm_sz r.2 - pm_sz h0) (pm_us r.2 - pm_us h0) Qr) (m0 : pm_Le h0 h) (hf : fJ7_copyOf_c38d5_b0 h x0 x1 = some r) (q : Qr (some (.ref r.1)) r.2) : pm_G g 0 [(0, .ref x0), (1, .int x1)] [] h (pm_sz h - pm_sz h0) (pm_us h - pm_us h0) := by
  have le0 := moJ7_copyOf_c38d5_b0 hf
  have kc1 := Nat.sub_le_sub_right le0.1 (pm_sz h0)
  have kc2 := Nat.sub_le_sub_right le0.2 (pm_us h0)
  have K0 := pm_S3.rf h
  unfold fJ7_copyOf_c38d5_b0 at hf
  refine pm_iload_n C dJ7_copyOf_c38d5_0 rfl rfl ?_
  refine pm_aload_n C dJ7_copyOf_c38d5_1 rfl rfl ?_
  obtain ⟨k1, hf⟩ := pm_if hf
  refine pm_alen (t := 3) C dJ7_copyOf_c38d5_2 (by decide) k1 rfl ?_
  refine pm_icmp_ne (tgt := 14) C dJ7_copyOf_c38d5_3 (by decide) (fun c2 => ?_) (fun c2 => ?_)
  · have hf := pm_ie hf c2
    refine pm_iload_n C dJ7_copyOf_c38d5_14 rfl rfl ?_
    obtain ⟨u3, hf⟩ := pm_if hf
    refine pa_newa (hb := h) (h0 := h0) (t := 3) (N := x1.toNatClampNeg) C X K0 m0 dJ7_copyOf_c38d5_15 (by decide) rfl al3 u3.1 rfl u3.2 (moJ7_copyOf_c38d5_b17 hf) ?_
    exact pm_sub [0, 1] rfl (bJ7_copyOf_c38d5_17 C X ((m0.trans (pm_S3.le K0)).trans (pm_Le_new _ _ _)) hf q)
  · have hf := pm_it hf c2
    refine pm_aload_n C dJ7_copyOf_c38d5_6 rfl rfl ?_
    refine pa_clone (hb := h) (h0 := h0) (t := 3) C X K0 m0 dJ7_copyOf_c38d5_7 cwJ7_319 (Or.inr (Or.inr rfl)) k1 (fun _ _ => Or.inr rfl) (by decide) (by decide) (Nat.le_of_ble_eq_true rfl) (moJ7_copyOf_c38d5_b10 hf) ?_
    exact pm_sub [] rfl (bJ7_copyOf_c38d5_10 C X ((m0.trans (pm_S3.le K0)).trans (pm_Le_cl _ _ _)) hf q)
set_option maxHeartbeats 4000000 in
set_option maxRecDepth 100000 in
theorem ctJ7_copyOf_c38d5 {l : Launch} {G : pm_Gl} {h : pm_H} {p1 : Nat} {p2 : Int32} {r : (Nat × pm_H)} {Qr : Option Value → pm_H → Prop} (hf : fJ7_copyOf_c38d5 h p1 p2 = some r) (q : Qr (some (.ref r.1)) r.2) : pm_Ct l G mJ7_copyOf_c38d5 [.ref p1, .int p2] h (pm_sz r.2 - pm_sz h) (pm_us r.2 - pm_us h) Qr := by
  refine pm_body pnJ7 (Nat.le_of_ble_eq_true rfl) (fun g C X => ?_)
  have C : pm_C g cJ7_copyOf_c38d5 RJ7 := C
  show pm_G g 0 [(0, .ref p1), (1, .int p2)] [] h 0 0
  unfold fJ7_copyOf_c38d5 at hf
  exact pa_start (pm_sub [0, 1] rfl (bJ7_copyOf_c38d5_0 C X (pm_Le.rf h) hf q))
