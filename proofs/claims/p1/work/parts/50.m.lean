theorem dX16_stops_0 : decode cX16_stops 0 = .ok (.aload_n 0, 1) := by decide +kernel
theorem dX16_stops_1 : decode cX16_stops 1 = .ok (.iload_n 1, 1) := by decide +kernel
theorem dX16_stops_2 : decode cX16_stops 2 = .ok (.putfield 239, 3) := by decide +kernel
theorem dX16_stops_5 : decode cX16_stops 5 = .ok (.aload_n 0, 1) := by decide +kernel
theorem dX16_stops_6 : decode cX16_stops 6 = .ok (.iload_n 2, 1) := by decide +kernel
theorem dX16_stops_7 : decode cX16_stops 7 = .ok (.putfield 242, 3) := by decide +kernel
theorem dX16_stops_10 : decode cX16_stops 10 = .ok (.aload_n 0, 1) := by decide +kernel
theorem dX16_stops_11 : decode cX16_stops 11 = .ok (.getfield 23, 3) := by decide +kernel
theorem dX16_stops_14 : decode cX16_stops 14 = .ok (.athrow, 1) := by decide +kernel
def fX16_stops (h : pm_H) (a0 : Nat) (p1 : Int32) (p2 : Int32) : Option ((Nat × pm_H) ⊕ pm_H) := if pm_kd h a0 = 16 then (pm_R (pm_setI (pm_setI h a0 7 p1) a0 8 p2) a0 9).bind fun v2 => some (.inl (v2, pm_setI (pm_setI h a0 7 p1) a0 8 p2)) else none
set_option maxHeartbeats 4000000 in
set_option maxRecDepth 100000 in
theorem ctX16_stops {l : Launch} {G : pm_Gl} {h : pm_H} {a0 : Nat} {p1 : Int32} {p2 : Int32} {r : ((Nat × pm_H) ⊕ pm_H)} {Qr : Option Value → pm_H → Prop} {Qt : Nat → pm_H → Prop} (hf : fX16_stops h a0 p1 p2 = some r) (q : pt_eV Qr Qt r) : pm_Ctt l G mX16_stops [.ref a0, .int p1, .int p2] h 0 0 Qr Qt := by
  refine pm_bodyT pnX16 (Nat.le_of_ble_eq_true rfl) (fun g C X => ?_)
  have C : pm_C g cX16_stops RX16 := C
  show pm_G g 0 [(0, .ref a0), (1, .int p1), (2, .int p2)] [] h 0 0
  unfold fX16_stops at hf
  refine pm_aload_n C dX16_stops_0 rfl rfl ?_
  refine pm_iload_n C dX16_stops_1 rfl rfl ?_
  obtain ⟨k1, hf⟩ := pm_if hf
  refine pm_putI C dX16_stops_2 flX16_239 rfl rfl k1 rfl rfl ?_
  refine pm_aload_n C dX16_stops_5 rfl rfl ?_
  refine pm_iload_n C dX16_stops_6 rfl rfl ?_
  refine pm_putI C dX16_stops_7 flX16_242 rfl rfl k1 rfl rfl ?_
  refine pm_aload_n C dX16_stops_10 rfl rfl ?_
  obtain ⟨v2, e3, hf⟩ := pm_bd hf
  refine pm_getR C dX16_stops_11 flX16_23 rfl k1 e3 ?_
  cases hf
  exact pt_athrow C X dX16_stops_14 (Nat.le_refl _) (Nat.le_refl _) q
theorem dX16_take_0 : decode cX16_take 0 = .ok (.aload_n 0, 1) := by decide +kernel
theorem dX16_take_1 : decode cX16_take 1 = .ok (.getfield 682, 3) := by decide +kernel
theorem dX16_take_4 : decode cX16_take 4 = .ok (.iconst 1, 1) := by decide +kernel
theorem dX16_take_5 : decode cX16_take 5 = .ok (.isub, 1) := by decide +kernel
theorem dX16_take_6 : decode cX16_take 6 = .ok (.istore_n 2, 1) := by decide +kernel
theorem dX16_take_7 : decode cX16_take 7 = .ok (.aload_n 0, 1) := by decide +kernel
theorem dX16_take_8 : decode cX16_take 8 = .ok (.getfield 685, 3) := by decide +kernel
theorem dX16_take_11 : decode cX16_take 11 = .ok (.aload_n 0, 1) := by decide +kernel
theorem dX16_take_12 : decode cX16_take 12 = .ok (.getfield 49, 3) := by decide +kernel
theorem dX16_take_15 : decode cX16_take 15 = .ok (.iload_n 2, 1) := by decide +kernel
theorem dX16_take_16 : decode cX16_take 16 = .ok (.iaload, 1) := by decide +kernel
theorem dX16_take_17 : decode cX16_take 17 = .ok (.if_icmp .ne 24, 3) := by decide +kernel
theorem dX16_take_20 : decode cX16_take 20 = .ok (.aload_n 0, 1) := by decide +kernel
theorem dX16_take_21 : decode cX16_take 21 = .ok (.getfield 52, 3) := by decide +kernel
theorem dX16_take_24 : decode cX16_take 24 = .ok (.iload_n 2, 1) := by decide +kernel
theorem dX16_take_25 : decode cX16_take 25 = .ok (.baload, 1) := by decide +kernel
theorem dX16_take_26 : decode cX16_take 26 = .ok (.ifCond .ne 13, 3) := by decide +kernel
theorem dX16_take_29 : decode cX16_take 29 = .ok (.aload_n 0, 1) := by decide +kernel
theorem dX16_take_30 : decode cX16_take 30 = .ok (.bipush 29, 2) := by decide +kernel
theorem dX16_take_32 : decode cX16_take 32 = .ok (.aload_n 0, 1) := by decide +kernel
theorem dX16_take_33 : decode cX16_take 33 = .ok (.getfield 686, 3) := by decide +kernel
theorem dX16_take_36 : decode cX16_take 36 = .ok (.invokevirtual 257, 3) := by decide +kernel
theorem dX16_take_39 : decode cX16_take 39 = .ok (.iconst (-1), 1) := by decide +kernel
theorem dX16_take_40 : decode cX16_take 40 = .ok (.ireturn, 1) := by decide +kernel
theorem dX16_take_41 : decode cX16_take 41 = .ok (.aload_n 0, 1) := by decide +kernel
theorem dX16_take_42 : decode cX16_take 42 = .ok (.dup, 1) := by decide +kernel
theorem dX16_take_43 : decode cX16_take 43 = .ok (.getfield 685, 3) := by decide +kernel
theorem dX16_take_46 : decode cX16_take 46 = .ok (.iconst 1, 1) := by decide +kernel
theorem dX16_take_47 : decode cX16_take 47 = .ok (.isub, 1) := by decide +kernel
theorem dX16_take_48 : decode cX16_take 48 = .ok (.putfield 685, 3) := by decide +kernel
theorem dX16_take_51 : decode cX16_take 51 = .ok (.aload_n 0, 1) := by decide +kernel
theorem dX16_take_52 : decode cX16_take 52 = .ok (.getfield 39, 3) := by decide +kernel
theorem dX16_take_55 : decode cX16_take 55 = .ok (.aload_n 0, 1) := by decide +kernel
theorem dX16_take_56 : decode cX16_take 56 = .ok (.getfield 685, 3) := by decide +kernel
theorem dX16_take_59 : decode cX16_take 59 = .ok (.iaload, 1) := by decide +kernel
theorem dX16_take_60 : decode cX16_take 60 = .ok (.istore_n 3, 1) := by decide +kernel
theorem dX16_take_61 : decode cX16_take 61 = .ok (.iload_n 1, 1) := by decide +kernel
theorem dX16_take_62 : decode cX16_take 62 = .ok (.ifCond .eq 23, 3) := by decide +kernel
theorem dX16_take_65 : decode cX16_take 65 = .ok (.iload_n 3, 1) := by decide +kernel
theorem dX16_take_66 : decode cX16_take 66 = .ok (.iconst (-1), 1) := by decide +kernel
theorem dX16_take_67 : decode cX16_take 67 = .ok (.if_icmp .eq 18, 3) := by decide +kernel
theorem dX16_take_70 : decode cX16_take 70 = .ok (.iload_n 3, 1) := by decide +kernel
theorem dX16_take_71 : decode cX16_take 71 = .ok (.iload_n 1, 1) := by decide +kernel
theorem dX16_take_72 : decode cX16_take 72 = .ok (.if_icmp .eq 13, 3) := by decide +kernel
theorem dX16_take_75 : decode cX16_take 75 = .ok (.aload_n 0, 1) := by decide +kernel
theorem dX16_take_76 : decode cX16_take 76 = .ok (.bipush 29, 2) := by decide +kernel
theorem dX16_take_78 : decode cX16_take 78 = .ok (.aload_n 0, 1) := by decide +kernel
theorem dX16_take_79 : decode cX16_take 79 = .ok (.getfield 686, 3) := by decide +kernel
theorem dX16_take_82 : decode cX16_take 82 = .ok (.invokevirtual 257, 3) := by decide +kernel
theorem dX16_take_85 : decode cX16_take 85 = .ok (.iload_n 3, 1) := by decide +kernel
theorem dX16_take_86 : decode cX16_take 86 = .ok (.ireturn, 1) := by decide +kernel
def fX16_take (h : pm_H) (a0 : Nat) (p1 : Int32) : Option ((Nat × pm_H) ⊕ (Int32 × pm_H)) := if pm_kd h a0 = 16 then pm_let ((pm_I h a0 24) - 1) fun y2 => (pm_R h a0 27).bind fun v4 => if pm_kd h v4 = 34 then if pm_in y2 (pm_ln h v4) then if (pm_I h a0 23) = (pm_I h v4 y2.toNatClampNeg) then ((pm_R h a0 28).bind fun v26 => if pm_kd h v26 = 32 then if pm_in y2 (pm_ln h v26) then if (pm_I h v26 y2.toNatClampNeg) = 0 then ((fX16_stops h a0 29 (pm_I h a0 31)).bind fun v31 => pt_k v31 fun w33 => some (.inr ((-1), w33))) else (some (.inr ((-1), h))) else none else none) else (pm_let ((pm_I h a0 23) - 1) fun y9 => (pm_R (pm_setI h a0 23 y9) a0 22).bind fun v11 => pm_let (pm_I (pm_setI h a0 23 y9) a0 23) fun y13 => if pm_kd (pm_setI h a0 23 y9) v11 = 34 then if pm_in y13 (pm_ln (pm_setI h a0 23 y9) v11) then pm_let (pm_I (pm_setI h a0 23 y9) v11 y13.toNatClampNeg) fun y17 => if p1 = 0 then (some (.inr (y17, pm_setI h a0 23 y9))) else (if y17 = (-1) then (some (.inr (y17, pm_setI h a0 23 y9))) else (if y17 = p1 then (some (.inr (y17, pm_setI h a0 23 y9))) else ((fX16_stops (pm_setI h a0 23 y9) a0 29 (pm_I (pm_setI h a0 23 y9) a0 31)).bind fun v22 => pt_k v22 fun w24 => some (.inr (y17, w24))))) else none else none) else none else none else none
set_option maxHeartbeats 4000000 in
set_option maxRecDepth 100000 in
theorem ctX16_take {l : Launch} {G : pm_Gl} {h : pm_H} {a0 : Nat} {p1 : Int32} {r : ((Nat × pm_H) ⊕ (Int32 × pm_H))} {Qr : Option Value → pm_H → Prop} {Qt : Nat → pm_H → Prop} (hf : fX16_take h a0 p1 = some r) (q : pt_eI Qr Qt r) : pm_Ctt l G mX16_take [.ref a0, .int p1] h 0 0 Qr Qt := by
  refine pm_bodyT pnX16 (Nat.le_of_ble_eq_true rfl) (fun g C X => ?_)
  have C : pm_C g cX16_take RX16 := C
  show pm_G g 0 [(0, .ref a0), (1, .int p1)] [] h 0 0
  unfold fX16_take at hf
  refine pm_aload_n C dX16_take_0 rfl rfl ?_
  obtain ⟨k1, hf⟩ := pm_if hf
  refine pm_getI C dX16_take_1 flX16_682 rfl k1 rfl ?_
  refine pm_iconst (v := 1) C dX16_take_4 (by decide) ?_
  refine pm_isub C dX16_take_5 ?_
  obtain ⟨y2, e3, hf⟩ := pm_lt hf
  refine pm_topI e3 ?_
  refine pm_istore_n (lv' := [(2, .int y2), (0, .ref a0), (1, .int p1)]) C dX16_take_6 rfl (pt_nl X (by decide)) rfl ?_
  refine pm_aload_n C dX16_take_7 rfl rfl ?_
  refine pm_getI C dX16_take_8 flX16_685 rfl k1 rfl ?_
  refine pm_aload_n C dX16_take_11 rfl rfl ?_
  obtain ⟨v4, e5, hf⟩ := pm_bd hf
  refine pm_getR C dX16_take_12 flX16_49 rfl k1 e5 ?_
  refine pm_iload_n C dX16_take_15 rfl rfl ?_
  obtain ⟨k6, hf⟩ := pm_if hf
  obtain ⟨u7, hf⟩ := pm_if hf
  refine pm_iald C dX16_take_16 k6 u7 rfl ?_
  refine pm_icmp_ne (tgt := 41) C dX16_take_17 (by decide) (fun c8 => ?_) (fun c8 => ?_)
  · have hf := pm_ie hf c8
    refine pm_aload_n C dX16_take_41 rfl rfl ?_
    refine pm_dup C dX16_take_42 rfl ?_
    refine pm_getI C dX16_take_43 flX16_685 rfl k1 rfl ?_
    refine pm_iconst (v := 1) C dX16_take_46 (by decide) ?_
    refine pm_isub C dX16_take_47 ?_
    obtain ⟨y9, e10, hf⟩ := pm_lt hf
    refine pm_topI e10 ?_
    refine pm_putI C dX16_take_48 flX16_685 rfl rfl k1 rfl rfl ?_
    refine pm_aload_n C dX16_take_51 rfl rfl ?_
    obtain ⟨v11, e12, hf⟩ := pm_bd hf
    refine pm_getR C dX16_take_52 flX16_39 rfl k1 e12 ?_
    refine pm_aload_n C dX16_take_55 rfl rfl ?_
    refine pm_getI C dX16_take_56 flX16_685 rfl k1 rfl ?_
    obtain ⟨y13, e14, hf⟩ := pm_lt hf
    refine pm_topI e14 ?_
    obtain ⟨k15, hf⟩ := pm_if hf
    obtain ⟨u16, hf⟩ := pm_if hf
    refine pm_iald C dX16_take_59 k15 u16 rfl ?_
    obtain ⟨y17, e18, hf⟩ := pm_lt hf
    refine pm_topI e18 ?_
    refine pm_istore_n (lv' := [(3, .int y17), (2, .int y2), (0, .ref a0), (1, .int p1)]) C dX16_take_60 rfl (pt_nl X (by decide)) rfl ?_
    refine pm_iload_n C dX16_take_61 rfl rfl ?_
    refine pm_if_eq (tgt := 85) C dX16_take_62 (by decide) (fun c19 => ?_) (fun c19 => ?_)
    · have hf := pm_it hf c19
      refine pm_iload_n C dX16_take_85 rfl rfl ?_
      cases hf
      exact pt_iret C X dX16_take_86 rfl (Nat.le_refl _) (Nat.le_refl _) q
    · have hf := pm_ie hf c19
      refine pm_iload_n C dX16_take_65 rfl rfl ?_
      refine pm_iconst (v := (-1)) C dX16_take_66 (by decide) ?_
      refine pm_icmp_eq (tgt := 85) C dX16_take_67 (by decide) (fun c20 => ?_) (fun c20 => ?_)
      · have hf := pm_it hf c20
        refine pm_iload_n C dX16_take_85 rfl rfl ?_
        cases hf
        exact pt_iret C X dX16_take_86 rfl (Nat.le_refl _) (Nat.le_refl _) q
      · have hf := pm_ie hf c20
        refine pm_iload_n C dX16_take_70 rfl rfl ?_
        refine pm_iload_n C dX16_take_71 rfl rfl ?_
        refine pm_icmp_eq (tgt := 85) C dX16_take_72 (by decide) (fun c21 => ?_) (fun c21 => ?_)
        · have hf := pm_it hf c21
          refine pm_iload_n C dX16_take_85 rfl rfl ?_
          cases hf
          exact pt_iret C X dX16_take_86 rfl (Nat.le_refl _) (Nat.le_refl _) q
        · have hf := pm_ie hf c21
          refine pm_aload_n C dX16_take_75 rfl rfl ?_
          refine pm_bipush (v := 29) C dX16_take_76 (by decide) ?_
          refine pm_aload_n C dX16_take_78 rfl rfl ?_
          refine pm_getI C dX16_take_79 flX16_686 rfl k1 rfl ?_
          obtain ⟨v22, e23, hf⟩ := pm_bd hf
          refine pt_callVT (as := [.int 29, .int (pm_I (pm_setI h a0 23 y9) a0 31)]) (st := []) C X dX16_take_82 ltX16_257 myX16_stops viX16_stops ⟨by decide, by decide⟩ rfl rfl k1 (Nat.le_of_ble_eq_true rfl) (Nat.le_refl _) (Nat.le_refl _) (ctX16_stops e23 ?_)
          rcases v22 with z25 | w24
          · have hf := pt_kl hf
            cases hf
            exact q
          have hf := pt_kr hf
          show pm_G g 85 [(3, .int y17), (2, .int y2), (0, .ref a0), (1, .int p1)] [] w24 0 0
          refine pm_iload_n C dX16_take_85 rfl rfl ?_
          cases hf
          exact pt_iret C X dX16_take_86 rfl (Nat.le_refl _) (Nat.le_refl _) q
  · have hf := pm_it hf c8
    refine pm_aload_n C dX16_take_20 rfl rfl ?_
    obtain ⟨v26, e27, hf⟩ := pm_bd hf
    refine pm_getR C dX16_take_21 flX16_52 rfl k1 e27 ?_
    refine pm_iload_n C dX16_take_24 rfl rfl ?_
    obtain ⟨k28, hf⟩ := pm_if hf
    obtain ⟨u29, hf⟩ := pm_if hf
    refine pm_zald C dX16_take_25 k28 u29 rfl ?_
    refine pm_if_ne (tgt := 39) C dX16_take_26 (by decide) (fun c30 => ?_) (fun c30 => ?_)
    · have hf := pm_ie hf c30
      refine pm_iconst (v := (-1)) C dX16_take_39 (by decide) ?_
      cases hf
      exact pt_iret C X dX16_take_40 rfl (Nat.le_refl _) (Nat.le_refl _) q
    · have hf := pm_it hf c30
      refine pm_aload_n C dX16_take_29 rfl rfl ?_
      refine pm_bipush (v := 29) C dX16_take_30 (by decide) ?_
      refine pm_aload_n C dX16_take_32 rfl rfl ?_
      refine pm_getI C dX16_take_33 flX16_686 rfl k1 rfl ?_
      obtain ⟨v31, e32, hf⟩ := pm_bd hf
      refine pt_callVT (as := [.int 29, .int (pm_I h a0 31)]) (st := []) C X dX16_take_36 ltX16_257 myX16_stops viX16_stops ⟨by decide, by decide⟩ rfl rfl k1 (Nat.le_of_ble_eq_true rfl) (Nat.le_refl _) (Nat.le_refl _) (ctX16_stops e32 ?_)
      rcases v31 with z34 | w33
      · have hf := pt_kl hf
        cases hf
        exact q
      have hf := pt_kr hf
      show pm_G g 39 [(2, .int y2), (0, .ref a0), (1, .int p1)] [] w33 0 0
      refine pm_iconst (v := (-1)) C dX16_take_39 (by decide) ?_
      cases hf
      exact pt_iret C X dX16_take_40 rfl (Nat.le_refl _) (Nat.le_refl _) q
theorem dX16_takeParameters_0 : decode cX16_takeParameters 0 = .ok (.aload_n 0, 1) := by decide +kernel
theorem dX16_takeParameters_1 : decode cX16_takeParameters 1 = .ok (.lload_n 1, 1) := by decide +kernel
theorem dX16_takeParameters_2 : decode cX16_takeParameters 2 = .ok (.invokevirtual 689, 3) := by decide +kernel
theorem dX16_takeParameters_5 : decode cX16_takeParameters 5 = .ok (.iconst 1, 1) := by decide +kernel
theorem dX16_takeParameters_6 : decode cX16_takeParameters 6 = .ok (.isub, 1) := by decide +kernel
theorem dX16_takeParameters_7 : decode cX16_takeParameters 7 = .ok (.istore_n 3, 1) := by decide +kernel
theorem dX16_takeParameters_8 : decode cX16_takeParameters 8 = .ok (.iload_n 3, 1) := by decide +kernel
theorem dX16_takeParameters_9 : decode cX16_takeParameters 9 = .ok (.ifCond .lt 21, 3) := by decide +kernel
theorem dX16_takeParameters_12 : decode cX16_takeParameters 12 = .ok (.aload_n 0, 1) := by decide +kernel
theorem dX16_takeParameters_13 : decode cX16_takeParameters 13 = .ok (.aload_n 0, 1) := by decide +kernel
theorem dX16_takeParameters_14 : decode cX16_takeParameters 14 = .ok (.lload_n 1, 1) := by decide +kernel
theorem dX16_takeParameters_15 : decode cX16_takeParameters 15 = .ok (.iload_n 3, 1) := by decide +kernel
theorem dX16_takeParameters_16 : decode cX16_takeParameters 16 = .ok (.invokevirtual 678, 3) := by decide +kernel
theorem dX16_takeParameters_19 : decode cX16_takeParameters 19 = .ok (.invokevirtual 692, 3) := by decide +kernel
theorem dX16_takeParameters_22 : decode cX16_takeParameters 22 = .ok (.istore 4, 2) := by decide +kernel
theorem dX16_takeParameters_24 : decode cX16_takeParameters 24 = .ok (.iinc 3 (-1), 3) := by decide +kernel
theorem dX16_takeParameters_27 : decode cX16_takeParameters 27 = .ok (.goto (-19), 3) := by decide +kernel
theorem dX16_takeParameters_30 : decode cX16_takeParameters 30 = .ok (.return_, 1) := by decide +kernel
def tX16_takeParameters_8 (x0 : Nat) (x1 : Int64) (x3 : Int32) (h : pm_H) : Option (((Nat × Int64 × Int32 × pm_H)) ⊕ ((Nat × pm_H) ⊕ pm_H)) := if x3 < 0 then (some (.inr (.inr (h)))) else (if pm_kd h x0 = 16 then (fX16_parameterAt h x0 x1 x3).bind fun v8 => (fX16_take h x0 v8).bind fun v10 => pt_s v10 fun w12 => pm_let (x3 + (-1)) fun y14 => some (.inl ((x0, x1, y14, w12.2))) else none)
def sX16_takeParameters : ((Nat × Int64 × Int32 × pm_H)) → Option (((Nat × Int64 × Int32 × pm_H)) ⊕ ((Nat × pm_H) ⊕ pm_H)) := fun z => match z with
  | (x0, x1, x3, h) => tX16_takeParameters_8 x0 x1 x3 h
noncomputable def fX16_takeParameters (h : pm_H) (a0 : Nat) (p1 : Int64) : Option ((Nat × pm_H) ⊕ pm_H) := if pm_kd h a0 = 16 then (fX16_parametersOf h a0 p1).bind fun v2 => pm_let (v2 - 1) fun y4 => pm_lim sX16_takeParameters ((a0, p1, y4, h)) else none
set_option maxHeartbeats 4000000 in
set_option maxRecDepth 100000 in
theorem lpX16_takeParameters {g : pm_Gm} {l : Launch} {G : pm_Gl} {Qr : Option Value → pm_H → Prop} {Qt : Nat → pm_H → Prop} (C : pm_C g cX16_takeParameters RX16) (X : pm_XT g l G mX16_takeParameters 0 0 Qr Qt) {r : ((Nat × pm_H) ⊕ pm_H)} (q : pt_eV Qr Qt r) : ∀ n : Nat, (∀ (x0 : Nat) (x1 : Int64) (x3 : Int32) (h : pm_H), pm_iter sX16_takeParameters n (x0, x1, x3, h) = some r → pm_G g 8 [(0, .ref x0), (1, .long x1), (3, .int x3)] [] h 0 0) := by
  intro n
  induction n with
  | zero => exact fun _ _ _ _ hf => (by cases hf)
  | succ n ih =>
    refine fun x0 x1 x3 h hf => ?_
    obtain ⟨y, hf, hi⟩ := pm_iter_s hf
    have hf : tX16_takeParameters_8 x0 x1 x3 h = some y := hf
    unfold tX16_takeParameters_8 at hf
    refine pm_iload_n C dX16_takeParameters_8 rfl rfl ?_
    refine pm_if_lt (tgt := 30) C dX16_takeParameters_9 (by decide) (fun c6 => ?_) (fun c6 => ?_)
    · have hf := pm_it hf c6
      cases hf
      cases hi
      exact pt_vret C X dX16_takeParameters_30 rfl (Nat.le_refl _) (Nat.le_refl _) q
    · have hf := pm_ie hf c6
      refine pm_aload_n C dX16_takeParameters_12 rfl rfl ?_
      refine pm_aload_n C dX16_takeParameters_13 rfl rfl ?_
      refine pm_lload_n C dX16_takeParameters_14 rfl rfl ?_
      refine pm_iload_n C dX16_takeParameters_15 rfl rfl ?_
      obtain ⟨k7, hf⟩ := pm_if hf
      obtain ⟨v8, e9, hf⟩ := pm_bd hf
      refine pt_callV (as := [.long x1, .int x3]) (st := [.ref x0]) C X dX16_takeParameters_16 lnX16_678 myX16_parameterAt viX16_parameterAt ⟨by decide, by decide⟩ rfl rfl k7 (Nat.le_of_ble_eq_true rfl) (Nat.le_refl _) (Nat.le_refl _) (ctX16_parameterAt e9 ?_)
      show pm_G g 19 [(0, .ref x0), (1, .long x1), (3, .int x3)] [.int v8, .ref x0] h 0 0
      obtain ⟨v10, e11, hf⟩ := pm_bd hf
      refine pt_callVT (as := [.int v8]) (st := []) C X dX16_takeParameters_19 ltX16_692 myX16_take viX16_take ⟨by decide, by decide⟩ rfl rfl k7 (Nat.le_of_ble_eq_true rfl) (Nat.le_refl _) (Nat.le_refl _) (ctX16_take e11 ?_)
      rcases v10 with z13 | w12
      · have hf := pt_sl hf
        cases hf
        cases hi
        exact q
      have hf := pt_sr hf
      show pm_G g 22 [(0, .ref x0), (1, .long x1), (3, .int x3)] [.int w12.1] w12.2 0 0
      refine pm_istore (lv' := [(4, .int w12.1), (0, .ref x0), (1, .long x1), (3, .int x3)]) C dX16_takeParameters_22 (pt_nl X (by decide)) rfl ?_
      obtain ⟨y14, e15, hf⟩ := pm_lt hf
      refine pm_iinc (v := y14) (lv' := [(3, .int y14), (4, .int w12.1), (0, .ref x0), (1, .long x1)]) C dX16_takeParameters_24 rfl ((congrArg (x3 + ·) (by decide : Int32.ofInt (-1) = (-1))).trans e15) (pt_nl X (by decide)) rfl ?_
      refine pm_goto (tgt := 8) C dX16_takeParameters_27 (by decide) ?_
      cases hf
      exact pm_sub [2, 3, 0] rfl (ih x0 x1 y14 w12.2 hi)
set_option maxHeartbeats 4000000 in
set_option maxRecDepth 100000 in
theorem ctX16_takeParameters {l : Launch} {G : pm_Gl} {h : pm_H} {a0 : Nat} {p1 : Int64} {r : ((Nat × pm_H) ⊕ pm_H)} {Qr : Option Value → pm_H → Prop} {Qt : Nat → pm_H → Prop} (hf : fX16_takeParameters h a0 p1 = some r) (q : pt_eV Qr Qt r) : pm_Ctt l G mX16_takeParameters [.ref a0, .long p1] h 0 0 Qr Qt := by
  refine pm_bodyT pnX16 (Nat.le_of_ble_eq_true rfl) (fun g C X => ?_)
  have C : pm_C g cX16_takeParameters RX16 := C
  show pm_G g 0 [(0, .ref a0), (1, .long p1)] [] h 0 0
  unfold fX16_takeParameters at hf
  refine pm_aload_n C dX16_takeParameters_0 rfl rfl ?_
  refine pm_lload_n C dX16_takeParameters_1 rfl rfl ?_
  obtain ⟨k1, hf⟩ := pm_if hf
  obtain ⟨v2, e3, hf⟩ := pm_bd hf
  refine pt_callV (as := [.long p1]) (st := []) C X dX16_takeParameters_2 lnX16_689 myX16_parametersOf viX16_parametersOf ⟨by decide, by decide⟩ rfl rfl k1 (Nat.le_of_ble_eq_true rfl) (Nat.le_refl _) (Nat.le_refl _) (ctX16_parametersOf e3 ?_)
  show pm_G g 5 [(0, .ref a0), (1, .long p1)] [.int v2] h 0 0
  refine pm_iconst (v := 1) C dX16_takeParameters_5 (by decide) ?_
  refine pm_isub C dX16_takeParameters_6 ?_
  obtain ⟨y4, e5, hf⟩ := pm_lt hf
  refine pm_topI e5 ?_
  refine pm_istore_n (lv' := [(3, .int y4), (0, .ref a0), (1, .long p1)]) C dX16_takeParameters_7 rfl (pt_nl X (by decide)) rfl ?_
  obtain ⟨n, hn⟩ := pm_lim_iter hf
  exact pm_sub [1, 2, 0] rfl ((lpX16_takeParameters C X q n) a0 p1 y4 h hn)
theorem dX16_takeResults_0 : decode cX16_takeResults 0 = .ok (.aload_n 0, 1) := by decide +kernel
theorem dX16_takeResults_1 : decode cX16_takeResults 1 = .ok (.lload_n 1, 1) := by decide +kernel
theorem dX16_takeResults_2 : decode cX16_takeResults 2 = .ok (.invokevirtual 698, 3) := by decide +kernel
theorem dX16_takeResults_5 : decode cX16_takeResults 5 = .ok (.iconst 1, 1) := by decide +kernel
theorem dX16_takeResults_6 : decode cX16_takeResults 6 = .ok (.isub, 1) := by decide +kernel
theorem dX16_takeResults_7 : decode cX16_takeResults 7 = .ok (.istore_n 3, 1) := by decide +kernel
theorem dX16_takeResults_8 : decode cX16_takeResults 8 = .ok (.iload_n 3, 1) := by decide +kernel
theorem dX16_takeResults_9 : decode cX16_takeResults 9 = .ok (.ifCond .lt 21, 3) := by decide +kernel
theorem dX16_takeResults_12 : decode cX16_takeResults 12 = .ok (.aload_n 0, 1) := by decide +kernel
theorem dX16_takeResults_13 : decode cX16_takeResults 13 = .ok (.aload_n 0, 1) := by decide +kernel
theorem dX16_takeResults_14 : decode cX16_takeResults 14 = .ok (.lload_n 1, 1) := by decide +kernel
theorem dX16_takeResults_15 : decode cX16_takeResults 15 = .ok (.iload_n 3, 1) := by decide +kernel
theorem dX16_takeResults_16 : decode cX16_takeResults 16 = .ok (.invokevirtual 701, 3) := by decide +kernel
theorem dX16_takeResults_19 : decode cX16_takeResults 19 = .ok (.invokevirtual 692, 3) := by decide +kernel
theorem dX16_takeResults_22 : decode cX16_takeResults 22 = .ok (.istore 4, 2) := by decide +kernel
theorem dX16_takeResults_24 : decode cX16_takeResults 24 = .ok (.iinc 3 (-1), 3) := by decide +kernel
theorem dX16_takeResults_27 : decode cX16_takeResults 27 = .ok (.goto (-19), 3) := by decide +kernel
theorem dX16_takeResults_30 : decode cX16_takeResults 30 = .ok (.return_, 1) := by decide +kernel
def tX16_takeResults_8 (x0 : Nat) (x1 : Int64) (x3 : Int32) (h : pm_H) : Option (((Nat × Int64 × Int32 × pm_H)) ⊕ ((Nat × pm_H) ⊕ pm_H)) := if x3 < 0 then (some (.inr (.inr (h)))) else (if pm_kd h x0 = 16 then (fX16_resultAt h x0 x1 x3).bind fun v8 => (fX16_take h x0 v8).bind fun v10 => pt_s v10 fun w12 => pm_let (x3 + (-1)) fun y14 => some (.inl ((x0, x1, y14, w12.2))) else none)
def sX16_takeResults : ((Nat × Int64 × Int32 × pm_H)) → Option (((Nat × Int64 × Int32 × pm_H)) ⊕ ((Nat × pm_H) ⊕ pm_H)) := fun z => match z with
  | (x0, x1, x3, h) => tX16_takeResults_8 x0 x1 x3 h
noncomputable def fX16_takeResults (h : pm_H) (a0 : Nat) (p1 : Int64) : Option ((Nat × pm_H) ⊕ pm_H) := if pm_kd h a0 = 16 then (fX16_resultsOf h a0 p1).bind fun v2 => pm_let (v2 - 1) fun y4 => pm_lim sX16_takeResults ((a0, p1, y4, h)) else none
set_option maxHeartbeats 4000000 in
set_option maxRecDepth 100000 in
theorem lpX16_takeResults {g : pm_Gm} {l : Launch} {G : pm_Gl} {Qr : Option Value → pm_H → Prop} {Qt : Nat → pm_H → Prop} (C : pm_C g cX16_takeResults RX16) (X : pm_XT g l G mX16_takeResults 0 0 Qr Qt) {r : ((Nat × pm_H) ⊕ pm_H)} (q : pt_eV Qr Qt r) : ∀ n : Nat, (∀ (x0 : Nat) (x1 : Int64) (x3 : Int32) (h : pm_H), pm_iter sX16_takeResults n (x0, x1, x3, h) = some r → pm_G g 8 [(0, .ref x0), (1, .long x1), (3, .int x3)] [] h 0 0) := by
  intro n
  induction n with
  | zero => exact fun _ _ _ _ hf => (by cases hf)
  | succ n ih =>
    refine fun x0 x1 x3 h hf => ?_
    obtain ⟨y, hf, hi⟩ := pm_iter_s hf
    have hf : tX16_takeResults_8 x0 x1 x3 h = some y := hf
    unfold tX16_takeResults_8 at hf
    refine pm_iload_n C dX16_takeResults_8 rfl rfl ?_
    refine pm_if_lt (tgt := 30) C dX16_takeResults_9 (by decide) (fun c6 => ?_) (fun c6 => ?_)
    · have hf := pm_it hf c6
      cases hf
      cases hi
      exact pt_vret C X dX16_takeResults_30 rfl (Nat.le_refl _) (Nat.le_refl _) q
    · have hf := pm_ie hf c6
      refine pm_aload_n C dX16_takeResults_12 rfl rfl ?_
      refine pm_aload_n C dX16_takeResults_13 rfl rfl ?_
      refine pm_lload_n C dX16_takeResults_14 rfl rfl ?_
      refine pm_iload_n C dX16_takeResults_15 rfl rfl ?_
      obtain ⟨k7, hf⟩ := pm_if hf
      obtain ⟨v8, e9, hf⟩ := pm_bd hf
      refine pt_callV (as := [.long x1, .int x3]) (st := [.ref x0]) C X dX16_takeResults_16 lnX16_701 myX16_resultAt viX16_resultAt ⟨by decide, by decide⟩ rfl rfl k7 (Nat.le_of_ble_eq_true rfl) (Nat.le_refl _) (Nat.le_refl _) (ctX16_resultAt e9 ?_)
      show pm_G g 19 [(0, .ref x0), (1, .long x1), (3, .int x3)] [.int v8, .ref x0] h 0 0
      obtain ⟨v10, e11, hf⟩ := pm_bd hf
      refine pt_callVT (as := [.int v8]) (st := []) C X dX16_takeResults_19 ltX16_692 myX16_take viX16_take ⟨by decide, by decide⟩ rfl rfl k7 (Nat.le_of_ble_eq_true rfl) (Nat.le_refl _) (Nat.le_refl _) (ctX16_take e11 ?_)
      rcases v10 with z13 | w12
      · have hf := pt_sl hf
        cases hf
        cases hi
        exact q
      have hf := pt_sr hf
      show pm_G g 22 [(0, .ref x0), (1, .long x1), (3, .int x3)] [.int w12.1] w12.2 0 0
      refine pm_istore (lv' := [(4, .int w12.1), (0, .ref x0), (1, .long x1), (3, .int x3)]) C dX16_takeResults_22 (pt_nl X (by decide)) rfl ?_
      obtain ⟨y14, e15, hf⟩ := pm_lt hf
      refine pm_iinc (v := y14) (lv' := [(3, .int y14), (4, .int w12.1), (0, .ref x0), (1, .long x1)]) C dX16_takeResults_24 rfl ((congrArg (x3 + ·) (by decide : Int32.ofInt (-1) = (-1))).trans e15) (pt_nl X (by decide)) rfl ?_
      refine pm_goto (tgt := 8) C dX16_takeResults_27 (by decide) ?_
      cases hf
      exact pm_sub [2, 3, 0] rfl (ih x0 x1 y14 w12.2 hi)
set_option maxHeartbeats 4000000 in
set_option maxRecDepth 100000 in
theorem ctX16_takeResults {l : Launch} {G : pm_Gl} {h : pm_H} {a0 : Nat} {p1 : Int64} {r : ((Nat × pm_H) ⊕ pm_H)} {Qr : Option Value → pm_H → Prop} {Qt : Nat → pm_H → Prop} (hf : fX16_takeResults h a0 p1 = some r) (q : pt_eV Qr Qt r) : pm_Ctt l G mX16_takeResults [.ref a0, .long p1] h 0 0 Qr Qt := by
  refine pm_bodyT pnX16 (Nat.le_of_ble_eq_true rfl) (fun g C X => ?_)
  have C : pm_C g cX16_takeResults RX16 := C
  show pm_G g 0 [(0, .ref a0), (1, .long p1)] [] h 0 0
  unfold fX16_takeResults at hf
  refine pm_aload_n C dX16_takeResults_0 rfl rfl ?_
  refine pm_lload_n C dX16_takeResults_1 rfl rfl ?_
  obtain ⟨k1, hf⟩ := pm_if hf
  obtain ⟨v2, e3, hf⟩ := pm_bd hf
  refine pt_callV (as := [.long p1]) (st := []) C X dX16_takeResults_2 lnX16_698 myX16_resultsOf viX16_resultsOf ⟨by decide, by decide⟩ rfl rfl k1 (Nat.le_of_ble_eq_true rfl) (Nat.le_refl _) (Nat.le_refl _) (ctX16_resultsOf e3 ?_)
  show pm_G g 5 [(0, .ref a0), (1, .long p1)] [.int v2] h 0 0
  refine pm_iconst (v := 1) C dX16_takeResults_5 (by decide) ?_
  refine pm_isub C dX16_takeResults_6 ?_
  obtain ⟨y4, e5, hf⟩ := pm_lt hf
  refine pm_topI e5 ?_
  refine pm_istore_n (lv' := [(3, .int y4), (0, .ref a0), (1, .long p1)]) C dX16_takeResults_7 rfl (pt_nl X (by decide)) rfl ?_
  obtain ⟨n, hn⟩ := pm_lim_iter hf
  exact pm_sub [1, 2, 0] rfl ((lpX16_takeResults C X q n) a0 p1 y4 h hn)
theorem dX16_takeWanted_0 : decode cX16_takeWanted 0 = .ok (.aload_n 0, 1) := by decide +kernel
theorem dX16_takeWanted_1 : decode cX16_takeWanted 1 = .ok (.iload_n 1, 1) := by decide +kernel
theorem dX16_takeWanted_2 : decode cX16_takeWanted 2 = .ok (.invokevirtual 704, 3) := by decide +kernel
theorem dX16_takeWanted_5 : decode cX16_takeWanted 5 = .ok (.iconst 1, 1) := by decide +kernel
theorem dX16_takeWanted_6 : decode cX16_takeWanted 6 = .ok (.isub, 1) := by decide +kernel
theorem dX16_takeWanted_7 : decode cX16_takeWanted 7 = .ok (.istore_n 2, 1) := by decide +kernel
theorem dX16_takeWanted_8 : decode cX16_takeWanted 8 = .ok (.iload_n 2, 1) := by decide +kernel
theorem dX16_takeWanted_9 : decode cX16_takeWanted 9 = .ok (.ifCond .lt 20, 3) := by decide +kernel
theorem dX16_takeWanted_12 : decode cX16_takeWanted 12 = .ok (.aload_n 0, 1) := by decide +kernel
theorem dX16_takeWanted_13 : decode cX16_takeWanted 13 = .ok (.aload_n 0, 1) := by decide +kernel
theorem dX16_takeWanted_14 : decode cX16_takeWanted 14 = .ok (.iload_n 1, 1) := by decide +kernel
theorem dX16_takeWanted_15 : decode cX16_takeWanted 15 = .ok (.iload_n 2, 1) := by decide +kernel
theorem dX16_takeWanted_16 : decode cX16_takeWanted 16 = .ok (.invokevirtual 707, 3) := by decide +kernel
theorem dX16_takeWanted_19 : decode cX16_takeWanted 19 = .ok (.invokevirtual 692, 3) := by decide +kernel
theorem dX16_takeWanted_22 : decode cX16_takeWanted 22 = .ok (.istore_n 3, 1) := by decide +kernel
theorem dX16_takeWanted_23 : decode cX16_takeWanted 23 = .ok (.iinc 2 (-1), 3) := by decide +kernel
theorem dX16_takeWanted_26 : decode cX16_takeWanted 26 = .ok (.goto (-18), 3) := by decide +kernel
theorem dX16_takeWanted_29 : decode cX16_takeWanted 29 = .ok (.return_, 1) := by decide +kernel
def tX16_takeWanted_8 (x0 : Nat) (x1 : Int32) (x2 : Int32) (h : pm_H) : Option (((Nat × Int32 × Int32 × pm_H)) ⊕ ((Nat × pm_H) ⊕ pm_H)) := if x2 < 0 then (some (.inr (.inr (h)))) else (if pm_kd h x0 = 16 then (fX16_wantedAt h x0 x1 x2).bind fun v8 => (fX16_take h x0 v8).bind fun v10 => pt_s v10 fun w12 => pm_let (x2 + (-1)) fun y14 => some (.inl ((x0, x1, y14, w12.2))) else none)
def sX16_takeWanted : ((Nat × Int32 × Int32 × pm_H)) → Option (((Nat × Int32 × Int32 × pm_H)) ⊕ ((Nat × pm_H) ⊕ pm_H)) := fun z => match z with
  | (x0, x1, x2, h) => tX16_takeWanted_8 x0 x1 x2 h
noncomputable def fX16_takeWanted (h : pm_H) (a0 : Nat) (p1 : Int32) : Option ((Nat × pm_H) ⊕ pm_H) := if pm_kd h a0 = 16 then (fX16_wantedBy h a0 p1).bind fun v2 => pm_let (v2 - 1) fun y4 => pm_lim sX16_takeWanted ((a0, p1, y4, h)) else none
set_option maxHeartbeats 4000000 in
set_option maxRecDepth 100000 in
theorem lpX16_takeWanted {g : pm_Gm} {l : Launch} {G : pm_Gl} {Qr : Option Value → pm_H → Prop} {Qt : Nat → pm_H → Prop} (C : pm_C g cX16_takeWanted RX16) (X : pm_XT g l G mX16_takeWanted 0 0 Qr Qt) {r : ((Nat × pm_H) ⊕ pm_H)} (q : pt_eV Qr Qt r) : ∀ n : Nat, (∀ (x0 : Nat) (x1 : Int32) (x2 : Int32) (h : pm_H), pm_iter sX16_takeWanted n (x0, x1, x2, h) = some r → pm_G g 8 [(0, .ref x0), (1, .int x1), (2, .int x2)] [] h 0 0) := by
  intro n
  induction n with
  | zero => exact fun _ _ _ _ hf => (by cases hf)
  | succ n ih =>
    refine fun x0 x1 x2 h hf => ?_
    obtain ⟨y, hf, hi⟩ := pm_iter_s hf
    have hf : tX16_takeWanted_8 x0 x1 x2 h = some y := hf
    unfold tX16_takeWanted_8 at hf
    refine pm_iload_n C dX16_takeWanted_8 rfl rfl ?_
    refine pm_if_lt (tgt := 29) C dX16_takeWanted_9 (by decide) (fun c6 => ?_) (fun c6 => ?_)
    · have hf := pm_it hf c6
      cases hf
      cases hi
      exact pt_vret C X dX16_takeWanted_29 rfl (Nat.le_refl _) (Nat.le_refl _) q
    · have hf := pm_ie hf c6
      refine pm_aload_n C dX16_takeWanted_12 rfl rfl ?_
      refine pm_aload_n C dX16_takeWanted_13 rfl rfl ?_
      refine pm_iload_n C dX16_takeWanted_14 rfl rfl ?_
      refine pm_iload_n C dX16_takeWanted_15 rfl rfl ?_
      obtain ⟨k7, hf⟩ := pm_if hf
      obtain ⟨v8, e9, hf⟩ := pm_bd hf
      refine pt_callV (as := [.int x1, .int x2]) (st := [.ref x0]) C X dX16_takeWanted_16 lnX16_707 myX16_wantedAt viX16_wantedAt ⟨by decide, by decide⟩ rfl rfl k7 (Nat.le_of_ble_eq_true rfl) (Nat.le_refl _) (Nat.le_refl _) (ctX16_wantedAt e9 ?_)
      show pm_G g 19 [(0, .ref x0), (1, .int x1), (2, .int x2)] [.int v8, .ref x0] h 0 0
      obtain ⟨v10, e11, hf⟩ := pm_bd hf
      refine pt_callVT (as := [.int v8]) (st := []) C X dX16_takeWanted_19 ltX16_692 myX16_take viX16_take ⟨by decide, by decide⟩ rfl rfl k7 (Nat.le_of_ble_eq_true rfl) (Nat.le_refl _) (Nat.le_refl _) (ctX16_take e11 ?_)
      rcases v10 with z13 | w12
      · have hf := pt_sl hf
        cases hf
        cases hi
        exact q
      have hf := pt_sr hf
      show pm_G g 22 [(0, .ref x0), (1, .int x1), (2, .int x2)] [.int w12.1] w12.2 0 0
      refine pm_istore_n (lv' := [(3, .int w12.1), (0, .ref x0), (1, .int x1), (2, .int x2)]) C dX16_takeWanted_22 rfl (pt_nl X (by decide)) rfl ?_
      obtain ⟨y14, e15, hf⟩ := pm_lt hf
      refine pm_iinc (v := y14) (lv' := [(2, .int y14), (3, .int w12.1), (0, .ref x0), (1, .int x1)]) C dX16_takeWanted_23 rfl ((congrArg (x2 + ·) (by decide : Int32.ofInt (-1) = (-1))).trans e15) (pt_nl X (by decide)) rfl ?_
      refine pm_goto (tgt := 8) C dX16_takeWanted_26 (by decide) ?_
      cases hf
      exact pm_sub [2, 3, 0] rfl (ih x0 x1 y14 w12.2 hi)
set_option maxHeartbeats 4000000 in
set_option maxRecDepth 100000 in
theorem ctX16_takeWanted {l : Launch} {G : pm_Gl} {h : pm_H} {a0 : Nat} {p1 : Int32} {r : ((Nat × pm_H) ⊕ pm_H)} {Qr : Option Value → pm_H → Prop} {Qt : Nat → pm_H → Prop} (hf : fX16_takeWanted h a0 p1 = some r) (q : pt_eV Qr Qt r) : pm_Ctt l G mX16_takeWanted [.ref a0, .int p1] h 0 0 Qr Qt := by
  refine pm_bodyT pnX16 (Nat.le_of_ble_eq_true rfl) (fun g C X => ?_)
  have C : pm_C g cX16_takeWanted RX16 := C
  show pm_G g 0 [(0, .ref a0), (1, .int p1)] [] h 0 0
  unfold fX16_takeWanted at hf
  refine pm_aload_n C dX16_takeWanted_0 rfl rfl ?_
  refine pm_iload_n C dX16_takeWanted_1 rfl rfl ?_
  obtain ⟨k1, hf⟩ := pm_if hf
  obtain ⟨v2, e3, hf⟩ := pm_bd hf
  refine pt_callV (as := [.int p1]) (st := []) C X dX16_takeWanted_2 lnX16_704 myX16_wantedBy viX16_wantedBy ⟨by decide, by decide⟩ rfl rfl k1 (Nat.le_of_ble_eq_true rfl) (Nat.le_refl _) (Nat.le_refl _) (ctX16_wantedBy e3 ?_)
  show pm_G g 5 [(0, .ref a0), (1, .int p1)] [.int v2] h 0 0
  refine pm_iconst (v := 1) C dX16_takeWanted_5 (by decide) ?_
  refine pm_isub C dX16_takeWanted_6 ?_
  obtain ⟨y4, e5, hf⟩ := pm_lt hf
  refine pm_topI e5 ?_
  refine pm_istore_n (lv' := [(2, .int y4), (0, .ref a0), (1, .int p1)]) C dX16_takeWanted_7 rfl (pt_nl X (by decide)) rfl ?_
  obtain ⟨n, hn⟩ := pm_lim_iter hf
  exact pm_sub [1, 2, 0] rfl ((lpX16_takeWanted C X q n) a0 p1 y4 h hn)
theorem dX16_takes_0 : decode cX16_takes 0 = .ok (.iconst 0, 1) := by decide +kernel
theorem dX16_takes_1 : decode cX16_takes 1 = .ok (.istore_n 3, 1) := by decide +kernel
theorem dX16_takes_2 : decode cX16_takes 2 = .ok (.iload_n 3, 1) := by decide +kernel
theorem dX16_takes_3 : decode cX16_takes 3 = .ok (.iload_n 2, 1) := by decide +kernel
theorem dX16_takes_4 : decode cX16_takes 4 = .ok (.if_icmp .ge 16, 3) := by decide +kernel
theorem dX16_takes_7 : decode cX16_takes 7 = .ok (.aload_n 0, 1) := by decide +kernel
theorem dX16_takes_8 : decode cX16_takes 8 = .ok (.iload_n 1, 1) := by decide +kernel
theorem dX16_takes_9 : decode cX16_takes 9 = .ok (.invokevirtual 692, 3) := by decide +kernel
theorem dX16_takes_12 : decode cX16_takes 12 = .ok (.istore 4, 2) := by decide +kernel
theorem dX16_takes_14 : decode cX16_takes 14 = .ok (.iinc 3 1, 3) := by decide +kernel
theorem dX16_takes_17 : decode cX16_takes 17 = .ok (.goto (-15), 3) := by decide +kernel
theorem dX16_takes_20 : decode cX16_takes 20 = .ok (.return_, 1) := by decide +kernel
def tX16_takes_2 (x0 : Nat) (x1 : Int32) (x2 : Int32) (x3 : Int32) (h : pm_H) : Option (((Nat × Int32 × Int32 × Int32 × pm_H)) ⊕ ((Nat × pm_H) ⊕ pm_H)) := if x2 ≤ x3 then (some (.inr (.inr (h)))) else (if pm_kd h x0 = 16 then (fX16_take h x0 x1).bind fun v3 => pt_s v3 fun w5 => pm_let (x3 + 1) fun y7 => some (.inl ((x0, x1, x2, y7, w5.2))) else none)
def sX16_takes : ((Nat × Int32 × Int32 × Int32 × pm_H)) → Option (((Nat × Int32 × Int32 × Int32 × pm_H)) ⊕ ((Nat × pm_H) ⊕ pm_H)) := fun z => match z with
  | (x0, x1, x2, x3, h) => tX16_takes_2 x0 x1 x2 x3 h
noncomputable def fX16_takes (h : pm_H) (a0 : Nat) (p1 : Int32) (p2 : Int32) : Option ((Nat × pm_H) ⊕ pm_H) := pm_lim sX16_takes ((a0, p1, p2, 0, h))
set_option maxHeartbeats 4000000 in
set_option maxRecDepth 100000 in
theorem lpX16_takes {g : pm_Gm} {l : Launch} {G : pm_Gl} {Qr : Option Value → pm_H → Prop} {Qt : Nat → pm_H → Prop} (C : pm_C g cX16_takes RX16) (X : pm_XT g l G mX16_takes 0 0 Qr Qt) {r : ((Nat × pm_H) ⊕ pm_H)} (q : pt_eV Qr Qt r) : ∀ n : Nat, (∀ (x0 : Nat) (x1 : Int32) (x2 : Int32) (x3 : Int32) (h : pm_H), pm_iter sX16_takes n (x0, x1, x2, x3, h) = some r → pm_G g 2 [(0, .ref x0), (1, .int x1), (2, .int x2), (3, .int x3)] [] h 0 0) := by
  intro n
  induction n with
  | zero => exact fun _ _ _ _ _ hf => (by cases hf)
  | succ n ih =>
    refine fun x0 x1 x2 x3 h hf => ?_
    obtain ⟨y, hf, hi⟩ := pm_iter_s hf
    have hf : tX16_takes_2 x0 x1 x2 x3 h = some y := hf
    unfold tX16_takes_2 at hf
    refine pm_iload_n C dX16_takes_2 rfl rfl ?_
    refine pm_iload_n C dX16_takes_3 rfl rfl ?_
    refine pm_icmp_ge (tgt := 20) C dX16_takes_4 (by decide) (fun c1 => ?_) (fun c1 => ?_)
    · have hf := pm_it hf c1
      cases hf
      cases hi
      exact pt_vret C X dX16_takes_20 rfl (Nat.le_refl _) (Nat.le_refl _) q
    · have hf := pm_ie hf c1
      refine pm_aload_n C dX16_takes_7 rfl rfl ?_
      refine pm_iload_n C dX16_takes_8 rfl rfl ?_
      obtain ⟨k2, hf⟩ := pm_if hf
      obtain ⟨v3, e4, hf⟩ := pm_bd hf
      refine pt_callVT (as := [.int x1]) (st := []) C X dX16_takes_9 ltX16_692 myX16_take viX16_take ⟨by decide, by decide⟩ rfl rfl k2 (Nat.le_of_ble_eq_true rfl) (Nat.le_refl _) (Nat.le_refl _) (ctX16_take e4 ?_)
      rcases v3 with z6 | w5
      · have hf := pt_sl hf
        cases hf
        cases hi
        exact q
      have hf := pt_sr hf
      show pm_G g 12 [(0, .ref x0), (1, .int x1), (2, .int x2), (3, .int x3)] [.int w5.1] w5.2 0 0
      refine pm_istore (lv' := [(4, .int w5.1), (0, .ref x0), (1, .int x1), (2, .int x2), (3, .int x3)]) C dX16_takes_12 (pt_nl X (by decide)) rfl ?_
      obtain ⟨y7, e8, hf⟩ := pm_lt hf
      refine pm_iinc (v := y7) (lv' := [(3, .int y7), (4, .int w5.1), (0, .ref x0), (1, .int x1), (2, .int x2)]) C dX16_takes_14 rfl ((congrArg (x3 + ·) (by decide : Int32.ofInt 1 = 1)).trans e8) (pt_nl X (by decide)) rfl ?_
      refine pm_goto (tgt := 2) C dX16_takes_17 (by decide) ?_
      cases hf
      exact pm_sub [2, 3, 4, 0] rfl (ih x0 x1 x2 y7 w5.2 hi)
set_option maxHeartbeats 4000000 in
set_option maxRecDepth 100000 in
theorem ctX16_takes {l : Launch} {G : pm_Gl} {h : pm_H} {a0 : Nat} {p1 : Int32} {p2 : Int32} {r : ((Nat × pm_H) ⊕ pm_H)} {Qr : Option Value → pm_H → Prop} {Qt : Nat → pm_H → Prop} (hf : fX16_takes h a0 p1 p2 = some r) (q : pt_eV Qr Qt r) : pm_Ctt l G mX16_takes [.ref a0, .int p1, .int p2] h 0 0 Qr Qt := by
  refine pm_bodyT pnX16 (Nat.le_of_ble_eq_true rfl) (fun g C X => ?_)
  have C : pm_C g cX16_takes RX16 := C
  show pm_G g 0 [(0, .ref a0), (1, .int p1), (2, .int p2)] [] h 0 0
  unfold fX16_takes at hf
  refine pm_iconst (v := 0) C dX16_takes_0 (by decide) ?_
  refine pm_istore_n (lv' := [(3, .int 0), (0, .ref a0), (1, .int p1), (2, .int p2)]) C dX16_takes_1 rfl (pt_nl X (by decide)) rfl ?_
  obtain ⟨n, hn⟩ := pm_lim_iter hf
  exact pm_sub [1, 2, 3, 0] rfl ((lpX16_takes C X q n) a0 p1 p2 0 h hn)
theorem dX16_begins_0 : decode cX16_begins 0 = .ok (.aload_n 0, 1) := by decide +kernel
theorem dX16_begins_1 : decode cX16_begins 1 = .ok (.getfield 682, 3) := by decide +kernel
theorem dX16_begins_4 : decode cX16_begins 4 = .ok (.sipush 200, 3) := by decide +kernel
theorem dX16_begins_7 : decode cX16_begins 7 = .ok (.if_icmp .ne 13, 3) := by decide +kernel
theorem dX16_begins_10 : decode cX16_begins 10 = .ok (.aload_n 0, 1) := by decide +kernel
theorem dX16_begins_11 : decode cX16_begins 11 = .ok (.bipush 40, 2) := by decide +kernel
theorem dX16_begins_13 : decode cX16_begins 13 = .ok (.aload_n 0, 1) := by decide +kernel
theorem dX16_begins_14 : decode cX16_begins 14 = .ok (.getfield 686, 3) := by decide +kernel
theorem dX16_begins_17 : decode cX16_begins 17 = .ok (.invokevirtual 257, 3) := by decide +kernel
theorem dX16_begins_20 : decode cX16_begins 20 = .ok (.aload_n 0, 1) := by decide +kernel
theorem dX16_begins_21 : decode cX16_begins 21 = .ok (.getfield 42, 3) := by decide +kernel
theorem dX16_begins_24 : decode cX16_begins 24 = .ok (.aload_n 0, 1) := by decide +kernel
theorem dX16_begins_25 : decode cX16_begins 25 = .ok (.getfield 682, 3) := by decide +kernel
theorem dX16_begins_28 : decode cX16_begins 28 = .ok (.iload_n 1, 1) := by decide +kernel
theorem dX16_begins_29 : decode cX16_begins 29 = .ok (.iastore, 1) := by decide +kernel
theorem dX16_begins_30 : decode cX16_begins 30 = .ok (.aload_n 0, 1) := by decide +kernel
theorem dX16_begins_31 : decode cX16_begins 31 = .ok (.getfield 45, 3) := by decide +kernel
theorem dX16_begins_34 : decode cX16_begins 34 = .ok (.aload_n 0, 1) := by decide +kernel
theorem dX16_begins_35 : decode cX16_begins 35 = .ok (.getfield 682, 3) := by decide +kernel
theorem dX16_begins_38 : decode cX16_begins 38 = .ok (.lload_n 2, 1) := by decide +kernel
theorem dX16_begins_39 : decode cX16_begins 39 = .ok (.lastore, 1) := by decide +kernel
theorem dX16_begins_40 : decode cX16_begins 40 = .ok (.aload_n 0, 1) := by decide +kernel
theorem dX16_begins_41 : decode cX16_begins 41 = .ok (.getfield 49, 3) := by decide +kernel
theorem dX16_begins_44 : decode cX16_begins 44 = .ok (.aload_n 0, 1) := by decide +kernel
theorem dX16_begins_45 : decode cX16_begins 45 = .ok (.getfield 682, 3) := by decide +kernel
theorem dX16_begins_48 : decode cX16_begins 48 = .ok (.aload_n 0, 1) := by decide +kernel
theorem dX16_begins_49 : decode cX16_begins 49 = .ok (.getfield 685, 3) := by decide +kernel
theorem dX16_begins_52 : decode cX16_begins 52 = .ok (.iastore, 1) := by decide +kernel
theorem dX16_begins_53 : decode cX16_begins 53 = .ok (.aload_n 0, 1) := by decide +kernel
theorem dX16_begins_54 : decode cX16_begins 54 = .ok (.getfield 52, 3) := by decide +kernel
theorem dX16_begins_57 : decode cX16_begins 57 = .ok (.aload_n 0, 1) := by decide +kernel
theorem dX16_begins_58 : decode cX16_begins 58 = .ok (.getfield 682, 3) := by decide +kernel
theorem dX16_begins_61 : decode cX16_begins 61 = .ok (.iconst 0, 1) := by decide +kernel
theorem dX16_begins_62 : decode cX16_begins 62 = .ok (.bastore, 1) := by decide +kernel
theorem dX16_begins_63 : decode cX16_begins 63 = .ok (.aload_n 0, 1) := by decide +kernel
theorem dX16_begins_64 : decode cX16_begins 64 = .ok (.dup, 1) := by decide +kernel
theorem dX16_begins_65 : decode cX16_begins 65 = .ok (.getfield 682, 3) := by decide +kernel
theorem dX16_begins_68 : decode cX16_begins 68 = .ok (.iconst 1, 1) := by decide +kernel
theorem dX16_begins_69 : decode cX16_begins 69 = .ok (.iadd, 1) := by decide +kernel
theorem dX16_begins_70 : decode cX16_begins 70 = .ok (.putfield 682, 3) := by decide +kernel
theorem dX16_begins_73 : decode cX16_begins 73 = .ok (.return_, 1) := by decide +kernel
def fX16_begins_b20 (h : pm_H) (x0 : Nat) (x1 : Int32) (x2 : Int64) : Option ((Nat × pm_H) ⊕ pm_H) := if pm_kd h x0 = 16 then (pm_R h x0 25).bind fun v8 => if pm_kd h v8 = 34 then if pm_in (pm_I h x0 24) (pm_ln h v8) then (pm_R (pm_setI h v8 ((pm_I h x0 24).toNatClampNeg) x1) x0 26).bind fun v12 => if pm_kd (pm_setI h v8 ((pm_I h x0 24).toNatClampNeg) x1) v12 = 35 then if pm_in (pm_I (pm_setI h v8 ((pm_I h x0 24).toNatClampNeg) x1) x0 24) (pm_ln (pm_setI h v8 ((pm_I h x0 24).toNatClampNeg) x1) v12) then (pm_R (pm_setL (pm_setI h v8 ((pm_I h x0 24).toNatClampNeg) x1) v12 ((pm_I (pm_setI h v8 ((pm_I h x0 24).toNatClampNeg) x1) x0 24).toNatClampNeg) x2) x0 27).bind fun v16 => pm_let (pm_I (pm_setL (pm_setI h v8 ((pm_I h x0 24).toNatClampNeg) x1) v12 ((pm_I (pm_setI h v8 ((pm_I h x0 24).toNatClampNeg) x1) x0 24).toNatClampNeg) x2) x0 23) fun y18 => if pm_kd (pm_setL (pm_setI h v8 ((pm_I h x0 24).toNatClampNeg) x1) v12 ((pm_I (pm_setI h v8 ((pm_I h x0 24).toNatClampNeg) x1) x0 24).toNatClampNeg) x2) v16 = 34 then if pm_in (pm_I (pm_setL (pm_setI h v8 ((pm_I h x0 24).toNatClampNeg) x1) v12 ((pm_I (pm_setI h v8 ((pm_I h x0 24).toNatClampNeg) x1) x0 24).toNatClampNeg) x2) x0 24) (pm_ln (pm_setL (pm_setI h v8 ((pm_I h x0 24).toNatClampNeg) x1) v12 ((pm_I (pm_setI h v8 ((pm_I h x0 24).toNatClampNeg) x1) x0 24).toNatClampNeg) x2) v16) then (pm_R (pm_setI (pm_setL (pm_setI h v8 ((pm_I h x0 24).toNatClampNeg) x1) v12 ((pm_I (pm_setI h v8 ((pm_I h x0 24).toNatClampNeg) x1) x0 24).toNatClampNeg) x2) v16 ((pm_I (pm_setL (pm_setI h v8 ((pm_I h x0 24).toNatClampNeg) x1) v12 ((pm_I (pm_setI h v8 ((pm_I h x0 24).toNatClampNeg) x1) x0 24).toNatClampNeg) x2) x0 24).toNatClampNeg) y18) x0 28).bind fun v22 => if pm_kd (pm_setI (pm_setL (pm_setI h v8 ((pm_I h x0 24).toNatClampNeg) x1) v12 ((pm_I (pm_setI h v8 ((pm_I h x0 24).toNatClampNeg) x1) x0 24).toNatClampNeg) x2) v16 ((pm_I (pm_setL (pm_setI h v8 ((pm_I h x0 24).toNatClampNeg) x1) v12 ((pm_I (pm_setI h v8 ((pm_I h x0 24).toNatClampNeg) x1) x0 24).toNatClampNeg) x2) x0 24).toNatClampNeg) y18) v22 = 32 then if pm_in (pm_I (pm_setI (pm_setL (pm_setI h v8 ((pm_I h x0 24).toNatClampNeg) x1) v12 ((pm_I (pm_setI h v8 ((pm_I h x0 24).toNatClampNeg) x1) x0 24).toNatClampNeg) x2) v16 ((pm_I (pm_setL (pm_setI h v8 ((pm_I h x0 24).toNatClampNeg) x1) v12 ((pm_I (pm_setI h v8 ((pm_I h x0 24).toNatClampNeg) x1) x0 24).toNatClampNeg) x2) x0 24).toNatClampNeg) y18) x0 24) (pm_ln (pm_setI (pm_setL (pm_setI h v8 ((pm_I h x0 24).toNatClampNeg) x1) v12 ((pm_I (pm_setI h v8 ((pm_I h x0 24).toNatClampNeg) x1) x0 24).toNatClampNeg) x2) v16 ((pm_I (pm_setL (pm_setI h v8 ((pm_I h x0 24).toNatClampNeg) x1) v12 ((pm_I (pm_setI h v8 ((pm_I h x0 24).toNatClampNeg) x1) x0 24).toNatClampNeg) x2) x0 24).toNatClampNeg) y18) v22) then pm_let ((pm_I (pm_setI (pm_setI (pm_setL (pm_setI h v8 ((pm_I h x0 24).toNatClampNeg) x1) v12 ((pm_I (pm_setI h v8 ((pm_I h x0 24).toNatClampNeg) x1) x0 24).toNatClampNeg) x2) v16 ((pm_I (pm_setL (pm_setI h v8 ((pm_I h x0 24).toNatClampNeg) x1) v12 ((pm_I (pm_setI h v8 ((pm_I h x0 24).toNatClampNeg) x1) x0 24).toNatClampNeg) x2) x0 24).toNatClampNeg) y18) v22 ((pm_I (pm_setI (pm_setL (pm_setI h v8 ((pm_I h x0 24).toNatClampNeg) x1) v12 ((pm_I (pm_setI h v8 ((pm_I h x0 24).toNatClampNeg) x1) x0 24).toNatClampNeg) x2) v16 ((pm_I (pm_setL (pm_setI h v8 ((pm_I h x0 24).toNatClampNeg) x1) v12 ((pm_I (pm_setI h v8 ((pm_I h x0 24).toNatClampNeg) x1) x0 24).toNatClampNeg) x2) x0 24).toNatClampNeg) y18) x0 24).toNatClampNeg) (vp_nar .boolean 0)) x0 24) + 1) fun y26 => some (.inr (pm_setI (pm_setI (pm_setI (pm_setL (pm_setI h v8 ((pm_I h x0 24).toNatClampNeg) x1) v12 ((pm_I (pm_setI h v8 ((pm_I h x0 24).toNatClampNeg) x1) x0 24).toNatClampNeg) x2) v16 ((pm_I (pm_setL (pm_setI h v8 ((pm_I h x0 24).toNatClampNeg) x1) v12 ((pm_I (pm_setI h v8 ((pm_I h x0 24).toNatClampNeg) x1) x0 24).toNatClampNeg) x2) x0 24).toNatClampNeg) y18) v22 ((pm_I (pm_setI (pm_setL (pm_setI h v8 ((pm_I h x0 24).toNatClampNeg) x1) v12 ((pm_I (pm_setI h v8 ((pm_I h x0 24).toNatClampNeg) x1) x0 24).toNatClampNeg) x2) v16 ((pm_I (pm_setL (pm_setI h v8 ((pm_I h x0 24).toNatClampNeg) x1) v12 ((pm_I (pm_setI h v8 ((pm_I h x0 24).toNatClampNeg) x1) x0 24).toNatClampNeg) x2) x0 24).toNatClampNeg) y18) x0 24).toNatClampNeg) (vp_nar .boolean 0)) x0 24 y26)) else none else none else none else none else none else none else none else none else none
def fX16_begins (h : pm_H) (a0 : Nat) (p1 : Int32) (p2 : Int64) : Option ((Nat × pm_H) ⊕ pm_H) := if pm_kd h a0 = 16 then if (pm_I h a0 24) = 200 then ((fX16_stops h a0 40 (pm_I h a0 31)).bind fun v3 => pt_k v3 fun w5 => fX16_begins_b20 w5 a0 p1 p2) else (fX16_begins_b20 h a0 p1 p2) else none
set_option maxHeartbeats 4000000 in
set_option maxRecDepth 100000 in
theorem bX16_begins_20 {g : pm_Gm} {l : Launch} {G : pm_Gl} {Qr : Option Value → pm_H → Prop} {Qt : Nat → pm_H → Prop} (C : pm_C g cX16_begins RX16) (X : pm_XT g l G mX16_begins 0 0 Qr Qt) {h : pm_H} {x0 : Nat} {x1 : Int32} {x2 : Int64} {r : ((Nat × pm_H) ⊕ pm_H)} (hf : fX16_begins_b20 h x0 x1 x2 = some r) (q : pt_eV Qr Qt r) : pm_G g 20 [(0, .ref x0), (1, .int x1), (2, .long x2)] [] h 0 0 := by
  unfold fX16_begins_b20 at hf
  refine pm_aload_n C dX16_begins_20 rfl rfl ?_
  obtain ⟨k7, hf⟩ := pm_if hf
  obtain ⟨v8, e9, hf⟩ := pm_bd hf
  refine pm_getR C dX16_begins_21 flX16_42 rfl k7 e9 ?_
  refine pm_aload_n C dX16_begins_24 rfl rfl ?_
  refine pm_getI C dX16_begins_25 flX16_682 rfl k7 rfl ?_
  refine pm_iload_n C dX16_begins_28 rfl rfl ?_
  obtain ⟨k10, hf⟩ := pm_if hf
  obtain ⟨u11, hf⟩ := pm_if hf
  refine pm_iast C dX16_begins_29 k10 u11 ?_
  refine pm_aload_n C dX16_begins_30 rfl rfl ?_
  obtain ⟨v12, e13, hf⟩ := pm_bd hf
  refine pm_getR C dX16_begins_31 flX16_45 rfl k7 e13 ?_
  refine pm_aload_n C dX16_begins_34 rfl rfl ?_
  refine pm_getI C dX16_begins_35 flX16_682 rfl k7 rfl ?_
  refine pm_lload_n C dX16_begins_38 rfl rfl ?_
  obtain ⟨k14, hf⟩ := pm_if hf
  obtain ⟨u15, hf⟩ := pm_if hf
  refine pm_last C dX16_begins_39 k14 u15 ?_
  refine pm_aload_n C dX16_begins_40 rfl rfl ?_
  obtain ⟨v16, e17, hf⟩ := pm_bd hf
  refine pm_getR C dX16_begins_41 flX16_49 rfl k7 e17 ?_
  refine pm_aload_n C dX16_begins_44 rfl rfl ?_
  refine pm_getI C dX16_begins_45 flX16_682 rfl k7 rfl ?_
  refine pm_aload_n C dX16_begins_48 rfl rfl ?_
  refine pm_getI C dX16_begins_49 flX16_685 rfl k7 rfl ?_
  obtain ⟨y18, e19, hf⟩ := pm_lt hf
  refine pm_topI e19 ?_
  obtain ⟨k20, hf⟩ := pm_if hf
  obtain ⟨u21, hf⟩ := pm_if hf
  refine pm_iast C dX16_begins_52 k20 u21 ?_
  refine pm_aload_n C dX16_begins_53 rfl rfl ?_
  obtain ⟨v22, e23, hf⟩ := pm_bd hf
  refine pm_getR C dX16_begins_54 flX16_52 rfl k7 e23 ?_
  refine pm_aload_n C dX16_begins_57 rfl rfl ?_
  refine pm_getI C dX16_begins_58 flX16_682 rfl k7 rfl ?_
  refine pm_iconst (v := 0) C dX16_begins_61 (by decide) ?_
  obtain ⟨k24, hf⟩ := pm_if hf
  obtain ⟨u25, hf⟩ := pm_if hf
  refine pm_zast C dX16_begins_62 k24 u25 ?_
  refine pm_aload_n C dX16_begins_63 rfl rfl ?_
  refine pm_dup C dX16_begins_64 rfl ?_
  refine pm_getI C dX16_begins_65 flX16_682 rfl k7 rfl ?_
  refine pm_iconst (v := 1) C dX16_begins_68 (by decide) ?_
  refine pm_iadd C dX16_begins_69 ?_
  obtain ⟨y26, e27, hf⟩ := pm_lt hf
  refine pm_topI e27 ?_
  refine pm_putI C dX16_begins_70 flX16_682 rfl rfl k7 rfl rfl ?_
  cases hf
  exact pt_vret C X dX16_begins_73 rfl (Nat.le_refl _) (Nat.le_refl _) q
set_option maxHeartbeats 4000000 in
set_option maxRecDepth 100000 in
theorem ctX16_begins {l : Launch} {G : pm_Gl} {h : pm_H} {a0 : Nat} {p1 : Int32} {p2 : Int64} {r : ((Nat × pm_H) ⊕ pm_H)} {Qr : Option Value → pm_H → Prop} {Qt : Nat → pm_H → Prop} (hf : fX16_begins h a0 p1 p2 = some r) (q : pt_eV Qr Qt r) : pm_Ctt l G mX16_begins [.ref a0, .int p1, .long p2] h 0 0 Qr Qt := by
  refine pm_bodyT pnX16 (Nat.le_of_ble_eq_true rfl) (fun g C X => ?_)
  have C : pm_C g cX16_begins RX16 := C
  show pm_G g 0 [(0, .ref a0), (1, .int p1), (2, .long p2)] [] h 0 0
  unfold fX16_begins at hf
  refine pm_aload_n C dX16_begins_0 rfl rfl ?_
  obtain ⟨k1, hf⟩ := pm_if hf
  refine pm_getI C dX16_begins_1 flX16_682 rfl k1 rfl ?_
  refine pm_sipush (v := 200) C dX16_begins_4 (by decide) ?_
  refine pm_icmp_ne (tgt := 20) C dX16_begins_7 (by decide) (fun c2 => ?_) (fun c2 => ?_)
  · have hf := pm_ie hf c2
    exact pm_sub [0, 1, 2] rfl (bX16_begins_20 C X hf q)
  · have hf := pm_it hf c2
    refine pm_aload_n C dX16_begins_10 rfl rfl ?_
    refine pm_bipush (v := 40) C dX16_begins_11 (by decide) ?_
    refine pm_aload_n C dX16_begins_13 rfl rfl ?_
    refine pm_getI C dX16_begins_14 flX16_686 rfl k1 rfl ?_
    obtain ⟨v3, e4, hf⟩ := pm_bd hf
    refine pt_callVT (as := [.int 40, .int (pm_I h a0 31)]) (st := []) C X dX16_begins_17 ltX16_257 myX16_stops viX16_stops ⟨by decide, by decide⟩ rfl rfl k1 (Nat.le_of_ble_eq_true rfl) (Nat.le_refl _) (Nat.le_refl _) (ctX16_stops e4 ?_)
    rcases v3 with z6 | w5
    · have hf := pt_kl hf
      cases hf
      exact q
    have hf := pt_kr hf
    show pm_G g 20 [(0, .ref a0), (1, .int p1), (2, .long p2)] [] w5 0 0
    exact pm_sub [0, 1, 2] rfl (bX16_begins_20 C X hf q)
theorem dX16_character_0 : decode cX16_character 0 = .ok (.aload_n 0, 1) := by decide +kernel
theorem dX16_character_1 : decode cX16_character 1 = .ok (.getfield 221, 3) := by decide +kernel
theorem dX16_character_4 : decode cX16_character 4 = .ok (.iload_n 1, 1) := by decide +kernel
theorem dX16_character_5 : decode cX16_character 5 = .ok (.invokevirtual 261, 3) := by decide +kernel
theorem dX16_character_8 : decode cX16_character 8 = .ok (.istore_n 3, 1) := by decide +kernel
theorem dX16_character_9 : decode cX16_character 9 = .ok (.iload_n 3, 1) := by decide +kernel
theorem dX16_character_10 : decode cX16_character 10 = .ok (.sipush 128, 3) := by decide +kernel
theorem dX16_character_13 : decode cX16_character 13 = .ok (.if_icmp .ge 7, 3) := by decide +kernel
theorem dX16_character_16 : decode cX16_character 16 = .ok (.iconst 0, 1) := by decide +kernel
theorem dX16_character_17 : decode cX16_character 17 = .ok (.goto 59, 3) := by decide +kernel
theorem dX16_character_20 : decode cX16_character 20 = .ok (.iload_n 3, 1) := by decide +kernel
theorem dX16_character_21 : decode cX16_character 21 = .ok (.sipush 192, 3) := by decide +kernel
theorem dX16_character_24 : decode cX16_character 24 = .ok (.if_icmp .lt 14, 3) := by decide +kernel
theorem dX16_character_27 : decode cX16_character 27 = .ok (.iload_n 3, 1) := by decide +kernel
theorem dX16_character_28 : decode cX16_character 28 = .ok (.sipush 224, 3) := by decide +kernel
theorem dX16_character_31 : decode cX16_character 31 = .ok (.if_icmp .ge 7, 3) := by decide +kernel
theorem dX16_character_34 : decode cX16_character 34 = .ok (.iconst 1, 1) := by decide +kernel
theorem dX16_character_35 : decode cX16_character 35 = .ok (.goto 41, 3) := by decide +kernel
theorem dX16_character_38 : decode cX16_character 38 = .ok (.iload_n 3, 1) := by decide +kernel
theorem dX16_character_39 : decode cX16_character 39 = .ok (.sipush 224, 3) := by decide +kernel
theorem dX16_character_42 : decode cX16_character 42 = .ok (.if_icmp .lt 14, 3) := by decide +kernel
theorem dX16_character_45 : decode cX16_character 45 = .ok (.iload_n 3, 1) := by decide +kernel
theorem dX16_character_46 : decode cX16_character 46 = .ok (.sipush 240, 3) := by decide +kernel
theorem dX16_character_49 : decode cX16_character 49 = .ok (.if_icmp .ge 7, 3) := by decide +kernel
theorem dX16_character_52 : decode cX16_character 52 = .ok (.iconst 2, 1) := by decide +kernel
theorem dX16_character_53 : decode cX16_character 53 = .ok (.goto 23, 3) := by decide +kernel
theorem dX16_character_56 : decode cX16_character 56 = .ok (.iload_n 3, 1) := by decide +kernel
theorem dX16_character_57 : decode cX16_character 57 = .ok (.sipush 240, 3) := by decide +kernel
theorem dX16_character_60 : decode cX16_character 60 = .ok (.if_icmp .lt 14, 3) := by decide +kernel
theorem dX16_character_63 : decode cX16_character 63 = .ok (.iload_n 3, 1) := by decide +kernel
theorem dX16_character_64 : decode cX16_character 64 = .ok (.sipush 248, 3) := by decide +kernel
theorem dX16_character_67 : decode cX16_character 67 = .ok (.if_icmp .ge 7, 3) := by decide +kernel
theorem dX16_character_70 : decode cX16_character 70 = .ok (.iconst 3, 1) := by decide +kernel
theorem dX16_character_71 : decode cX16_character 71 = .ok (.goto 5, 3) := by decide +kernel
theorem dX16_character_74 : decode cX16_character 74 = .ok (.bipush 9, 2) := by decide +kernel
theorem dX16_character_76 : decode cX16_character 76 = .ok (.istore 4, 2) := by decide +kernel
theorem dX16_character_78 : decode cX16_character 78 = .ok (.iload_n 1, 1) := by decide +kernel
theorem dX16_character_79 : decode cX16_character 79 = .ok (.iload 4, 2) := by decide +kernel
theorem dX16_character_81 : decode cX16_character 81 = .ok (.iadd, 1) := by decide +kernel
theorem dX16_character_82 : decode cX16_character 82 = .ok (.iload_n 2, 1) := by decide +kernel
theorem dX16_character_83 : decode cX16_character 83 = .ok (.if_icmp .lt 10, 3) := by decide +kernel
theorem dX16_character_86 : decode cX16_character 86 = .ok (.aload_n 0, 1) := by decide +kernel
theorem dX16_character_87 : decode cX16_character 87 = .ok (.bipush 9, 2) := by decide +kernel
theorem dX16_character_89 : decode cX16_character 89 = .ok (.iload_n 1, 1) := by decide +kernel
theorem dX16_character_90 : decode cX16_character 90 = .ok (.invokevirtual 257, 3) := by decide +kernel
theorem dX16_character_93 : decode cX16_character 93 = .ok (.iload 4, 2) := by decide +kernel
theorem dX16_character_95 : decode cX16_character 95 = .ok (.ifCond .ne 7, 3) := by decide +kernel
theorem dX16_character_98 : decode cX16_character 98 = .ok (.iload_n 3, 1) := by decide +kernel
theorem dX16_character_99 : decode cX16_character 99 = .ok (.goto 33, 3) := by decide +kernel
theorem dX16_character_102 : decode cX16_character 102 = .ok (.iload 4, 2) := by decide +kernel
theorem dX16_character_104 : decode cX16_character 104 = .ok (.iconst 1, 1) := by decide +kernel
theorem dX16_character_105 : decode cX16_character 105 = .ok (.if_icmp .ne 10, 3) := by decide +kernel
theorem dX16_character_108 : decode cX16_character 108 = .ok (.iload_n 3, 1) := by decide +kernel
theorem dX16_character_109 : decode cX16_character 109 = .ok (.bipush 31, 2) := by decide +kernel
theorem dX16_character_111 : decode cX16_character 111 = .ok (.iand, 1) := by decide +kernel
theorem dX16_character_112 : decode cX16_character 112 = .ok (.goto 20, 3) := by decide +kernel
theorem dX16_character_115 : decode cX16_character 115 = .ok (.iload 4, 2) := by decide +kernel
theorem dX16_character_117 : decode cX16_character 117 = .ok (.iconst 2, 1) := by decide +kernel
theorem dX16_character_118 : decode cX16_character 118 = .ok (.if_icmp .ne 10, 3) := by decide +kernel
theorem dX16_character_121 : decode cX16_character 121 = .ok (.iload_n 3, 1) := by decide +kernel
theorem dX16_character_122 : decode cX16_character 122 = .ok (.bipush 15, 2) := by decide +kernel
theorem dX16_character_124 : decode cX16_character 124 = .ok (.iand, 1) := by decide +kernel
theorem dX16_character_125 : decode cX16_character 125 = .ok (.goto 7, 3) := by decide +kernel
theorem dX16_character_128 : decode cX16_character 128 = .ok (.iload_n 3, 1) := by decide +kernel
theorem dX16_character_129 : decode cX16_character 129 = .ok (.bipush 7, 2) := by decide +kernel
theorem dX16_character_131 : decode cX16_character 131 = .ok (.iand, 1) := by decide +kernel
theorem dX16_character_132 : decode cX16_character 132 = .ok (.istore 5, 2) := by decide +kernel
theorem dX16_character_134 : decode cX16_character 134 = .ok (.iconst 1, 1) := by decide +kernel
theorem dX16_character_135 : decode cX16_character 135 = .ok (.istore 6, 2) := by decide +kernel
theorem dX16_character_137 : decode cX16_character 137 = .ok (.iload 6, 2) := by decide +kernel
theorem dX16_character_139 : decode cX16_character 139 = .ok (.iload 4, 2) := by decide +kernel
theorem dX16_character_141 : decode cX16_character 141 = .ok (.if_icmp .gt 51, 3) := by decide +kernel
theorem dX16_character_144 : decode cX16_character 144 = .ok (.aload_n 0, 1) := by decide +kernel
theorem dX16_character_145 : decode cX16_character 145 = .ok (.getfield 221, 3) := by decide +kernel
theorem dX16_character_148 : decode cX16_character 148 = .ok (.iload_n 1, 1) := by decide +kernel
theorem dX16_character_149 : decode cX16_character 149 = .ok (.iload 6, 2) := by decide +kernel
theorem dX16_character_151 : decode cX16_character 151 = .ok (.iadd, 1) := by decide +kernel
theorem dX16_character_152 : decode cX16_character 152 = .ok (.invokevirtual 261, 3) := by decide +kernel
theorem dX16_character_155 : decode cX16_character 155 = .ok (.istore 7, 2) := by decide +kernel
theorem dX16_character_157 : decode cX16_character 157 = .ok (.iload 7, 2) := by decide +kernel
theorem dX16_character_159 : decode cX16_character 159 = .ok (.bipush 6, 2) := by decide +kernel
theorem dX16_character_161 : decode cX16_character 161 = .ok (.ishr, 1) := by decide +kernel
theorem dX16_character_162 : decode cX16_character 162 = .ok (.iconst 2, 1) := by decide +kernel
theorem dX16_character_163 : decode cX16_character 163 = .ok (.if_icmp .eq 10, 3) := by decide +kernel
theorem dX16_character_166 : decode cX16_character 166 = .ok (.aload_n 0, 1) := by decide +kernel
theorem dX16_character_167 : decode cX16_character 167 = .ok (.bipush 9, 2) := by decide +kernel
theorem dX16_character_169 : decode cX16_character 169 = .ok (.iload_n 1, 1) := by decide +kernel
theorem dX16_character_170 : decode cX16_character 170 = .ok (.invokevirtual 257, 3) := by decide +kernel
theorem dX16_character_173 : decode cX16_character 173 = .ok (.iload 5, 2) := by decide +kernel
theorem dX16_character_175 : decode cX16_character 175 = .ok (.bipush 6, 2) := by decide +kernel
theorem dX16_character_177 : decode cX16_character 177 = .ok (.ishl, 1) := by decide +kernel
theorem dX16_character_178 : decode cX16_character 178 = .ok (.iload 7, 2) := by decide +kernel
theorem dX16_character_180 : decode cX16_character 180 = .ok (.bipush 63, 2) := by decide +kernel
theorem dX16_character_182 : decode cX16_character 182 = .ok (.iand, 1) := by decide +kernel
theorem dX16_character_183 : decode cX16_character 183 = .ok (.ior, 1) := by decide +kernel
theorem dX16_character_184 : decode cX16_character 184 = .ok (.istore 5, 2) := by decide +kernel
theorem dX16_character_186 : decode cX16_character 186 = .ok (.iinc 6 1, 3) := by decide +kernel
theorem dX16_character_189 : decode cX16_character 189 = .ok (.goto (-52), 3) := by decide +kernel
theorem dX16_character_192 : decode cX16_character 192 = .ok (.iload 4, 2) := by decide +kernel
theorem dX16_character_194 : decode cX16_character 194 = .ok (.ifCond .eq 69, 3) := by decide +kernel
theorem dX16_character_197 : decode cX16_character 197 = .ok (.iload 4, 2) := by decide +kernel
theorem dX16_character_199 : decode cX16_character 199 = .ok (.iconst 1, 1) := by decide +kernel
theorem dX16_character_200 : decode cX16_character 200 = .ok (.if_icmp .ne 11, 3) := by decide +kernel
theorem dX16_character_203 : decode cX16_character 203 = .ok (.iload 5, 2) := by decide +kernel
theorem dX16_character_205 : decode cX16_character 205 = .ok (.sipush 128, 3) := by decide +kernel
theorem dX16_character_208 : decode cX16_character 208 = .ok (.if_icmp .ge 55, 3) := by decide +kernel
theorem dX16_character_211 : decode cX16_character 211 = .ok (.iload 4, 2) := by decide +kernel
theorem dX16_character_213 : decode cX16_character 213 = .ok (.iconst 2, 1) := by decide +kernel
theorem dX16_character_214 : decode cX16_character 214 = .ok (.if_icmp .ne 27, 3) := by decide +kernel
theorem dX16_character_217 : decode cX16_character 217 = .ok (.iload 5, 2) := by decide +kernel
theorem dX16_character_219 : decode cX16_character 219 = .ok (.sipush 2048, 3) := by decide +kernel
theorem dX16_character_222 : decode cX16_character 222 = .ok (.if_icmp .lt 19, 3) := by decide +kernel
theorem dX16_character_225 : decode cX16_character 225 = .ok (.iload 5, 2) := by decide +kernel
theorem dX16_character_227 : decode cX16_character 227 = .ok (.ldc_w 288, 3) := by decide +kernel
theorem dX16_character_230 : decode cX16_character 230 = .ok (.if_icmp .lt 33, 3) := by decide +kernel
theorem dX16_character_233 : decode cX16_character 233 = .ok (.iload 5, 2) := by decide +kernel
theorem dX16_character_235 : decode cX16_character 235 = .ok (.ldc_w 289, 3) := by decide +kernel
theorem dX16_character_238 : decode cX16_character 238 = .ok (.if_icmp .gt 25, 3) := by decide +kernel
theorem dX16_character_241 : decode cX16_character 241 = .ok (.iload 4, 2) := by decide +kernel
theorem dX16_character_243 : decode cX16_character 243 = .ok (.iconst 3, 1) := by decide +kernel
theorem dX16_character_244 : decode cX16_character 244 = .ok (.if_icmp .ne 23, 3) := by decide +kernel
theorem dX16_character_247 : decode cX16_character 247 = .ok (.iload 5, 2) := by decide +kernel
theorem dX16_character_249 : decode cX16_character 249 = .ok (.ldc_w 290, 3) := by decide +kernel
theorem dX16_character_252 : decode cX16_character 252 = .ok (.if_icmp .lt 15, 3) := by decide +kernel
theorem dX16_character_255 : decode cX16_character 255 = .ok (.iload 5, 2) := by decide +kernel
theorem dX16_character_257 : decode cX16_character 257 = .ok (.ldc_w 291, 3) := by decide +kernel
theorem dX16_character_260 : decode cX16_character 260 = .ok (.if_icmp .gt 7, 3) := by decide +kernel
theorem dX16_character_263 : decode cX16_character 263 = .ok (.iconst 1, 1) := by decide +kernel
theorem dX16_character_264 : decode cX16_character 264 = .ok (.goto 4, 3) := by decide +kernel
theorem dX16_character_267 : decode cX16_character 267 = .ok (.iconst 0, 1) := by decide +kernel
theorem dX16_character_268 : decode cX16_character 268 = .ok (.istore 6, 2) := by decide +kernel
theorem dX16_character_270 : decode cX16_character 270 = .ok (.iload 6, 2) := by decide +kernel
theorem dX16_character_272 : decode cX16_character 272 = .ok (.ifCond .ne 10, 3) := by decide +kernel
theorem dX16_character_275 : decode cX16_character 275 = .ok (.aload_n 0, 1) := by decide +kernel
theorem dX16_character_276 : decode cX16_character 276 = .ok (.bipush 9, 2) := by decide +kernel
theorem dX16_character_278 : decode cX16_character 278 = .ok (.iload_n 1, 1) := by decide +kernel
theorem dX16_character_279 : decode cX16_character 279 = .ok (.invokevirtual 257, 3) := by decide +kernel
theorem dX16_character_282 : decode cX16_character 282 = .ok (.iload 4, 2) := by decide +kernel
theorem dX16_character_284 : decode cX16_character 284 = .ok (.iconst 1, 1) := by decide +kernel
theorem dX16_character_285 : decode cX16_character 285 = .ok (.iadd, 1) := by decide +kernel
theorem dX16_character_286 : decode cX16_character 286 = .ok (.ireturn, 1) := by decide +kernel
def tX16_character_38 (x0 : Nat) (x1 : Int32) (x2 : Int32) (x3 : Int32) (h : pm_H) : Option (((Nat × Int32 × Int32 × Int32 × pm_H) ⊕ (Nat × Int32 × Int32 × Int32 × Int32 × pm_H) ⊕ (Nat × Int32 × Int32 × Int32 × pm_H) ⊕ (Nat × Int32 × Int32 × Int32 × Int32 × pm_H) ⊕ (Nat × Int32 × Int32 × pm_H) ⊕ (Nat × Int32 × Int32 × Int32 × pm_H) ⊕ (Nat × Int32 × Int32 × Int32 × pm_H) ⊕ (Nat × Int32 × Int32 × pm_H)) ⊕ ((Nat × pm_H) ⊕ (Int32 × pm_H))) := if x3 < 224 then (if x3 < 240 then (some (.inl (.inr (.inl ((x0, x1, x2, x3, 9, h)))))) else (if 248 ≤ x3 then (some (.inl (.inr (.inl ((x0, x1, x2, x3, 9, h)))))) else (some (.inl (.inr (.inl ((x0, x1, x2, x3, 3, h)))))))) else (if 240 ≤ x3 then (if x3 < 240 then (some (.inl (.inr (.inl ((x0, x1, x2, x3, 9, h)))))) else (if 248 ≤ x3 then (some (.inl (.inr (.inl ((x0, x1, x2, x3, 9, h)))))) else (some (.inl (.inr (.inl ((x0, x1, x2, x3, 3, h)))))))) else (some (.inl (.inr (.inl ((x0, x1, x2, x3, 2, h)))))))
def tX16_character_76 (x0 : Nat) (x1 : Int32) (x2 : Int32) (x3 : Int32) (s0 : Int32) (h : pm_H) : Option (((Nat × Int32 × Int32 × Int32 × pm_H) ⊕ (Nat × Int32 × Int32 × Int32 × Int32 × pm_H) ⊕ (Nat × Int32 × Int32 × Int32 × pm_H) ⊕ (Nat × Int32 × Int32 × Int32 × Int32 × pm_H) ⊕ (Nat × Int32 × Int32 × pm_H) ⊕ (Nat × Int32 × Int32 × Int32 × pm_H) ⊕ (Nat × Int32 × Int32 × Int32 × pm_H) ⊕ (Nat × Int32 × Int32 × pm_H)) ⊕ ((Nat × pm_H) ⊕ (Int32 × pm_H))) := if (x1 + s0) < x2 then (some (.inl (.inr (.inr (.inl ((x0, x1, x3, s0, h))))))) else (if pm_kd h x0 = 16 then (fX16_stops h x0 9 x1).bind fun v18 => pt_s v18 fun w20 => some (.inl (.inr (.inr (.inl ((x0, x1, x3, s0, w20)))))) else none)
def tX16_character_93 (x0 : Nat) (x1 : Int32) (x3 : Int32) (x4 : Int32) (h : pm_H) : Option (((Nat × Int32 × Int32 × Int32 × pm_H) ⊕ (Nat × Int32 × Int32 × Int32 × Int32 × pm_H) ⊕ (Nat × Int32 × Int32 × Int32 × pm_H) ⊕ (Nat × Int32 × Int32 × Int32 × Int32 × pm_H) ⊕ (Nat × Int32 × Int32 × pm_H) ⊕ (Nat × Int32 × Int32 × Int32 × pm_H) ⊕ (Nat × Int32 × Int32 × Int32 × pm_H) ⊕ (Nat × Int32 × Int32 × pm_H)) ⊕ ((Nat × pm_H) ⊕ (Int32 × pm_H))) := if x4 = 0 then (some (.inl (.inr (.inr (.inr (.inl ((x0, x1, x4, x3, 1, h)))))))) else (if x4 = 1 then (pm_let (x3 &&& 31) fun y29 => some (.inl (.inr (.inr (.inr (.inl ((x0, x1, x4, y29, 1, h)))))))) else (if x4 = 2 then (pm_let (x3 &&& 15) fun y27 => some (.inl (.inr (.inr (.inr (.inl ((x0, x1, x4, y27, 1, h)))))))) else (pm_let (x3 &&& 7) fun y25 => some (.inl (.inr (.inr (.inr (.inl ((x0, x1, x4, y25, 1, h))))))))))
def tX16_character_137 (x0 : Nat) (x1 : Int32) (x4 : Int32) (x5 : Int32) (x6 : Int32) (h : pm_H) : Option (((Nat × Int32 × Int32 × Int32 × pm_H) ⊕ (Nat × Int32 × Int32 × Int32 × Int32 × pm_H) ⊕ (Nat × Int32 × Int32 × Int32 × pm_H) ⊕ (Nat × Int32 × Int32 × Int32 × Int32 × pm_H) ⊕ (Nat × Int32 × Int32 × pm_H) ⊕ (Nat × Int32 × Int32 × Int32 × pm_H) ⊕ (Nat × Int32 × Int32 × Int32 × pm_H) ⊕ (Nat × Int32 × Int32 × pm_H)) ⊕ ((Nat × pm_H) ⊕ (Int32 × pm_H))) := if x4 < x6 then (if x4 = 0 then (some (.inl (.inr (.inr (.inr (.inr (.inl ((x0, x1, x4, h))))))))) else (if x4 = 1 then (if 128 ≤ x5 then (some (.inl (.inr (.inr (.inr (.inr (.inl ((x0, x1, x4, h))))))))) else (some (.inl (.inr (.inr (.inr (.inr (.inr (.inl ((x0, x1, x4, x5, h))))))))))) else (some (.inl (.inr (.inr (.inr (.inr (.inr (.inl ((x0, x1, x4, x5, h)))))))))))) else (if pm_kd h x0 = 16 then (pm_R h x0 10).bind fun v36 => if pm_kd h v36 = 14 then (fX14_at h v36 (x1 + x6)).bind fun v39 => if (v39 >>> ((6 : Int32) &&& 31)) = 2 then (pm_let ((x5 <<< ((6 : Int32) &&& 31)) ||| (v39 &&& 63)) fun y42 => pm_let (x6 + 1) fun y44 => some (.inl (.inr (.inr (.inr (.inl ((x0, x1, x4, y42, y44, h)))))))) else ((fX16_stops h x0 9 x1).bind fun v46 => pt_s v46 fun w48 => pm_let ((x5 <<< ((6 : Int32) &&& 31)) ||| (v39 &&& 63)) fun y50 => pm_let (x6 + 1) fun y52 => some (.inl (.inr (.inr (.inr (.inl ((x0, x1, x4, y50, y52, w48)))))))) else none else none)
def tX16_character_263 (x0 : Nat) (x1 : Int32) (x4 : Int32) (h : pm_H) : Option (((Nat × Int32 × Int32 × Int32 × pm_H) ⊕ (Nat × Int32 × Int32 × Int32 × Int32 × pm_H) ⊕ (Nat × Int32 × Int32 × Int32 × pm_H) ⊕ (Nat × Int32 × Int32 × Int32 × Int32 × pm_H) ⊕ (Nat × Int32 × Int32 × pm_H) ⊕ (Nat × Int32 × Int32 × Int32 × pm_H) ⊕ (Nat × Int32 × Int32 × Int32 × pm_H) ⊕ (Nat × Int32 × Int32 × pm_H)) ⊕ ((Nat × pm_H) ⊕ (Int32 × pm_H))) := if (1 : Int32) = (0 : Int32) then (if pm_kd h x0 = 16 then (fX16_stops h x0 9 x1).bind fun v56 => pt_s v56 fun w58 => some (.inr (.inr (x4 + 1, w58))) else none) else (some (.inr (.inr (x4 + 1, h))))
def tX16_character_211 (x0 : Nat) (x1 : Int32) (x4 : Int32) (x5 : Int32) (h : pm_H) : Option (((Nat × Int32 × Int32 × Int32 × pm_H) ⊕ (Nat × Int32 × Int32 × Int32 × Int32 × pm_H) ⊕ (Nat × Int32 × Int32 × Int32 × pm_H) ⊕ (Nat × Int32 × Int32 × Int32 × Int32 × pm_H) ⊕ (Nat × Int32 × Int32 × pm_H) ⊕ (Nat × Int32 × Int32 × Int32 × pm_H) ⊕ (Nat × Int32 × Int32 × Int32 × pm_H) ⊕ (Nat × Int32 × Int32 × pm_H)) ⊕ ((Nat × pm_H) ⊕ (Int32 × pm_H))) := if x4 = 2 then (if x5 < 2048 then (some (.inl (.inr (.inr (.inr (.inr (.inr (.inr (.inl ((x0, x1, x4, x5, h))))))))))) else (if x5 < 55296 then (some (.inl (.inr (.inr (.inr (.inr (.inl ((x0, x1, x4, h))))))))) else (if 57343 < x5 then (some (.inl (.inr (.inr (.inr (.inr (.inl ((x0, x1, x4, h))))))))) else (some (.inl (.inr (.inr (.inr (.inr (.inr (.inr (.inl ((x0, x1, x4, x5, h)))))))))))))) else (some (.inl (.inr (.inr (.inr (.inr (.inr (.inr (.inl ((x0, x1, x4, x5, h)))))))))))
def tX16_character_241 (x0 : Nat) (x1 : Int32) (x4 : Int32) (x5 : Int32) (h : pm_H) : Option (((Nat × Int32 × Int32 × Int32 × pm_H) ⊕ (Nat × Int32 × Int32 × Int32 × Int32 × pm_H) ⊕ (Nat × Int32 × Int32 × Int32 × pm_H) ⊕ (Nat × Int32 × Int32 × Int32 × Int32 × pm_H) ⊕ (Nat × Int32 × Int32 × pm_H) ⊕ (Nat × Int32 × Int32 × Int32 × pm_H) ⊕ (Nat × Int32 × Int32 × Int32 × pm_H) ⊕ (Nat × Int32 × Int32 × pm_H)) ⊕ ((Nat × pm_H) ⊕ (Int32 × pm_H))) := if x4 = 3 then (if x5 < 65536 then (some (.inl (.inr (.inr (.inr (.inr (.inr (.inr (.inr ((x0, x1, x4, h))))))))))) else (if 1114111 < x5 then (some (.inl (.inr (.inr (.inr (.inr (.inr (.inr (.inr ((x0, x1, x4, h))))))))))) else (some (.inl (.inr (.inr (.inr (.inr (.inl ((x0, x1, x4, h))))))))))) else (some (.inl (.inr (.inr (.inr (.inr (.inr (.inr (.inr ((x0, x1, x4, h)))))))))))
def tX16_character_267 (x0 : Nat) (x1 : Int32) (x4 : Int32) (h : pm_H) : Option (((Nat × Int32 × Int32 × Int32 × pm_H) ⊕ (Nat × Int32 × Int32 × Int32 × Int32 × pm_H) ⊕ (Nat × Int32 × Int32 × Int32 × pm_H) ⊕ (Nat × Int32 × Int32 × Int32 × Int32 × pm_H) ⊕ (Nat × Int32 × Int32 × pm_H) ⊕ (Nat × Int32 × Int32 × Int32 × pm_H) ⊕ (Nat × Int32 × Int32 × Int32 × pm_H) ⊕ (Nat × Int32 × Int32 × pm_H)) ⊕ ((Nat × pm_H) ⊕ (Int32 × pm_H))) := if (0 : Int32) = (0 : Int32) then (if pm_kd h x0 = 16 then (fX16_stops h x0 9 x1).bind fun v69 => pt_s v69 fun w71 => some (.inr (.inr (x4 + 1, w71))) else none) else (some (.inr (.inr (x4 + 1, h))))
def sX16_character : ((Nat × Int32 × Int32 × Int32 × pm_H) ⊕ (Nat × Int32 × Int32 × Int32 × Int32 × pm_H) ⊕ (Nat × Int32 × Int32 × Int32 × pm_H) ⊕ (Nat × Int32 × Int32 × Int32 × Int32 × pm_H) ⊕ (Nat × Int32 × Int32 × pm_H) ⊕ (Nat × Int32 × Int32 × Int32 × pm_H) ⊕ (Nat × Int32 × Int32 × Int32 × pm_H) ⊕ (Nat × Int32 × Int32 × pm_H)) → Option (((Nat × Int32 × Int32 × Int32 × pm_H) ⊕ (Nat × Int32 × Int32 × Int32 × Int32 × pm_H) ⊕ (Nat × Int32 × Int32 × Int32 × pm_H) ⊕ (Nat × Int32 × Int32 × Int32 × Int32 × pm_H) ⊕ (Nat × Int32 × Int32 × pm_H) ⊕ (Nat × Int32 × Int32 × Int32 × pm_H) ⊕ (Nat × Int32 × Int32 × Int32 × pm_H) ⊕ (Nat × Int32 × Int32 × pm_H)) ⊕ ((Nat × pm_H) ⊕ (Int32 × pm_H))) := fun z => match z with
  | .inl (x0, x1, x2, x3, h) => tX16_character_38 x0 x1 x2 x3 h
  | .inr (.inl (x0, x1, x2, x3, s0, h)) => tX16_character_76 x0 x1 x2 x3 s0 h
  | .inr (.inr (.inl (x0, x1, x3, x4, h))) => tX16_character_93 x0 x1 x3 x4 h
  | .inr (.inr (.inr (.inl (x0, x1, x4, x5, x6, h)))) => tX16_character_137 x0 x1 x4 x5 x6 h
  | .inr (.inr (.inr (.inr (.inl (x0, x1, x4, h))))) => tX16_character_263 x0 x1 x4 h
  | .inr (.inr (.inr (.inr (.inr (.inl (x0, x1, x4, x5, h)))))) => tX16_character_211 x0 x1 x4 x5 h
  | .inr (.inr (.inr (.inr (.inr (.inr (.inl (x0, x1, x4, x5, h))))))) => tX16_character_241 x0 x1 x4 x5 h
  | .inr (.inr (.inr (.inr (.inr (.inr (.inr (x0, x1, x4, h))))))) => tX16_character_267 x0 x1 x4 h
noncomputable def fX16_character (h : pm_H) (a0 : Nat) (p1 : Int32) (p2 : Int32) : Option ((Nat × pm_H) ⊕ (Int32 × pm_H)) := if pm_kd h a0 = 16 then (pm_R h a0 10).bind fun v2 => if pm_kd h v2 = 14 then (fX14_at h v2 p1).bind fun v5 => if 128 ≤ v5 then (if v5 < 192 then (pm_lim sX16_character (.inl ((a0, p1, p2, v5, h)))) else (if 224 ≤ v5 then (pm_lim sX16_character (.inl ((a0, p1, p2, v5, h)))) else (pm_lim sX16_character (.inr (.inl ((a0, p1, p2, v5, 1, h))))))) else (pm_lim sX16_character (.inr (.inl ((a0, p1, p2, v5, 0, h))))) else none else none
set_option maxHeartbeats 4000000 in
set_option maxRecDepth 100000 in
theorem lpX16_character {g : pm_Gm} {l : Launch} {G : pm_Gl} {Qr : Option Value → pm_H → Prop} {Qt : Nat → pm_H → Prop} (C : pm_C g cX16_character RX16) (X : pm_XT g l G mX16_character 0 0 Qr Qt) {r : ((Nat × pm_H) ⊕ (Int32 × pm_H))} (q : pt_eI Qr Qt r) : ∀ n : Nat, (∀ (x0 : Nat) (x1 : Int32) (x2 : Int32) (x3 : Int32) (h : pm_H), pm_iter sX16_character n (.inl (x0, x1, x2, x3, h)) = some r → pm_G g 38 [(0, .ref x0), (1, .int x1), (2, .int x2), (3, .int x3)] [] h 0 0) ∧ (∀ (x0 : Nat) (x1 : Int32) (x2 : Int32) (x3 : Int32) (s0 : Int32) (h : pm_H), pm_iter sX16_character n (.inr (.inl (x0, x1, x2, x3, s0, h))) = some r → pm_G g 76 [(0, .ref x0), (1, .int x1), (2, .int x2), (3, .int x3)] [.int s0] h 0 0) ∧ (∀ (x0 : Nat) (x1 : Int32) (x3 : Int32) (x4 : Int32) (h : pm_H), pm_iter sX16_character n (.inr (.inr (.inl (x0, x1, x3, x4, h)))) = some r → pm_G g 93 [(0, .ref x0), (1, .int x1), (3, .int x3), (4, .int x4)] [] h 0 0) ∧ (∀ (x0 : Nat) (x1 : Int32) (x4 : Int32) (x5 : Int32) (x6 : Int32) (h : pm_H), pm_iter sX16_character n (.inr (.inr (.inr (.inl (x0, x1, x4, x5, x6, h))))) = some r → pm_G g 137 [(0, .ref x0), (1, .int x1), (4, .int x4), (5, .int x5), (6, .int x6)] [] h 0 0) ∧ (∀ (x0 : Nat) (x1 : Int32) (x4 : Int32) (h : pm_H), pm_iter sX16_character n (.inr (.inr (.inr (.inr (.inl (x0, x1, x4, h)))))) = some r → pm_G g 263 [(0, .ref x0), (1, .int x1), (4, .int x4)] [] h 0 0) ∧ (∀ (x0 : Nat) (x1 : Int32) (x4 : Int32) (x5 : Int32) (h : pm_H), pm_iter sX16_character n (.inr (.inr (.inr (.inr (.inr (.inl (x0, x1, x4, x5, h))))))) = some r → pm_G g 211 [(0, .ref x0), (1, .int x1), (4, .int x4), (5, .int x5)] [] h 0 0) ∧ (∀ (x0 : Nat) (x1 : Int32) (x4 : Int32) (x5 : Int32) (h : pm_H), pm_iter sX16_character n (.inr (.inr (.inr (.inr (.inr (.inr (.inl (x0, x1, x4, x5, h)))))))) = some r → pm_G g 241 [(0, .ref x0), (1, .int x1), (4, .int x4), (5, .int x5)] [] h 0 0) ∧ (∀ (x0 : Nat) (x1 : Int32) (x4 : Int32) (h : pm_H), pm_iter sX16_character n (.inr (.inr (.inr (.inr (.inr (.inr (.inr (x0, x1, x4, h)))))))) = some r → pm_G g 267 [(0, .ref x0), (1, .int x1), (4, .int x4)] [] h 0 0) := by
  intro n
  induction n with
  | zero => exact ⟨fun _ _ _ _ _ hf => (by cases hf), fun _ _ _ _ _ _ hf => (by cases hf), fun _ _ _ _ _ hf => (by cases hf), fun _ _ _ _ _ _ hf => (by cases hf), fun _ _ _ _ hf => (by cases hf), fun _ _ _ _ _ hf => (by cases hf), fun _ _ _ _ _ hf => (by cases hf), fun _ _ _ _ hf => (by cases hf)⟩
  | succ n ih =>
    refine ⟨fun x0 x1 x2 x3 h hf => ?_, ?_⟩
    · obtain ⟨y, hf, hi⟩ := pm_iter_s hf
      have hf : tX16_character_38 x0 x1 x2 x3 h = some y := hf
      unfold tX16_character_38 at hf
      refine pm_iload_n C dX16_character_38 rfl rfl ?_
      refine pm_sipush (v := 224) C dX16_character_39 (by decide) ?_
      refine pm_icmp_lt (tgt := 56) C dX16_character_42 (by decide) (fun c10 => ?_) (fun c10 => ?_)
      · have hf := pm_it hf c10
        refine pm_iload_n C dX16_character_56 rfl rfl ?_
        refine pm_sipush (v := 240) C dX16_character_57 (by decide) ?_
        refine pm_icmp_lt (tgt := 74) C dX16_character_60 (by decide) (fun c11 => ?_) (fun c11 => ?_)
        · have hf := pm_it hf c11
          refine pm_bipush (v := 9) C dX16_character_74 (by decide) ?_
          cases hf
          exact pm_sub [0, 1, 2, 3] rfl (ih.2.1 x0 x1 x2 x3 9 h hi)
        · have hf := pm_ie hf c11
          refine pm_iload_n C dX16_character_63 rfl rfl ?_
          refine pm_sipush (v := 248) C dX16_character_64 (by decide) ?_
          refine pm_icmp_ge (tgt := 74) C dX16_character_67 (by decide) (fun c12 => ?_) (fun c12 => ?_)
          · have hf := pm_it hf c12
            refine pm_bipush (v := 9) C dX16_character_74 (by decide) ?_
            cases hf
            exact pm_sub [0, 1, 2, 3] rfl (ih.2.1 x0 x1 x2 x3 9 h hi)
          · have hf := pm_ie hf c12
            refine pm_iconst (v := 3) C dX16_character_70 (by decide) ?_
            refine pm_goto (tgt := 76) C dX16_character_71 (by decide) ?_
            cases hf
            exact pm_sub [0, 1, 2, 3] rfl (ih.2.1 x0 x1 x2 x3 3 h hi)
      · have hf := pm_ie hf c10
        refine pm_iload_n C dX16_character_45 rfl rfl ?_
        refine pm_sipush (v := 240) C dX16_character_46 (by decide) ?_
        refine pm_icmp_ge (tgt := 56) C dX16_character_49 (by decide) (fun c13 => ?_) (fun c13 => ?_)
        · have hf := pm_it hf c13
          refine pm_iload_n C dX16_character_56 rfl rfl ?_
          refine pm_sipush (v := 240) C dX16_character_57 (by decide) ?_
          refine pm_icmp_lt (tgt := 74) C dX16_character_60 (by decide) (fun c14 => ?_) (fun c14 => ?_)
          · have hf := pm_it hf c14
            refine pm_bipush (v := 9) C dX16_character_74 (by decide) ?_
            cases hf
            exact pm_sub [0, 1, 2, 3] rfl (ih.2.1 x0 x1 x2 x3 9 h hi)
          · have hf := pm_ie hf c14
            refine pm_iload_n C dX16_character_63 rfl rfl ?_
            refine pm_sipush (v := 248) C dX16_character_64 (by decide) ?_
            refine pm_icmp_ge (tgt := 74) C dX16_character_67 (by decide) (fun c15 => ?_) (fun c15 => ?_)
            · have hf := pm_it hf c15
              refine pm_bipush (v := 9) C dX16_character_74 (by decide) ?_
              cases hf
              exact pm_sub [0, 1, 2, 3] rfl (ih.2.1 x0 x1 x2 x3 9 h hi)
            · have hf := pm_ie hf c15
              refine pm_iconst (v := 3) C dX16_character_70 (by decide) ?_
              refine pm_goto (tgt := 76) C dX16_character_71 (by decide) ?_
              cases hf
              exact pm_sub [0, 1, 2, 3] rfl (ih.2.1 x0 x1 x2 x3 3 h hi)
        · have hf := pm_ie hf c13
          refine pm_iconst (v := 2) C dX16_character_52 (by decide) ?_
          refine pm_goto (tgt := 76) C dX16_character_53 (by decide) ?_
          cases hf
          exact pm_sub [0, 1, 2, 3] rfl (ih.2.1 x0 x1 x2 x3 2 h hi)
    refine ⟨fun x0 x1 x2 x3 s0 h hf => ?_, ?_⟩
    · obtain ⟨y, hf, hi⟩ := pm_iter_s hf
      have hf : tX16_character_76 x0 x1 x2 x3 s0 h = some y := hf
      unfold tX16_character_76 at hf
      refine pm_istore (lv' := [(4, .int s0), (0, .ref x0), (1, .int x1), (2, .int x2), (3, .int x3)]) C dX16_character_76 (pt_nl X (by decide)) rfl ?_
      refine pm_iload_n C dX16_character_78 rfl rfl ?_
      refine pm_iload C dX16_character_79 rfl ?_
      refine pm_iadd C dX16_character_81 ?_
      refine pm_iload_n C dX16_character_82 rfl rfl ?_
      refine pm_icmp_lt (tgt := 93) C dX16_character_83 (by decide) (fun c16 => ?_) (fun c16 => ?_)
      · have hf := pm_it hf c16
        cases hf
        exact pm_sub [1, 2, 4, 0] rfl (ih.2.2.1 x0 x1 x3 s0 h hi)
      · have hf := pm_ie hf c16
        refine pm_aload_n C dX16_character_86 rfl rfl ?_
        refine pm_bipush (v := 9) C dX16_character_87 (by decide) ?_
        refine pm_iload_n C dX16_character_89 rfl rfl ?_
        obtain ⟨k17, hf⟩ := pm_if hf
        obtain ⟨v18, e19, hf⟩ := pm_bd hf
        refine pt_callVT (as := [.int 9, .int x1]) (st := []) C X dX16_character_90 ltX16_257 myX16_stops viX16_stops ⟨by decide, by decide⟩ rfl rfl k17 (Nat.le_of_ble_eq_true rfl) (Nat.le_refl _) (Nat.le_refl _) (ctX16_stops e19 ?_)
        rcases v18 with z21 | w20
        · have hf := pt_sl hf
          cases hf
          cases hi
          exact q
        have hf := pt_sr hf
        show pm_G g 93 [(4, .int s0), (0, .ref x0), (1, .int x1), (2, .int x2), (3, .int x3)] [] w20 0 0
        cases hf
        exact pm_sub [1, 2, 4, 0] rfl (ih.2.2.1 x0 x1 x3 s0 w20 hi)
    refine ⟨fun x0 x1 x3 x4 h hf => ?_, ?_⟩
    · obtain ⟨y, hf, hi⟩ := pm_iter_s hf
      have hf : tX16_character_93 x0 x1 x3 x4 h = some y := hf
      unfold tX16_character_93 at hf
      refine pm_iload C dX16_character_93 rfl ?_
      refine pm_if_ne (tgt := 102) C dX16_character_95 (by decide) (fun c22 => ?_) (fun c22 => ?_)
      · have hf := pm_ie hf c22
        refine pm_iload C dX16_character_102 rfl ?_
        refine pm_iconst (v := 1) C dX16_character_104 (by decide) ?_
        refine pm_icmp_ne (tgt := 115) C dX16_character_105 (by decide) (fun c23 => ?_) (fun c23 => ?_)
        · have hf := pm_ie hf c23
          refine pm_iload C dX16_character_115 rfl ?_
          refine pm_iconst (v := 2) C dX16_character_117 (by decide) ?_
          refine pm_icmp_ne (tgt := 128) C dX16_character_118 (by decide) (fun c24 => ?_) (fun c24 => ?_)
          · have hf := pm_ie hf c24
            refine pm_iload_n C dX16_character_128 rfl rfl ?_
            refine pm_bipush (v := 7) C dX16_character_129 (by decide) ?_
            refine pm_iand C dX16_character_131 ?_
            obtain ⟨y25, e26, hf⟩ := pm_lt hf
            refine pm_topI e26 ?_
            refine pm_istore (lv' := [(5, .int y25), (0, .ref x0), (1, .int x1), (3, .int x3), (4, .int x4)]) C dX16_character_132 (pt_nl X (by decide)) rfl ?_
            refine pm_iconst (v := 1) C dX16_character_134 (by decide) ?_
            refine pm_istore (lv' := [(6, .int 1), (5, .int y25), (0, .ref x0), (1, .int x1), (3, .int x3), (4, .int x4)]) C dX16_character_135 (pt_nl X (by decide)) rfl ?_
            cases hf
            exact pm_sub [2, 3, 5, 1, 0] rfl (ih.2.2.2.1 x0 x1 x4 y25 1 h hi)
          · have hf := pm_it hf c24
            refine pm_iload_n C dX16_character_121 rfl rfl ?_
            refine pm_bipush (v := 15) C dX16_character_122 (by decide) ?_
            refine pm_iand C dX16_character_124 ?_
            refine pm_goto (tgt := 132) C dX16_character_125 (by decide) ?_
            obtain ⟨y27, e28, hf⟩ := pm_lt hf
            refine pm_topI e28 ?_
            refine pm_istore (lv' := [(5, .int y27), (0, .ref x0), (1, .int x1), (3, .int x3), (4, .int x4)]) C dX16_character_132 (pt_nl X (by decide)) rfl ?_
            refine pm_iconst (v := 1) C dX16_character_134 (by decide) ?_
            refine pm_istore (lv' := [(6, .int 1), (5, .int y27), (0, .ref x0), (1, .int x1), (3, .int x3), (4, .int x4)]) C dX16_character_135 (pt_nl X (by decide)) rfl ?_
            cases hf
            exact pm_sub [2, 3, 5, 1, 0] rfl (ih.2.2.2.1 x0 x1 x4 y27 1 h hi)
        · have hf := pm_it hf c23
          refine pm_iload_n C dX16_character_108 rfl rfl ?_
          refine pm_bipush (v := 31) C dX16_character_109 (by decide) ?_
          refine pm_iand C dX16_character_111 ?_
          refine pm_goto (tgt := 132) C dX16_character_112 (by decide) ?_
          obtain ⟨y29, e30, hf⟩ := pm_lt hf
          refine pm_topI e30 ?_
          refine pm_istore (lv' := [(5, .int y29), (0, .ref x0), (1, .int x1), (3, .int x3), (4, .int x4)]) C dX16_character_132 (pt_nl X (by decide)) rfl ?_
          refine pm_iconst (v := 1) C dX16_character_134 (by decide) ?_
          refine pm_istore (lv' := [(6, .int 1), (5, .int y29), (0, .ref x0), (1, .int x1), (3, .int x3), (4, .int x4)]) C dX16_character_135 (pt_nl X (by decide)) rfl ?_
          cases hf
          exact pm_sub [2, 3, 5, 1, 0] rfl (ih.2.2.2.1 x0 x1 x4 y29 1 h hi)
      · have hf := pm_it hf c22
        refine pm_iload_n C dX16_character_98 rfl rfl ?_
        refine pm_goto (tgt := 132) C dX16_character_99 (by decide) ?_
        refine pm_istore (lv' := [(5, .int x3), (0, .ref x0), (1, .int x1), (3, .int x3), (4, .int x4)]) C dX16_character_132 (pt_nl X (by decide)) rfl ?_
        refine pm_iconst (v := 1) C dX16_character_134 (by decide) ?_
        refine pm_istore (lv' := [(6, .int 1), (5, .int x3), (0, .ref x0), (1, .int x1), (3, .int x3), (4, .int x4)]) C dX16_character_135 (pt_nl X (by decide)) rfl ?_
        cases hf
        exact pm_sub [2, 3, 5, 1, 0] rfl (ih.2.2.2.1 x0 x1 x4 x3 1 h hi)
    refine ⟨fun x0 x1 x4 x5 x6 h hf => ?_, ?_⟩
    · obtain ⟨y, hf, hi⟩ := pm_iter_s hf
      have hf : tX16_character_137 x0 x1 x4 x5 x6 h = some y := hf
      unfold tX16_character_137 at hf
      refine pm_iload C dX16_character_137 rfl ?_
      refine pm_iload C dX16_character_139 rfl ?_
      refine pm_icmp_gt (tgt := 192) C dX16_character_141 (by decide) (fun c31 => ?_) (fun c31 => ?_)
      · have hf := pm_it hf c31
        refine pm_iload C dX16_character_192 rfl ?_
        refine pm_if_eq (tgt := 263) C dX16_character_194 (by decide) (fun c32 => ?_) (fun c32 => ?_)
        · have hf := pm_it hf c32
          cases hf
          exact pm_sub [0, 1, 2] rfl (ih.2.2.2.2.1 x0 x1 x4 h hi)
        · have hf := pm_ie hf c32
          refine pm_iload C dX16_character_197 rfl ?_
          refine pm_iconst (v := 1) C dX16_character_199 (by decide) ?_
          refine pm_icmp_ne (tgt := 211) C dX16_character_200 (by decide) (fun c33 => ?_) (fun c33 => ?_)
          · have hf := pm_ie hf c33
            cases hf
            exact pm_sub [0, 1, 2, 3] rfl (ih.2.2.2.2.2.1 x0 x1 x4 x5 h hi)
          · have hf := pm_it hf c33
            refine pm_iload C dX16_character_203 rfl ?_
            refine pm_sipush (v := 128) C dX16_character_205 (by decide) ?_
            refine pm_icmp_ge (tgt := 263) C dX16_character_208 (by decide) (fun c34 => ?_) (fun c34 => ?_)
            · have hf := pm_it hf c34
              cases hf
              exact pm_sub [0, 1, 2] rfl (ih.2.2.2.2.1 x0 x1 x4 h hi)
            · have hf := pm_ie hf c34
              cases hf
              exact pm_sub [0, 1, 2, 3] rfl (ih.2.2.2.2.2.1 x0 x1 x4 x5 h hi)
      · have hf := pm_ie hf c31
        refine pm_aload_n C dX16_character_144 rfl rfl ?_
        obtain ⟨k35, hf⟩ := pm_if hf
        obtain ⟨v36, e37, hf⟩ := pm_bd hf
        refine pm_getR C dX16_character_145 flX16_221 rfl k35 e37 ?_
        refine pm_iload_n C dX16_character_148 rfl rfl ?_
        refine pm_iload C dX16_character_149 rfl ?_
        refine pm_iadd C dX16_character_151 ?_
        obtain ⟨k38, hf⟩ := pm_if hf
        obtain ⟨v39, e40, hf⟩ := pm_bd hf
        refine pt_callV (as := [.int (x1 + x6)]) (st := []) C X dX16_character_152 lnX16_261 myX14_at viX14_at ⟨by decide, by decide⟩ rfl rfl k38 (Nat.le_of_ble_eq_true rfl) (Nat.le_refl _) (Nat.le_refl _) (ctX14_at e40 ?_)
        show pm_G g 155 [(0, .ref x0), (1, .int x1), (4, .int x4), (5, .int x5), (6, .int x6)] [.int v39] h 0 0
        refine pm_istore (lv' := [(7, .int v39), (0, .ref x0), (1, .int x1), (4, .int x4), (5, .int x5), (6, .int x6)]) C dX16_character_155 (pt_nl X (by decide)) rfl ?_
        refine pm_iload C dX16_character_157 rfl ?_
        refine pm_bipush (v := 6) C dX16_character_159 (by decide) ?_
        refine pm_ishr C dX16_character_161 ?_
        refine pm_iconst (v := 2) C dX16_character_162 (by decide) ?_
        refine pm_icmp_eq (tgt := 173) C dX16_character_163 (by decide) (fun c41 => ?_) (fun c41 => ?_)
        · have hf := pm_it hf c41
          refine pm_iload C dX16_character_173 rfl ?_
          refine pm_bipush (v := 6) C dX16_character_175 (by decide) ?_
          refine pm_ishl C dX16_character_177 ?_
          refine pm_iload C dX16_character_178 rfl ?_
          refine pm_bipush (v := 63) C dX16_character_180 (by decide) ?_
          refine pm_iand C dX16_character_182 ?_
          refine pm_ior C dX16_character_183 ?_
          obtain ⟨y42, e43, hf⟩ := pm_lt hf
          refine pm_topI e43 ?_
          refine pm_istore (lv' := [(5, .int y42), (7, .int v39), (0, .ref x0), (1, .int x1), (4, .int x4), (6, .int x6)]) C dX16_character_184 (pt_nl X (by decide)) rfl ?_
          obtain ⟨y44, e45, hf⟩ := pm_lt hf
          refine pm_iinc (v := y44) (lv' := [(6, .int y44), (5, .int y42), (7, .int v39), (0, .ref x0), (1, .int x1), (4, .int x4)]) C dX16_character_186 rfl ((congrArg (x6 + ·) (by decide : Int32.ofInt 1 = 1)).trans e45) (pt_nl X (by decide)) rfl ?_
          refine pm_goto (tgt := 137) C dX16_character_189 (by decide) ?_
          cases hf
          exact pm_sub [3, 4, 5, 1, 0] rfl (ih.2.2.2.1 x0 x1 x4 y42 y44 h hi)
        · have hf := pm_ie hf c41
          refine pm_aload_n C dX16_character_166 rfl rfl ?_
          refine pm_bipush (v := 9) C dX16_character_167 (by decide) ?_
          refine pm_iload_n C dX16_character_169 rfl rfl ?_
          obtain ⟨v46, e47, hf⟩ := pm_bd hf
          refine pt_callVT (as := [.int 9, .int x1]) (st := []) C X dX16_character_170 ltX16_257 myX16_stops viX16_stops ⟨by decide, by decide⟩ rfl rfl k35 (Nat.le_of_ble_eq_true rfl) (Nat.le_refl _) (Nat.le_refl _) (ctX16_stops e47 ?_)
          rcases v46 with z49 | w48
          · have hf := pt_sl hf
            cases hf
            cases hi
            exact q
          have hf := pt_sr hf
          show pm_G g 173 [(7, .int v39), (0, .ref x0), (1, .int x1), (4, .int x4), (5, .int x5), (6, .int x6)] [] w48 0 0
          refine pm_iload C dX16_character_173 rfl ?_
          refine pm_bipush (v := 6) C dX16_character_175 (by decide) ?_
          refine pm_ishl C dX16_character_177 ?_
          refine pm_iload C dX16_character_178 rfl ?_
          refine pm_bipush (v := 63) C dX16_character_180 (by decide) ?_
          refine pm_iand C dX16_character_182 ?_
          refine pm_ior C dX16_character_183 ?_
          obtain ⟨y50, e51, hf⟩ := pm_lt hf
          refine pm_topI e51 ?_
          refine pm_istore (lv' := [(5, .int y50), (7, .int v39), (0, .ref x0), (1, .int x1), (4, .int x4), (6, .int x6)]) C dX16_character_184 (pt_nl X (by decide)) rfl ?_
          obtain ⟨y52, e53, hf⟩ := pm_lt hf
          refine pm_iinc (v := y52) (lv' := [(6, .int y52), (5, .int y50), (7, .int v39), (0, .ref x0), (1, .int x1), (4, .int x4)]) C dX16_character_186 rfl ((congrArg (x6 + ·) (by decide : Int32.ofInt 1 = 1)).trans e53) (pt_nl X (by decide)) rfl ?_
          refine pm_goto (tgt := 137) C dX16_character_189 (by decide) ?_
          cases hf
          exact pm_sub [3, 4, 5, 1, 0] rfl (ih.2.2.2.1 x0 x1 x4 y50 y52 w48 hi)
    refine ⟨fun x0 x1 x4 h hf => ?_, ?_⟩
    · obtain ⟨y, hf, hi⟩ := pm_iter_s hf
      have hf : tX16_character_263 x0 x1 x4 h = some y := hf
      unfold tX16_character_263 at hf
      refine pm_iconst (v := 1) C dX16_character_263 (by decide) ?_
      refine pm_goto (tgt := 268) C dX16_character_264 (by decide) ?_
      refine pm_istore (lv' := [(6, .int 1), (0, .ref x0), (1, .int x1), (4, .int x4)]) C dX16_character_268 (pt_nl X (by decide)) rfl ?_
      refine pm_iload C dX16_character_270 rfl ?_
      refine pm_if_ne (tgt := 282) C dX16_character_272 (by decide) (fun c54 => ?_) (fun c54 => ?_)
      · have hf := pm_ie hf c54
        refine pm_iload C dX16_character_282 rfl ?_
        refine pm_iconst (v := 1) C dX16_character_284 (by decide) ?_
        refine pm_iadd C dX16_character_285 ?_
        cases hf
        cases hi
        exact pt_iret C X dX16_character_286 rfl (Nat.le_refl _) (Nat.le_refl _) q
      · have hf := pm_it hf c54
        refine pm_aload_n C dX16_character_275 rfl rfl ?_
        refine pm_bipush (v := 9) C dX16_character_276 (by decide) ?_
        refine pm_iload_n C dX16_character_278 rfl rfl ?_
        obtain ⟨k55, hf⟩ := pm_if hf
        obtain ⟨v56, e57, hf⟩ := pm_bd hf
        refine pt_callVT (as := [.int 9, .int x1]) (st := []) C X dX16_character_279 ltX16_257 myX16_stops viX16_stops ⟨by decide, by decide⟩ rfl rfl k55 (Nat.le_of_ble_eq_true rfl) (Nat.le_refl _) (Nat.le_refl _) (ctX16_stops e57 ?_)
        rcases v56 with z59 | w58
        · have hf := pt_sl hf
          cases hf
          cases hi
          exact q
        have hf := pt_sr hf
        show pm_G g 282 [(6, .int 1), (0, .ref x0), (1, .int x1), (4, .int x4)] [] w58 0 0
        refine pm_iload C dX16_character_282 rfl ?_
        refine pm_iconst (v := 1) C dX16_character_284 (by decide) ?_
        refine pm_iadd C dX16_character_285 ?_
        cases hf
        cases hi
        exact pt_iret C X dX16_character_286 rfl (Nat.le_refl _) (Nat.le_refl _) q
    refine ⟨fun x0 x1 x4 x5 h hf => ?_, ?_⟩
    · obtain ⟨y, hf, hi⟩ := pm_iter_s hf
      have hf : tX16_character_211 x0 x1 x4 x5 h = some y := hf
      unfold tX16_character_211 at hf
      refine pm_iload C dX16_character_211 rfl ?_
      refine pm_iconst (v := 2) C dX16_character_213 (by decide) ?_
      refine pm_icmp_ne (tgt := 241) C dX16_character_214 (by decide) (fun c60 => ?_) (fun c60 => ?_)
      · have hf := pm_ie hf c60
        cases hf
        exact pm_sub [0, 1, 2, 3] rfl (ih.2.2.2.2.2.2.1 x0 x1 x4 x5 h hi)
      · have hf := pm_it hf c60
        refine pm_iload C dX16_character_217 rfl ?_
        refine pm_sipush (v := 2048) C dX16_character_219 (by decide) ?_
        refine pm_icmp_lt (tgt := 241) C dX16_character_222 (by decide) (fun c61 => ?_) (fun c61 => ?_)
        · have hf := pm_it hf c61
          cases hf
          exact pm_sub [0, 1, 2, 3] rfl (ih.2.2.2.2.2.2.1 x0 x1 x4 x5 h hi)
        · have hf := pm_ie hf c61
          refine pm_iload C dX16_character_225 rfl ?_
          refine pm_ldcw C dX16_character_227 cnX16_288 ?_
          refine pm_icmp_lt (tgt := 263) C dX16_character_230 (by decide) (fun c62 => ?_) (fun c62 => ?_)
          · have hf := pm_it hf c62
            cases hf
            exact pm_sub [0, 1, 2] rfl (ih.2.2.2.2.1 x0 x1 x4 h hi)
          · have hf := pm_ie hf c62
            refine pm_iload C dX16_character_233 rfl ?_
            refine pm_ldcw C dX16_character_235 cnX16_289 ?_
            refine pm_icmp_gt (tgt := 263) C dX16_character_238 (by decide) (fun c63 => ?_) (fun c63 => ?_)
            · have hf := pm_it hf c63
              cases hf
              exact pm_sub [0, 1, 2] rfl (ih.2.2.2.2.1 x0 x1 x4 h hi)
            · have hf := pm_ie hf c63
              cases hf
              exact pm_sub [0, 1, 2, 3] rfl (ih.2.2.2.2.2.2.1 x0 x1 x4 x5 h hi)
    refine ⟨fun x0 x1 x4 x5 h hf => ?_, ?_⟩
    · obtain ⟨y, hf, hi⟩ := pm_iter_s hf
      have hf : tX16_character_241 x0 x1 x4 x5 h = some y := hf
      unfold tX16_character_241 at hf
      refine pm_iload C dX16_character_241 rfl ?_
      refine pm_iconst (v := 3) C dX16_character_243 (by decide) ?_
      refine pm_icmp_ne (tgt := 267) C dX16_character_244 (by decide) (fun c64 => ?_) (fun c64 => ?_)
      · have hf := pm_ie hf c64
        cases hf
        exact pm_sub [0, 1, 2] rfl (ih.2.2.2.2.2.2.2 x0 x1 x4 h hi)
      · have hf := pm_it hf c64
        refine pm_iload C dX16_character_247 rfl ?_
        refine pm_ldcw C dX16_character_249 cnX16_290 ?_
        refine pm_icmp_lt (tgt := 267) C dX16_character_252 (by decide) (fun c65 => ?_) (fun c65 => ?_)
        · have hf := pm_it hf c65
          cases hf
          exact pm_sub [0, 1, 2] rfl (ih.2.2.2.2.2.2.2 x0 x1 x4 h hi)
        · have hf := pm_ie hf c65
          refine pm_iload C dX16_character_255 rfl ?_
          refine pm_ldcw C dX16_character_257 cnX16_291 ?_
          refine pm_icmp_gt (tgt := 267) C dX16_character_260 (by decide) (fun c66 => ?_) (fun c66 => ?_)
          · have hf := pm_it hf c66
            cases hf
            exact pm_sub [0, 1, 2] rfl (ih.2.2.2.2.2.2.2 x0 x1 x4 h hi)
          · have hf := pm_ie hf c66
            cases hf
            exact pm_sub [0, 1, 2] rfl (ih.2.2.2.2.1 x0 x1 x4 h hi)
    refine fun x0 x1 x4 h hf => ?_
    obtain ⟨y, hf, hi⟩ := pm_iter_s hf
    have hf : tX16_character_267 x0 x1 x4 h = some y := hf
    unfold tX16_character_267 at hf
    refine pm_iconst (v := 0) C dX16_character_267 (by decide) ?_
    refine pm_istore (lv' := [(6, .int 0), (0, .ref x0), (1, .int x1), (4, .int x4)]) C dX16_character_268 (pt_nl X (by decide)) rfl ?_
    refine pm_iload C dX16_character_270 rfl ?_
    refine pm_if_ne (tgt := 282) C dX16_character_272 (by decide) (fun c67 => ?_) (fun c67 => ?_)
    · have hf := pm_ie hf c67
      refine pm_iload C dX16_character_282 rfl ?_
      refine pm_iconst (v := 1) C dX16_character_284 (by decide) ?_
      refine pm_iadd C dX16_character_285 ?_
      cases hf
      cases hi
      exact pt_iret C X dX16_character_286 rfl (Nat.le_refl _) (Nat.le_refl _) q
    · have hf := pm_it hf c67
      refine pm_aload_n C dX16_character_275 rfl rfl ?_
      refine pm_bipush (v := 9) C dX16_character_276 (by decide) ?_
      refine pm_iload_n C dX16_character_278 rfl rfl ?_
      obtain ⟨k68, hf⟩ := pm_if hf
      obtain ⟨v69, e70, hf⟩ := pm_bd hf
      refine pt_callVT (as := [.int 9, .int x1]) (st := []) C X dX16_character_279 ltX16_257 myX16_stops viX16_stops ⟨by decide, by decide⟩ rfl rfl k68 (Nat.le_of_ble_eq_true rfl) (Nat.le_refl _) (Nat.le_refl _) (ctX16_stops e70 ?_)
      rcases v69 with z72 | w71
      · have hf := pt_sl hf
        cases hf
        cases hi
        exact q
      have hf := pt_sr hf
      show pm_G g 282 [(6, .int 0), (0, .ref x0), (1, .int x1), (4, .int x4)] [] w71 0 0
      refine pm_iload C dX16_character_282 rfl ?_
      refine pm_iconst (v := 1) C dX16_character_284 (by decide) ?_
      refine pm_iadd C dX16_character_285 ?_
      cases hf
      cases hi
      exact pt_iret C X dX16_character_286 rfl (Nat.le_refl _) (Nat.le_refl _) q
set_option maxHeartbeats 4000000 in
set_option maxRecDepth 100000 in
theorem ctX16_character {l : Launch} {G : pm_Gl} {h : pm_H} {a0 : Nat} {p1 : Int32} {p2 : Int32} {r : ((Nat × pm_H) ⊕ (Int32 × pm_H))} {Qr : Option Value → pm_H → Prop} {Qt : Nat → pm_H → Prop} (hf : fX16_character h a0 p1 p2 = some r) (q : pt_eI Qr Qt r) : pm_Ctt l G mX16_character [.ref a0, .int p1, .int p2] h 0 0 Qr Qt := by
  refine pm_bodyT pnX16 (Nat.le_of_ble_eq_true rfl) (fun g C X => ?_)
  have C : pm_C g cX16_character RX16 := C
  show pm_G g 0 [(0, .ref a0), (1, .int p1), (2, .int p2)] [] h 0 0
  unfold fX16_character at hf
  refine pm_aload_n C dX16_character_0 rfl rfl ?_
  obtain ⟨k1, hf⟩ := pm_if hf
  obtain ⟨v2, e3, hf⟩ := pm_bd hf
  refine pm_getR C dX16_character_1 flX16_221 rfl k1 e3 ?_
  refine pm_iload_n C dX16_character_4 rfl rfl ?_
  obtain ⟨k4, hf⟩ := pm_if hf
  obtain ⟨v5, e6, hf⟩ := pm_bd hf
  refine pt_callV (as := [.int p1]) (st := []) C X dX16_character_5 lnX16_261 myX14_at viX14_at ⟨by decide, by decide⟩ rfl rfl k4 (Nat.le_of_ble_eq_true rfl) (Nat.le_refl _) (Nat.le_refl _) (ctX14_at e6 ?_)
  show pm_G g 8 [(0, .ref a0), (1, .int p1), (2, .int p2)] [.int v5] h 0 0
  refine pm_istore_n (lv' := [(3, .int v5), (0, .ref a0), (1, .int p1), (2, .int p2)]) C dX16_character_8 rfl (pt_nl X (by decide)) rfl ?_
  refine pm_iload_n C dX16_character_9 rfl rfl ?_
  refine pm_sipush (v := 128) C dX16_character_10 (by decide) ?_
  refine pm_icmp_ge (tgt := 20) C dX16_character_13 (by decide) (fun c7 => ?_) (fun c7 => ?_)
  · have hf := pm_it hf c7
    refine pm_iload_n C dX16_character_20 rfl rfl ?_
    refine pm_sipush (v := 192) C dX16_character_21 (by decide) ?_
    refine pm_icmp_lt (tgt := 38) C dX16_character_24 (by decide) (fun c8 => ?_) (fun c8 => ?_)
    · have hf := pm_it hf c8
      obtain ⟨n, hn⟩ := pm_lim_iter hf
      exact pm_sub [1, 2, 3, 0] rfl ((lpX16_character C X q n).1 a0 p1 p2 v5 h hn)
    · have hf := pm_ie hf c8
      refine pm_iload_n C dX16_character_27 rfl rfl ?_
      refine pm_sipush (v := 224) C dX16_character_28 (by decide) ?_
      refine pm_icmp_ge (tgt := 38) C dX16_character_31 (by decide) (fun c9 => ?_) (fun c9 => ?_)
      · have hf := pm_it hf c9
        obtain ⟨n, hn⟩ := pm_lim_iter hf
        exact pm_sub [1, 2, 3, 0] rfl ((lpX16_character C X q n).1 a0 p1 p2 v5 h hn)
      · have hf := pm_ie hf c9
        refine pm_iconst (v := 1) C dX16_character_34 (by decide) ?_
        refine pm_goto (tgt := 76) C dX16_character_35 (by decide) ?_
        obtain ⟨n, hn⟩ := pm_lim_iter hf
        exact pm_sub [1, 2, 3, 0] rfl ((lpX16_character C X q n).2.1 a0 p1 p2 v5 1 h hn)
  · have hf := pm_ie hf c7
    refine pm_iconst (v := 0) C dX16_character_16 (by decide) ?_
    refine pm_goto (tgt := 76) C dX16_character_17 (by decide) ?_
    obtain ⟨n, hn⟩ := pm_lim_iter hf
    exact pm_sub [1, 2, 3, 0] rfl ((lpX16_character C X q n).2.1 a0 p1 p2 v5 0 h hn)
theorem dX16_checksExports_0 : decode cX16_checksExports 0 = .ok (.iconst 0, 1) := by decide +kernel
theorem dX16_checksExports_1 : decode cX16_checksExports 1 = .ok (.istore_n 1, 1) := by decide +kernel
theorem dX16_checksExports_2 : decode cX16_checksExports 2 = .ok (.iload_n 1, 1) := by decide +kernel
theorem dX16_checksExports_3 : decode cX16_checksExports 3 = .ok (.aload_n 0, 1) := by decide +kernel
theorem dX16_checksExports_4 : decode cX16_checksExports 4 = .ok (.getfield 221, 3) := by decide +kernel
theorem dX16_checksExports_7 : decode cX16_checksExports 7 = .ok (.getfield 466, 3) := by decide +kernel
theorem dX16_checksExports_10 : decode cX16_checksExports 10 = .ok (.if_icmp .ge 93, 3) := by decide +kernel
theorem dX16_checksExports_13 : decode cX16_checksExports 13 = .ok (.aload_n 0, 1) := by decide +kernel
theorem dX16_checksExports_14 : decode cX16_checksExports 14 = .ok (.getfield 221, 3) := by decide +kernel
theorem dX16_checksExports_17 : decode cX16_checksExports 17 = .ok (.getfield 478, 3) := by decide +kernel
theorem dX16_checksExports_20 : decode cX16_checksExports 20 = .ok (.iload_n 1, 1) := by decide +kernel
theorem dX16_checksExports_21 : decode cX16_checksExports 21 = .ok (.laload, 1) := by decide +kernel
theorem dX16_checksExports_22 : decode cX16_checksExports 22 = .ok (.aload_n 0, 1) := by decide +kernel
theorem dX16_checksExports_23 : decode cX16_checksExports 23 = .ok (.getfield 221, 3) := by decide +kernel
theorem dX16_checksExports_26 : decode cX16_checksExports 26 = .ok (.aload_n 0, 1) := by decide +kernel
theorem dX16_checksExports_27 : decode cX16_checksExports 27 = .ok (.getfield 221, 3) := by decide +kernel
theorem dX16_checksExports_30 : decode cX16_checksExports 30 = .ok (.getfield 475, 3) := by decide +kernel
theorem dX16_checksExports_33 : decode cX16_checksExports 33 = .ok (.iload_n 1, 1) := by decide +kernel
theorem dX16_checksExports_34 : decode cX16_checksExports 34 = .ok (.iaload, 1) := by decide +kernel
theorem dX16_checksExports_35 : decode cX16_checksExports 35 = .ok (.invokevirtual 615, 3) := by decide +kernel
theorem dX16_checksExports_38 : decode cX16_checksExports 38 = .ok (.i2l, 1) := by decide +kernel
theorem dX16_checksExports_39 : decode cX16_checksExports 39 = .ok (.lcmp, 1) := by decide +kernel
theorem dX16_checksExports_40 : decode cX16_checksExports 40 = .ok (.ifCond .lt 19, 3) := by decide +kernel
theorem dX16_checksExports_43 : decode cX16_checksExports 43 = .ok (.aload_n 0, 1) := by decide +kernel
theorem dX16_checksExports_44 : decode cX16_checksExports 44 = .ok (.bipush 24, 2) := by decide +kernel
theorem dX16_checksExports_46 : decode cX16_checksExports 46 = .ok (.aload_n 0, 1) := by decide +kernel
theorem dX16_checksExports_47 : decode cX16_checksExports 47 = .ok (.getfield 221, 3) := by decide +kernel
theorem dX16_checksExports_50 : decode cX16_checksExports 50 = .ok (.getfield 302, 3) := by decide +kernel
theorem dX16_checksExports_53 : decode cX16_checksExports 53 = .ok (.bipush 7, 2) := by decide +kernel
theorem dX16_checksExports_55 : decode cX16_checksExports 55 = .ok (.iaload, 1) := by decide +kernel
theorem dX16_checksExports_56 : decode cX16_checksExports 56 = .ok (.invokevirtual 257, 3) := by decide +kernel
theorem dX16_checksExports_59 : decode cX16_checksExports 59 = .ok (.iconst 0, 1) := by decide +kernel
theorem dX16_checksExports_60 : decode cX16_checksExports 60 = .ok (.istore_n 2, 1) := by decide +kernel
theorem dX16_checksExports_61 : decode cX16_checksExports 61 = .ok (.iload_n 2, 1) := by decide +kernel
theorem dX16_checksExports_62 : decode cX16_checksExports 62 = .ok (.iload_n 1, 1) := by decide +kernel
theorem dX16_checksExports_63 : decode cX16_checksExports 63 = .ok (.if_icmp .ge 34, 3) := by decide +kernel
theorem dX16_checksExports_66 : decode cX16_checksExports 66 = .ok (.aload_n 0, 1) := by decide +kernel
theorem dX16_checksExports_67 : decode cX16_checksExports 67 = .ok (.iload_n 1, 1) := by decide +kernel
theorem dX16_checksExports_68 : decode cX16_checksExports 68 = .ok (.iload_n 2, 1) := by decide +kernel
theorem dX16_checksExports_69 : decode cX16_checksExports 69 = .ok (.invokevirtual 642, 3) := by decide +kernel
theorem dX16_checksExports_72 : decode cX16_checksExports 72 = .ok (.ifCond .eq 19, 3) := by decide +kernel
theorem dX16_checksExports_75 : decode cX16_checksExports 75 = .ok (.aload_n 0, 1) := by decide +kernel
theorem dX16_checksExports_76 : decode cX16_checksExports 76 = .ok (.bipush 23, 2) := by decide +kernel
theorem dX16_checksExports_78 : decode cX16_checksExports 78 = .ok (.aload_n 0, 1) := by decide +kernel
theorem dX16_checksExports_79 : decode cX16_checksExports 79 = .ok (.getfield 221, 3) := by decide +kernel
theorem dX16_checksExports_82 : decode cX16_checksExports 82 = .ok (.getfield 302, 3) := by decide +kernel
theorem dX16_checksExports_85 : decode cX16_checksExports 85 = .ok (.bipush 7, 2) := by decide +kernel
theorem dX16_checksExports_87 : decode cX16_checksExports 87 = .ok (.iaload, 1) := by decide +kernel
theorem dX16_checksExports_88 : decode cX16_checksExports 88 = .ok (.invokevirtual 257, 3) := by decide +kernel
theorem dX16_checksExports_91 : decode cX16_checksExports 91 = .ok (.iinc 2 1, 3) := by decide +kernel
theorem dX16_checksExports_94 : decode cX16_checksExports 94 = .ok (.goto (-33), 3) := by decide +kernel
theorem dX16_checksExports_97 : decode cX16_checksExports 97 = .ok (.iinc 1 1, 3) := by decide +kernel
theorem dX16_checksExports_100 : decode cX16_checksExports 100 = .ok (.goto (-98), 3) := by decide +kernel
theorem dX16_checksExports_103 : decode cX16_checksExports 103 = .ok (.return_, 1) := by decide +kernel
noncomputable def tX16_checksExports_2 (x0 : Nat) (x1 : Int32) (h : pm_H) : Option (((Nat × Int32 × pm_H) ⊕ (Nat × Int32 × Int32 × pm_H)) ⊕ ((Nat × pm_H) ⊕ pm_H)) := if pm_kd h x0 = 16 then (pm_R h x0 10).bind fun v2 => if pm_kd h v2 = 14 then if (pm_I h v2 28) ≤ x1 then (some (.inr (.inr (h)))) else ((pm_R h v2 32).bind fun v6 => if pm_kd h v6 = 35 then if pm_in x1 (pm_ln h v6) then (pm_R h v2 31).bind fun v10 => if pm_kd h v10 = 34 then if pm_in x1 (pm_ln h v10) then (fX14_all h v2 (pm_I h v10 x1.toNatClampNeg)).bind fun v14 => if (pm_L h v6 x1.toNatClampNeg) < v14.toInt64 then (some (.inl (.inr ((x0, x1, 0, h))))) else ((pm_R h v2 2).bind fun v17 => if pm_kd h v17 = 34 then if pm_in 7 (pm_ln h v17) then (fX16_stops h x0 24 (pm_I h v17 (7 : Int32).toNatClampNeg)).bind fun v21 => pt_s v21 fun w23 => some (.inl (.inr ((x0, x1, 0, w23)))) else none else none) else none else none else none else none) else none else none
noncomputable def tX16_checksExports_61 (x0 : Nat) (x1 : Int32) (x2 : Int32) (h : pm_H) : Option (((Nat × Int32 × pm_H) ⊕ (Nat × Int32 × Int32 × pm_H)) ⊕ ((Nat × pm_H) ⊕ pm_H)) := if x1 ≤ x2 then (pm_let (x1 + 1) fun y26 => some (.inl (.inl ((x0, y26, h))))) else (if pm_kd h x0 = 16 then (fX16_isSameName h x0 x1 x2).bind fun v29 => if v29 = 0 then (pm_let (x2 + 1) fun y32 => some (.inl (.inr ((x0, x1, y32, h))))) else ((pm_R h x0 10).bind fun v34 => if pm_kd h v34 = 14 then (pm_R h v34 2).bind fun v37 => if pm_kd h v37 = 34 then if pm_in 7 (pm_ln h v37) then (fX16_stops h x0 23 (pm_I h v37 (7 : Int32).toNatClampNeg)).bind fun v41 => pt_s v41 fun w43 => pm_let (x2 + 1) fun y45 => some (.inl (.inr ((x0, x1, y45, w43)))) else none else none else none) else none)
noncomputable def sX16_checksExports : ((Nat × Int32 × pm_H) ⊕ (Nat × Int32 × Int32 × pm_H)) → Option (((Nat × Int32 × pm_H) ⊕ (Nat × Int32 × Int32 × pm_H)) ⊕ ((Nat × pm_H) ⊕ pm_H)) := fun z => match z with
  | .inl (x0, x1, h) => tX16_checksExports_2 x0 x1 h
  | .inr (x0, x1, x2, h) => tX16_checksExports_61 x0 x1 x2 h
noncomputable def fX16_checksExports (h : pm_H) (a0 : Nat) : Option ((Nat × pm_H) ⊕ pm_H) := pm_lim sX16_checksExports (.inl ((a0, 0, h)))
set_option maxHeartbeats 4000000 in
set_option maxRecDepth 100000 in
theorem lpX16_checksExports {g : pm_Gm} {l : Launch} {G : pm_Gl} {Qr : Option Value → pm_H → Prop} {Qt : Nat → pm_H → Prop} (C : pm_C g cX16_checksExports RX16) (X : pm_XT g l G mX16_checksExports 0 0 Qr Qt) {r : ((Nat × pm_H) ⊕ pm_H)} (q : pt_eV Qr Qt r) : ∀ n : Nat, (∀ (x0 : Nat) (x1 : Int32) (h : pm_H), pm_iter sX16_checksExports n (.inl (x0, x1, h)) = some r → pm_G g 2 [(0, .ref x0), (1, .int x1)] [] h 0 0) ∧ (∀ (x0 : Nat) (x1 : Int32) (x2 : Int32) (h : pm_H), pm_iter sX16_checksExports n (.inr (x0, x1, x2, h)) = some r → pm_G g 61 [(0, .ref x0), (1, .int x1), (2, .int x2)] [] h 0 0) := by
  intro n
  induction n with
  | zero => exact ⟨fun _ _ _ hf => (by cases hf), fun _ _ _ _ hf => (by cases hf)⟩
  | succ n ih =>
    refine ⟨fun x0 x1 h hf => ?_, ?_⟩
    · obtain ⟨y, hf, hi⟩ := pm_iter_s hf
      have hf : tX16_checksExports_2 x0 x1 h = some y := hf
      unfold tX16_checksExports_2 at hf
      refine pm_iload_n C dX16_checksExports_2 rfl rfl ?_
      refine pm_aload_n C dX16_checksExports_3 rfl rfl ?_
      obtain ⟨k1, hf⟩ := pm_if hf
      obtain ⟨v2, e3, hf⟩ := pm_bd hf
      refine pm_getR C dX16_checksExports_4 flX16_221 rfl k1 e3 ?_
      obtain ⟨k4, hf⟩ := pm_if hf
      refine pm_getI C dX16_checksExports_7 flX16_466 rfl k4 rfl ?_
      refine pm_icmp_ge (tgt := 103) C dX16_checksExports_10 (by decide) (fun c5 => ?_) (fun c5 => ?_)
      · have hf := pm_it hf c5
        cases hf
        cases hi
        exact pt_vret C X dX16_checksExports_103 rfl (Nat.le_refl _) (Nat.le_refl _) q
      · have hf := pm_ie hf c5
        refine pm_aload_n C dX16_checksExports_13 rfl rfl ?_
        refine pm_getR C dX16_checksExports_14 flX16_221 rfl k1 e3 ?_
        obtain ⟨v6, e7, hf⟩ := pm_bd hf
        refine pm_getR C dX16_checksExports_17 flX16_478 rfl k4 e7 ?_
        refine pm_iload_n C dX16_checksExports_20 rfl rfl ?_
        obtain ⟨k8, hf⟩ := pm_if hf
        obtain ⟨u9, hf⟩ := pm_if hf
        refine pm_lald C dX16_checksExports_21 k8 u9 rfl ?_
        refine pm_aload_n C dX16_checksExports_22 rfl rfl ?_
        refine pm_getR C dX16_checksExports_23 flX16_221 rfl k1 e3 ?_
        refine pm_aload_n C dX16_checksExports_26 rfl rfl ?_
        refine pm_getR C dX16_checksExports_27 flX16_221 rfl k1 e3 ?_
        obtain ⟨v10, e11, hf⟩ := pm_bd hf
        refine pm_getR C dX16_checksExports_30 flX16_475 rfl k4 e11 ?_
        refine pm_iload_n C dX16_checksExports_33 rfl rfl ?_
        obtain ⟨k12, hf⟩ := pm_if hf
        obtain ⟨u13, hf⟩ := pm_if hf
        refine pm_iald C dX16_checksExports_34 k12 u13 rfl ?_
        obtain ⟨v14, e15, hf⟩ := pm_bd hf
        refine pt_callV (as := [.int (pm_I h v10 x1.toNatClampNeg)]) (st := [.long (pm_L h v6 x1.toNatClampNeg)]) C X dX16_checksExports_35 lnX16_615 myX14_all viX14_all ⟨by decide, by decide⟩ rfl rfl k4 (Nat.le_of_ble_eq_true rfl) (Nat.le_refl _) (Nat.le_refl _) (ctX14_all e15 ?_)
        show pm_G g 38 [(0, .ref x0), (1, .int x1)] [.int v14, .long (pm_L h v6 x1.toNatClampNeg)] h 0 0
        refine pm_i2l C dX16_checksExports_38 ?_
        refine pm_lcmp C dX16_checksExports_39 ?_
        refine pm_if_lt (tgt := 59) C dX16_checksExports_40 (by decide) (fun c16 => ?_) (fun c16 => ?_)
        · have hf := pm_it hf ((pm_lg_lt _ _).mp c16)
          refine pm_iconst (v := 0) C dX16_checksExports_59 (by decide) ?_
          refine pm_istore_n (lv' := [(2, .int 0), (0, .ref x0), (1, .int x1)]) C dX16_checksExports_60 rfl (pt_nl X (by decide)) rfl ?_
          cases hf
          exact pm_sub [1, 2, 0] rfl (ih.2 x0 x1 0 h hi)
        · have hf := pm_ie hf ((fun z => c16 ((pm_lg_lt _ _).mpr z)))
          refine pm_aload_n C dX16_checksExports_43 rfl rfl ?_
          refine pm_bipush (v := 24) C dX16_checksExports_44 (by decide) ?_
          refine pm_aload_n C dX16_checksExports_46 rfl rfl ?_
          refine pm_getR C dX16_checksExports_47 flX16_221 rfl k1 e3 ?_
          obtain ⟨v17, e18, hf⟩ := pm_bd hf
          refine pm_getR C dX16_checksExports_50 flX16_302 rfl k4 e18 ?_
          refine pm_bipush (v := 7) C dX16_checksExports_53 (by decide) ?_
          obtain ⟨k19, hf⟩ := pm_if hf
          obtain ⟨u20, hf⟩ := pm_if hf
          refine pm_iald C dX16_checksExports_55 k19 u20 rfl ?_
          obtain ⟨v21, e22, hf⟩ := pm_bd hf
          refine pt_callVT (as := [.int 24, .int (pm_I h v17 (7 : Int32).toNatClampNeg)]) (st := []) C X dX16_checksExports_56 ltX16_257 myX16_stops viX16_stops ⟨by decide, by decide⟩ rfl rfl k1 (Nat.le_of_ble_eq_true rfl) (Nat.le_refl _) (Nat.le_refl _) (ctX16_stops e22 ?_)
          rcases v21 with z24 | w23
          · have hf := pt_sl hf
            cases hf
            cases hi
            exact q
          have hf := pt_sr hf
          show pm_G g 59 [(0, .ref x0), (1, .int x1)] [] w23 0 0
          refine pm_iconst (v := 0) C dX16_checksExports_59 (by decide) ?_
          refine pm_istore_n (lv' := [(2, .int 0), (0, .ref x0), (1, .int x1)]) C dX16_checksExports_60 rfl (pt_nl X (by decide)) rfl ?_
          cases hf
          exact pm_sub [1, 2, 0] rfl (ih.2 x0 x1 0 w23 hi)
    refine fun x0 x1 x2 h hf => ?_
    obtain ⟨y, hf, hi⟩ := pm_iter_s hf
    have hf : tX16_checksExports_61 x0 x1 x2 h = some y := hf
    unfold tX16_checksExports_61 at hf
    refine pm_iload_n C dX16_checksExports_61 rfl rfl ?_
    refine pm_iload_n C dX16_checksExports_62 rfl rfl ?_
    refine pm_icmp_ge (tgt := 97) C dX16_checksExports_63 (by decide) (fun c25 => ?_) (fun c25 => ?_)
    · have hf := pm_it hf c25
      obtain ⟨y26, e27, hf⟩ := pm_lt hf
      refine pm_iinc (v := y26) (lv' := [(1, .int y26), (0, .ref x0), (2, .int x2)]) C dX16_checksExports_97 rfl ((congrArg (x1 + ·) (by decide : Int32.ofInt 1 = 1)).trans e27) (pt_nl X (by decide)) rfl ?_
      refine pm_goto (tgt := 2) C dX16_checksExports_100 (by decide) ?_
      cases hf
      exact pm_sub [1, 0] rfl (ih.1 x0 y26 h hi)
    · have hf := pm_ie hf c25
      refine pm_aload_n C dX16_checksExports_66 rfl rfl ?_
      refine pm_iload_n C dX16_checksExports_67 rfl rfl ?_
      refine pm_iload_n C dX16_checksExports_68 rfl rfl ?_
      obtain ⟨k28, hf⟩ := pm_if hf
      obtain ⟨v29, e30, hf⟩ := pm_bd hf
      refine pt_callV (as := [.int x1, .int x2]) (st := []) C X dX16_checksExports_69 lnX16_642 myX16_isSameName viX16_isSameName ⟨by decide, by decide⟩ rfl rfl k28 (Nat.le_of_ble_eq_true rfl) (Nat.le_refl _) (Nat.le_refl _) (ctX16_isSameName e30 ?_)
      show pm_G g 72 [(0, .ref x0), (1, .int x1), (2, .int x2)] [.int v29] h 0 0
      refine pm_if_eq (tgt := 91) C dX16_checksExports_72 (by decide) (fun c31 => ?_) (fun c31 => ?_)
      · have hf := pm_it hf c31
        obtain ⟨y32, e33, hf⟩ := pm_lt hf
        refine pm_iinc (v := y32) (lv' := [(2, .int y32), (0, .ref x0), (1, .int x1)]) C dX16_checksExports_91 rfl ((congrArg (x2 + ·) (by decide : Int32.ofInt 1 = 1)).trans e33) (pt_nl X (by decide)) rfl ?_
        refine pm_goto (tgt := 61) C dX16_checksExports_94 (by decide) ?_
        cases hf
        exact pm_sub [1, 2, 0] rfl (ih.2 x0 x1 y32 h hi)
      · have hf := pm_ie hf c31
        refine pm_aload_n C dX16_checksExports_75 rfl rfl ?_
        refine pm_bipush (v := 23) C dX16_checksExports_76 (by decide) ?_
        refine pm_aload_n C dX16_checksExports_78 rfl rfl ?_
        obtain ⟨v34, e35, hf⟩ := pm_bd hf
        refine pm_getR C dX16_checksExports_79 flX16_221 rfl k28 e35 ?_
        obtain ⟨k36, hf⟩ := pm_if hf
        obtain ⟨v37, e38, hf⟩ := pm_bd hf
        refine pm_getR C dX16_checksExports_82 flX16_302 rfl k36 e38 ?_
        refine pm_bipush (v := 7) C dX16_checksExports_85 (by decide) ?_
        obtain ⟨k39, hf⟩ := pm_if hf
        obtain ⟨u40, hf⟩ := pm_if hf
        refine pm_iald C dX16_checksExports_87 k39 u40 rfl ?_
        obtain ⟨v41, e42, hf⟩ := pm_bd hf
        refine pt_callVT (as := [.int 23, .int (pm_I h v37 (7 : Int32).toNatClampNeg)]) (st := []) C X dX16_checksExports_88 ltX16_257 myX16_stops viX16_stops ⟨by decide, by decide⟩ rfl rfl k28 (Nat.le_of_ble_eq_true rfl) (Nat.le_refl _) (Nat.le_refl _) (ctX16_stops e42 ?_)
        rcases v41 with z44 | w43
        · have hf := pt_sl hf
          cases hf
          cases hi
          exact q
        have hf := pt_sr hf
        show pm_G g 91 [(0, .ref x0), (1, .int x1), (2, .int x2)] [] w43 0 0
        obtain ⟨y45, e46, hf⟩ := pm_lt hf
        refine pm_iinc (v := y45) (lv' := [(2, .int y45), (0, .ref x0), (1, .int x1)]) C dX16_checksExports_91 rfl ((congrArg (x2 + ·) (by decide : Int32.ofInt 1 = 1)).trans e46) (pt_nl X (by decide)) rfl ?_
        refine pm_goto (tgt := 61) C dX16_checksExports_94 (by decide) ?_
        cases hf
        exact pm_sub [1, 2, 0] rfl (ih.2 x0 x1 y45 w43 hi)
set_option maxHeartbeats 4000000 in
set_option maxRecDepth 100000 in
theorem ctX16_checksExports {l : Launch} {G : pm_Gl} {h : pm_H} {a0 : Nat} {r : ((Nat × pm_H) ⊕ pm_H)} {Qr : Option Value → pm_H → Prop} {Qt : Nat → pm_H → Prop} (hf : fX16_checksExports h a0 = some r) (q : pt_eV Qr Qt r) : pm_Ctt l G mX16_checksExports [.ref a0] h 0 0 Qr Qt := by
  refine pm_bodyT pnX16 (Nat.le_of_ble_eq_true rfl) (fun g C X => ?_)
  have C : pm_C g cX16_checksExports RX16 := C
  show pm_G g 0 [(0, .ref a0)] [] h 0 0
  unfold fX16_checksExports at hf
  refine pm_iconst (v := 0) C dX16_checksExports_0 (by decide) ?_
  refine pm_istore_n (lv' := [(1, .int 0), (0, .ref a0)]) C dX16_checksExports_1 rfl (pt_nl X (by decide)) rfl ?_
  obtain ⟨n, hn⟩ := pm_lim_iter hf
  exact pm_sub [1, 0] rfl ((lpX16_checksExports C X q n).1 a0 0 h hn)
