theorem dX16_furthers_0 : decode cX16_furthers 0 = .ok (.aload_n 0, 1) := by decide +kernel
theorem dX16_furthers_1 : decode cX16_furthers 1 = .ok (.invokevirtual 603, 3) := by decide +kernel
theorem dX16_furthers_4 : decode cX16_furthers 4 = .ok (.l2i, 1) := by decide +kernel
theorem dX16_furthers_5 : decode cX16_furthers 5 = .ok (.istore_n 1, 1) := by decide +kernel
theorem dX16_furthers_6 : decode cX16_furthers 6 = .ok (.iload_n 1, 1) := by decide +kernel
theorem dX16_furthers_7 : decode cX16_furthers 7 = .ok (.bipush 8, 2) := by decide +kernel
theorem dX16_furthers_9 : decode cX16_furthers 9 = .ok (.if_icmp .ge 15, 3) := by decide +kernel
theorem dX16_furthers_12 : decode cX16_furthers 12 = .ok (.aload_n 0, 1) := by decide +kernel
theorem dX16_furthers_13 : decode cX16_furthers 13 = .ok (.sipush 200, 3) := by decide +kernel
theorem dX16_furthers_16 : decode cX16_furthers 16 = .ok (.iload_n 1, 1) := by decide +kernel
theorem dX16_furthers_17 : decode cX16_furthers 17 = .ok (.iadd, 1) := by decide +kernel
theorem dX16_furthers_18 : decode cX16_furthers 18 = .ok (.invokevirtual 735, 3) := by decide +kernel
theorem dX16_furthers_21 : decode cX16_furthers 21 = .ok (.goto 100, 3) := by decide +kernel
theorem dX16_furthers_24 : decode cX16_furthers 24 = .ok (.iload_n 1, 1) := by decide +kernel
theorem dX16_furthers_25 : decode cX16_furthers 25 = .ok (.bipush 15, 2) := by decide +kernel
theorem dX16_furthers_27 : decode cX16_furthers 27 = .ok (.if_icmp .eq 9, 3) := by decide +kernel
theorem dX16_furthers_30 : decode cX16_furthers 30 = .ok (.iload_n 1, 1) := by decide +kernel
theorem dX16_furthers_31 : decode cX16_furthers 31 = .ok (.bipush 17, 2) := by decide +kernel
theorem dX16_furthers_33 : decode cX16_furthers 33 = .ok (.if_icmp .ne 54, 3) := by decide +kernel
theorem dX16_furthers_36 : decode cX16_furthers 36 = .ok (.aload_n 0, 1) := by decide +kernel
theorem dX16_furthers_37 : decode cX16_furthers 37 = .ok (.getfield 221, 3) := by decide +kernel
theorem dX16_furthers_40 : decode cX16_furthers 40 = .ok (.aload_n 0, 1) := by decide +kernel
theorem dX16_furthers_41 : decode cX16_furthers 41 = .ok (.invokevirtual 603, 3) := by decide +kernel
theorem dX16_furthers_44 : decode cX16_furthers 44 = .ok (.l2i, 1) := by decide +kernel
theorem dX16_furthers_45 : decode cX16_furthers 45 = .ok (.invokevirtual 661, 3) := by decide +kernel
theorem dX16_furthers_48 : decode cX16_furthers 48 = .ok (.istore_n 2, 1) := by decide +kernel
theorem dX16_furthers_49 : decode cX16_furthers 49 = .ok (.aload_n 0, 1) := by decide +kernel
theorem dX16_furthers_50 : decode cX16_furthers 50 = .ok (.bipush 127, 2) := by decide +kernel
theorem dX16_furthers_52 : decode cX16_furthers 52 = .ok (.iconst 1, 1) := by decide +kernel
theorem dX16_furthers_53 : decode cX16_furthers 53 = .ok (.invokevirtual 750, 3) := by decide +kernel
theorem dX16_furthers_56 : decode cX16_furthers 56 = .ok (.aload_n 0, 1) := by decide +kernel
theorem dX16_furthers_57 : decode cX16_furthers 57 = .ok (.iload_n 2, 1) := by decide +kernel
theorem dX16_furthers_58 : decode cX16_furthers 58 = .ok (.iconst 1, 1) := by decide +kernel
theorem dX16_furthers_59 : decode cX16_furthers 59 = .ok (.invokevirtual 750, 3) := by decide +kernel
theorem dX16_furthers_62 : decode cX16_furthers 62 = .ok (.iload_n 1, 1) := by decide +kernel
theorem dX16_furthers_63 : decode cX16_furthers 63 = .ok (.bipush 17, 2) := by decide +kernel
theorem dX16_furthers_65 : decode cX16_furthers 65 = .ok (.if_icmp .ne 13, 3) := by decide +kernel
theorem dX16_furthers_68 : decode cX16_furthers 68 = .ok (.aload_n 0, 1) := by decide +kernel
theorem dX16_furthers_69 : decode cX16_furthers 69 = .ok (.bipush 127, 2) := by decide +kernel
theorem dX16_furthers_71 : decode cX16_furthers 71 = .ok (.iconst 1, 1) := by decide +kernel
theorem dX16_furthers_72 : decode cX16_furthers 72 = .ok (.invokevirtual 750, 3) := by decide +kernel
theorem dX16_furthers_75 : decode cX16_furthers 75 = .ok (.goto 9, 3) := by decide +kernel
theorem dX16_furthers_78 : decode cX16_furthers 78 = .ok (.aload_n 0, 1) := by decide +kernel
theorem dX16_furthers_79 : decode cX16_furthers 79 = .ok (.bipush 127, 2) := by decide +kernel
theorem dX16_furthers_81 : decode cX16_furthers 81 = .ok (.invokevirtual 695, 3) := by decide +kernel
theorem dX16_furthers_84 : decode cX16_furthers 84 = .ok (.goto 37, 3) := by decide +kernel
theorem dX16_furthers_87 : decode cX16_furthers 87 = .ok (.iload_n 1, 1) := by decide +kernel
theorem dX16_furthers_88 : decode cX16_furthers 88 = .ok (.bipush 16, 2) := by decide +kernel
theorem dX16_furthers_90 : decode cX16_furthers 90 = .ok (.if_icmp .ne 12, 3) := by decide +kernel
theorem dX16_furthers_93 : decode cX16_furthers 93 = .ok (.aload_n 0, 1) := by decide +kernel
theorem dX16_furthers_94 : decode cX16_furthers 94 = .ok (.bipush 127, 2) := by decide +kernel
theorem dX16_furthers_96 : decode cX16_furthers 96 = .ok (.invokevirtual 695, 3) := by decide +kernel
theorem dX16_furthers_99 : decode cX16_furthers 99 = .ok (.goto 22, 3) := by decide +kernel
theorem dX16_furthers_102 : decode cX16_furthers 102 = .ok (.iload_n 1, 1) := by decide +kernel
theorem dX16_furthers_103 : decode cX16_furthers 103 = .ok (.bipush 9, 2) := by decide +kernel
theorem dX16_furthers_105 : decode cX16_furthers 105 = .ok (.if_icmp .eq 16, 3) := by decide +kernel
theorem dX16_furthers_108 : decode cX16_furthers 108 = .ok (.iload_n 1, 1) := by decide +kernel
theorem dX16_furthers_109 : decode cX16_furthers 109 = .ok (.bipush 13, 2) := by decide +kernel
theorem dX16_furthers_111 : decode cX16_furthers 111 = .ok (.if_icmp .eq 10, 3) := by decide +kernel
theorem dX16_furthers_114 : decode cX16_furthers 114 = .ok (.aload_n 0, 1) := by decide +kernel
theorem dX16_furthers_115 : decode cX16_furthers 115 = .ok (.bipush 127, 2) := by decide +kernel
theorem dX16_furthers_117 : decode cX16_furthers 117 = .ok (.iconst 3, 1) := by decide +kernel
theorem dX16_furthers_118 : decode cX16_furthers 118 = .ok (.invokevirtual 750, 3) := by decide +kernel
theorem dX16_furthers_121 : decode cX16_furthers 121 = .ok (.return_, 1) := by decide +kernel
noncomputable def fX16_furthers (h : pm_H) (a0 : Nat) : Option ((Nat × pm_H) ⊕ pm_H) := if pm_kd h a0 = 16 then (fX16_word h a0).bind fun v2 => if 8 ≤ v2.1.toInt32 then (if v2.1.toInt32 = 15 then (if pm_kd v2.2 a0 = 16 then (pm_R v2.2 a0 10).bind fun v7 => (fX16_word v2.2 a0).bind fun v9 => if pm_kd v9.2 v7 = 14 then (fX14_typeOfTable v9.2 v7 v9.1.toInt32).bind fun v12 => if pm_kd v9.2 a0 = 16 then (fX16_takes v9.2 a0 127 1).bind fun v15 => pt_k v15 fun w17 => if pm_kd w17 a0 = 16 then (fX16_takes w17 a0 v12 1).bind fun v20 => pt_k v20 fun w22 => if v2.1.toInt32 = 17 then (if pm_kd w22 a0 = 16 then (fX16_takes w22 a0 127 1).bind fun v31 => pt_k v31 fun w33 => some (.inr (w33)) else none) else (if pm_kd w22 a0 = 16 then (fX16_put w22 a0 127).bind fun v26 => pt_k v26 fun w28 => some (.inr (w28)) else none) else none else none else none else none) else (if v2.1.toInt32 = 17 then (if pm_kd v2.2 a0 = 16 then (pm_R v2.2 a0 10).bind fun v50 => (fX16_word v2.2 a0).bind fun v52 => if pm_kd v52.2 v50 = 14 then (fX14_typeOfTable v52.2 v50 v52.1.toInt32).bind fun v55 => if pm_kd v52.2 a0 = 16 then (fX16_takes v52.2 a0 127 1).bind fun v58 => pt_k v58 fun w60 => if pm_kd w60 a0 = 16 then (fX16_takes w60 a0 v55 1).bind fun v63 => pt_k v63 fun w65 => if v2.1.toInt32 = 17 then (if pm_kd w65 a0 = 16 then (fX16_takes w65 a0 127 1).bind fun v74 => pt_k v74 fun w76 => some (.inr (w76)) else none) else (if pm_kd w65 a0 = 16 then (fX16_put w65 a0 127).bind fun v69 => pt_k v69 fun w71 => some (.inr (w71)) else none) else none else none else none else none) else (if v2.1.toInt32 = 16 then (if pm_kd v2.2 a0 = 16 then (fX16_put v2.2 a0 127).bind fun v45 => pt_k v45 fun w47 => some (.inr (w47)) else none) else (if v2.1.toInt32 = 9 then (some (.inr (v2.2))) else (if v2.1.toInt32 = 13 then (some (.inr (v2.2))) else (if pm_kd v2.2 a0 = 16 then (fX16_takes v2.2 a0 127 3).bind fun v40 => pt_k v40 fun w42 => some (.inr (w42)) else none)))))) else (if pm_kd v2.2 a0 = 16 then (fX16_operates v2.2 a0 (200 + v2.1.toInt32)).bind fun v79 => pt_k v79 fun w81 => some (.inr (w81)) else none) else none
set_option maxHeartbeats 4000000 in
set_option maxRecDepth 100000 in
theorem ctX16_furthers {l : Launch} {G : pm_Gl} {h : pm_H} {a0 : Nat} {r : ((Nat × pm_H) ⊕ pm_H)} {Qr : Option Value → pm_H → Prop} {Qt : Nat → pm_H → Prop} (hf : fX16_furthers h a0 = some r) (q : pt_eV Qr Qt r) : pm_Ctt l G mX16_furthers [.ref a0] h 0 0 Qr Qt := by
  refine pm_bodyT pnX16 (Nat.le_of_ble_eq_true rfl) (fun g C X => ?_)
  have C : pm_C g cX16_furthers RX16 := C
  show pm_G g 0 [(0, .ref a0)] [] h 0 0
  unfold fX16_furthers at hf
  refine pm_aload_n C dX16_furthers_0 rfl rfl ?_
  obtain ⟨k1, hf⟩ := pm_if hf
  obtain ⟨v2, e3, hf⟩ := pm_bd hf
  refine pt_callV (as := []) (st := []) C X dX16_furthers_1 lnX16_603 myX16_word viX16_word ⟨by decide, by decide⟩ rfl rfl k1 (Nat.le_of_ble_eq_true rfl) (Nat.le_refl _) (Nat.le_refl _) (ctX16_word e3 ?_)
  show pm_G g 4 [(0, .ref a0)] [.long v2.1] v2.2 0 0
  refine pm_l2i C dX16_furthers_4 ?_
  refine pm_istore_n (lv' := [(1, .int v2.1.toInt32), (0, .ref a0)]) C dX16_furthers_5 rfl (pt_nl X (by decide)) rfl ?_
  refine pm_iload_n C dX16_furthers_6 rfl rfl ?_
  refine pm_bipush (v := 8) C dX16_furthers_7 (by decide) ?_
  refine pm_icmp_ge (tgt := 24) C dX16_furthers_9 (by decide) (fun c4 => ?_) (fun c4 => ?_)
  · have hf := pm_it hf c4
    refine pm_iload_n C dX16_furthers_24 rfl rfl ?_
    refine pm_bipush (v := 15) C dX16_furthers_25 (by decide) ?_
    refine pm_icmp_eq (tgt := 36) C dX16_furthers_27 (by decide) (fun c5 => ?_) (fun c5 => ?_)
    · have hf := pm_it hf c5
      refine pm_aload_n C dX16_furthers_36 rfl rfl ?_
      obtain ⟨k6, hf⟩ := pm_if hf
      obtain ⟨v7, e8, hf⟩ := pm_bd hf
      refine pm_getR C dX16_furthers_37 flX16_221 rfl k6 e8 ?_
      refine pm_aload_n C dX16_furthers_40 rfl rfl ?_
      obtain ⟨v9, e10, hf⟩ := pm_bd hf
      refine pt_callV (as := []) (st := [.ref v7]) C X dX16_furthers_41 lnX16_603 myX16_word viX16_word ⟨by decide, by decide⟩ rfl rfl k6 (Nat.le_of_ble_eq_true rfl) (Nat.le_refl _) (Nat.le_refl _) (ctX16_word e10 ?_)
      show pm_G g 44 [(1, .int v2.1.toInt32), (0, .ref a0)] [.long v9.1, .ref v7] v9.2 0 0
      refine pm_l2i C dX16_furthers_44 ?_
      obtain ⟨k11, hf⟩ := pm_if hf
      obtain ⟨v12, e13, hf⟩ := pm_bd hf
      refine pt_callV (as := [.int v9.1.toInt32]) (st := []) C X dX16_furthers_45 lnX16_661 myX14_typeOfTable viX14_typeOfTable ⟨by decide, by decide⟩ rfl rfl k11 (Nat.le_of_ble_eq_true rfl) (Nat.le_refl _) (Nat.le_refl _) (ctX14_typeOfTable e13 ?_)
      show pm_G g 48 [(1, .int v2.1.toInt32), (0, .ref a0)] [.int v12] v9.2 0 0
      refine pm_istore_n (lv' := [(2, .int v12), (1, .int v2.1.toInt32), (0, .ref a0)]) C dX16_furthers_48 rfl (pt_nl X (by decide)) rfl ?_
      refine pm_aload_n C dX16_furthers_49 rfl rfl ?_
      refine pm_bipush (v := 127) C dX16_furthers_50 (by decide) ?_
      refine pm_iconst (v := 1) C dX16_furthers_52 (by decide) ?_
      obtain ⟨k14, hf⟩ := pm_if hf
      obtain ⟨v15, e16, hf⟩ := pm_bd hf
      refine pt_callVT (as := [.int 127, .int 1]) (st := []) C X dX16_furthers_53 ltX16_750 myX16_takes viX16_takes ⟨by decide, by decide⟩ rfl rfl k14 (Nat.le_of_ble_eq_true rfl) (Nat.le_refl _) (Nat.le_refl _) (ctX16_takes e16 ?_)
      rcases v15 with z18 | w17
      · have hf := pt_kl hf
        cases hf
        exact q
      have hf := pt_kr hf
      show pm_G g 56 [(2, .int v12), (1, .int v2.1.toInt32), (0, .ref a0)] [] w17 0 0
      refine pm_aload_n C dX16_furthers_56 rfl rfl ?_
      refine pm_iload_n C dX16_furthers_57 rfl rfl ?_
      refine pm_iconst (v := 1) C dX16_furthers_58 (by decide) ?_
      obtain ⟨k19, hf⟩ := pm_if hf
      obtain ⟨v20, e21, hf⟩ := pm_bd hf
      refine pt_callVT (as := [.int v12, .int 1]) (st := []) C X dX16_furthers_59 ltX16_750 myX16_takes viX16_takes ⟨by decide, by decide⟩ rfl rfl k19 (Nat.le_of_ble_eq_true rfl) (Nat.le_refl _) (Nat.le_refl _) (ctX16_takes e21 ?_)
      rcases v20 with z23 | w22
      · have hf := pt_kl hf
        cases hf
        exact q
      have hf := pt_kr hf
      show pm_G g 62 [(2, .int v12), (1, .int v2.1.toInt32), (0, .ref a0)] [] w22 0 0
      refine pm_iload_n C dX16_furthers_62 rfl rfl ?_
      refine pm_bipush (v := 17) C dX16_furthers_63 (by decide) ?_
      refine pm_icmp_ne (tgt := 78) C dX16_furthers_65 (by decide) (fun c24 => ?_) (fun c24 => ?_)
      · have hf := pm_ie hf c24
        refine pm_aload_n C dX16_furthers_78 rfl rfl ?_
        refine pm_bipush (v := 127) C dX16_furthers_79 (by decide) ?_
        obtain ⟨k25, hf⟩ := pm_if hf
        obtain ⟨v26, e27, hf⟩ := pm_bd hf
        refine pt_callVT (as := [.int 127]) (st := []) C X dX16_furthers_81 ltX16_695 myX16_put viX16_put ⟨by decide, by decide⟩ rfl rfl k25 (Nat.le_of_ble_eq_true rfl) (Nat.le_refl _) (Nat.le_refl _) (ctX16_put e27 ?_)
        rcases v26 with z29 | w28
        · have hf := pt_kl hf
          cases hf
          exact q
        have hf := pt_kr hf
        show pm_G g 84 [(2, .int v12), (1, .int v2.1.toInt32), (0, .ref a0)] [] w28 0 0
        refine pm_goto (tgt := 121) C dX16_furthers_84 (by decide) ?_
        cases hf
        exact pt_vret C X dX16_furthers_121 rfl (Nat.le_refl _) (Nat.le_refl _) q
      · have hf := pm_it hf c24
        refine pm_aload_n C dX16_furthers_68 rfl rfl ?_
        refine pm_bipush (v := 127) C dX16_furthers_69 (by decide) ?_
        refine pm_iconst (v := 1) C dX16_furthers_71 (by decide) ?_
        obtain ⟨k30, hf⟩ := pm_if hf
        obtain ⟨v31, e32, hf⟩ := pm_bd hf
        refine pt_callVT (as := [.int 127, .int 1]) (st := []) C X dX16_furthers_72 ltX16_750 myX16_takes viX16_takes ⟨by decide, by decide⟩ rfl rfl k30 (Nat.le_of_ble_eq_true rfl) (Nat.le_refl _) (Nat.le_refl _) (ctX16_takes e32 ?_)
        rcases v31 with z34 | w33
        · have hf := pt_kl hf
          cases hf
          exact q
        have hf := pt_kr hf
        show pm_G g 75 [(2, .int v12), (1, .int v2.1.toInt32), (0, .ref a0)] [] w33 0 0
        refine pm_goto (tgt := 84) C dX16_furthers_75 (by decide) ?_
        refine pm_goto (tgt := 121) C dX16_furthers_84 (by decide) ?_
        cases hf
        exact pt_vret C X dX16_furthers_121 rfl (Nat.le_refl _) (Nat.le_refl _) q
    · have hf := pm_ie hf c5
      refine pm_iload_n C dX16_furthers_30 rfl rfl ?_
      refine pm_bipush (v := 17) C dX16_furthers_31 (by decide) ?_
      refine pm_icmp_ne (tgt := 87) C dX16_furthers_33 (by decide) (fun c35 => ?_) (fun c35 => ?_)
      · have hf := pm_ie hf c35
        refine pm_iload_n C dX16_furthers_87 rfl rfl ?_
        refine pm_bipush (v := 16) C dX16_furthers_88 (by decide) ?_
        refine pm_icmp_ne (tgt := 102) C dX16_furthers_90 (by decide) (fun c36 => ?_) (fun c36 => ?_)
        · have hf := pm_ie hf c36
          refine pm_iload_n C dX16_furthers_102 rfl rfl ?_
          refine pm_bipush (v := 9) C dX16_furthers_103 (by decide) ?_
          refine pm_icmp_eq (tgt := 121) C dX16_furthers_105 (by decide) (fun c37 => ?_) (fun c37 => ?_)
          · have hf := pm_it hf c37
            cases hf
            exact pt_vret C X dX16_furthers_121 rfl (Nat.le_refl _) (Nat.le_refl _) q
          · have hf := pm_ie hf c37
            refine pm_iload_n C dX16_furthers_108 rfl rfl ?_
            refine pm_bipush (v := 13) C dX16_furthers_109 (by decide) ?_
            refine pm_icmp_eq (tgt := 121) C dX16_furthers_111 (by decide) (fun c38 => ?_) (fun c38 => ?_)
            · have hf := pm_it hf c38
              cases hf
              exact pt_vret C X dX16_furthers_121 rfl (Nat.le_refl _) (Nat.le_refl _) q
            · have hf := pm_ie hf c38
              refine pm_aload_n C dX16_furthers_114 rfl rfl ?_
              refine pm_bipush (v := 127) C dX16_furthers_115 (by decide) ?_
              refine pm_iconst (v := 3) C dX16_furthers_117 (by decide) ?_
              obtain ⟨k39, hf⟩ := pm_if hf
              obtain ⟨v40, e41, hf⟩ := pm_bd hf
              refine pt_callVT (as := [.int 127, .int 3]) (st := []) C X dX16_furthers_118 ltX16_750 myX16_takes viX16_takes ⟨by decide, by decide⟩ rfl rfl k39 (Nat.le_of_ble_eq_true rfl) (Nat.le_refl _) (Nat.le_refl _) (ctX16_takes e41 ?_)
              rcases v40 with z43 | w42
              · have hf := pt_kl hf
                cases hf
                exact q
              have hf := pt_kr hf
              show pm_G g 121 [(1, .int v2.1.toInt32), (0, .ref a0)] [] w42 0 0
              cases hf
              exact pt_vret C X dX16_furthers_121 rfl (Nat.le_refl _) (Nat.le_refl _) q
        · have hf := pm_it hf c36
          refine pm_aload_n C dX16_furthers_93 rfl rfl ?_
          refine pm_bipush (v := 127) C dX16_furthers_94 (by decide) ?_
          obtain ⟨k44, hf⟩ := pm_if hf
          obtain ⟨v45, e46, hf⟩ := pm_bd hf
          refine pt_callVT (as := [.int 127]) (st := []) C X dX16_furthers_96 ltX16_695 myX16_put viX16_put ⟨by decide, by decide⟩ rfl rfl k44 (Nat.le_of_ble_eq_true rfl) (Nat.le_refl _) (Nat.le_refl _) (ctX16_put e46 ?_)
          rcases v45 with z48 | w47
          · have hf := pt_kl hf
            cases hf
            exact q
          have hf := pt_kr hf
          show pm_G g 99 [(1, .int v2.1.toInt32), (0, .ref a0)] [] w47 0 0
          refine pm_goto (tgt := 121) C dX16_furthers_99 (by decide) ?_
          cases hf
          exact pt_vret C X dX16_furthers_121 rfl (Nat.le_refl _) (Nat.le_refl _) q
      · have hf := pm_it hf c35
        refine pm_aload_n C dX16_furthers_36 rfl rfl ?_
        obtain ⟨k49, hf⟩ := pm_if hf
        obtain ⟨v50, e51, hf⟩ := pm_bd hf
        refine pm_getR C dX16_furthers_37 flX16_221 rfl k49 e51 ?_
        refine pm_aload_n C dX16_furthers_40 rfl rfl ?_
        obtain ⟨v52, e53, hf⟩ := pm_bd hf
        refine pt_callV (as := []) (st := [.ref v50]) C X dX16_furthers_41 lnX16_603 myX16_word viX16_word ⟨by decide, by decide⟩ rfl rfl k49 (Nat.le_of_ble_eq_true rfl) (Nat.le_refl _) (Nat.le_refl _) (ctX16_word e53 ?_)
        show pm_G g 44 [(1, .int v2.1.toInt32), (0, .ref a0)] [.long v52.1, .ref v50] v52.2 0 0
        refine pm_l2i C dX16_furthers_44 ?_
        obtain ⟨k54, hf⟩ := pm_if hf
        obtain ⟨v55, e56, hf⟩ := pm_bd hf
        refine pt_callV (as := [.int v52.1.toInt32]) (st := []) C X dX16_furthers_45 lnX16_661 myX14_typeOfTable viX14_typeOfTable ⟨by decide, by decide⟩ rfl rfl k54 (Nat.le_of_ble_eq_true rfl) (Nat.le_refl _) (Nat.le_refl _) (ctX14_typeOfTable e56 ?_)
        show pm_G g 48 [(1, .int v2.1.toInt32), (0, .ref a0)] [.int v55] v52.2 0 0
        refine pm_istore_n (lv' := [(2, .int v55), (1, .int v2.1.toInt32), (0, .ref a0)]) C dX16_furthers_48 rfl (pt_nl X (by decide)) rfl ?_
        refine pm_aload_n C dX16_furthers_49 rfl rfl ?_
        refine pm_bipush (v := 127) C dX16_furthers_50 (by decide) ?_
        refine pm_iconst (v := 1) C dX16_furthers_52 (by decide) ?_
        obtain ⟨k57, hf⟩ := pm_if hf
        obtain ⟨v58, e59, hf⟩ := pm_bd hf
        refine pt_callVT (as := [.int 127, .int 1]) (st := []) C X dX16_furthers_53 ltX16_750 myX16_takes viX16_takes ⟨by decide, by decide⟩ rfl rfl k57 (Nat.le_of_ble_eq_true rfl) (Nat.le_refl _) (Nat.le_refl _) (ctX16_takes e59 ?_)
        rcases v58 with z61 | w60
        · have hf := pt_kl hf
          cases hf
          exact q
        have hf := pt_kr hf
        show pm_G g 56 [(2, .int v55), (1, .int v2.1.toInt32), (0, .ref a0)] [] w60 0 0
        refine pm_aload_n C dX16_furthers_56 rfl rfl ?_
        refine pm_iload_n C dX16_furthers_57 rfl rfl ?_
        refine pm_iconst (v := 1) C dX16_furthers_58 (by decide) ?_
        obtain ⟨k62, hf⟩ := pm_if hf
        obtain ⟨v63, e64, hf⟩ := pm_bd hf
        refine pt_callVT (as := [.int v55, .int 1]) (st := []) C X dX16_furthers_59 ltX16_750 myX16_takes viX16_takes ⟨by decide, by decide⟩ rfl rfl k62 (Nat.le_of_ble_eq_true rfl) (Nat.le_refl _) (Nat.le_refl _) (ctX16_takes e64 ?_)
        rcases v63 with z66 | w65
        · have hf := pt_kl hf
          cases hf
          exact q
        have hf := pt_kr hf
        show pm_G g 62 [(2, .int v55), (1, .int v2.1.toInt32), (0, .ref a0)] [] w65 0 0
        refine pm_iload_n C dX16_furthers_62 rfl rfl ?_
        refine pm_bipush (v := 17) C dX16_furthers_63 (by decide) ?_
        refine pm_icmp_ne (tgt := 78) C dX16_furthers_65 (by decide) (fun c67 => ?_) (fun c67 => ?_)
        · have hf := pm_ie hf c67
          refine pm_aload_n C dX16_furthers_78 rfl rfl ?_
          refine pm_bipush (v := 127) C dX16_furthers_79 (by decide) ?_
          obtain ⟨k68, hf⟩ := pm_if hf
          obtain ⟨v69, e70, hf⟩ := pm_bd hf
          refine pt_callVT (as := [.int 127]) (st := []) C X dX16_furthers_81 ltX16_695 myX16_put viX16_put ⟨by decide, by decide⟩ rfl rfl k68 (Nat.le_of_ble_eq_true rfl) (Nat.le_refl _) (Nat.le_refl _) (ctX16_put e70 ?_)
          rcases v69 with z72 | w71
          · have hf := pt_kl hf
            cases hf
            exact q
          have hf := pt_kr hf
          show pm_G g 84 [(2, .int v55), (1, .int v2.1.toInt32), (0, .ref a0)] [] w71 0 0
          refine pm_goto (tgt := 121) C dX16_furthers_84 (by decide) ?_
          cases hf
          exact pt_vret C X dX16_furthers_121 rfl (Nat.le_refl _) (Nat.le_refl _) q
        · have hf := pm_it hf c67
          refine pm_aload_n C dX16_furthers_68 rfl rfl ?_
          refine pm_bipush (v := 127) C dX16_furthers_69 (by decide) ?_
          refine pm_iconst (v := 1) C dX16_furthers_71 (by decide) ?_
          obtain ⟨k73, hf⟩ := pm_if hf
          obtain ⟨v74, e75, hf⟩ := pm_bd hf
          refine pt_callVT (as := [.int 127, .int 1]) (st := []) C X dX16_furthers_72 ltX16_750 myX16_takes viX16_takes ⟨by decide, by decide⟩ rfl rfl k73 (Nat.le_of_ble_eq_true rfl) (Nat.le_refl _) (Nat.le_refl _) (ctX16_takes e75 ?_)
          rcases v74 with z77 | w76
          · have hf := pt_kl hf
            cases hf
            exact q
          have hf := pt_kr hf
          show pm_G g 75 [(2, .int v55), (1, .int v2.1.toInt32), (0, .ref a0)] [] w76 0 0
          refine pm_goto (tgt := 84) C dX16_furthers_75 (by decide) ?_
          refine pm_goto (tgt := 121) C dX16_furthers_84 (by decide) ?_
          cases hf
          exact pt_vret C X dX16_furthers_121 rfl (Nat.le_refl _) (Nat.le_refl _) q
  · have hf := pm_ie hf c4
    refine pm_aload_n C dX16_furthers_12 rfl rfl ?_
    refine pm_sipush (v := 200) C dX16_furthers_13 (by decide) ?_
    refine pm_iload_n C dX16_furthers_16 rfl rfl ?_
    refine pm_iadd C dX16_furthers_17 ?_
    obtain ⟨k78, hf⟩ := pm_if hf
    obtain ⟨v79, e80, hf⟩ := pm_bd hf
    refine pt_callVT (as := [.int (200 + v2.1.toInt32)]) (st := []) C X dX16_furthers_18 ltX16_735 myX16_operates viX16_operates ⟨by decide, by decide⟩ rfl rfl k78 (Nat.le_of_ble_eq_true rfl) (Nat.le_refl _) (Nat.le_refl _) (ctX16_operates e80 ?_)
    rcases v79 with z82 | w81
    · have hf := pt_kl hf
      cases hf
      exact q
    have hf := pt_kr hf
    show pm_G g 21 [(1, .int v2.1.toInt32), (0, .ref a0)] [] w81 0 0
    refine pm_goto (tgt := 121) C dX16_furthers_21 (by decide) ?_
    cases hf
    exact pt_vret C X dX16_furthers_121 rfl (Nat.le_refl _) (Nat.le_refl _) q
theorem dX16_goesTogether_0 : decode cX16_goesTogether 0 = .ok (.iload_n 1, 1) := by decide +kernel
theorem dX16_goesTogether_1 : decode cX16_goesTogether 1 = .ok (.bipush 69, 2) := by decide +kernel
theorem dX16_goesTogether_3 : decode cX16_goesTogether 3 = .ok (.if_icmp .lt 18, 3) := by decide +kernel
theorem dX16_goesTogether_6 : decode cX16_goesTogether 6 = .ok (.iload_n 1, 1) := by decide +kernel
theorem dX16_goesTogether_7 : decode cX16_goesTogether 7 = .ok (.sipush 196, 3) := by decide +kernel
theorem dX16_goesTogether_10 : decode cX16_goesTogether 10 = .ok (.if_icmp .gt 11, 3) := by decide +kernel
theorem dX16_goesTogether_13 : decode cX16_goesTogether 13 = .ok (.aload_n 0, 1) := by decide +kernel
theorem dX16_goesTogether_14 : decode cX16_goesTogether 14 = .ok (.iload_n 1, 1) := by decide +kernel
theorem dX16_goesTogether_15 : decode cX16_goesTogether 15 = .ok (.invokevirtual 735, 3) := by decide +kernel
theorem dX16_goesTogether_18 : decode cX16_goesTogether 18 = .ok (.goto 189, 3) := by decide +kernel
theorem dX16_goesTogether_21 : decode cX16_goesTogether 21 = .ok (.iload_n 1, 1) := by decide +kernel
theorem dX16_goesTogether_22 : decode cX16_goesTogether 22 = .ok (.bipush 32, 2) := by decide +kernel
theorem dX16_goesTogether_24 : decode cX16_goesTogether 24 = .ok (.if_icmp .ge 11, 3) := by decide +kernel
theorem dX16_goesTogether_27 : decode cX16_goesTogether 27 = .ok (.aload_n 0, 1) := by decide +kernel
theorem dX16_goesTogether_28 : decode cX16_goesTogether 28 = .ok (.iload_n 1, 1) := by decide +kernel
theorem dX16_goesTogether_29 : decode cX16_goesTogether 29 = .ok (.invokevirtual 738, 3) := by decide +kernel
theorem dX16_goesTogether_32 : decode cX16_goesTogether 32 = .ok (.goto 175, 3) := by decide +kernel
theorem dX16_goesTogether_35 : decode cX16_goesTogether 35 = .ok (.iload_n 1, 1) := by decide +kernel
theorem dX16_goesTogether_36 : decode cX16_goesTogether 36 = .ok (.bipush 40, 2) := by decide +kernel
theorem dX16_goesTogether_38 : decode cX16_goesTogether 38 = .ok (.if_icmp .ge 11, 3) := by decide +kernel
theorem dX16_goesTogether_41 : decode cX16_goesTogether 41 = .ok (.aload_n 0, 1) := by decide +kernel
theorem dX16_goesTogether_42 : decode cX16_goesTogether 42 = .ok (.iload_n 1, 1) := by decide +kernel
theorem dX16_goesTogether_43 : decode cX16_goesTogether 43 = .ok (.invokevirtual 741, 3) := by decide +kernel
theorem dX16_goesTogether_46 : decode cX16_goesTogether 46 = .ok (.goto 161, 3) := by decide +kernel
theorem dX16_goesTogether_49 : decode cX16_goesTogether 49 = .ok (.iload_n 1, 1) := by decide +kernel
theorem dX16_goesTogether_50 : decode cX16_goesTogether 50 = .ok (.bipush 63, 2) := by decide +kernel
theorem dX16_goesTogether_52 : decode cX16_goesTogether 52 = .ok (.if_icmp .ge 11, 3) := by decide +kernel
theorem dX16_goesTogether_55 : decode cX16_goesTogether 55 = .ok (.aload_n 0, 1) := by decide +kernel
theorem dX16_goesTogether_56 : decode cX16_goesTogether 56 = .ok (.iload_n 1, 1) := by decide +kernel
theorem dX16_goesTogether_57 : decode cX16_goesTogether 57 = .ok (.invokevirtual 744, 3) := by decide +kernel
theorem dX16_goesTogether_60 : decode cX16_goesTogether 60 = .ok (.goto 147, 3) := by decide +kernel
theorem dX16_goesTogether_63 : decode cX16_goesTogether 63 = .ok (.iload_n 1, 1) := by decide +kernel
theorem dX16_goesTogether_64 : decode cX16_goesTogether 64 = .ok (.sipush 252, 3) := by decide +kernel
theorem dX16_goesTogether_67 : decode cX16_goesTogether 67 = .ok (.if_icmp .ne 10, 3) := by decide +kernel
theorem dX16_goesTogether_70 : decode cX16_goesTogether 70 = .ok (.aload_n 0, 1) := by decide +kernel
theorem dX16_goesTogether_71 : decode cX16_goesTogether 71 = .ok (.invokevirtual 747, 3) := by decide +kernel
theorem dX16_goesTogether_74 : decode cX16_goesTogether 74 = .ok (.goto 133, 3) := by decide +kernel
theorem dX16_goesTogether_77 : decode cX16_goesTogether 77 = .ok (.iload_n 1, 1) := by decide +kernel
theorem dX16_goesTogether_78 : decode cX16_goesTogether 78 = .ok (.bipush 63, 2) := by decide +kernel
theorem dX16_goesTogether_80 : decode cX16_goesTogether 80 = .ok (.if_icmp .ne 12, 3) := by decide +kernel
theorem dX16_goesTogether_83 : decode cX16_goesTogether 83 = .ok (.aload_n 0, 1) := by decide +kernel
theorem dX16_goesTogether_84 : decode cX16_goesTogether 84 = .ok (.bipush 127, 2) := by decide +kernel
theorem dX16_goesTogether_86 : decode cX16_goesTogether 86 = .ok (.invokevirtual 695, 3) := by decide +kernel
theorem dX16_goesTogether_89 : decode cX16_goesTogether 89 = .ok (.goto 118, 3) := by decide +kernel
theorem dX16_goesTogether_92 : decode cX16_goesTogether 92 = .ok (.iload_n 1, 1) := by decide +kernel
theorem dX16_goesTogether_93 : decode cX16_goesTogether 93 = .ok (.bipush 64, 2) := by decide +kernel
theorem dX16_goesTogether_95 : decode cX16_goesTogether 95 = .ok (.if_icmp .ne 19, 3) := by decide +kernel
theorem dX16_goesTogether_98 : decode cX16_goesTogether 98 = .ok (.aload_n 0, 1) := by decide +kernel
theorem dX16_goesTogether_99 : decode cX16_goesTogether 99 = .ok (.bipush 127, 2) := by decide +kernel
theorem dX16_goesTogether_101 : decode cX16_goesTogether 101 = .ok (.iconst 1, 1) := by decide +kernel
theorem dX16_goesTogether_102 : decode cX16_goesTogether 102 = .ok (.invokevirtual 750, 3) := by decide +kernel
theorem dX16_goesTogether_105 : decode cX16_goesTogether 105 = .ok (.aload_n 0, 1) := by decide +kernel
theorem dX16_goesTogether_106 : decode cX16_goesTogether 106 = .ok (.bipush 127, 2) := by decide +kernel
theorem dX16_goesTogether_108 : decode cX16_goesTogether 108 = .ok (.invokevirtual 695, 3) := by decide +kernel
theorem dX16_goesTogether_111 : decode cX16_goesTogether 111 = .ok (.goto 96, 3) := by decide +kernel
theorem dX16_goesTogether_114 : decode cX16_goesTogether 114 = .ok (.iload_n 1, 1) := by decide +kernel
theorem dX16_goesTogether_115 : decode cX16_goesTogether 115 = .ok (.bipush 69, 2) := by decide +kernel
theorem dX16_goesTogether_117 : decode cX16_goesTogether 117 = .ok (.if_icmp .ge 15, 3) := by decide +kernel
theorem dX16_goesTogether_120 : decode cX16_goesTogether 120 = .ok (.aload_n 0, 1) := by decide +kernel
theorem dX16_goesTogether_121 : decode cX16_goesTogether 121 = .ok (.sipush 192, 3) := by decide +kernel
theorem dX16_goesTogether_124 : decode cX16_goesTogether 124 = .ok (.iload_n 1, 1) := by decide +kernel
theorem dX16_goesTogether_125 : decode cX16_goesTogether 125 = .ok (.isub, 1) := by decide +kernel
theorem dX16_goesTogether_126 : decode cX16_goesTogether 126 = .ok (.invokevirtual 695, 3) := by decide +kernel
theorem dX16_goesTogether_129 : decode cX16_goesTogether 129 = .ok (.goto 78, 3) := by decide +kernel
theorem dX16_goesTogether_132 : decode cX16_goesTogether 132 = .ok (.iload_n 1, 1) := by decide +kernel
theorem dX16_goesTogether_133 : decode cX16_goesTogether 133 = .ok (.sipush 208, 3) := by decide +kernel
theorem dX16_goesTogether_136 : decode cX16_goesTogether 136 = .ok (.if_icmp .ne 21, 3) := by decide +kernel
theorem dX16_goesTogether_139 : decode cX16_goesTogether 139 = .ok (.aload_n 0, 1) := by decide +kernel
theorem dX16_goesTogether_140 : decode cX16_goesTogether 140 = .ok (.aload_n 0, 1) := by decide +kernel
theorem dX16_goesTogether_141 : decode cX16_goesTogether 141 = .ok (.getfield 221, 3) := by decide +kernel
theorem dX16_goesTogether_144 : decode cX16_goesTogether 144 = .ok (.aload_n 0, 1) := by decide +kernel
theorem dX16_goesTogether_145 : decode cX16_goesTogether 145 = .ok (.getfield 594, 3) := by decide +kernel
theorem dX16_goesTogether_148 : decode cX16_goesTogether 148 = .ok (.invokevirtual 261, 3) := by decide +kernel
theorem dX16_goesTogether_151 : decode cX16_goesTogether 151 = .ok (.invokevirtual 695, 3) := by decide +kernel
theorem dX16_goesTogether_154 : decode cX16_goesTogether 154 = .ok (.goto 53, 3) := by decide +kernel
theorem dX16_goesTogether_157 : decode cX16_goesTogether 157 = .ok (.iload_n 1, 1) := by decide +kernel
theorem dX16_goesTogether_158 : decode cX16_goesTogether 158 = .ok (.sipush 209, 3) := by decide +kernel
theorem dX16_goesTogether_161 : decode cX16_goesTogether 161 = .ok (.if_icmp .ne 40, 3) := by decide +kernel
theorem dX16_goesTogether_164 : decode cX16_goesTogether 164 = .ok (.aload_n 0, 1) := by decide +kernel
theorem dX16_goesTogether_165 : decode cX16_goesTogether 165 = .ok (.iconst 0, 1) := by decide +kernel
theorem dX16_goesTogether_166 : decode cX16_goesTogether 166 = .ok (.invokevirtual 692, 3) := by decide +kernel
theorem dX16_goesTogether_169 : decode cX16_goesTogether 169 = .ok (.istore_n 2, 1) := by decide +kernel
theorem dX16_goesTogether_170 : decode cX16_goesTogether 170 = .ok (.iload_n 2, 1) := by decide +kernel
theorem dX16_goesTogether_171 : decode cX16_goesTogether 171 = .ok (.iconst (-1), 1) := by decide +kernel
theorem dX16_goesTogether_172 : decode cX16_goesTogether 172 = .ok (.if_icmp .eq 20, 3) := by decide +kernel
theorem dX16_goesTogether_175 : decode cX16_goesTogether 175 = .ok (.iload_n 2, 1) := by decide +kernel
theorem dX16_goesTogether_176 : decode cX16_goesTogether 176 = .ok (.invokestatic 270, 3) := by decide +kernel
theorem dX16_goesTogether_179 : decode cX16_goesTogether 179 = .ok (.ifCond .ne 13, 3) := by decide +kernel
theorem dX16_goesTogether_182 : decode cX16_goesTogether 182 = .ok (.aload_n 0, 1) := by decide +kernel
theorem dX16_goesTogether_183 : decode cX16_goesTogether 183 = .ok (.bipush 29, 2) := by decide +kernel
theorem dX16_goesTogether_185 : decode cX16_goesTogether 185 = .ok (.aload_n 0, 1) := by decide +kernel
theorem dX16_goesTogether_186 : decode cX16_goesTogether 186 = .ok (.getfield 686, 3) := by decide +kernel
theorem dX16_goesTogether_189 : decode cX16_goesTogether 189 = .ok (.invokevirtual 257, 3) := by decide +kernel
theorem dX16_goesTogether_192 : decode cX16_goesTogether 192 = .ok (.aload_n 0, 1) := by decide +kernel
theorem dX16_goesTogether_193 : decode cX16_goesTogether 193 = .ok (.bipush 127, 2) := by decide +kernel
theorem dX16_goesTogether_195 : decode cX16_goesTogether 195 = .ok (.invokevirtual 695, 3) := by decide +kernel
theorem dX16_goesTogether_198 : decode cX16_goesTogether 198 = .ok (.goto 9, 3) := by decide +kernel
theorem dX16_goesTogether_201 : decode cX16_goesTogether 201 = .ok (.aload_n 0, 1) := by decide +kernel
theorem dX16_goesTogether_202 : decode cX16_goesTogether 202 = .ok (.bipush 112, 2) := by decide +kernel
theorem dX16_goesTogether_204 : decode cX16_goesTogether 204 = .ok (.invokevirtual 695, 3) := by decide +kernel
theorem dX16_goesTogether_207 : decode cX16_goesTogether 207 = .ok (.return_, 1) := by decide +kernel
noncomputable def fX16_goesTogether_b21 (h : pm_H) (x0 : Nat) (x1 : Int32) : Option ((Nat × pm_H) ⊕ pm_H) := if 32 ≤ x1 then (if 40 ≤ x1 then (if 63 ≤ x1 then (if x1 = 252 then (if pm_kd h x0 = 16 then (fX16_furthers h x0).bind fun v82 => pt_k v82 fun w84 => some (.inr (w84)) else none) else (if x1 = 63 then (if pm_kd h x0 = 16 then (fX16_put h x0 127).bind fun v77 => pt_k v77 fun w79 => some (.inr (w79)) else none) else (if x1 = 64 then (if pm_kd h x0 = 16 then (fX16_takes h x0 127 1).bind fun v67 => pt_k v67 fun w69 => if pm_kd w69 x0 = 16 then (fX16_put w69 x0 127).bind fun v72 => pt_k v72 fun w74 => some (.inr (w74)) else none else none) else (if 69 ≤ x1 then (if x1 = 208 then (if pm_kd h x0 = 16 then (pm_R h x0 10).bind fun v52 => if pm_kd h v52 = 14 then (fX14_at h v52 (pm_I h x0 19)).bind fun v55 => (fX16_put h x0 v55).bind fun v57 => pt_k v57 fun w59 => some (.inr (w59)) else none else none) else (if x1 = 209 then (if pm_kd h x0 = 16 then (fX16_take h x0 0).bind fun v23 => pt_k v23 fun w25 => if w25.1 = (-1) then (if pm_kd w25.2 x0 = 16 then (fX16_put w25.2 x0 127).bind fun v29 => pt_k v29 fun w31 => some (.inr (w31)) else none) else (pm_let (fX16_isReference w25.1) fun v33 => if v33 = 0 then (if pm_kd w25.2 x0 = 16 then (fX16_stops w25.2 x0 29 (pm_I w25.2 x0 31)).bind fun v42 => pt_k v42 fun w44 => if pm_kd w44 x0 = 16 then (fX16_put w44 x0 127).bind fun v47 => pt_k v47 fun w49 => some (.inr (w49)) else none else none) else (if pm_kd w25.2 x0 = 16 then (fX16_put w25.2 x0 127).bind fun v37 => pt_k v37 fun w39 => some (.inr (w39)) else none)) else none) else (if pm_kd h x0 = 16 then (fX16_put h x0 112).bind fun v18 => pt_k v18 fun w20 => some (.inr (w20)) else none))) else (if pm_kd h x0 = 16 then (fX16_put h x0 (192 - x1)).bind fun v62 => pt_k v62 fun w64 => some (.inr (w64)) else none))))) else (if pm_kd h x0 = 16 then (fX16_accesses h x0 x1).bind fun v87 => pt_k v87 fun w89 => some (.inr (w89)) else none)) else (if pm_kd h x0 = 16 then (fX16_names h x0 x1).bind fun v92 => pt_k v92 fun w94 => some (.inr (w94)) else none)) else (if pm_kd h x0 = 16 then (fX16_controls h x0 x1).bind fun v97 => pt_k v97 fun w99 => some (.inr (w99)) else none)
noncomputable def fX16_goesTogether (h : pm_H) (a0 : Nat) (p1 : Int32) : Option ((Nat × pm_H) ⊕ pm_H) := if p1 < 69 then (fX16_goesTogether_b21 h a0 p1) else (if 196 < p1 then (fX16_goesTogether_b21 h a0 p1) else (if pm_kd h a0 = 16 then (fX16_operates h a0 p1).bind fun v4 => pt_k v4 fun w6 => some (.inr (w6)) else none))
set_option maxHeartbeats 4000000 in
set_option maxRecDepth 100000 in
theorem bX16_goesTogether_21 {g : pm_Gm} {l : Launch} {G : pm_Gl} {Qr : Option Value → pm_H → Prop} {Qt : Nat → pm_H → Prop} (C : pm_C g cX16_goesTogether RX16) (X : pm_XT g l G mX16_goesTogether 0 0 Qr Qt) {h : pm_H} {x0 : Nat} {x1 : Int32} {r : ((Nat × pm_H) ⊕ pm_H)} (hf : fX16_goesTogether_b21 h x0 x1 = some r) (q : pt_eV Qr Qt r) : pm_G g 21 [(0, .ref x0), (1, .int x1)] [] h 0 0 := by
  unfold fX16_goesTogether_b21 at hf
  refine pm_iload_n C dX16_goesTogether_21 rfl rfl ?_
  refine pm_bipush (v := 32) C dX16_goesTogether_22 (by decide) ?_
  refine pm_icmp_ge (tgt := 35) C dX16_goesTogether_24 (by decide) (fun c8 => ?_) (fun c8 => ?_)
  · have hf := pm_it hf c8
    refine pm_iload_n C dX16_goesTogether_35 rfl rfl ?_
    refine pm_bipush (v := 40) C dX16_goesTogether_36 (by decide) ?_
    refine pm_icmp_ge (tgt := 49) C dX16_goesTogether_38 (by decide) (fun c9 => ?_) (fun c9 => ?_)
    · have hf := pm_it hf c9
      refine pm_iload_n C dX16_goesTogether_49 rfl rfl ?_
      refine pm_bipush (v := 63) C dX16_goesTogether_50 (by decide) ?_
      refine pm_icmp_ge (tgt := 63) C dX16_goesTogether_52 (by decide) (fun c10 => ?_) (fun c10 => ?_)
      · have hf := pm_it hf c10
        refine pm_iload_n C dX16_goesTogether_63 rfl rfl ?_
        refine pm_sipush (v := 252) C dX16_goesTogether_64 (by decide) ?_
        refine pm_icmp_ne (tgt := 77) C dX16_goesTogether_67 (by decide) (fun c11 => ?_) (fun c11 => ?_)
        · have hf := pm_ie hf c11
          refine pm_iload_n C dX16_goesTogether_77 rfl rfl ?_
          refine pm_bipush (v := 63) C dX16_goesTogether_78 (by decide) ?_
          refine pm_icmp_ne (tgt := 92) C dX16_goesTogether_80 (by decide) (fun c12 => ?_) (fun c12 => ?_)
          · have hf := pm_ie hf c12
            refine pm_iload_n C dX16_goesTogether_92 rfl rfl ?_
            refine pm_bipush (v := 64) C dX16_goesTogether_93 (by decide) ?_
            refine pm_icmp_ne (tgt := 114) C dX16_goesTogether_95 (by decide) (fun c13 => ?_) (fun c13 => ?_)
            · have hf := pm_ie hf c13
              refine pm_iload_n C dX16_goesTogether_114 rfl rfl ?_
              refine pm_bipush (v := 69) C dX16_goesTogether_115 (by decide) ?_
              refine pm_icmp_ge (tgt := 132) C dX16_goesTogether_117 (by decide) (fun c14 => ?_) (fun c14 => ?_)
              · have hf := pm_it hf c14
                refine pm_iload_n C dX16_goesTogether_132 rfl rfl ?_
                refine pm_sipush (v := 208) C dX16_goesTogether_133 (by decide) ?_
                refine pm_icmp_ne (tgt := 157) C dX16_goesTogether_136 (by decide) (fun c15 => ?_) (fun c15 => ?_)
                · have hf := pm_ie hf c15
                  refine pm_iload_n C dX16_goesTogether_157 rfl rfl ?_
                  refine pm_sipush (v := 209) C dX16_goesTogether_158 (by decide) ?_
                  refine pm_icmp_ne (tgt := 201) C dX16_goesTogether_161 (by decide) (fun c16 => ?_) (fun c16 => ?_)
                  · have hf := pm_ie hf c16
                    refine pm_aload_n C dX16_goesTogether_201 rfl rfl ?_
                    refine pm_bipush (v := 112) C dX16_goesTogether_202 (by decide) ?_
                    obtain ⟨k17, hf⟩ := pm_if hf
                    obtain ⟨v18, e19, hf⟩ := pm_bd hf
                    refine pt_callVT (as := [.int 112]) (st := []) C X dX16_goesTogether_204 ltX16_695 myX16_put viX16_put ⟨by decide, by decide⟩ rfl rfl k17 (Nat.le_of_ble_eq_true rfl) (Nat.le_refl _) (Nat.le_refl _) (ctX16_put e19 ?_)
                    rcases v18 with z21 | w20
                    · have hf := pt_kl hf
                      cases hf
                      exact q
                    have hf := pt_kr hf
                    show pm_G g 207 [(0, .ref x0), (1, .int x1)] [] w20 0 0
                    cases hf
                    exact pt_vret C X dX16_goesTogether_207 rfl (Nat.le_refl _) (Nat.le_refl _) q
                  · have hf := pm_it hf c16
                    refine pm_aload_n C dX16_goesTogether_164 rfl rfl ?_
                    refine pm_iconst (v := 0) C dX16_goesTogether_165 (by decide) ?_
                    obtain ⟨k22, hf⟩ := pm_if hf
                    obtain ⟨v23, e24, hf⟩ := pm_bd hf
                    refine pt_callVT (as := [.int 0]) (st := []) C X dX16_goesTogether_166 ltX16_692 myX16_take viX16_take ⟨by decide, by decide⟩ rfl rfl k22 (Nat.le_of_ble_eq_true rfl) (Nat.le_refl _) (Nat.le_refl _) (ctX16_take e24 ?_)
                    rcases v23 with z26 | w25
                    · have hf := pt_kl hf
                      cases hf
                      exact q
                    have hf := pt_kr hf
                    show pm_G g 169 [(0, .ref x0), (1, .int x1)] [.int w25.1] w25.2 0 0
                    refine pm_istore_n (lv' := [(2, .int w25.1), (0, .ref x0), (1, .int x1)]) C dX16_goesTogether_169 rfl (pt_nl X (by decide)) rfl ?_
                    refine pm_iload_n C dX16_goesTogether_170 rfl rfl ?_
                    refine pm_iconst (v := (-1)) C dX16_goesTogether_171 (by decide) ?_
                    refine pm_icmp_eq (tgt := 192) C dX16_goesTogether_172 (by decide) (fun c27 => ?_) (fun c27 => ?_)
                    · have hf := pm_it hf c27
                      refine pm_aload_n C dX16_goesTogether_192 rfl rfl ?_
                      refine pm_bipush (v := 127) C dX16_goesTogether_193 (by decide) ?_
                      obtain ⟨k28, hf⟩ := pm_if hf
                      obtain ⟨v29, e30, hf⟩ := pm_bd hf
                      refine pt_callVT (as := [.int 127]) (st := []) C X dX16_goesTogether_195 ltX16_695 myX16_put viX16_put ⟨by decide, by decide⟩ rfl rfl k28 (Nat.le_of_ble_eq_true rfl) (Nat.le_refl _) (Nat.le_refl _) (ctX16_put e30 ?_)
                      rcases v29 with z32 | w31
                      · have hf := pt_kl hf
                        cases hf
                        exact q
                      have hf := pt_kr hf
                      show pm_G g 198 [(2, .int w25.1), (0, .ref x0), (1, .int x1)] [] w31 0 0
                      refine pm_goto (tgt := 207) C dX16_goesTogether_198 (by decide) ?_
                      cases hf
                      exact pt_vret C X dX16_goesTogether_207 rfl (Nat.le_refl _) (Nat.le_refl _) q
                    · have hf := pm_ie hf c27
                      refine pm_iload_n C dX16_goesTogether_175 rfl rfl ?_
                      obtain ⟨v33, e34, hf⟩ := pm_lt hf
                      refine pt_callS (as := [.int w25.1]) (st := []) C X dX16_goesTogether_176 lnX16_270 myX16_isReference stX16_isReference ⟨by decide, by decide⟩ rfl rfl (Nat.le_of_ble_eq_true rfl) (Nat.le_refl _) (Nat.le_refl _) (ctX16_isReference e34 ?_)
                      show pm_G g 179 [(2, .int w25.1), (0, .ref x0), (1, .int x1)] [.int v33] w25.2 0 0
                      refine pm_if_ne (tgt := 192) C dX16_goesTogether_179 (by decide) (fun c35 => ?_) (fun c35 => ?_)
                      · have hf := pm_ie hf c35
                        refine pm_aload_n C dX16_goesTogether_192 rfl rfl ?_
                        refine pm_bipush (v := 127) C dX16_goesTogether_193 (by decide) ?_
                        obtain ⟨k36, hf⟩ := pm_if hf
                        obtain ⟨v37, e38, hf⟩ := pm_bd hf
                        refine pt_callVT (as := [.int 127]) (st := []) C X dX16_goesTogether_195 ltX16_695 myX16_put viX16_put ⟨by decide, by decide⟩ rfl rfl k36 (Nat.le_of_ble_eq_true rfl) (Nat.le_refl _) (Nat.le_refl _) (ctX16_put e38 ?_)
                        rcases v37 with z40 | w39
                        · have hf := pt_kl hf
                          cases hf
                          exact q
                        have hf := pt_kr hf
                        show pm_G g 198 [(2, .int w25.1), (0, .ref x0), (1, .int x1)] [] w39 0 0
                        refine pm_goto (tgt := 207) C dX16_goesTogether_198 (by decide) ?_
                        cases hf
                        exact pt_vret C X dX16_goesTogether_207 rfl (Nat.le_refl _) (Nat.le_refl _) q
                      · have hf := pm_it hf c35
                        refine pm_aload_n C dX16_goesTogether_182 rfl rfl ?_
                        refine pm_bipush (v := 29) C dX16_goesTogether_183 (by decide) ?_
                        refine pm_aload_n C dX16_goesTogether_185 rfl rfl ?_
                        obtain ⟨k41, hf⟩ := pm_if hf
                        refine pm_getI C dX16_goesTogether_186 flX16_686 rfl k41 rfl ?_
                        obtain ⟨v42, e43, hf⟩ := pm_bd hf
                        refine pt_callVT (as := [.int 29, .int (pm_I w25.2 x0 31)]) (st := []) C X dX16_goesTogether_189 ltX16_257 myX16_stops viX16_stops ⟨by decide, by decide⟩ rfl rfl k41 (Nat.le_of_ble_eq_true rfl) (Nat.le_refl _) (Nat.le_refl _) (ctX16_stops e43 ?_)
                        rcases v42 with z45 | w44
                        · have hf := pt_kl hf
                          cases hf
                          exact q
                        have hf := pt_kr hf
                        show pm_G g 192 [(2, .int w25.1), (0, .ref x0), (1, .int x1)] [] w44 0 0
                        refine pm_aload_n C dX16_goesTogether_192 rfl rfl ?_
                        refine pm_bipush (v := 127) C dX16_goesTogether_193 (by decide) ?_
                        obtain ⟨k46, hf⟩ := pm_if hf
                        obtain ⟨v47, e48, hf⟩ := pm_bd hf
                        refine pt_callVT (as := [.int 127]) (st := []) C X dX16_goesTogether_195 ltX16_695 myX16_put viX16_put ⟨by decide, by decide⟩ rfl rfl k46 (Nat.le_of_ble_eq_true rfl) (Nat.le_refl _) (Nat.le_refl _) (ctX16_put e48 ?_)
                        rcases v47 with z50 | w49
                        · have hf := pt_kl hf
                          cases hf
                          exact q
                        have hf := pt_kr hf
                        show pm_G g 198 [(2, .int w25.1), (0, .ref x0), (1, .int x1)] [] w49 0 0
                        refine pm_goto (tgt := 207) C dX16_goesTogether_198 (by decide) ?_
                        cases hf
                        exact pt_vret C X dX16_goesTogether_207 rfl (Nat.le_refl _) (Nat.le_refl _) q
                · have hf := pm_it hf c15
                  refine pm_aload_n C dX16_goesTogether_139 rfl rfl ?_
                  refine pm_aload_n C dX16_goesTogether_140 rfl rfl ?_
                  obtain ⟨k51, hf⟩ := pm_if hf
                  obtain ⟨v52, e53, hf⟩ := pm_bd hf
                  refine pm_getR C dX16_goesTogether_141 flX16_221 rfl k51 e53 ?_
                  refine pm_aload_n C dX16_goesTogether_144 rfl rfl ?_
                  refine pm_getI C dX16_goesTogether_145 flX16_594 rfl k51 rfl ?_
                  obtain ⟨k54, hf⟩ := pm_if hf
                  obtain ⟨v55, e56, hf⟩ := pm_bd hf
                  refine pt_callV (as := [.int (pm_I h x0 19)]) (st := [.ref x0]) C X dX16_goesTogether_148 lnX16_261 myX14_at viX14_at ⟨by decide, by decide⟩ rfl rfl k54 (Nat.le_of_ble_eq_true rfl) (Nat.le_refl _) (Nat.le_refl _) (ctX14_at e56 ?_)
                  show pm_G g 151 [(0, .ref x0), (1, .int x1)] [.int v55, .ref x0] h 0 0
                  obtain ⟨v57, e58, hf⟩ := pm_bd hf
                  refine pt_callVT (as := [.int v55]) (st := []) C X dX16_goesTogether_151 ltX16_695 myX16_put viX16_put ⟨by decide, by decide⟩ rfl rfl k51 (Nat.le_of_ble_eq_true rfl) (Nat.le_refl _) (Nat.le_refl _) (ctX16_put e58 ?_)
                  rcases v57 with z60 | w59
                  · have hf := pt_kl hf
                    cases hf
                    exact q
                  have hf := pt_kr hf
                  show pm_G g 154 [(0, .ref x0), (1, .int x1)] [] w59 0 0
                  refine pm_goto (tgt := 207) C dX16_goesTogether_154 (by decide) ?_
                  cases hf
                  exact pt_vret C X dX16_goesTogether_207 rfl (Nat.le_refl _) (Nat.le_refl _) q
              · have hf := pm_ie hf c14
                refine pm_aload_n C dX16_goesTogether_120 rfl rfl ?_
                refine pm_sipush (v := 192) C dX16_goesTogether_121 (by decide) ?_
                refine pm_iload_n C dX16_goesTogether_124 rfl rfl ?_
                refine pm_isub C dX16_goesTogether_125 ?_
                obtain ⟨k61, hf⟩ := pm_if hf
                obtain ⟨v62, e63, hf⟩ := pm_bd hf
                refine pt_callVT (as := [.int (192 - x1)]) (st := []) C X dX16_goesTogether_126 ltX16_695 myX16_put viX16_put ⟨by decide, by decide⟩ rfl rfl k61 (Nat.le_of_ble_eq_true rfl) (Nat.le_refl _) (Nat.le_refl _) (ctX16_put e63 ?_)
                rcases v62 with z65 | w64
                · have hf := pt_kl hf
                  cases hf
                  exact q
                have hf := pt_kr hf
                show pm_G g 129 [(0, .ref x0), (1, .int x1)] [] w64 0 0
                refine pm_goto (tgt := 207) C dX16_goesTogether_129 (by decide) ?_
                cases hf
                exact pt_vret C X dX16_goesTogether_207 rfl (Nat.le_refl _) (Nat.le_refl _) q
            · have hf := pm_it hf c13
              refine pm_aload_n C dX16_goesTogether_98 rfl rfl ?_
              refine pm_bipush (v := 127) C dX16_goesTogether_99 (by decide) ?_
              refine pm_iconst (v := 1) C dX16_goesTogether_101 (by decide) ?_
              obtain ⟨k66, hf⟩ := pm_if hf
              obtain ⟨v67, e68, hf⟩ := pm_bd hf
              refine pt_callVT (as := [.int 127, .int 1]) (st := []) C X dX16_goesTogether_102 ltX16_750 myX16_takes viX16_takes ⟨by decide, by decide⟩ rfl rfl k66 (Nat.le_of_ble_eq_true rfl) (Nat.le_refl _) (Nat.le_refl _) (ctX16_takes e68 ?_)
              rcases v67 with z70 | w69
              · have hf := pt_kl hf
                cases hf
                exact q
              have hf := pt_kr hf
              show pm_G g 105 [(0, .ref x0), (1, .int x1)] [] w69 0 0
              refine pm_aload_n C dX16_goesTogether_105 rfl rfl ?_
              refine pm_bipush (v := 127) C dX16_goesTogether_106 (by decide) ?_
              obtain ⟨k71, hf⟩ := pm_if hf
              obtain ⟨v72, e73, hf⟩ := pm_bd hf
              refine pt_callVT (as := [.int 127]) (st := []) C X dX16_goesTogether_108 ltX16_695 myX16_put viX16_put ⟨by decide, by decide⟩ rfl rfl k71 (Nat.le_of_ble_eq_true rfl) (Nat.le_refl _) (Nat.le_refl _) (ctX16_put e73 ?_)
              rcases v72 with z75 | w74
              · have hf := pt_kl hf
                cases hf
                exact q
              have hf := pt_kr hf
              show pm_G g 111 [(0, .ref x0), (1, .int x1)] [] w74 0 0
              refine pm_goto (tgt := 207) C dX16_goesTogether_111 (by decide) ?_
              cases hf
              exact pt_vret C X dX16_goesTogether_207 rfl (Nat.le_refl _) (Nat.le_refl _) q
          · have hf := pm_it hf c12
            refine pm_aload_n C dX16_goesTogether_83 rfl rfl ?_
            refine pm_bipush (v := 127) C dX16_goesTogether_84 (by decide) ?_
            obtain ⟨k76, hf⟩ := pm_if hf
            obtain ⟨v77, e78, hf⟩ := pm_bd hf
            refine pt_callVT (as := [.int 127]) (st := []) C X dX16_goesTogether_86 ltX16_695 myX16_put viX16_put ⟨by decide, by decide⟩ rfl rfl k76 (Nat.le_of_ble_eq_true rfl) (Nat.le_refl _) (Nat.le_refl _) (ctX16_put e78 ?_)
            rcases v77 with z80 | w79
            · have hf := pt_kl hf
              cases hf
              exact q
            have hf := pt_kr hf
            show pm_G g 89 [(0, .ref x0), (1, .int x1)] [] w79 0 0
            refine pm_goto (tgt := 207) C dX16_goesTogether_89 (by decide) ?_
            cases hf
            exact pt_vret C X dX16_goesTogether_207 rfl (Nat.le_refl _) (Nat.le_refl _) q
        · have hf := pm_it hf c11
          refine pm_aload_n C dX16_goesTogether_70 rfl rfl ?_
          obtain ⟨k81, hf⟩ := pm_if hf
          obtain ⟨v82, e83, hf⟩ := pm_bd hf
          refine pt_callVT (as := []) (st := []) C X dX16_goesTogether_71 ltX16_747 myX16_furthers viX16_furthers ⟨by decide, by decide⟩ rfl rfl k81 (Nat.le_of_ble_eq_true rfl) (Nat.le_refl _) (Nat.le_refl _) (ctX16_furthers e83 ?_)
          rcases v82 with z85 | w84
          · have hf := pt_kl hf
            cases hf
            exact q
          have hf := pt_kr hf
          show pm_G g 74 [(0, .ref x0), (1, .int x1)] [] w84 0 0
          refine pm_goto (tgt := 207) C dX16_goesTogether_74 (by decide) ?_
          cases hf
          exact pt_vret C X dX16_goesTogether_207 rfl (Nat.le_refl _) (Nat.le_refl _) q
      · have hf := pm_ie hf c10
        refine pm_aload_n C dX16_goesTogether_55 rfl rfl ?_
        refine pm_iload_n C dX16_goesTogether_56 rfl rfl ?_
        obtain ⟨k86, hf⟩ := pm_if hf
        obtain ⟨v87, e88, hf⟩ := pm_bd hf
        refine pt_callVT (as := [.int x1]) (st := []) C X dX16_goesTogether_57 ltX16_744 myX16_accesses viX16_accesses ⟨by decide, by decide⟩ rfl rfl k86 (Nat.le_of_ble_eq_true rfl) (Nat.le_refl _) (Nat.le_refl _) (ctX16_accesses e88 ?_)
        rcases v87 with z90 | w89
        · have hf := pt_kl hf
          cases hf
          exact q
        have hf := pt_kr hf
        show pm_G g 60 [(0, .ref x0), (1, .int x1)] [] w89 0 0
        refine pm_goto (tgt := 207) C dX16_goesTogether_60 (by decide) ?_
        cases hf
        exact pt_vret C X dX16_goesTogether_207 rfl (Nat.le_refl _) (Nat.le_refl _) q
    · have hf := pm_ie hf c9
      refine pm_aload_n C dX16_goesTogether_41 rfl rfl ?_
      refine pm_iload_n C dX16_goesTogether_42 rfl rfl ?_
      obtain ⟨k91, hf⟩ := pm_if hf
      obtain ⟨v92, e93, hf⟩ := pm_bd hf
      refine pt_callVT (as := [.int x1]) (st := []) C X dX16_goesTogether_43 ltX16_741 myX16_names viX16_names ⟨by decide, by decide⟩ rfl rfl k91 (Nat.le_of_ble_eq_true rfl) (Nat.le_refl _) (Nat.le_refl _) (ctX16_names e93 ?_)
      rcases v92 with z95 | w94
      · have hf := pt_kl hf
        cases hf
        exact q
      have hf := pt_kr hf
      show pm_G g 46 [(0, .ref x0), (1, .int x1)] [] w94 0 0
      refine pm_goto (tgt := 207) C dX16_goesTogether_46 (by decide) ?_
      cases hf
      exact pt_vret C X dX16_goesTogether_207 rfl (Nat.le_refl _) (Nat.le_refl _) q
  · have hf := pm_ie hf c8
    refine pm_aload_n C dX16_goesTogether_27 rfl rfl ?_
    refine pm_iload_n C dX16_goesTogether_28 rfl rfl ?_
    obtain ⟨k96, hf⟩ := pm_if hf
    obtain ⟨v97, e98, hf⟩ := pm_bd hf
    refine pt_callVT (as := [.int x1]) (st := []) C X dX16_goesTogether_29 ltX16_738 myX16_controls viX16_controls ⟨by decide, by decide⟩ rfl rfl k96 (Nat.le_of_ble_eq_true rfl) (Nat.le_refl _) (Nat.le_refl _) (ctX16_controls e98 ?_)
    rcases v97 with z100 | w99
    · have hf := pt_kl hf
      cases hf
      exact q
    have hf := pt_kr hf
    show pm_G g 32 [(0, .ref x0), (1, .int x1)] [] w99 0 0
    refine pm_goto (tgt := 207) C dX16_goesTogether_32 (by decide) ?_
    cases hf
    exact pt_vret C X dX16_goesTogether_207 rfl (Nat.le_refl _) (Nat.le_refl _) q
set_option maxHeartbeats 4000000 in
set_option maxRecDepth 100000 in
theorem ctX16_goesTogether {l : Launch} {G : pm_Gl} {h : pm_H} {a0 : Nat} {p1 : Int32} {r : ((Nat × pm_H) ⊕ pm_H)} {Qr : Option Value → pm_H → Prop} {Qt : Nat → pm_H → Prop} (hf : fX16_goesTogether h a0 p1 = some r) (q : pt_eV Qr Qt r) : pm_Ctt l G mX16_goesTogether [.ref a0, .int p1] h 0 0 Qr Qt := by
  refine pm_bodyT pnX16 (Nat.le_of_ble_eq_true rfl) (fun g C X => ?_)
  have C : pm_C g cX16_goesTogether RX16 := C
  show pm_G g 0 [(0, .ref a0), (1, .int p1)] [] h 0 0
  unfold fX16_goesTogether at hf
  refine pm_iload_n C dX16_goesTogether_0 rfl rfl ?_
  refine pm_bipush (v := 69) C dX16_goesTogether_1 (by decide) ?_
  refine pm_icmp_lt (tgt := 21) C dX16_goesTogether_3 (by decide) (fun c1 => ?_) (fun c1 => ?_)
  · have hf := pm_it hf c1
    exact pm_sub [0, 1] rfl (bX16_goesTogether_21 C X hf q)
  · have hf := pm_ie hf c1
    refine pm_iload_n C dX16_goesTogether_6 rfl rfl ?_
    refine pm_sipush (v := 196) C dX16_goesTogether_7 (by decide) ?_
    refine pm_icmp_gt (tgt := 21) C dX16_goesTogether_10 (by decide) (fun c2 => ?_) (fun c2 => ?_)
    · have hf := pm_it hf c2
      exact pm_sub [0, 1] rfl (bX16_goesTogether_21 C X hf q)
    · have hf := pm_ie hf c2
      refine pm_aload_n C dX16_goesTogether_13 rfl rfl ?_
      refine pm_iload_n C dX16_goesTogether_14 rfl rfl ?_
      obtain ⟨k3, hf⟩ := pm_if hf
      obtain ⟨v4, e5, hf⟩ := pm_bd hf
      refine pt_callVT (as := [.int p1]) (st := []) C X dX16_goesTogether_15 ltX16_735 myX16_operates viX16_operates ⟨by decide, by decide⟩ rfl rfl k3 (Nat.le_of_ble_eq_true rfl) (Nat.le_refl _) (Nat.le_refl _) (ctX16_operates e5 ?_)
      rcases v4 with z7 | w6
      · have hf := pt_kl hf
        cases hf
        exact q
      have hf := pt_kr hf
      show pm_G g 18 [(0, .ref a0), (1, .int p1)] [] w6 0 0
      refine pm_goto (tgt := 207) C dX16_goesTogether_18 (by decide) ?_
      cases hf
      exact pt_vret C X dX16_goesTogether_207 rfl (Nat.le_refl _) (Nat.le_refl _) q
theorem dX16_readsBody_0 : decode cX16_readsBody 0 = .ok (.aload_n 0, 1) := by decide +kernel
theorem dX16_readsBody_1 : decode cX16_readsBody 1 = .ok (.getfield 251, 3) := by decide +kernel
theorem dX16_readsBody_4 : decode cX16_readsBody 4 = .ok (.istore_n 2, 1) := by decide +kernel
theorem dX16_readsBody_5 : decode cX16_readsBody 5 = .ok (.aload_n 0, 1) := by decide +kernel
theorem dX16_readsBody_6 : decode cX16_readsBody 6 = .ok (.invokevirtual 277, 3) := by decide +kernel
theorem dX16_readsBody_9 : decode cX16_readsBody 9 = .ok (.lstore_n 3, 1) := by decide +kernel
theorem dX16_readsBody_10 : decode cX16_readsBody 10 = .ok (.lconst 0, 1) := by decide +kernel
theorem dX16_readsBody_11 : decode cX16_readsBody 11 = .ok (.lstore 5, 2) := by decide +kernel
theorem dX16_readsBody_13 : decode cX16_readsBody 13 = .ok (.lconst 0, 1) := by decide +kernel
theorem dX16_readsBody_14 : decode cX16_readsBody 14 = .ok (.lstore 7, 2) := by decide +kernel
theorem dX16_readsBody_16 : decode cX16_readsBody 16 = .ok (.lload 7, 2) := by decide +kernel
theorem dX16_readsBody_18 : decode cX16_readsBody 18 = .ok (.lload_n 3, 1) := by decide +kernel
theorem dX16_readsBody_19 : decode cX16_readsBody 19 = .ok (.lcmp, 1) := by decide +kernel
theorem dX16_readsBody_20 : decode cX16_readsBody 20 = .ok (.ifCond .ge 27, 3) := by decide +kernel
theorem dX16_readsBody_23 : decode cX16_readsBody 23 = .ok (.lload 5, 2) := by decide +kernel
theorem dX16_readsBody_25 : decode cX16_readsBody 25 = .ok (.aload_n 0, 1) := by decide +kernel
theorem dX16_readsBody_26 : decode cX16_readsBody 26 = .ok (.invokevirtual 277, 3) := by decide +kernel
theorem dX16_readsBody_29 : decode cX16_readsBody 29 = .ok (.ladd, 1) := by decide +kernel
theorem dX16_readsBody_30 : decode cX16_readsBody 30 = .ok (.lstore 5, 2) := by decide +kernel
theorem dX16_readsBody_32 : decode cX16_readsBody 32 = .ok (.aload_n 0, 1) := by decide +kernel
theorem dX16_readsBody_33 : decode cX16_readsBody 33 = .ok (.invokevirtual 371, 3) := by decide +kernel
theorem dX16_readsBody_36 : decode cX16_readsBody 36 = .ok (.istore 9, 2) := by decide +kernel
theorem dX16_readsBody_38 : decode cX16_readsBody 38 = .ok (.lload 7, 2) := by decide +kernel
theorem dX16_readsBody_40 : decode cX16_readsBody 40 = .ok (.lconst 1, 1) := by decide +kernel
theorem dX16_readsBody_41 : decode cX16_readsBody 41 = .ok (.ladd, 1) := by decide +kernel
theorem dX16_readsBody_42 : decode cX16_readsBody 42 = .ok (.lstore 7, 2) := by decide +kernel
theorem dX16_readsBody_44 : decode cX16_readsBody 44 = .ok (.goto (-28), 3) := by decide +kernel
theorem dX16_readsBody_47 : decode cX16_readsBody 47 = .ok (.lload 5, 2) := by decide +kernel
theorem dX16_readsBody_49 : decode cX16_readsBody 49 = .ok (.ldc2_w 513, 3) := by decide +kernel
theorem dX16_readsBody_52 : decode cX16_readsBody 52 = .ok (.lcmp, 1) := by decide +kernel
theorem dX16_readsBody_53 : decode cX16_readsBody 53 = .ok (.ifCond .le 10, 3) := by decide +kernel
theorem dX16_readsBody_56 : decode cX16_readsBody 56 = .ok (.aload_n 0, 1) := by decide +kernel
theorem dX16_readsBody_57 : decode cX16_readsBody 57 = .ok (.bipush 12, 2) := by decide +kernel
theorem dX16_readsBody_59 : decode cX16_readsBody 59 = .ok (.iload_n 2, 1) := by decide +kernel
theorem dX16_readsBody_60 : decode cX16_readsBody 60 = .ok (.invokevirtual 257, 3) := by decide +kernel
theorem dX16_readsBody_63 : decode cX16_readsBody 63 = .ok (.aload_n 0, 1) := by decide +kernel
theorem dX16_readsBody_64 : decode cX16_readsBody 64 = .ok (.lload 5, 2) := by decide +kernel
theorem dX16_readsBody_66 : decode cX16_readsBody 66 = .ok (.ldc2_w 515, 3) := by decide +kernel
theorem dX16_readsBody_69 : decode cX16_readsBody 69 = .ok (.lcmp, 1) := by decide +kernel
theorem dX16_readsBody_70 : decode cX16_readsBody 70 = .ok (.ifCond .le 7, 3) := by decide +kernel
theorem dX16_readsBody_73 : decode cX16_readsBody 73 = .ok (.iconst 1, 1) := by decide +kernel
theorem dX16_readsBody_74 : decode cX16_readsBody 74 = .ok (.goto 4, 3) := by decide +kernel
theorem dX16_readsBody_77 : decode cX16_readsBody 77 = .ok (.iconst 0, 1) := by decide +kernel
theorem dX16_readsBody_78 : decode cX16_readsBody 78 = .ok (.invokevirtual 365, 3) := by decide +kernel
theorem dX16_readsBody_81 : decode cX16_readsBody 81 = .ok (.aload_n 0, 1) := by decide +kernel
theorem dX16_readsBody_82 : decode cX16_readsBody 82 = .ok (.getfield 221, 3) := by decide +kernel
theorem dX16_readsBody_85 : decode cX16_readsBody 85 = .ok (.getfield 517, 3) := by decide +kernel
theorem dX16_readsBody_88 : decode cX16_readsBody 88 = .ok (.iload_n 1, 1) := by decide +kernel
theorem dX16_readsBody_89 : decode cX16_readsBody 89 = .ok (.iload_n 2, 1) := by decide +kernel
theorem dX16_readsBody_90 : decode cX16_readsBody 90 = .ok (.iastore, 1) := by decide +kernel
theorem dX16_readsBody_91 : decode cX16_readsBody 91 = .ok (.aload_n 0, 1) := by decide +kernel
theorem dX16_readsBody_92 : decode cX16_readsBody 92 = .ok (.getfield 221, 3) := by decide +kernel
theorem dX16_readsBody_95 : decode cX16_readsBody 95 = .ok (.getfield 520, 3) := by decide +kernel
theorem dX16_readsBody_98 : decode cX16_readsBody 98 = .ok (.iload_n 1, 1) := by decide +kernel
theorem dX16_readsBody_99 : decode cX16_readsBody 99 = .ok (.lload 5, 2) := by decide +kernel
theorem dX16_readsBody_101 : decode cX16_readsBody 101 = .ok (.lastore, 1) := by decide +kernel
theorem dX16_readsBody_102 : decode cX16_readsBody 102 = .ok (.aload_n 0, 1) := by decide +kernel
theorem dX16_readsBody_103 : decode cX16_readsBody 103 = .ok (.getfield 221, 3) := by decide +kernel
theorem dX16_readsBody_106 : decode cX16_readsBody 106 = .ok (.getfield 523, 3) := by decide +kernel
theorem dX16_readsBody_109 : decode cX16_readsBody 109 = .ok (.iload_n 1, 1) := by decide +kernel
theorem dX16_readsBody_110 : decode cX16_readsBody 110 = .ok (.aload_n 0, 1) := by decide +kernel
theorem dX16_readsBody_111 : decode cX16_readsBody 111 = .ok (.getfield 251, 3) := by decide +kernel
theorem dX16_readsBody_114 : decode cX16_readsBody 114 = .ok (.iastore, 1) := by decide +kernel
theorem dX16_readsBody_115 : decode cX16_readsBody 115 = .ok (.aload_n 0, 1) := by decide +kernel
theorem dX16_readsBody_116 : decode cX16_readsBody 116 = .ok (.iconst 1, 1) := by decide +kernel
theorem dX16_readsBody_117 : decode cX16_readsBody 117 = .ok (.invokevirtual 456, 3) := by decide +kernel
theorem dX16_readsBody_120 : decode cX16_readsBody 120 = .ok (.aload_n 0, 1) := by decide +kernel
theorem dX16_readsBody_121 : decode cX16_readsBody 121 = .ok (.getfield 221, 3) := by decide +kernel
theorem dX16_readsBody_124 : decode cX16_readsBody 124 = .ok (.getfield 526, 3) := by decide +kernel
theorem dX16_readsBody_127 : decode cX16_readsBody 127 = .ok (.iload_n 1, 1) := by decide +kernel
theorem dX16_readsBody_128 : decode cX16_readsBody 128 = .ok (.aload_n 0, 1) := by decide +kernel
theorem dX16_readsBody_129 : decode cX16_readsBody 129 = .ok (.getfield 251, 3) := by decide +kernel
theorem dX16_readsBody_132 : decode cX16_readsBody 132 = .ok (.iconst 1, 1) := by decide +kernel
theorem dX16_readsBody_133 : decode cX16_readsBody 133 = .ok (.isub, 1) := by decide +kernel
theorem dX16_readsBody_134 : decode cX16_readsBody 134 = .ok (.iastore, 1) := by decide +kernel
theorem dX16_readsBody_135 : decode cX16_readsBody 135 = .ok (.return_, 1) := by decide +kernel
noncomputable def tX16_readsBody_16 (x0 : Nat) (x1 : Int32) (x2 : Int32) (x3 : Int64) (x5 : Int64) (x7 : Int64) (h : pm_H) : Option (((Nat × Int32 × Int32 × Int64 × Int64 × Int64 × pm_H) ⊕ (Nat × Int32 × Int32 × Int64 × pm_H)) ⊕ ((Nat × pm_H) ⊕ pm_H)) := if x3 ≤ x7 then (if x5 ≤ 4294967295 then (some (.inl (.inr ((x0, x1, x2, x5, h))))) else (if pm_kd h x0 = 16 then (fX16_stops h x0 12 x2).bind fun v11 => pt_s v11 fun w13 => some (.inl (.inr ((x0, x1, x2, x5, w13)))) else none)) else (if pm_kd h x0 = 16 then (fX16_number h x0).bind fun v16 => pt_s v16 fun w18 => pm_let (x5 + w18.1) fun y20 => if pm_kd w18.2 x0 = 16 then (fX16_type w18.2 x0).bind fun v23 => pt_s v23 fun w25 => pm_let (x7 + 1) fun y27 => some (.inl (.inl ((x0, x1, x2, x3, y20, y27, w25.2)))) else none else none)
noncomputable def tX16_readsBody_63 (x0 : Nat) (x1 : Int32) (x2 : Int32) (x5 : Int64) (h : pm_H) : Option (((Nat × Int32 × Int32 × Int64 × Int64 × Int64 × pm_H) ⊕ (Nat × Int32 × Int32 × Int64 × pm_H)) ⊕ ((Nat × pm_H) ⊕ pm_H)) := if x5 ≤ 1000 then (if pm_kd h x0 = 16 then (fX16_exceeds h x0 0).bind fun v31 => if pm_kd v31 x0 = 16 then (pm_R v31 x0 10).bind fun v34 => if pm_kd v31 v34 = 14 then (pm_R v31 v34 51).bind fun v37 => if pm_kd v31 v37 = 34 then if pm_in x1 (pm_ln v31 v37) then (pm_R (pm_setI v31 v37 x1.toNatClampNeg x2) v34 52).bind fun v41 => if pm_kd (pm_setI v31 v37 x1.toNatClampNeg x2) v41 = 35 then if pm_in x1 (pm_ln (pm_setI v31 v37 x1.toNatClampNeg x2) v41) then (pm_R (pm_setL (pm_setI v31 v37 x1.toNatClampNeg x2) v41 x1.toNatClampNeg x5) v34 53).bind fun v45 => pm_let (pm_I (pm_setL (pm_setI v31 v37 x1.toNatClampNeg x2) v41 x1.toNatClampNeg x5) x0 11) fun y47 => if pm_kd (pm_setL (pm_setI v31 v37 x1.toNatClampNeg x2) v41 x1.toNatClampNeg x5) v45 = 34 then if pm_in x1 (pm_ln (pm_setL (pm_setI v31 v37 x1.toNatClampNeg x2) v41 x1.toNatClampNeg x5) v45) then (fX16_expression (pm_setI (pm_setL (pm_setI v31 v37 x1.toNatClampNeg x2) v41 x1.toNatClampNeg x5) v45 x1.toNatClampNeg y47) x0 1).bind fun v51 => pt_s v51 fun w53 => if pm_kd w53 x0 = 16 then (pm_R w53 x0 10).bind fun v56 => if pm_kd w53 v56 = 14 then (pm_R w53 v56 54).bind fun v59 => pm_let ((pm_I w53 x0 11) - 1) fun y61 => if pm_kd w53 v59 = 34 then if pm_in x1 (pm_ln w53 v59) then some (.inr (.inr (pm_setI w53 v59 x1.toNatClampNeg y61))) else none else none else none else none else none else none else none else none else none else none else none else none else none) else (if pm_kd h x0 = 16 then (fX16_exceeds h x0 1).bind fun v66 => if pm_kd v66 x0 = 16 then (pm_R v66 x0 10).bind fun v69 => if pm_kd v66 v69 = 14 then (pm_R v66 v69 51).bind fun v72 => if pm_kd v66 v72 = 34 then if pm_in x1 (pm_ln v66 v72) then (pm_R (pm_setI v66 v72 x1.toNatClampNeg x2) v69 52).bind fun v76 => if pm_kd (pm_setI v66 v72 x1.toNatClampNeg x2) v76 = 35 then if pm_in x1 (pm_ln (pm_setI v66 v72 x1.toNatClampNeg x2) v76) then (pm_R (pm_setL (pm_setI v66 v72 x1.toNatClampNeg x2) v76 x1.toNatClampNeg x5) v69 53).bind fun v80 => pm_let (pm_I (pm_setL (pm_setI v66 v72 x1.toNatClampNeg x2) v76 x1.toNatClampNeg x5) x0 11) fun y82 => if pm_kd (pm_setL (pm_setI v66 v72 x1.toNatClampNeg x2) v76 x1.toNatClampNeg x5) v80 = 34 then if pm_in x1 (pm_ln (pm_setL (pm_setI v66 v72 x1.toNatClampNeg x2) v76 x1.toNatClampNeg x5) v80) then (fX16_expression (pm_setI (pm_setL (pm_setI v66 v72 x1.toNatClampNeg x2) v76 x1.toNatClampNeg x5) v80 x1.toNatClampNeg y82) x0 1).bind fun v86 => pt_s v86 fun w88 => if pm_kd w88 x0 = 16 then (pm_R w88 x0 10).bind fun v91 => if pm_kd w88 v91 = 14 then (pm_R w88 v91 54).bind fun v94 => pm_let ((pm_I w88 x0 11) - 1) fun y96 => if pm_kd w88 v94 = 34 then if pm_in x1 (pm_ln w88 v94) then some (.inr (.inr (pm_setI w88 v94 x1.toNatClampNeg y96))) else none else none else none else none else none else none else none else none else none else none else none else none else none)
noncomputable def sX16_readsBody : ((Nat × Int32 × Int32 × Int64 × Int64 × Int64 × pm_H) ⊕ (Nat × Int32 × Int32 × Int64 × pm_H)) → Option (((Nat × Int32 × Int32 × Int64 × Int64 × Int64 × pm_H) ⊕ (Nat × Int32 × Int32 × Int64 × pm_H)) ⊕ ((Nat × pm_H) ⊕ pm_H)) := fun z => match z with
  | .inl (x0, x1, x2, x3, x5, x7, h) => tX16_readsBody_16 x0 x1 x2 x3 x5 x7 h
  | .inr (x0, x1, x2, x5, h) => tX16_readsBody_63 x0 x1 x2 x5 h
noncomputable def fX16_readsBody (h : pm_H) (a0 : Nat) (p1 : Int32) : Option ((Nat × pm_H) ⊕ pm_H) := if pm_kd h a0 = 16 then pm_let (pm_I h a0 11) fun y2 => (fX16_number h a0).bind fun v4 => pt_k v4 fun w6 => pm_lim sX16_readsBody (.inl ((a0, p1, y2, w6.1, 0, 0, w6.2))) else none
set_option maxHeartbeats 4000000 in
set_option maxRecDepth 100000 in
theorem lpX16_readsBody {g : pm_Gm} {l : Launch} {G : pm_Gl} {Qr : Option Value → pm_H → Prop} {Qt : Nat → pm_H → Prop} (C : pm_C g cX16_readsBody RX16) (X : pm_XT g l G mX16_readsBody 0 0 Qr Qt) {r : ((Nat × pm_H) ⊕ pm_H)} (q : pt_eV Qr Qt r) : ∀ n : Nat, (∀ (x0 : Nat) (x1 : Int32) (x2 : Int32) (x3 : Int64) (x5 : Int64) (x7 : Int64) (h : pm_H), pm_iter sX16_readsBody n (.inl (x0, x1, x2, x3, x5, x7, h)) = some r → pm_G g 16 [(0, .ref x0), (1, .int x1), (2, .int x2), (3, .long x3), (5, .long x5), (7, .long x7)] [] h 0 0) ∧ (∀ (x0 : Nat) (x1 : Int32) (x2 : Int32) (x5 : Int64) (h : pm_H), pm_iter sX16_readsBody n (.inr (x0, x1, x2, x5, h)) = some r → pm_G g 63 [(0, .ref x0), (1, .int x1), (2, .int x2), (5, .long x5)] [] h 0 0) := by
  intro n
  induction n with
  | zero => exact ⟨fun _ _ _ _ _ _ _ hf => (by cases hf), fun _ _ _ _ _ hf => (by cases hf)⟩
  | succ n ih =>
    refine ⟨fun x0 x1 x2 x3 x5 x7 h hf => ?_, ?_⟩
    · obtain ⟨y, hf, hi⟩ := pm_iter_s hf
      have hf : tX16_readsBody_16 x0 x1 x2 x3 x5 x7 h = some y := hf
      unfold tX16_readsBody_16 at hf
      refine pm_lload C dX16_readsBody_16 rfl ?_
      refine pm_lload_n C dX16_readsBody_18 rfl rfl ?_
      refine pm_lcmp C dX16_readsBody_19 ?_
      refine pm_if_ge (tgt := 47) C dX16_readsBody_20 (by decide) (fun c8 => ?_) (fun c8 => ?_)
      · have hf := pm_it hf ((pm_lg_ge _ _).mp c8)
        refine pm_lload C dX16_readsBody_47 rfl ?_
        refine pm_ldc2 C dX16_readsBody_49 cnX16_513 ?_
        refine pm_lcmp C dX16_readsBody_52 ?_
        refine pm_if_le (tgt := 63) C dX16_readsBody_53 (by decide) (fun c9 => ?_) (fun c9 => ?_)
        · have hf := pm_it hf ((pm_lg_le _ _).mp c9)
          cases hf
          exact pm_sub [0, 1, 2, 4] rfl (ih.2 x0 x1 x2 x5 h hi)
        · have hf := pm_ie hf ((fun z => c9 ((pm_lg_le _ _).mpr z)))
          refine pm_aload_n C dX16_readsBody_56 rfl rfl ?_
          refine pm_bipush (v := 12) C dX16_readsBody_57 (by decide) ?_
          refine pm_iload_n C dX16_readsBody_59 rfl rfl ?_
          obtain ⟨k10, hf⟩ := pm_if hf
          obtain ⟨v11, e12, hf⟩ := pm_bd hf
          refine pt_callVT (as := [.int 12, .int x2]) (st := []) C X dX16_readsBody_60 ltX16_257 myX16_stops viX16_stops ⟨by decide, by decide⟩ rfl rfl k10 (Nat.le_of_ble_eq_true rfl) (Nat.le_refl _) (Nat.le_refl _) (ctX16_stops e12 ?_)
          rcases v11 with z14 | w13
          · have hf := pt_sl hf
            cases hf
            cases hi
            exact q
          have hf := pt_sr hf
          show pm_G g 63 [(0, .ref x0), (1, .int x1), (2, .int x2), (3, .long x3), (5, .long x5), (7, .long x7)] [] w13 0 0
          cases hf
          exact pm_sub [0, 1, 2, 4] rfl (ih.2 x0 x1 x2 x5 w13 hi)
      · have hf := pm_ie hf ((fun z => c8 ((pm_lg_ge _ _).mpr z)))
        refine pm_lload C dX16_readsBody_23 rfl ?_
        refine pm_aload_n C dX16_readsBody_25 rfl rfl ?_
        obtain ⟨k15, hf⟩ := pm_if hf
        obtain ⟨v16, e17, hf⟩ := pm_bd hf
        refine pt_callVT (as := []) (st := [.long x5]) C X dX16_readsBody_26 ltX16_277 myX16_number viX16_number ⟨by decide, by decide⟩ rfl rfl k15 (Nat.le_of_ble_eq_true rfl) (Nat.le_refl _) (Nat.le_refl _) (ctX16_number e17 ?_)
        rcases v16 with z19 | w18
        · have hf := pt_sl hf
          cases hf
          cases hi
          exact q
        have hf := pt_sr hf
        show pm_G g 29 [(0, .ref x0), (1, .int x1), (2, .int x2), (3, .long x3), (5, .long x5), (7, .long x7)] [.long w18.1, .long x5] w18.2 0 0
        refine pm_ladd C dX16_readsBody_29 ?_
        obtain ⟨y20, e21, hf⟩ := pm_lt hf
        refine pm_topL e21 ?_
        refine pm_lstore (lv' := [(5, .long y20), (0, .ref x0), (1, .int x1), (2, .int x2), (3, .long x3), (7, .long x7)]) C dX16_readsBody_30 (pt_nl X (by decide)) rfl ?_
        refine pm_aload_n C dX16_readsBody_32 rfl rfl ?_
        obtain ⟨k22, hf⟩ := pm_if hf
        obtain ⟨v23, e24, hf⟩ := pm_bd hf
        refine pt_callVT (as := []) (st := []) C X dX16_readsBody_33 ltX16_371 myX16_type viX16_type ⟨by decide, by decide⟩ rfl rfl k22 (Nat.le_of_ble_eq_true rfl) (Nat.le_refl _) (Nat.le_refl _) (ctX16_type e24 ?_)
        rcases v23 with z26 | w25
        · have hf := pt_sl hf
          cases hf
          cases hi
          exact q
        have hf := pt_sr hf
        show pm_G g 36 [(5, .long y20), (0, .ref x0), (1, .int x1), (2, .int x2), (3, .long x3), (7, .long x7)] [.int w25.1] w25.2 0 0
        refine pm_istore (lv' := [(9, .int w25.1), (5, .long y20), (0, .ref x0), (1, .int x1), (2, .int x2), (3, .long x3), (7, .long x7)]) C dX16_readsBody_36 (pt_nl X (by decide)) rfl ?_
        refine pm_lload C dX16_readsBody_38 rfl ?_
        refine pm_lconst (v := 1) C dX16_readsBody_40 (by decide) ?_
        refine pm_ladd C dX16_readsBody_41 ?_
        obtain ⟨y27, e28, hf⟩ := pm_lt hf
        refine pm_topL e28 ?_
        refine pm_lstore (lv' := [(7, .long y27), (9, .int w25.1), (5, .long y20), (0, .ref x0), (1, .int x1), (2, .int x2), (3, .long x3)]) C dX16_readsBody_42 (pt_nl X (by decide)) rfl ?_
        refine pm_goto (tgt := 16) C dX16_readsBody_44 (by decide) ?_
        cases hf
        exact pm_sub [3, 4, 5, 6, 2, 0] rfl (ih.1 x0 x1 x2 x3 y20 y27 w25.2 hi)
    refine fun x0 x1 x2 x5 h hf => ?_
    obtain ⟨y, hf, hi⟩ := pm_iter_s hf
    have hf : tX16_readsBody_63 x0 x1 x2 x5 h = some y := hf
    unfold tX16_readsBody_63 at hf
    refine pm_aload_n C dX16_readsBody_63 rfl rfl ?_
    refine pm_lload C dX16_readsBody_64 rfl ?_
    refine pm_ldc2 C dX16_readsBody_66 cnX16_515 ?_
    refine pm_lcmp C dX16_readsBody_69 ?_
    refine pm_if_le (tgt := 77) C dX16_readsBody_70 (by decide) (fun c29 => ?_) (fun c29 => ?_)
    · have hf := pm_it hf ((pm_lg_le _ _).mp c29)
      refine pm_iconst (v := 0) C dX16_readsBody_77 (by decide) ?_
      obtain ⟨k30, hf⟩ := pm_if hf
      obtain ⟨v31, e32, hf⟩ := pm_bd hf
      refine pt_callV (as := [.int 0]) (st := []) C X dX16_readsBody_78 lnX16_365 myX16_exceeds viX16_exceeds ⟨by decide, by decide⟩ rfl rfl k30 (Nat.le_of_ble_eq_true rfl) (Nat.le_refl _) (Nat.le_refl _) (ctX16_exceeds e32 ?_)
      show pm_G g 81 [(0, .ref x0), (1, .int x1), (2, .int x2), (5, .long x5)] [] v31 0 0
      refine pm_aload_n C dX16_readsBody_81 rfl rfl ?_
      obtain ⟨k33, hf⟩ := pm_if hf
      obtain ⟨v34, e35, hf⟩ := pm_bd hf
      refine pm_getR C dX16_readsBody_82 flX16_221 rfl k33 e35 ?_
      obtain ⟨k36, hf⟩ := pm_if hf
      obtain ⟨v37, e38, hf⟩ := pm_bd hf
      refine pm_getR C dX16_readsBody_85 flX16_517 rfl k36 e38 ?_
      refine pm_iload_n C dX16_readsBody_88 rfl rfl ?_
      refine pm_iload_n C dX16_readsBody_89 rfl rfl ?_
      obtain ⟨k39, hf⟩ := pm_if hf
      obtain ⟨u40, hf⟩ := pm_if hf
      refine pm_iast C dX16_readsBody_90 k39 u40 ?_
      refine pm_aload_n C dX16_readsBody_91 rfl rfl ?_
      refine pm_getR C dX16_readsBody_92 flX16_221 rfl k33 e35 ?_
      obtain ⟨v41, e42, hf⟩ := pm_bd hf
      refine pm_getR C dX16_readsBody_95 flX16_520 rfl k36 e42 ?_
      refine pm_iload_n C dX16_readsBody_98 rfl rfl ?_
      refine pm_lload C dX16_readsBody_99 rfl ?_
      obtain ⟨k43, hf⟩ := pm_if hf
      obtain ⟨u44, hf⟩ := pm_if hf
      refine pm_last C dX16_readsBody_101 k43 u44 ?_
      refine pm_aload_n C dX16_readsBody_102 rfl rfl ?_
      refine pm_getR C dX16_readsBody_103 flX16_221 rfl k33 e35 ?_
      obtain ⟨v45, e46, hf⟩ := pm_bd hf
      refine pm_getR C dX16_readsBody_106 flX16_523 rfl k36 e46 ?_
      refine pm_iload_n C dX16_readsBody_109 rfl rfl ?_
      refine pm_aload_n C dX16_readsBody_110 rfl rfl ?_
      refine pm_getI C dX16_readsBody_111 flX16_251 rfl k33 rfl ?_
      obtain ⟨y47, e48, hf⟩ := pm_lt hf
      refine pm_topI e48 ?_
      obtain ⟨k49, hf⟩ := pm_if hf
      obtain ⟨u50, hf⟩ := pm_if hf
      refine pm_iast C dX16_readsBody_114 k49 u50 ?_
      refine pm_aload_n C dX16_readsBody_115 rfl rfl ?_
      refine pm_iconst (v := 1) C dX16_readsBody_116 (by decide) ?_
      obtain ⟨v51, e52, hf⟩ := pm_bd hf
      refine pt_callVT (as := [.int 1]) (st := []) C X dX16_readsBody_117 ltX16_456 myX16_expression viX16_expression ⟨by decide, by decide⟩ rfl rfl k33 (Nat.le_of_ble_eq_true rfl) (Nat.le_refl _) (Nat.le_refl _) (ctX16_expression e52 ?_)
      rcases v51 with z54 | w53
      · have hf := pt_sl hf
        cases hf
        cases hi
        exact q
      have hf := pt_sr hf
      show pm_G g 120 [(0, .ref x0), (1, .int x1), (2, .int x2), (5, .long x5)] [] w53 0 0
      refine pm_aload_n C dX16_readsBody_120 rfl rfl ?_
      obtain ⟨k55, hf⟩ := pm_if hf
      obtain ⟨v56, e57, hf⟩ := pm_bd hf
      refine pm_getR C dX16_readsBody_121 flX16_221 rfl k55 e57 ?_
      obtain ⟨k58, hf⟩ := pm_if hf
      obtain ⟨v59, e60, hf⟩ := pm_bd hf
      refine pm_getR C dX16_readsBody_124 flX16_526 rfl k58 e60 ?_
      refine pm_iload_n C dX16_readsBody_127 rfl rfl ?_
      refine pm_aload_n C dX16_readsBody_128 rfl rfl ?_
      refine pm_getI C dX16_readsBody_129 flX16_251 rfl k55 rfl ?_
      refine pm_iconst (v := 1) C dX16_readsBody_132 (by decide) ?_
      refine pm_isub C dX16_readsBody_133 ?_
      obtain ⟨y61, e62, hf⟩ := pm_lt hf
      refine pm_topI e62 ?_
      obtain ⟨k63, hf⟩ := pm_if hf
      obtain ⟨u64, hf⟩ := pm_if hf
      refine pm_iast C dX16_readsBody_134 k63 u64 ?_
      cases hf
      cases hi
      exact pt_vret C X dX16_readsBody_135 rfl (Nat.le_refl _) (Nat.le_refl _) q
    · have hf := pm_ie hf ((fun z => c29 ((pm_lg_le _ _).mpr z)))
      refine pm_iconst (v := 1) C dX16_readsBody_73 (by decide) ?_
      refine pm_goto (tgt := 78) C dX16_readsBody_74 (by decide) ?_
      obtain ⟨k65, hf⟩ := pm_if hf
      obtain ⟨v66, e67, hf⟩ := pm_bd hf
      refine pt_callV (as := [.int 1]) (st := []) C X dX16_readsBody_78 lnX16_365 myX16_exceeds viX16_exceeds ⟨by decide, by decide⟩ rfl rfl k65 (Nat.le_of_ble_eq_true rfl) (Nat.le_refl _) (Nat.le_refl _) (ctX16_exceeds e67 ?_)
      show pm_G g 81 [(0, .ref x0), (1, .int x1), (2, .int x2), (5, .long x5)] [] v66 0 0
      refine pm_aload_n C dX16_readsBody_81 rfl rfl ?_
      obtain ⟨k68, hf⟩ := pm_if hf
      obtain ⟨v69, e70, hf⟩ := pm_bd hf
      refine pm_getR C dX16_readsBody_82 flX16_221 rfl k68 e70 ?_
      obtain ⟨k71, hf⟩ := pm_if hf
      obtain ⟨v72, e73, hf⟩ := pm_bd hf
      refine pm_getR C dX16_readsBody_85 flX16_517 rfl k71 e73 ?_
      refine pm_iload_n C dX16_readsBody_88 rfl rfl ?_
      refine pm_iload_n C dX16_readsBody_89 rfl rfl ?_
      obtain ⟨k74, hf⟩ := pm_if hf
      obtain ⟨u75, hf⟩ := pm_if hf
      refine pm_iast C dX16_readsBody_90 k74 u75 ?_
      refine pm_aload_n C dX16_readsBody_91 rfl rfl ?_
      refine pm_getR C dX16_readsBody_92 flX16_221 rfl k68 e70 ?_
      obtain ⟨v76, e77, hf⟩ := pm_bd hf
      refine pm_getR C dX16_readsBody_95 flX16_520 rfl k71 e77 ?_
      refine pm_iload_n C dX16_readsBody_98 rfl rfl ?_
      refine pm_lload C dX16_readsBody_99 rfl ?_
      obtain ⟨k78, hf⟩ := pm_if hf
      obtain ⟨u79, hf⟩ := pm_if hf
      refine pm_last C dX16_readsBody_101 k78 u79 ?_
      refine pm_aload_n C dX16_readsBody_102 rfl rfl ?_
      refine pm_getR C dX16_readsBody_103 flX16_221 rfl k68 e70 ?_
      obtain ⟨v80, e81, hf⟩ := pm_bd hf
      refine pm_getR C dX16_readsBody_106 flX16_523 rfl k71 e81 ?_
      refine pm_iload_n C dX16_readsBody_109 rfl rfl ?_
      refine pm_aload_n C dX16_readsBody_110 rfl rfl ?_
      refine pm_getI C dX16_readsBody_111 flX16_251 rfl k68 rfl ?_
      obtain ⟨y82, e83, hf⟩ := pm_lt hf
      refine pm_topI e83 ?_
      obtain ⟨k84, hf⟩ := pm_if hf
      obtain ⟨u85, hf⟩ := pm_if hf
      refine pm_iast C dX16_readsBody_114 k84 u85 ?_
      refine pm_aload_n C dX16_readsBody_115 rfl rfl ?_
      refine pm_iconst (v := 1) C dX16_readsBody_116 (by decide) ?_
      obtain ⟨v86, e87, hf⟩ := pm_bd hf
      refine pt_callVT (as := [.int 1]) (st := []) C X dX16_readsBody_117 ltX16_456 myX16_expression viX16_expression ⟨by decide, by decide⟩ rfl rfl k68 (Nat.le_of_ble_eq_true rfl) (Nat.le_refl _) (Nat.le_refl _) (ctX16_expression e87 ?_)
      rcases v86 with z89 | w88
      · have hf := pt_sl hf
        cases hf
        cases hi
        exact q
      have hf := pt_sr hf
      show pm_G g 120 [(0, .ref x0), (1, .int x1), (2, .int x2), (5, .long x5)] [] w88 0 0
      refine pm_aload_n C dX16_readsBody_120 rfl rfl ?_
      obtain ⟨k90, hf⟩ := pm_if hf
      obtain ⟨v91, e92, hf⟩ := pm_bd hf
      refine pm_getR C dX16_readsBody_121 flX16_221 rfl k90 e92 ?_
      obtain ⟨k93, hf⟩ := pm_if hf
      obtain ⟨v94, e95, hf⟩ := pm_bd hf
      refine pm_getR C dX16_readsBody_124 flX16_526 rfl k93 e95 ?_
      refine pm_iload_n C dX16_readsBody_127 rfl rfl ?_
      refine pm_aload_n C dX16_readsBody_128 rfl rfl ?_
      refine pm_getI C dX16_readsBody_129 flX16_251 rfl k90 rfl ?_
      refine pm_iconst (v := 1) C dX16_readsBody_132 (by decide) ?_
      refine pm_isub C dX16_readsBody_133 ?_
      obtain ⟨y96, e97, hf⟩ := pm_lt hf
      refine pm_topI e97 ?_
      obtain ⟨k98, hf⟩ := pm_if hf
      obtain ⟨u99, hf⟩ := pm_if hf
      refine pm_iast C dX16_readsBody_134 k98 u99 ?_
      cases hf
      cases hi
      exact pt_vret C X dX16_readsBody_135 rfl (Nat.le_refl _) (Nat.le_refl _) q
set_option maxHeartbeats 4000000 in
set_option maxRecDepth 100000 in
theorem ctX16_readsBody {l : Launch} {G : pm_Gl} {h : pm_H} {a0 : Nat} {p1 : Int32} {r : ((Nat × pm_H) ⊕ pm_H)} {Qr : Option Value → pm_H → Prop} {Qt : Nat → pm_H → Prop} (hf : fX16_readsBody h a0 p1 = some r) (q : pt_eV Qr Qt r) : pm_Ctt l G mX16_readsBody [.ref a0, .int p1] h 0 0 Qr Qt := by
  refine pm_bodyT pnX16 (Nat.le_of_ble_eq_true rfl) (fun g C X => ?_)
  have C : pm_C g cX16_readsBody RX16 := C
  show pm_G g 0 [(0, .ref a0), (1, .int p1)] [] h 0 0
  unfold fX16_readsBody at hf
  refine pm_aload_n C dX16_readsBody_0 rfl rfl ?_
  obtain ⟨k1, hf⟩ := pm_if hf
  refine pm_getI C dX16_readsBody_1 flX16_251 rfl k1 rfl ?_
  obtain ⟨y2, e3, hf⟩ := pm_lt hf
  refine pm_topI e3 ?_
  refine pm_istore_n (lv' := [(2, .int y2), (0, .ref a0), (1, .int p1)]) C dX16_readsBody_4 rfl (pt_nl X (by decide)) rfl ?_
  refine pm_aload_n C dX16_readsBody_5 rfl rfl ?_
  obtain ⟨v4, e5, hf⟩ := pm_bd hf
  refine pt_callVT (as := []) (st := []) C X dX16_readsBody_6 ltX16_277 myX16_number viX16_number ⟨by decide, by decide⟩ rfl rfl k1 (Nat.le_of_ble_eq_true rfl) (Nat.le_refl _) (Nat.le_refl _) (ctX16_number e5 ?_)
  rcases v4 with z7 | w6
  · have hf := pt_kl hf
    cases hf
    exact q
  have hf := pt_kr hf
  show pm_G g 9 [(2, .int y2), (0, .ref a0), (1, .int p1)] [.long w6.1] w6.2 0 0
  refine pm_lstore_n (lv' := [(3, .long w6.1), (2, .int y2), (0, .ref a0), (1, .int p1)]) C dX16_readsBody_9 rfl (pt_nl X (by decide)) rfl ?_
  refine pm_lconst (v := 0) C dX16_readsBody_10 (by decide) ?_
  refine pm_lstore (lv' := [(5, .long 0), (3, .long w6.1), (2, .int y2), (0, .ref a0), (1, .int p1)]) C dX16_readsBody_11 (pt_nl X (by decide)) rfl ?_
  refine pm_lconst (v := 0) C dX16_readsBody_13 (by decide) ?_
  refine pm_lstore (lv' := [(7, .long 0), (5, .long 0), (3, .long w6.1), (2, .int y2), (0, .ref a0), (1, .int p1)]) C dX16_readsBody_14 (pt_nl X (by decide)) rfl ?_
  obtain ⟨n, hn⟩ := pm_lim_iter hf
  exact pm_sub [4, 5, 3, 2, 1, 0] rfl ((lpX16_readsBody C X q n).1 a0 p1 y2 w6.1 0 0 w6.2 hn)
