theorem dX1_choice_0 : decode cX1_choice 0 = .ok (.iload_n 1, 1) := by decide +kernel
theorem dX1_choice_1 : decode cX1_choice 1 = .ok (.bipush 26, 2) := by decide +kernel
theorem dX1_choice_3 : decode cX1_choice 3 = .ok (.if_icmp .ne 18, 3) := by decide +kernel
theorem dX1_choice_6 : decode cX1_choice 6 = .ok (.aload_n 0, 1) := by decide +kernel
theorem dX1_choice_7 : decode cX1_choice 7 = .ok (.iconst 0, 1) := by decide +kernel
theorem dX1_choice_8 : decode cX1_choice 8 = .ok (.invokevirtual 289, 3) := by decide +kernel
theorem dX1_choice_11 : decode cX1_choice 11 = .ok (.pop, 1) := by decide +kernel
theorem dX1_choice_12 : decode cX1_choice 12 = .ok (.aload_n 0, 1) := by decide +kernel
theorem dX1_choice_13 : decode cX1_choice 13 = .ok (.iconst 1, 1) := by decide +kernel
theorem dX1_choice_14 : decode cX1_choice 14 = .ok (.iconst 0, 1) := by decide +kernel
theorem dX1_choice_15 : decode cX1_choice 15 = .ok (.invokevirtual 353, 3) := by decide +kernel
theorem dX1_choice_18 : decode cX1_choice 18 = .ok (.goto 101, 3) := by decide +kernel
theorem dX1_choice_21 : decode cX1_choice 21 = .ok (.iload_n 1, 1) := by decide +kernel
theorem dX1_choice_22 : decode cX1_choice 22 = .ok (.bipush 28, 2) := by decide +kernel
theorem dX1_choice_24 : decode cX1_choice 24 = .ok (.if_icmp .ne 24, 3) := by decide +kernel
theorem dX1_choice_27 : decode cX1_choice 27 = .ok (.aload_n 0, 1) := by decide +kernel
theorem dX1_choice_28 : decode cX1_choice 28 = .ok (.getfield 36, 3) := by decide +kernel
theorem dX1_choice_31 : decode cX1_choice 31 = .ok (.getfield 325, 3) := by decide +kernel
theorem dX1_choice_34 : decode cX1_choice 34 = .ok (.l2i, 1) := by decide +kernel
theorem dX1_choice_35 : decode cX1_choice 35 = .ok (.istore_n 2, 1) := by decide +kernel
theorem dX1_choice_36 : decode cX1_choice 36 = .ok (.aload_n 0, 1) := by decide +kernel
theorem dX1_choice_37 : decode cX1_choice 37 = .ok (.bipush 127, 2) := by decide +kernel
theorem dX1_choice_39 : decode cX1_choice 39 = .ok (.iload_n 2, 1) := by decide +kernel
theorem dX1_choice_40 : decode cX1_choice 40 = .ok (.iload_n 2, 1) := by decide +kernel
theorem dX1_choice_41 : decode cX1_choice 41 = .ok (.iload_n 2, 1) := by decide +kernel
theorem dX1_choice_42 : decode cX1_choice 42 = .ok (.invokevirtual 427, 3) := by decide +kernel
theorem dX1_choice_45 : decode cX1_choice 45 = .ok (.goto 74, 3) := by decide +kernel
theorem dX1_choice_48 : decode cX1_choice 48 = .ok (.aload_n 0, 1) := by decide +kernel
theorem dX1_choice_49 : decode cX1_choice 49 = .ok (.bipush 127, 2) := by decide +kernel
theorem dX1_choice_51 : decode cX1_choice 51 = .ok (.invokevirtual 289, 3) := by decide +kernel
theorem dX1_choice_54 : decode cX1_choice 54 = .ok (.pop, 1) := by decide +kernel
theorem dX1_choice_55 : decode cX1_choice 55 = .ok (.aload_n 0, 1) := by decide +kernel
theorem dX1_choice_56 : decode cX1_choice 56 = .ok (.iconst 0, 1) := by decide +kernel
theorem dX1_choice_57 : decode cX1_choice 57 = .ok (.invokevirtual 289, 3) := by decide +kernel
theorem dX1_choice_60 : decode cX1_choice 60 = .ok (.istore_n 2, 1) := by decide +kernel
theorem dX1_choice_61 : decode cX1_choice 61 = .ok (.aload_n 0, 1) := by decide +kernel
theorem dX1_choice_62 : decode cX1_choice 62 = .ok (.iconst 0, 1) := by decide +kernel
theorem dX1_choice_63 : decode cX1_choice 63 = .ok (.invokevirtual 289, 3) := by decide +kernel
theorem dX1_choice_66 : decode cX1_choice 66 = .ok (.istore_n 3, 1) := by decide +kernel
theorem dX1_choice_67 : decode cX1_choice 67 = .ok (.iload_n 3, 1) := by decide +kernel
theorem dX1_choice_68 : decode cX1_choice 68 = .ok (.invokestatic 431, 3) := by decide +kernel
theorem dX1_choice_71 : decode cX1_choice 71 = .ok (.ifCond .eq 23, 3) := by decide +kernel
theorem dX1_choice_74 : decode cX1_choice 74 = .ok (.iload_n 2, 1) := by decide +kernel
theorem dX1_choice_75 : decode cX1_choice 75 = .ok (.invokestatic 431, 3) := by decide +kernel
theorem dX1_choice_78 : decode cX1_choice 78 = .ok (.ifCond .eq 16, 3) := by decide +kernel
theorem dX1_choice_81 : decode cX1_choice 81 = .ok (.iload_n 3, 1) := by decide +kernel
theorem dX1_choice_82 : decode cX1_choice 82 = .ok (.ifCond .eq 18, 3) := by decide +kernel
theorem dX1_choice_85 : decode cX1_choice 85 = .ok (.iload_n 2, 1) := by decide +kernel
theorem dX1_choice_86 : decode cX1_choice 86 = .ok (.ifCond .eq 14, 3) := by decide +kernel
theorem dX1_choice_89 : decode cX1_choice 89 = .ok (.iload_n 3, 1) := by decide +kernel
theorem dX1_choice_90 : decode cX1_choice 90 = .ok (.iload_n 2, 1) := by decide +kernel
theorem dX1_choice_91 : decode cX1_choice 91 = .ok (.if_icmp .eq 9, 3) := by decide +kernel
theorem dX1_choice_94 : decode cX1_choice 94 = .ok (.aload_n 0, 1) := by decide +kernel
theorem dX1_choice_95 : decode cX1_choice 95 = .ok (.bipush 29, 2) := by decide +kernel
theorem dX1_choice_97 : decode cX1_choice 97 = .ok (.invokevirtual 198, 3) := by decide +kernel
theorem dX1_choice_100 : decode cX1_choice 100 = .ok (.aload_n 0, 1) := by decide +kernel
theorem dX1_choice_101 : decode cX1_choice 101 = .ok (.iload_n 3, 1) := by decide +kernel
theorem dX1_choice_102 : decode cX1_choice 102 = .ok (.ifCond .eq 7, 3) := by decide +kernel
theorem dX1_choice_105 : decode cX1_choice 105 = .ok (.iload_n 3, 1) := by decide +kernel
theorem dX1_choice_106 : decode cX1_choice 106 = .ok (.goto 4, 3) := by decide +kernel
theorem dX1_choice_109 : decode cX1_choice 109 = .ok (.iload_n 2, 1) := by decide +kernel
theorem dX1_choice_110 : decode cX1_choice 110 = .ok (.invokevirtual 292, 3) := by decide +kernel
theorem dX1_choice_113 : decode cX1_choice 113 = .ok (.aload_n 0, 1) := by decide +kernel
theorem dX1_choice_114 : decode cX1_choice 114 = .ok (.iconst 3, 1) := by decide +kernel
theorem dX1_choice_115 : decode cX1_choice 115 = .ok (.iconst 1, 1) := by decide +kernel
theorem dX1_choice_116 : decode cX1_choice 116 = .ok (.invokevirtual 353, 3) := by decide +kernel
theorem dX1_choice_119 : decode cX1_choice 119 = .ok (.return_, 1) := by decide +kernel
def fX1_choice_b100 (h : pm_H) (x0 : Nat) (x2 : Int32) (x3 : Int32) : Option pm_H := if x3 = 0 then (if pm_kd h x0 = 1 then (fX1_put h x0 x2).bind fun v46 => if pm_kd v46 x0 = 1 then (fX1_emitPlain v46 x0 3 1).bind fun v49 => some v49 else none else none) else (if pm_kd h x0 = 1 then (fX1_put h x0 x3).bind fun v52 => if pm_kd v52 x0 = 1 then (fX1_emitPlain v52 x0 3 1).bind fun v55 => some v55 else none else none)
def fX1_choice (h : pm_H) (a0 : Nat) (p1 : Int32) : Option pm_H := if p1 = 26 then (if pm_kd h a0 = 1 then (fX1_take h a0 0).bind fun v39 => if pm_kd v39.2 a0 = 1 then (fX1_emitPlain v39.2 a0 1 0).bind fun v42 => some v42 else none else none) else (if p1 = 28 then (if pm_kd h a0 = 1 then (pm_R h a0 3).bind fun v31 => if pm_kd h v31 = 9 then pm_let ((pm_L h v31 9).toInt32) fun y34 => (fX1_plain h a0 127 y34 y34 y34).bind fun v36 => some v36 else none else none) else (if pm_kd h a0 = 1 then (fX1_take h a0 127).bind fun v4 => if pm_kd v4.2 a0 = 1 then (fX1_take v4.2 a0 0).bind fun v7 => if pm_kd v7.2 a0 = 1 then (fX1_take v7.2 a0 0).bind fun v10 => pm_let (fX1_isNumber v10.1) fun v12 => if v12 = 0 then (if pm_kd v10.2 a0 = 1 then (fX1_fail v10.2 a0 29).bind fun v16 => fX1_choice_b100 v16 a0 v7.1 v10.1 else none) else (pm_let (fX1_isNumber v7.1) fun v18 => if v18 = 0 then (if pm_kd v10.2 a0 = 1 then (fX1_fail v10.2 a0 29).bind fun v22 => fX1_choice_b100 v22 a0 v7.1 v10.1 else none) else (if v10.1 = 0 then (fX1_choice_b100 v10.2 a0 v7.1 v10.1) else (if v7.1 = 0 then (fX1_choice_b100 v10.2 a0 v7.1 v10.1) else (if v10.1 = v7.1 then (fX1_choice_b100 v10.2 a0 v7.1 v10.1) else (if pm_kd v10.2 a0 = 1 then (fX1_fail v10.2 a0 29).bind fun v28 => fX1_choice_b100 v28 a0 v7.1 v10.1 else none))))) else none else none else none))
set_option maxHeartbeats 4000000 in
set_option maxRecDepth 100000 in
theorem bX1_choice_100 {g : pm_Gm} {l : Launch} {G : pm_Gl} {Qr : Option Value → pm_H → Prop} (C : pm_C g cX1_choice RX1) (X : pm_X g l G mX1_choice 0 0 Qr) {h : pm_H} {x0 : Nat} {x2 : Int32} {x3 : Int32} {r : pm_H} (hf : fX1_choice_b100 h x0 x2 x3 = some r) (q : Qr none r) : pm_G g 100 [(0, .ref x0), (2, .int x2), (3, .int x3)] [] h 0 0 := by
  unfold fX1_choice_b100 at hf
  refine pm_aload_n C dX1_choice_100 rfl rfl ?_
  refine pm_iload_n C dX1_choice_101 rfl rfl ?_
  refine pm_if_eq (tgt := 109) C dX1_choice_102 (by decide) (fun c44 => ?_) (fun c44 => ?_)
  · have hf := pm_it hf c44
    refine pm_iload_n C dX1_choice_109 rfl rfl ?_
    obtain ⟨k45, hf⟩ := pm_if hf
    obtain ⟨v46, e47, hf⟩ := pm_bd hf
    refine pm_callV (as := [.int x2]) (st := []) C X dX1_choice_110 lnX1_292 myX1_put viX1_put ⟨by decide, by decide⟩ rfl rfl k45 (Nat.le_of_ble_eq_true rfl) (Nat.le_refl _) (Nat.le_refl _) (ctX1_put e47 ?_)
    show pm_G g 113 [(0, .ref x0), (2, .int x2), (3, .int x3)] [] v46 0 0
    refine pm_aload_n C dX1_choice_113 rfl rfl ?_
    refine pm_iconst (v := 3) C dX1_choice_114 (by decide) ?_
    refine pm_iconst (v := 1) C dX1_choice_115 (by decide) ?_
    obtain ⟨k48, hf⟩ := pm_if hf
    obtain ⟨v49, e50, hf⟩ := pm_bd hf
    refine pm_callV (as := [.int 3, .int 1]) (st := []) C X dX1_choice_116 lnX1_353 myX1_emitPlain viX1_emitPlain ⟨by decide, by decide⟩ rfl rfl k48 (Nat.le_of_ble_eq_true rfl) (Nat.le_refl _) (Nat.le_refl _) (ctX1_emitPlain e50 ?_)
    show pm_G g 119 [(0, .ref x0), (2, .int x2), (3, .int x3)] [] v49 0 0
    cases hf
    exact pm_vret C X dX1_choice_119 rfl (Nat.le_refl _) (Nat.le_refl _) q
  · have hf := pm_ie hf c44
    refine pm_iload_n C dX1_choice_105 rfl rfl ?_
    refine pm_goto (tgt := 110) C dX1_choice_106 (by decide) ?_
    obtain ⟨k51, hf⟩ := pm_if hf
    obtain ⟨v52, e53, hf⟩ := pm_bd hf
    refine pm_callV (as := [.int x3]) (st := []) C X dX1_choice_110 lnX1_292 myX1_put viX1_put ⟨by decide, by decide⟩ rfl rfl k51 (Nat.le_of_ble_eq_true rfl) (Nat.le_refl _) (Nat.le_refl _) (ctX1_put e53 ?_)
    show pm_G g 113 [(0, .ref x0), (2, .int x2), (3, .int x3)] [] v52 0 0
    refine pm_aload_n C dX1_choice_113 rfl rfl ?_
    refine pm_iconst (v := 3) C dX1_choice_114 (by decide) ?_
    refine pm_iconst (v := 1) C dX1_choice_115 (by decide) ?_
    obtain ⟨k54, hf⟩ := pm_if hf
    obtain ⟨v55, e56, hf⟩ := pm_bd hf
    refine pm_callV (as := [.int 3, .int 1]) (st := []) C X dX1_choice_116 lnX1_353 myX1_emitPlain viX1_emitPlain ⟨by decide, by decide⟩ rfl rfl k54 (Nat.le_of_ble_eq_true rfl) (Nat.le_refl _) (Nat.le_refl _) (ctX1_emitPlain e56 ?_)
    show pm_G g 119 [(0, .ref x0), (2, .int x2), (3, .int x3)] [] v55 0 0
    cases hf
    exact pm_vret C X dX1_choice_119 rfl (Nat.le_refl _) (Nat.le_refl _) q
set_option maxHeartbeats 4000000 in
set_option maxRecDepth 100000 in
theorem ctX1_choice {l : Launch} {G : pm_Gl} {h : pm_H} {a0 : Nat} {p1 : Int32} {r : pm_H} {Qr : Option Value → pm_H → Prop} (hf : fX1_choice h a0 p1 = some r) (q : Qr none r) : pm_Ct l G mX1_choice [.ref a0, .int p1] h 0 0 Qr := by
  refine pm_body pnX1 (Nat.le_of_ble_eq_true rfl) (fun g C X => ?_)
  have C : pm_C g cX1_choice RX1 := C
  show pm_G g 0 [(0, .ref a0), (1, .int p1)] [] h 0 0
  unfold fX1_choice at hf
  refine pm_iload_n C dX1_choice_0 rfl rfl ?_
  refine pm_bipush (v := 26) C dX1_choice_1 (by decide) ?_
  refine pm_icmp_ne (tgt := 21) C dX1_choice_3 (by decide) (fun c1 => ?_) (fun c1 => ?_)
  · have hf := pm_ie hf c1
    refine pm_iload_n C dX1_choice_21 rfl rfl ?_
    refine pm_bipush (v := 28) C dX1_choice_22 (by decide) ?_
    refine pm_icmp_ne (tgt := 48) C dX1_choice_24 (by decide) (fun c2 => ?_) (fun c2 => ?_)
    · have hf := pm_ie hf c2
      refine pm_aload_n C dX1_choice_48 rfl rfl ?_
      refine pm_bipush (v := 127) C dX1_choice_49 (by decide) ?_
      obtain ⟨k3, hf⟩ := pm_if hf
      obtain ⟨v4, e5, hf⟩ := pm_bd hf
      refine pm_callV (as := [.int 127]) (st := []) C X dX1_choice_51 lnX1_289 myX1_take viX1_take ⟨by decide, by decide⟩ rfl rfl k3 (Nat.le_of_ble_eq_true rfl) (Nat.le_refl _) (Nat.le_refl _) (ctX1_take e5 ?_)
      show pm_G g 54 [(0, .ref a0), (1, .int p1)] [.int v4.1] v4.2 0 0
      refine pm_pop C dX1_choice_54 rfl ?_
      refine pm_aload_n C dX1_choice_55 rfl rfl ?_
      refine pm_iconst (v := 0) C dX1_choice_56 (by decide) ?_
      obtain ⟨k6, hf⟩ := pm_if hf
      obtain ⟨v7, e8, hf⟩ := pm_bd hf
      refine pm_callV (as := [.int 0]) (st := []) C X dX1_choice_57 lnX1_289 myX1_take viX1_take ⟨by decide, by decide⟩ rfl rfl k6 (Nat.le_of_ble_eq_true rfl) (Nat.le_refl _) (Nat.le_refl _) (ctX1_take e8 ?_)
      show pm_G g 60 [(0, .ref a0), (1, .int p1)] [.int v7.1] v7.2 0 0
      refine pm_istore_n (lv' := [(2, .int v7.1), (0, .ref a0), (1, .int p1)]) C dX1_choice_60 rfl (pm_nl X (by decide)) rfl ?_
      refine pm_aload_n C dX1_choice_61 rfl rfl ?_
      refine pm_iconst (v := 0) C dX1_choice_62 (by decide) ?_
      obtain ⟨k9, hf⟩ := pm_if hf
      obtain ⟨v10, e11, hf⟩ := pm_bd hf
      refine pm_callV (as := [.int 0]) (st := []) C X dX1_choice_63 lnX1_289 myX1_take viX1_take ⟨by decide, by decide⟩ rfl rfl k9 (Nat.le_of_ble_eq_true rfl) (Nat.le_refl _) (Nat.le_refl _) (ctX1_take e11 ?_)
      show pm_G g 66 [(2, .int v7.1), (0, .ref a0), (1, .int p1)] [.int v10.1] v10.2 0 0
      refine pm_istore_n (lv' := [(3, .int v10.1), (2, .int v7.1), (0, .ref a0), (1, .int p1)]) C dX1_choice_66 rfl (pm_nl X (by decide)) rfl ?_
      refine pm_iload_n C dX1_choice_67 rfl rfl ?_
      obtain ⟨v12, e13, hf⟩ := pm_lt hf
      refine pm_callS (as := [.int v10.1]) (st := []) C X dX1_choice_68 lnX1_431 myX1_isNumber stX1_isNumber ⟨by decide, by decide⟩ rfl rfl (Nat.le_of_ble_eq_true rfl) (Nat.le_refl _) (Nat.le_refl _) (ctX1_isNumber e13 ?_)
      show pm_G g 71 [(3, .int v10.1), (2, .int v7.1), (0, .ref a0), (1, .int p1)] [.int v12] v10.2 0 0
      refine pm_if_eq (tgt := 94) C dX1_choice_71 (by decide) (fun c14 => ?_) (fun c14 => ?_)
      · have hf := pm_it hf c14
        refine pm_aload_n C dX1_choice_94 rfl rfl ?_
        refine pm_bipush (v := 29) C dX1_choice_95 (by decide) ?_
        obtain ⟨k15, hf⟩ := pm_if hf
        obtain ⟨v16, e17, hf⟩ := pm_bd hf
        refine pm_callV (as := [.int 29]) (st := []) C X dX1_choice_97 lnX1_198 myX1_fail viX1_fail ⟨by decide, by decide⟩ rfl rfl k15 (Nat.le_of_ble_eq_true rfl) (Nat.le_refl _) (Nat.le_refl _) (ctX1_fail e17 ?_)
        show pm_G g 100 [(3, .int v10.1), (2, .int v7.1), (0, .ref a0), (1, .int p1)] [] v16 0 0
        exact pm_sub [2, 1, 0] rfl (bX1_choice_100 C X hf q)
      · have hf := pm_ie hf c14
        refine pm_iload_n C dX1_choice_74 rfl rfl ?_
        obtain ⟨v18, e19, hf⟩ := pm_lt hf
        refine pm_callS (as := [.int v7.1]) (st := []) C X dX1_choice_75 lnX1_431 myX1_isNumber stX1_isNumber ⟨by decide, by decide⟩ rfl rfl (Nat.le_of_ble_eq_true rfl) (Nat.le_refl _) (Nat.le_refl _) (ctX1_isNumber e19 ?_)
        show pm_G g 78 [(3, .int v10.1), (2, .int v7.1), (0, .ref a0), (1, .int p1)] [.int v18] v10.2 0 0
        refine pm_if_eq (tgt := 94) C dX1_choice_78 (by decide) (fun c20 => ?_) (fun c20 => ?_)
        · have hf := pm_it hf c20
          refine pm_aload_n C dX1_choice_94 rfl rfl ?_
          refine pm_bipush (v := 29) C dX1_choice_95 (by decide) ?_
          obtain ⟨k21, hf⟩ := pm_if hf
          obtain ⟨v22, e23, hf⟩ := pm_bd hf
          refine pm_callV (as := [.int 29]) (st := []) C X dX1_choice_97 lnX1_198 myX1_fail viX1_fail ⟨by decide, by decide⟩ rfl rfl k21 (Nat.le_of_ble_eq_true rfl) (Nat.le_refl _) (Nat.le_refl _) (ctX1_fail e23 ?_)
          show pm_G g 100 [(3, .int v10.1), (2, .int v7.1), (0, .ref a0), (1, .int p1)] [] v22 0 0
          exact pm_sub [2, 1, 0] rfl (bX1_choice_100 C X hf q)
        · have hf := pm_ie hf c20
          refine pm_iload_n C dX1_choice_81 rfl rfl ?_
          refine pm_if_eq (tgt := 100) C dX1_choice_82 (by decide) (fun c24 => ?_) (fun c24 => ?_)
          · have hf := pm_it hf c24
            exact pm_sub [2, 1, 0] rfl (bX1_choice_100 C X hf q)
          · have hf := pm_ie hf c24
            refine pm_iload_n C dX1_choice_85 rfl rfl ?_
            refine pm_if_eq (tgt := 100) C dX1_choice_86 (by decide) (fun c25 => ?_) (fun c25 => ?_)
            · have hf := pm_it hf c25
              exact pm_sub [2, 1, 0] rfl (bX1_choice_100 C X hf q)
            · have hf := pm_ie hf c25
              refine pm_iload_n C dX1_choice_89 rfl rfl ?_
              refine pm_iload_n C dX1_choice_90 rfl rfl ?_
              refine pm_icmp_eq (tgt := 100) C dX1_choice_91 (by decide) (fun c26 => ?_) (fun c26 => ?_)
              · have hf := pm_it hf c26
                exact pm_sub [2, 1, 0] rfl (bX1_choice_100 C X hf q)
              · have hf := pm_ie hf c26
                refine pm_aload_n C dX1_choice_94 rfl rfl ?_
                refine pm_bipush (v := 29) C dX1_choice_95 (by decide) ?_
                obtain ⟨k27, hf⟩ := pm_if hf
                obtain ⟨v28, e29, hf⟩ := pm_bd hf
                refine pm_callV (as := [.int 29]) (st := []) C X dX1_choice_97 lnX1_198 myX1_fail viX1_fail ⟨by decide, by decide⟩ rfl rfl k27 (Nat.le_of_ble_eq_true rfl) (Nat.le_refl _) (Nat.le_refl _) (ctX1_fail e29 ?_)
                show pm_G g 100 [(3, .int v10.1), (2, .int v7.1), (0, .ref a0), (1, .int p1)] [] v28 0 0
                exact pm_sub [2, 1, 0] rfl (bX1_choice_100 C X hf q)
    · have hf := pm_it hf c2
      refine pm_aload_n C dX1_choice_27 rfl rfl ?_
      obtain ⟨k30, hf⟩ := pm_if hf
      obtain ⟨v31, e32, hf⟩ := pm_bd hf
      refine pm_getR C dX1_choice_28 flX1_36 rfl k30 e32 ?_
      obtain ⟨k33, hf⟩ := pm_if hf
      refine pm_getL C dX1_choice_31 flX1_325 rfl k33 rfl ?_
      refine pm_l2i C dX1_choice_34 ?_
      obtain ⟨y34, e35, hf⟩ := pm_lt hf
      refine pm_topI e35 ?_
      refine pm_istore_n (lv' := [(2, .int y34), (0, .ref a0), (1, .int p1)]) C dX1_choice_35 rfl (pm_nl X (by decide)) rfl ?_
      refine pm_aload_n C dX1_choice_36 rfl rfl ?_
      refine pm_bipush (v := 127) C dX1_choice_37 (by decide) ?_
      refine pm_iload_n C dX1_choice_39 rfl rfl ?_
      refine pm_iload_n C dX1_choice_40 rfl rfl ?_
      refine pm_iload_n C dX1_choice_41 rfl rfl ?_
      obtain ⟨v36, e37, hf⟩ := pm_bd hf
      refine pm_callV (as := [.int 127, .int y34, .int y34, .int y34]) (st := []) C X dX1_choice_42 lnX1_427 myX1_plain viX1_plain ⟨by decide, by decide⟩ rfl rfl k30 (Nat.le_of_ble_eq_true rfl) (Nat.le_refl _) (Nat.le_refl _) (ctX1_plain e37 ?_)
      show pm_G g 45 [(2, .int y34), (0, .ref a0), (1, .int p1)] [] v36 0 0
      refine pm_goto (tgt := 119) C dX1_choice_45 (by decide) ?_
      cases hf
      exact pm_vret C X dX1_choice_119 rfl (Nat.le_refl _) (Nat.le_refl _) q
  · have hf := pm_it hf c1
    refine pm_aload_n C dX1_choice_6 rfl rfl ?_
    refine pm_iconst (v := 0) C dX1_choice_7 (by decide) ?_
    obtain ⟨k38, hf⟩ := pm_if hf
    obtain ⟨v39, e40, hf⟩ := pm_bd hf
    refine pm_callV (as := [.int 0]) (st := []) C X dX1_choice_8 lnX1_289 myX1_take viX1_take ⟨by decide, by decide⟩ rfl rfl k38 (Nat.le_of_ble_eq_true rfl) (Nat.le_refl _) (Nat.le_refl _) (ctX1_take e40 ?_)
    show pm_G g 11 [(0, .ref a0), (1, .int p1)] [.int v39.1] v39.2 0 0
    refine pm_pop C dX1_choice_11 rfl ?_
    refine pm_aload_n C dX1_choice_12 rfl rfl ?_
    refine pm_iconst (v := 1) C dX1_choice_13 (by decide) ?_
    refine pm_iconst (v := 0) C dX1_choice_14 (by decide) ?_
    obtain ⟨k41, hf⟩ := pm_if hf
    obtain ⟨v42, e43, hf⟩ := pm_bd hf
    refine pm_callV (as := [.int 1, .int 0]) (st := []) C X dX1_choice_15 lnX1_353 myX1_emitPlain viX1_emitPlain ⟨by decide, by decide⟩ rfl rfl k41 (Nat.le_of_ble_eq_true rfl) (Nat.le_refl _) (Nat.le_refl _) (ctX1_emitPlain e43 ?_)
    show pm_G g 18 [(0, .ref a0), (1, .int p1)] [] v42 0 0
    refine pm_goto (tgt := 119) C dX1_choice_18 (by decide) ?_
    cases hf
    exact pm_vret C X dX1_choice_119 rfl (Nat.le_refl _) (Nat.le_refl _) q
theorem dX1_constantIn_0 : decode cX1_constantIn 0 = .ok (.aload_n 0, 1) := by decide +kernel
theorem dX1_constantIn_1 : decode cX1_constantIn 1 = .ok (.iload_n 1, 1) := by decide +kernel
theorem dX1_constantIn_2 : decode cX1_constantIn 2 = .ok (.invokevirtual 292, 3) := by decide +kernel
theorem dX1_constantIn_5 : decode cX1_constantIn 5 = .ok (.aload_n 0, 1) := by decide +kernel
theorem dX1_constantIn_6 : decode cX1_constantIn 6 = .ok (.bipush 65, 2) := by decide +kernel
theorem dX1_constantIn_8 : decode cX1_constantIn 8 = .ok (.lload_n 2, 1) := by decide +kernel
theorem dX1_constantIn_9 : decode cX1_constantIn 9 = .ok (.l2i, 1) := by decide +kernel
theorem dX1_constantIn_10 : decode cX1_constantIn 10 = .ok (.lload_n 2, 1) := by decide +kernel
theorem dX1_constantIn_11 : decode cX1_constantIn 11 = .ok (.bipush 32, 2) := by decide +kernel
theorem dX1_constantIn_13 : decode cX1_constantIn 13 = .ok (.lushr, 1) := by decide +kernel
theorem dX1_constantIn_14 : decode cX1_constantIn 14 = .ok (.l2i, 1) := by decide +kernel
theorem dX1_constantIn_15 : decode cX1_constantIn 15 = .ok (.iconst 1, 1) := by decide +kernel
theorem dX1_constantIn_16 : decode cX1_constantIn 16 = .ok (.invokevirtual 322, 3) := by decide +kernel
theorem dX1_constantIn_19 : decode cX1_constantIn 19 = .ok (.pop, 1) := by decide +kernel
theorem dX1_constantIn_20 : decode cX1_constantIn 20 = .ok (.return_, 1) := by decide +kernel
def fX1_constantIn (h : pm_H) (a0 : Nat) (p1 : Int32) (p2 : Int64) : Option pm_H := if pm_kd h a0 = 1 then (fX1_put h a0 p1).bind fun v2 => if pm_kd v2 a0 = 1 then (fX1_emit v2 a0 65 p2.toInt32 (((p2.toUInt64 >>> ((32 : Int32).toInt64.toUInt64 &&& Int64.toUInt64 63)).toInt64).toInt32) 1).bind fun v5 => some v5.2 else none else none
set_option maxHeartbeats 4000000 in
set_option maxRecDepth 100000 in
theorem ctX1_constantIn {l : Launch} {G : pm_Gl} {h : pm_H} {a0 : Nat} {p1 : Int32} {p2 : Int64} {r : pm_H} {Qr : Option Value → pm_H → Prop} (hf : fX1_constantIn h a0 p1 p2 = some r) (q : Qr none r) : pm_Ct l G mX1_constantIn [.ref a0, .int p1, .long p2] h 0 0 Qr := by
  refine pm_body pnX1 (Nat.le_of_ble_eq_true rfl) (fun g C X => ?_)
  have C : pm_C g cX1_constantIn RX1 := C
  show pm_G g 0 [(0, .ref a0), (1, .int p1), (2, .long p2)] [] h 0 0
  unfold fX1_constantIn at hf
  refine pm_aload_n C dX1_constantIn_0 rfl rfl ?_
  refine pm_iload_n C dX1_constantIn_1 rfl rfl ?_
  obtain ⟨k1, hf⟩ := pm_if hf
  obtain ⟨v2, e3, hf⟩ := pm_bd hf
  refine pm_callV (as := [.int p1]) (st := []) C X dX1_constantIn_2 lnX1_292 myX1_put viX1_put ⟨by decide, by decide⟩ rfl rfl k1 (Nat.le_of_ble_eq_true rfl) (Nat.le_refl _) (Nat.le_refl _) (ctX1_put e3 ?_)
  show pm_G g 5 [(0, .ref a0), (1, .int p1), (2, .long p2)] [] v2 0 0
  refine pm_aload_n C dX1_constantIn_5 rfl rfl ?_
  refine pm_bipush (v := 65) C dX1_constantIn_6 (by decide) ?_
  refine pm_lload_n C dX1_constantIn_8 rfl rfl ?_
  refine pm_l2i C dX1_constantIn_9 ?_
  refine pm_lload_n C dX1_constantIn_10 rfl rfl ?_
  refine pm_bipush (v := 32) C dX1_constantIn_11 (by decide) ?_
  refine pm_lushr C dX1_constantIn_13 ?_
  refine pm_l2i C dX1_constantIn_14 ?_
  refine pm_iconst (v := 1) C dX1_constantIn_15 (by decide) ?_
  obtain ⟨k4, hf⟩ := pm_if hf
  obtain ⟨v5, e6, hf⟩ := pm_bd hf
  refine pm_callV (as := [.int 65, .int p2.toInt32, .int (((p2.toUInt64 >>> ((32 : Int32).toInt64.toUInt64 &&& Int64.toUInt64 63)).toInt64).toInt32), .int 1]) (st := []) C X dX1_constantIn_16 lnX1_322 myX1_emit viX1_emit ⟨by decide, by decide⟩ rfl rfl k4 (Nat.le_of_ble_eq_true rfl) (Nat.le_refl _) (Nat.le_refl _) (ctX1_emit e6 ?_)
  show pm_G g 19 [(0, .ref a0), (1, .int p1), (2, .long p2)] [.int v5.1] v5.2 0 0
  refine pm_pop C dX1_constantIn_19 rfl ?_
  cases hf
  exact pm_vret C X dX1_constantIn_20 rfl (Nat.le_refl _) (Nat.le_refl _) q
theorem dX1_reference_0 : decode cX1_reference 0 = .ok (.iload_n 1, 1) := by decide +kernel
theorem dX1_reference_1 : decode cX1_reference 1 = .ok (.sipush 208, 3) := by decide +kernel
theorem dX1_reference_4 : decode cX1_reference 4 = .ok (.if_icmp .ne 21, 3) := by decide +kernel
theorem dX1_reference_7 : decode cX1_reference 7 = .ok (.aload_n 0, 1) := by decide +kernel
theorem dX1_reference_8 : decode cX1_reference 8 = .ok (.aload_n 0, 1) := by decide +kernel
theorem dX1_reference_9 : decode cX1_reference 9 = .ok (.getfield 36, 3) := by decide +kernel
theorem dX1_reference_12 : decode cX1_reference 12 = .ok (.getfield 201, 3) := by decide +kernel
theorem dX1_reference_15 : decode cX1_reference 15 = .ok (.l2i, 1) := by decide +kernel
theorem dX1_reference_16 : decode cX1_reference 16 = .ok (.ldc2_w 453, 3) := by decide +kernel
theorem dX1_reference_19 : decode cX1_reference 19 = .ok (.invokevirtual 340, 3) := by decide +kernel
theorem dX1_reference_22 : decode cX1_reference 22 = .ok (.goto 97, 3) := by decide +kernel
theorem dX1_reference_25 : decode cX1_reference 25 = .ok (.iload_n 1, 1) := by decide +kernel
theorem dX1_reference_26 : decode cX1_reference 26 = .ok (.sipush 209, 3) := by decide +kernel
theorem dX1_reference_29 : decode cX1_reference 29 = .ok (.if_icmp .ne 46, 3) := by decide +kernel
theorem dX1_reference_32 : decode cX1_reference 32 = .ok (.aload_n 0, 1) := by decide +kernel
theorem dX1_reference_33 : decode cX1_reference 33 = .ok (.iconst 0, 1) := by decide +kernel
theorem dX1_reference_34 : decode cX1_reference 34 = .ok (.invokevirtual 289, 3) := by decide +kernel
theorem dX1_reference_37 : decode cX1_reference 37 = .ok (.istore_n 2, 1) := by decide +kernel
theorem dX1_reference_38 : decode cX1_reference 38 = .ok (.iload_n 2, 1) := by decide +kernel
theorem dX1_reference_39 : decode cX1_reference 39 = .ok (.ifCond .eq 21, 3) := by decide +kernel
theorem dX1_reference_42 : decode cX1_reference 42 = .ok (.iload_n 2, 1) := by decide +kernel
theorem dX1_reference_43 : decode cX1_reference 43 = .ok (.bipush 112, 2) := by decide +kernel
theorem dX1_reference_45 : decode cX1_reference 45 = .ok (.if_icmp .eq 15, 3) := by decide +kernel
theorem dX1_reference_48 : decode cX1_reference 48 = .ok (.iload_n 2, 1) := by decide +kernel
theorem dX1_reference_49 : decode cX1_reference 49 = .ok (.bipush 111, 2) := by decide +kernel
theorem dX1_reference_51 : decode cX1_reference 51 = .ok (.if_icmp .eq 9, 3) := by decide +kernel
theorem dX1_reference_54 : decode cX1_reference 54 = .ok (.aload_n 0, 1) := by decide +kernel
theorem dX1_reference_55 : decode cX1_reference 55 = .ok (.bipush 29, 2) := by decide +kernel
theorem dX1_reference_57 : decode cX1_reference 57 = .ok (.invokevirtual 198, 3) := by decide +kernel
theorem dX1_reference_60 : decode cX1_reference 60 = .ok (.aload_n 0, 1) := by decide +kernel
theorem dX1_reference_61 : decode cX1_reference 61 = .ok (.bipush 127, 2) := by decide +kernel
theorem dX1_reference_63 : decode cX1_reference 63 = .ok (.invokevirtual 292, 3) := by decide +kernel
theorem dX1_reference_66 : decode cX1_reference 66 = .ok (.aload_n 0, 1) := by decide +kernel
theorem dX1_reference_67 : decode cX1_reference 67 = .ok (.iconst 1, 1) := by decide +kernel
theorem dX1_reference_68 : decode cX1_reference 68 = .ok (.iconst 1, 1) := by decide +kernel
theorem dX1_reference_69 : decode cX1_reference 69 = .ok (.invokevirtual 353, 3) := by decide +kernel
theorem dX1_reference_72 : decode cX1_reference 72 = .ok (.goto 47, 3) := by decide +kernel
theorem dX1_reference_75 : decode cX1_reference 75 = .ok (.aload_n 0, 1) := by decide +kernel
theorem dX1_reference_76 : decode cX1_reference 76 = .ok (.getfield 36, 3) := by decide +kernel
theorem dX1_reference_79 : decode cX1_reference 79 = .ok (.getfield 201, 3) := by decide +kernel
theorem dX1_reference_82 : decode cX1_reference 82 = .ok (.invokestatic 418, 3) := by decide +kernel
theorem dX1_reference_85 : decode cX1_reference 85 = .ok (.istore_n 2, 1) := by decide +kernel
theorem dX1_reference_86 : decode cX1_reference 86 = .ok (.iload_n 2, 1) := by decide +kernel
theorem dX1_reference_87 : decode cX1_reference 87 = .ok (.aload_n 0, 1) := by decide +kernel
theorem dX1_reference_88 : decode cX1_reference 88 = .ok (.getfield 9, 3) := by decide +kernel
theorem dX1_reference_91 : decode cX1_reference 91 = .ok (.arraylength, 1) := by decide +kernel
theorem dX1_reference_92 : decode cX1_reference 92 = .ok (.if_icmp .ge 12, 3) := by decide +kernel
theorem dX1_reference_95 : decode cX1_reference 95 = .ok (.aload_n 0, 1) := by decide +kernel
theorem dX1_reference_96 : decode cX1_reference 96 = .ok (.getfield 9, 3) := by decide +kernel
theorem dX1_reference_99 : decode cX1_reference 99 = .ok (.iload_n 2, 1) := by decide +kernel
theorem dX1_reference_100 : decode cX1_reference 100 = .ok (.baload, 1) := by decide +kernel
theorem dX1_reference_101 : decode cX1_reference 101 = .ok (.ifCond .ne 9, 3) := by decide +kernel
theorem dX1_reference_104 : decode cX1_reference 104 = .ok (.aload_n 0, 1) := by decide +kernel
theorem dX1_reference_105 : decode cX1_reference 105 = .ok (.bipush 30, 2) := by decide +kernel
theorem dX1_reference_107 : decode cX1_reference 107 = .ok (.invokevirtual 198, 3) := by decide +kernel
theorem dX1_reference_110 : decode cX1_reference 110 = .ok (.aload_n 0, 1) := by decide +kernel
theorem dX1_reference_111 : decode cX1_reference 111 = .ok (.iconst 0, 1) := by decide +kernel
theorem dX1_reference_112 : decode cX1_reference 112 = .ok (.iconst 0, 1) := by decide +kernel
theorem dX1_reference_113 : decode cX1_reference 113 = .ok (.iconst 0, 1) := by decide +kernel
theorem dX1_reference_114 : decode cX1_reference 114 = .ok (.bipush 112, 2) := by decide +kernel
theorem dX1_reference_116 : decode cX1_reference 116 = .ok (.invokevirtual 427, 3) := by decide +kernel
theorem dX1_reference_119 : decode cX1_reference 119 = .ok (.return_, 1) := by decide +kernel
def fX1_reference_b60 (h : pm_H) (x0 : Nat) : Option pm_H := if pm_kd h x0 = 1 then (fX1_put h x0 127).bind fun v43 => if pm_kd v43 x0 = 1 then (fX1_emitPlain v43 x0 1 1).bind fun v46 => some v46 else none else none
def fX1_reference (h : pm_H) (a0 : Nat) (p1 : Int32) : Option pm_H := if p1 = 208 then (if pm_kd h a0 = 1 then (pm_R h a0 3).bind fun v37 => if pm_kd h v37 = 9 then (fX1_constantIn h a0 ((pm_L h v37 8).toInt32) (-1)).bind fun v40 => some v40 else none else none) else (if p1 = 209 then (if pm_kd h a0 = 1 then (fX1_take h a0 0).bind fun v28 => if v28.1 = 0 then (fX1_reference_b60 v28.2 a0) else (if v28.1 = 112 then (fX1_reference_b60 v28.2 a0) else (if v28.1 = 111 then (fX1_reference_b60 v28.2 a0) else (if pm_kd v28.2 a0 = 1 then (fX1_fail v28.2 a0 29).bind fun v34 => fX1_reference_b60 v34 a0 else none))) else none) else (if pm_kd h a0 = 1 then (pm_R h a0 3).bind fun v4 => if pm_kd h v4 = 9 then pm_let (fX12_index (pm_L h v4 8)) fun v7 => (pm_R h a0 4).bind fun v9 => if pm_kd h v9 = 32 then if (Int32.ofNat (pm_ln h v9)) ≤ v7 then ((fX1_fail h a0 30).bind fun v13 => if pm_kd v13 a0 = 1 then (fX1_plain v13 a0 0 0 0 112).bind fun v16 => some v16 else none) else (if pm_in v7 (pm_ln h v9) then if (pm_I h v9 v7.toNatClampNeg) = 0 then ((fX1_fail h a0 30).bind fun v22 => if pm_kd v22 a0 = 1 then (fX1_plain v22 a0 0 0 0 112).bind fun v25 => some v25 else none) else ((fX1_plain h a0 0 0 0 112).bind fun v20 => some v20) else none) else none else none else none))
set_option maxHeartbeats 4000000 in
set_option maxRecDepth 100000 in
theorem bX1_reference_60 {g : pm_Gm} {l : Launch} {G : pm_Gl} {Qr : Option Value → pm_H → Prop} (C : pm_C g cX1_reference RX1) (X : pm_X g l G mX1_reference 0 0 Qr) {h : pm_H} {x0 : Nat} {r : pm_H} (hf : fX1_reference_b60 h x0 = some r) (q : Qr none r) : pm_G g 60 [(0, .ref x0)] [] h 0 0 := by
  unfold fX1_reference_b60 at hf
  refine pm_aload_n C dX1_reference_60 rfl rfl ?_
  refine pm_bipush (v := 127) C dX1_reference_61 (by decide) ?_
  obtain ⟨k42, hf⟩ := pm_if hf
  obtain ⟨v43, e44, hf⟩ := pm_bd hf
  refine pm_callV (as := [.int 127]) (st := []) C X dX1_reference_63 lnX1_292 myX1_put viX1_put ⟨by decide, by decide⟩ rfl rfl k42 (Nat.le_of_ble_eq_true rfl) (Nat.le_refl _) (Nat.le_refl _) (ctX1_put e44 ?_)
  show pm_G g 66 [(0, .ref x0)] [] v43 0 0
  refine pm_aload_n C dX1_reference_66 rfl rfl ?_
  refine pm_iconst (v := 1) C dX1_reference_67 (by decide) ?_
  refine pm_iconst (v := 1) C dX1_reference_68 (by decide) ?_
  obtain ⟨k45, hf⟩ := pm_if hf
  obtain ⟨v46, e47, hf⟩ := pm_bd hf
  refine pm_callV (as := [.int 1, .int 1]) (st := []) C X dX1_reference_69 lnX1_353 myX1_emitPlain viX1_emitPlain ⟨by decide, by decide⟩ rfl rfl k45 (Nat.le_of_ble_eq_true rfl) (Nat.le_refl _) (Nat.le_refl _) (ctX1_emitPlain e47 ?_)
  show pm_G g 72 [(0, .ref x0)] [] v46 0 0
  refine pm_goto (tgt := 119) C dX1_reference_72 (by decide) ?_
  cases hf
  exact pm_vret C X dX1_reference_119 rfl (Nat.le_refl _) (Nat.le_refl _) q
set_option maxHeartbeats 4000000 in
set_option maxRecDepth 100000 in
theorem ctX1_reference {l : Launch} {G : pm_Gl} {h : pm_H} {a0 : Nat} {p1 : Int32} {r : pm_H} {Qr : Option Value → pm_H → Prop} (hf : fX1_reference h a0 p1 = some r) (q : Qr none r) : pm_Ct l G mX1_reference [.ref a0, .int p1] h 0 0 Qr := by
  refine pm_body pnX1 (Nat.le_of_ble_eq_true rfl) (fun g C X => ?_)
  have C : pm_C g cX1_reference RX1 := C
  show pm_G g 0 [(0, .ref a0), (1, .int p1)] [] h 0 0
  unfold fX1_reference at hf
  refine pm_iload_n C dX1_reference_0 rfl rfl ?_
  refine pm_sipush (v := 208) C dX1_reference_1 (by decide) ?_
  refine pm_icmp_ne (tgt := 25) C dX1_reference_4 (by decide) (fun c1 => ?_) (fun c1 => ?_)
  · have hf := pm_ie hf c1
    refine pm_iload_n C dX1_reference_25 rfl rfl ?_
    refine pm_sipush (v := 209) C dX1_reference_26 (by decide) ?_
    refine pm_icmp_ne (tgt := 75) C dX1_reference_29 (by decide) (fun c2 => ?_) (fun c2 => ?_)
    · have hf := pm_ie hf c2
      refine pm_aload_n C dX1_reference_75 rfl rfl ?_
      obtain ⟨k3, hf⟩ := pm_if hf
      obtain ⟨v4, e5, hf⟩ := pm_bd hf
      refine pm_getR C dX1_reference_76 flX1_36 rfl k3 e5 ?_
      obtain ⟨k6, hf⟩ := pm_if hf
      refine pm_getL C dX1_reference_79 flX1_201 rfl k6 rfl ?_
      obtain ⟨v7, e8, hf⟩ := pm_lt hf
      refine pm_callS (as := [.long (pm_L h v4 8)]) (st := []) C X dX1_reference_82 lnX1_418 myX12_index stX12_index ⟨by decide, by decide⟩ rfl rfl (Nat.le_of_ble_eq_true rfl) (Nat.le_refl _) (Nat.le_refl _) (ctX12_index e8 ?_)
      show pm_G g 85 [(0, .ref a0), (1, .int p1)] [.int v7] h 0 0
      refine pm_istore_n (lv' := [(2, .int v7), (0, .ref a0), (1, .int p1)]) C dX1_reference_85 rfl (pm_nl X (by decide)) rfl ?_
      refine pm_iload_n C dX1_reference_86 rfl rfl ?_
      refine pm_aload_n C dX1_reference_87 rfl rfl ?_
      obtain ⟨v9, e10, hf⟩ := pm_bd hf
      refine pm_getR C dX1_reference_88 flX1_9 rfl k3 e10 ?_
      obtain ⟨k11, hf⟩ := pm_if hf
      refine pm_alen (t := 0) C dX1_reference_91 (by decide) k11 rfl ?_
      refine pm_icmp_ge (tgt := 104) C dX1_reference_92 (by decide) (fun c12 => ?_) (fun c12 => ?_)
      · have hf := pm_it hf c12
        refine pm_aload_n C dX1_reference_104 rfl rfl ?_
        refine pm_bipush (v := 30) C dX1_reference_105 (by decide) ?_
        obtain ⟨v13, e14, hf⟩ := pm_bd hf
        refine pm_callV (as := [.int 30]) (st := []) C X dX1_reference_107 lnX1_198 myX1_fail viX1_fail ⟨by decide, by decide⟩ rfl rfl k3 (Nat.le_of_ble_eq_true rfl) (Nat.le_refl _) (Nat.le_refl _) (ctX1_fail e14 ?_)
        show pm_G g 110 [(2, .int v7), (0, .ref a0), (1, .int p1)] [] v13 0 0
        refine pm_aload_n C dX1_reference_110 rfl rfl ?_
        refine pm_iconst (v := 0) C dX1_reference_111 (by decide) ?_
        refine pm_iconst (v := 0) C dX1_reference_112 (by decide) ?_
        refine pm_iconst (v := 0) C dX1_reference_113 (by decide) ?_
        refine pm_bipush (v := 112) C dX1_reference_114 (by decide) ?_
        obtain ⟨k15, hf⟩ := pm_if hf
        obtain ⟨v16, e17, hf⟩ := pm_bd hf
        refine pm_callV (as := [.int 0, .int 0, .int 0, .int 112]) (st := []) C X dX1_reference_116 lnX1_427 myX1_plain viX1_plain ⟨by decide, by decide⟩ rfl rfl k15 (Nat.le_of_ble_eq_true rfl) (Nat.le_refl _) (Nat.le_refl _) (ctX1_plain e17 ?_)
        show pm_G g 119 [(2, .int v7), (0, .ref a0), (1, .int p1)] [] v16 0 0
        cases hf
        exact pm_vret C X dX1_reference_119 rfl (Nat.le_refl _) (Nat.le_refl _) q
      · have hf := pm_ie hf c12
        refine pm_aload_n C dX1_reference_95 rfl rfl ?_
        refine pm_getR C dX1_reference_96 flX1_9 rfl k3 e10 ?_
        refine pm_iload_n C dX1_reference_99 rfl rfl ?_
        obtain ⟨u18, hf⟩ := pm_if hf
        refine pm_zald C dX1_reference_100 k11 u18 rfl ?_
        refine pm_if_ne (tgt := 110) C dX1_reference_101 (by decide) (fun c19 => ?_) (fun c19 => ?_)
        · have hf := pm_ie hf c19
          refine pm_aload_n C dX1_reference_110 rfl rfl ?_
          refine pm_iconst (v := 0) C dX1_reference_111 (by decide) ?_
          refine pm_iconst (v := 0) C dX1_reference_112 (by decide) ?_
          refine pm_iconst (v := 0) C dX1_reference_113 (by decide) ?_
          refine pm_bipush (v := 112) C dX1_reference_114 (by decide) ?_
          obtain ⟨v20, e21, hf⟩ := pm_bd hf
          refine pm_callV (as := [.int 0, .int 0, .int 0, .int 112]) (st := []) C X dX1_reference_116 lnX1_427 myX1_plain viX1_plain ⟨by decide, by decide⟩ rfl rfl k3 (Nat.le_of_ble_eq_true rfl) (Nat.le_refl _) (Nat.le_refl _) (ctX1_plain e21 ?_)
          show pm_G g 119 [(2, .int v7), (0, .ref a0), (1, .int p1)] [] v20 0 0
          cases hf
          exact pm_vret C X dX1_reference_119 rfl (Nat.le_refl _) (Nat.le_refl _) q
        · have hf := pm_it hf c19
          refine pm_aload_n C dX1_reference_104 rfl rfl ?_
          refine pm_bipush (v := 30) C dX1_reference_105 (by decide) ?_
          obtain ⟨v22, e23, hf⟩ := pm_bd hf
          refine pm_callV (as := [.int 30]) (st := []) C X dX1_reference_107 lnX1_198 myX1_fail viX1_fail ⟨by decide, by decide⟩ rfl rfl k3 (Nat.le_of_ble_eq_true rfl) (Nat.le_refl _) (Nat.le_refl _) (ctX1_fail e23 ?_)
          show pm_G g 110 [(2, .int v7), (0, .ref a0), (1, .int p1)] [] v22 0 0
          refine pm_aload_n C dX1_reference_110 rfl rfl ?_
          refine pm_iconst (v := 0) C dX1_reference_111 (by decide) ?_
          refine pm_iconst (v := 0) C dX1_reference_112 (by decide) ?_
          refine pm_iconst (v := 0) C dX1_reference_113 (by decide) ?_
          refine pm_bipush (v := 112) C dX1_reference_114 (by decide) ?_
          obtain ⟨k24, hf⟩ := pm_if hf
          obtain ⟨v25, e26, hf⟩ := pm_bd hf
          refine pm_callV (as := [.int 0, .int 0, .int 0, .int 112]) (st := []) C X dX1_reference_116 lnX1_427 myX1_plain viX1_plain ⟨by decide, by decide⟩ rfl rfl k24 (Nat.le_of_ble_eq_true rfl) (Nat.le_refl _) (Nat.le_refl _) (ctX1_plain e26 ?_)
          show pm_G g 119 [(2, .int v7), (0, .ref a0), (1, .int p1)] [] v25 0 0
          cases hf
          exact pm_vret C X dX1_reference_119 rfl (Nat.le_refl _) (Nat.le_refl _) q
    · have hf := pm_it hf c2
      refine pm_aload_n C dX1_reference_32 rfl rfl ?_
      refine pm_iconst (v := 0) C dX1_reference_33 (by decide) ?_
      obtain ⟨k27, hf⟩ := pm_if hf
      obtain ⟨v28, e29, hf⟩ := pm_bd hf
      refine pm_callV (as := [.int 0]) (st := []) C X dX1_reference_34 lnX1_289 myX1_take viX1_take ⟨by decide, by decide⟩ rfl rfl k27 (Nat.le_of_ble_eq_true rfl) (Nat.le_refl _) (Nat.le_refl _) (ctX1_take e29 ?_)
      show pm_G g 37 [(0, .ref a0), (1, .int p1)] [.int v28.1] v28.2 0 0
      refine pm_istore_n (lv' := [(2, .int v28.1), (0, .ref a0), (1, .int p1)]) C dX1_reference_37 rfl (pm_nl X (by decide)) rfl ?_
      refine pm_iload_n C dX1_reference_38 rfl rfl ?_
      refine pm_if_eq (tgt := 60) C dX1_reference_39 (by decide) (fun c30 => ?_) (fun c30 => ?_)
      · have hf := pm_it hf c30
        exact pm_sub [1] rfl (bX1_reference_60 C X hf q)
      · have hf := pm_ie hf c30
        refine pm_iload_n C dX1_reference_42 rfl rfl ?_
        refine pm_bipush (v := 112) C dX1_reference_43 (by decide) ?_
        refine pm_icmp_eq (tgt := 60) C dX1_reference_45 (by decide) (fun c31 => ?_) (fun c31 => ?_)
        · have hf := pm_it hf c31
          exact pm_sub [1] rfl (bX1_reference_60 C X hf q)
        · have hf := pm_ie hf c31
          refine pm_iload_n C dX1_reference_48 rfl rfl ?_
          refine pm_bipush (v := 111) C dX1_reference_49 (by decide) ?_
          refine pm_icmp_eq (tgt := 60) C dX1_reference_51 (by decide) (fun c32 => ?_) (fun c32 => ?_)
          · have hf := pm_it hf c32
            exact pm_sub [1] rfl (bX1_reference_60 C X hf q)
          · have hf := pm_ie hf c32
            refine pm_aload_n C dX1_reference_54 rfl rfl ?_
            refine pm_bipush (v := 29) C dX1_reference_55 (by decide) ?_
            obtain ⟨k33, hf⟩ := pm_if hf
            obtain ⟨v34, e35, hf⟩ := pm_bd hf
            refine pm_callV (as := [.int 29]) (st := []) C X dX1_reference_57 lnX1_198 myX1_fail viX1_fail ⟨by decide, by decide⟩ rfl rfl k33 (Nat.le_of_ble_eq_true rfl) (Nat.le_refl _) (Nat.le_refl _) (ctX1_fail e35 ?_)
            show pm_G g 60 [(2, .int v28.1), (0, .ref a0), (1, .int p1)] [] v34 0 0
            exact pm_sub [1] rfl (bX1_reference_60 C X hf q)
  · have hf := pm_it hf c1
    refine pm_aload_n C dX1_reference_7 rfl rfl ?_
    refine pm_aload_n C dX1_reference_8 rfl rfl ?_
    obtain ⟨k36, hf⟩ := pm_if hf
    obtain ⟨v37, e38, hf⟩ := pm_bd hf
    refine pm_getR C dX1_reference_9 flX1_36 rfl k36 e38 ?_
    obtain ⟨k39, hf⟩ := pm_if hf
    refine pm_getL C dX1_reference_12 flX1_201 rfl k39 rfl ?_
    refine pm_l2i C dX1_reference_15 ?_
    refine pm_ldc2 C dX1_reference_16 cnX1_453 ?_
    obtain ⟨v40, e41, hf⟩ := pm_bd hf
    refine pm_callV (as := [.int ((pm_L h v37 8).toInt32), .long (-1)]) (st := []) C X dX1_reference_19 lnX1_340 myX1_constantIn viX1_constantIn ⟨by decide, by decide⟩ rfl rfl k36 (Nat.le_of_ble_eq_true rfl) (Nat.le_refl _) (Nat.le_refl _) (ctX1_constantIn e41 ?_)
    show pm_G g 22 [(0, .ref a0), (1, .int p1)] [] v40 0 0
    refine pm_goto (tgt := 119) C dX1_reference_22 (by decide) ?_
    cases hf
    exact pm_vret C X dX1_reference_119 rfl (Nat.le_refl _) (Nat.le_refl _) q
theorem dX16_answer_0 : decode cX16_answer 0 = .ok (.aload_n 0, 1) := by decide +kernel
theorem dX16_answer_1 : decode cX16_answer 1 = .ok (.getfield 970, 3) := by decide +kernel
theorem dX16_answer_4 : decode cX16_answer 4 = .ok (.iconst 5, 1) := by decide +kernel
theorem dX16_answer_5 : decode cX16_answer 5 = .ok (.if_icmp .eq 5, 3) := by decide +kernel
theorem dX16_answer_8 : decode cX16_answer 8 = .ok (.iconst 0, 1) := by decide +kernel
theorem dX16_answer_9 : decode cX16_answer 9 = .ok (.ireturn, 1) := by decide +kernel
theorem dX16_answer_10 : decode cX16_answer 10 = .ok (.aload_n 0, 1) := by decide +kernel
theorem dX16_answer_11 : decode cX16_answer 11 = .ok (.getfield 1095, 3) := by decide +kernel
theorem dX16_answer_14 : decode cX16_answer 14 = .ok (.istore_n 1, 1) := by decide +kernel
theorem dX16_answer_15 : decode cX16_answer 15 = .ok (.aload_n 0, 1) := by decide +kernel
theorem dX16_answer_16 : decode cX16_answer 16 = .ok (.iload_n 1, 1) := by decide +kernel
theorem dX16_answer_17 : decode cX16_answer 17 = .ok (.invokevirtual 1129, 3) := by decide +kernel
theorem dX16_answer_20 : decode cX16_answer 20 = .ok (.istore_n 2, 1) := by decide +kernel
theorem dX16_answer_21 : decode cX16_answer 21 = .ok (.aload_n 0, 1) := by decide +kernel
theorem dX16_answer_22 : decode cX16_answer 22 = .ok (.getfield 1069, 3) := by decide +kernel
theorem dX16_answer_25 : decode cX16_answer 25 = .ok (.iload_n 2, 1) := by decide +kernel
theorem dX16_answer_26 : decode cX16_answer 26 = .ok (.if_icmp .ne 13, 3) := by decide +kernel
theorem dX16_answer_29 : decode cX16_answer 29 = .ok (.aload_n 0, 1) := by decide +kernel
theorem dX16_answer_30 : decode cX16_answer 30 = .ok (.iload_n 1, 1) := by decide +kernel
theorem dX16_answer_31 : decode cX16_answer 31 = .ok (.bipush 16, 2) := by decide +kernel
theorem dX16_answer_33 : decode cX16_answer 33 = .ok (.invokevirtual 1080, 3) := by decide +kernel
theorem dX16_answer_36 : decode cX16_answer 36 = .ok (.ifCond .ne 5, 3) := by decide +kernel
theorem dX16_answer_39 : decode cX16_answer 39 = .ok (.iconst 0, 1) := by decide +kernel
theorem dX16_answer_40 : decode cX16_answer 40 = .ok (.ireturn, 1) := by decide +kernel
theorem dX16_answer_41 : decode cX16_answer 41 = .ok (.aload_n 0, 1) := by decide +kernel
theorem dX16_answer_42 : decode cX16_answer 42 = .ok (.iconst 0, 1) := by decide +kernel
theorem dX16_answer_43 : decode cX16_answer 43 = .ok (.putfield 1069, 3) := by decide +kernel
theorem dX16_answer_46 : decode cX16_answer 46 = .ok (.aload_n 0, 1) := by decide +kernel
theorem dX16_answer_47 : decode cX16_answer 47 = .ok (.aload_n 0, 1) := by decide +kernel
theorem dX16_answer_48 : decode cX16_answer 48 = .ok (.getfield 1052, 3) := by decide +kernel
theorem dX16_answer_51 : decode cX16_answer 51 = .ok (.ifCond .ne 7, 3) := by decide +kernel
theorem dX16_answer_54 : decode cX16_answer 54 = .ok (.iconst 2, 1) := by decide +kernel
theorem dX16_answer_55 : decode cX16_answer 55 = .ok (.goto 4, 3) := by decide +kernel
theorem dX16_answer_58 : decode cX16_answer 58 = .ok (.iconst 1, 1) := by decide +kernel
theorem dX16_answer_59 : decode cX16_answer 59 = .ok (.putfield 970, 3) := by decide +kernel
theorem dX16_answer_62 : decode cX16_answer 62 = .ok (.iconst 0, 1) := by decide +kernel
theorem dX16_answer_63 : decode cX16_answer 63 = .ok (.istore_n 3, 1) := by decide +kernel
theorem dX16_answer_64 : decode cX16_answer 64 = .ok (.iload_n 3, 1) := by decide +kernel
theorem dX16_answer_65 : decode cX16_answer 65 = .ok (.iload_n 2, 1) := by decide +kernel
theorem dX16_answer_66 : decode cX16_answer 66 = .ok (.if_icmp .ge 64, 3) := by decide +kernel
theorem dX16_answer_69 : decode cX16_answer 69 = .ok (.aload_n 0, 1) := by decide +kernel
theorem dX16_answer_70 : decode cX16_answer 70 = .ok (.iload_n 1, 1) := by decide +kernel
theorem dX16_answer_71 : decode cX16_answer 71 = .ok (.invokevirtual 1065, 3) := by decide +kernel
theorem dX16_answer_74 : decode cX16_answer 74 = .ok (.getfield 374, 3) := by decide +kernel
theorem dX16_answer_77 : decode cX16_answer 77 = .ok (.bipush 32, 2) := by decide +kernel
theorem dX16_answer_79 : decode cX16_answer 79 = .ok (.aload_n 0, 1) := by decide +kernel
theorem dX16_answer_80 : decode cX16_answer 80 = .ok (.getfield 71, 3) := by decide +kernel
theorem dX16_answer_83 : decode cX16_answer 83 = .ok (.iload_n 1, 1) := by decide +kernel
theorem dX16_answer_84 : decode cX16_answer 84 = .ok (.iaload, 1) := by decide +kernel
theorem dX16_answer_85 : decode cX16_answer 85 = .ok (.imul, 1) := by decide +kernel
theorem dX16_answer_86 : decode cX16_answer 86 = .ok (.bipush 16, 2) := by decide +kernel
theorem dX16_answer_88 : decode cX16_answer 88 = .ok (.iadd, 1) := by decide +kernel
theorem dX16_answer_89 : decode cX16_answer 89 = .ok (.iload_n 3, 1) := by decide +kernel
theorem dX16_answer_90 : decode cX16_answer 90 = .ok (.iadd, 1) := by decide +kernel
theorem dX16_answer_91 : decode cX16_answer 91 = .ok (.iaload, 1) := by decide +kernel
theorem dX16_answer_92 : decode cX16_answer 92 = .ok (.aload_n 0, 1) := by decide +kernel
theorem dX16_answer_93 : decode cX16_answer 93 = .ok (.getfield 167, 3) := by decide +kernel
theorem dX16_answer_96 : decode cX16_answer 96 = .ok (.iload_n 3, 1) := by decide +kernel
theorem dX16_answer_97 : decode cX16_answer 97 = .ok (.laload, 1) := by decide +kernel
theorem dX16_answer_98 : decode cX16_answer 98 = .ok (.invokestatic 1083, 3) := by decide +kernel
theorem dX16_answer_101 : decode cX16_answer 101 = .ok (.lstore 4, 2) := by decide +kernel
theorem dX16_answer_103 : decode cX16_answer 103 = .ok (.aload_n 0, 1) := by decide +kernel
theorem dX16_answer_104 : decode cX16_answer 104 = .ok (.getfield 170, 3) := by decide +kernel
theorem dX16_answer_107 : decode cX16_answer 107 = .ok (.iload_n 3, 1) := by decide +kernel
theorem dX16_answer_108 : decode cX16_answer 108 = .ok (.lload 4, 2) := by decide +kernel
theorem dX16_answer_110 : decode cX16_answer 110 = .ok (.lastore, 1) := by decide +kernel
theorem dX16_answer_111 : decode cX16_answer 111 = .ok (.aload_n 0, 1) := by decide +kernel
theorem dX16_answer_112 : decode cX16_answer 112 = .ok (.getfield 1052, 3) := by decide +kernel
theorem dX16_answer_115 : decode cX16_answer 115 = .ok (.ifCond .le 9, 3) := by decide +kernel
theorem dX16_answer_118 : decode cX16_answer 118 = .ok (.aload_n 0, 1) := by decide +kernel
theorem dX16_answer_119 : decode cX16_answer 119 = .ok (.lload 4, 2) := by decide +kernel
theorem dX16_answer_121 : decode cX16_answer 121 = .ok (.invokevirtual 1136, 3) := by decide +kernel
theorem dX16_answer_124 : decode cX16_answer 124 = .ok (.iinc 3 1, 3) := by decide +kernel
theorem dX16_answer_127 : decode cX16_answer 127 = .ok (.goto (-63), 3) := by decide +kernel
theorem dX16_answer_130 : decode cX16_answer 130 = .ok (.aload_n 0, 1) := by decide +kernel
theorem dX16_answer_131 : decode cX16_answer 131 = .ok (.iload_n 2, 1) := by decide +kernel
theorem dX16_answer_132 : decode cX16_answer 132 = .ok (.putfield 1098, 3) := by decide +kernel
theorem dX16_answer_135 : decode cX16_answer 135 = .ok (.aload_n 0, 1) := by decide +kernel
theorem dX16_answer_136 : decode cX16_answer 136 = .ok (.invokevirtual 1092, 3) := by decide +kernel
theorem dX16_answer_139 : decode cX16_answer 139 = .ok (.iconst 1, 1) := by decide +kernel
theorem dX16_answer_140 : decode cX16_answer 140 = .ok (.ireturn, 1) := by decide +kernel
noncomputable def tX16_answer_64 (x0 : Nat) (x1 : Int32) (x2 : Int32) (x3 : Int32) (h : pm_H) : Option (((Nat × Int32 × Int32 × Int32 × pm_H)) ⊕ (Int32 × pm_H)) := if x2 ≤ x3 then (if pm_kd h x0 = 16 then (fX16_goesOn (pm_setI h x0 83 x2) x0).bind fun v14 => some (.inr ((1, v14))) else none) else (if pm_kd h x0 = 16 then (fX16_planOf h x0 x1).bind fun v17 => if pm_kd h v17 = 14 then (pm_R h v17 7).bind fun v20 => (pm_R h x0 38).bind fun v22 => if pm_kd h v22 = 34 then if pm_in x1 (pm_ln h v22) then pm_let (((32 * (pm_I h v22 x1.toNatClampNeg)) + 16) + x3) fun y26 => if pm_kd h v20 = 34 then if pm_in y26 (pm_ln h v20) then (pm_R h x0 82).bind fun v30 => if pm_kd h v30 = 35 then if pm_in x3 (pm_ln h v30) then pm_let (fX16_held (pm_I h v20 y26.toNatClampNeg) (pm_L h v30 x3.toNatClampNeg)) fun v34 => (pm_R h x0 84).bind fun v36 => if pm_kd h v36 = 35 then if pm_in x3 (pm_ln h v36) then if (pm_I (pm_setL h v36 x3.toNatClampNeg v34) x0 85) ≤ 0 then (pm_let (x3 + 1) fun y41 => some (.inl ((x0, x1, x2, y41, pm_setL h v36 x3.toNatClampNeg v34)))) else ((fX16_push (pm_setL h v36 x3.toNatClampNeg v34) x0 v34).bind fun v43 => pm_let (x3 + 1) fun y45 => some (.inl ((x0, x1, x2, y45, v43)))) else none else none else none else none else none else none else none else none else none else none)
noncomputable def sX16_answer : ((Nat × Int32 × Int32 × Int32 × pm_H)) → Option (((Nat × Int32 × Int32 × Int32 × pm_H)) ⊕ (Int32 × pm_H)) := fun z => match z with
  | (x0, x1, x2, x3, h) => tX16_answer_64 x0 x1 x2 x3 h
noncomputable def fX16_answer (h : pm_H) (a0 : Nat) : Option (Int32 × pm_H) := if pm_kd h a0 = 16 then if (pm_I h a0 76) = 5 then (pm_let (pm_I h a0 80) fun y3 => (fX16_resultsIn h a0 y3).bind fun v5 => if (pm_I h a0 81) = v5 then ((fX16_areSuch h a0 y3 16).bind fun v8 => if v8 = 0 then (some ((0, h))) else (if (pm_I (pm_setI h a0 81 0) a0 85) = 0 then (pm_lim sX16_answer ((a0, y3, v5, 0, pm_setI (pm_setI h a0 81 0) a0 76 2))) else (pm_lim sX16_answer ((a0, y3, v5, 0, pm_setI (pm_setI h a0 81 0) a0 76 1))))) else (some ((0, h)))) else (some ((0, h))) else none
set_option maxHeartbeats 4000000 in
set_option maxRecDepth 100000 in
theorem lpX16_answer {g : pm_Gm} {l : Launch} {G : pm_Gl} {Qr : Option Value → pm_H → Prop} (C : pm_C g cX16_answer RX16) (X : pm_X g l G mX16_answer 0 0 Qr) {r : (Int32 × pm_H)} (q : Qr (some (.int r.1)) r.2) : ∀ n : Nat, (∀ (x0 : Nat) (x1 : Int32) (x2 : Int32) (x3 : Int32) (h : pm_H), pm_iter sX16_answer n (x0, x1, x2, x3, h) = some r → pm_G g 64 [(0, .ref x0), (1, .int x1), (2, .int x2), (3, .int x3)] [] h 0 0) := by
  intro n
  induction n with
  | zero => exact fun _ _ _ _ _ hf => (by cases hf)
  | succ n ih =>
    refine fun x0 x1 x2 x3 h hf => ?_
    obtain ⟨y, hf, hi⟩ := pm_iter_s hf
    have hf : tX16_answer_64 x0 x1 x2 x3 h = some y := hf
    unfold tX16_answer_64 at hf
    refine pm_iload_n C dX16_answer_64 rfl rfl ?_
    refine pm_iload_n C dX16_answer_65 rfl rfl ?_
    refine pm_icmp_ge (tgt := 130) C dX16_answer_66 (by decide) (fun c12 => ?_) (fun c12 => ?_)
    · have hf := pm_it hf c12
      refine pm_aload_n C dX16_answer_130 rfl rfl ?_
      refine pm_iload_n C dX16_answer_131 rfl rfl ?_
      obtain ⟨k13, hf⟩ := pm_if hf
      refine pm_putI C dX16_answer_132 flX16_1098 rfl rfl k13 rfl rfl ?_
      refine pm_aload_n C dX16_answer_135 rfl rfl ?_
      obtain ⟨v14, e15, hf⟩ := pm_bd hf
      refine pm_callV (as := []) (st := []) C X dX16_answer_136 lnX16_1092 myX16_goesOn viX16_goesOn ⟨by decide, by decide⟩ rfl rfl k13 (Nat.le_of_ble_eq_true rfl) (Nat.le_refl _) (Nat.le_refl _) (ctX16_goesOn e15 ?_)
      show pm_G g 139 [(0, .ref x0), (1, .int x1), (2, .int x2), (3, .int x3)] [] v14 0 0
      refine pm_iconst (v := 1) C dX16_answer_139 (by decide) ?_
      cases hf
      cases hi
      exact pm_zret C X dX16_answer_140 rfl (by decide) (Nat.le_refl _) (Nat.le_refl _) q
    · have hf := pm_ie hf c12
      refine pm_aload_n C dX16_answer_69 rfl rfl ?_
      refine pm_iload_n C dX16_answer_70 rfl rfl ?_
      obtain ⟨k16, hf⟩ := pm_if hf
      obtain ⟨v17, e18, hf⟩ := pm_bd hf
      refine pm_callV (as := [.int x1]) (st := []) C X dX16_answer_71 lnX16_1065 myX16_planOf viX16_planOf ⟨by decide, by decide⟩ rfl rfl k16 (Nat.le_of_ble_eq_true rfl) (Nat.le_refl _) (Nat.le_refl _) (ctX16_planOf e18 ?_)
      show pm_G g 74 [(0, .ref x0), (1, .int x1), (2, .int x2), (3, .int x3)] [.ref v17] h 0 0
      obtain ⟨k19, hf⟩ := pm_if hf
      obtain ⟨v20, e21, hf⟩ := pm_bd hf
      refine pm_getR C dX16_answer_74 flX16_374 rfl k19 e21 ?_
      refine pm_bipush (v := 32) C dX16_answer_77 (by decide) ?_
      refine pm_aload_n C dX16_answer_79 rfl rfl ?_
      obtain ⟨v22, e23, hf⟩ := pm_bd hf
      refine pm_getR C dX16_answer_80 flX16_71 rfl k16 e23 ?_
      refine pm_iload_n C dX16_answer_83 rfl rfl ?_
      obtain ⟨k24, hf⟩ := pm_if hf
      obtain ⟨u25, hf⟩ := pm_if hf
      refine pm_iald C dX16_answer_84 k24 u25 rfl ?_
      refine pm_imul C dX16_answer_85 ?_
      refine pm_bipush (v := 16) C dX16_answer_86 (by decide) ?_
      refine pm_iadd C dX16_answer_88 ?_
      refine pm_iload_n C dX16_answer_89 rfl rfl ?_
      refine pm_iadd C dX16_answer_90 ?_
      obtain ⟨y26, e27, hf⟩ := pm_lt hf
      refine pm_topI e27 ?_
      obtain ⟨k28, hf⟩ := pm_if hf
      obtain ⟨u29, hf⟩ := pm_if hf
      refine pm_iald C dX16_answer_91 k28 u29 rfl ?_
      refine pm_aload_n C dX16_answer_92 rfl rfl ?_
      obtain ⟨v30, e31, hf⟩ := pm_bd hf
      refine pm_getR C dX16_answer_93 flX16_167 rfl k16 e31 ?_
      refine pm_iload_n C dX16_answer_96 rfl rfl ?_
      obtain ⟨k32, hf⟩ := pm_if hf
      obtain ⟨u33, hf⟩ := pm_if hf
      refine pm_lald C dX16_answer_97 k32 u33 rfl ?_
      obtain ⟨v34, e35, hf⟩ := pm_lt hf
      refine pm_callS (as := [.int (pm_I h v20 y26.toNatClampNeg), .long (pm_L h v30 x3.toNatClampNeg)]) (st := []) C X dX16_answer_98 lnX16_1083 myX16_held stX16_held ⟨by decide, by decide⟩ rfl rfl (Nat.le_of_ble_eq_true rfl) (Nat.le_refl _) (Nat.le_refl _) (ctX16_held e35 ?_)
      show pm_G g 101 [(0, .ref x0), (1, .int x1), (2, .int x2), (3, .int x3)] [.long v34] h 0 0
      refine pm_lstore (lv' := [(4, .long v34), (0, .ref x0), (1, .int x1), (2, .int x2), (3, .int x3)]) C dX16_answer_101 (pm_nl X (by decide)) rfl ?_
      refine pm_aload_n C dX16_answer_103 rfl rfl ?_
      obtain ⟨v36, e37, hf⟩ := pm_bd hf
      refine pm_getR C dX16_answer_104 flX16_170 rfl k16 e37 ?_
      refine pm_iload_n C dX16_answer_107 rfl rfl ?_
      refine pm_lload C dX16_answer_108 rfl ?_
      obtain ⟨k38, hf⟩ := pm_if hf
      obtain ⟨u39, hf⟩ := pm_if hf
      refine pm_last C dX16_answer_110 k38 u39 ?_
      refine pm_aload_n C dX16_answer_111 rfl rfl ?_
      refine pm_getI C dX16_answer_112 flX16_1052 rfl k16 rfl ?_
      refine pm_if_le (tgt := 124) C dX16_answer_115 (by decide) (fun c40 => ?_) (fun c40 => ?_)
      · have hf := pm_it hf c40
        obtain ⟨y41, e42, hf⟩ := pm_lt hf
        refine pm_iinc (v := y41) (lv' := [(3, .int y41), (4, .long v34), (0, .ref x0), (1, .int x1), (2, .int x2)]) C dX16_answer_124 rfl ((congrArg (x3 + ·) (by decide : Int32.ofInt 1 = 1)).trans e42) (pm_nl X (by decide)) rfl ?_
        refine pm_goto (tgt := 64) C dX16_answer_127 (by decide) ?_
        cases hf
        exact pm_sub [2, 3, 4, 0] rfl (ih x0 x1 x2 y41 (pm_setL h v36 x3.toNatClampNeg v34) hi)
      · have hf := pm_ie hf c40
        refine pm_aload_n C dX16_answer_118 rfl rfl ?_
        refine pm_lload C dX16_answer_119 rfl ?_
        obtain ⟨v43, e44, hf⟩ := pm_bd hf
        refine pm_callV (as := [.long v34]) (st := []) C X dX16_answer_121 lnX16_1136 myX16_push viX16_push ⟨by decide, by decide⟩ rfl rfl k16 (Nat.le_of_ble_eq_true rfl) (Nat.le_refl _) (Nat.le_refl _) (ctX16_push e44 ?_)
        show pm_G g 124 [(4, .long v34), (0, .ref x0), (1, .int x1), (2, .int x2), (3, .int x3)] [] v43 0 0
        obtain ⟨y45, e46, hf⟩ := pm_lt hf
        refine pm_iinc (v := y45) (lv' := [(3, .int y45), (4, .long v34), (0, .ref x0), (1, .int x1), (2, .int x2)]) C dX16_answer_124 rfl ((congrArg (x3 + ·) (by decide : Int32.ofInt 1 = 1)).trans e46) (pm_nl X (by decide)) rfl ?_
        refine pm_goto (tgt := 64) C dX16_answer_127 (by decide) ?_
        cases hf
        exact pm_sub [2, 3, 4, 0] rfl (ih x0 x1 x2 y45 v43 hi)
set_option maxHeartbeats 4000000 in
set_option maxRecDepth 100000 in
theorem ctX16_answer {l : Launch} {G : pm_Gl} {h : pm_H} {a0 : Nat} {r : (Int32 × pm_H)} {Qr : Option Value → pm_H → Prop} (hf : fX16_answer h a0 = some r) (q : Qr (some (.int r.1)) r.2) : pm_Ct l G mX16_answer [.ref a0] h 0 0 Qr := by
  refine pm_body pnX16 (Nat.le_of_ble_eq_true rfl) (fun g C X => ?_)
  have C : pm_C g cX16_answer RX16 := C
  show pm_G g 0 [(0, .ref a0)] [] h 0 0
  unfold fX16_answer at hf
  refine pm_aload_n C dX16_answer_0 rfl rfl ?_
  obtain ⟨k1, hf⟩ := pm_if hf
  refine pm_getI C dX16_answer_1 flX16_970 rfl k1 rfl ?_
  refine pm_iconst (v := 5) C dX16_answer_4 (by decide) ?_
  refine pm_icmp_eq (tgt := 10) C dX16_answer_5 (by decide) (fun c2 => ?_) (fun c2 => ?_)
  · have hf := pm_it hf c2
    refine pm_aload_n C dX16_answer_10 rfl rfl ?_
    refine pm_getI C dX16_answer_11 flX16_1095 rfl k1 rfl ?_
    obtain ⟨y3, e4, hf⟩ := pm_lt hf
    refine pm_topI e4 ?_
    refine pm_istore_n (lv' := [(1, .int y3), (0, .ref a0)]) C dX16_answer_14 rfl (pm_nl X (by decide)) rfl ?_
    refine pm_aload_n C dX16_answer_15 rfl rfl ?_
    refine pm_iload_n C dX16_answer_16 rfl rfl ?_
    obtain ⟨v5, e6, hf⟩ := pm_bd hf
    refine pm_callV (as := [.int y3]) (st := []) C X dX16_answer_17 lnX16_1129 myX16_resultsIn viX16_resultsIn ⟨by decide, by decide⟩ rfl rfl k1 (Nat.le_of_ble_eq_true rfl) (Nat.le_refl _) (Nat.le_refl _) (ctX16_resultsIn e6 ?_)
    show pm_G g 20 [(1, .int y3), (0, .ref a0)] [.int v5] h 0 0
    refine pm_istore_n (lv' := [(2, .int v5), (1, .int y3), (0, .ref a0)]) C dX16_answer_20 rfl (pm_nl X (by decide)) rfl ?_
    refine pm_aload_n C dX16_answer_21 rfl rfl ?_
    refine pm_getI C dX16_answer_22 flX16_1069 rfl k1 rfl ?_
    refine pm_iload_n C dX16_answer_25 rfl rfl ?_
    refine pm_icmp_ne (tgt := 39) C dX16_answer_26 (by decide) (fun c7 => ?_) (fun c7 => ?_)
    · have hf := pm_ie hf c7
      refine pm_iconst (v := 0) C dX16_answer_39 (by decide) ?_
      cases hf
      exact pm_zret C X dX16_answer_40 rfl (by decide) (Nat.le_refl _) (Nat.le_refl _) q
    · have hf := pm_it hf c7
      refine pm_aload_n C dX16_answer_29 rfl rfl ?_
      refine pm_iload_n C dX16_answer_30 rfl rfl ?_
      refine pm_bipush (v := 16) C dX16_answer_31 (by decide) ?_
      obtain ⟨v8, e9, hf⟩ := pm_bd hf
      refine pm_callV (as := [.int y3, .int 16]) (st := []) C X dX16_answer_33 lnX16_1080 myX16_areSuch viX16_areSuch ⟨by decide, by decide⟩ rfl rfl k1 (Nat.le_of_ble_eq_true rfl) (Nat.le_refl _) (Nat.le_refl _) (ctX16_areSuch e9 ?_)
      show pm_G g 36 [(2, .int v5), (1, .int y3), (0, .ref a0)] [.int v8] h 0 0
      refine pm_if_ne (tgt := 41) C dX16_answer_36 (by decide) (fun c10 => ?_) (fun c10 => ?_)
      · have hf := pm_ie hf c10
        refine pm_aload_n C dX16_answer_41 rfl rfl ?_
        refine pm_iconst (v := 0) C dX16_answer_42 (by decide) ?_
        refine pm_putI C dX16_answer_43 flX16_1069 rfl rfl k1 rfl rfl ?_
        refine pm_aload_n C dX16_answer_46 rfl rfl ?_
        refine pm_aload_n C dX16_answer_47 rfl rfl ?_
        refine pm_getI C dX16_answer_48 flX16_1052 rfl k1 rfl ?_
        refine pm_if_ne (tgt := 58) C dX16_answer_51 (by decide) (fun c11 => ?_) (fun c11 => ?_)
        · have hf := pm_ie hf c11
          refine pm_iconst (v := 1) C dX16_answer_58 (by decide) ?_
          refine pm_putI C dX16_answer_59 flX16_970 rfl rfl k1 rfl rfl ?_
          refine pm_iconst (v := 0) C dX16_answer_62 (by decide) ?_
          refine pm_istore_n (lv' := [(3, .int 0), (2, .int v5), (1, .int y3), (0, .ref a0)]) C dX16_answer_63 rfl (pm_nl X (by decide)) rfl ?_
          obtain ⟨n, hn⟩ := pm_lim_iter hf
          exact pm_sub [3, 2, 1, 0] rfl ((lpX16_answer C X q n) a0 y3 v5 0 (pm_setI (pm_setI h a0 81 0) a0 76 1) hn)
        · have hf := pm_it hf c11
          refine pm_iconst (v := 2) C dX16_answer_54 (by decide) ?_
          refine pm_goto (tgt := 59) C dX16_answer_55 (by decide) ?_
          refine pm_putI C dX16_answer_59 flX16_970 rfl rfl k1 rfl rfl ?_
          refine pm_iconst (v := 0) C dX16_answer_62 (by decide) ?_
          refine pm_istore_n (lv' := [(3, .int 0), (2, .int v5), (1, .int y3), (0, .ref a0)]) C dX16_answer_63 rfl (pm_nl X (by decide)) rfl ?_
          obtain ⟨n, hn⟩ := pm_lim_iter hf
          exact pm_sub [3, 2, 1, 0] rfl ((lpX16_answer C X q n) a0 y3 v5 0 (pm_setI (pm_setI h a0 81 0) a0 76 2) hn)
      · have hf := pm_it hf c10
        refine pm_iconst (v := 0) C dX16_answer_39 (by decide) ?_
        cases hf
        exact pm_zret C X dX16_answer_40 rfl (by decide) (Nat.le_refl _) (Nat.le_refl _) q
  · have hf := pm_ie hf c2
    refine pm_iconst (v := 0) C dX16_answer_8 (by decide) ?_
    cases hf
    exact pm_zret C X dX16_answer_9 rfl (by decide) (Nat.le_refl _) (Nat.le_refl _) q
theorem dX16_calls_0 : decode cX16_calls 0 = .ok (.aload_n 0, 1) := by decide +kernel
theorem dX16_calls_1 : decode cX16_calls 1 = .ok (.iconst 1, 1) := by decide +kernel
theorem dX16_calls_2 : decode cX16_calls 2 = .ok (.putfield 970, 3) := by decide +kernel
theorem dX16_calls_5 : decode cX16_calls 5 = .ok (.aload_n 0, 1) := by decide +kernel
theorem dX16_calls_6 : decode cX16_calls 6 = .ok (.iconst 0, 1) := by decide +kernel
theorem dX16_calls_7 : decode cX16_calls 7 = .ok (.putfield 1049, 3) := by decide +kernel
theorem dX16_calls_10 : decode cX16_calls 10 = .ok (.aload_n 0, 1) := by decide +kernel
theorem dX16_calls_11 : decode cX16_calls 11 = .ok (.iconst 0, 1) := by decide +kernel
theorem dX16_calls_12 : decode cX16_calls 12 = .ok (.putfield 1052, 3) := by decide +kernel
theorem dX16_calls_15 : decode cX16_calls 15 = .ok (.aload_n 0, 1) := by decide +kernel
theorem dX16_calls_16 : decode cX16_calls 16 = .ok (.iconst 0, 1) := by decide +kernel
theorem dX16_calls_17 : decode cX16_calls 17 = .ok (.putfield 1086, 3) := by decide +kernel
theorem dX16_calls_20 : decode cX16_calls 20 = .ok (.aload_n 0, 1) := by decide +kernel
theorem dX16_calls_21 : decode cX16_calls 21 = .ok (.iload_n 1, 1) := by decide +kernel
theorem dX16_calls_22 : decode cX16_calls 22 = .ok (.invokevirtual 1089, 3) := by decide +kernel
theorem dX16_calls_25 : decode cX16_calls 25 = .ok (.aload_n 0, 1) := by decide +kernel
theorem dX16_calls_26 : decode cX16_calls 26 = .ok (.invokevirtual 1092, 3) := by decide +kernel
theorem dX16_calls_29 : decode cX16_calls 29 = .ok (.return_, 1) := by decide +kernel
noncomputable def fX16_calls (h : pm_H) (a0 : Nat) (p1 : Int32) : Option pm_H := if pm_kd h a0 = 16 then (fX16_enters (pm_setI (pm_setI (pm_setI (pm_setI h a0 76 1) a0 78 0) a0 85 0) a0 96 0) a0 p1).bind fun v2 => if pm_kd v2 a0 = 16 then (fX16_goesOn v2 a0).bind fun v5 => some v5 else none else none
set_option maxHeartbeats 4000000 in
set_option maxRecDepth 100000 in
theorem ctX16_calls {l : Launch} {G : pm_Gl} {h : pm_H} {a0 : Nat} {p1 : Int32} {r : pm_H} {Qr : Option Value → pm_H → Prop} (hf : fX16_calls h a0 p1 = some r) (q : Qr none r) : pm_Ct l G mX16_calls [.ref a0, .int p1] h 0 0 Qr := by
  refine pm_body pnX16 (Nat.le_of_ble_eq_true rfl) (fun g C X => ?_)
  have C : pm_C g cX16_calls RX16 := C
  show pm_G g 0 [(0, .ref a0), (1, .int p1)] [] h 0 0
  unfold fX16_calls at hf
  refine pm_aload_n C dX16_calls_0 rfl rfl ?_
  refine pm_iconst (v := 1) C dX16_calls_1 (by decide) ?_
  obtain ⟨k1, hf⟩ := pm_if hf
  refine pm_putI C dX16_calls_2 flX16_970 rfl rfl k1 rfl rfl ?_
  refine pm_aload_n C dX16_calls_5 rfl rfl ?_
  refine pm_iconst (v := 0) C dX16_calls_6 (by decide) ?_
  refine pm_putI C dX16_calls_7 flX16_1049 rfl rfl k1 rfl rfl ?_
  refine pm_aload_n C dX16_calls_10 rfl rfl ?_
  refine pm_iconst (v := 0) C dX16_calls_11 (by decide) ?_
  refine pm_putI C dX16_calls_12 flX16_1052 rfl rfl k1 rfl rfl ?_
  refine pm_aload_n C dX16_calls_15 rfl rfl ?_
  refine pm_iconst (v := 0) C dX16_calls_16 (by decide) ?_
  refine pm_putI C dX16_calls_17 flX16_1086 rfl rfl k1 rfl rfl ?_
  refine pm_aload_n C dX16_calls_20 rfl rfl ?_
  refine pm_iload_n C dX16_calls_21 rfl rfl ?_
  obtain ⟨v2, e3, hf⟩ := pm_bd hf
  refine pm_callV (as := [.int p1]) (st := []) C X dX16_calls_22 lnX16_1089 myX16_enters viX16_enters ⟨by decide, by decide⟩ rfl rfl k1 (Nat.le_of_ble_eq_true rfl) (Nat.le_refl _) (Nat.le_refl _) (ctX16_enters e3 ?_)
  show pm_G g 25 [(0, .ref a0), (1, .int p1)] [] v2 0 0
  refine pm_aload_n C dX16_calls_25 rfl rfl ?_
  obtain ⟨k4, hf⟩ := pm_if hf
  obtain ⟨v5, e6, hf⟩ := pm_bd hf
  refine pm_callV (as := []) (st := []) C X dX16_calls_26 lnX16_1092 myX16_goesOn viX16_goesOn ⟨by decide, by decide⟩ rfl rfl k4 (Nat.le_of_ble_eq_true rfl) (Nat.le_refl _) (Nat.le_refl _) (ctX16_goesOn e6 ?_)
  show pm_G g 29 [(0, .ref a0), (1, .int p1)] [] v5 0 0
  cases hf
  exact pm_vret C X dX16_calls_29 rfl (Nat.le_refl _) (Nat.le_refl _) q
theorem dX16_declares_0 : decode cX16_declares 0 = .ok (.iconst 0, 1) := by decide +kernel
theorem dX16_declares_1 : decode cX16_declares 1 = .ok (.istore_n 1, 1) := by decide +kernel
theorem dX16_declares_2 : decode cX16_declares 2 = .ok (.iload_n 1, 1) := by decide +kernel
theorem dX16_declares_3 : decode cX16_declares 3 = .ok (.sipush 128, 3) := by decide +kernel
theorem dX16_declares_6 : decode cX16_declares 6 = .ok (.if_icmp .ge 16, 3) := by decide +kernel
theorem dX16_declares_9 : decode cX16_declares 9 = .ok (.aload_n 0, 1) := by decide +kernel
theorem dX16_declares_10 : decode cX16_declares 10 = .ok (.getfield 35, 3) := by decide +kernel
theorem dX16_declares_13 : decode cX16_declares 13 = .ok (.iload_n 1, 1) := by decide +kernel
theorem dX16_declares_14 : decode cX16_declares 14 = .ok (.iconst 0, 1) := by decide +kernel
theorem dX16_declares_15 : decode cX16_declares 15 = .ok (.bastore, 1) := by decide +kernel
theorem dX16_declares_16 : decode cX16_declares 16 = .ok (.iinc 1 1, 3) := by decide +kernel
theorem dX16_declares_19 : decode cX16_declares 19 = .ok (.goto (-17), 3) := by decide +kernel
theorem dX16_declares_22 : decode cX16_declares 22 = .ok (.aload_n 0, 1) := by decide +kernel
theorem dX16_declares_23 : decode cX16_declares 23 = .ok (.iconst 0, 1) := by decide +kernel
theorem dX16_declares_24 : decode cX16_declares 24 = .ok (.putfield 648, 3) := by decide +kernel
theorem dX16_declares_27 : decode cX16_declares 27 = .ok (.iconst 0, 1) := by decide +kernel
theorem dX16_declares_28 : decode cX16_declares 28 = .ok (.istore_n 1, 1) := by decide +kernel
theorem dX16_declares_29 : decode cX16_declares 29 = .ok (.iload_n 1, 1) := by decide +kernel
theorem dX16_declares_30 : decode cX16_declares 30 = .ok (.aload_n 0, 1) := by decide +kernel
theorem dX16_declares_31 : decode cX16_declares 31 = .ok (.getfield 221, 3) := by decide +kernel
theorem dX16_declares_34 : decode cX16_declares 34 = .ok (.getfield 453, 3) := by decide +kernel
theorem dX16_declares_37 : decode cX16_declares 37 = .ok (.if_icmp .ge 22, 3) := by decide +kernel
theorem dX16_declares_40 : decode cX16_declares 40 = .ok (.aload_n 0, 1) := by decide +kernel
theorem dX16_declares_41 : decode cX16_declares 41 = .ok (.aload_n 0, 1) := by decide +kernel
theorem dX16_declares_42 : decode cX16_declares 42 = .ok (.getfield 221, 3) := by decide +kernel
theorem dX16_declares_45 : decode cX16_declares 45 = .ok (.getfield 463, 3) := by decide +kernel
theorem dX16_declares_48 : decode cX16_declares 48 = .ok (.iload_n 1, 1) := by decide +kernel
theorem dX16_declares_49 : decode cX16_declares 49 = .ok (.iaload, 1) := by decide +kernel
theorem dX16_declares_50 : decode cX16_declares 50 = .ok (.invokevirtual 658, 3) := by decide +kernel
theorem dX16_declares_53 : decode cX16_declares 53 = .ok (.iinc 1 1, 3) := by decide +kernel
theorem dX16_declares_56 : decode cX16_declares 56 = .ok (.goto (-27), 3) := by decide +kernel
theorem dX16_declares_59 : decode cX16_declares 59 = .ok (.iconst 0, 1) := by decide +kernel
theorem dX16_declares_60 : decode cX16_declares 60 = .ok (.istore_n 1, 1) := by decide +kernel
theorem dX16_declares_61 : decode cX16_declares 61 = .ok (.iload_n 1, 1) := by decide +kernel
theorem dX16_declares_62 : decode cX16_declares 62 = .ok (.aload_n 0, 1) := by decide +kernel
theorem dX16_declares_63 : decode cX16_declares 63 = .ok (.getfield 221, 3) := by decide +kernel
theorem dX16_declares_66 : decode cX16_declares 66 = .ok (.getfield 481, 3) := by decide +kernel
theorem dX16_declares_69 : decode cX16_declares 69 = .ok (.if_icmp .ge 99, 3) := by decide +kernel
theorem dX16_declares_72 : decode cX16_declares 72 = .ok (.aload_n 0, 1) := by decide +kernel
theorem dX16_declares_73 : decode cX16_declares 73 = .ok (.getfield 221, 3) := by decide +kernel
theorem dX16_declares_76 : decode cX16_declares 76 = .ok (.getfield 489, 3) := by decide +kernel
theorem dX16_declares_79 : decode cX16_declares 79 = .ok (.iload_n 1, 1) := by decide +kernel
theorem dX16_declares_80 : decode cX16_declares 80 = .ok (.iaload, 1) := by decide +kernel
theorem dX16_declares_81 : decode cX16_declares 81 = .ok (.ifCond .ne 16, 3) := by decide +kernel
theorem dX16_declares_84 : decode cX16_declares 84 = .ok (.aload_n 0, 1) := by decide +kernel
theorem dX16_declares_85 : decode cX16_declares 85 = .ok (.aload_n 0, 1) := by decide +kernel
theorem dX16_declares_86 : decode cX16_declares 86 = .ok (.getfield 221, 3) := by decide +kernel
theorem dX16_declares_89 : decode cX16_declares 89 = .ok (.getfield 495, 3) := by decide +kernel
theorem dX16_declares_92 : decode cX16_declares 92 = .ok (.iload_n 1, 1) := by decide +kernel
theorem dX16_declares_93 : decode cX16_declares 93 = .ok (.iaload, 1) := by decide +kernel
theorem dX16_declares_94 : decode cX16_declares 94 = .ok (.invokevirtual 658, 3) := by decide +kernel
theorem dX16_declares_97 : decode cX16_declares 97 = .ok (.aload_n 0, 1) := by decide +kernel
theorem dX16_declares_98 : decode cX16_declares 98 = .ok (.aload_n 0, 1) := by decide +kernel
theorem dX16_declares_99 : decode cX16_declares 99 = .ok (.getfield 221, 3) := by decide +kernel
theorem dX16_declares_102 : decode cX16_declares 102 = .ok (.getfield 504, 3) := by decide +kernel
theorem dX16_declares_105 : decode cX16_declares 105 = .ok (.iload_n 1, 1) := by decide +kernel
theorem dX16_declares_106 : decode cX16_declares 106 = .ok (.iaload, 1) := by decide +kernel
theorem dX16_declares_107 : decode cX16_declares 107 = .ok (.putfield 594, 3) := by decide +kernel
theorem dX16_declares_110 : decode cX16_declares 110 = .ok (.iconst 0, 1) := by decide +kernel
theorem dX16_declares_111 : decode cX16_declares 111 = .ok (.istore_n 2, 1) := by decide +kernel
theorem dX16_declares_112 : decode cX16_declares 112 = .ok (.iload_n 2, 1) := by decide +kernel
theorem dX16_declares_113 : decode cX16_declares 113 = .ok (.aload_n 0, 1) := by decide +kernel
theorem dX16_declares_114 : decode cX16_declares 114 = .ok (.getfield 221, 3) := by decide +kernel
theorem dX16_declares_117 : decode cX16_declares 117 = .ok (.getfield 507, 3) := by decide +kernel
theorem dX16_declares_120 : decode cX16_declares 120 = .ok (.iload_n 1, 1) := by decide +kernel
theorem dX16_declares_121 : decode cX16_declares 121 = .ok (.iaload, 1) := by decide +kernel
theorem dX16_declares_122 : decode cX16_declares 122 = .ok (.if_icmp .ge 40, 3) := by decide +kernel
theorem dX16_declares_125 : decode cX16_declares 125 = .ok (.aload_n 0, 1) := by decide +kernel
theorem dX16_declares_126 : decode cX16_declares 126 = .ok (.getfield 221, 3) := by decide +kernel
theorem dX16_declares_129 : decode cX16_declares 129 = .ok (.getfield 498, 3) := by decide +kernel
theorem dX16_declares_132 : decode cX16_declares 132 = .ok (.iload_n 1, 1) := by decide +kernel
theorem dX16_declares_133 : decode cX16_declares 133 = .ok (.baload, 1) := by decide +kernel
theorem dX16_declares_134 : decode cX16_declares 134 = .ok (.ifCond .eq 14, 3) := by decide +kernel
theorem dX16_declares_137 : decode cX16_declares 137 = .ok (.aload_n 0, 1) := by decide +kernel
theorem dX16_declares_138 : decode cX16_declares 138 = .ok (.aload_n 0, 1) := by decide +kernel
theorem dX16_declares_139 : decode cX16_declares 139 = .ok (.getfield 594, 3) := by decide +kernel
theorem dX16_declares_142 : decode cX16_declares 142 = .ok (.invokevirtual 658, 3) := by decide +kernel
theorem dX16_declares_145 : decode cX16_declares 145 = .ok (.goto 11, 3) := by decide +kernel
theorem dX16_declares_148 : decode cX16_declares 148 = .ok (.aload_n 0, 1) := by decide +kernel
theorem dX16_declares_149 : decode cX16_declares 149 = .ok (.aload_n 0, 1) := by decide +kernel
theorem dX16_declares_150 : decode cX16_declares 150 = .ok (.invokevirtual 603, 3) := by decide +kernel
theorem dX16_declares_153 : decode cX16_declares 153 = .ok (.invokevirtual 651, 3) := by decide +kernel
theorem dX16_declares_156 : decode cX16_declares 156 = .ok (.iinc 2 1, 3) := by decide +kernel
theorem dX16_declares_159 : decode cX16_declares 159 = .ok (.goto (-47), 3) := by decide +kernel
theorem dX16_declares_162 : decode cX16_declares 162 = .ok (.iinc 1 1, 3) := by decide +kernel
theorem dX16_declares_165 : decode cX16_declares 165 = .ok (.goto (-104), 3) := by decide +kernel
theorem dX16_declares_168 : decode cX16_declares 168 = .ok (.iconst 0, 1) := by decide +kernel
theorem dX16_declares_169 : decode cX16_declares 169 = .ok (.istore_n 1, 1) := by decide +kernel
theorem dX16_declares_170 : decode cX16_declares 170 = .ok (.iload_n 1, 1) := by decide +kernel
theorem dX16_declares_171 : decode cX16_declares 171 = .ok (.aload_n 0, 1) := by decide +kernel
theorem dX16_declares_172 : decode cX16_declares 172 = .ok (.getfield 221, 3) := by decide +kernel
theorem dX16_declares_175 : decode cX16_declares 175 = .ok (.getfield 466, 3) := by decide +kernel
theorem dX16_declares_178 : decode cX16_declares 178 = .ok (.if_icmp .ge 34, 3) := by decide +kernel
theorem dX16_declares_181 : decode cX16_declares 181 = .ok (.aload_n 0, 1) := by decide +kernel
theorem dX16_declares_182 : decode cX16_declares 182 = .ok (.getfield 221, 3) := by decide +kernel
theorem dX16_declares_185 : decode cX16_declares 185 = .ok (.getfield 475, 3) := by decide +kernel
theorem dX16_declares_188 : decode cX16_declares 188 = .ok (.iload_n 1, 1) := by decide +kernel
theorem dX16_declares_189 : decode cX16_declares 189 = .ok (.iaload, 1) := by decide +kernel
theorem dX16_declares_190 : decode cX16_declares 190 = .ok (.ifCond .ne 16, 3) := by decide +kernel
theorem dX16_declares_193 : decode cX16_declares 193 = .ok (.aload_n 0, 1) := by decide +kernel
theorem dX16_declares_194 : decode cX16_declares 194 = .ok (.aload_n 0, 1) := by decide +kernel
theorem dX16_declares_195 : decode cX16_declares 195 = .ok (.getfield 221, 3) := by decide +kernel
theorem dX16_declares_198 : decode cX16_declares 198 = .ok (.getfield 478, 3) := by decide +kernel
theorem dX16_declares_201 : decode cX16_declares 201 = .ok (.iload_n 1, 1) := by decide +kernel
theorem dX16_declares_202 : decode cX16_declares 202 = .ok (.laload, 1) := by decide +kernel
theorem dX16_declares_203 : decode cX16_declares 203 = .ok (.invokevirtual 651, 3) := by decide +kernel
theorem dX16_declares_206 : decode cX16_declares 206 = .ok (.iinc 1 1, 3) := by decide +kernel
theorem dX16_declares_209 : decode cX16_declares 209 = .ok (.goto (-39), 3) := by decide +kernel
theorem dX16_declares_212 : decode cX16_declares 212 = .ok (.return_, 1) := by decide +kernel
noncomputable def tX16_declares_2 (x0 : Nat) (x1 : Int32) (h : pm_H) : Option (((Nat × Int32 × pm_H) ⊕ (Nat × Int32 × pm_H) ⊕ (Nat × Int32 × pm_H) ⊕ (Nat × Int32 × pm_H) ⊕ (Nat × Int32 × Int32 × pm_H)) ⊕ pm_H) := if 128 ≤ x1 then (if pm_kd h x0 = 16 then some (.inl (.inr (.inl ((x0, 0, pm_setI h x0 21 0))))) else none) else (if pm_kd h x0 = 16 then (pm_R h x0 20).bind fun v4 => if pm_kd h v4 = 32 then if pm_in x1 (pm_ln h v4) then pm_let (x1 + 1) fun y8 => some (.inl (.inl ((x0, y8, pm_setI h v4 x1.toNatClampNeg (vp_nar .boolean 0))))) else none else none else none)
noncomputable def tX16_declares_29 (x0 : Nat) (x1 : Int32) (h : pm_H) : Option (((Nat × Int32 × pm_H) ⊕ (Nat × Int32 × pm_H) ⊕ (Nat × Int32 × pm_H) ⊕ (Nat × Int32 × pm_H) ⊕ (Nat × Int32 × Int32 × pm_H)) ⊕ pm_H) := if pm_kd h x0 = 16 then (pm_R h x0 10).bind fun v11 => if pm_kd h v11 = 14 then if (pm_I h v11 24) ≤ x1 then (some (.inl (.inr (.inr (.inl ((x0, 0, h))))))) else ((pm_R h v11 27).bind fun v15 => if pm_kd h v15 = 34 then if pm_in x1 (pm_ln h v15) then (fX16_declaresIn h x0 (pm_I h v15 x1.toNatClampNeg)).bind fun v19 => pm_let (x1 + 1) fun y21 => some (.inl (.inr (.inl ((x0, y21, v19))))) else none else none) else none else none
noncomputable def tX16_declares_61 (x0 : Nat) (x1 : Int32) (h : pm_H) : Option (((Nat × Int32 × pm_H) ⊕ (Nat × Int32 × pm_H) ⊕ (Nat × Int32 × pm_H) ⊕ (Nat × Int32 × pm_H) ⊕ (Nat × Int32 × Int32 × pm_H)) ⊕ pm_H) := if pm_kd h x0 = 16 then (pm_R h x0 10).bind fun v24 => if pm_kd h v24 = 14 then if (pm_I h v24 34) ≤ x1 then (some (.inl (.inr (.inr (.inr (.inl ((x0, 0, h)))))))) else ((pm_R h v24 35).bind fun v28 => if pm_kd h v28 = 34 then if pm_in x1 (pm_ln h v28) then if (pm_I h v28 x1.toNatClampNeg) = 0 then ((pm_R h v24 37).bind fun v39 => if pm_kd h v39 = 34 then if pm_in x1 (pm_ln h v39) then (fX16_declaresIn h x0 (pm_I h v39 x1.toNatClampNeg)).bind fun v43 => if pm_kd v43 x0 = 16 then (pm_R v43 x0 10).bind fun v46 => if pm_kd v43 v46 = 14 then (pm_R v43 v46 41).bind fun v49 => if pm_kd v43 v49 = 34 then if pm_in x1 (pm_ln v43 v49) then pm_let (pm_I v43 v49 x1.toNatClampNeg) fun y53 => some (.inl (.inr (.inr (.inr (.inr ((x0, x1, 0, pm_setI v43 x0 19 y53))))))) else none else none else none else none else none else none) else ((pm_R h v24 41).bind fun v33 => if pm_kd h v33 = 34 then if pm_in x1 (pm_ln h v33) then pm_let (pm_I h v33 x1.toNatClampNeg) fun y37 => some (.inl (.inr (.inr (.inr (.inr ((x0, x1, 0, pm_setI h x0 19 y37))))))) else none else none) else none else none) else none else none
noncomputable def tX16_declares_170 (x0 : Nat) (x1 : Int32) (h : pm_H) : Option (((Nat × Int32 × pm_H) ⊕ (Nat × Int32 × pm_H) ⊕ (Nat × Int32 × pm_H) ⊕ (Nat × Int32 × pm_H) ⊕ (Nat × Int32 × Int32 × pm_H)) ⊕ pm_H) := if pm_kd h x0 = 16 then (pm_R h x0 10).bind fun v56 => if pm_kd h v56 = 14 then if (pm_I h v56 28) ≤ x1 then (some (.inr (h))) else ((pm_R h v56 31).bind fun v60 => if pm_kd h v60 = 34 then if pm_in x1 (pm_ln h v60) then if (pm_I h v60 x1.toNatClampNeg) = 0 then ((pm_R h v56 32).bind fun v67 => if pm_kd h v67 = 35 then if pm_in x1 (pm_ln h v67) then (fX16_declare h x0 (pm_L h v67 x1.toNatClampNeg)).bind fun v71 => pm_let (x1 + 1) fun y73 => some (.inl (.inr (.inr (.inr (.inl ((x0, y73, v71))))))) else none else none) else (pm_let (x1 + 1) fun y65 => some (.inl (.inr (.inr (.inr (.inl ((x0, y65, h)))))))) else none else none) else none else none
noncomputable def tX16_declares_112 (x0 : Nat) (x1 : Int32) (x2 : Int32) (h : pm_H) : Option (((Nat × Int32 × pm_H) ⊕ (Nat × Int32 × pm_H) ⊕ (Nat × Int32 × pm_H) ⊕ (Nat × Int32 × pm_H) ⊕ (Nat × Int32 × Int32 × pm_H)) ⊕ pm_H) := if pm_kd h x0 = 16 then (pm_R h x0 10).bind fun v76 => if pm_kd h v76 = 14 then (pm_R h v76 40).bind fun v79 => if pm_kd h v79 = 34 then if pm_in x1 (pm_ln h v79) then if (pm_I h v79 x1.toNatClampNeg) ≤ x2 then (pm_let (x1 + 1) fun y84 => some (.inl (.inr (.inr (.inl ((x0, y84, h))))))) else ((pm_R h v76 39).bind fun v86 => if pm_kd h v86 = 32 then if pm_in x1 (pm_ln h v86) then if (pm_I h v86 x1.toNatClampNeg) = 0 then ((fX16_word h x0).bind fun v91 => if pm_kd v91.2 x0 = 16 then (fX16_declare v91.2 x0 v91.1).bind fun v94 => pm_let (x2 + 1) fun y96 => some (.inl (.inr (.inr (.inr (.inr ((x0, x1, y96, v94))))))) else none) else ((fX16_declaresIn h x0 (pm_I h x0 19)).bind fun v98 => pm_let (x2 + 1) fun y100 => some (.inl (.inr (.inr (.inr (.inr ((x0, x1, y100, v98)))))))) else none else none) else none else none else none else none
noncomputable def sX16_declares : ((Nat × Int32 × pm_H) ⊕ (Nat × Int32 × pm_H) ⊕ (Nat × Int32 × pm_H) ⊕ (Nat × Int32 × pm_H) ⊕ (Nat × Int32 × Int32 × pm_H)) → Option (((Nat × Int32 × pm_H) ⊕ (Nat × Int32 × pm_H) ⊕ (Nat × Int32 × pm_H) ⊕ (Nat × Int32 × pm_H) ⊕ (Nat × Int32 × Int32 × pm_H)) ⊕ pm_H) := fun z => match z with
  | .inl (x0, x1, h) => tX16_declares_2 x0 x1 h
  | .inr (.inl (x0, x1, h)) => tX16_declares_29 x0 x1 h
  | .inr (.inr (.inl (x0, x1, h))) => tX16_declares_61 x0 x1 h
  | .inr (.inr (.inr (.inl (x0, x1, h)))) => tX16_declares_170 x0 x1 h
  | .inr (.inr (.inr (.inr (x0, x1, x2, h)))) => tX16_declares_112 x0 x1 x2 h
noncomputable def fX16_declares (h : pm_H) (a0 : Nat) : Option pm_H := pm_lim sX16_declares (.inl ((a0, 0, h)))
set_option maxHeartbeats 4000000 in
set_option maxRecDepth 100000 in
theorem lpX16_declares {g : pm_Gm} {l : Launch} {G : pm_Gl} {Qr : Option Value → pm_H → Prop} (C : pm_C g cX16_declares RX16) (X : pm_X g l G mX16_declares 0 0 Qr) {r : pm_H} (q : Qr none r) : ∀ n : Nat, (∀ (x0 : Nat) (x1 : Int32) (h : pm_H), pm_iter sX16_declares n (.inl (x0, x1, h)) = some r → pm_G g 2 [(0, .ref x0), (1, .int x1)] [] h 0 0) ∧ (∀ (x0 : Nat) (x1 : Int32) (h : pm_H), pm_iter sX16_declares n (.inr (.inl (x0, x1, h))) = some r → pm_G g 29 [(0, .ref x0), (1, .int x1)] [] h 0 0) ∧ (∀ (x0 : Nat) (x1 : Int32) (h : pm_H), pm_iter sX16_declares n (.inr (.inr (.inl (x0, x1, h)))) = some r → pm_G g 61 [(0, .ref x0), (1, .int x1)] [] h 0 0) ∧ (∀ (x0 : Nat) (x1 : Int32) (h : pm_H), pm_iter sX16_declares n (.inr (.inr (.inr (.inl (x0, x1, h))))) = some r → pm_G g 170 [(0, .ref x0), (1, .int x1)] [] h 0 0) ∧ (∀ (x0 : Nat) (x1 : Int32) (x2 : Int32) (h : pm_H), pm_iter sX16_declares n (.inr (.inr (.inr (.inr (x0, x1, x2, h))))) = some r → pm_G g 112 [(0, .ref x0), (1, .int x1), (2, .int x2)] [] h 0 0) := by
  intro n
  induction n with
  | zero => exact ⟨fun _ _ _ hf => (by cases hf), fun _ _ _ hf => (by cases hf), fun _ _ _ hf => (by cases hf), fun _ _ _ hf => (by cases hf), fun _ _ _ _ hf => (by cases hf)⟩
  | succ n ih =>
    refine ⟨fun x0 x1 h hf => ?_, ?_⟩
    · obtain ⟨y, hf, hi⟩ := pm_iter_s hf
      have hf : tX16_declares_2 x0 x1 h = some y := hf
      unfold tX16_declares_2 at hf
      refine pm_iload_n C dX16_declares_2 rfl rfl ?_
      refine pm_sipush (v := 128) C dX16_declares_3 (by decide) ?_
      refine pm_icmp_ge (tgt := 22) C dX16_declares_6 (by decide) (fun c1 => ?_) (fun c1 => ?_)
      · have hf := pm_it hf c1
        refine pm_aload_n C dX16_declares_22 rfl rfl ?_
        refine pm_iconst (v := 0) C dX16_declares_23 (by decide) ?_
        obtain ⟨k2, hf⟩ := pm_if hf
        refine pm_putI C dX16_declares_24 flX16_648 rfl rfl k2 rfl rfl ?_
        refine pm_iconst (v := 0) C dX16_declares_27 (by decide) ?_
        refine pm_istore_n (lv' := [(1, .int 0), (0, .ref x0)]) C dX16_declares_28 rfl (pm_nl X (by decide)) rfl ?_
        cases hf
        exact pm_sub [1, 0] rfl (ih.2.1 x0 0 (pm_setI h x0 21 0) hi)
      · have hf := pm_ie hf c1
        refine pm_aload_n C dX16_declares_9 rfl rfl ?_
        obtain ⟨k3, hf⟩ := pm_if hf
        obtain ⟨v4, e5, hf⟩ := pm_bd hf
        refine pm_getR C dX16_declares_10 flX16_35 rfl k3 e5 ?_
        refine pm_iload_n C dX16_declares_13 rfl rfl ?_
        refine pm_iconst (v := 0) C dX16_declares_14 (by decide) ?_
        obtain ⟨k6, hf⟩ := pm_if hf
        obtain ⟨u7, hf⟩ := pm_if hf
        refine pm_zast C dX16_declares_15 k6 u7 ?_
        obtain ⟨y8, e9, hf⟩ := pm_lt hf
        refine pm_iinc (v := y8) (lv' := [(1, .int y8), (0, .ref x0)]) C dX16_declares_16 rfl ((congrArg (x1 + ·) (by decide : Int32.ofInt 1 = 1)).trans e9) (pm_nl X (by decide)) rfl ?_
        refine pm_goto (tgt := 2) C dX16_declares_19 (by decide) ?_
        cases hf
        exact pm_sub [1, 0] rfl (ih.1 x0 y8 (pm_setI h v4 x1.toNatClampNeg (vp_nar .boolean 0)) hi)
    refine ⟨fun x0 x1 h hf => ?_, ?_⟩
    · obtain ⟨y, hf, hi⟩ := pm_iter_s hf
      have hf : tX16_declares_29 x0 x1 h = some y := hf
      unfold tX16_declares_29 at hf
      refine pm_iload_n C dX16_declares_29 rfl rfl ?_
      refine pm_aload_n C dX16_declares_30 rfl rfl ?_
      obtain ⟨k10, hf⟩ := pm_if hf
      obtain ⟨v11, e12, hf⟩ := pm_bd hf
      refine pm_getR C dX16_declares_31 flX16_221 rfl k10 e12 ?_
      obtain ⟨k13, hf⟩ := pm_if hf
      refine pm_getI C dX16_declares_34 flX16_453 rfl k13 rfl ?_
      refine pm_icmp_ge (tgt := 59) C dX16_declares_37 (by decide) (fun c14 => ?_) (fun c14 => ?_)
      · have hf := pm_it hf c14
        refine pm_iconst (v := 0) C dX16_declares_59 (by decide) ?_
        refine pm_istore_n (lv' := [(1, .int 0), (0, .ref x0)]) C dX16_declares_60 rfl (pm_nl X (by decide)) rfl ?_
        cases hf
        exact pm_sub [1, 0] rfl (ih.2.2.1 x0 0 h hi)
      · have hf := pm_ie hf c14
        refine pm_aload_n C dX16_declares_40 rfl rfl ?_
        refine pm_aload_n C dX16_declares_41 rfl rfl ?_
        refine pm_getR C dX16_declares_42 flX16_221 rfl k10 e12 ?_
        obtain ⟨v15, e16, hf⟩ := pm_bd hf
        refine pm_getR C dX16_declares_45 flX16_463 rfl k13 e16 ?_
        refine pm_iload_n C dX16_declares_48 rfl rfl ?_
        obtain ⟨k17, hf⟩ := pm_if hf
        obtain ⟨u18, hf⟩ := pm_if hf
        refine pm_iald C dX16_declares_49 k17 u18 rfl ?_
        obtain ⟨v19, e20, hf⟩ := pm_bd hf
        refine pm_callV (as := [.int (pm_I h v15 x1.toNatClampNeg)]) (st := []) C X dX16_declares_50 lnX16_658 myX16_declaresIn viX16_declaresIn ⟨by decide, by decide⟩ rfl rfl k10 (Nat.le_of_ble_eq_true rfl) (Nat.le_refl _) (Nat.le_refl _) (ctX16_declaresIn e20 ?_)
        show pm_G g 53 [(0, .ref x0), (1, .int x1)] [] v19 0 0
        obtain ⟨y21, e22, hf⟩ := pm_lt hf
        refine pm_iinc (v := y21) (lv' := [(1, .int y21), (0, .ref x0)]) C dX16_declares_53 rfl ((congrArg (x1 + ·) (by decide : Int32.ofInt 1 = 1)).trans e22) (pm_nl X (by decide)) rfl ?_
        refine pm_goto (tgt := 29) C dX16_declares_56 (by decide) ?_
        cases hf
        exact pm_sub [1, 0] rfl (ih.2.1 x0 y21 v19 hi)
    refine ⟨fun x0 x1 h hf => ?_, ?_⟩
    · obtain ⟨y, hf, hi⟩ := pm_iter_s hf
      have hf : tX16_declares_61 x0 x1 h = some y := hf
      unfold tX16_declares_61 at hf
      refine pm_iload_n C dX16_declares_61 rfl rfl ?_
      refine pm_aload_n C dX16_declares_62 rfl rfl ?_
      obtain ⟨k23, hf⟩ := pm_if hf
      obtain ⟨v24, e25, hf⟩ := pm_bd hf
      refine pm_getR C dX16_declares_63 flX16_221 rfl k23 e25 ?_
      obtain ⟨k26, hf⟩ := pm_if hf
      refine pm_getI C dX16_declares_66 flX16_481 rfl k26 rfl ?_
      refine pm_icmp_ge (tgt := 168) C dX16_declares_69 (by decide) (fun c27 => ?_) (fun c27 => ?_)
      · have hf := pm_it hf c27
        refine pm_iconst (v := 0) C dX16_declares_168 (by decide) ?_
        refine pm_istore_n (lv' := [(1, .int 0), (0, .ref x0)]) C dX16_declares_169 rfl (pm_nl X (by decide)) rfl ?_
        cases hf
        exact pm_sub [1, 0] rfl (ih.2.2.2.1 x0 0 h hi)
      · have hf := pm_ie hf c27
        refine pm_aload_n C dX16_declares_72 rfl rfl ?_
        refine pm_getR C dX16_declares_73 flX16_221 rfl k23 e25 ?_
        obtain ⟨v28, e29, hf⟩ := pm_bd hf
        refine pm_getR C dX16_declares_76 flX16_489 rfl k26 e29 ?_
        refine pm_iload_n C dX16_declares_79 rfl rfl ?_
        obtain ⟨k30, hf⟩ := pm_if hf
        obtain ⟨u31, hf⟩ := pm_if hf
        refine pm_iald C dX16_declares_80 k30 u31 rfl ?_
        refine pm_if_ne (tgt := 97) C dX16_declares_81 (by decide) (fun c32 => ?_) (fun c32 => ?_)
        · have hf := pm_ie hf c32
          refine pm_aload_n C dX16_declares_97 rfl rfl ?_
          refine pm_aload_n C dX16_declares_98 rfl rfl ?_
          refine pm_getR C dX16_declares_99 flX16_221 rfl k23 e25 ?_
          obtain ⟨v33, e34, hf⟩ := pm_bd hf
          refine pm_getR C dX16_declares_102 flX16_504 rfl k26 e34 ?_
          refine pm_iload_n C dX16_declares_105 rfl rfl ?_
          obtain ⟨k35, hf⟩ := pm_if hf
          obtain ⟨u36, hf⟩ := pm_if hf
          refine pm_iald C dX16_declares_106 k35 u36 rfl ?_
          obtain ⟨y37, e38, hf⟩ := pm_lt hf
          refine pm_topI e38 ?_
          refine pm_putI C dX16_declares_107 flX16_594 rfl rfl k23 rfl rfl ?_
          refine pm_iconst (v := 0) C dX16_declares_110 (by decide) ?_
          refine pm_istore_n (lv' := [(2, .int 0), (0, .ref x0), (1, .int x1)]) C dX16_declares_111 rfl (pm_nl X (by decide)) rfl ?_
          cases hf
          exact pm_sub [1, 2, 0] rfl (ih.2.2.2.2 x0 x1 0 (pm_setI h x0 19 y37) hi)
        · have hf := pm_it hf c32
          refine pm_aload_n C dX16_declares_84 rfl rfl ?_
          refine pm_aload_n C dX16_declares_85 rfl rfl ?_
          refine pm_getR C dX16_declares_86 flX16_221 rfl k23 e25 ?_
          obtain ⟨v39, e40, hf⟩ := pm_bd hf
          refine pm_getR C dX16_declares_89 flX16_495 rfl k26 e40 ?_
          refine pm_iload_n C dX16_declares_92 rfl rfl ?_
          obtain ⟨k41, hf⟩ := pm_if hf
          obtain ⟨u42, hf⟩ := pm_if hf
          refine pm_iald C dX16_declares_93 k41 u42 rfl ?_
          obtain ⟨v43, e44, hf⟩ := pm_bd hf
          refine pm_callV (as := [.int (pm_I h v39 x1.toNatClampNeg)]) (st := []) C X dX16_declares_94 lnX16_658 myX16_declaresIn viX16_declaresIn ⟨by decide, by decide⟩ rfl rfl k23 (Nat.le_of_ble_eq_true rfl) (Nat.le_refl _) (Nat.le_refl _) (ctX16_declaresIn e44 ?_)
          show pm_G g 97 [(0, .ref x0), (1, .int x1)] [] v43 0 0
          refine pm_aload_n C dX16_declares_97 rfl rfl ?_
          refine pm_aload_n C dX16_declares_98 rfl rfl ?_
          obtain ⟨k45, hf⟩ := pm_if hf
          obtain ⟨v46, e47, hf⟩ := pm_bd hf
          refine pm_getR C dX16_declares_99 flX16_221 rfl k45 e47 ?_
          obtain ⟨k48, hf⟩ := pm_if hf
          obtain ⟨v49, e50, hf⟩ := pm_bd hf
          refine pm_getR C dX16_declares_102 flX16_504 rfl k48 e50 ?_
          refine pm_iload_n C dX16_declares_105 rfl rfl ?_
          obtain ⟨k51, hf⟩ := pm_if hf
          obtain ⟨u52, hf⟩ := pm_if hf
          refine pm_iald C dX16_declares_106 k51 u52 rfl ?_
          obtain ⟨y53, e54, hf⟩ := pm_lt hf
          refine pm_topI e54 ?_
          refine pm_putI C dX16_declares_107 flX16_594 rfl rfl k45 rfl rfl ?_
          refine pm_iconst (v := 0) C dX16_declares_110 (by decide) ?_
          refine pm_istore_n (lv' := [(2, .int 0), (0, .ref x0), (1, .int x1)]) C dX16_declares_111 rfl (pm_nl X (by decide)) rfl ?_
          cases hf
          exact pm_sub [1, 2, 0] rfl (ih.2.2.2.2 x0 x1 0 (pm_setI v43 x0 19 y53) hi)
    refine ⟨fun x0 x1 h hf => ?_, ?_⟩
    · obtain ⟨y, hf, hi⟩ := pm_iter_s hf
      have hf : tX16_declares_170 x0 x1 h = some y := hf
      unfold tX16_declares_170 at hf
      refine pm_iload_n C dX16_declares_170 rfl rfl ?_
      refine pm_aload_n C dX16_declares_171 rfl rfl ?_
      obtain ⟨k55, hf⟩ := pm_if hf
      obtain ⟨v56, e57, hf⟩ := pm_bd hf
      refine pm_getR C dX16_declares_172 flX16_221 rfl k55 e57 ?_
      obtain ⟨k58, hf⟩ := pm_if hf
      refine pm_getI C dX16_declares_175 flX16_466 rfl k58 rfl ?_
      refine pm_icmp_ge (tgt := 212) C dX16_declares_178 (by decide) (fun c59 => ?_) (fun c59 => ?_)
      · have hf := pm_it hf c59
        cases hf
        cases hi
        exact pm_vret C X dX16_declares_212 rfl (Nat.le_refl _) (Nat.le_refl _) q
      · have hf := pm_ie hf c59
        refine pm_aload_n C dX16_declares_181 rfl rfl ?_
        refine pm_getR C dX16_declares_182 flX16_221 rfl k55 e57 ?_
        obtain ⟨v60, e61, hf⟩ := pm_bd hf
        refine pm_getR C dX16_declares_185 flX16_475 rfl k58 e61 ?_
        refine pm_iload_n C dX16_declares_188 rfl rfl ?_
        obtain ⟨k62, hf⟩ := pm_if hf
        obtain ⟨u63, hf⟩ := pm_if hf
        refine pm_iald C dX16_declares_189 k62 u63 rfl ?_
        refine pm_if_ne (tgt := 206) C dX16_declares_190 (by decide) (fun c64 => ?_) (fun c64 => ?_)
        · have hf := pm_ie hf c64
          obtain ⟨y65, e66, hf⟩ := pm_lt hf
          refine pm_iinc (v := y65) (lv' := [(1, .int y65), (0, .ref x0)]) C dX16_declares_206 rfl ((congrArg (x1 + ·) (by decide : Int32.ofInt 1 = 1)).trans e66) (pm_nl X (by decide)) rfl ?_
          refine pm_goto (tgt := 170) C dX16_declares_209 (by decide) ?_
          cases hf
          exact pm_sub [1, 0] rfl (ih.2.2.2.1 x0 y65 h hi)
        · have hf := pm_it hf c64
          refine pm_aload_n C dX16_declares_193 rfl rfl ?_
          refine pm_aload_n C dX16_declares_194 rfl rfl ?_
          refine pm_getR C dX16_declares_195 flX16_221 rfl k55 e57 ?_
          obtain ⟨v67, e68, hf⟩ := pm_bd hf
          refine pm_getR C dX16_declares_198 flX16_478 rfl k58 e68 ?_
          refine pm_iload_n C dX16_declares_201 rfl rfl ?_
          obtain ⟨k69, hf⟩ := pm_if hf
          obtain ⟨u70, hf⟩ := pm_if hf
          refine pm_lald C dX16_declares_202 k69 u70 rfl ?_
          obtain ⟨v71, e72, hf⟩ := pm_bd hf
          refine pm_callV (as := [.long (pm_L h v67 x1.toNatClampNeg)]) (st := []) C X dX16_declares_203 lnX16_651 myX16_declare viX16_declare ⟨by decide, by decide⟩ rfl rfl k55 (Nat.le_of_ble_eq_true rfl) (Nat.le_refl _) (Nat.le_refl _) (ctX16_declare e72 ?_)
          show pm_G g 206 [(0, .ref x0), (1, .int x1)] [] v71 0 0
          obtain ⟨y73, e74, hf⟩ := pm_lt hf
          refine pm_iinc (v := y73) (lv' := [(1, .int y73), (0, .ref x0)]) C dX16_declares_206 rfl ((congrArg (x1 + ·) (by decide : Int32.ofInt 1 = 1)).trans e74) (pm_nl X (by decide)) rfl ?_
          refine pm_goto (tgt := 170) C dX16_declares_209 (by decide) ?_
          cases hf
          exact pm_sub [1, 0] rfl (ih.2.2.2.1 x0 y73 v71 hi)
    refine fun x0 x1 x2 h hf => ?_
    obtain ⟨y, hf, hi⟩ := pm_iter_s hf
    have hf : tX16_declares_112 x0 x1 x2 h = some y := hf
    unfold tX16_declares_112 at hf
    refine pm_iload_n C dX16_declares_112 rfl rfl ?_
    refine pm_aload_n C dX16_declares_113 rfl rfl ?_
    obtain ⟨k75, hf⟩ := pm_if hf
    obtain ⟨v76, e77, hf⟩ := pm_bd hf
    refine pm_getR C dX16_declares_114 flX16_221 rfl k75 e77 ?_
    obtain ⟨k78, hf⟩ := pm_if hf
    obtain ⟨v79, e80, hf⟩ := pm_bd hf
    refine pm_getR C dX16_declares_117 flX16_507 rfl k78 e80 ?_
    refine pm_iload_n C dX16_declares_120 rfl rfl ?_
    obtain ⟨k81, hf⟩ := pm_if hf
    obtain ⟨u82, hf⟩ := pm_if hf
    refine pm_iald C dX16_declares_121 k81 u82 rfl ?_
    refine pm_icmp_ge (tgt := 162) C dX16_declares_122 (by decide) (fun c83 => ?_) (fun c83 => ?_)
    · have hf := pm_it hf c83
      obtain ⟨y84, e85, hf⟩ := pm_lt hf
      refine pm_iinc (v := y84) (lv' := [(1, .int y84), (0, .ref x0), (2, .int x2)]) C dX16_declares_162 rfl ((congrArg (x1 + ·) (by decide : Int32.ofInt 1 = 1)).trans e85) (pm_nl X (by decide)) rfl ?_
      refine pm_goto (tgt := 61) C dX16_declares_165 (by decide) ?_
      cases hf
      exact pm_sub [1, 0] rfl (ih.2.2.1 x0 y84 h hi)
    · have hf := pm_ie hf c83
      refine pm_aload_n C dX16_declares_125 rfl rfl ?_
      refine pm_getR C dX16_declares_126 flX16_221 rfl k75 e77 ?_
      obtain ⟨v86, e87, hf⟩ := pm_bd hf
      refine pm_getR C dX16_declares_129 flX16_498 rfl k78 e87 ?_
      refine pm_iload_n C dX16_declares_132 rfl rfl ?_
      obtain ⟨k88, hf⟩ := pm_if hf
      obtain ⟨u89, hf⟩ := pm_if hf
      refine pm_zald C dX16_declares_133 k88 u89 rfl ?_
      refine pm_if_eq (tgt := 148) C dX16_declares_134 (by decide) (fun c90 => ?_) (fun c90 => ?_)
      · have hf := pm_it hf c90
        refine pm_aload_n C dX16_declares_148 rfl rfl ?_
        refine pm_aload_n C dX16_declares_149 rfl rfl ?_
        obtain ⟨v91, e92, hf⟩ := pm_bd hf
        refine pm_callV (as := []) (st := [.ref x0]) C X dX16_declares_150 lnX16_603 myX16_word viX16_word ⟨by decide, by decide⟩ rfl rfl k75 (Nat.le_of_ble_eq_true rfl) (Nat.le_refl _) (Nat.le_refl _) (ctX16_word e92 ?_)
        show pm_G g 153 [(0, .ref x0), (1, .int x1), (2, .int x2)] [.long v91.1, .ref x0] v91.2 0 0
        obtain ⟨k93, hf⟩ := pm_if hf
        obtain ⟨v94, e95, hf⟩ := pm_bd hf
        refine pm_callV (as := [.long v91.1]) (st := []) C X dX16_declares_153 lnX16_651 myX16_declare viX16_declare ⟨by decide, by decide⟩ rfl rfl k93 (Nat.le_of_ble_eq_true rfl) (Nat.le_refl _) (Nat.le_refl _) (ctX16_declare e95 ?_)
        show pm_G g 156 [(0, .ref x0), (1, .int x1), (2, .int x2)] [] v94 0 0
        obtain ⟨y96, e97, hf⟩ := pm_lt hf
        refine pm_iinc (v := y96) (lv' := [(2, .int y96), (0, .ref x0), (1, .int x1)]) C dX16_declares_156 rfl ((congrArg (x2 + ·) (by decide : Int32.ofInt 1 = 1)).trans e97) (pm_nl X (by decide)) rfl ?_
        refine pm_goto (tgt := 112) C dX16_declares_159 (by decide) ?_
        cases hf
        exact pm_sub [1, 2, 0] rfl (ih.2.2.2.2 x0 x1 y96 v94 hi)
      · have hf := pm_ie hf c90
        refine pm_aload_n C dX16_declares_137 rfl rfl ?_
        refine pm_aload_n C dX16_declares_138 rfl rfl ?_
        refine pm_getI C dX16_declares_139 flX16_594 rfl k75 rfl ?_
        obtain ⟨v98, e99, hf⟩ := pm_bd hf
        refine pm_callV (as := [.int (pm_I h x0 19)]) (st := []) C X dX16_declares_142 lnX16_658 myX16_declaresIn viX16_declaresIn ⟨by decide, by decide⟩ rfl rfl k75 (Nat.le_of_ble_eq_true rfl) (Nat.le_refl _) (Nat.le_refl _) (ctX16_declaresIn e99 ?_)
        show pm_G g 145 [(0, .ref x0), (1, .int x1), (2, .int x2)] [] v98 0 0
        refine pm_goto (tgt := 156) C dX16_declares_145 (by decide) ?_
        obtain ⟨y100, e101, hf⟩ := pm_lt hf
        refine pm_iinc (v := y100) (lv' := [(2, .int y100), (0, .ref x0), (1, .int x1)]) C dX16_declares_156 rfl ((congrArg (x2 + ·) (by decide : Int32.ofInt 1 = 1)).trans e101) (pm_nl X (by decide)) rfl ?_
        refine pm_goto (tgt := 112) C dX16_declares_159 (by decide) ?_
        cases hf
        exact pm_sub [1, 2, 0] rfl (ih.2.2.2.2 x0 x1 y100 v98 hi)
set_option maxHeartbeats 4000000 in
set_option maxRecDepth 100000 in
theorem ctX16_declares {l : Launch} {G : pm_Gl} {h : pm_H} {a0 : Nat} {r : pm_H} {Qr : Option Value → pm_H → Prop} (hf : fX16_declares h a0 = some r) (q : Qr none r) : pm_Ct l G mX16_declares [.ref a0] h 0 0 Qr := by
  refine pm_body pnX16 (Nat.le_of_ble_eq_true rfl) (fun g C X => ?_)
  have C : pm_C g cX16_declares RX16 := C
  show pm_G g 0 [(0, .ref a0)] [] h 0 0
  unfold fX16_declares at hf
  refine pm_iconst (v := 0) C dX16_declares_0 (by decide) ?_
  refine pm_istore_n (lv' := [(1, .int 0), (0, .ref a0)]) C dX16_declares_1 rfl (pm_nl X (by decide)) rfl ?_
  obtain ⟨n, hn⟩ := pm_lim_iter hf
  exact pm_sub [1, 0] rfl ((lpX16_declares C X q n).1 a0 0 h hn)
