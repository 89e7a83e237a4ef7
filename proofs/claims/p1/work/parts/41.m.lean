theorem dX16_moved_0 : decode cX16_moved 0 = .ok (.aload_n 0, 1) := by decide +kernel
theorem dX16_moved_1 : decode cX16_moved 1 = .ok (.getfield 61, 3) := by decide +kernel
theorem dX16_moved_4 : decode cX16_moved 4 = .ok (.iload_n 2, 1) := by decide +kernel
theorem dX16_moved_5 : decode cX16_moved 5 = .ok (.lload_n 3, 1) := by decide +kernel
theorem dX16_moved_6 : decode cX16_moved 6 = .ok (.invokevirtual 868, 3) := by decide +kernel
theorem dX16_moved_9 : decode cX16_moved 9 = .ok (.aload_n 0, 1) := by decide +kernel
theorem dX16_moved_10 : decode cX16_moved 10 = .ok (.getfield 61, 3) := by decide +kernel
theorem dX16_moved_13 : decode cX16_moved 13 = .ok (.getfield 871, 3) := by decide +kernel
theorem dX16_moved_16 : decode cX16_moved 16 = .ok (.iconst 3, 1) := by decide +kernel
theorem dX16_moved_17 : decode cX16_moved 17 = .ok (.if_icmp .ne 8, 3) := by decide +kernel
theorem dX16_moved_20 : decode cX16_moved 20 = .ok (.iload_n 1, 1) := by decide +kernel
theorem dX16_moved_21 : decode cX16_moved 21 = .ok (.invokestatic 910, 3) := by decide +kernel
theorem dX16_moved_24 : decode cX16_moved 24 = .ok (.lreturn, 1) := by decide +kernel
theorem dX16_moved_25 : decode cX16_moved 25 = .ok (.aload_n 0, 1) := by decide +kernel
theorem dX16_moved_26 : decode cX16_moved 26 = .ok (.getfield 61, 3) := by decide +kernel
theorem dX16_moved_29 : decode cX16_moved 29 = .ok (.getfield 871, 3) := by decide +kernel
theorem dX16_moved_32 : decode cX16_moved 32 = .ok (.ifCond .le 34, 3) := by decide +kernel
theorem dX16_moved_35 : decode cX16_moved 35 = .ok (.iload_n 1, 1) := by decide +kernel
theorem dX16_moved_36 : decode cX16_moved 36 = .ok (.aload_n 0, 1) := by decide +kernel
theorem dX16_moved_37 : decode cX16_moved 37 = .ok (.getfield 61, 3) := by decide +kernel
theorem dX16_moved_40 : decode cX16_moved 40 = .ok (.getfield 921, 3) := by decide +kernel
theorem dX16_moved_43 : decode cX16_moved 43 = .ok (.aload_n 0, 1) := by decide +kernel
theorem dX16_moved_44 : decode cX16_moved 44 = .ok (.getfield 61, 3) := by decide +kernel
theorem dX16_moved_47 : decode cX16_moved 47 = .ok (.getfield 871, 3) := by decide +kernel
theorem dX16_moved_50 : decode cX16_moved 50 = .ok (.iconst 2, 1) := by decide +kernel
theorem dX16_moved_51 : decode cX16_moved 51 = .ok (.if_icmp .ne 10, 3) := by decide +kernel
theorem dX16_moved_54 : decode cX16_moved 54 = .ok (.iload_n 1, 1) := by decide +kernel
theorem dX16_moved_55 : decode cX16_moved 55 = .ok (.invokestatic 888, 3) := by decide +kernel
theorem dX16_moved_58 : decode cX16_moved 58 = .ok (.goto 4, 3) := by decide +kernel
theorem dX16_moved_61 : decode cX16_moved 61 = .ok (.lconst 0, 1) := by decide +kernel
theorem dX16_moved_62 : decode cX16_moved 62 = .ok (.invokestatic 882, 3) := by decide +kernel
theorem dX16_moved_65 : decode cX16_moved 65 = .ok (.lreturn, 1) := by decide +kernel
theorem dX16_moved_66 : decode cX16_moved 66 = .ok (.iload_n 1, 1) := by decide +kernel
theorem dX16_moved_67 : decode cX16_moved 67 = .ok (.aload_n 0, 1) := by decide +kernel
theorem dX16_moved_68 : decode cX16_moved 68 = .ok (.getfield 61, 3) := by decide +kernel
theorem dX16_moved_71 : decode cX16_moved 71 = .ok (.getfield 921, 3) := by decide +kernel
theorem dX16_moved_74 : decode cX16_moved 74 = .ok (.lconst 0, 1) := by decide +kernel
theorem dX16_moved_75 : decode cX16_moved 75 = .ok (.aload_n 0, 1) := by decide +kernel
theorem dX16_moved_76 : decode cX16_moved 76 = .ok (.getfield 61, 3) := by decide +kernel
theorem dX16_moved_79 : decode cX16_moved 79 = .ok (.getfield 916, 3) := by decide +kernel
theorem dX16_moved_82 : decode cX16_moved 82 = .ok (.aload_n 0, 1) := by decide +kernel
theorem dX16_moved_83 : decode cX16_moved 83 = .ok (.getfield 61, 3) := by decide +kernel
theorem dX16_moved_86 : decode cX16_moved 86 = .ok (.getfield 913, 3) := by decide +kernel
theorem dX16_moved_89 : decode cX16_moved 89 = .ok (.iconst 0, 1) := by decide +kernel
theorem dX16_moved_90 : decode cX16_moved 90 = .ok (.invokestatic 924, 3) := by decide +kernel
theorem dX16_moved_93 : decode cX16_moved 93 = .ok (.lreturn, 1) := by decide +kernel
noncomputable def fX16_moved (h : pm_H) (a0 : Nat) (p1 : Int32) (p2 : Int32) (p3 : Int64) : Option (Int64 × pm_H) := if pm_kd h a0 = 16 then (pm_R h a0 34).bind fun v2 => if pm_kd h v2 = 15 then (fX15_read h v2 p2 p3).bind fun v5 => if pm_kd v5 a0 = 16 then (pm_R v5 a0 34).bind fun v8 => if pm_kd v5 v8 = 15 then if (pm_I v5 v8 1) = 3 then (pm_let (fX16_noneOf p1) fun v22 => some ((v22, v5))) else (if (pm_I v5 v8 1) ≤ 0 then ((fX16_rounded p1 (pm_I v5 v8 0) 0 (pm_L v5 v8 2) (pm_I v5 v8 3) 0).bind fun v13 => some ((v13, v5))) else (if (pm_I v5 v8 1) = 2 then (pm_let (fX16_infinite p1) fun v18 => pm_let (fX16_withSign p1 (pm_I v5 v8 0) v18) fun v20 => some ((v20, v5))) else (pm_let (fX16_withSign p1 (pm_I v5 v8 0) 0) fun v16 => some ((v16, v5))))) else none else none else none else none
set_option maxHeartbeats 4000000 in
set_option maxRecDepth 100000 in
theorem ctX16_moved {l : Launch} {G : pm_Gl} {h : pm_H} {a0 : Nat} {p1 : Int32} {p2 : Int32} {p3 : Int64} {r : (Int64 × pm_H)} {Qr : Option Value → pm_H → Prop} (hf : fX16_moved h a0 p1 p2 p3 = some r) (q : Qr (some (.long r.1)) r.2) : pm_Ct l G mX16_moved [.ref a0, .int p1, .int p2, .long p3] h 0 0 Qr := by
  refine pm_body pnX16 (Nat.le_of_ble_eq_true rfl) (fun g C X => ?_)
  have C : pm_C g cX16_moved RX16 := C
  show pm_G g 0 [(0, .ref a0), (1, .int p1), (2, .int p2), (3, .long p3)] [] h 0 0
  unfold fX16_moved at hf
  refine pm_aload_n C dX16_moved_0 rfl rfl ?_
  obtain ⟨k1, hf⟩ := pm_if hf
  obtain ⟨v2, e3, hf⟩ := pm_bd hf
  refine pm_getR C dX16_moved_1 flX16_61 rfl k1 e3 ?_
  refine pm_iload_n C dX16_moved_4 rfl rfl ?_
  refine pm_lload_n C dX16_moved_5 rfl rfl ?_
  obtain ⟨k4, hf⟩ := pm_if hf
  obtain ⟨v5, e6, hf⟩ := pm_bd hf
  refine pm_callV (as := [.int p2, .long p3]) (st := []) C X dX16_moved_6 lnX16_868 myX15_read viX15_read ⟨by decide, by decide⟩ rfl rfl k4 (Nat.le_of_ble_eq_true rfl) (Nat.le_refl _) (Nat.le_refl _) (ctX15_read e6 ?_)
  show pm_G g 9 [(0, .ref a0), (1, .int p1), (2, .int p2), (3, .long p3)] [] v5 0 0
  refine pm_aload_n C dX16_moved_9 rfl rfl ?_
  obtain ⟨k7, hf⟩ := pm_if hf
  obtain ⟨v8, e9, hf⟩ := pm_bd hf
  refine pm_getR C dX16_moved_10 flX16_61 rfl k7 e9 ?_
  obtain ⟨k10, hf⟩ := pm_if hf
  refine pm_getI C dX16_moved_13 flX16_871 rfl k10 rfl ?_
  refine pm_iconst (v := 3) C dX16_moved_16 (by decide) ?_
  refine pm_icmp_ne (tgt := 25) C dX16_moved_17 (by decide) (fun c11 => ?_) (fun c11 => ?_)
  · have hf := pm_ie hf c11
    refine pm_aload_n C dX16_moved_25 rfl rfl ?_
    refine pm_getR C dX16_moved_26 flX16_61 rfl k7 e9 ?_
    refine pm_getI C dX16_moved_29 flX16_871 rfl k10 rfl ?_
    refine pm_if_le (tgt := 66) C dX16_moved_32 (by decide) (fun c12 => ?_) (fun c12 => ?_)
    · have hf := pm_it hf c12
      refine pm_iload_n C dX16_moved_66 rfl rfl ?_
      refine pm_aload_n C dX16_moved_67 rfl rfl ?_
      refine pm_getR C dX16_moved_68 flX16_61 rfl k7 e9 ?_
      refine pm_getI C dX16_moved_71 flX16_921 rfl k10 rfl ?_
      refine pm_lconst (v := 0) C dX16_moved_74 (by decide) ?_
      refine pm_aload_n C dX16_moved_75 rfl rfl ?_
      refine pm_getR C dX16_moved_76 flX16_61 rfl k7 e9 ?_
      refine pm_getL C dX16_moved_79 flX16_916 rfl k10 rfl ?_
      refine pm_aload_n C dX16_moved_82 rfl rfl ?_
      refine pm_getR C dX16_moved_83 flX16_61 rfl k7 e9 ?_
      refine pm_getI C dX16_moved_86 flX16_913 rfl k10 rfl ?_
      refine pm_iconst (v := 0) C dX16_moved_89 (by decide) ?_
      obtain ⟨v13, e14, hf⟩ := pm_bd hf
      refine pm_callS (as := [.int p1, .int (pm_I v5 v8 0), .long 0, .long (pm_L v5 v8 2), .int (pm_I v5 v8 3), .int 0]) (st := []) C X dX16_moved_90 lnX16_924 myX16_rounded stX16_rounded ⟨by decide, by decide⟩ rfl rfl (Nat.le_of_ble_eq_true rfl) (Nat.le_refl _) (Nat.le_refl _) (ctX16_rounded e14 ?_)
      show pm_G g 93 [(0, .ref a0), (1, .int p1), (2, .int p2), (3, .long p3)] [.long v13] v5 0 0
      cases hf
      exact pm_lret C X dX16_moved_93 rfl (Nat.le_refl _) (Nat.le_refl _) q
    · have hf := pm_ie hf c12
      refine pm_iload_n C dX16_moved_35 rfl rfl ?_
      refine pm_aload_n C dX16_moved_36 rfl rfl ?_
      refine pm_getR C dX16_moved_37 flX16_61 rfl k7 e9 ?_
      refine pm_getI C dX16_moved_40 flX16_921 rfl k10 rfl ?_
      refine pm_aload_n C dX16_moved_43 rfl rfl ?_
      refine pm_getR C dX16_moved_44 flX16_61 rfl k7 e9 ?_
      refine pm_getI C dX16_moved_47 flX16_871 rfl k10 rfl ?_
      refine pm_iconst (v := 2) C dX16_moved_50 (by decide) ?_
      refine pm_icmp_ne (tgt := 61) C dX16_moved_51 (by decide) (fun c15 => ?_) (fun c15 => ?_)
      · have hf := pm_ie hf c15
        refine pm_lconst (v := 0) C dX16_moved_61 (by decide) ?_
        obtain ⟨v16, e17, hf⟩ := pm_lt hf
        refine pm_callS (as := [.int p1, .int (pm_I v5 v8 0), .long 0]) (st := []) C X dX16_moved_62 lnX16_882 myX16_withSign stX16_withSign ⟨by decide, by decide⟩ rfl rfl (Nat.le_of_ble_eq_true rfl) (Nat.le_refl _) (Nat.le_refl _) (ctX16_withSign e17 ?_)
        show pm_G g 65 [(0, .ref a0), (1, .int p1), (2, .int p2), (3, .long p3)] [.long v16] v5 0 0
        cases hf
        exact pm_lret C X dX16_moved_65 rfl (Nat.le_refl _) (Nat.le_refl _) q
      · have hf := pm_it hf c15
        refine pm_iload_n C dX16_moved_54 rfl rfl ?_
        obtain ⟨v18, e19, hf⟩ := pm_lt hf
        refine pm_callS (as := [.int p1]) (st := [.int (pm_I v5 v8 0), .int p1]) C X dX16_moved_55 lnX16_888 myX16_infinite stX16_infinite ⟨by decide, by decide⟩ rfl rfl (Nat.le_of_ble_eq_true rfl) (Nat.le_refl _) (Nat.le_refl _) (ctX16_infinite e19 ?_)
        show pm_G g 58 [(0, .ref a0), (1, .int p1), (2, .int p2), (3, .long p3)] [.long v18, .int (pm_I v5 v8 0), .int p1] v5 0 0
        refine pm_goto (tgt := 62) C dX16_moved_58 (by decide) ?_
        obtain ⟨v20, e21, hf⟩ := pm_lt hf
        refine pm_callS (as := [.int p1, .int (pm_I v5 v8 0), .long v18]) (st := []) C X dX16_moved_62 lnX16_882 myX16_withSign stX16_withSign ⟨by decide, by decide⟩ rfl rfl (Nat.le_of_ble_eq_true rfl) (Nat.le_refl _) (Nat.le_refl _) (ctX16_withSign e21 ?_)
        show pm_G g 65 [(0, .ref a0), (1, .int p1), (2, .int p2), (3, .long p3)] [.long v20] v5 0 0
        cases hf
        exact pm_lret C X dX16_moved_65 rfl (Nat.le_refl _) (Nat.le_refl _) q
  · have hf := pm_it hf c11
    refine pm_iload_n C dX16_moved_20 rfl rfl ?_
    obtain ⟨v22, e23, hf⟩ := pm_lt hf
    refine pm_callS (as := [.int p1]) (st := []) C X dX16_moved_21 lnX16_910 myX16_noneOf stX16_noneOf ⟨by decide, by decide⟩ rfl rfl (Nat.le_of_ble_eq_true rfl) (Nat.le_refl _) (Nat.le_refl _) (ctX16_noneOf e23 ?_)
    show pm_G g 24 [(0, .ref a0), (1, .int p1), (2, .int p2), (3, .long p3)] [.long v22] v5 0 0
    cases hf
    exact pm_lret C X dX16_moved_24 rfl (Nat.le_refl _) (Nat.le_refl _) q
theorem dX16_ofWhole_0 : decode cX16_ofWhole 0 = .ok (.lload_n 1, 1) := by decide +kernel
theorem dX16_ofWhole_1 : decode cX16_ofWhole 1 = .ok (.lconst 0, 1) := by decide +kernel
theorem dX16_ofWhole_2 : decode cX16_ofWhole 2 = .ok (.lcmp, 1) := by decide +kernel
theorem dX16_ofWhole_3 : decode cX16_ofWhole 3 = .ok (.ifCond .ne 7, 3) := by decide +kernel
theorem dX16_ofWhole_6 : decode cX16_ofWhole 6 = .ok (.lconst 0, 1) := by decide +kernel
theorem dX16_ofWhole_7 : decode cX16_ofWhole 7 = .ok (.goto 12, 3) := by decide +kernel
theorem dX16_ofWhole_10 : decode cX16_ofWhole 10 = .ok (.iload_n 0, 1) := by decide +kernel
theorem dX16_ofWhole_11 : decode cX16_ofWhole 11 = .ok (.iload_n 3, 1) := by decide +kernel
theorem dX16_ofWhole_12 : decode cX16_ofWhole 12 = .ok (.lconst 0, 1) := by decide +kernel
theorem dX16_ofWhole_13 : decode cX16_ofWhole 13 = .ok (.lload_n 1, 1) := by decide +kernel
theorem dX16_ofWhole_14 : decode cX16_ofWhole 14 = .ok (.iconst 0, 1) := by decide +kernel
theorem dX16_ofWhole_15 : decode cX16_ofWhole 15 = .ok (.iconst 0, 1) := by decide +kernel
theorem dX16_ofWhole_16 : decode cX16_ofWhole 16 = .ok (.invokestatic 924, 3) := by decide +kernel
theorem dX16_ofWhole_19 : decode cX16_ofWhole 19 = .ok (.lreturn, 1) := by decide +kernel
noncomputable def fX16_ofWhole (p1 : Int32) (p2 : Int64) (p3 : Int32) : Option Int64 := if p2 = 0 then (some 0) else ((fX16_rounded p1 p3 0 p2 0 0).bind fun v2 => some v2)
set_option maxHeartbeats 4000000 in
set_option maxRecDepth 100000 in
theorem ctX16_ofWhole {l : Launch} {G : pm_Gl} {h : pm_H} {p1 : Int32} {p2 : Int64} {p3 : Int32} {r : Int64} {Qr : Option Value → pm_H → Prop} (hf : fX16_ofWhole p1 p2 p3 = some r) (q : Qr (some (.long r)) h) : pm_Ct l G mX16_ofWhole [.int p1, .long p2, .int p3] h 0 0 Qr := by
  refine pm_body pnX16 (Nat.le_of_ble_eq_true rfl) (fun g C X => ?_)
  have C : pm_C g cX16_ofWhole RX16 := C
  show pm_G g 0 [(0, .int p1), (1, .long p2), (3, .int p3)] [] h 0 0
  unfold fX16_ofWhole at hf
  refine pm_lload_n C dX16_ofWhole_0 rfl rfl ?_
  refine pm_lconst (v := 0) C dX16_ofWhole_1 (by decide) ?_
  refine pm_lcmp C dX16_ofWhole_2 ?_
  refine pm_if_ne (tgt := 10) C dX16_ofWhole_3 (by decide) (fun c1 => ?_) (fun c1 => ?_)
  · have hf := pm_ie hf ((fun z => c1 ((pm_lg_eq _ _).mpr z)))
    refine pm_iload_n C dX16_ofWhole_10 rfl rfl ?_
    refine pm_iload_n C dX16_ofWhole_11 rfl rfl ?_
    refine pm_lconst (v := 0) C dX16_ofWhole_12 (by decide) ?_
    refine pm_lload_n C dX16_ofWhole_13 rfl rfl ?_
    refine pm_iconst (v := 0) C dX16_ofWhole_14 (by decide) ?_
    refine pm_iconst (v := 0) C dX16_ofWhole_15 (by decide) ?_
    obtain ⟨v2, e3, hf⟩ := pm_bd hf
    refine pm_callS (as := [.int p1, .int p3, .long 0, .long p2, .int 0, .int 0]) (st := []) C X dX16_ofWhole_16 lnX16_924 myX16_rounded stX16_rounded ⟨by decide, by decide⟩ rfl rfl (Nat.le_of_ble_eq_true rfl) (Nat.le_refl _) (Nat.le_refl _) (ctX16_rounded e3 ?_)
    show pm_G g 19 [(0, .int p1), (1, .long p2), (3, .int p3)] [.long v2] h 0 0
    cases hf
    exact pm_lret C X dX16_ofWhole_19 rfl (Nat.le_refl _) (Nat.le_refl _) q
  · have hf := pm_it hf ((pm_lg_eq _ _).mp c1)
    refine pm_lconst (v := 0) C dX16_ofWhole_6 (by decide) ?_
    refine pm_goto (tgt := 19) C dX16_ofWhole_7 (by decide) ?_
    cases hf
    exact pm_lret C X dX16_ofWhole_19 rfl (Nat.le_refl _) (Nat.le_refl _) q
theorem dX16_poke_0 : decode cX16_poke 0 = .ok (.aload_n 0, 1) := by decide +kernel
theorem dX16_poke_1 : decode cX16_poke 1 = .ok (.invokevirtual 986, 3) := by decide +kernel
theorem dX16_poke_4 : decode cX16_poke 4 = .ok (.ifCond .eq 7, 3) := by decide +kernel
theorem dX16_poke_7 : decode cX16_poke 7 = .ok (.iconst (-1), 1) := by decide +kernel
theorem dX16_poke_8 : decode cX16_poke 8 = .ok (.goto 10, 3) := by decide +kernel
theorem dX16_poke_11 : decode cX16_poke 11 = .ok (.aload_n 0, 1) := by decide +kernel
theorem dX16_poke_12 : decode cX16_poke 12 = .ok (.iconst 2, 1) := by decide +kernel
theorem dX16_poke_13 : decode cX16_poke 13 = .ok (.iload_n 1, 1) := by decide +kernel
theorem dX16_poke_14 : decode cX16_poke 14 = .ok (.iload_n 2, 1) := by decide +kernel
theorem dX16_poke_15 : decode cX16_poke 15 = .ok (.invokevirtual 1074, 3) := by decide +kernel
theorem dX16_poke_18 : decode cX16_poke 18 = .ok (.istore 5, 2) := by decide +kernel
theorem dX16_poke_20 : decode cX16_poke 20 = .ok (.iload_n 3, 1) := by decide +kernel
theorem dX16_poke_21 : decode cX16_poke 21 = .ok (.i2l, 1) := by decide +kernel
theorem dX16_poke_22 : decode cX16_poke 22 = .ok (.ldc2_w 513, 3) := by decide +kernel
theorem dX16_poke_25 : decode cX16_poke 25 = .ok (.land, 1) := by decide +kernel
theorem dX16_poke_26 : decode cX16_poke 26 = .ok (.lstore 6, 2) := by decide +kernel
theorem dX16_poke_28 : decode cX16_poke 28 = .ok (.iload 5, 2) := by decide +kernel
theorem dX16_poke_30 : decode cX16_poke 30 = .ok (.ifCond .lt 21, 3) := by decide +kernel
theorem dX16_poke_33 : decode cX16_poke 33 = .ok (.lload 6, 2) := by decide +kernel
theorem dX16_poke_35 : decode cX16_poke 35 = .ok (.ldc2_w 636, 3) := by decide +kernel
theorem dX16_poke_38 : decode cX16_poke 38 = .ok (.aload_n 0, 1) := by decide +kernel
theorem dX16_poke_39 : decode cX16_poke 39 = .ok (.getfield 109, 3) := by decide +kernel
theorem dX16_poke_42 : decode cX16_poke 42 = .ok (.iload 5, 2) := by decide +kernel
theorem dX16_poke_44 : decode cX16_poke 44 = .ok (.iaload, 1) := by decide +kernel
theorem dX16_poke_45 : decode cX16_poke 45 = .ok (.i2l, 1) := by decide +kernel
theorem dX16_poke_46 : decode cX16_poke 46 = .ok (.lmul, 1) := by decide +kernel
theorem dX16_poke_47 : decode cX16_poke 47 = .ok (.lcmp, 1) := by decide +kernel
theorem dX16_poke_48 : decode cX16_poke 48 = .ok (.ifCond .lt 5, 3) := by decide +kernel
theorem dX16_poke_51 : decode cX16_poke 51 = .ok (.iconst 0, 1) := by decide +kernel
theorem dX16_poke_52 : decode cX16_poke 52 = .ok (.ireturn, 1) := by decide +kernel
theorem dX16_poke_53 : decode cX16_poke 53 = .ok (.aload_n 0, 1) := by decide +kernel
theorem dX16_poke_54 : decode cX16_poke 54 = .ok (.iload 5, 2) := by decide +kernel
theorem dX16_poke_56 : decode cX16_poke 56 = .ok (.lload 6, 2) := by decide +kernel
theorem dX16_poke_58 : decode cX16_poke 58 = .ok (.iload 4, 2) := by decide +kernel
theorem dX16_poke_60 : decode cX16_poke 60 = .ok (.i2b, 1) := by decide +kernel
theorem dX16_poke_61 : decode cX16_poke 61 = .ok (.invokevirtual 1055, 3) := by decide +kernel
theorem dX16_poke_64 : decode cX16_poke 64 = .ok (.iconst 1, 1) := by decide +kernel
theorem dX16_poke_65 : decode cX16_poke 65 = .ok (.ireturn, 1) := by decide +kernel
def fX16_poke_b18 (h : pm_H) (x0 : Nat) (x3 : Int32) (x4 : Int32) (s0 : Int32) : Option (Int32 × pm_H) := pm_let (x3.toInt64 &&& 4294967295) fun y7 => if s0 < 0 then (some ((0, h))) else (if pm_kd h x0 = 16 then (pm_R h x0 54).bind fun v11 => if pm_kd h v11 = 34 then if pm_in s0 (pm_ln h v11) then if y7 < (65536 * ((pm_I h v11 s0.toNatClampNeg).toInt64)) then ((fX16_sets h x0 s0 y7 x4.toInt8.toInt32).bind fun v16 => some ((1, v16))) else (some ((0, h))) else none else none else none)
def fX16_poke (h : pm_H) (a0 : Nat) (p1 : Int32) (p2 : Int32) (p3 : Int32) (p4 : Int32) : Option (Int32 × pm_H) := if pm_kd h a0 = 16 then (fX16_runs h a0).bind fun v2 => if v2 = 0 then ((fX16_exportedAs h a0 2 p1 p2).bind fun v5 => fX16_poke_b18 h a0 p3 p4 v5) else (fX16_poke_b18 h a0 p3 p4 (-1)) else none
set_option maxHeartbeats 4000000 in
set_option maxRecDepth 100000 in
theorem bX16_poke_18 {g : pm_Gm} {l : Launch} {G : pm_Gl} {Qr : Option Value → pm_H → Prop} (C : pm_C g cX16_poke RX16) (X : pm_X g l G mX16_poke 0 0 Qr) {h : pm_H} {x0 : Nat} {x3 : Int32} {x4 : Int32} {s0 : Int32} {r : (Int32 × pm_H)} (hf : fX16_poke_b18 h x0 x3 x4 s0 = some r) (q : Qr (some (.int r.1)) r.2) : pm_G g 18 [(0, .ref x0), (3, .int x3), (4, .int x4)] [.int s0] h 0 0 := by
  unfold fX16_poke_b18 at hf
  refine pm_istore (lv' := [(5, .int s0), (0, .ref x0), (3, .int x3), (4, .int x4)]) C dX16_poke_18 (pm_nl X (by decide)) rfl ?_
  refine pm_iload_n C dX16_poke_20 rfl rfl ?_
  refine pm_i2l C dX16_poke_21 ?_
  refine pm_ldc2 C dX16_poke_22 cnX16_513 ?_
  refine pm_land C dX16_poke_25 ?_
  obtain ⟨y7, e8, hf⟩ := pm_lt hf
  refine pm_topL e8 ?_
  refine pm_lstore (lv' := [(6, .long y7), (5, .int s0), (0, .ref x0), (3, .int x3), (4, .int x4)]) C dX16_poke_26 (pm_nl X (by decide)) rfl ?_
  refine pm_iload C dX16_poke_28 rfl ?_
  refine pm_if_lt (tgt := 51) C dX16_poke_30 (by decide) (fun c9 => ?_) (fun c9 => ?_)
  · have hf := pm_it hf c9
    refine pm_iconst (v := 0) C dX16_poke_51 (by decide) ?_
    cases hf
    exact pm_zret C X dX16_poke_52 rfl (by decide) (Nat.le_refl _) (Nat.le_refl _) q
  · have hf := pm_ie hf c9
    refine pm_lload C dX16_poke_33 rfl ?_
    refine pm_ldc2 C dX16_poke_35 cnX16_636 ?_
    refine pm_aload_n C dX16_poke_38 rfl rfl ?_
    obtain ⟨k10, hf⟩ := pm_if hf
    obtain ⟨v11, e12, hf⟩ := pm_bd hf
    refine pm_getR C dX16_poke_39 flX16_109 rfl k10 e12 ?_
    refine pm_iload C dX16_poke_42 rfl ?_
    obtain ⟨k13, hf⟩ := pm_if hf
    obtain ⟨u14, hf⟩ := pm_if hf
    refine pm_iald C dX16_poke_44 k13 u14 rfl ?_
    refine pm_i2l C dX16_poke_45 ?_
    refine pm_lmul C dX16_poke_46 ?_
    refine pm_lcmp C dX16_poke_47 ?_
    refine pm_if_lt (tgt := 53) C dX16_poke_48 (by decide) (fun c15 => ?_) (fun c15 => ?_)
    · have hf := pm_it hf ((pm_lg_lt _ _).mp c15)
      refine pm_aload_n C dX16_poke_53 rfl rfl ?_
      refine pm_iload C dX16_poke_54 rfl ?_
      refine pm_lload C dX16_poke_56 rfl ?_
      refine pm_iload C dX16_poke_58 rfl ?_
      refine pm_i2b C dX16_poke_60 ?_
      obtain ⟨v16, e17, hf⟩ := pm_bd hf
      refine pm_callV (as := [.int s0, .long y7, .int x4.toInt8.toInt32]) (st := []) C X dX16_poke_61 lnX16_1055 myX16_sets viX16_sets ⟨by decide, by decide⟩ rfl rfl k10 (Nat.le_of_ble_eq_true rfl) (Nat.le_refl _) (Nat.le_refl _) (ctX16_sets e17 ?_)
      show pm_G g 64 [(6, .long y7), (5, .int s0), (0, .ref x0), (3, .int x3), (4, .int x4)] [] v16 0 0
      refine pm_iconst (v := 1) C dX16_poke_64 (by decide) ?_
      cases hf
      exact pm_zret C X dX16_poke_65 rfl (by decide) (Nat.le_refl _) (Nat.le_refl _) q
    · have hf := pm_ie hf ((fun z => c15 ((pm_lg_lt _ _).mpr z)))
      refine pm_iconst (v := 0) C dX16_poke_51 (by decide) ?_
      cases hf
      exact pm_zret C X dX16_poke_52 rfl (by decide) (Nat.le_refl _) (Nat.le_refl _) q
set_option maxHeartbeats 4000000 in
set_option maxRecDepth 100000 in
theorem ctX16_poke {l : Launch} {G : pm_Gl} {h : pm_H} {a0 : Nat} {p1 : Int32} {p2 : Int32} {p3 : Int32} {p4 : Int32} {r : (Int32 × pm_H)} {Qr : Option Value → pm_H → Prop} (hf : fX16_poke h a0 p1 p2 p3 p4 = some r) (q : Qr (some (.int r.1)) r.2) : pm_Ct l G mX16_poke [.ref a0, .int p1, .int p2, .int p3, .int p4] h 0 0 Qr := by
  refine pm_body pnX16 (Nat.le_of_ble_eq_true rfl) (fun g C X => ?_)
  have C : pm_C g cX16_poke RX16 := C
  show pm_G g 0 [(0, .ref a0), (1, .int p1), (2, .int p2), (3, .int p3), (4, .int p4)] [] h 0 0
  unfold fX16_poke at hf
  refine pm_aload_n C dX16_poke_0 rfl rfl ?_
  obtain ⟨k1, hf⟩ := pm_if hf
  obtain ⟨v2, e3, hf⟩ := pm_bd hf
  refine pm_callV (as := []) (st := []) C X dX16_poke_1 lnX16_986 myX16_runs viX16_runs ⟨by decide, by decide⟩ rfl rfl k1 (Nat.le_of_ble_eq_true rfl) (Nat.le_refl _) (Nat.le_refl _) (ctX16_runs e3 ?_)
  show pm_G g 4 [(0, .ref a0), (1, .int p1), (2, .int p2), (3, .int p3), (4, .int p4)] [.int v2] h 0 0
  refine pm_if_eq (tgt := 11) C dX16_poke_4 (by decide) (fun c4 => ?_) (fun c4 => ?_)
  · have hf := pm_it hf c4
    refine pm_aload_n C dX16_poke_11 rfl rfl ?_
    refine pm_iconst (v := 2) C dX16_poke_12 (by decide) ?_
    refine pm_iload_n C dX16_poke_13 rfl rfl ?_
    refine pm_iload_n C dX16_poke_14 rfl rfl ?_
    obtain ⟨v5, e6, hf⟩ := pm_bd hf
    refine pm_callV (as := [.int 2, .int p1, .int p2]) (st := []) C X dX16_poke_15 lnX16_1074 myX16_exportedAs viX16_exportedAs ⟨by decide, by decide⟩ rfl rfl k1 (Nat.le_of_ble_eq_true rfl) (Nat.le_refl _) (Nat.le_refl _) (ctX16_exportedAs e6 ?_)
    show pm_G g 18 [(0, .ref a0), (1, .int p1), (2, .int p2), (3, .int p3), (4, .int p4)] [.int v5] h 0 0
    exact pm_sub [0, 3, 4] rfl (bX16_poke_18 C X hf q)
  · have hf := pm_ie hf c4
    refine pm_iconst (v := (-1)) C dX16_poke_7 (by decide) ?_
    refine pm_goto (tgt := 18) C dX16_poke_8 (by decide) ?_
    exact pm_sub [0, 3, 4] rfl (bX16_poke_18 C X hf q)
theorem dX16_product_0 : decode cX16_product 0 = .ok (.aload_n 0, 1) := by decide +kernel
theorem dX16_product_1 : decode cX16_product 1 = .ok (.getfield 61, 3) := by decide +kernel
theorem dX16_product_4 : decode cX16_product 4 = .ok (.iload_n 1, 1) := by decide +kernel
theorem dX16_product_5 : decode cX16_product 5 = .ok (.lload_n 2, 1) := by decide +kernel
theorem dX16_product_6 : decode cX16_product 6 = .ok (.invokevirtual 868, 3) := by decide +kernel
theorem dX16_product_9 : decode cX16_product 9 = .ok (.aload_n 0, 1) := by decide +kernel
theorem dX16_product_10 : decode cX16_product 10 = .ok (.getfield 65, 3) := by decide +kernel
theorem dX16_product_13 : decode cX16_product 13 = .ok (.iload_n 1, 1) := by decide +kernel
theorem dX16_product_14 : decode cX16_product 14 = .ok (.lload 4, 2) := by decide +kernel
theorem dX16_product_16 : decode cX16_product 16 = .ok (.invokevirtual 868, 3) := by decide +kernel
theorem dX16_product_19 : decode cX16_product 19 = .ok (.aload_n 0, 1) := by decide +kernel
theorem dX16_product_20 : decode cX16_product 20 = .ok (.getfield 61, 3) := by decide +kernel
theorem dX16_product_23 : decode cX16_product 23 = .ok (.getfield 921, 3) := by decide +kernel
theorem dX16_product_26 : decode cX16_product 26 = .ok (.aload_n 0, 1) := by decide +kernel
theorem dX16_product_27 : decode cX16_product 27 = .ok (.getfield 65, 3) := by decide +kernel
theorem dX16_product_30 : decode cX16_product 30 = .ok (.getfield 921, 3) := by decide +kernel
theorem dX16_product_33 : decode cX16_product 33 = .ok (.if_icmp .eq 7, 3) := by decide +kernel
theorem dX16_product_36 : decode cX16_product 36 = .ok (.iconst 1, 1) := by decide +kernel
theorem dX16_product_37 : decode cX16_product 37 = .ok (.goto 4, 3) := by decide +kernel
theorem dX16_product_40 : decode cX16_product 40 = .ok (.iconst 0, 1) := by decide +kernel
theorem dX16_product_41 : decode cX16_product 41 = .ok (.istore 6, 2) := by decide +kernel
theorem dX16_product_43 : decode cX16_product 43 = .ok (.aload_n 0, 1) := by decide +kernel
theorem dX16_product_44 : decode cX16_product 44 = .ok (.getfield 61, 3) := by decide +kernel
theorem dX16_product_47 : decode cX16_product 47 = .ok (.getfield 871, 3) := by decide +kernel
theorem dX16_product_50 : decode cX16_product 50 = .ok (.iconst 3, 1) := by decide +kernel
theorem dX16_product_51 : decode cX16_product 51 = .ok (.if_icmp .eq 33, 3) := by decide +kernel
theorem dX16_product_54 : decode cX16_product 54 = .ok (.aload_n 0, 1) := by decide +kernel
theorem dX16_product_55 : decode cX16_product 55 = .ok (.getfield 65, 3) := by decide +kernel
theorem dX16_product_58 : decode cX16_product 58 = .ok (.getfield 871, 3) := by decide +kernel
theorem dX16_product_61 : decode cX16_product 61 = .ok (.iconst 3, 1) := by decide +kernel
theorem dX16_product_62 : decode cX16_product 62 = .ok (.if_icmp .eq 22, 3) := by decide +kernel
theorem dX16_product_65 : decode cX16_product 65 = .ok (.aload_n 0, 1) := by decide +kernel
theorem dX16_product_66 : decode cX16_product 66 = .ok (.getfield 61, 3) := by decide +kernel
theorem dX16_product_69 : decode cX16_product 69 = .ok (.getfield 871, 3) := by decide +kernel
theorem dX16_product_72 : decode cX16_product 72 = .ok (.aload_n 0, 1) := by decide +kernel
theorem dX16_product_73 : decode cX16_product 73 = .ok (.getfield 65, 3) := by decide +kernel
theorem dX16_product_76 : decode cX16_product 76 = .ok (.getfield 871, 3) := by decide +kernel
theorem dX16_product_79 : decode cX16_product 79 = .ok (.iadd, 1) := by decide +kernel
theorem dX16_product_80 : decode cX16_product 80 = .ok (.iconst 3, 1) := by decide +kernel
theorem dX16_product_81 : decode cX16_product 81 = .ok (.if_icmp .ne 8, 3) := by decide +kernel
theorem dX16_product_84 : decode cX16_product 84 = .ok (.iload_n 1, 1) := by decide +kernel
theorem dX16_product_85 : decode cX16_product 85 = .ok (.invokestatic 910, 3) := by decide +kernel
theorem dX16_product_88 : decode cX16_product 88 = .ok (.lreturn, 1) := by decide +kernel
theorem dX16_product_89 : decode cX16_product 89 = .ok (.aload_n 0, 1) := by decide +kernel
theorem dX16_product_90 : decode cX16_product 90 = .ok (.getfield 61, 3) := by decide +kernel
theorem dX16_product_93 : decode cX16_product 93 = .ok (.getfield 871, 3) := by decide +kernel
theorem dX16_product_96 : decode cX16_product 96 = .ok (.iconst 2, 1) := by decide +kernel
theorem dX16_product_97 : decode cX16_product 97 = .ok (.if_icmp .eq 14, 3) := by decide +kernel
theorem dX16_product_100 : decode cX16_product 100 = .ok (.aload_n 0, 1) := by decide +kernel
theorem dX16_product_101 : decode cX16_product 101 = .ok (.getfield 65, 3) := by decide +kernel
theorem dX16_product_104 : decode cX16_product 104 = .ok (.getfield 871, 3) := by decide +kernel
theorem dX16_product_107 : decode cX16_product 107 = .ok (.iconst 2, 1) := by decide +kernel
theorem dX16_product_108 : decode cX16_product 108 = .ok (.if_icmp .ne 14, 3) := by decide +kernel
theorem dX16_product_111 : decode cX16_product 111 = .ok (.iload_n 1, 1) := by decide +kernel
theorem dX16_product_112 : decode cX16_product 112 = .ok (.iload 6, 2) := by decide +kernel
theorem dX16_product_114 : decode cX16_product 114 = .ok (.iload_n 1, 1) := by decide +kernel
theorem dX16_product_115 : decode cX16_product 115 = .ok (.invokestatic 888, 3) := by decide +kernel
theorem dX16_product_118 : decode cX16_product 118 = .ok (.invokestatic 882, 3) := by decide +kernel
theorem dX16_product_121 : decode cX16_product 121 = .ok (.lreturn, 1) := by decide +kernel
theorem dX16_product_122 : decode cX16_product 122 = .ok (.aload_n 0, 1) := by decide +kernel
theorem dX16_product_123 : decode cX16_product 123 = .ok (.getfield 61, 3) := by decide +kernel
theorem dX16_product_126 : decode cX16_product 126 = .ok (.getfield 871, 3) := by decide +kernel
theorem dX16_product_129 : decode cX16_product 129 = .ok (.iconst 1, 1) := by decide +kernel
theorem dX16_product_130 : decode cX16_product 130 = .ok (.if_icmp .eq 14, 3) := by decide +kernel
theorem dX16_product_133 : decode cX16_product 133 = .ok (.aload_n 0, 1) := by decide +kernel
theorem dX16_product_134 : decode cX16_product 134 = .ok (.getfield 65, 3) := by decide +kernel
theorem dX16_product_137 : decode cX16_product 137 = .ok (.getfield 871, 3) := by decide +kernel
theorem dX16_product_140 : decode cX16_product 140 = .ok (.iconst 1, 1) := by decide +kernel
theorem dX16_product_141 : decode cX16_product 141 = .ok (.if_icmp .ne 11, 3) := by decide +kernel
theorem dX16_product_144 : decode cX16_product 144 = .ok (.iload_n 1, 1) := by decide +kernel
theorem dX16_product_145 : decode cX16_product 145 = .ok (.iload 6, 2) := by decide +kernel
theorem dX16_product_147 : decode cX16_product 147 = .ok (.lconst 0, 1) := by decide +kernel
theorem dX16_product_148 : decode cX16_product 148 = .ok (.invokestatic 882, 3) := by decide +kernel
theorem dX16_product_151 : decode cX16_product 151 = .ok (.lreturn, 1) := by decide +kernel
theorem dX16_product_152 : decode cX16_product 152 = .ok (.aload_n 0, 1) := by decide +kernel
theorem dX16_product_153 : decode cX16_product 153 = .ok (.getfield 61, 3) := by decide +kernel
theorem dX16_product_156 : decode cX16_product 156 = .ok (.getfield 916, 3) := by decide +kernel
theorem dX16_product_159 : decode cX16_product 159 = .ok (.bipush 27, 2) := by decide +kernel
theorem dX16_product_161 : decode cX16_product 161 = .ok (.lushr, 1) := by decide +kernel
theorem dX16_product_162 : decode cX16_product 162 = .ok (.lstore 7, 2) := by decide +kernel
theorem dX16_product_164 : decode cX16_product 164 = .ok (.aload_n 0, 1) := by decide +kernel
theorem dX16_product_165 : decode cX16_product 165 = .ok (.getfield 61, 3) := by decide +kernel
theorem dX16_product_168 : decode cX16_product 168 = .ok (.getfield 916, 3) := by decide +kernel
theorem dX16_product_171 : decode cX16_product 171 = .ok (.ldc2_w 936, 3) := by decide +kernel
theorem dX16_product_174 : decode cX16_product 174 = .ok (.land, 1) := by decide +kernel
theorem dX16_product_175 : decode cX16_product 175 = .ok (.lstore 9, 2) := by decide +kernel
theorem dX16_product_177 : decode cX16_product 177 = .ok (.aload_n 0, 1) := by decide +kernel
theorem dX16_product_178 : decode cX16_product 178 = .ok (.getfield 65, 3) := by decide +kernel
theorem dX16_product_181 : decode cX16_product 181 = .ok (.getfield 916, 3) := by decide +kernel
theorem dX16_product_184 : decode cX16_product 184 = .ok (.bipush 27, 2) := by decide +kernel
theorem dX16_product_186 : decode cX16_product 186 = .ok (.lushr, 1) := by decide +kernel
theorem dX16_product_187 : decode cX16_product 187 = .ok (.lstore 11, 2) := by decide +kernel
theorem dX16_product_189 : decode cX16_product 189 = .ok (.aload_n 0, 1) := by decide +kernel
theorem dX16_product_190 : decode cX16_product 190 = .ok (.getfield 65, 3) := by decide +kernel
theorem dX16_product_193 : decode cX16_product 193 = .ok (.getfield 916, 3) := by decide +kernel
theorem dX16_product_196 : decode cX16_product 196 = .ok (.ldc2_w 936, 3) := by decide +kernel
theorem dX16_product_199 : decode cX16_product 199 = .ok (.land, 1) := by decide +kernel
theorem dX16_product_200 : decode cX16_product 200 = .ok (.lstore 13, 2) := by decide +kernel
theorem dX16_product_202 : decode cX16_product 202 = .ok (.lload 7, 2) := by decide +kernel
theorem dX16_product_204 : decode cX16_product 204 = .ok (.lload 13, 2) := by decide +kernel
theorem dX16_product_206 : decode cX16_product 206 = .ok (.lmul, 1) := by decide +kernel
theorem dX16_product_207 : decode cX16_product 207 = .ok (.lload 9, 2) := by decide +kernel
theorem dX16_product_209 : decode cX16_product 209 = .ok (.lload 11, 2) := by decide +kernel
theorem dX16_product_211 : decode cX16_product 211 = .ok (.lmul, 1) := by decide +kernel
theorem dX16_product_212 : decode cX16_product 212 = .ok (.ladd, 1) := by decide +kernel
theorem dX16_product_213 : decode cX16_product 213 = .ok (.lstore 15, 2) := by decide +kernel
theorem dX16_product_215 : decode cX16_product 215 = .ok (.lload 9, 2) := by decide +kernel
theorem dX16_product_217 : decode cX16_product 217 = .ok (.lload 13, 2) := by decide +kernel
theorem dX16_product_219 : decode cX16_product 219 = .ok (.lmul, 1) := by decide +kernel
theorem dX16_product_220 : decode cX16_product 220 = .ok (.lload 15, 2) := by decide +kernel
theorem dX16_product_222 : decode cX16_product 222 = .ok (.bipush 27, 2) := by decide +kernel
theorem dX16_product_224 : decode cX16_product 224 = .ok (.lshl, 1) := by decide +kernel
theorem dX16_product_225 : decode cX16_product 225 = .ok (.ladd, 1) := by decide +kernel
theorem dX16_product_226 : decode cX16_product 226 = .ok (.lstore 17, 2) := by decide +kernel
theorem dX16_product_228 : decode cX16_product 228 = .ok (.lload 15, 2) := by decide +kernel
theorem dX16_product_230 : decode cX16_product 230 = .ok (.bipush 37, 2) := by decide +kernel
theorem dX16_product_232 : decode cX16_product 232 = .ok (.lushr, 1) := by decide +kernel
theorem dX16_product_233 : decode cX16_product 233 = .ok (.lstore 19, 2) := by decide +kernel
theorem dX16_product_235 : decode cX16_product 235 = .ok (.lload 17, 2) := by decide +kernel
theorem dX16_product_237 : decode cX16_product 237 = .ok (.lload 9, 2) := by decide +kernel
theorem dX16_product_239 : decode cX16_product 239 = .ok (.lload 13, 2) := by decide +kernel
theorem dX16_product_241 : decode cX16_product 241 = .ok (.lmul, 1) := by decide +kernel
theorem dX16_product_242 : decode cX16_product 242 = .ok (.invokestatic 827, 3) := by decide +kernel
theorem dX16_product_245 : decode cX16_product 245 = .ok (.ifCond .eq 10, 3) := by decide +kernel
theorem dX16_product_248 : decode cX16_product 248 = .ok (.lload 19, 2) := by decide +kernel
theorem dX16_product_250 : decode cX16_product 250 = .ok (.lconst 1, 1) := by decide +kernel
theorem dX16_product_251 : decode cX16_product 251 = .ok (.ladd, 1) := by decide +kernel
theorem dX16_product_252 : decode cX16_product 252 = .ok (.goto 5, 3) := by decide +kernel
theorem dX16_product_255 : decode cX16_product 255 = .ok (.lload 19, 2) := by decide +kernel
theorem dX16_product_257 : decode cX16_product 257 = .ok (.lstore 19, 2) := by decide +kernel
theorem dX16_product_259 : decode cX16_product 259 = .ok (.lload 17, 2) := by decide +kernel
theorem dX16_product_261 : decode cX16_product 261 = .ok (.lload 7, 2) := by decide +kernel
theorem dX16_product_263 : decode cX16_product 263 = .ok (.lload 11, 2) := by decide +kernel
theorem dX16_product_265 : decode cX16_product 265 = .ok (.lmul, 1) := by decide +kernel
theorem dX16_product_266 : decode cX16_product 266 = .ok (.bipush 54, 2) := by decide +kernel
theorem dX16_product_268 : decode cX16_product 268 = .ok (.lshl, 1) := by decide +kernel
theorem dX16_product_269 : decode cX16_product 269 = .ok (.ladd, 1) := by decide +kernel
theorem dX16_product_270 : decode cX16_product 270 = .ok (.lstore 21, 2) := by decide +kernel
theorem dX16_product_272 : decode cX16_product 272 = .ok (.lload 19, 2) := by decide +kernel
theorem dX16_product_274 : decode cX16_product 274 = .ok (.lload 7, 2) := by decide +kernel
theorem dX16_product_276 : decode cX16_product 276 = .ok (.lload 11, 2) := by decide +kernel
theorem dX16_product_278 : decode cX16_product 278 = .ok (.lmul, 1) := by decide +kernel
theorem dX16_product_279 : decode cX16_product 279 = .ok (.bipush 10, 2) := by decide +kernel
theorem dX16_product_281 : decode cX16_product 281 = .ok (.lushr, 1) := by decide +kernel
theorem dX16_product_282 : decode cX16_product 282 = .ok (.ladd, 1) := by decide +kernel
theorem dX16_product_283 : decode cX16_product 283 = .ok (.lstore 19, 2) := by decide +kernel
theorem dX16_product_285 : decode cX16_product 285 = .ok (.lload 21, 2) := by decide +kernel
theorem dX16_product_287 : decode cX16_product 287 = .ok (.lload 17, 2) := by decide +kernel
theorem dX16_product_289 : decode cX16_product 289 = .ok (.invokestatic 827, 3) := by decide +kernel
theorem dX16_product_292 : decode cX16_product 292 = .ok (.ifCond .eq 10, 3) := by decide +kernel
theorem dX16_product_295 : decode cX16_product 295 = .ok (.lload 19, 2) := by decide +kernel
theorem dX16_product_297 : decode cX16_product 297 = .ok (.lconst 1, 1) := by decide +kernel
theorem dX16_product_298 : decode cX16_product 298 = .ok (.ladd, 1) := by decide +kernel
theorem dX16_product_299 : decode cX16_product 299 = .ok (.goto 5, 3) := by decide +kernel
theorem dX16_product_302 : decode cX16_product 302 = .ok (.lload 19, 2) := by decide +kernel
theorem dX16_product_304 : decode cX16_product 304 = .ok (.lstore 19, 2) := by decide +kernel
theorem dX16_product_306 : decode cX16_product 306 = .ok (.iload_n 1, 1) := by decide +kernel
theorem dX16_product_307 : decode cX16_product 307 = .ok (.iload 6, 2) := by decide +kernel
theorem dX16_product_309 : decode cX16_product 309 = .ok (.lload 19, 2) := by decide +kernel
theorem dX16_product_311 : decode cX16_product 311 = .ok (.lload 21, 2) := by decide +kernel
theorem dX16_product_313 : decode cX16_product 313 = .ok (.aload_n 0, 1) := by decide +kernel
theorem dX16_product_314 : decode cX16_product 314 = .ok (.getfield 61, 3) := by decide +kernel
theorem dX16_product_317 : decode cX16_product 317 = .ok (.getfield 913, 3) := by decide +kernel
theorem dX16_product_320 : decode cX16_product 320 = .ok (.aload_n 0, 1) := by decide +kernel
theorem dX16_product_321 : decode cX16_product 321 = .ok (.getfield 65, 3) := by decide +kernel
theorem dX16_product_324 : decode cX16_product 324 = .ok (.getfield 913, 3) := by decide +kernel
theorem dX16_product_327 : decode cX16_product 327 = .ok (.iadd, 1) := by decide +kernel
theorem dX16_product_328 : decode cX16_product 328 = .ok (.iconst 0, 1) := by decide +kernel
theorem dX16_product_329 : decode cX16_product 329 = .ok (.invokestatic 924, 3) := by decide +kernel
theorem dX16_product_332 : decode cX16_product 332 = .ok (.lreturn, 1) := by decide +kernel
noncomputable def fX16_product_b41 (h : pm_H) (x0 : Nat) (x1 : Int32) (s0 : Int32) : Option (Int64 × pm_H) := if pm_kd h x0 = 16 then (pm_R h x0 34).bind fun v22 => if pm_kd h v22 = 15 then if (pm_I h v22 1) = 3 then (pm_let (fX16_noneOf x1) fun v26 => some ((v26, h))) else ((pm_R h x0 35).bind fun v28 => if pm_kd h v28 = 15 then if (pm_I h v28 1) = 3 then (pm_let (fX16_noneOf x1) fun v32 => some ((v32, h))) else (if ((pm_I h v22 1) + (pm_I h v28 1)) = 3 then (pm_let (fX16_noneOf x1) fun v96 => some ((v96, h))) else (if (pm_I h v22 1) = 2 then (pm_let (fX16_infinite x1) fun v36 => pm_let (fX16_withSign x1 s0 v36) fun v38 => some ((v38, h))) else (if (pm_I h v28 1) = 2 then (pm_let (fX16_infinite x1) fun v92 => pm_let (fX16_withSign x1 s0 v92) fun v94 => some ((v94, h))) else (if (pm_I h v22 1) = 1 then (pm_let (fX16_withSign x1 s0 0) fun v42 => some ((v42, h))) else (if (pm_I h v28 1) = 1 then (pm_let (fX16_withSign x1 s0 0) fun v90 => some ((v90, h))) else (pm_let (((pm_L h v22 2).toUInt64 >>> ((27 : Int32).toInt64.toUInt64 &&& Int64.toUInt64 63)).toInt64) fun y45 => pm_let ((pm_L h v22 2) &&& 134217727) fun y47 => pm_let (((pm_L h v28 2).toUInt64 >>> ((27 : Int32).toInt64.toUInt64 &&& Int64.toUInt64 63)).toInt64) fun y49 => pm_let ((pm_L h v28 2) &&& 134217727) fun y51 => pm_let ((y45 * y51) + (y47 * y49)) fun y53 => pm_let ((y47 * y51) + (y53 <<< ((27 : Int32).toInt64 &&& 63))) fun y55 => pm_let ((y53.toUInt64 >>> ((37 : Int32).toInt64.toUInt64 &&& Int64.toUInt64 63)).toInt64) fun y57 => pm_let (fX16_isBelow y55 (y47 * y51)) fun v59 => if v59 = 0 then (pm_let (y55 + ((y45 * y49) <<< ((54 : Int32).toInt64 &&& 63))) fun y62 => pm_let (y57 + (((y45 * y49).toUInt64 >>> ((10 : Int32).toInt64.toUInt64 &&& Int64.toUInt64 63)).toInt64)) fun y64 => pm_let (fX16_isBelow y62 y55) fun v66 => if v66 = 0 then ((fX16_rounded x1 s0 y64 y62 ((pm_I h v22 3) + (pm_I h v28 3)) 0).bind fun v69 => some ((v69, h))) else (pm_let (y64 + 1) fun y71 => (fX16_rounded x1 s0 y71 y62 ((pm_I h v22 3) + (pm_I h v28 3)) 0).bind fun v73 => some ((v73, h)))) else (pm_let (y57 + 1) fun y75 => pm_let (y55 + ((y45 * y49) <<< ((54 : Int32).toInt64 &&& 63))) fun y77 => pm_let (y75 + (((y45 * y49).toUInt64 >>> ((10 : Int32).toInt64.toUInt64 &&& Int64.toUInt64 63)).toInt64)) fun y79 => pm_let (fX16_isBelow y77 y55) fun v81 => if v81 = 0 then ((fX16_rounded x1 s0 y79 y77 ((pm_I h v22 3) + (pm_I h v28 3)) 0).bind fun v84 => some ((v84, h))) else (pm_let (y79 + 1) fun y86 => (fX16_rounded x1 s0 y86 y77 ((pm_I h v22 3) + (pm_I h v28 3)) 0).bind fun v88 => some ((v88, h)))))))))) else none) else none else none
noncomputable def fX16_product (h : pm_H) (a0 : Nat) (p1 : Int32) (p2 : Int64) (p3 : Int64) : Option (Int64 × pm_H) := if pm_kd h a0 = 16 then (pm_R h a0 34).bind fun v2 => if pm_kd h v2 = 15 then (fX15_read h v2 p1 p2).bind fun v5 => if pm_kd v5 a0 = 16 then (pm_R v5 a0 35).bind fun v8 => if pm_kd v5 v8 = 15 then (fX15_read v5 v8 p1 p3).bind fun v11 => if pm_kd v11 a0 = 16 then (pm_R v11 a0 34).bind fun v14 => if pm_kd v11 v14 = 15 then (pm_R v11 a0 35).bind fun v17 => if pm_kd v11 v17 = 15 then if (pm_I v11 v14 0) = (pm_I v11 v17 0) then (fX16_product_b41 v11 a0 p1 0) else (fX16_product_b41 v11 a0 p1 1) else none else none else none else none else none else none else none
set_option maxHeartbeats 4000000 in
set_option maxRecDepth 100000 in
theorem bX16_product_41 {g : pm_Gm} {l : Launch} {G : pm_Gl} {Qr : Option Value → pm_H → Prop} (C : pm_C g cX16_product RX16) (X : pm_X g l G mX16_product 0 0 Qr) {h : pm_H} {x0 : Nat} {x1 : Int32} {s0 : Int32} {r : (Int64 × pm_H)} (hf : fX16_product_b41 h x0 x1 s0 = some r) (q : Qr (some (.long r.1)) r.2) : pm_G g 41 [(0, .ref x0), (1, .int x1)] [.int s0] h 0 0 := by
  unfold fX16_product_b41 at hf
  refine pm_istore (lv' := [(6, .int s0), (0, .ref x0), (1, .int x1)]) C dX16_product_41 (pm_nl X (by decide)) rfl ?_
  refine pm_aload_n C dX16_product_43 rfl rfl ?_
  obtain ⟨k21, hf⟩ := pm_if hf
  obtain ⟨v22, e23, hf⟩ := pm_bd hf
  refine pm_getR C dX16_product_44 flX16_61 rfl k21 e23 ?_
  obtain ⟨k24, hf⟩ := pm_if hf
  refine pm_getI C dX16_product_47 flX16_871 rfl k24 rfl ?_
  refine pm_iconst (v := 3) C dX16_product_50 (by decide) ?_
  refine pm_icmp_eq (tgt := 84) C dX16_product_51 (by decide) (fun c25 => ?_) (fun c25 => ?_)
  · have hf := pm_it hf c25
    refine pm_iload_n C dX16_product_84 rfl rfl ?_
    obtain ⟨v26, e27, hf⟩ := pm_lt hf
    refine pm_callS (as := [.int x1]) (st := []) C X dX16_product_85 lnX16_910 myX16_noneOf stX16_noneOf ⟨by decide, by decide⟩ rfl rfl (Nat.le_of_ble_eq_true rfl) (Nat.le_refl _) (Nat.le_refl _) (ctX16_noneOf e27 ?_)
    show pm_G g 88 [(6, .int s0), (0, .ref x0), (1, .int x1)] [.long v26] h 0 0
    cases hf
    exact pm_lret C X dX16_product_88 rfl (Nat.le_refl _) (Nat.le_refl _) q
  · have hf := pm_ie hf c25
    refine pm_aload_n C dX16_product_54 rfl rfl ?_
    obtain ⟨v28, e29, hf⟩ := pm_bd hf
    refine pm_getR C dX16_product_55 flX16_65 rfl k21 e29 ?_
    obtain ⟨k30, hf⟩ := pm_if hf
    refine pm_getI C dX16_product_58 flX16_871 rfl k30 rfl ?_
    refine pm_iconst (v := 3) C dX16_product_61 (by decide) ?_
    refine pm_icmp_eq (tgt := 84) C dX16_product_62 (by decide) (fun c31 => ?_) (fun c31 => ?_)
    · have hf := pm_it hf c31
      refine pm_iload_n C dX16_product_84 rfl rfl ?_
      obtain ⟨v32, e33, hf⟩ := pm_lt hf
      refine pm_callS (as := [.int x1]) (st := []) C X dX16_product_85 lnX16_910 myX16_noneOf stX16_noneOf ⟨by decide, by decide⟩ rfl rfl (Nat.le_of_ble_eq_true rfl) (Nat.le_refl _) (Nat.le_refl _) (ctX16_noneOf e33 ?_)
      show pm_G g 88 [(6, .int s0), (0, .ref x0), (1, .int x1)] [.long v32] h 0 0
      cases hf
      exact pm_lret C X dX16_product_88 rfl (Nat.le_refl _) (Nat.le_refl _) q
    · have hf := pm_ie hf c31
      refine pm_aload_n C dX16_product_65 rfl rfl ?_
      refine pm_getR C dX16_product_66 flX16_61 rfl k21 e23 ?_
      refine pm_getI C dX16_product_69 flX16_871 rfl k24 rfl ?_
      refine pm_aload_n C dX16_product_72 rfl rfl ?_
      refine pm_getR C dX16_product_73 flX16_65 rfl k21 e29 ?_
      refine pm_getI C dX16_product_76 flX16_871 rfl k30 rfl ?_
      refine pm_iadd C dX16_product_79 ?_
      refine pm_iconst (v := 3) C dX16_product_80 (by decide) ?_
      refine pm_icmp_ne (tgt := 89) C dX16_product_81 (by decide) (fun c34 => ?_) (fun c34 => ?_)
      · have hf := pm_ie hf c34
        refine pm_aload_n C dX16_product_89 rfl rfl ?_
        refine pm_getR C dX16_product_90 flX16_61 rfl k21 e23 ?_
        refine pm_getI C dX16_product_93 flX16_871 rfl k24 rfl ?_
        refine pm_iconst (v := 2) C dX16_product_96 (by decide) ?_
        refine pm_icmp_eq (tgt := 111) C dX16_product_97 (by decide) (fun c35 => ?_) (fun c35 => ?_)
        · have hf := pm_it hf c35
          refine pm_iload_n C dX16_product_111 rfl rfl ?_
          refine pm_iload C dX16_product_112 rfl ?_
          refine pm_iload_n C dX16_product_114 rfl rfl ?_
          obtain ⟨v36, e37, hf⟩ := pm_lt hf
          refine pm_callS (as := [.int x1]) (st := [.int s0, .int x1]) C X dX16_product_115 lnX16_888 myX16_infinite stX16_infinite ⟨by decide, by decide⟩ rfl rfl (Nat.le_of_ble_eq_true rfl) (Nat.le_refl _) (Nat.le_refl _) (ctX16_infinite e37 ?_)
          show pm_G g 118 [(6, .int s0), (0, .ref x0), (1, .int x1)] [.long v36, .int s0, .int x1] h 0 0
          obtain ⟨v38, e39, hf⟩ := pm_lt hf
          refine pm_callS (as := [.int x1, .int s0, .long v36]) (st := []) C X dX16_product_118 lnX16_882 myX16_withSign stX16_withSign ⟨by decide, by decide⟩ rfl rfl (Nat.le_of_ble_eq_true rfl) (Nat.le_refl _) (Nat.le_refl _) (ctX16_withSign e39 ?_)
          show pm_G g 121 [(6, .int s0), (0, .ref x0), (1, .int x1)] [.long v38] h 0 0
          cases hf
          exact pm_lret C X dX16_product_121 rfl (Nat.le_refl _) (Nat.le_refl _) q
        · have hf := pm_ie hf c35
          refine pm_aload_n C dX16_product_100 rfl rfl ?_
          refine pm_getR C dX16_product_101 flX16_65 rfl k21 e29 ?_
          refine pm_getI C dX16_product_104 flX16_871 rfl k30 rfl ?_
          refine pm_iconst (v := 2) C dX16_product_107 (by decide) ?_
          refine pm_icmp_ne (tgt := 122) C dX16_product_108 (by decide) (fun c40 => ?_) (fun c40 => ?_)
          · have hf := pm_ie hf c40
            refine pm_aload_n C dX16_product_122 rfl rfl ?_
            refine pm_getR C dX16_product_123 flX16_61 rfl k21 e23 ?_
            refine pm_getI C dX16_product_126 flX16_871 rfl k24 rfl ?_
            refine pm_iconst (v := 1) C dX16_product_129 (by decide) ?_
            refine pm_icmp_eq (tgt := 144) C dX16_product_130 (by decide) (fun c41 => ?_) (fun c41 => ?_)
            · have hf := pm_it hf c41
              refine pm_iload_n C dX16_product_144 rfl rfl ?_
              refine pm_iload C dX16_product_145 rfl ?_
              refine pm_lconst (v := 0) C dX16_product_147 (by decide) ?_
              obtain ⟨v42, e43, hf⟩ := pm_lt hf
              refine pm_callS (as := [.int x1, .int s0, .long 0]) (st := []) C X dX16_product_148 lnX16_882 myX16_withSign stX16_withSign ⟨by decide, by decide⟩ rfl rfl (Nat.le_of_ble_eq_true rfl) (Nat.le_refl _) (Nat.le_refl _) (ctX16_withSign e43 ?_)
              show pm_G g 151 [(6, .int s0), (0, .ref x0), (1, .int x1)] [.long v42] h 0 0
              cases hf
              exact pm_lret C X dX16_product_151 rfl (Nat.le_refl _) (Nat.le_refl _) q
            · have hf := pm_ie hf c41
              refine pm_aload_n C dX16_product_133 rfl rfl ?_
              refine pm_getR C dX16_product_134 flX16_65 rfl k21 e29 ?_
              refine pm_getI C dX16_product_137 flX16_871 rfl k30 rfl ?_
              refine pm_iconst (v := 1) C dX16_product_140 (by decide) ?_
              refine pm_icmp_ne (tgt := 152) C dX16_product_141 (by decide) (fun c44 => ?_) (fun c44 => ?_)
              · have hf := pm_ie hf c44
                refine pm_aload_n C dX16_product_152 rfl rfl ?_
                refine pm_getR C dX16_product_153 flX16_61 rfl k21 e23 ?_
                refine pm_getL C dX16_product_156 flX16_916 rfl k24 rfl ?_
                refine pm_bipush (v := 27) C dX16_product_159 (by decide) ?_
                refine pm_lushr C dX16_product_161 ?_
                obtain ⟨y45, e46, hf⟩ := pm_lt hf
                refine pm_topL e46 ?_
                refine pm_lstore (lv' := [(7, .long y45), (6, .int s0), (0, .ref x0), (1, .int x1)]) C dX16_product_162 (pm_nl X (by decide)) rfl ?_
                refine pm_aload_n C dX16_product_164 rfl rfl ?_
                refine pm_getR C dX16_product_165 flX16_61 rfl k21 e23 ?_
                refine pm_getL C dX16_product_168 flX16_916 rfl k24 rfl ?_
                refine pm_ldc2 C dX16_product_171 cnX16_936 ?_
                refine pm_land C dX16_product_174 ?_
                obtain ⟨y47, e48, hf⟩ := pm_lt hf
                refine pm_topL e48 ?_
                refine pm_lstore (lv' := [(9, .long y47), (7, .long y45), (6, .int s0), (0, .ref x0), (1, .int x1)]) C dX16_product_175 (pm_nl X (by decide)) rfl ?_
                refine pm_aload_n C dX16_product_177 rfl rfl ?_
                refine pm_getR C dX16_product_178 flX16_65 rfl k21 e29 ?_
                refine pm_getL C dX16_product_181 flX16_916 rfl k30 rfl ?_
                refine pm_bipush (v := 27) C dX16_product_184 (by decide) ?_
                refine pm_lushr C dX16_product_186 ?_
                obtain ⟨y49, e50, hf⟩ := pm_lt hf
                refine pm_topL e50 ?_
                refine pm_lstore (lv' := [(11, .long y49), (9, .long y47), (7, .long y45), (6, .int s0), (0, .ref x0), (1, .int x1)]) C dX16_product_187 (pm_nl X (by decide)) rfl ?_
                refine pm_aload_n C dX16_product_189 rfl rfl ?_
                refine pm_getR C dX16_product_190 flX16_65 rfl k21 e29 ?_
                refine pm_getL C dX16_product_193 flX16_916 rfl k30 rfl ?_
                refine pm_ldc2 C dX16_product_196 cnX16_936 ?_
                refine pm_land C dX16_product_199 ?_
                obtain ⟨y51, e52, hf⟩ := pm_lt hf
                refine pm_topL e52 ?_
                refine pm_lstore (lv' := [(13, .long y51), (11, .long y49), (9, .long y47), (7, .long y45), (6, .int s0), (0, .ref x0), (1, .int x1)]) C dX16_product_200 (pm_nl X (by decide)) rfl ?_
                refine pm_lload C dX16_product_202 rfl ?_
                refine pm_lload C dX16_product_204 rfl ?_
                refine pm_lmul C dX16_product_206 ?_
                refine pm_lload C dX16_product_207 rfl ?_
                refine pm_lload C dX16_product_209 rfl ?_
                refine pm_lmul C dX16_product_211 ?_
                refine pm_ladd C dX16_product_212 ?_
                obtain ⟨y53, e54, hf⟩ := pm_lt hf
                refine pm_topL e54 ?_
                refine pm_lstore (lv' := [(15, .long y53), (13, .long y51), (11, .long y49), (9, .long y47), (7, .long y45), (6, .int s0), (0, .ref x0), (1, .int x1)]) C dX16_product_213 (pm_nl X (by decide)) rfl ?_
                refine pm_lload C dX16_product_215 rfl ?_
                refine pm_lload C dX16_product_217 rfl ?_
                refine pm_lmul C dX16_product_219 ?_
                refine pm_lload C dX16_product_220 rfl ?_
                refine pm_bipush (v := 27) C dX16_product_222 (by decide) ?_
                refine pm_lshl C dX16_product_224 ?_
                refine pm_ladd C dX16_product_225 ?_
                obtain ⟨y55, e56, hf⟩ := pm_lt hf
                refine pm_topL e56 ?_
                refine pm_lstore (lv' := [(17, .long y55), (15, .long y53), (13, .long y51), (11, .long y49), (9, .long y47), (7, .long y45), (6, .int s0), (0, .ref x0), (1, .int x1)]) C dX16_product_226 (pm_nl X (by decide)) rfl ?_
                refine pm_lload C dX16_product_228 rfl ?_
                refine pm_bipush (v := 37) C dX16_product_230 (by decide) ?_
                refine pm_lushr C dX16_product_232 ?_
                obtain ⟨y57, e58, hf⟩ := pm_lt hf
                refine pm_topL e58 ?_
                refine pm_lstore (lv' := [(19, .long y57), (17, .long y55), (15, .long y53), (13, .long y51), (11, .long y49), (9, .long y47), (7, .long y45), (6, .int s0), (0, .ref x0), (1, .int x1)]) C dX16_product_233 (pm_nl X (by decide)) rfl ?_
                refine pm_lload C dX16_product_235 rfl ?_
                refine pm_lload C dX16_product_237 rfl ?_
                refine pm_lload C dX16_product_239 rfl ?_
                refine pm_lmul C dX16_product_241 ?_
                obtain ⟨v59, e60, hf⟩ := pm_lt hf
                refine pm_callS (as := [.long y55, .long (y47 * y51)]) (st := []) C X dX16_product_242 lnX16_827 myX16_isBelow stX16_isBelow ⟨by decide, by decide⟩ rfl rfl (Nat.le_of_ble_eq_true rfl) (Nat.le_refl _) (Nat.le_refl _) (ctX16_isBelow e60 ?_)
                show pm_G g 245 [(19, .long y57), (17, .long y55), (15, .long y53), (13, .long y51), (11, .long y49), (9, .long y47), (7, .long y45), (6, .int s0), (0, .ref x0), (1, .int x1)] [.int v59] h 0 0
                refine pm_if_eq (tgt := 255) C dX16_product_245 (by decide) (fun c61 => ?_) (fun c61 => ?_)
                · have hf := pm_it hf c61
                  refine pm_lload C dX16_product_255 rfl ?_
                  refine pm_lstore (lv' := [(19, .long y57), (17, .long y55), (15, .long y53), (13, .long y51), (11, .long y49), (9, .long y47), (7, .long y45), (6, .int s0), (0, .ref x0), (1, .int x1)]) C dX16_product_257 (pm_nl X (by decide)) rfl ?_
                  refine pm_lload C dX16_product_259 rfl ?_
                  refine pm_lload C dX16_product_261 rfl ?_
                  refine pm_lload C dX16_product_263 rfl ?_
                  refine pm_lmul C dX16_product_265 ?_
                  refine pm_bipush (v := 54) C dX16_product_266 (by decide) ?_
                  refine pm_lshl C dX16_product_268 ?_
                  refine pm_ladd C dX16_product_269 ?_
                  obtain ⟨y62, e63, hf⟩ := pm_lt hf
                  refine pm_topL e63 ?_
                  refine pm_lstore (lv' := [(21, .long y62), (19, .long y57), (17, .long y55), (15, .long y53), (13, .long y51), (11, .long y49), (9, .long y47), (7, .long y45), (6, .int s0), (0, .ref x0), (1, .int x1)]) C dX16_product_270 (pm_nl X (by decide)) rfl ?_
                  refine pm_lload C dX16_product_272 rfl ?_
                  refine pm_lload C dX16_product_274 rfl ?_
                  refine pm_lload C dX16_product_276 rfl ?_
                  refine pm_lmul C dX16_product_278 ?_
                  refine pm_bipush (v := 10) C dX16_product_279 (by decide) ?_
                  refine pm_lushr C dX16_product_281 ?_
                  refine pm_ladd C dX16_product_282 ?_
                  obtain ⟨y64, e65, hf⟩ := pm_lt hf
                  refine pm_topL e65 ?_
                  refine pm_lstore (lv' := [(19, .long y64), (21, .long y62), (17, .long y55), (15, .long y53), (13, .long y51), (11, .long y49), (9, .long y47), (7, .long y45), (6, .int s0), (0, .ref x0), (1, .int x1)]) C dX16_product_283 (pm_nl X (by decide)) rfl ?_
                  refine pm_lload C dX16_product_285 rfl ?_
                  refine pm_lload C dX16_product_287 rfl ?_
                  obtain ⟨v66, e67, hf⟩ := pm_lt hf
                  refine pm_callS (as := [.long y62, .long y55]) (st := []) C X dX16_product_289 lnX16_827 myX16_isBelow stX16_isBelow ⟨by decide, by decide⟩ rfl rfl (Nat.le_of_ble_eq_true rfl) (Nat.le_refl _) (Nat.le_refl _) (ctX16_isBelow e67 ?_)
                  show pm_G g 292 [(19, .long y64), (21, .long y62), (17, .long y55), (15, .long y53), (13, .long y51), (11, .long y49), (9, .long y47), (7, .long y45), (6, .int s0), (0, .ref x0), (1, .int x1)] [.int v66] h 0 0
                  refine pm_if_eq (tgt := 302) C dX16_product_292 (by decide) (fun c68 => ?_) (fun c68 => ?_)
                  · have hf := pm_it hf c68
                    refine pm_lload C dX16_product_302 rfl ?_
                    refine pm_lstore (lv' := [(19, .long y64), (21, .long y62), (17, .long y55), (15, .long y53), (13, .long y51), (11, .long y49), (9, .long y47), (7, .long y45), (6, .int s0), (0, .ref x0), (1, .int x1)]) C dX16_product_304 (pm_nl X (by decide)) rfl ?_
                    refine pm_iload_n C dX16_product_306 rfl rfl ?_
                    refine pm_iload C dX16_product_307 rfl ?_
                    refine pm_lload C dX16_product_309 rfl ?_
                    refine pm_lload C dX16_product_311 rfl ?_
                    refine pm_aload_n C dX16_product_313 rfl rfl ?_
                    refine pm_getR C dX16_product_314 flX16_61 rfl k21 e23 ?_
                    refine pm_getI C dX16_product_317 flX16_913 rfl k24 rfl ?_
                    refine pm_aload_n C dX16_product_320 rfl rfl ?_
                    refine pm_getR C dX16_product_321 flX16_65 rfl k21 e29 ?_
                    refine pm_getI C dX16_product_324 flX16_913 rfl k30 rfl ?_
                    refine pm_iadd C dX16_product_327 ?_
                    refine pm_iconst (v := 0) C dX16_product_328 (by decide) ?_
                    obtain ⟨v69, e70, hf⟩ := pm_bd hf
                    refine pm_callS (as := [.int x1, .int s0, .long y64, .long y62, .int ((pm_I h v22 3) + (pm_I h v28 3)), .int 0]) (st := []) C X dX16_product_329 lnX16_924 myX16_rounded stX16_rounded ⟨by decide, by decide⟩ rfl rfl (Nat.le_of_ble_eq_true rfl) (Nat.le_refl _) (Nat.le_refl _) (ctX16_rounded e70 ?_)
                    show pm_G g 332 [(19, .long y64), (21, .long y62), (17, .long y55), (15, .long y53), (13, .long y51), (11, .long y49), (9, .long y47), (7, .long y45), (6, .int s0), (0, .ref x0), (1, .int x1)] [.long v69] h 0 0
                    cases hf
                    exact pm_lret C X dX16_product_332 rfl (Nat.le_refl _) (Nat.le_refl _) q
                  · have hf := pm_ie hf c68
                    refine pm_lload C dX16_product_295 rfl ?_
                    refine pm_lconst (v := 1) C dX16_product_297 (by decide) ?_
                    refine pm_ladd C dX16_product_298 ?_
                    refine pm_goto (tgt := 304) C dX16_product_299 (by decide) ?_
                    obtain ⟨y71, e72, hf⟩ := pm_lt hf
                    refine pm_topL e72 ?_
                    refine pm_lstore (lv' := [(19, .long y71), (21, .long y62), (17, .long y55), (15, .long y53), (13, .long y51), (11, .long y49), (9, .long y47), (7, .long y45), (6, .int s0), (0, .ref x0), (1, .int x1)]) C dX16_product_304 (pm_nl X (by decide)) rfl ?_
                    refine pm_iload_n C dX16_product_306 rfl rfl ?_
                    refine pm_iload C dX16_product_307 rfl ?_
                    refine pm_lload C dX16_product_309 rfl ?_
                    refine pm_lload C dX16_product_311 rfl ?_
                    refine pm_aload_n C dX16_product_313 rfl rfl ?_
                    refine pm_getR C dX16_product_314 flX16_61 rfl k21 e23 ?_
                    refine pm_getI C dX16_product_317 flX16_913 rfl k24 rfl ?_
                    refine pm_aload_n C dX16_product_320 rfl rfl ?_
                    refine pm_getR C dX16_product_321 flX16_65 rfl k21 e29 ?_
                    refine pm_getI C dX16_product_324 flX16_913 rfl k30 rfl ?_
                    refine pm_iadd C dX16_product_327 ?_
                    refine pm_iconst (v := 0) C dX16_product_328 (by decide) ?_
                    obtain ⟨v73, e74, hf⟩ := pm_bd hf
                    refine pm_callS (as := [.int x1, .int s0, .long y71, .long y62, .int ((pm_I h v22 3) + (pm_I h v28 3)), .int 0]) (st := []) C X dX16_product_329 lnX16_924 myX16_rounded stX16_rounded ⟨by decide, by decide⟩ rfl rfl (Nat.le_of_ble_eq_true rfl) (Nat.le_refl _) (Nat.le_refl _) (ctX16_rounded e74 ?_)
                    show pm_G g 332 [(19, .long y71), (21, .long y62), (17, .long y55), (15, .long y53), (13, .long y51), (11, .long y49), (9, .long y47), (7, .long y45), (6, .int s0), (0, .ref x0), (1, .int x1)] [.long v73] h 0 0
                    cases hf
                    exact pm_lret C X dX16_product_332 rfl (Nat.le_refl _) (Nat.le_refl _) q
                · have hf := pm_ie hf c61
                  refine pm_lload C dX16_product_248 rfl ?_
                  refine pm_lconst (v := 1) C dX16_product_250 (by decide) ?_
                  refine pm_ladd C dX16_product_251 ?_
                  refine pm_goto (tgt := 257) C dX16_product_252 (by decide) ?_
                  obtain ⟨y75, e76, hf⟩ := pm_lt hf
                  refine pm_topL e76 ?_
                  refine pm_lstore (lv' := [(19, .long y75), (17, .long y55), (15, .long y53), (13, .long y51), (11, .long y49), (9, .long y47), (7, .long y45), (6, .int s0), (0, .ref x0), (1, .int x1)]) C dX16_product_257 (pm_nl X (by decide)) rfl ?_
                  refine pm_lload C dX16_product_259 rfl ?_
                  refine pm_lload C dX16_product_261 rfl ?_
                  refine pm_lload C dX16_product_263 rfl ?_
                  refine pm_lmul C dX16_product_265 ?_
                  refine pm_bipush (v := 54) C dX16_product_266 (by decide) ?_
                  refine pm_lshl C dX16_product_268 ?_
                  refine pm_ladd C dX16_product_269 ?_
                  obtain ⟨y77, e78, hf⟩ := pm_lt hf
                  refine pm_topL e78 ?_
                  refine pm_lstore (lv' := [(21, .long y77), (19, .long y75), (17, .long y55), (15, .long y53), (13, .long y51), (11, .long y49), (9, .long y47), (7, .long y45), (6, .int s0), (0, .ref x0), (1, .int x1)]) C dX16_product_270 (pm_nl X (by decide)) rfl ?_
                  refine pm_lload C dX16_product_272 rfl ?_
                  refine pm_lload C dX16_product_274 rfl ?_
                  refine pm_lload C dX16_product_276 rfl ?_
                  refine pm_lmul C dX16_product_278 ?_
                  refine pm_bipush (v := 10) C dX16_product_279 (by decide) ?_
                  refine pm_lushr C dX16_product_281 ?_
                  refine pm_ladd C dX16_product_282 ?_
                  obtain ⟨y79, e80, hf⟩ := pm_lt hf
                  refine pm_topL e80 ?_
                  refine pm_lstore (lv' := [(19, .long y79), (21, .long y77), (17, .long y55), (15, .long y53), (13, .long y51), (11, .long y49), (9, .long y47), (7, .long y45), (6, .int s0), (0, .ref x0), (1, .int x1)]) C dX16_product_283 (pm_nl X (by decide)) rfl ?_
                  refine pm_lload C dX16_product_285 rfl ?_
                  refine pm_lload C dX16_product_287 rfl ?_
                  obtain ⟨v81, e82, hf⟩ := pm_lt hf
                  refine pm_callS (as := [.long y77, .long y55]) (st := []) C X dX16_product_289 lnX16_827 myX16_isBelow stX16_isBelow ⟨by decide, by decide⟩ rfl rfl (Nat.le_of_ble_eq_true rfl) (Nat.le_refl _) (Nat.le_refl _) (ctX16_isBelow e82 ?_)
                  show pm_G g 292 [(19, .long y79), (21, .long y77), (17, .long y55), (15, .long y53), (13, .long y51), (11, .long y49), (9, .long y47), (7, .long y45), (6, .int s0), (0, .ref x0), (1, .int x1)] [.int v81] h 0 0
                  refine pm_if_eq (tgt := 302) C dX16_product_292 (by decide) (fun c83 => ?_) (fun c83 => ?_)
                  · have hf := pm_it hf c83
                    refine pm_lload C dX16_product_302 rfl ?_
                    refine pm_lstore (lv' := [(19, .long y79), (21, .long y77), (17, .long y55), (15, .long y53), (13, .long y51), (11, .long y49), (9, .long y47), (7, .long y45), (6, .int s0), (0, .ref x0), (1, .int x1)]) C dX16_product_304 (pm_nl X (by decide)) rfl ?_
                    refine pm_iload_n C dX16_product_306 rfl rfl ?_
                    refine pm_iload C dX16_product_307 rfl ?_
                    refine pm_lload C dX16_product_309 rfl ?_
                    refine pm_lload C dX16_product_311 rfl ?_
                    refine pm_aload_n C dX16_product_313 rfl rfl ?_
                    refine pm_getR C dX16_product_314 flX16_61 rfl k21 e23 ?_
                    refine pm_getI C dX16_product_317 flX16_913 rfl k24 rfl ?_
                    refine pm_aload_n C dX16_product_320 rfl rfl ?_
                    refine pm_getR C dX16_product_321 flX16_65 rfl k21 e29 ?_
                    refine pm_getI C dX16_product_324 flX16_913 rfl k30 rfl ?_
                    refine pm_iadd C dX16_product_327 ?_
                    refine pm_iconst (v := 0) C dX16_product_328 (by decide) ?_
                    obtain ⟨v84, e85, hf⟩ := pm_bd hf
                    refine pm_callS (as := [.int x1, .int s0, .long y79, .long y77, .int ((pm_I h v22 3) + (pm_I h v28 3)), .int 0]) (st := []) C X dX16_product_329 lnX16_924 myX16_rounded stX16_rounded ⟨by decide, by decide⟩ rfl rfl (Nat.le_of_ble_eq_true rfl) (Nat.le_refl _) (Nat.le_refl _) (ctX16_rounded e85 ?_)
                    show pm_G g 332 [(19, .long y79), (21, .long y77), (17, .long y55), (15, .long y53), (13, .long y51), (11, .long y49), (9, .long y47), (7, .long y45), (6, .int s0), (0, .ref x0), (1, .int x1)] [.long v84] h 0 0
                    cases hf
                    exact pm_lret C X dX16_product_332 rfl (Nat.le_refl _) (Nat.le_refl _) q
                  · have hf := pm_ie hf c83
                    refine pm_lload C dX16_product_295 rfl ?_
                    refine pm_lconst (v := 1) C dX16_product_297 (by decide) ?_
                    refine pm_ladd C dX16_product_298 ?_
                    refine pm_goto (tgt := 304) C dX16_product_299 (by decide) ?_
                    obtain ⟨y86, e87, hf⟩ := pm_lt hf
                    refine pm_topL e87 ?_
                    refine pm_lstore (lv' := [(19, .long y86), (21, .long y77), (17, .long y55), (15, .long y53), (13, .long y51), (11, .long y49), (9, .long y47), (7, .long y45), (6, .int s0), (0, .ref x0), (1, .int x1)]) C dX16_product_304 (pm_nl X (by decide)) rfl ?_
                    refine pm_iload_n C dX16_product_306 rfl rfl ?_
                    refine pm_iload C dX16_product_307 rfl ?_
                    refine pm_lload C dX16_product_309 rfl ?_
                    refine pm_lload C dX16_product_311 rfl ?_
                    refine pm_aload_n C dX16_product_313 rfl rfl ?_
                    refine pm_getR C dX16_product_314 flX16_61 rfl k21 e23 ?_
                    refine pm_getI C dX16_product_317 flX16_913 rfl k24 rfl ?_
                    refine pm_aload_n C dX16_product_320 rfl rfl ?_
                    refine pm_getR C dX16_product_321 flX16_65 rfl k21 e29 ?_
                    refine pm_getI C dX16_product_324 flX16_913 rfl k30 rfl ?_
                    refine pm_iadd C dX16_product_327 ?_
                    refine pm_iconst (v := 0) C dX16_product_328 (by decide) ?_
                    obtain ⟨v88, e89, hf⟩ := pm_bd hf
                    refine pm_callS (as := [.int x1, .int s0, .long y86, .long y77, .int ((pm_I h v22 3) + (pm_I h v28 3)), .int 0]) (st := []) C X dX16_product_329 lnX16_924 myX16_rounded stX16_rounded ⟨by decide, by decide⟩ rfl rfl (Nat.le_of_ble_eq_true rfl) (Nat.le_refl _) (Nat.le_refl _) (ctX16_rounded e89 ?_)
                    show pm_G g 332 [(19, .long y86), (21, .long y77), (17, .long y55), (15, .long y53), (13, .long y51), (11, .long y49), (9, .long y47), (7, .long y45), (6, .int s0), (0, .ref x0), (1, .int x1)] [.long v88] h 0 0
                    cases hf
                    exact pm_lret C X dX16_product_332 rfl (Nat.le_refl _) (Nat.le_refl _) q
              · have hf := pm_it hf c44
                refine pm_iload_n C dX16_product_144 rfl rfl ?_
                refine pm_iload C dX16_product_145 rfl ?_
                refine pm_lconst (v := 0) C dX16_product_147 (by decide) ?_
                obtain ⟨v90, e91, hf⟩ := pm_lt hf
                refine pm_callS (as := [.int x1, .int s0, .long 0]) (st := []) C X dX16_product_148 lnX16_882 myX16_withSign stX16_withSign ⟨by decide, by decide⟩ rfl rfl (Nat.le_of_ble_eq_true rfl) (Nat.le_refl _) (Nat.le_refl _) (ctX16_withSign e91 ?_)
                show pm_G g 151 [(6, .int s0), (0, .ref x0), (1, .int x1)] [.long v90] h 0 0
                cases hf
                exact pm_lret C X dX16_product_151 rfl (Nat.le_refl _) (Nat.le_refl _) q
          · have hf := pm_it hf c40
            refine pm_iload_n C dX16_product_111 rfl rfl ?_
            refine pm_iload C dX16_product_112 rfl ?_
            refine pm_iload_n C dX16_product_114 rfl rfl ?_
            obtain ⟨v92, e93, hf⟩ := pm_lt hf
            refine pm_callS (as := [.int x1]) (st := [.int s0, .int x1]) C X dX16_product_115 lnX16_888 myX16_infinite stX16_infinite ⟨by decide, by decide⟩ rfl rfl (Nat.le_of_ble_eq_true rfl) (Nat.le_refl _) (Nat.le_refl _) (ctX16_infinite e93 ?_)
            show pm_G g 118 [(6, .int s0), (0, .ref x0), (1, .int x1)] [.long v92, .int s0, .int x1] h 0 0
            obtain ⟨v94, e95, hf⟩ := pm_lt hf
            refine pm_callS (as := [.int x1, .int s0, .long v92]) (st := []) C X dX16_product_118 lnX16_882 myX16_withSign stX16_withSign ⟨by decide, by decide⟩ rfl rfl (Nat.le_of_ble_eq_true rfl) (Nat.le_refl _) (Nat.le_refl _) (ctX16_withSign e95 ?_)
            show pm_G g 121 [(6, .int s0), (0, .ref x0), (1, .int x1)] [.long v94] h 0 0
            cases hf
            exact pm_lret C X dX16_product_121 rfl (Nat.le_refl _) (Nat.le_refl _) q
      · have hf := pm_it hf c34
        refine pm_iload_n C dX16_product_84 rfl rfl ?_
        obtain ⟨v96, e97, hf⟩ := pm_lt hf
        refine pm_callS (as := [.int x1]) (st := []) C X dX16_product_85 lnX16_910 myX16_noneOf stX16_noneOf ⟨by decide, by decide⟩ rfl rfl (Nat.le_of_ble_eq_true rfl) (Nat.le_refl _) (Nat.le_refl _) (ctX16_noneOf e97 ?_)
        show pm_G g 88 [(6, .int s0), (0, .ref x0), (1, .int x1)] [.long v96] h 0 0
        cases hf
        exact pm_lret C X dX16_product_88 rfl (Nat.le_refl _) (Nat.le_refl _) q
set_option maxHeartbeats 4000000 in
set_option maxRecDepth 100000 in
theorem ctX16_product {l : Launch} {G : pm_Gl} {h : pm_H} {a0 : Nat} {p1 : Int32} {p2 : Int64} {p3 : Int64} {r : (Int64 × pm_H)} {Qr : Option Value → pm_H → Prop} (hf : fX16_product h a0 p1 p2 p3 = some r) (q : Qr (some (.long r.1)) r.2) : pm_Ct l G mX16_product [.ref a0, .int p1, .long p2, .long p3] h 0 0 Qr := by
  refine pm_body pnX16 (Nat.le_of_ble_eq_true rfl) (fun g C X => ?_)
  have C : pm_C g cX16_product RX16 := C
  show pm_G g 0 [(0, .ref a0), (1, .int p1), (2, .long p2), (4, .long p3)] [] h 0 0
  unfold fX16_product at hf
  refine pm_aload_n C dX16_product_0 rfl rfl ?_
  obtain ⟨k1, hf⟩ := pm_if hf
  obtain ⟨v2, e3, hf⟩ := pm_bd hf
  refine pm_getR C dX16_product_1 flX16_61 rfl k1 e3 ?_
  refine pm_iload_n C dX16_product_4 rfl rfl ?_
  refine pm_lload_n C dX16_product_5 rfl rfl ?_
  obtain ⟨k4, hf⟩ := pm_if hf
  obtain ⟨v5, e6, hf⟩ := pm_bd hf
  refine pm_callV (as := [.int p1, .long p2]) (st := []) C X dX16_product_6 lnX16_868 myX15_read viX15_read ⟨by decide, by decide⟩ rfl rfl k4 (Nat.le_of_ble_eq_true rfl) (Nat.le_refl _) (Nat.le_refl _) (ctX15_read e6 ?_)
  show pm_G g 9 [(0, .ref a0), (1, .int p1), (2, .long p2), (4, .long p3)] [] v5 0 0
  refine pm_aload_n C dX16_product_9 rfl rfl ?_
  obtain ⟨k7, hf⟩ := pm_if hf
  obtain ⟨v8, e9, hf⟩ := pm_bd hf
  refine pm_getR C dX16_product_10 flX16_65 rfl k7 e9 ?_
  refine pm_iload_n C dX16_product_13 rfl rfl ?_
  refine pm_lload C dX16_product_14 rfl ?_
  obtain ⟨k10, hf⟩ := pm_if hf
  obtain ⟨v11, e12, hf⟩ := pm_bd hf
  refine pm_callV (as := [.int p1, .long p3]) (st := []) C X dX16_product_16 lnX16_868 myX15_read viX15_read ⟨by decide, by decide⟩ rfl rfl k10 (Nat.le_of_ble_eq_true rfl) (Nat.le_refl _) (Nat.le_refl _) (ctX15_read e12 ?_)
  show pm_G g 19 [(0, .ref a0), (1, .int p1), (2, .long p2), (4, .long p3)] [] v11 0 0
  refine pm_aload_n C dX16_product_19 rfl rfl ?_
  obtain ⟨k13, hf⟩ := pm_if hf
  obtain ⟨v14, e15, hf⟩ := pm_bd hf
  refine pm_getR C dX16_product_20 flX16_61 rfl k13 e15 ?_
  obtain ⟨k16, hf⟩ := pm_if hf
  refine pm_getI C dX16_product_23 flX16_921 rfl k16 rfl ?_
  refine pm_aload_n C dX16_product_26 rfl rfl ?_
  obtain ⟨v17, e18, hf⟩ := pm_bd hf
  refine pm_getR C dX16_product_27 flX16_65 rfl k13 e18 ?_
  obtain ⟨k19, hf⟩ := pm_if hf
  refine pm_getI C dX16_product_30 flX16_921 rfl k19 rfl ?_
  refine pm_icmp_eq (tgt := 40) C dX16_product_33 (by decide) (fun c20 => ?_) (fun c20 => ?_)
  · have hf := pm_it hf c20
    refine pm_iconst (v := 0) C dX16_product_40 (by decide) ?_
    exact pm_sub [0, 1] rfl (bX16_product_41 C X hf q)
  · have hf := pm_ie hf c20
    refine pm_iconst (v := 1) C dX16_product_36 (by decide) ?_
    refine pm_goto (tgt := 41) C dX16_product_37 (by decide) ?_
    exact pm_sub [0, 1] rfl (bX16_product_41 C X hf q)
theorem dX16_quotient_0 : decode cX16_quotient 0 = .ok (.aload_n 0, 1) := by decide +kernel
theorem dX16_quotient_1 : decode cX16_quotient 1 = .ok (.getfield 61, 3) := by decide +kernel
theorem dX16_quotient_4 : decode cX16_quotient 4 = .ok (.iload_n 1, 1) := by decide +kernel
theorem dX16_quotient_5 : decode cX16_quotient 5 = .ok (.lload_n 2, 1) := by decide +kernel
theorem dX16_quotient_6 : decode cX16_quotient 6 = .ok (.invokevirtual 868, 3) := by decide +kernel
theorem dX16_quotient_9 : decode cX16_quotient 9 = .ok (.aload_n 0, 1) := by decide +kernel
theorem dX16_quotient_10 : decode cX16_quotient 10 = .ok (.getfield 65, 3) := by decide +kernel
theorem dX16_quotient_13 : decode cX16_quotient 13 = .ok (.iload_n 1, 1) := by decide +kernel
theorem dX16_quotient_14 : decode cX16_quotient 14 = .ok (.lload 4, 2) := by decide +kernel
theorem dX16_quotient_16 : decode cX16_quotient 16 = .ok (.invokevirtual 868, 3) := by decide +kernel
theorem dX16_quotient_19 : decode cX16_quotient 19 = .ok (.aload_n 0, 1) := by decide +kernel
theorem dX16_quotient_20 : decode cX16_quotient 20 = .ok (.getfield 61, 3) := by decide +kernel
theorem dX16_quotient_23 : decode cX16_quotient 23 = .ok (.getfield 921, 3) := by decide +kernel
theorem dX16_quotient_26 : decode cX16_quotient 26 = .ok (.aload_n 0, 1) := by decide +kernel
theorem dX16_quotient_27 : decode cX16_quotient 27 = .ok (.getfield 65, 3) := by decide +kernel
theorem dX16_quotient_30 : decode cX16_quotient 30 = .ok (.getfield 921, 3) := by decide +kernel
theorem dX16_quotient_33 : decode cX16_quotient 33 = .ok (.if_icmp .eq 7, 3) := by decide +kernel
theorem dX16_quotient_36 : decode cX16_quotient 36 = .ok (.iconst 1, 1) := by decide +kernel
theorem dX16_quotient_37 : decode cX16_quotient 37 = .ok (.goto 4, 3) := by decide +kernel
theorem dX16_quotient_40 : decode cX16_quotient 40 = .ok (.iconst 0, 1) := by decide +kernel
theorem dX16_quotient_41 : decode cX16_quotient 41 = .ok (.istore 6, 2) := by decide +kernel
theorem dX16_quotient_43 : decode cX16_quotient 43 = .ok (.aload_n 0, 1) := by decide +kernel
theorem dX16_quotient_44 : decode cX16_quotient 44 = .ok (.getfield 61, 3) := by decide +kernel
theorem dX16_quotient_47 : decode cX16_quotient 47 = .ok (.getfield 871, 3) := by decide +kernel
theorem dX16_quotient_50 : decode cX16_quotient 50 = .ok (.iconst 3, 1) := by decide +kernel
theorem dX16_quotient_51 : decode cX16_quotient 51 = .ok (.if_icmp .eq 41, 3) := by decide +kernel
theorem dX16_quotient_54 : decode cX16_quotient 54 = .ok (.aload_n 0, 1) := by decide +kernel
theorem dX16_quotient_55 : decode cX16_quotient 55 = .ok (.getfield 65, 3) := by decide +kernel
theorem dX16_quotient_58 : decode cX16_quotient 58 = .ok (.getfield 871, 3) := by decide +kernel
theorem dX16_quotient_61 : decode cX16_quotient 61 = .ok (.iconst 3, 1) := by decide +kernel
theorem dX16_quotient_62 : decode cX16_quotient 62 = .ok (.if_icmp .eq 30, 3) := by decide +kernel
theorem dX16_quotient_65 : decode cX16_quotient 65 = .ok (.aload_n 0, 1) := by decide +kernel
theorem dX16_quotient_66 : decode cX16_quotient 66 = .ok (.getfield 61, 3) := by decide +kernel
theorem dX16_quotient_69 : decode cX16_quotient 69 = .ok (.getfield 871, 3) := by decide +kernel
theorem dX16_quotient_72 : decode cX16_quotient 72 = .ok (.aload_n 0, 1) := by decide +kernel
theorem dX16_quotient_73 : decode cX16_quotient 73 = .ok (.getfield 65, 3) := by decide +kernel
theorem dX16_quotient_76 : decode cX16_quotient 76 = .ok (.getfield 871, 3) := by decide +kernel
theorem dX16_quotient_79 : decode cX16_quotient 79 = .ok (.if_icmp .ne 18, 3) := by decide +kernel
theorem dX16_quotient_82 : decode cX16_quotient 82 = .ok (.aload_n 0, 1) := by decide +kernel
theorem dX16_quotient_83 : decode cX16_quotient 83 = .ok (.getfield 61, 3) := by decide +kernel
theorem dX16_quotient_86 : decode cX16_quotient 86 = .ok (.getfield 871, 3) := by decide +kernel
theorem dX16_quotient_89 : decode cX16_quotient 89 = .ok (.ifCond .le 8, 3) := by decide +kernel
theorem dX16_quotient_92 : decode cX16_quotient 92 = .ok (.iload_n 1, 1) := by decide +kernel
theorem dX16_quotient_93 : decode cX16_quotient 93 = .ok (.invokestatic 910, 3) := by decide +kernel
theorem dX16_quotient_96 : decode cX16_quotient 96 = .ok (.lreturn, 1) := by decide +kernel
theorem dX16_quotient_97 : decode cX16_quotient 97 = .ok (.aload_n 0, 1) := by decide +kernel
theorem dX16_quotient_98 : decode cX16_quotient 98 = .ok (.getfield 61, 3) := by decide +kernel
theorem dX16_quotient_101 : decode cX16_quotient 101 = .ok (.getfield 871, 3) := by decide +kernel
theorem dX16_quotient_104 : decode cX16_quotient 104 = .ok (.iconst 2, 1) := by decide +kernel
theorem dX16_quotient_105 : decode cX16_quotient 105 = .ok (.if_icmp .eq 14, 3) := by decide +kernel
theorem dX16_quotient_108 : decode cX16_quotient 108 = .ok (.aload_n 0, 1) := by decide +kernel
theorem dX16_quotient_109 : decode cX16_quotient 109 = .ok (.getfield 65, 3) := by decide +kernel
theorem dX16_quotient_112 : decode cX16_quotient 112 = .ok (.getfield 871, 3) := by decide +kernel
theorem dX16_quotient_115 : decode cX16_quotient 115 = .ok (.iconst 1, 1) := by decide +kernel
theorem dX16_quotient_116 : decode cX16_quotient 116 = .ok (.if_icmp .ne 14, 3) := by decide +kernel
theorem dX16_quotient_119 : decode cX16_quotient 119 = .ok (.iload_n 1, 1) := by decide +kernel
theorem dX16_quotient_120 : decode cX16_quotient 120 = .ok (.iload 6, 2) := by decide +kernel
theorem dX16_quotient_122 : decode cX16_quotient 122 = .ok (.iload_n 1, 1) := by decide +kernel
theorem dX16_quotient_123 : decode cX16_quotient 123 = .ok (.invokestatic 888, 3) := by decide +kernel
theorem dX16_quotient_126 : decode cX16_quotient 126 = .ok (.invokestatic 882, 3) := by decide +kernel
theorem dX16_quotient_129 : decode cX16_quotient 129 = .ok (.lreturn, 1) := by decide +kernel
theorem dX16_quotient_130 : decode cX16_quotient 130 = .ok (.aload_n 0, 1) := by decide +kernel
theorem dX16_quotient_131 : decode cX16_quotient 131 = .ok (.getfield 61, 3) := by decide +kernel
theorem dX16_quotient_134 : decode cX16_quotient 134 = .ok (.getfield 871, 3) := by decide +kernel
theorem dX16_quotient_137 : decode cX16_quotient 137 = .ok (.iconst 1, 1) := by decide +kernel
theorem dX16_quotient_138 : decode cX16_quotient 138 = .ok (.if_icmp .eq 14, 3) := by decide +kernel
theorem dX16_quotient_141 : decode cX16_quotient 141 = .ok (.aload_n 0, 1) := by decide +kernel
theorem dX16_quotient_142 : decode cX16_quotient 142 = .ok (.getfield 65, 3) := by decide +kernel
theorem dX16_quotient_145 : decode cX16_quotient 145 = .ok (.getfield 871, 3) := by decide +kernel
theorem dX16_quotient_148 : decode cX16_quotient 148 = .ok (.iconst 2, 1) := by decide +kernel
theorem dX16_quotient_149 : decode cX16_quotient 149 = .ok (.if_icmp .ne 11, 3) := by decide +kernel
theorem dX16_quotient_152 : decode cX16_quotient 152 = .ok (.iload_n 1, 1) := by decide +kernel
theorem dX16_quotient_153 : decode cX16_quotient 153 = .ok (.iload 6, 2) := by decide +kernel
theorem dX16_quotient_155 : decode cX16_quotient 155 = .ok (.lconst 0, 1) := by decide +kernel
theorem dX16_quotient_156 : decode cX16_quotient 156 = .ok (.invokestatic 882, 3) := by decide +kernel
theorem dX16_quotient_159 : decode cX16_quotient 159 = .ok (.lreturn, 1) := by decide +kernel
theorem dX16_quotient_160 : decode cX16_quotient 160 = .ok (.aload_n 0, 1) := by decide +kernel
theorem dX16_quotient_161 : decode cX16_quotient 161 = .ok (.getfield 61, 3) := by decide +kernel
theorem dX16_quotient_164 : decode cX16_quotient 164 = .ok (.getfield 916, 3) := by decide +kernel
theorem dX16_quotient_167 : decode cX16_quotient 167 = .ok (.lstore 7, 2) := by decide +kernel
theorem dX16_quotient_169 : decode cX16_quotient 169 = .ok (.aload_n 0, 1) := by decide +kernel
theorem dX16_quotient_170 : decode cX16_quotient 170 = .ok (.getfield 65, 3) := by decide +kernel
theorem dX16_quotient_173 : decode cX16_quotient 173 = .ok (.getfield 916, 3) := by decide +kernel
theorem dX16_quotient_176 : decode cX16_quotient 176 = .ok (.lstore 9, 2) := by decide +kernel
theorem dX16_quotient_178 : decode cX16_quotient 178 = .ok (.aload_n 0, 1) := by decide +kernel
theorem dX16_quotient_179 : decode cX16_quotient 179 = .ok (.getfield 61, 3) := by decide +kernel
theorem dX16_quotient_182 : decode cX16_quotient 182 = .ok (.getfield 913, 3) := by decide +kernel
theorem dX16_quotient_185 : decode cX16_quotient 185 = .ok (.aload_n 0, 1) := by decide +kernel
theorem dX16_quotient_186 : decode cX16_quotient 186 = .ok (.getfield 65, 3) := by decide +kernel
theorem dX16_quotient_189 : decode cX16_quotient 189 = .ok (.getfield 913, 3) := by decide +kernel
theorem dX16_quotient_192 : decode cX16_quotient 192 = .ok (.isub, 1) := by decide +kernel
theorem dX16_quotient_193 : decode cX16_quotient 193 = .ok (.istore 11, 2) := by decide +kernel
theorem dX16_quotient_195 : decode cX16_quotient 195 = .ok (.lload 7, 2) := by decide +kernel
theorem dX16_quotient_197 : decode cX16_quotient 197 = .ok (.ldc2_w 928, 3) := by decide +kernel
theorem dX16_quotient_200 : decode cX16_quotient 200 = .ok (.lcmp, 1) := by decide +kernel
theorem dX16_quotient_201 : decode cX16_quotient 201 = .ok (.ifCond .ge 15, 3) := by decide +kernel
theorem dX16_quotient_204 : decode cX16_quotient 204 = .ok (.iinc 11 (-1), 3) := by decide +kernel
theorem dX16_quotient_207 : decode cX16_quotient 207 = .ok (.lload 7, 2) := by decide +kernel
theorem dX16_quotient_209 : decode cX16_quotient 209 = .ok (.iconst 1, 1) := by decide +kernel
theorem dX16_quotient_210 : decode cX16_quotient 210 = .ok (.lshl, 1) := by decide +kernel
theorem dX16_quotient_211 : decode cX16_quotient 211 = .ok (.lstore 7, 2) := by decide +kernel
theorem dX16_quotient_213 : decode cX16_quotient 213 = .ok (.goto (-18), 3) := by decide +kernel
theorem dX16_quotient_216 : decode cX16_quotient 216 = .ok (.lload 9, 2) := by decide +kernel
theorem dX16_quotient_218 : decode cX16_quotient 218 = .ok (.ldc2_w 928, 3) := by decide +kernel
theorem dX16_quotient_221 : decode cX16_quotient 221 = .ok (.lcmp, 1) := by decide +kernel
theorem dX16_quotient_222 : decode cX16_quotient 222 = .ok (.ifCond .ge 15, 3) := by decide +kernel
theorem dX16_quotient_225 : decode cX16_quotient 225 = .ok (.iinc 11 1, 3) := by decide +kernel
theorem dX16_quotient_228 : decode cX16_quotient 228 = .ok (.lload 9, 2) := by decide +kernel
theorem dX16_quotient_230 : decode cX16_quotient 230 = .ok (.iconst 1, 1) := by decide +kernel
theorem dX16_quotient_231 : decode cX16_quotient 231 = .ok (.lshl, 1) := by decide +kernel
theorem dX16_quotient_232 : decode cX16_quotient 232 = .ok (.lstore 9, 2) := by decide +kernel
theorem dX16_quotient_234 : decode cX16_quotient 234 = .ok (.goto (-18), 3) := by decide +kernel
theorem dX16_quotient_237 : decode cX16_quotient 237 = .ok (.lconst 0, 1) := by decide +kernel
theorem dX16_quotient_238 : decode cX16_quotient 238 = .ok (.lstore 12, 2) := by decide +kernel
theorem dX16_quotient_240 : decode cX16_quotient 240 = .ok (.iconst 0, 1) := by decide +kernel
theorem dX16_quotient_241 : decode cX16_quotient 241 = .ok (.istore 14, 2) := by decide +kernel
theorem dX16_quotient_243 : decode cX16_quotient 243 = .ok (.iload 14, 2) := by decide +kernel
theorem dX16_quotient_245 : decode cX16_quotient 245 = .ok (.bipush 57, 2) := by decide +kernel
theorem dX16_quotient_247 : decode cX16_quotient 247 = .ok (.if_icmp .ge 42, 3) := by decide +kernel
theorem dX16_quotient_250 : decode cX16_quotient 250 = .ok (.lload 12, 2) := by decide +kernel
theorem dX16_quotient_252 : decode cX16_quotient 252 = .ok (.iconst 1, 1) := by decide +kernel
theorem dX16_quotient_253 : decode cX16_quotient 253 = .ok (.lshl, 1) := by decide +kernel
theorem dX16_quotient_254 : decode cX16_quotient 254 = .ok (.lstore 12, 2) := by decide +kernel
theorem dX16_quotient_256 : decode cX16_quotient 256 = .ok (.lload 7, 2) := by decide +kernel
theorem dX16_quotient_258 : decode cX16_quotient 258 = .ok (.lload 9, 2) := by decide +kernel
theorem dX16_quotient_260 : decode cX16_quotient 260 = .ok (.lcmp, 1) := by decide +kernel
theorem dX16_quotient_261 : decode cX16_quotient 261 = .ok (.ifCond .lt 16, 3) := by decide +kernel
theorem dX16_quotient_264 : decode cX16_quotient 264 = .ok (.lload 7, 2) := by decide +kernel
theorem dX16_quotient_266 : decode cX16_quotient 266 = .ok (.lload 9, 2) := by decide +kernel
theorem dX16_quotient_268 : decode cX16_quotient 268 = .ok (.lsub, 1) := by decide +kernel
theorem dX16_quotient_269 : decode cX16_quotient 269 = .ok (.lstore 7, 2) := by decide +kernel
theorem dX16_quotient_271 : decode cX16_quotient 271 = .ok (.lload 12, 2) := by decide +kernel
theorem dX16_quotient_273 : decode cX16_quotient 273 = .ok (.lconst 1, 1) := by decide +kernel
theorem dX16_quotient_274 : decode cX16_quotient 274 = .ok (.ladd, 1) := by decide +kernel
theorem dX16_quotient_275 : decode cX16_quotient 275 = .ok (.lstore 12, 2) := by decide +kernel
theorem dX16_quotient_277 : decode cX16_quotient 277 = .ok (.lload 7, 2) := by decide +kernel
theorem dX16_quotient_279 : decode cX16_quotient 279 = .ok (.iconst 1, 1) := by decide +kernel
theorem dX16_quotient_280 : decode cX16_quotient 280 = .ok (.lshl, 1) := by decide +kernel
theorem dX16_quotient_281 : decode cX16_quotient 281 = .ok (.lstore 7, 2) := by decide +kernel
theorem dX16_quotient_283 : decode cX16_quotient 283 = .ok (.iinc 14 1, 3) := by decide +kernel
theorem dX16_quotient_286 : decode cX16_quotient 286 = .ok (.goto (-43), 3) := by decide +kernel
theorem dX16_quotient_289 : decode cX16_quotient 289 = .ok (.iload_n 1, 1) := by decide +kernel
theorem dX16_quotient_290 : decode cX16_quotient 290 = .ok (.iload 6, 2) := by decide +kernel
theorem dX16_quotient_292 : decode cX16_quotient 292 = .ok (.lconst 0, 1) := by decide +kernel
theorem dX16_quotient_293 : decode cX16_quotient 293 = .ok (.lload 12, 2) := by decide +kernel
theorem dX16_quotient_295 : decode cX16_quotient 295 = .ok (.iload 11, 2) := by decide +kernel
theorem dX16_quotient_297 : decode cX16_quotient 297 = .ok (.bipush 56, 2) := by decide +kernel
theorem dX16_quotient_299 : decode cX16_quotient 299 = .ok (.isub, 1) := by decide +kernel
theorem dX16_quotient_300 : decode cX16_quotient 300 = .ok (.lload 7, 2) := by decide +kernel
theorem dX16_quotient_302 : decode cX16_quotient 302 = .ok (.lconst 0, 1) := by decide +kernel
theorem dX16_quotient_303 : decode cX16_quotient 303 = .ok (.lcmp, 1) := by decide +kernel
theorem dX16_quotient_304 : decode cX16_quotient 304 = .ok (.ifCond .eq 7, 3) := by decide +kernel
theorem dX16_quotient_307 : decode cX16_quotient 307 = .ok (.iconst 1, 1) := by decide +kernel
theorem dX16_quotient_308 : decode cX16_quotient 308 = .ok (.goto 4, 3) := by decide +kernel
theorem dX16_quotient_311 : decode cX16_quotient 311 = .ok (.iconst 0, 1) := by decide +kernel
theorem dX16_quotient_312 : decode cX16_quotient 312 = .ok (.invokestatic 924, 3) := by decide +kernel
theorem dX16_quotient_315 : decode cX16_quotient 315 = .ok (.lreturn, 1) := by decide +kernel
noncomputable def tX16_quotient_41 (x0 : Nat) (x1 : Int32) (s0 : Int32) (h : pm_H) : Option (((Nat × Int32 × Int32 × pm_H) ⊕ (Int32 × Int32 × Int64 × Int64 × Int32 × pm_H) ⊕ (Int32 × Int32 × Int64 × Int64 × Int32 × pm_H) ⊕ (Int32 × Int32 × Int64 × Int64 × Int32 × Int64 × Int32 × pm_H)) ⊕ (Int64 × pm_H)) := if pm_kd h x0 = 16 then (pm_R h x0 34).bind fun v22 => if pm_kd h v22 = 15 then if (pm_I h v22 1) = 3 then (pm_let (fX16_noneOf x1) fun v26 => some (.inr ((v26, h)))) else ((pm_R h x0 35).bind fun v28 => if pm_kd h v28 = 15 then if (pm_I h v28 1) = 3 then (pm_let (fX16_noneOf x1) fun v32 => some (.inr ((v32, h)))) else (if (pm_I h v22 1) = (pm_I h v28 1) then (if (pm_I h v22 1) ≤ 0 then (if (pm_I h v22 1) = 2 then (pm_let (fX16_infinite x1) fun v59 => pm_let (fX16_withSign x1 s0 v59) fun v61 => some (.inr ((v61, h)))) else (if (pm_I h v28 1) = 1 then (pm_let (fX16_infinite x1) fun v76 => pm_let (fX16_withSign x1 s0 v76) fun v78 => some (.inr ((v78, h)))) else (if (pm_I h v22 1) = 1 then (pm_let (fX16_withSign x1 s0 0) fun v65 => some (.inr ((v65, h)))) else (if (pm_I h v28 1) = 2 then (pm_let (fX16_withSign x1 s0 0) fun v74 => some (.inr ((v74, h)))) else (pm_let (pm_L h v22 2) fun y68 => pm_let (pm_L h v28 2) fun y70 => pm_let ((pm_I h v22 3) - (pm_I h v28 3)) fun y72 => some (.inl (.inr (.inl ((x1, s0, y68, y70, y72, h)))))))))) else (pm_let (fX16_noneOf x1) fun v80 => some (.inr ((v80, h))))) else (if (pm_I h v22 1) = 2 then (pm_let (fX16_infinite x1) fun v36 => pm_let (fX16_withSign x1 s0 v36) fun v38 => some (.inr ((v38, h)))) else (if (pm_I h v28 1) = 1 then (pm_let (fX16_infinite x1) fun v53 => pm_let (fX16_withSign x1 s0 v53) fun v55 => some (.inr ((v55, h)))) else (if (pm_I h v22 1) = 1 then (pm_let (fX16_withSign x1 s0 0) fun v42 => some (.inr ((v42, h)))) else (if (pm_I h v28 1) = 2 then (pm_let (fX16_withSign x1 s0 0) fun v51 => some (.inr ((v51, h)))) else (pm_let (pm_L h v22 2) fun y45 => pm_let (pm_L h v28 2) fun y47 => pm_let ((pm_I h v22 3) - (pm_I h v28 3)) fun y49 => some (.inl (.inr (.inl ((x1, s0, y45, y47, y49, h))))))))))) else none) else none else none
noncomputable def tX16_quotient_195 (x1 : Int32) (x6 : Int32) (x7 : Int64) (x9 : Int64) (x11 : Int32) (h : pm_H) : Option (((Nat × Int32 × Int32 × pm_H) ⊕ (Int32 × Int32 × Int64 × Int64 × Int32 × pm_H) ⊕ (Int32 × Int32 × Int64 × Int64 × Int32 × pm_H) ⊕ (Int32 × Int32 × Int64 × Int64 × Int32 × Int64 × Int32 × pm_H)) ⊕ (Int64 × pm_H)) := if 4503599627370496 ≤ x7 then (some (.inl (.inr (.inr (.inl ((x1, x6, x7, x9, x11, h))))))) else (pm_let (x11 + (-1)) fun y83 => pm_let (x7 <<< ((1 : Int32).toInt64 &&& 63)) fun y85 => some (.inl (.inr (.inl ((x1, x6, y85, x9, y83, h))))))
noncomputable def tX16_quotient_216 (x1 : Int32) (x6 : Int32) (x7 : Int64) (x9 : Int64) (x11 : Int32) (h : pm_H) : Option (((Nat × Int32 × Int32 × pm_H) ⊕ (Int32 × Int32 × Int64 × Int64 × Int32 × pm_H) ⊕ (Int32 × Int32 × Int64 × Int64 × Int32 × pm_H) ⊕ (Int32 × Int32 × Int64 × Int64 × Int32 × Int64 × Int32 × pm_H)) ⊕ (Int64 × pm_H)) := if 4503599627370496 ≤ x9 then (some (.inl (.inr (.inr (.inr ((x1, x6, x7, x9, x11, 0, 0, h))))))) else (pm_let (x11 + 1) fun y88 => pm_let (x9 <<< ((1 : Int32).toInt64 &&& 63)) fun y90 => some (.inl (.inr (.inr (.inl ((x1, x6, x7, y90, y88, h)))))))
noncomputable def tX16_quotient_243 (x1 : Int32) (x6 : Int32) (x7 : Int64) (x9 : Int64) (x11 : Int32) (x12 : Int64) (x14 : Int32) (h : pm_H) : Option (((Nat × Int32 × Int32 × pm_H) ⊕ (Int32 × Int32 × Int64 × Int64 × Int32 × pm_H) ⊕ (Int32 × Int32 × Int64 × Int64 × Int32 × pm_H) ⊕ (Int32 × Int32 × Int64 × Int64 × Int32 × Int64 × Int32 × pm_H)) ⊕ (Int64 × pm_H)) := if 57 ≤ x14 then (if x7 = 0 then ((fX16_rounded x1 x6 0 x12 (x11 - 56) 0).bind fun v94 => some (.inr ((v94, h)))) else ((fX16_rounded x1 x6 0 x12 (x11 - 56) 1).bind fun v96 => some (.inr ((v96, h))))) else (pm_let (x12 <<< ((1 : Int32).toInt64 &&& 63)) fun y98 => if x7 < x9 then (pm_let (x7 <<< ((1 : Int32).toInt64 &&& 63)) fun y101 => pm_let (x14 + 1) fun y103 => some (.inl (.inr (.inr (.inr ((x1, x6, y101, x9, x11, y98, y103, h))))))) else (pm_let (x7 - x9) fun y105 => pm_let (y98 + 1) fun y107 => pm_let (y105 <<< ((1 : Int32).toInt64 &&& 63)) fun y109 => pm_let (x14 + 1) fun y111 => some (.inl (.inr (.inr (.inr ((x1, x6, y109, x9, x11, y107, y111, h))))))))
noncomputable def sX16_quotient : ((Nat × Int32 × Int32 × pm_H) ⊕ (Int32 × Int32 × Int64 × Int64 × Int32 × pm_H) ⊕ (Int32 × Int32 × Int64 × Int64 × Int32 × pm_H) ⊕ (Int32 × Int32 × Int64 × Int64 × Int32 × Int64 × Int32 × pm_H)) → Option (((Nat × Int32 × Int32 × pm_H) ⊕ (Int32 × Int32 × Int64 × Int64 × Int32 × pm_H) ⊕ (Int32 × Int32 × Int64 × Int64 × Int32 × pm_H) ⊕ (Int32 × Int32 × Int64 × Int64 × Int32 × Int64 × Int32 × pm_H)) ⊕ (Int64 × pm_H)) := fun z => match z with
  | .inl (x0, x1, s0, h) => tX16_quotient_41 x0 x1 s0 h
  | .inr (.inl (x1, x6, x7, x9, x11, h)) => tX16_quotient_195 x1 x6 x7 x9 x11 h
  | .inr (.inr (.inl (x1, x6, x7, x9, x11, h))) => tX16_quotient_216 x1 x6 x7 x9 x11 h
  | .inr (.inr (.inr (x1, x6, x7, x9, x11, x12, x14, h))) => tX16_quotient_243 x1 x6 x7 x9 x11 x12 x14 h
noncomputable def fX16_quotient (h : pm_H) (a0 : Nat) (p1 : Int32) (p2 : Int64) (p3 : Int64) : Option (Int64 × pm_H) := if pm_kd h a0 = 16 then (pm_R h a0 34).bind fun v2 => if pm_kd h v2 = 15 then (fX15_read h v2 p1 p2).bind fun v5 => if pm_kd v5 a0 = 16 then (pm_R v5 a0 35).bind fun v8 => if pm_kd v5 v8 = 15 then (fX15_read v5 v8 p1 p3).bind fun v11 => if pm_kd v11 a0 = 16 then (pm_R v11 a0 34).bind fun v14 => if pm_kd v11 v14 = 15 then (pm_R v11 a0 35).bind fun v17 => if pm_kd v11 v17 = 15 then if (pm_I v11 v14 0) = (pm_I v11 v17 0) then (pm_lim sX16_quotient (.inl ((a0, p1, 0, v11)))) else (pm_lim sX16_quotient (.inl ((a0, p1, 1, v11)))) else none else none else none else none else none else none else none
set_option maxHeartbeats 4000000 in
set_option maxRecDepth 100000 in
theorem lpX16_quotient {g : pm_Gm} {l : Launch} {G : pm_Gl} {Qr : Option Value → pm_H → Prop} (C : pm_C g cX16_quotient RX16) (X : pm_X g l G mX16_quotient 0 0 Qr) {r : (Int64 × pm_H)} (q : Qr (some (.long r.1)) r.2) : ∀ n : Nat, (∀ (x0 : Nat) (x1 : Int32) (s0 : Int32) (h : pm_H), pm_iter sX16_quotient n (.inl (x0, x1, s0, h)) = some r → pm_G g 41 [(0, .ref x0), (1, .int x1)] [.int s0] h 0 0) ∧ (∀ (x1 : Int32) (x6 : Int32) (x7 : Int64) (x9 : Int64) (x11 : Int32) (h : pm_H), pm_iter sX16_quotient n (.inr (.inl (x1, x6, x7, x9, x11, h))) = some r → pm_G g 195 [(1, .int x1), (6, .int x6), (7, .long x7), (9, .long x9), (11, .int x11)] [] h 0 0) ∧ (∀ (x1 : Int32) (x6 : Int32) (x7 : Int64) (x9 : Int64) (x11 : Int32) (h : pm_H), pm_iter sX16_quotient n (.inr (.inr (.inl (x1, x6, x7, x9, x11, h)))) = some r → pm_G g 216 [(1, .int x1), (6, .int x6), (7, .long x7), (9, .long x9), (11, .int x11)] [] h 0 0) ∧ (∀ (x1 : Int32) (x6 : Int32) (x7 : Int64) (x9 : Int64) (x11 : Int32) (x12 : Int64) (x14 : Int32) (h : pm_H), pm_iter sX16_quotient n (.inr (.inr (.inr (x1, x6, x7, x9, x11, x12, x14, h)))) = some r → pm_G g 243 [(1, .int x1), (6, .int x6), (7, .long x7), (9, .long x9), (11, .int x11), (12, .long x12), (14, .int x14)] [] h 0 0) := by
  intro n
  induction n with
  | zero => exact ⟨fun _ _ _ _ hf => (by cases hf), fun _ _ _ _ _ _ hf => (by cases hf), fun _ _ _ _ _ _ hf => (by cases hf), fun _ _ _ _ _ _ _ _ hf => (by cases hf)⟩
  | succ n ih =>
    refine ⟨fun x0 x1 s0 h hf => ?_, ?_⟩
    · obtain ⟨y, hf, hi⟩ := pm_iter_s hf
      have hf : tX16_quotient_41 x0 x1 s0 h = some y := hf
      unfold tX16_quotient_41 at hf
      refine pm_istore (lv' := [(6, .int s0), (0, .ref x0), (1, .int x1)]) C dX16_quotient_41 (pm_nl X (by decide)) rfl ?_
      refine pm_aload_n C dX16_quotient_43 rfl rfl ?_
      obtain ⟨k21, hf⟩ := pm_if hf
      obtain ⟨v22, e23, hf⟩ := pm_bd hf
      refine pm_getR C dX16_quotient_44 flX16_61 rfl k21 e23 ?_
      obtain ⟨k24, hf⟩ := pm_if hf
      refine pm_getI C dX16_quotient_47 flX16_871 rfl k24 rfl ?_
      refine pm_iconst (v := 3) C dX16_quotient_50 (by decide) ?_
      refine pm_icmp_eq (tgt := 92) C dX16_quotient_51 (by decide) (fun c25 => ?_) (fun c25 => ?_)
      · have hf := pm_it hf c25
        refine pm_iload_n C dX16_quotient_92 rfl rfl ?_
        obtain ⟨v26, e27, hf⟩ := pm_lt hf
        refine pm_callS (as := [.int x1]) (st := []) C X dX16_quotient_93 lnX16_910 myX16_noneOf stX16_noneOf ⟨by decide, by decide⟩ rfl rfl (Nat.le_of_ble_eq_true rfl) (Nat.le_refl _) (Nat.le_refl _) (ctX16_noneOf e27 ?_)
        show pm_G g 96 [(6, .int s0), (0, .ref x0), (1, .int x1)] [.long v26] h 0 0
        cases hf
        cases hi
        exact pm_lret C X dX16_quotient_96 rfl (Nat.le_refl _) (Nat.le_refl _) q
      · have hf := pm_ie hf c25
        refine pm_aload_n C dX16_quotient_54 rfl rfl ?_
        obtain ⟨v28, e29, hf⟩ := pm_bd hf
        refine pm_getR C dX16_quotient_55 flX16_65 rfl k21 e29 ?_
        obtain ⟨k30, hf⟩ := pm_if hf
        refine pm_getI C dX16_quotient_58 flX16_871 rfl k30 rfl ?_
        refine pm_iconst (v := 3) C dX16_quotient_61 (by decide) ?_
        refine pm_icmp_eq (tgt := 92) C dX16_quotient_62 (by decide) (fun c31 => ?_) (fun c31 => ?_)
        · have hf := pm_it hf c31
          refine pm_iload_n C dX16_quotient_92 rfl rfl ?_
          obtain ⟨v32, e33, hf⟩ := pm_lt hf
          refine pm_callS (as := [.int x1]) (st := []) C X dX16_quotient_93 lnX16_910 myX16_noneOf stX16_noneOf ⟨by decide, by decide⟩ rfl rfl (Nat.le_of_ble_eq_true rfl) (Nat.le_refl _) (Nat.le_refl _) (ctX16_noneOf e33 ?_)
          show pm_G g 96 [(6, .int s0), (0, .ref x0), (1, .int x1)] [.long v32] h 0 0
          cases hf
          cases hi
          exact pm_lret C X dX16_quotient_96 rfl (Nat.le_refl _) (Nat.le_refl _) q
        · have hf := pm_ie hf c31
          refine pm_aload_n C dX16_quotient_65 rfl rfl ?_
          refine pm_getR C dX16_quotient_66 flX16_61 rfl k21 e23 ?_
          refine pm_getI C dX16_quotient_69 flX16_871 rfl k24 rfl ?_
          refine pm_aload_n C dX16_quotient_72 rfl rfl ?_
          refine pm_getR C dX16_quotient_73 flX16_65 rfl k21 e29 ?_
          refine pm_getI C dX16_quotient_76 flX16_871 rfl k30 rfl ?_
          refine pm_icmp_ne (tgt := 97) C dX16_quotient_79 (by decide) (fun c34 => ?_) (fun c34 => ?_)
          · have hf := pm_ie hf c34
            refine pm_aload_n C dX16_quotient_97 rfl rfl ?_
            refine pm_getR C dX16_quotient_98 flX16_61 rfl k21 e23 ?_
            refine pm_getI C dX16_quotient_101 flX16_871 rfl k24 rfl ?_
            refine pm_iconst (v := 2) C dX16_quotient_104 (by decide) ?_
            refine pm_icmp_eq (tgt := 119) C dX16_quotient_105 (by decide) (fun c35 => ?_) (fun c35 => ?_)
            · have hf := pm_it hf c35
              refine pm_iload_n C dX16_quotient_119 rfl rfl ?_
              refine pm_iload C dX16_quotient_120 rfl ?_
              refine pm_iload_n C dX16_quotient_122 rfl rfl ?_
              obtain ⟨v36, e37, hf⟩ := pm_lt hf
              refine pm_callS (as := [.int x1]) (st := [.int s0, .int x1]) C X dX16_quotient_123 lnX16_888 myX16_infinite stX16_infinite ⟨by decide, by decide⟩ rfl rfl (Nat.le_of_ble_eq_true rfl) (Nat.le_refl _) (Nat.le_refl _) (ctX16_infinite e37 ?_)
              show pm_G g 126 [(6, .int s0), (0, .ref x0), (1, .int x1)] [.long v36, .int s0, .int x1] h 0 0
              obtain ⟨v38, e39, hf⟩ := pm_lt hf
              refine pm_callS (as := [.int x1, .int s0, .long v36]) (st := []) C X dX16_quotient_126 lnX16_882 myX16_withSign stX16_withSign ⟨by decide, by decide⟩ rfl rfl (Nat.le_of_ble_eq_true rfl) (Nat.le_refl _) (Nat.le_refl _) (ctX16_withSign e39 ?_)
              show pm_G g 129 [(6, .int s0), (0, .ref x0), (1, .int x1)] [.long v38] h 0 0
              cases hf
              cases hi
              exact pm_lret C X dX16_quotient_129 rfl (Nat.le_refl _) (Nat.le_refl _) q
            · have hf := pm_ie hf c35
              refine pm_aload_n C dX16_quotient_108 rfl rfl ?_
              refine pm_getR C dX16_quotient_109 flX16_65 rfl k21 e29 ?_
              refine pm_getI C dX16_quotient_112 flX16_871 rfl k30 rfl ?_
              refine pm_iconst (v := 1) C dX16_quotient_115 (by decide) ?_
              refine pm_icmp_ne (tgt := 130) C dX16_quotient_116 (by decide) (fun c40 => ?_) (fun c40 => ?_)
              · have hf := pm_ie hf c40
                refine pm_aload_n C dX16_quotient_130 rfl rfl ?_
                refine pm_getR C dX16_quotient_131 flX16_61 rfl k21 e23 ?_
                refine pm_getI C dX16_quotient_134 flX16_871 rfl k24 rfl ?_
                refine pm_iconst (v := 1) C dX16_quotient_137 (by decide) ?_
                refine pm_icmp_eq (tgt := 152) C dX16_quotient_138 (by decide) (fun c41 => ?_) (fun c41 => ?_)
                · have hf := pm_it hf c41
                  refine pm_iload_n C dX16_quotient_152 rfl rfl ?_
                  refine pm_iload C dX16_quotient_153 rfl ?_
                  refine pm_lconst (v := 0) C dX16_quotient_155 (by decide) ?_
                  obtain ⟨v42, e43, hf⟩ := pm_lt hf
                  refine pm_callS (as := [.int x1, .int s0, .long 0]) (st := []) C X dX16_quotient_156 lnX16_882 myX16_withSign stX16_withSign ⟨by decide, by decide⟩ rfl rfl (Nat.le_of_ble_eq_true rfl) (Nat.le_refl _) (Nat.le_refl _) (ctX16_withSign e43 ?_)
                  show pm_G g 159 [(6, .int s0), (0, .ref x0), (1, .int x1)] [.long v42] h 0 0
                  cases hf
                  cases hi
                  exact pm_lret C X dX16_quotient_159 rfl (Nat.le_refl _) (Nat.le_refl _) q
                · have hf := pm_ie hf c41
                  refine pm_aload_n C dX16_quotient_141 rfl rfl ?_
                  refine pm_getR C dX16_quotient_142 flX16_65 rfl k21 e29 ?_
                  refine pm_getI C dX16_quotient_145 flX16_871 rfl k30 rfl ?_
                  refine pm_iconst (v := 2) C dX16_quotient_148 (by decide) ?_
                  refine pm_icmp_ne (tgt := 160) C dX16_quotient_149 (by decide) (fun c44 => ?_) (fun c44 => ?_)
                  · have hf := pm_ie hf c44
                    refine pm_aload_n C dX16_quotient_160 rfl rfl ?_
                    refine pm_getR C dX16_quotient_161 flX16_61 rfl k21 e23 ?_
                    refine pm_getL C dX16_quotient_164 flX16_916 rfl k24 rfl ?_
                    obtain ⟨y45, e46, hf⟩ := pm_lt hf
                    refine pm_topL e46 ?_
                    refine pm_lstore (lv' := [(7, .long y45), (6, .int s0), (0, .ref x0), (1, .int x1)]) C dX16_quotient_167 (pm_nl X (by decide)) rfl ?_
                    refine pm_aload_n C dX16_quotient_169 rfl rfl ?_
                    refine pm_getR C dX16_quotient_170 flX16_65 rfl k21 e29 ?_
                    refine pm_getL C dX16_quotient_173 flX16_916 rfl k30 rfl ?_
                    obtain ⟨y47, e48, hf⟩ := pm_lt hf
                    refine pm_topL e48 ?_
                    refine pm_lstore (lv' := [(9, .long y47), (7, .long y45), (6, .int s0), (0, .ref x0), (1, .int x1)]) C dX16_quotient_176 (pm_nl X (by decide)) rfl ?_
                    refine pm_aload_n C dX16_quotient_178 rfl rfl ?_
                    refine pm_getR C dX16_quotient_179 flX16_61 rfl k21 e23 ?_
                    refine pm_getI C dX16_quotient_182 flX16_913 rfl k24 rfl ?_
                    refine pm_aload_n C dX16_quotient_185 rfl rfl ?_
                    refine pm_getR C dX16_quotient_186 flX16_65 rfl k21 e29 ?_
                    refine pm_getI C dX16_quotient_189 flX16_913 rfl k30 rfl ?_
                    refine pm_isub C dX16_quotient_192 ?_
                    obtain ⟨y49, e50, hf⟩ := pm_lt hf
                    refine pm_topI e50 ?_
                    refine pm_istore (lv' := [(11, .int y49), (9, .long y47), (7, .long y45), (6, .int s0), (0, .ref x0), (1, .int x1)]) C dX16_quotient_193 (pm_nl X (by decide)) rfl ?_
                    cases hf
                    exact pm_sub [5, 3, 2, 1, 0] rfl (ih.2.1 x1 s0 y45 y47 y49 h hi)
                  · have hf := pm_it hf c44
                    refine pm_iload_n C dX16_quotient_152 rfl rfl ?_
                    refine pm_iload C dX16_quotient_153 rfl ?_
                    refine pm_lconst (v := 0) C dX16_quotient_155 (by decide) ?_
                    obtain ⟨v51, e52, hf⟩ := pm_lt hf
                    refine pm_callS (as := [.int x1, .int s0, .long 0]) (st := []) C X dX16_quotient_156 lnX16_882 myX16_withSign stX16_withSign ⟨by decide, by decide⟩ rfl rfl (Nat.le_of_ble_eq_true rfl) (Nat.le_refl _) (Nat.le_refl _) (ctX16_withSign e52 ?_)
                    show pm_G g 159 [(6, .int s0), (0, .ref x0), (1, .int x1)] [.long v51] h 0 0
                    cases hf
                    cases hi
                    exact pm_lret C X dX16_quotient_159 rfl (Nat.le_refl _) (Nat.le_refl _) q
              · have hf := pm_it hf c40
                refine pm_iload_n C dX16_quotient_119 rfl rfl ?_
                refine pm_iload C dX16_quotient_120 rfl ?_
                refine pm_iload_n C dX16_quotient_122 rfl rfl ?_
                obtain ⟨v53, e54, hf⟩ := pm_lt hf
                refine pm_callS (as := [.int x1]) (st := [.int s0, .int x1]) C X dX16_quotient_123 lnX16_888 myX16_infinite stX16_infinite ⟨by decide, by decide⟩ rfl rfl (Nat.le_of_ble_eq_true rfl) (Nat.le_refl _) (Nat.le_refl _) (ctX16_infinite e54 ?_)
                show pm_G g 126 [(6, .int s0), (0, .ref x0), (1, .int x1)] [.long v53, .int s0, .int x1] h 0 0
                obtain ⟨v55, e56, hf⟩ := pm_lt hf
                refine pm_callS (as := [.int x1, .int s0, .long v53]) (st := []) C X dX16_quotient_126 lnX16_882 myX16_withSign stX16_withSign ⟨by decide, by decide⟩ rfl rfl (Nat.le_of_ble_eq_true rfl) (Nat.le_refl _) (Nat.le_refl _) (ctX16_withSign e56 ?_)
                show pm_G g 129 [(6, .int s0), (0, .ref x0), (1, .int x1)] [.long v55] h 0 0
                cases hf
                cases hi
                exact pm_lret C X dX16_quotient_129 rfl (Nat.le_refl _) (Nat.le_refl _) q
          · have hf := pm_it hf c34
            refine pm_aload_n C dX16_quotient_82 rfl rfl ?_
            refine pm_getR C dX16_quotient_83 flX16_61 rfl k21 e23 ?_
            refine pm_getI C dX16_quotient_86 flX16_871 rfl k24 rfl ?_
            refine pm_if_le (tgt := 97) C dX16_quotient_89 (by decide) (fun c57 => ?_) (fun c57 => ?_)
            · have hf := pm_it hf c57
              refine pm_aload_n C dX16_quotient_97 rfl rfl ?_
              refine pm_getR C dX16_quotient_98 flX16_61 rfl k21 e23 ?_
              refine pm_getI C dX16_quotient_101 flX16_871 rfl k24 rfl ?_
              refine pm_iconst (v := 2) C dX16_quotient_104 (by decide) ?_
              refine pm_icmp_eq (tgt := 119) C dX16_quotient_105 (by decide) (fun c58 => ?_) (fun c58 => ?_)
              · have hf := pm_it hf c58
                refine pm_iload_n C dX16_quotient_119 rfl rfl ?_
                refine pm_iload C dX16_quotient_120 rfl ?_
                refine pm_iload_n C dX16_quotient_122 rfl rfl ?_
                obtain ⟨v59, e60, hf⟩ := pm_lt hf
                refine pm_callS (as := [.int x1]) (st := [.int s0, .int x1]) C X dX16_quotient_123 lnX16_888 myX16_infinite stX16_infinite ⟨by decide, by decide⟩ rfl rfl (Nat.le_of_ble_eq_true rfl) (Nat.le_refl _) (Nat.le_refl _) (ctX16_infinite e60 ?_)
                show pm_G g 126 [(6, .int s0), (0, .ref x0), (1, .int x1)] [.long v59, .int s0, .int x1] h 0 0
                obtain ⟨v61, e62, hf⟩ := pm_lt hf
                refine pm_callS (as := [.int x1, .int s0, .long v59]) (st := []) C X dX16_quotient_126 lnX16_882 myX16_withSign stX16_withSign ⟨by decide, by decide⟩ rfl rfl (Nat.le_of_ble_eq_true rfl) (Nat.le_refl _) (Nat.le_refl _) (ctX16_withSign e62 ?_)
                show pm_G g 129 [(6, .int s0), (0, .ref x0), (1, .int x1)] [.long v61] h 0 0
                cases hf
                cases hi
                exact pm_lret C X dX16_quotient_129 rfl (Nat.le_refl _) (Nat.le_refl _) q
              · have hf := pm_ie hf c58
                refine pm_aload_n C dX16_quotient_108 rfl rfl ?_
                refine pm_getR C dX16_quotient_109 flX16_65 rfl k21 e29 ?_
                refine pm_getI C dX16_quotient_112 flX16_871 rfl k30 rfl ?_
                refine pm_iconst (v := 1) C dX16_quotient_115 (by decide) ?_
                refine pm_icmp_ne (tgt := 130) C dX16_quotient_116 (by decide) (fun c63 => ?_) (fun c63 => ?_)
                · have hf := pm_ie hf c63
                  refine pm_aload_n C dX16_quotient_130 rfl rfl ?_
                  refine pm_getR C dX16_quotient_131 flX16_61 rfl k21 e23 ?_
                  refine pm_getI C dX16_quotient_134 flX16_871 rfl k24 rfl ?_
                  refine pm_iconst (v := 1) C dX16_quotient_137 (by decide) ?_
                  refine pm_icmp_eq (tgt := 152) C dX16_quotient_138 (by decide) (fun c64 => ?_) (fun c64 => ?_)
                  · have hf := pm_it hf c64
                    refine pm_iload_n C dX16_quotient_152 rfl rfl ?_
                    refine pm_iload C dX16_quotient_153 rfl ?_
                    refine pm_lconst (v := 0) C dX16_quotient_155 (by decide) ?_
                    obtain ⟨v65, e66, hf⟩ := pm_lt hf
                    refine pm_callS (as := [.int x1, .int s0, .long 0]) (st := []) C X dX16_quotient_156 lnX16_882 myX16_withSign stX16_withSign ⟨by decide, by decide⟩ rfl rfl (Nat.le_of_ble_eq_true rfl) (Nat.le_refl _) (Nat.le_refl _) (ctX16_withSign e66 ?_)
                    show pm_G g 159 [(6, .int s0), (0, .ref x0), (1, .int x1)] [.long v65] h 0 0
                    cases hf
                    cases hi
                    exact pm_lret C X dX16_quotient_159 rfl (Nat.le_refl _) (Nat.le_refl _) q
                  · have hf := pm_ie hf c64
                    refine pm_aload_n C dX16_quotient_141 rfl rfl ?_
                    refine pm_getR C dX16_quotient_142 flX16_65 rfl k21 e29 ?_
                    refine pm_getI C dX16_quotient_145 flX16_871 rfl k30 rfl ?_
                    refine pm_iconst (v := 2) C dX16_quotient_148 (by decide) ?_
                    refine pm_icmp_ne (tgt := 160) C dX16_quotient_149 (by decide) (fun c67 => ?_) (fun c67 => ?_)
                    · have hf := pm_ie hf c67
                      refine pm_aload_n C dX16_quotient_160 rfl rfl ?_
                      refine pm_getR C dX16_quotient_161 flX16_61 rfl k21 e23 ?_
                      refine pm_getL C dX16_quotient_164 flX16_916 rfl k24 rfl ?_
                      obtain ⟨y68, e69, hf⟩ := pm_lt hf
                      refine pm_topL e69 ?_
                      refine pm_lstore (lv' := [(7, .long y68), (6, .int s0), (0, .ref x0), (1, .int x1)]) C dX16_quotient_167 (pm_nl X (by decide)) rfl ?_
                      refine pm_aload_n C dX16_quotient_169 rfl rfl ?_
                      refine pm_getR C dX16_quotient_170 flX16_65 rfl k21 e29 ?_
                      refine pm_getL C dX16_quotient_173 flX16_916 rfl k30 rfl ?_
                      obtain ⟨y70, e71, hf⟩ := pm_lt hf
                      refine pm_topL e71 ?_
                      refine pm_lstore (lv' := [(9, .long y70), (7, .long y68), (6, .int s0), (0, .ref x0), (1, .int x1)]) C dX16_quotient_176 (pm_nl X (by decide)) rfl ?_
                      refine pm_aload_n C dX16_quotient_178 rfl rfl ?_
                      refine pm_getR C dX16_quotient_179 flX16_61 rfl k21 e23 ?_
                      refine pm_getI C dX16_quotient_182 flX16_913 rfl k24 rfl ?_
                      refine pm_aload_n C dX16_quotient_185 rfl rfl ?_
                      refine pm_getR C dX16_quotient_186 flX16_65 rfl k21 e29 ?_
                      refine pm_getI C dX16_quotient_189 flX16_913 rfl k30 rfl ?_
                      refine pm_isub C dX16_quotient_192 ?_
                      obtain ⟨y72, e73, hf⟩ := pm_lt hf
                      refine pm_topI e73 ?_
                      refine pm_istore (lv' := [(11, .int y72), (9, .long y70), (7, .long y68), (6, .int s0), (0, .ref x0), (1, .int x1)]) C dX16_quotient_193 (pm_nl X (by decide)) rfl ?_
                      cases hf
                      exact pm_sub [5, 3, 2, 1, 0] rfl (ih.2.1 x1 s0 y68 y70 y72 h hi)
                    · have hf := pm_it hf c67
                      refine pm_iload_n C dX16_quotient_152 rfl rfl ?_
                      refine pm_iload C dX16_quotient_153 rfl ?_
                      refine pm_lconst (v := 0) C dX16_quotient_155 (by decide) ?_
                      obtain ⟨v74, e75, hf⟩ := pm_lt hf
                      refine pm_callS (as := [.int x1, .int s0, .long 0]) (st := []) C X dX16_quotient_156 lnX16_882 myX16_withSign stX16_withSign ⟨by decide, by decide⟩ rfl rfl (Nat.le_of_ble_eq_true rfl) (Nat.le_refl _) (Nat.le_refl _) (ctX16_withSign e75 ?_)
                      show pm_G g 159 [(6, .int s0), (0, .ref x0), (1, .int x1)] [.long v74] h 0 0
                      cases hf
                      cases hi
                      exact pm_lret C X dX16_quotient_159 rfl (Nat.le_refl _) (Nat.le_refl _) q
                · have hf := pm_it hf c63
                  refine pm_iload_n C dX16_quotient_119 rfl rfl ?_
                  refine pm_iload C dX16_quotient_120 rfl ?_
                  refine pm_iload_n C dX16_quotient_122 rfl rfl ?_
                  obtain ⟨v76, e77, hf⟩ := pm_lt hf
                  refine pm_callS (as := [.int x1]) (st := [.int s0, .int x1]) C X dX16_quotient_123 lnX16_888 myX16_infinite stX16_infinite ⟨by decide, by decide⟩ rfl rfl (Nat.le_of_ble_eq_true rfl) (Nat.le_refl _) (Nat.le_refl _) (ctX16_infinite e77 ?_)
                  show pm_G g 126 [(6, .int s0), (0, .ref x0), (1, .int x1)] [.long v76, .int s0, .int x1] h 0 0
                  obtain ⟨v78, e79, hf⟩ := pm_lt hf
                  refine pm_callS (as := [.int x1, .int s0, .long v76]) (st := []) C X dX16_quotient_126 lnX16_882 myX16_withSign stX16_withSign ⟨by decide, by decide⟩ rfl rfl (Nat.le_of_ble_eq_true rfl) (Nat.le_refl _) (Nat.le_refl _) (ctX16_withSign e79 ?_)
                  show pm_G g 129 [(6, .int s0), (0, .ref x0), (1, .int x1)] [.long v78] h 0 0
                  cases hf
                  cases hi
                  exact pm_lret C X dX16_quotient_129 rfl (Nat.le_refl _) (Nat.le_refl _) q
            · have hf := pm_ie hf c57
              refine pm_iload_n C dX16_quotient_92 rfl rfl ?_
              obtain ⟨v80, e81, hf⟩ := pm_lt hf
              refine pm_callS (as := [.int x1]) (st := []) C X dX16_quotient_93 lnX16_910 myX16_noneOf stX16_noneOf ⟨by decide, by decide⟩ rfl rfl (Nat.le_of_ble_eq_true rfl) (Nat.le_refl _) (Nat.le_refl _) (ctX16_noneOf e81 ?_)
              show pm_G g 96 [(6, .int s0), (0, .ref x0), (1, .int x1)] [.long v80] h 0 0
              cases hf
              cases hi
              exact pm_lret C X dX16_quotient_96 rfl (Nat.le_refl _) (Nat.le_refl _) q
    refine ⟨fun x1 x6 x7 x9 x11 h hf => ?_, ?_⟩
    · obtain ⟨y, hf, hi⟩ := pm_iter_s hf
      have hf : tX16_quotient_195 x1 x6 x7 x9 x11 h = some y := hf
      unfold tX16_quotient_195 at hf
      refine pm_lload C dX16_quotient_195 rfl ?_
      refine pm_ldc2 C dX16_quotient_197 cnX16_928 ?_
      refine pm_lcmp C dX16_quotient_200 ?_
      refine pm_if_ge (tgt := 216) C dX16_quotient_201 (by decide) (fun c82 => ?_) (fun c82 => ?_)
      · have hf := pm_it hf ((pm_lg_ge _ _).mp c82)
        cases hf
        exact pm_sub [0, 1, 2, 3, 4] rfl (ih.2.2.1 x1 x6 x7 x9 x11 h hi)
      · have hf := pm_ie hf ((fun z => c82 ((pm_lg_ge _ _).mpr z)))
        obtain ⟨y83, e84, hf⟩ := pm_lt hf
        refine pm_iinc (v := y83) (lv' := [(11, .int y83), (1, .int x1), (6, .int x6), (7, .long x7), (9, .long x9)]) C dX16_quotient_204 rfl ((congrArg (x11 + ·) (by decide : Int32.ofInt (-1) = (-1))).trans e84) (pm_nl X (by decide)) rfl ?_
        refine pm_lload C dX16_quotient_207 rfl ?_
        refine pm_iconst (v := 1) C dX16_quotient_209 (by decide) ?_
        refine pm_lshl C dX16_quotient_210 ?_
        obtain ⟨y85, e86, hf⟩ := pm_lt hf
        refine pm_topL e86 ?_
        refine pm_lstore (lv' := [(7, .long y85), (11, .int y83), (1, .int x1), (6, .int x6), (9, .long x9)]) C dX16_quotient_211 (pm_nl X (by decide)) rfl ?_
        refine pm_goto (tgt := 195) C dX16_quotient_213 (by decide) ?_
        cases hf
        exact pm_sub [2, 3, 0, 4, 1] rfl (ih.2.1 x1 x6 y85 x9 y83 h hi)
    refine ⟨fun x1 x6 x7 x9 x11 h hf => ?_, ?_⟩
    · obtain ⟨y, hf, hi⟩ := pm_iter_s hf
      have hf : tX16_quotient_216 x1 x6 x7 x9 x11 h = some y := hf
      unfold tX16_quotient_216 at hf
      refine pm_lload C dX16_quotient_216 rfl ?_
      refine pm_ldc2 C dX16_quotient_218 cnX16_928 ?_
      refine pm_lcmp C dX16_quotient_221 ?_
      refine pm_if_ge (tgt := 237) C dX16_quotient_222 (by decide) (fun c87 => ?_) (fun c87 => ?_)
      · have hf := pm_it hf ((pm_lg_ge _ _).mp c87)
        refine pm_lconst (v := 0) C dX16_quotient_237 (by decide) ?_
        refine pm_lstore (lv' := [(12, .long 0), (1, .int x1), (6, .int x6), (7, .long x7), (9, .long x9), (11, .int x11)]) C dX16_quotient_238 (pm_nl X (by decide)) rfl ?_
        refine pm_iconst (v := 0) C dX16_quotient_240 (by decide) ?_
        refine pm_istore (lv' := [(14, .int 0), (12, .long 0), (1, .int x1), (6, .int x6), (7, .long x7), (9, .long x9), (11, .int x11)]) C dX16_quotient_241 (pm_nl X (by decide)) rfl ?_
        cases hf
        exact pm_sub [2, 3, 4, 5, 6, 1, 0] rfl (ih.2.2.2 x1 x6 x7 x9 x11 0 0 h hi)
      · have hf := pm_ie hf ((fun z => c87 ((pm_lg_ge _ _).mpr z)))
        obtain ⟨y88, e89, hf⟩ := pm_lt hf
        refine pm_iinc (v := y88) (lv' := [(11, .int y88), (1, .int x1), (6, .int x6), (7, .long x7), (9, .long x9)]) C dX16_quotient_225 rfl ((congrArg (x11 + ·) (by decide : Int32.ofInt 1 = 1)).trans e89) (pm_nl X (by decide)) rfl ?_
        refine pm_lload C dX16_quotient_228 rfl ?_
        refine pm_iconst (v := 1) C dX16_quotient_230 (by decide) ?_
        refine pm_lshl C dX16_quotient_231 ?_
        obtain ⟨y90, e91, hf⟩ := pm_lt hf
        refine pm_topL e91 ?_
        refine pm_lstore (lv' := [(9, .long y90), (11, .int y88), (1, .int x1), (6, .int x6), (7, .long x7)]) C dX16_quotient_232 (pm_nl X (by decide)) rfl ?_
        refine pm_goto (tgt := 216) C dX16_quotient_234 (by decide) ?_
        cases hf
        exact pm_sub [2, 3, 4, 0, 1] rfl (ih.2.2.1 x1 x6 x7 y90 y88 h hi)
    refine fun x1 x6 x7 x9 x11 x12 x14 h hf => ?_
    obtain ⟨y, hf, hi⟩ := pm_iter_s hf
    have hf : tX16_quotient_243 x1 x6 x7 x9 x11 x12 x14 h = some y := hf
    unfold tX16_quotient_243 at hf
    refine pm_iload C dX16_quotient_243 rfl ?_
    refine pm_bipush (v := 57) C dX16_quotient_245 (by decide) ?_
    refine pm_icmp_ge (tgt := 289) C dX16_quotient_247 (by decide) (fun c92 => ?_) (fun c92 => ?_)
    · have hf := pm_it hf c92
      refine pm_iload_n C dX16_quotient_289 rfl rfl ?_
      refine pm_iload C dX16_quotient_290 rfl ?_
      refine pm_lconst (v := 0) C dX16_quotient_292 (by decide) ?_
      refine pm_lload C dX16_quotient_293 rfl ?_
      refine pm_iload C dX16_quotient_295 rfl ?_
      refine pm_bipush (v := 56) C dX16_quotient_297 (by decide) ?_
      refine pm_isub C dX16_quotient_299 ?_
      refine pm_lload C dX16_quotient_300 rfl ?_
      refine pm_lconst (v := 0) C dX16_quotient_302 (by decide) ?_
      refine pm_lcmp C dX16_quotient_303 ?_
      refine pm_if_eq (tgt := 311) C dX16_quotient_304 (by decide) (fun c93 => ?_) (fun c93 => ?_)
      · have hf := pm_it hf ((pm_lg_eq _ _).mp c93)
        refine pm_iconst (v := 0) C dX16_quotient_311 (by decide) ?_
        obtain ⟨v94, e95, hf⟩ := pm_bd hf
        refine pm_callS (as := [.int x1, .int x6, .long 0, .long x12, .int (x11 - 56), .int 0]) (st := []) C X dX16_quotient_312 lnX16_924 myX16_rounded stX16_rounded ⟨by decide, by decide⟩ rfl rfl (Nat.le_of_ble_eq_true rfl) (Nat.le_refl _) (Nat.le_refl _) (ctX16_rounded e95 ?_)
        show pm_G g 315 [(1, .int x1), (6, .int x6), (7, .long x7), (9, .long x9), (11, .int x11), (12, .long x12), (14, .int x14)] [.long v94] h 0 0
        cases hf
        cases hi
        exact pm_lret C X dX16_quotient_315 rfl (Nat.le_refl _) (Nat.le_refl _) q
      · have hf := pm_ie hf ((fun z => c93 ((pm_lg_eq _ _).mpr z)))
        refine pm_iconst (v := 1) C dX16_quotient_307 (by decide) ?_
        refine pm_goto (tgt := 312) C dX16_quotient_308 (by decide) ?_
        obtain ⟨v96, e97, hf⟩ := pm_bd hf
        refine pm_callS (as := [.int x1, .int x6, .long 0, .long x12, .int (x11 - 56), .int 1]) (st := []) C X dX16_quotient_312 lnX16_924 myX16_rounded stX16_rounded ⟨by decide, by decide⟩ rfl rfl (Nat.le_of_ble_eq_true rfl) (Nat.le_refl _) (Nat.le_refl _) (ctX16_rounded e97 ?_)
        show pm_G g 315 [(1, .int x1), (6, .int x6), (7, .long x7), (9, .long x9), (11, .int x11), (12, .long x12), (14, .int x14)] [.long v96] h 0 0
        cases hf
        cases hi
        exact pm_lret C X dX16_quotient_315 rfl (Nat.le_refl _) (Nat.le_refl _) q
    · have hf := pm_ie hf c92
      refine pm_lload C dX16_quotient_250 rfl ?_
      refine pm_iconst (v := 1) C dX16_quotient_252 (by decide) ?_
      refine pm_lshl C dX16_quotient_253 ?_
      obtain ⟨y98, e99, hf⟩ := pm_lt hf
      refine pm_topL e99 ?_
      refine pm_lstore (lv' := [(12, .long y98), (1, .int x1), (6, .int x6), (7, .long x7), (9, .long x9), (11, .int x11), (14, .int x14)]) C dX16_quotient_254 (pm_nl X (by decide)) rfl ?_
      refine pm_lload C dX16_quotient_256 rfl ?_
      refine pm_lload C dX16_quotient_258 rfl ?_
      refine pm_lcmp C dX16_quotient_260 ?_
      refine pm_if_lt (tgt := 277) C dX16_quotient_261 (by decide) (fun c100 => ?_) (fun c100 => ?_)
      · have hf := pm_it hf ((pm_lg_lt _ _).mp c100)
        refine pm_lload C dX16_quotient_277 rfl ?_
        refine pm_iconst (v := 1) C dX16_quotient_279 (by decide) ?_
        refine pm_lshl C dX16_quotient_280 ?_
        obtain ⟨y101, e102, hf⟩ := pm_lt hf
        refine pm_topL e102 ?_
        refine pm_lstore (lv' := [(7, .long y101), (12, .long y98), (1, .int x1), (6, .int x6), (9, .long x9), (11, .int x11), (14, .int x14)]) C dX16_quotient_281 (pm_nl X (by decide)) rfl ?_
        obtain ⟨y103, e104, hf⟩ := pm_lt hf
        refine pm_iinc (v := y103) (lv' := [(14, .int y103), (7, .long y101), (12, .long y98), (1, .int x1), (6, .int x6), (9, .long x9), (11, .int x11)]) C dX16_quotient_283 rfl ((congrArg (x14 + ·) (by decide : Int32.ofInt 1 = 1)).trans e104) (pm_nl X (by decide)) rfl ?_
        refine pm_goto (tgt := 243) C dX16_quotient_286 (by decide) ?_
        cases hf
        exact pm_sub [3, 4, 1, 5, 6, 2, 0] rfl (ih.2.2.2 x1 x6 y101 x9 x11 y98 y103 h hi)
      · have hf := pm_ie hf ((fun z => c100 ((pm_lg_lt _ _).mpr z)))
        refine pm_lload C dX16_quotient_264 rfl ?_
        refine pm_lload C dX16_quotient_266 rfl ?_
        refine pm_lsub C dX16_quotient_268 ?_
        obtain ⟨y105, e106, hf⟩ := pm_lt hf
        refine pm_topL e106 ?_
        refine pm_lstore (lv' := [(7, .long y105), (12, .long y98), (1, .int x1), (6, .int x6), (9, .long x9), (11, .int x11), (14, .int x14)]) C dX16_quotient_269 (pm_nl X (by decide)) rfl ?_
        refine pm_lload C dX16_quotient_271 rfl ?_
        refine pm_lconst (v := 1) C dX16_quotient_273 (by decide) ?_
        refine pm_ladd C dX16_quotient_274 ?_
        obtain ⟨y107, e108, hf⟩ := pm_lt hf
        refine pm_topL e108 ?_
        refine pm_lstore (lv' := [(12, .long y107), (7, .long y105), (1, .int x1), (6, .int x6), (9, .long x9), (11, .int x11), (14, .int x14)]) C dX16_quotient_275 (pm_nl X (by decide)) rfl ?_
        refine pm_lload C dX16_quotient_277 rfl ?_
        refine pm_iconst (v := 1) C dX16_quotient_279 (by decide) ?_
        refine pm_lshl C dX16_quotient_280 ?_
        obtain ⟨y109, e110, hf⟩ := pm_lt hf
        refine pm_topL e110 ?_
        refine pm_lstore (lv' := [(7, .long y109), (12, .long y107), (1, .int x1), (6, .int x6), (9, .long x9), (11, .int x11), (14, .int x14)]) C dX16_quotient_281 (pm_nl X (by decide)) rfl ?_
        obtain ⟨y111, e112, hf⟩ := pm_lt hf
        refine pm_iinc (v := y111) (lv' := [(14, .int y111), (7, .long y109), (12, .long y107), (1, .int x1), (6, .int x6), (9, .long x9), (11, .int x11)]) C dX16_quotient_283 rfl ((congrArg (x14 + ·) (by decide : Int32.ofInt 1 = 1)).trans e112) (pm_nl X (by decide)) rfl ?_
        refine pm_goto (tgt := 243) C dX16_quotient_286 (by decide) ?_
        cases hf
        exact pm_sub [3, 4, 1, 5, 6, 2, 0] rfl (ih.2.2.2 x1 x6 y109 x9 x11 y107 y111 h hi)
set_option maxHeartbeats 4000000 in
set_option maxRecDepth 100000 in
theorem ctX16_quotient {l : Launch} {G : pm_Gl} {h : pm_H} {a0 : Nat} {p1 : Int32} {p2 : Int64} {p3 : Int64} {r : (Int64 × pm_H)} {Qr : Option Value → pm_H → Prop} (hf : fX16_quotient h a0 p1 p2 p3 = some r) (q : Qr (some (.long r.1)) r.2) : pm_Ct l G mX16_quotient [.ref a0, .int p1, .long p2, .long p3] h 0 0 Qr := by
  refine pm_body pnX16 (Nat.le_of_ble_eq_true rfl) (fun g C X => ?_)
  have C : pm_C g cX16_quotient RX16 := C
  show pm_G g 0 [(0, .ref a0), (1, .int p1), (2, .long p2), (4, .long p3)] [] h 0 0
  unfold fX16_quotient at hf
  refine pm_aload_n C dX16_quotient_0 rfl rfl ?_
  obtain ⟨k1, hf⟩ := pm_if hf
  obtain ⟨v2, e3, hf⟩ := pm_bd hf
  refine pm_getR C dX16_quotient_1 flX16_61 rfl k1 e3 ?_
  refine pm_iload_n C dX16_quotient_4 rfl rfl ?_
  refine pm_lload_n C dX16_quotient_5 rfl rfl ?_
  obtain ⟨k4, hf⟩ := pm_if hf
  obtain ⟨v5, e6, hf⟩ := pm_bd hf
  refine pm_callV (as := [.int p1, .long p2]) (st := []) C X dX16_quotient_6 lnX16_868 myX15_read viX15_read ⟨by decide, by decide⟩ rfl rfl k4 (Nat.le_of_ble_eq_true rfl) (Nat.le_refl _) (Nat.le_refl _) (ctX15_read e6 ?_)
  show pm_G g 9 [(0, .ref a0), (1, .int p1), (2, .long p2), (4, .long p3)] [] v5 0 0
  refine pm_aload_n C dX16_quotient_9 rfl rfl ?_
  obtain ⟨k7, hf⟩ := pm_if hf
  obtain ⟨v8, e9, hf⟩ := pm_bd hf
  refine pm_getR C dX16_quotient_10 flX16_65 rfl k7 e9 ?_
  refine pm_iload_n C dX16_quotient_13 rfl rfl ?_
  refine pm_lload C dX16_quotient_14 rfl ?_
  obtain ⟨k10, hf⟩ := pm_if hf
  obtain ⟨v11, e12, hf⟩ := pm_bd hf
  refine pm_callV (as := [.int p1, .long p3]) (st := []) C X dX16_quotient_16 lnX16_868 myX15_read viX15_read ⟨by decide, by decide⟩ rfl rfl k10 (Nat.le_of_ble_eq_true rfl) (Nat.le_refl _) (Nat.le_refl _) (ctX15_read e12 ?_)
  show pm_G g 19 [(0, .ref a0), (1, .int p1), (2, .long p2), (4, .long p3)] [] v11 0 0
  refine pm_aload_n C dX16_quotient_19 rfl rfl ?_
  obtain ⟨k13, hf⟩ := pm_if hf
  obtain ⟨v14, e15, hf⟩ := pm_bd hf
  refine pm_getR C dX16_quotient_20 flX16_61 rfl k13 e15 ?_
  obtain ⟨k16, hf⟩ := pm_if hf
  refine pm_getI C dX16_quotient_23 flX16_921 rfl k16 rfl ?_
  refine pm_aload_n C dX16_quotient_26 rfl rfl ?_
  obtain ⟨v17, e18, hf⟩ := pm_bd hf
  refine pm_getR C dX16_quotient_27 flX16_65 rfl k13 e18 ?_
  obtain ⟨k19, hf⟩ := pm_if hf
  refine pm_getI C dX16_quotient_30 flX16_921 rfl k19 rfl ?_
  refine pm_icmp_eq (tgt := 40) C dX16_quotient_33 (by decide) (fun c20 => ?_) (fun c20 => ?_)
  · have hf := pm_it hf c20
    refine pm_iconst (v := 0) C dX16_quotient_40 (by decide) ?_
    obtain ⟨n, hn⟩ := pm_lim_iter hf
    exact pm_sub [0, 1] rfl ((lpX16_quotient C X q n).1 a0 p1 0 v11 hn)
  · have hf := pm_ie hf c20
    refine pm_iconst (v := 1) C dX16_quotient_36 (by decide) ?_
    refine pm_goto (tgt := 41) C dX16_quotient_37 (by decide) ?_
    obtain ⟨n, hn⟩ := pm_lim_iter hf
    exact pm_sub [0, 1] rfl ((lpX16_quotient C X q n).1 a0 p1 1 v11 hn)
