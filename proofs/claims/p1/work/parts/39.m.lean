theorem dX16_goesOn_0 : decode cX16_goesOn 0 = .ok (.aload_n 0, 1) := by decide +kernel
theorem dX16_goesOn_1 : decode cX16_goesOn 1 = .ok (.getfield 970, 3) := by decide +kernel
theorem dX16_goesOn_4 : decode cX16_goesOn 4 = .ok (.iconst 1, 1) := by decide +kernel
theorem dX16_goesOn_5 : decode cX16_goesOn 5 = .ok (.if_icmp .ne 74, 3) := by decide +kernel
theorem dX16_goesOn_8 : decode cX16_goesOn 8 = .ok (.aload_n 0, 1) := by decide +kernel
theorem dX16_goesOn_9 : decode cX16_goesOn 9 = .ok (.getfield 221, 3) := by decide +kernel
theorem dX16_goesOn_12 : decode cX16_goesOn 12 = .ok (.aload_n 0, 1) := by decide +kernel
theorem dX16_goesOn_13 : decode cX16_goesOn 13 = .ok (.getfield 1107, 3) := by decide +kernel
theorem dX16_goesOn_16 : decode cX16_goesOn 16 = .ok (.invokevirtual 261, 3) := by decide +kernel
theorem dX16_goesOn_19 : decode cX16_goesOn 19 = .ok (.istore_n 1, 1) := by decide +kernel
theorem dX16_goesOn_20 : decode cX16_goesOn 20 = .ok (.iload_n 1, 1) := by decide +kernel
theorem dX16_goesOn_21 : decode cX16_goesOn 21 = .ok (.iconst 2, 1) := by decide +kernel
theorem dX16_goesOn_22 : decode cX16_goesOn 22 = .ok (.if_icmp .eq 8, 3) := by decide +kernel
theorem dX16_goesOn_25 : decode cX16_goesOn 25 = .ok (.iload_n 1, 1) := by decide +kernel
theorem dX16_goesOn_26 : decode cX16_goesOn 26 = .ok (.iconst 3, 1) := by decide +kernel
theorem dX16_goesOn_27 : decode cX16_goesOn 27 = .ok (.if_icmp .ne 11, 3) := by decide +kernel
theorem dX16_goesOn_30 : decode cX16_goesOn 30 = .ok (.aload_n 0, 1) := by decide +kernel
theorem dX16_goesOn_31 : decode cX16_goesOn 31 = .ok (.iload_n 1, 1) := by decide +kernel
theorem dX16_goesOn_32 : decode cX16_goesOn 32 = .ok (.invokevirtual 1123, 3) := by decide +kernel
theorem dX16_goesOn_35 : decode cX16_goesOn 35 = .ok (.goto 41, 3) := by decide +kernel
theorem dX16_goesOn_38 : decode cX16_goesOn 38 = .ok (.iload_n 1, 1) := by decide +kernel
theorem dX16_goesOn_39 : decode cX16_goesOn 39 = .ok (.iconst 5, 1) := by decide +kernel
theorem dX16_goesOn_40 : decode cX16_goesOn 40 = .ok (.if_icmp .ne 22, 3) := by decide +kernel
theorem dX16_goesOn_43 : decode cX16_goesOn 43 = .ok (.aload_n 0, 1) := by decide +kernel
theorem dX16_goesOn_44 : decode cX16_goesOn 44 = .ok (.aload_n 0, 1) := by decide +kernel
theorem dX16_goesOn_45 : decode cX16_goesOn 45 = .ok (.getfield 221, 3) := by decide +kernel
theorem dX16_goesOn_48 : decode cX16_goesOn 48 = .ok (.getfield 549, 3) := by decide +kernel
theorem dX16_goesOn_51 : decode cX16_goesOn 51 = .ok (.aload_n 0, 1) := by decide +kernel
theorem dX16_goesOn_52 : decode cX16_goesOn 52 = .ok (.getfield 1107, 3) := by decide +kernel
theorem dX16_goesOn_55 : decode cX16_goesOn 55 = .ok (.iaload, 1) := by decide +kernel
theorem dX16_goesOn_56 : decode cX16_goesOn 56 = .ok (.putfield 1107, 3) := by decide +kernel
theorem dX16_goesOn_59 : decode cX16_goesOn 59 = .ok (.goto 17, 3) := by decide +kernel
theorem dX16_goesOn_62 : decode cX16_goesOn 62 = .ok (.iload_n 1, 1) := by decide +kernel
theorem dX16_goesOn_63 : decode cX16_goesOn 63 = .ok (.bipush 11, 2) := by decide +kernel
theorem dX16_goesOn_65 : decode cX16_goesOn 65 = .ok (.if_icmp .ne 10, 3) := by decide +kernel
theorem dX16_goesOn_68 : decode cX16_goesOn 68 = .ok (.aload_n 0, 1) := by decide +kernel
theorem dX16_goesOn_69 : decode cX16_goesOn 69 = .ok (.invokevirtual 1126, 3) := by decide +kernel
theorem dX16_goesOn_72 : decode cX16_goesOn 72 = .ok (.goto 4, 3) := by decide +kernel
theorem dX16_goesOn_75 : decode cX16_goesOn 75 = .ok (.return_, 1) := by decide +kernel
theorem dX16_goesOn_76 : decode cX16_goesOn 76 = .ok (.goto (-76), 3) := by decide +kernel
theorem dX16_goesOn_79 : decode cX16_goesOn 79 = .ok (.return_, 1) := by decide +kernel
noncomputable def tX16_goesOn_0 (x0 : Nat) (h : pm_H) : Option (((Nat × pm_H)) ⊕ pm_H) := if pm_kd h x0 = 16 then if (pm_I h x0 76) = 1 then ((pm_R h x0 10).bind fun v3 => if pm_kd h v3 = 14 then (fX14_at h v3 (pm_I h x0 94)).bind fun v6 => if v6 = 2 then ((fX16_opensBlock h x0 v6).bind fun v9 => some (.inl ((x0, v9)))) else (if v6 = 3 then ((fX16_opensBlock h x0 v6).bind fun v24 => some (.inl ((x0, v24)))) else (if v6 = 5 then ((pm_R h v3 56).bind fun v16 => pm_let (pm_I h x0 94) fun y18 => if pm_kd h v16 = 34 then if pm_in y18 (pm_ln h v16) then pm_let (pm_I h v16 y18.toNatClampNeg) fun y22 => some (.inl ((x0, pm_setI h x0 94 y22))) else none else none) else (if v6 = 11 then ((fX16_closes h x0).bind fun v14 => some (.inl ((x0, v14)))) else (some (.inr (h)))))) else none) else (some (.inr (h))) else none
noncomputable def sX16_goesOn : ((Nat × pm_H)) → Option (((Nat × pm_H)) ⊕ pm_H) := fun z => match z with
  | (x0, h) => tX16_goesOn_0 x0 h
noncomputable def fX16_goesOn (h : pm_H) (a0 : Nat) : Option pm_H := pm_lim sX16_goesOn ((a0, h))
set_option maxHeartbeats 4000000 in
set_option maxRecDepth 100000 in
theorem lpX16_goesOn {g : pm_Gm} {l : Launch} {G : pm_Gl} {Qr : Option Value → pm_H → Prop} (C : pm_C g cX16_goesOn RX16) (X : pm_X g l G mX16_goesOn 0 0 Qr) {r : pm_H} (q : Qr none r) : ∀ n : Nat, (∀ (x0 : Nat) (h : pm_H), pm_iter sX16_goesOn n (x0, h) = some r → pm_G g 0 [(0, .ref x0)] [] h 0 0) := by
  intro n
  induction n with
  | zero => exact fun _ _ hf => (by cases hf)
  | succ n ih =>
    refine fun x0 h hf => ?_
    obtain ⟨y, hf, hi⟩ := pm_iter_s hf
    have hf : tX16_goesOn_0 x0 h = some y := hf
    unfold tX16_goesOn_0 at hf
    refine pm_aload_n C dX16_goesOn_0 rfl rfl ?_
    obtain ⟨k1, hf⟩ := pm_if hf
    refine pm_getI C dX16_goesOn_1 flX16_970 rfl k1 rfl ?_
    refine pm_iconst (v := 1) C dX16_goesOn_4 (by decide) ?_
    refine pm_icmp_ne (tgt := 79) C dX16_goesOn_5 (by decide) (fun c2 => ?_) (fun c2 => ?_)
    · have hf := pm_ie hf c2
      cases hf
      cases hi
      exact pm_vret C X dX16_goesOn_79 rfl (Nat.le_refl _) (Nat.le_refl _) q
    · have hf := pm_it hf c2
      refine pm_aload_n C dX16_goesOn_8 rfl rfl ?_
      obtain ⟨v3, e4, hf⟩ := pm_bd hf
      refine pm_getR C dX16_goesOn_9 flX16_221 rfl k1 e4 ?_
      refine pm_aload_n C dX16_goesOn_12 rfl rfl ?_
      refine pm_getI C dX16_goesOn_13 flX16_1107 rfl k1 rfl ?_
      obtain ⟨k5, hf⟩ := pm_if hf
      obtain ⟨v6, e7, hf⟩ := pm_bd hf
      refine pm_callV (as := [.int (pm_I h x0 94)]) (st := []) C X dX16_goesOn_16 lnX16_261 myX14_at viX14_at ⟨by decide, by decide⟩ rfl rfl k5 (Nat.le_of_ble_eq_true rfl) (Nat.le_refl _) (Nat.le_refl _) (ctX14_at e7 ?_)
      show pm_G g 19 [(0, .ref x0)] [.int v6] h 0 0
      refine pm_istore_n (lv' := [(1, .int v6), (0, .ref x0)]) C dX16_goesOn_19 rfl (pm_nl X (by decide)) rfl ?_
      refine pm_iload_n C dX16_goesOn_20 rfl rfl ?_
      refine pm_iconst (v := 2) C dX16_goesOn_21 (by decide) ?_
      refine pm_icmp_eq (tgt := 30) C dX16_goesOn_22 (by decide) (fun c8 => ?_) (fun c8 => ?_)
      · have hf := pm_it hf c8
        refine pm_aload_n C dX16_goesOn_30 rfl rfl ?_
        refine pm_iload_n C dX16_goesOn_31 rfl rfl ?_
        obtain ⟨v9, e10, hf⟩ := pm_bd hf
        refine pm_callV (as := [.int v6]) (st := []) C X dX16_goesOn_32 lnX16_1123 myX16_opensBlock viX16_opensBlock ⟨by decide, by decide⟩ rfl rfl k1 (Nat.le_of_ble_eq_true rfl) (Nat.le_refl _) (Nat.le_refl _) (ctX16_opensBlock e10 ?_)
        show pm_G g 35 [(1, .int v6), (0, .ref x0)] [] v9 0 0
        refine pm_goto (tgt := 76) C dX16_goesOn_35 (by decide) ?_
        refine pm_goto (tgt := 0) C dX16_goesOn_76 (by decide) ?_
        cases hf
        exact pm_sub [1] rfl (ih x0 v9 hi)
      · have hf := pm_ie hf c8
        refine pm_iload_n C dX16_goesOn_25 rfl rfl ?_
        refine pm_iconst (v := 3) C dX16_goesOn_26 (by decide) ?_
        refine pm_icmp_ne (tgt := 38) C dX16_goesOn_27 (by decide) (fun c11 => ?_) (fun c11 => ?_)
        · have hf := pm_ie hf c11
          refine pm_iload_n C dX16_goesOn_38 rfl rfl ?_
          refine pm_iconst (v := 5) C dX16_goesOn_39 (by decide) ?_
          refine pm_icmp_ne (tgt := 62) C dX16_goesOn_40 (by decide) (fun c12 => ?_) (fun c12 => ?_)
          · have hf := pm_ie hf c12
            refine pm_iload_n C dX16_goesOn_62 rfl rfl ?_
            refine pm_bipush (v := 11) C dX16_goesOn_63 (by decide) ?_
            refine pm_icmp_ne (tgt := 75) C dX16_goesOn_65 (by decide) (fun c13 => ?_) (fun c13 => ?_)
            · have hf := pm_ie hf c13
              cases hf
              cases hi
              exact pm_vret C X dX16_goesOn_75 rfl (Nat.le_refl _) (Nat.le_refl _) q
            · have hf := pm_it hf c13
              refine pm_aload_n C dX16_goesOn_68 rfl rfl ?_
              obtain ⟨v14, e15, hf⟩ := pm_bd hf
              refine pm_callV (as := []) (st := []) C X dX16_goesOn_69 lnX16_1126 myX16_closes viX16_closes ⟨by decide, by decide⟩ rfl rfl k1 (Nat.le_of_ble_eq_true rfl) (Nat.le_refl _) (Nat.le_refl _) (ctX16_closes e15 ?_)
              show pm_G g 72 [(1, .int v6), (0, .ref x0)] [] v14 0 0
              refine pm_goto (tgt := 76) C dX16_goesOn_72 (by decide) ?_
              refine pm_goto (tgt := 0) C dX16_goesOn_76 (by decide) ?_
              cases hf
              exact pm_sub [1] rfl (ih x0 v14 hi)
          · have hf := pm_it hf c12
            refine pm_aload_n C dX16_goesOn_43 rfl rfl ?_
            refine pm_aload_n C dX16_goesOn_44 rfl rfl ?_
            refine pm_getR C dX16_goesOn_45 flX16_221 rfl k1 e4 ?_
            obtain ⟨v16, e17, hf⟩ := pm_bd hf
            refine pm_getR C dX16_goesOn_48 flX16_549 rfl k5 e17 ?_
            refine pm_aload_n C dX16_goesOn_51 rfl rfl ?_
            refine pm_getI C dX16_goesOn_52 flX16_1107 rfl k1 rfl ?_
            obtain ⟨y18, e19, hf⟩ := pm_lt hf
            refine pm_topI e19 ?_
            obtain ⟨k20, hf⟩ := pm_if hf
            obtain ⟨u21, hf⟩ := pm_if hf
            refine pm_iald C dX16_goesOn_55 k20 u21 rfl ?_
            obtain ⟨y22, e23, hf⟩ := pm_lt hf
            refine pm_topI e23 ?_
            refine pm_putI C dX16_goesOn_56 flX16_1107 rfl rfl k1 rfl rfl ?_
            refine pm_goto (tgt := 76) C dX16_goesOn_59 (by decide) ?_
            refine pm_goto (tgt := 0) C dX16_goesOn_76 (by decide) ?_
            cases hf
            exact pm_sub [1] rfl (ih x0 (pm_setI h x0 94 y22) hi)
        · have hf := pm_it hf c11
          refine pm_aload_n C dX16_goesOn_30 rfl rfl ?_
          refine pm_iload_n C dX16_goesOn_31 rfl rfl ?_
          obtain ⟨v24, e25, hf⟩ := pm_bd hf
          refine pm_callV (as := [.int v6]) (st := []) C X dX16_goesOn_32 lnX16_1123 myX16_opensBlock viX16_opensBlock ⟨by decide, by decide⟩ rfl rfl k1 (Nat.le_of_ble_eq_true rfl) (Nat.le_refl _) (Nat.le_refl _) (ctX16_opensBlock e25 ?_)
          show pm_G g 35 [(1, .int v6), (0, .ref x0)] [] v24 0 0
          refine pm_goto (tgt := 76) C dX16_goesOn_35 (by decide) ?_
          refine pm_goto (tgt := 0) C dX16_goesOn_76 (by decide) ?_
          cases hf
          exact pm_sub [1] rfl (ih x0 v24 hi)
set_option maxHeartbeats 4000000 in
set_option maxRecDepth 100000 in
theorem ctX16_goesOn {l : Launch} {G : pm_Gl} {h : pm_H} {a0 : Nat} {r : pm_H} {Qr : Option Value → pm_H → Prop} (hf : fX16_goesOn h a0 = some r) (q : Qr none r) : pm_Ct l G mX16_goesOn [.ref a0] h 0 0 Qr := by
  refine pm_body pnX16 (Nat.le_of_ble_eq_true rfl) (fun g C X => ?_)
  have C : pm_C g cX16_goesOn RX16 := C
  show pm_G g 0 [(0, .ref a0)] [] h 0 0
  unfold fX16_goesOn at hf
  obtain ⟨n, hn⟩ := pm_lim_iter hf
  exact pm_sub [0] rfl ((lpX16_goesOn C X q n) a0 h hn)
theorem dX16_invokes_0 : decode cX16_invokes 0 = .ok (.aload_n 0, 1) := by decide +kernel
theorem dX16_invokes_1 : decode cX16_invokes 1 = .ok (.iload_n 1, 1) := by decide +kernel
theorem dX16_invokes_2 : decode cX16_invokes 2 = .ok (.invokevirtual 1077, 3) := by decide +kernel
theorem dX16_invokes_5 : decode cX16_invokes 5 = .ok (.istore_n 2, 1) := by decide +kernel
theorem dX16_invokes_6 : decode cX16_invokes 6 = .ok (.aload_n 0, 1) := by decide +kernel
theorem dX16_invokes_7 : decode cX16_invokes 7 = .ok (.dup, 1) := by decide +kernel
theorem dX16_invokes_8 : decode cX16_invokes 8 = .ok (.getfield 1104, 3) := by decide +kernel
theorem dX16_invokes_11 : decode cX16_invokes 11 = .ok (.iload_n 2, 1) := by decide +kernel
theorem dX16_invokes_12 : decode cX16_invokes 12 = .ok (.isub, 1) := by decide +kernel
theorem dX16_invokes_13 : decode cX16_invokes 13 = .ok (.putfield 1104, 3) := by decide +kernel
theorem dX16_invokes_16 : decode cX16_invokes 16 = .ok (.iconst 0, 1) := by decide +kernel
theorem dX16_invokes_17 : decode cX16_invokes 17 = .ok (.istore_n 3, 1) := by decide +kernel
theorem dX16_invokes_18 : decode cX16_invokes 18 = .ok (.iload_n 3, 1) := by decide +kernel
theorem dX16_invokes_19 : decode cX16_invokes 19 = .ok (.iload_n 2, 1) := by decide +kernel
theorem dX16_invokes_20 : decode cX16_invokes 20 = .ok (.if_icmp .ge 26, 3) := by decide +kernel
theorem dX16_invokes_23 : decode cX16_invokes 23 = .ok (.aload_n 0, 1) := by decide +kernel
theorem dX16_invokes_24 : decode cX16_invokes 24 = .ok (.getfield 170, 3) := by decide +kernel
theorem dX16_invokes_27 : decode cX16_invokes 27 = .ok (.iload_n 3, 1) := by decide +kernel
theorem dX16_invokes_28 : decode cX16_invokes 28 = .ok (.aload_n 0, 1) := by decide +kernel
theorem dX16_invokes_29 : decode cX16_invokes 29 = .ok (.getfield 191, 3) := by decide +kernel
theorem dX16_invokes_32 : decode cX16_invokes 32 = .ok (.aload_n 0, 1) := by decide +kernel
theorem dX16_invokes_33 : decode cX16_invokes 33 = .ok (.getfield 1104, 3) := by decide +kernel
theorem dX16_invokes_36 : decode cX16_invokes 36 = .ok (.iload_n 3, 1) := by decide +kernel
theorem dX16_invokes_37 : decode cX16_invokes 37 = .ok (.iadd, 1) := by decide +kernel
theorem dX16_invokes_38 : decode cX16_invokes 38 = .ok (.laload, 1) := by decide +kernel
theorem dX16_invokes_39 : decode cX16_invokes 39 = .ok (.lastore, 1) := by decide +kernel
theorem dX16_invokes_40 : decode cX16_invokes 40 = .ok (.iinc 3 1, 3) := by decide +kernel
theorem dX16_invokes_43 : decode cX16_invokes 43 = .ok (.goto (-25), 3) := by decide +kernel
theorem dX16_invokes_46 : decode cX16_invokes 46 = .ok (.aload_n 0, 1) := by decide +kernel
theorem dX16_invokes_47 : decode cX16_invokes 47 = .ok (.iload_n 1, 1) := by decide +kernel
theorem dX16_invokes_48 : decode cX16_invokes 48 = .ok (.invokevirtual 1089, 3) := by decide +kernel
theorem dX16_invokes_51 : decode cX16_invokes 51 = .ok (.return_, 1) := by decide +kernel
noncomputable def tX16_invokes_18 (x0 : Nat) (x1 : Int32) (x2 : Int32) (x3 : Int32) (h : pm_H) : Option (((Nat × Int32 × Int32 × Int32 × pm_H)) ⊕ pm_H) := if x2 ≤ x3 then (if pm_kd h x0 = 16 then (fX16_enters h x0 x1).bind fun v8 => some (.inr (v8)) else none) else (if pm_kd h x0 = 16 then (pm_R h x0 84).bind fun v11 => (pm_R h x0 92).bind fun v13 => pm_let ((pm_I h x0 93) + x3) fun y15 => if pm_kd h v13 = 35 then if pm_in y15 (pm_ln h v13) then pm_let (pm_L h v13 y15.toNatClampNeg) fun y19 => if pm_kd h v11 = 35 then if pm_in x3 (pm_ln h v11) then pm_let (x3 + 1) fun y23 => some (.inl ((x0, x1, x2, y23, pm_setL h v11 x3.toNatClampNeg y19))) else none else none else none else none else none)
noncomputable def sX16_invokes : ((Nat × Int32 × Int32 × Int32 × pm_H)) → Option (((Nat × Int32 × Int32 × Int32 × pm_H)) ⊕ pm_H) := fun z => match z with
  | (x0, x1, x2, x3, h) => tX16_invokes_18 x0 x1 x2 x3 h
noncomputable def fX16_invokes (h : pm_H) (a0 : Nat) (p1 : Int32) : Option pm_H := if pm_kd h a0 = 16 then (fX16_parametersIn h a0 p1).bind fun v2 => pm_let ((pm_I h a0 93) - v2) fun y4 => pm_lim sX16_invokes ((a0, p1, v2, 0, pm_setI h a0 93 y4)) else none
set_option maxHeartbeats 4000000 in
set_option maxRecDepth 100000 in
theorem lpX16_invokes {g : pm_Gm} {l : Launch} {G : pm_Gl} {Qr : Option Value → pm_H → Prop} (C : pm_C g cX16_invokes RX16) (X : pm_X g l G mX16_invokes 0 0 Qr) {r : pm_H} (q : Qr none r) : ∀ n : Nat, (∀ (x0 : Nat) (x1 : Int32) (x2 : Int32) (x3 : Int32) (h : pm_H), pm_iter sX16_invokes n (x0, x1, x2, x3, h) = some r → pm_G g 18 [(0, .ref x0), (1, .int x1), (2, .int x2), (3, .int x3)] [] h 0 0) := by
  intro n
  induction n with
  | zero => exact fun _ _ _ _ _ hf => (by cases hf)
  | succ n ih =>
    refine fun x0 x1 x2 x3 h hf => ?_
    obtain ⟨y, hf, hi⟩ := pm_iter_s hf
    have hf : tX16_invokes_18 x0 x1 x2 x3 h = some y := hf
    unfold tX16_invokes_18 at hf
    refine pm_iload_n C dX16_invokes_18 rfl rfl ?_
    refine pm_iload_n C dX16_invokes_19 rfl rfl ?_
    refine pm_icmp_ge (tgt := 46) C dX16_invokes_20 (by decide) (fun c6 => ?_) (fun c6 => ?_)
    · have hf := pm_it hf c6
      refine pm_aload_n C dX16_invokes_46 rfl rfl ?_
      refine pm_iload_n C dX16_invokes_47 rfl rfl ?_
      obtain ⟨k7, hf⟩ := pm_if hf
      obtain ⟨v8, e9, hf⟩ := pm_bd hf
      refine pm_callV (as := [.int x1]) (st := []) C X dX16_invokes_48 lnX16_1089 myX16_enters viX16_enters ⟨by decide, by decide⟩ rfl rfl k7 (Nat.le_of_ble_eq_true rfl) (Nat.le_refl _) (Nat.le_refl _) (ctX16_enters e9 ?_)
      show pm_G g 51 [(0, .ref x0), (1, .int x1), (2, .int x2), (3, .int x3)] [] v8 0 0
      cases hf
      cases hi
      exact pm_vret C X dX16_invokes_51 rfl (Nat.le_refl _) (Nat.le_refl _) q
    · have hf := pm_ie hf c6
      refine pm_aload_n C dX16_invokes_23 rfl rfl ?_
      obtain ⟨k10, hf⟩ := pm_if hf
      obtain ⟨v11, e12, hf⟩ := pm_bd hf
      refine pm_getR C dX16_invokes_24 flX16_170 rfl k10 e12 ?_
      refine pm_iload_n C dX16_invokes_27 rfl rfl ?_
      refine pm_aload_n C dX16_invokes_28 rfl rfl ?_
      obtain ⟨v13, e14, hf⟩ := pm_bd hf
      refine pm_getR C dX16_invokes_29 flX16_191 rfl k10 e14 ?_
      refine pm_aload_n C dX16_invokes_32 rfl rfl ?_
      refine pm_getI C dX16_invokes_33 flX16_1104 rfl k10 rfl ?_
      refine pm_iload_n C dX16_invokes_36 rfl rfl ?_
      refine pm_iadd C dX16_invokes_37 ?_
      obtain ⟨y15, e16, hf⟩ := pm_lt hf
      refine pm_topI e16 ?_
      obtain ⟨k17, hf⟩ := pm_if hf
      obtain ⟨u18, hf⟩ := pm_if hf
      refine pm_lald C dX16_invokes_38 k17 u18 rfl ?_
      obtain ⟨y19, e20, hf⟩ := pm_lt hf
      refine pm_topL e20 ?_
      obtain ⟨k21, hf⟩ := pm_if hf
      obtain ⟨u22, hf⟩ := pm_if hf
      refine pm_last C dX16_invokes_39 k21 u22 ?_
      obtain ⟨y23, e24, hf⟩ := pm_lt hf
      refine pm_iinc (v := y23) (lv' := [(3, .int y23), (0, .ref x0), (1, .int x1), (2, .int x2)]) C dX16_invokes_40 rfl ((congrArg (x3 + ·) (by decide : Int32.ofInt 1 = 1)).trans e24) (pm_nl X (by decide)) rfl ?_
      refine pm_goto (tgt := 18) C dX16_invokes_43 (by decide) ?_
      cases hf
      exact pm_sub [1, 2, 3, 0] rfl (ih x0 x1 x2 y23 (pm_setL h v11 x3.toNatClampNeg y19) hi)
set_option maxHeartbeats 4000000 in
set_option maxRecDepth 100000 in
theorem ctX16_invokes {l : Launch} {G : pm_Gl} {h : pm_H} {a0 : Nat} {p1 : Int32} {r : pm_H} {Qr : Option Value → pm_H → Prop} (hf : fX16_invokes h a0 p1 = some r) (q : Qr none r) : pm_Ct l G mX16_invokes [.ref a0, .int p1] h 0 0 Qr := by
  refine pm_body pnX16 (Nat.le_of_ble_eq_true rfl) (fun g C X => ?_)
  have C : pm_C g cX16_invokes RX16 := C
  show pm_G g 0 [(0, .ref a0), (1, .int p1)] [] h 0 0
  unfold fX16_invokes at hf
  refine pm_aload_n C dX16_invokes_0 rfl rfl ?_
  refine pm_iload_n C dX16_invokes_1 rfl rfl ?_
  obtain ⟨k1, hf⟩ := pm_if hf
  obtain ⟨v2, e3, hf⟩ := pm_bd hf
  refine pm_callV (as := [.int p1]) (st := []) C X dX16_invokes_2 lnX16_1077 myX16_parametersIn viX16_parametersIn ⟨by decide, by decide⟩ rfl rfl k1 (Nat.le_of_ble_eq_true rfl) (Nat.le_refl _) (Nat.le_refl _) (ctX16_parametersIn e3 ?_)
  show pm_G g 5 [(0, .ref a0), (1, .int p1)] [.int v2] h 0 0
  refine pm_istore_n (lv' := [(2, .int v2), (0, .ref a0), (1, .int p1)]) C dX16_invokes_5 rfl (pm_nl X (by decide)) rfl ?_
  refine pm_aload_n C dX16_invokes_6 rfl rfl ?_
  refine pm_dup C dX16_invokes_7 rfl ?_
  refine pm_getI C dX16_invokes_8 flX16_1104 rfl k1 rfl ?_
  refine pm_iload_n C dX16_invokes_11 rfl rfl ?_
  refine pm_isub C dX16_invokes_12 ?_
  obtain ⟨y4, e5, hf⟩ := pm_lt hf
  refine pm_topI e5 ?_
  refine pm_putI C dX16_invokes_13 flX16_1104 rfl rfl k1 rfl rfl ?_
  refine pm_iconst (v := 0) C dX16_invokes_16 (by decide) ?_
  refine pm_istore_n (lv' := [(3, .int 0), (2, .int v2), (0, .ref a0), (1, .int p1)]) C dX16_invokes_17 rfl (pm_nl X (by decide)) rfl ?_
  obtain ⟨n, hn⟩ := pm_lim_iter hf
  exact pm_sub [2, 3, 1, 0] rfl ((lpX16_invokes C X q n) a0 p1 v2 0 (pm_setI h a0 93 y4) hn)
theorem dX16_invokesEntry_0 : decode cX16_invokesEntry 0 = .ok (.aload_n 0, 1) := by decide +kernel
theorem dX16_invokesEntry_1 : decode cX16_invokesEntry 1 = .ok (.invokevirtual 603, 3) := by decide +kernel
theorem dX16_invokesEntry_4 : decode cX16_invokesEntry 4 = .ok (.l2i, 1) := by decide +kernel
theorem dX16_invokesEntry_5 : decode cX16_invokesEntry 5 = .ok (.istore_n 1, 1) := by decide +kernel
theorem dX16_invokesEntry_6 : decode cX16_invokesEntry 6 = .ok (.aload_n 0, 1) := by decide +kernel
theorem dX16_invokesEntry_7 : decode cX16_invokesEntry 7 = .ok (.getfield 137, 3) := by decide +kernel
theorem dX16_invokesEntry_10 : decode cX16_invokesEntry 10 = .ok (.sipush 128, 3) := by decide +kernel
theorem dX16_invokesEntry_13 : decode cX16_invokesEntry 13 = .ok (.aload_n 0, 1) := by decide +kernel
theorem dX16_invokesEntry_14 : decode cX16_invokesEntry 14 = .ok (.getfield 1110, 3) := by decide +kernel
theorem dX16_invokesEntry_17 : decode cX16_invokesEntry 17 = .ok (.imul, 1) := by decide +kernel
theorem dX16_invokesEntry_18 : decode cX16_invokesEntry 18 = .ok (.aload_n 0, 1) := by decide +kernel
theorem dX16_invokesEntry_19 : decode cX16_invokesEntry 19 = .ok (.invokevirtual 603, 3) := by decide +kernel
theorem dX16_invokesEntry_22 : decode cX16_invokesEntry 22 = .ok (.l2i, 1) := by decide +kernel
theorem dX16_invokesEntry_23 : decode cX16_invokesEntry 23 = .ok (.iadd, 1) := by decide +kernel
theorem dX16_invokesEntry_24 : decode cX16_invokesEntry 24 = .ok (.iaload, 1) := by decide +kernel
theorem dX16_invokesEntry_25 : decode cX16_invokesEntry 25 = .ok (.istore_n 2, 1) := by decide +kernel
theorem dX16_invokesEntry_26 : decode cX16_invokesEntry 26 = .ok (.aload_n 0, 1) := by decide +kernel
theorem dX16_invokesEntry_27 : decode cX16_invokesEntry 27 = .ok (.invokevirtual 1157, 3) := by decide +kernel
theorem dX16_invokesEntry_30 : decode cX16_invokesEntry 30 = .ok (.lstore_n 3, 1) := by decide +kernel
theorem dX16_invokesEntry_31 : decode cX16_invokesEntry 31 = .ok (.lload_n 3, 1) := by decide +kernel
theorem dX16_invokesEntry_32 : decode cX16_invokesEntry 32 = .ok (.aload_n 0, 1) := by decide +kernel
theorem dX16_invokesEntry_33 : decode cX16_invokesEntry 33 = .ok (.getfield 96, 3) := by decide +kernel
theorem dX16_invokesEntry_36 : decode cX16_invokesEntry 36 = .ok (.iload_n 2, 1) := by decide +kernel
theorem dX16_invokesEntry_37 : decode cX16_invokesEntry 37 = .ok (.iaload, 1) := by decide +kernel
theorem dX16_invokesEntry_38 : decode cX16_invokesEntry 38 = .ok (.i2l, 1) := by decide +kernel
theorem dX16_invokesEntry_39 : decode cX16_invokesEntry 39 = .ok (.lcmp, 1) := by decide +kernel
theorem dX16_invokesEntry_40 : decode cX16_invokesEntry 40 = .ok (.ifCond .lt 11, 3) := by decide +kernel
theorem dX16_invokesEntry_43 : decode cX16_invokesEntry 43 = .ok (.aload_n 0, 1) := by decide +kernel
theorem dX16_invokesEntry_44 : decode cX16_invokesEntry 44 = .ok (.bipush 7, 2) := by decide +kernel
theorem dX16_invokesEntry_46 : decode cX16_invokesEntry 46 = .ok (.iconst 1, 1) := by decide +kernel
theorem dX16_invokesEntry_47 : decode cX16_invokesEntry 47 = .ok (.invokevirtual 1163, 3) := by decide +kernel
theorem dX16_invokesEntry_50 : decode cX16_invokesEntry 50 = .ok (.return_, 1) := by decide +kernel
theorem dX16_invokesEntry_51 : decode cX16_invokesEntry 51 = .ok (.aload_n 0, 1) := by decide +kernel
theorem dX16_invokesEntry_52 : decode cX16_invokesEntry 52 = .ok (.getfield 103, 3) := by decide +kernel
theorem dX16_invokesEntry_55 : decode cX16_invokesEntry 55 = .ok (.sipush 1024, 3) := by decide +kernel
theorem dX16_invokesEntry_58 : decode cX16_invokesEntry 58 = .ok (.iload_n 2, 1) := by decide +kernel
theorem dX16_invokesEntry_59 : decode cX16_invokesEntry 59 = .ok (.imul, 1) := by decide +kernel
theorem dX16_invokesEntry_60 : decode cX16_invokesEntry 60 = .ok (.lload_n 3, 1) := by decide +kernel
theorem dX16_invokesEntry_61 : decode cX16_invokesEntry 61 = .ok (.l2i, 1) := by decide +kernel
theorem dX16_invokesEntry_62 : decode cX16_invokesEntry 62 = .ok (.iadd, 1) := by decide +kernel
theorem dX16_invokesEntry_63 : decode cX16_invokesEntry 63 = .ok (.iaload, 1) := by decide +kernel
theorem dX16_invokesEntry_64 : decode cX16_invokesEntry 64 = .ok (.istore 5, 2) := by decide +kernel
theorem dX16_invokesEntry_66 : decode cX16_invokesEntry 66 = .ok (.iload 5, 2) := by decide +kernel
theorem dX16_invokesEntry_68 : decode cX16_invokesEntry 68 = .ok (.ifCond .ge 13, 3) := by decide +kernel
theorem dX16_invokesEntry_71 : decode cX16_invokesEntry 71 = .ok (.aload_n 0, 1) := by decide +kernel
theorem dX16_invokesEntry_72 : decode cX16_invokesEntry 72 = .ok (.bipush 8, 2) := by decide +kernel
theorem dX16_invokesEntry_74 : decode cX16_invokesEntry 74 = .ok (.iconst 1, 1) := by decide +kernel
theorem dX16_invokesEntry_75 : decode cX16_invokesEntry 75 = .ok (.invokevirtual 1163, 3) := by decide +kernel
theorem dX16_invokesEntry_78 : decode cX16_invokesEntry 78 = .ok (.goto 50, 3) := by decide +kernel
theorem dX16_invokesEntry_81 : decode cX16_invokesEntry 81 = .ok (.aload_n 0, 1) := by decide +kernel
theorem dX16_invokesEntry_82 : decode cX16_invokesEntry 82 = .ok (.aload_n 0, 1) := by decide +kernel
theorem dX16_invokesEntry_83 : decode cX16_invokesEntry 83 = .ok (.getfield 68, 3) := by decide +kernel
theorem dX16_invokesEntry_86 : decode cX16_invokesEntry 86 = .ok (.iload 5, 2) := by decide +kernel
theorem dX16_invokesEntry_88 : decode cX16_invokesEntry 88 = .ok (.iaload, 1) := by decide +kernel
theorem dX16_invokesEntry_89 : decode cX16_invokesEntry 89 = .ok (.aload_n 0, 1) := by decide +kernel
theorem dX16_invokesEntry_90 : decode cX16_invokesEntry 90 = .ok (.getfield 71, 3) := by decide +kernel
theorem dX16_invokesEntry_93 : decode cX16_invokesEntry 93 = .ok (.iload 5, 2) := by decide +kernel
theorem dX16_invokesEntry_95 : decode cX16_invokesEntry 95 = .ok (.iaload, 1) := by decide +kernel
theorem dX16_invokesEntry_96 : decode cX16_invokesEntry 96 = .ok (.aload_n 0, 1) := by decide +kernel
theorem dX16_invokesEntry_97 : decode cX16_invokesEntry 97 = .ok (.getfield 131, 3) := by decide +kernel
theorem dX16_invokesEntry_100 : decode cX16_invokesEntry 100 = .ok (.aload_n 0, 1) := by decide +kernel
theorem dX16_invokesEntry_101 : decode cX16_invokesEntry 101 = .ok (.getfield 1110, 3) := by decide +kernel
theorem dX16_invokesEntry_104 : decode cX16_invokesEntry 104 = .ok (.iaload, 1) := by decide +kernel
theorem dX16_invokesEntry_105 : decode cX16_invokesEntry 105 = .ok (.iload_n 1, 1) := by decide +kernel
theorem dX16_invokesEntry_106 : decode cX16_invokesEntry 106 = .ok (.invokevirtual 973, 3) := by decide +kernel
theorem dX16_invokesEntry_109 : decode cX16_invokesEntry 109 = .ok (.ifCond .ne 13, 3) := by decide +kernel
theorem dX16_invokesEntry_112 : decode cX16_invokesEntry 112 = .ok (.aload_n 0, 1) := by decide +kernel
theorem dX16_invokesEntry_113 : decode cX16_invokesEntry 113 = .ok (.bipush 9, 2) := by decide +kernel
theorem dX16_invokesEntry_115 : decode cX16_invokesEntry 115 = .ok (.iconst 1, 1) := by decide +kernel
theorem dX16_invokesEntry_116 : decode cX16_invokesEntry 116 = .ok (.invokevirtual 1163, 3) := by decide +kernel
theorem dX16_invokesEntry_119 : decode cX16_invokesEntry 119 = .ok (.goto 9, 3) := by decide +kernel
theorem dX16_invokesEntry_122 : decode cX16_invokesEntry 122 = .ok (.aload_n 0, 1) := by decide +kernel
theorem dX16_invokesEntry_123 : decode cX16_invokesEntry 123 = .ok (.iload 5, 2) := by decide +kernel
theorem dX16_invokesEntry_125 : decode cX16_invokesEntry 125 = .ok (.invokevirtual 1173, 3) := by decide +kernel
theorem dX16_invokesEntry_128 : decode cX16_invokesEntry 128 = .ok (.return_, 1) := by decide +kernel
noncomputable def fX16_invokesEntry (h : pm_H) (a0 : Nat) : Option pm_H := if pm_kd h a0 = 16 then (fX16_word h a0).bind fun v2 => if pm_kd v2.2 a0 = 16 then (pm_R v2.2 a0 65).bind fun v5 => (fX16_word v2.2 a0).bind fun v7 => pm_let ((128 * (pm_I v2.2 a0 95)) + v7.1.toInt32) fun y9 => if pm_kd v7.2 v5 = 34 then if pm_in y9 (pm_ln v7.2 v5) then pm_let (pm_I v7.2 v5 y9.toNatClampNeg) fun y13 => if pm_kd v7.2 a0 = 16 then (fX16_pop v7.2 a0).bind fun v16 => if pm_kd v16.2 a0 = 16 then (pm_R v16.2 a0 49).bind fun v19 => if pm_kd v16.2 v19 = 34 then if pm_in y13 (pm_ln v16.2 v19) then if v16.1 < ((pm_I v16.2 v19 y13.toNatClampNeg).toInt64) then ((pm_R v16.2 a0 51).bind fun v24 => pm_let ((1024 * y13) + v16.1.toInt32) fun y26 => if pm_kd v16.2 v24 = 34 then if pm_in y26 (pm_ln v16.2 v24) then pm_let (pm_I v16.2 v24 y26.toNatClampNeg) fun y30 => if 0 ≤ y30 then ((pm_R v16.2 a0 37).bind fun v33 => if pm_kd v16.2 v33 = 34 then if pm_in y30 (pm_ln v16.2 v33) then (pm_R v16.2 a0 38).bind fun v37 => if pm_kd v16.2 v37 = 34 then if pm_in y30 (pm_ln v16.2 v37) then (pm_R v16.2 a0 63).bind fun v41 => pm_let (pm_I v16.2 a0 95) fun y43 => if pm_kd v16.2 v41 = 34 then if pm_in y43 (pm_ln v16.2 v41) then (fX16_haveSameRows v16.2 a0 (pm_I v16.2 v33 y30.toNatClampNeg) (pm_I v16.2 v37 y30.toNatClampNeg) (pm_I v16.2 v41 y43.toNatClampNeg) v2.1.toInt32).bind fun v47 => if v47 = 0 then ((fX16_endsBy v16.2 a0 9 1).bind fun v52 => some v52) else ((fX16_invokes v16.2 a0 y30).bind fun v50 => some v50) else none else none else none else none else none else none) else ((fX16_endsBy v16.2 a0 8 1).bind fun v54 => some v54) else none else none) else ((fX16_endsBy v16.2 a0 7 1).bind fun v56 => some v56) else none else none else none else none else none else none else none else none
set_option maxHeartbeats 4000000 in
set_option maxRecDepth 100000 in
theorem ctX16_invokesEntry {l : Launch} {G : pm_Gl} {h : pm_H} {a0 : Nat} {r : pm_H} {Qr : Option Value → pm_H → Prop} (hf : fX16_invokesEntry h a0 = some r) (q : Qr none r) : pm_Ct l G mX16_invokesEntry [.ref a0] h 0 0 Qr := by
  refine pm_body pnX16 (Nat.le_of_ble_eq_true rfl) (fun g C X => ?_)
  have C : pm_C g cX16_invokesEntry RX16 := C
  show pm_G g 0 [(0, .ref a0)] [] h 0 0
  unfold fX16_invokesEntry at hf
  refine pm_aload_n C dX16_invokesEntry_0 rfl rfl ?_
  obtain ⟨k1, hf⟩ := pm_if hf
  obtain ⟨v2, e3, hf⟩ := pm_bd hf
  refine pm_callV (as := []) (st := []) C X dX16_invokesEntry_1 lnX16_603 myX16_word viX16_word ⟨by decide, by decide⟩ rfl rfl k1 (Nat.le_of_ble_eq_true rfl) (Nat.le_refl _) (Nat.le_refl _) (ctX16_word e3 ?_)
  show pm_G g 4 [(0, .ref a0)] [.long v2.1] v2.2 0 0
  refine pm_l2i C dX16_invokesEntry_4 ?_
  refine pm_istore_n (lv' := [(1, .int v2.1.toInt32), (0, .ref a0)]) C dX16_invokesEntry_5 rfl (pm_nl X (by decide)) rfl ?_
  refine pm_aload_n C dX16_invokesEntry_6 rfl rfl ?_
  obtain ⟨k4, hf⟩ := pm_if hf
  obtain ⟨v5, e6, hf⟩ := pm_bd hf
  refine pm_getR C dX16_invokesEntry_7 flX16_137 rfl k4 e6 ?_
  refine pm_sipush (v := 128) C dX16_invokesEntry_10 (by decide) ?_
  refine pm_aload_n C dX16_invokesEntry_13 rfl rfl ?_
  refine pm_getI C dX16_invokesEntry_14 flX16_1110 rfl k4 rfl ?_
  refine pm_imul C dX16_invokesEntry_17 ?_
  refine pm_aload_n C dX16_invokesEntry_18 rfl rfl ?_
  obtain ⟨v7, e8, hf⟩ := pm_bd hf
  refine pm_callV (as := []) (st := [.int (128 * (pm_I v2.2 a0 95)), .ref v5]) C X dX16_invokesEntry_19 lnX16_603 myX16_word viX16_word ⟨by decide, by decide⟩ rfl rfl k4 (Nat.le_of_ble_eq_true rfl) (Nat.le_refl _) (Nat.le_refl _) (ctX16_word e8 ?_)
  show pm_G g 22 [(1, .int v2.1.toInt32), (0, .ref a0)] [.long v7.1, .int (128 * (pm_I v2.2 a0 95)), .ref v5] v7.2 0 0
  refine pm_l2i C dX16_invokesEntry_22 ?_
  refine pm_iadd C dX16_invokesEntry_23 ?_
  obtain ⟨y9, e10, hf⟩ := pm_lt hf
  refine pm_topI e10 ?_
  obtain ⟨k11, hf⟩ := pm_if hf
  obtain ⟨u12, hf⟩ := pm_if hf
  refine pm_iald C dX16_invokesEntry_24 k11 u12 rfl ?_
  obtain ⟨y13, e14, hf⟩ := pm_lt hf
  refine pm_topI e14 ?_
  refine pm_istore_n (lv' := [(2, .int y13), (1, .int v2.1.toInt32), (0, .ref a0)]) C dX16_invokesEntry_25 rfl (pm_nl X (by decide)) rfl ?_
  refine pm_aload_n C dX16_invokesEntry_26 rfl rfl ?_
  obtain ⟨k15, hf⟩ := pm_if hf
  obtain ⟨v16, e17, hf⟩ := pm_bd hf
  refine pm_callV (as := []) (st := []) C X dX16_invokesEntry_27 lnX16_1157 myX16_pop viX16_pop ⟨by decide, by decide⟩ rfl rfl k15 (Nat.le_of_ble_eq_true rfl) (Nat.le_refl _) (Nat.le_refl _) (ctX16_pop e17 ?_)
  show pm_G g 30 [(2, .int y13), (1, .int v2.1.toInt32), (0, .ref a0)] [.long v16.1] v16.2 0 0
  refine pm_lstore_n (lv' := [(3, .long v16.1), (2, .int y13), (1, .int v2.1.toInt32), (0, .ref a0)]) C dX16_invokesEntry_30 rfl (pm_nl X (by decide)) rfl ?_
  refine pm_lload_n C dX16_invokesEntry_31 rfl rfl ?_
  refine pm_aload_n C dX16_invokesEntry_32 rfl rfl ?_
  obtain ⟨k18, hf⟩ := pm_if hf
  obtain ⟨v19, e20, hf⟩ := pm_bd hf
  refine pm_getR C dX16_invokesEntry_33 flX16_96 rfl k18 e20 ?_
  refine pm_iload_n C dX16_invokesEntry_36 rfl rfl ?_
  obtain ⟨k21, hf⟩ := pm_if hf
  obtain ⟨u22, hf⟩ := pm_if hf
  refine pm_iald C dX16_invokesEntry_37 k21 u22 rfl ?_
  refine pm_i2l C dX16_invokesEntry_38 ?_
  refine pm_lcmp C dX16_invokesEntry_39 ?_
  refine pm_if_lt (tgt := 51) C dX16_invokesEntry_40 (by decide) (fun c23 => ?_) (fun c23 => ?_)
  · have hf := pm_it hf ((pm_lg_lt _ _).mp c23)
    refine pm_aload_n C dX16_invokesEntry_51 rfl rfl ?_
    obtain ⟨v24, e25, hf⟩ := pm_bd hf
    refine pm_getR C dX16_invokesEntry_52 flX16_103 rfl k18 e25 ?_
    refine pm_sipush (v := 1024) C dX16_invokesEntry_55 (by decide) ?_
    refine pm_iload_n C dX16_invokesEntry_58 rfl rfl ?_
    refine pm_imul C dX16_invokesEntry_59 ?_
    refine pm_lload_n C dX16_invokesEntry_60 rfl rfl ?_
    refine pm_l2i C dX16_invokesEntry_61 ?_
    refine pm_iadd C dX16_invokesEntry_62 ?_
    obtain ⟨y26, e27, hf⟩ := pm_lt hf
    refine pm_topI e27 ?_
    obtain ⟨k28, hf⟩ := pm_if hf
    obtain ⟨u29, hf⟩ := pm_if hf
    refine pm_iald C dX16_invokesEntry_63 k28 u29 rfl ?_
    obtain ⟨y30, e31, hf⟩ := pm_lt hf
    refine pm_topI e31 ?_
    refine pm_istore (lv' := [(5, .int y30), (3, .long v16.1), (2, .int y13), (1, .int v2.1.toInt32), (0, .ref a0)]) C dX16_invokesEntry_64 (pm_nl X (by decide)) rfl ?_
    refine pm_iload C dX16_invokesEntry_66 rfl ?_
    refine pm_if_ge (tgt := 81) C dX16_invokesEntry_68 (by decide) (fun c32 => ?_) (fun c32 => ?_)
    · have hf := pm_it hf c32
      refine pm_aload_n C dX16_invokesEntry_81 rfl rfl ?_
      refine pm_aload_n C dX16_invokesEntry_82 rfl rfl ?_
      obtain ⟨v33, e34, hf⟩ := pm_bd hf
      refine pm_getR C dX16_invokesEntry_83 flX16_68 rfl k18 e34 ?_
      refine pm_iload C dX16_invokesEntry_86 rfl ?_
      obtain ⟨k35, hf⟩ := pm_if hf
      obtain ⟨u36, hf⟩ := pm_if hf
      refine pm_iald C dX16_invokesEntry_88 k35 u36 rfl ?_
      refine pm_aload_n C dX16_invokesEntry_89 rfl rfl ?_
      obtain ⟨v37, e38, hf⟩ := pm_bd hf
      refine pm_getR C dX16_invokesEntry_90 flX16_71 rfl k18 e38 ?_
      refine pm_iload C dX16_invokesEntry_93 rfl ?_
      obtain ⟨k39, hf⟩ := pm_if hf
      obtain ⟨u40, hf⟩ := pm_if hf
      refine pm_iald C dX16_invokesEntry_95 k39 u40 rfl ?_
      refine pm_aload_n C dX16_invokesEntry_96 rfl rfl ?_
      obtain ⟨v41, e42, hf⟩ := pm_bd hf
      refine pm_getR C dX16_invokesEntry_97 flX16_131 rfl k18 e42 ?_
      refine pm_aload_n C dX16_invokesEntry_100 rfl rfl ?_
      refine pm_getI C dX16_invokesEntry_101 flX16_1110 rfl k18 rfl ?_
      obtain ⟨y43, e44, hf⟩ := pm_lt hf
      refine pm_topI e44 ?_
      obtain ⟨k45, hf⟩ := pm_if hf
      obtain ⟨u46, hf⟩ := pm_if hf
      refine pm_iald C dX16_invokesEntry_104 k45 u46 rfl ?_
      refine pm_iload_n C dX16_invokesEntry_105 rfl rfl ?_
      obtain ⟨v47, e48, hf⟩ := pm_bd hf
      refine pm_callV (as := [.int (pm_I v16.2 v33 y30.toNatClampNeg), .int (pm_I v16.2 v37 y30.toNatClampNeg), .int (pm_I v16.2 v41 y43.toNatClampNeg), .int v2.1.toInt32]) (st := []) C X dX16_invokesEntry_106 lnX16_973 myX16_haveSameRows viX16_haveSameRows ⟨by decide, by decide⟩ rfl rfl k18 (Nat.le_of_ble_eq_true rfl) (Nat.le_refl _) (Nat.le_refl _) (ctX16_haveSameRows e48 ?_)
      show pm_G g 109 [(5, .int y30), (3, .long v16.1), (2, .int y13), (1, .int v2.1.toInt32), (0, .ref a0)] [.int v47] v16.2 0 0
      refine pm_if_ne (tgt := 122) C dX16_invokesEntry_109 (by decide) (fun c49 => ?_) (fun c49 => ?_)
      · have hf := pm_ie hf c49
        refine pm_aload_n C dX16_invokesEntry_122 rfl rfl ?_
        refine pm_iload C dX16_invokesEntry_123 rfl ?_
        obtain ⟨v50, e51, hf⟩ := pm_bd hf
        refine pm_callV (as := [.int y30]) (st := []) C X dX16_invokesEntry_125 lnX16_1173 myX16_invokes viX16_invokes ⟨by decide, by decide⟩ rfl rfl k18 (Nat.le_of_ble_eq_true rfl) (Nat.le_refl _) (Nat.le_refl _) (ctX16_invokes e51 ?_)
        show pm_G g 128 [(5, .int y30), (3, .long v16.1), (2, .int y13), (1, .int v2.1.toInt32), (0, .ref a0)] [] v50 0 0
        cases hf
        exact pm_vret C X dX16_invokesEntry_128 rfl (Nat.le_refl _) (Nat.le_refl _) q
      · have hf := pm_it hf c49
        refine pm_aload_n C dX16_invokesEntry_112 rfl rfl ?_
        refine pm_bipush (v := 9) C dX16_invokesEntry_113 (by decide) ?_
        refine pm_iconst (v := 1) C dX16_invokesEntry_115 (by decide) ?_
        obtain ⟨v52, e53, hf⟩ := pm_bd hf
        refine pm_callV (as := [.int 9, .int 1]) (st := []) C X dX16_invokesEntry_116 lnX16_1163 myX16_endsBy viX16_endsBy ⟨by decide, by decide⟩ rfl rfl k18 (Nat.le_of_ble_eq_true rfl) (Nat.le_refl _) (Nat.le_refl _) (ctX16_endsBy e53 ?_)
        show pm_G g 119 [(5, .int y30), (3, .long v16.1), (2, .int y13), (1, .int v2.1.toInt32), (0, .ref a0)] [] v52 0 0
        refine pm_goto (tgt := 128) C dX16_invokesEntry_119 (by decide) ?_
        cases hf
        exact pm_vret C X dX16_invokesEntry_128 rfl (Nat.le_refl _) (Nat.le_refl _) q
    · have hf := pm_ie hf c32
      refine pm_aload_n C dX16_invokesEntry_71 rfl rfl ?_
      refine pm_bipush (v := 8) C dX16_invokesEntry_72 (by decide) ?_
      refine pm_iconst (v := 1) C dX16_invokesEntry_74 (by decide) ?_
      obtain ⟨v54, e55, hf⟩ := pm_bd hf
      refine pm_callV (as := [.int 8, .int 1]) (st := []) C X dX16_invokesEntry_75 lnX16_1163 myX16_endsBy viX16_endsBy ⟨by decide, by decide⟩ rfl rfl k18 (Nat.le_of_ble_eq_true rfl) (Nat.le_refl _) (Nat.le_refl _) (ctX16_endsBy e55 ?_)
      show pm_G g 78 [(5, .int y30), (3, .long v16.1), (2, .int y13), (1, .int v2.1.toInt32), (0, .ref a0)] [] v54 0 0
      refine pm_goto (tgt := 128) C dX16_invokesEntry_78 (by decide) ?_
      cases hf
      exact pm_vret C X dX16_invokesEntry_128 rfl (Nat.le_refl _) (Nat.le_refl _) q
  · have hf := pm_ie hf ((fun z => c23 ((pm_lg_lt _ _).mpr z)))
    refine pm_aload_n C dX16_invokesEntry_43 rfl rfl ?_
    refine pm_bipush (v := 7) C dX16_invokesEntry_44 (by decide) ?_
    refine pm_iconst (v := 1) C dX16_invokesEntry_46 (by decide) ?_
    obtain ⟨v56, e57, hf⟩ := pm_bd hf
    refine pm_callV (as := [.int 7, .int 1]) (st := []) C X dX16_invokesEntry_47 lnX16_1163 myX16_endsBy viX16_endsBy ⟨by decide, by decide⟩ rfl rfl k18 (Nat.le_of_ble_eq_true rfl) (Nat.le_refl _) (Nat.le_refl _) (ctX16_endsBy e57 ?_)
    show pm_G g 50 [(3, .long v16.1), (2, .int y13), (1, .int v2.1.toInt32), (0, .ref a0)] [] v56 0 0
    cases hf
    exact pm_vret C X dX16_invokesEntry_50 rfl (Nat.le_refl _) (Nat.le_refl _) q
