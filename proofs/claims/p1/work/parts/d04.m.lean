theorem dX9_begin_0 : decode cX9_begin 0 = .ok (.aload_n 0, 1) := by decide +kernel
theorem dX9_begin_1 : decode cX9_begin 1 = .ok (.aload_n 1, 1) := by decide +kernel
theorem dX9_begin_2 : decode cX9_begin 2 = .ok (.iconst 0, 1) := by decide +kernel
theorem dX9_begin_3 : decode cX9_begin 3 = .ok (.invokevirtual 23, 3) := by decide +kernel
theorem dX9_begin_6 : decode cX9_begin 6 = .ok (.aload_n 0, 1) := by decide +kernel
theorem dX9_begin_7 : decode cX9_begin 7 = .ok (.iconst (-1), 1) := by decide +kernel
theorem dX9_begin_8 : decode cX9_begin 8 = .ok (.putfield 27, 3) := by decide +kernel
theorem dX9_begin_11 : decode cX9_begin 11 = .ok (.aload_n 0, 1) := by decide +kernel
theorem dX9_begin_12 : decode cX9_begin 12 = .ok (.iconst 0, 1) := by decide +kernel
theorem dX9_begin_13 : decode cX9_begin 13 = .ok (.putfield 31, 3) := by decide +kernel
theorem dX9_begin_16 : decode cX9_begin 16 = .ok (.aload_n 0, 1) := by decide +kernel
theorem dX9_begin_17 : decode cX9_begin 17 = .ok (.iconst (-1), 1) := by decide +kernel
theorem dX9_begin_18 : decode cX9_begin 18 = .ok (.putfield 34, 3) := by decide +kernel
theorem dX9_begin_21 : decode cX9_begin 21 = .ok (.iconst 0, 1) := by decide +kernel
theorem dX9_begin_22 : decode cX9_begin 22 = .ok (.istore_n 2, 1) := by decide +kernel
theorem dX9_begin_23 : decode cX9_begin 23 = .ok (.iload_n 2, 1) := by decide +kernel
theorem dX9_begin_24 : decode cX9_begin 24 = .ok (.getstatic 37, 3) := by decide +kernel
theorem dX9_begin_27 : decode cX9_begin 27 = .ok (.arraylength, 1) := by decide +kernel
theorem dX9_begin_28 : decode cX9_begin 28 = .ok (.if_icmp .ge 34, 3) := by decide +kernel
theorem dX9_begin_31 : decode cX9_begin 31 = .ok (.aload_n 0, 1) := by decide +kernel
theorem dX9_begin_32 : decode cX9_begin 32 = .ok (.getfield 40, 3) := by decide +kernel
theorem dX9_begin_35 : decode cX9_begin 35 = .ok (.ifCond .ne 27, 3) := by decide +kernel
theorem dX9_begin_38 : decode cX9_begin 38 = .ok (.aload_n 0, 1) := by decide +kernel
theorem dX9_begin_39 : decode cX9_begin 39 = .ok (.invokevirtual 43, 3) := by decide +kernel
theorem dX9_begin_42 : decode cX9_begin 42 = .ok (.getstatic 37, 3) := by decide +kernel
theorem dX9_begin_45 : decode cX9_begin 45 = .ok (.iload_n 2, 1) := by decide +kernel
theorem dX9_begin_46 : decode cX9_begin 46 = .ok (.iaload, 1) := by decide +kernel
theorem dX9_begin_47 : decode cX9_begin 47 = .ok (.if_icmp .eq 9, 3) := by decide +kernel
theorem dX9_begin_50 : decode cX9_begin 50 = .ok (.aload_n 0, 1) := by decide +kernel
theorem dX9_begin_51 : decode cX9_begin 51 = .ok (.iconst 5, 1) := by decide +kernel
theorem dX9_begin_52 : decode cX9_begin 52 = .ok (.iload_n 2, 1) := by decide +kernel
theorem dX9_begin_53 : decode cX9_begin 53 = .ok (.invokevirtual 47, 3) := by decide +kernel
theorem dX9_begin_56 : decode cX9_begin 56 = .ok (.iinc 2 1, 3) := by decide +kernel
theorem dX9_begin_59 : decode cX9_begin 59 = .ok (.goto (-36), 3) := by decide +kernel
theorem dX9_begin_62 : decode cX9_begin 62 = .ok (.return_, 1) := by decide +kernel
def tX9_begin_23 (x0 : Nat) (x2 : Int32) (h : pm_H) : Option (((Nat × Int32 × pm_H)) ⊕ pm_H) := if 8 ≤ x2 then (some (.inr (h))) else (if pm_kd h x0 = 9 then if (pm_I h x0 3) = 0 then ((fX9_next h x0).bind fun v8 => if pm_in x2 8 then if v8.1 = (pm_beg.getD x2.toNatClampNeg 0) then (pm_let (x2 + 1) fun y12 => some (.inl ((x0, y12, v8.2)))) else (if pm_kd v8.2 x0 = 9 then (fX9_fail v8.2 x0 5 x2).bind fun v15 => pm_let (x2 + 1) fun y17 => some (.inl ((x0, y17, v15))) else none) else none) else (some (.inr (h))) else none)
def sX9_begin : ((Nat × Int32 × pm_H)) → Option (((Nat × Int32 × pm_H)) ⊕ pm_H) := fun z => match z with
  | (x0, x2, h) => tX9_begin_23 x0 x2 h
noncomputable def fX9_begin (h : pm_H) (a0 : Nat) (p1 : Nat) : Option pm_H := if pm_kd h a0 = 9 then (fX9_open h a0 p1 0).bind fun v2 => if pm_kd v2 a0 = 9 then pm_lim sX9_begin ((a0, 0, pm_setI (pm_setI (pm_setI v2 a0 5 (-1)) a0 12 0) a0 10 (-1))) else none else none
set_option maxHeartbeats 4000000 in
set_option maxRecDepth 100000 in
theorem lpX9_begin {g : pm_Gm} {l : Launch} {G : pm_Gl} {Qr : Option Value → pm_H → Prop} (C : pm_C g cX9_begin RX9) (X : pm_X g l G mX9_begin 0 0 Qr) {r : pm_H} (q : Qr none r) : ∀ n : Nat, (∀ (x0 : Nat) (x2 : Int32) (h : pm_H), pm_iter sX9_begin n (x0, x2, h) = some r → pm_G g 23 [(0, .ref x0), (2, .int x2)] [] h 0 0) := by
  intro n
  induction n with
  | zero => exact fun _ _ _ hf => (by cases hf)
  | succ n ih =>
    refine fun x0 x2 h hf => ?_
    obtain ⟨y, hf, hi⟩ := pm_iter_s hf
    have hf : tX9_begin_23 x0 x2 h = some y := hf
    unfold tX9_begin_23 at hf
    refine pm_iload_n C dX9_begin_23 rfl rfl ?_
    refine pm_gets0 (w := .retAddr (G.2.2 120)) C X dX9_begin_24 sfX9_37 (fun s hN => hN.2.2.2.2.2.1.1) ?_
    refine pm_tlen (N := 8) (v := 8) C X dX9_begin_27 (fun s hN => hN.2.2.2.2.2.1.2) (by decide) ?_
    refine pm_icmp_ge (tgt := 62) C dX9_begin_28 (by decide) (fun c5 => ?_) (fun c5 => ?_)
    · have hf := pm_it hf c5
      cases hf
      cases hi
      exact pm_vret C X dX9_begin_62 rfl (Nat.le_refl _) (Nat.le_refl _) q
    · have hf := pm_ie hf c5
      refine pm_aload_n C dX9_begin_31 rfl rfl ?_
      obtain ⟨k6, hf⟩ := pm_if hf
      refine pm_getI C dX9_begin_32 flX9_40 rfl k6 rfl ?_
      refine pm_if_ne (tgt := 62) C dX9_begin_35 (by decide) (fun c7 => ?_) (fun c7 => ?_)
      · have hf := pm_ie hf c7
        cases hf
        cases hi
        exact pm_vret C X dX9_begin_62 rfl (Nat.le_refl _) (Nat.le_refl _) q
      · have hf := pm_it hf c7
        refine pm_aload_n C dX9_begin_38 rfl rfl ?_
        obtain ⟨v8, e9, hf⟩ := pm_bd hf
        refine pm_callV (as := []) (st := []) C X dX9_begin_39 lnX9_43 myX9_next viX9_next ⟨by decide, by decide⟩ rfl rfl k6 (Nat.le_of_ble_eq_true rfl) (Nat.le_refl _) (Nat.le_refl _) (ctX9_next e9 ?_)
        show pm_G g 42 [(0, .ref x0), (2, .int x2)] [.int v8.1] v8.2 0 0
        refine pm_gets0 (w := .retAddr (G.2.2 120)) C X dX9_begin_42 sfX9_37 (fun s hN => hN.2.2.2.2.2.1.1) ?_
        refine pm_iload_n C dX9_begin_45 rfl rfl ?_
        obtain ⟨u10, hf⟩ := pm_if hf
        refine pm_tiald (f := fun j => pm_beg.getD j 0) C X dX9_begin_46 (fun s hN => hN.2.2.2.2.2.1.2) u10 ?_
        refine pm_icmp_eq (tgt := 56) C dX9_begin_47 (by decide) (fun c11 => ?_) (fun c11 => ?_)
        · have hf := pm_it hf c11
          obtain ⟨y12, e13, hf⟩ := pm_lt hf
          refine pm_iinc (v := y12) (lv' := [(2, .int y12), (0, .ref x0)]) C dX9_begin_56 rfl ((congrArg (x2 + ·) (by decide : Int32.ofInt 1 = 1)).trans e13) (pm_nl X (by decide)) rfl ?_
          refine pm_goto (tgt := 23) C dX9_begin_59 (by decide) ?_
          cases hf
          exact pm_sub [1, 0] rfl (ih x0 y12 v8.2 hi)
        · have hf := pm_ie hf c11
          refine pm_aload_n C dX9_begin_50 rfl rfl ?_
          refine pm_iconst (v := 5) C dX9_begin_51 (by decide) ?_
          refine pm_iload_n C dX9_begin_52 rfl rfl ?_
          obtain ⟨k14, hf⟩ := pm_if hf
          obtain ⟨v15, e16, hf⟩ := pm_bd hf
          refine pm_callV (as := [.int 5, .int x2]) (st := []) C X dX9_begin_53 lnX9_47 myX9_fail viX9_fail ⟨by decide, by decide⟩ rfl rfl k14 (Nat.le_of_ble_eq_true rfl) (Nat.le_refl _) (Nat.le_refl _) (ctX9_fail e16 ?_)
          show pm_G g 56 [(0, .ref x0), (2, .int x2)] [] v15 0 0
          obtain ⟨y17, e18, hf⟩ := pm_lt hf
          refine pm_iinc (v := y17) (lv' := [(2, .int y17), (0, .ref x0)]) C dX9_begin_56 rfl ((congrArg (x2 + ·) (by decide : Int32.ofInt 1 = 1)).trans e18) (pm_nl X (by decide)) rfl ?_
          refine pm_goto (tgt := 23) C dX9_begin_59 (by decide) ?_
          cases hf
          exact pm_sub [1, 0] rfl (ih x0 y17 v15 hi)
set_option maxHeartbeats 4000000 in
set_option maxRecDepth 100000 in
theorem ctX9_begin {l : Launch} {G : pm_Gl} {h : pm_H} {a0 : Nat} {p1 : Nat} {r : pm_H} {Qr : Option Value → pm_H → Prop} (hf : fX9_begin h a0 p1 = some r) (q : Qr none r) : pm_Ct l G mX9_begin [.ref a0, .ref p1] h 0 0 Qr := by
  refine pm_body pnX9 (Nat.le_of_ble_eq_true rfl) (fun g C X => ?_)
  have C : pm_C g cX9_begin RX9 := C
  show pm_G g 0 [(0, .ref a0), (1, .ref p1)] [] h 0 0
  unfold fX9_begin at hf
  refine pm_aload_n C dX9_begin_0 rfl rfl ?_
  refine pm_aload_n C dX9_begin_1 rfl rfl ?_
  refine pm_iconst (v := 0) C dX9_begin_2 (by decide) ?_
  obtain ⟨k1, hf⟩ := pm_if hf
  obtain ⟨v2, e3, hf⟩ := pm_bd hf
  refine pm_callV (as := [.ref p1, .int 0]) (st := []) C X dX9_begin_3 lnX9_23 myX9_open viX9_open ⟨by decide, by decide⟩ rfl rfl k1 (Nat.le_of_ble_eq_true rfl) (Nat.le_refl _) (Nat.le_refl _) (ctX9_open e3 ?_)
  show pm_G g 6 [(0, .ref a0), (1, .ref p1)] [] v2 0 0
  refine pm_aload_n C dX9_begin_6 rfl rfl ?_
  refine pm_iconst (v := (-1)) C dX9_begin_7 (by decide) ?_
  obtain ⟨k4, hf⟩ := pm_if hf
  refine pm_putI C dX9_begin_8 flX9_27 rfl rfl k4 rfl rfl ?_
  refine pm_aload_n C dX9_begin_11 rfl rfl ?_
  refine pm_iconst (v := 0) C dX9_begin_12 (by decide) ?_
  refine pm_putI C dX9_begin_13 flX9_31 rfl rfl k4 rfl rfl ?_
  refine pm_aload_n C dX9_begin_16 rfl rfl ?_
  refine pm_iconst (v := (-1)) C dX9_begin_17 (by decide) ?_
  refine pm_putI C dX9_begin_18 flX9_34 rfl rfl k4 rfl rfl ?_
  refine pm_iconst (v := 0) C dX9_begin_21 (by decide) ?_
  refine pm_istore_n (lv' := [(2, .int 0), (0, .ref a0), (1, .ref p1)]) C dX9_begin_22 rfl (pm_nl X (by decide)) rfl ?_
  obtain ⟨n, hn⟩ := pm_lim_iter hf
  exact pm_sub [1, 0] rfl ((lpX9_begin C X q n) a0 0 (pm_setI (pm_setI (pm_setI v2 a0 5 (-1)) a0 12 0) a0 10 (-1)) hn)
set_option maxHeartbeats 4000000 in
set_option maxRecDepth 100000 in
theorem klX9_begin {r : pm_H} : ∀ n : Nat, (∀ (x0 : Nat) (x2 : Int32) (h : pm_H), pm_iter sX9_begin n (x0, x2, h) = some r → pm_S3 r h) := by
  intro n
  induction n with
  | zero => exact fun _ _ _ hf => (by cases hf)
  | succ n ih =>
    refine fun x0 x2 h hf => ?_
    obtain ⟨y, hf, hi⟩ := pm_iter_s hf
    have hf : tX9_begin_23 x0 x2 h = some y := hf
    unfold tX9_begin_23 at hf
    have K0 := pm_S3.rf h
    by_cases c6 : 8 ≤ x2
    · have hf := pm_it hf c6
      cases hf
      cases hi
      exact K0
    · have hf := pm_ie hf c6
      obtain ⟨k7, hf⟩ := pm_if hf
      by_cases c8 : (pm_I h x0 3) = 0
      · have hf := pm_it hf c8
        obtain ⟨v9, e10, hf⟩ := pm_bd hf
        have K11 := pm_S3.trans (kpX9_next e10) K0
        obtain ⟨u12, hf⟩ := pm_if hf
        by_cases c13 : v9.1 = (pm_beg.getD x2.toNatClampNeg 0)
        · have hf := pm_it hf c13
          obtain ⟨y14, e15, hf⟩ := pm_lt hf
          cases hf
          exact pm_S3.trans (ih x0 y14 v9.2 hi) K11
        · have hf := pm_ie hf c13
          obtain ⟨k16, hf⟩ := pm_if hf
          obtain ⟨v17, e18, hf⟩ := pm_bd hf
          have K19 := pm_S3.trans (kpX9_fail e18) K11
          obtain ⟨y20, e21, hf⟩ := pm_lt hf
          cases hf
          exact pm_S3.trans (ih x0 y20 v17 hi) K19
      · have hf := pm_ie hf c8
        cases hf
        cases hi
        exact K0
set_option maxHeartbeats 4000000 in
set_option maxRecDepth 100000 in
theorem kpX9_begin {h : pm_H} {a0 : Nat} {p1 : Nat} {r : pm_H} (hf : fX9_begin h a0 p1 = some r) : pm_S3 r h := by
  unfold fX9_begin at hf
  have K0 := pm_S3.rf h
  obtain ⟨k1, hf⟩ := pm_if hf
  obtain ⟨v2, e3, hf⟩ := pm_bd hf
  have K4 := pm_S3.trans (kpX9_open e3) K0
  obtain ⟨k5, hf⟩ := pm_if hf
  obtain ⟨n, hn⟩ := pm_lim_iter hf
  exact pm_S3.trans ((klX9_begin n) a0 0 (pm_setI (pm_setI (pm_setI v2 a0 5 (-1)) a0 12 0) a0 10 (-1)) hn) K4
theorem dX1_memoryAccess_0 : decode cX1_memoryAccess 0 = .ok (.iload_n 1, 1) := by decide +kernel
theorem dX1_memoryAccess_1 : decode cX1_memoryAccess 1 = .ok (.bipush 63, 2) := by decide +kernel
theorem dX1_memoryAccess_3 : decode cX1_memoryAccess 3 = .ok (.if_icmp .ge 19, 3) := by decide +kernel
theorem dX1_memoryAccess_6 : decode cX1_memoryAccess 6 = .ok (.aload_n 0, 1) := by decide +kernel
theorem dX1_memoryAccess_7 : decode cX1_memoryAccess 7 = .ok (.getfield 36, 3) := by decide +kernel
theorem dX1_memoryAccess_10 : decode cX1_memoryAccess 10 = .ok (.getfield 201, 3) := by decide +kernel
theorem dX1_memoryAccess_13 : decode cX1_memoryAccess 13 = .ok (.iload_n 1, 1) := by decide +kernel
theorem dX1_memoryAccess_14 : decode cX1_memoryAccess 14 = .ok (.invokestatic 434, 3) := by decide +kernel
theorem dX1_memoryAccess_17 : decode cX1_memoryAccess 17 = .ok (.i2l, 1) := by decide +kernel
theorem dX1_memoryAccess_18 : decode cX1_memoryAccess 18 = .ok (.lcmp, 1) := by decide +kernel
theorem dX1_memoryAccess_19 : decode cX1_memoryAccess 19 = .ok (.ifCond .gt 7, 3) := by decide +kernel
theorem dX1_memoryAccess_22 : decode cX1_memoryAccess 22 = .ok (.iconst 1, 1) := by decide +kernel
theorem dX1_memoryAccess_23 : decode cX1_memoryAccess 23 = .ok (.goto 4, 3) := by decide +kernel
theorem dX1_memoryAccess_26 : decode cX1_memoryAccess 26 = .ok (.iconst 0, 1) := by decide +kernel
theorem dX1_memoryAccess_27 : decode cX1_memoryAccess 27 = .ok (.istore_n 2, 1) := by decide +kernel
theorem dX1_memoryAccess_28 : decode cX1_memoryAccess 28 = .ok (.aload_n 0, 1) := by decide +kernel
theorem dX1_memoryAccess_29 : decode cX1_memoryAccess 29 = .ok (.getfield 40, 3) := by decide +kernel
theorem dX1_memoryAccess_32 : decode cX1_memoryAccess 32 = .ok (.iconst 2, 1) := by decide +kernel
theorem dX1_memoryAccess_33 : decode cX1_memoryAccess 33 = .ok (.invokevirtual 60, 3) := by decide +kernel
theorem dX1_memoryAccess_36 : decode cX1_memoryAccess 36 = .ok (.ifCond .eq 7, 3) := by decide +kernel
theorem dX1_memoryAccess_39 : decode cX1_memoryAccess 39 = .ok (.iload_n 2, 1) := by decide +kernel
theorem dX1_memoryAccess_40 : decode cX1_memoryAccess 40 = .ok (.ifCond .ne 10, 3) := by decide +kernel
theorem dX1_memoryAccess_43 : decode cX1_memoryAccess 43 = .ok (.aload_n 0, 1) := by decide +kernel
theorem dX1_memoryAccess_44 : decode cX1_memoryAccess 44 = .ok (.bipush 30, 2) := by decide +kernel
theorem dX1_memoryAccess_46 : decode cX1_memoryAccess 46 = .ok (.invokevirtual 198, 3) := by decide +kernel
theorem dX1_memoryAccess_49 : decode cX1_memoryAccess 49 = .ok (.return_, 1) := by decide +kernel
theorem dX1_memoryAccess_50 : decode cX1_memoryAccess 50 = .ok (.iload_n 1, 1) := by decide +kernel
theorem dX1_memoryAccess_51 : decode cX1_memoryAccess 51 = .ok (.bipush 63, 2) := by decide +kernel
theorem dX1_memoryAccess_53 : decode cX1_memoryAccess 53 = .ok (.if_icmp .ne 15, 3) := by decide +kernel
theorem dX1_memoryAccess_56 : decode cX1_memoryAccess 56 = .ok (.aload_n 0, 1) := by decide +kernel
theorem dX1_memoryAccess_57 : decode cX1_memoryAccess 57 = .ok (.iconst 0, 1) := by decide +kernel
theorem dX1_memoryAccess_58 : decode cX1_memoryAccess 58 = .ok (.iconst 0, 1) := by decide +kernel
theorem dX1_memoryAccess_59 : decode cX1_memoryAccess 59 = .ok (.iconst 0, 1) := by decide +kernel
theorem dX1_memoryAccess_60 : decode cX1_memoryAccess 60 = .ok (.bipush 127, 2) := by decide +kernel
theorem dX1_memoryAccess_62 : decode cX1_memoryAccess 62 = .ok (.invokevirtual 427, 3) := by decide +kernel
theorem dX1_memoryAccess_65 : decode cX1_memoryAccess 65 = .ok (.goto 55, 3) := by decide +kernel
theorem dX1_memoryAccess_68 : decode cX1_memoryAccess 68 = .ok (.iload_n 1, 1) := by decide +kernel
theorem dX1_memoryAccess_69 : decode cX1_memoryAccess 69 = .ok (.bipush 64, 2) := by decide +kernel
theorem dX1_memoryAccess_71 : decode cX1_memoryAccess 71 = .ok (.if_icmp .ne 16, 3) := by decide +kernel
theorem dX1_memoryAccess_74 : decode cX1_memoryAccess 74 = .ok (.aload_n 0, 1) := by decide +kernel
theorem dX1_memoryAccess_75 : decode cX1_memoryAccess 75 = .ok (.bipush 127, 2) := by decide +kernel
theorem dX1_memoryAccess_77 : decode cX1_memoryAccess 77 = .ok (.iconst 0, 1) := by decide +kernel
theorem dX1_memoryAccess_78 : decode cX1_memoryAccess 78 = .ok (.iconst 0, 1) := by decide +kernel
theorem dX1_memoryAccess_79 : decode cX1_memoryAccess 79 = .ok (.bipush 127, 2) := by decide +kernel
theorem dX1_memoryAccess_81 : decode cX1_memoryAccess 81 = .ok (.invokevirtual 427, 3) := by decide +kernel
theorem dX1_memoryAccess_84 : decode cX1_memoryAccess 84 = .ok (.goto 36, 3) := by decide +kernel
theorem dX1_memoryAccess_87 : decode cX1_memoryAccess 87 = .ok (.iload_n 1, 1) := by decide +kernel
theorem dX1_memoryAccess_88 : decode cX1_memoryAccess 88 = .ok (.bipush 54, 2) := by decide +kernel
theorem dX1_memoryAccess_90 : decode cX1_memoryAccess 90 = .ok (.if_icmp .ge 18, 3) := by decide +kernel
theorem dX1_memoryAccess_93 : decode cX1_memoryAccess 93 = .ok (.aload_n 0, 1) := by decide +kernel
theorem dX1_memoryAccess_94 : decode cX1_memoryAccess 94 = .ok (.bipush 127, 2) := by decide +kernel
theorem dX1_memoryAccess_96 : decode cX1_memoryAccess 96 = .ok (.iconst 0, 1) := by decide +kernel
theorem dX1_memoryAccess_97 : decode cX1_memoryAccess 97 = .ok (.iconst 0, 1) := by decide +kernel
theorem dX1_memoryAccess_98 : decode cX1_memoryAccess 98 = .ok (.iload_n 1, 1) := by decide +kernel
theorem dX1_memoryAccess_99 : decode cX1_memoryAccess 99 = .ok (.invokestatic 439, 3) := by decide +kernel
theorem dX1_memoryAccess_102 : decode cX1_memoryAccess 102 = .ok (.invokevirtual 427, 3) := by decide +kernel
theorem dX1_memoryAccess_105 : decode cX1_memoryAccess 105 = .ok (.goto 15, 3) := by decide +kernel
theorem dX1_memoryAccess_108 : decode cX1_memoryAccess 108 = .ok (.aload_n 0, 1) := by decide +kernel
theorem dX1_memoryAccess_109 : decode cX1_memoryAccess 109 = .ok (.iload_n 1, 1) := by decide +kernel
theorem dX1_memoryAccess_110 : decode cX1_memoryAccess 110 = .ok (.invokestatic 439, 3) := by decide +kernel
theorem dX1_memoryAccess_113 : decode cX1_memoryAccess 113 = .ok (.bipush 127, 2) := by decide +kernel
theorem dX1_memoryAccess_115 : decode cX1_memoryAccess 115 = .ok (.iconst 0, 1) := by decide +kernel
theorem dX1_memoryAccess_116 : decode cX1_memoryAccess 116 = .ok (.iconst 0, 1) := by decide +kernel
theorem dX1_memoryAccess_117 : decode cX1_memoryAccess 117 = .ok (.invokevirtual 427, 3) := by decide +kernel
theorem dX1_memoryAccess_120 : decode cX1_memoryAccess 120 = .ok (.return_, 1) := by decide +kernel
def fX1_memoryAccess_b27 (h : pm_H) (x0 : Nat) (x1 : Int32) (s0 : Int32) : Option pm_H := if pm_kd h x0 = 1 then (pm_R h x0 2).bind fun v10 => if pm_kd h v10 = 7 then (fX7_count h v10 2).bind fun v13 => if v13 = 0 then ((fX1_fail h x0 30).bind fun v16 => some v16) else (if s0 = 0 then ((fX1_fail h x0 30).bind fun v34 => some v34) else (if x1 = 63 then ((fX1_plain h x0 0 0 0 127).bind fun v32 => some v32) else (if x1 = 64 then ((fX1_plain h x0 127 0 0 127).bind fun v30 => some v30) else (if 54 ≤ x1 then ((fX6_valueType x1).bind fun v22 => (fX1_plain h x0 v22 127 0 0).bind fun v24 => some v24) else ((fX6_valueType x1).bind fun v26 => (fX1_plain h x0 127 0 0 v26).bind fun v28 => some v28))))) else none else none
def fX1_memoryAccess_b22 (h : pm_H) (x0 : Nat) (x1 : Int32) : Option pm_H := fX1_memoryAccess_b27 h x0 x1 1
def fX1_memoryAccess (h : pm_H) (a0 : Nat) (p1 : Int32) : Option pm_H := if 63 ≤ p1 then (fX1_memoryAccess_b22 h a0 p1) else (if pm_kd h a0 = 1 then (pm_R h a0 3).bind fun v3 => if pm_kd h v3 = 9 then (fX6_logOfWidth p1).bind fun v6 => if v6.toInt64 < (pm_L h v3 8) then (fX1_memoryAccess_b27 h a0 p1 0) else (fX1_memoryAccess_b22 h a0 p1) else none else none)
set_option maxHeartbeats 4000000 in
set_option maxRecDepth 100000 in
theorem bX1_memoryAccess_27 {g : pm_Gm} {l : Launch} {G : pm_Gl} {Qr : Option Value → pm_H → Prop} (C : pm_C g cX1_memoryAccess RX1) (X : pm_X g l G mX1_memoryAccess 0 0 Qr) {h : pm_H} {x0 : Nat} {x1 : Int32} {s0 : Int32} {r : pm_H} (hf : fX1_memoryAccess_b27 h x0 x1 s0 = some r) (q : Qr none r) : pm_G g 27 [(0, .ref x0), (1, .int x1)] [.int s0] h 0 0 := by
  unfold fX1_memoryAccess_b27 at hf
  refine pm_istore_n (lv' := [(2, .int s0), (0, .ref x0), (1, .int x1)]) C dX1_memoryAccess_27 rfl (pm_nl X (by decide)) rfl ?_
  refine pm_aload_n C dX1_memoryAccess_28 rfl rfl ?_
  obtain ⟨k9, hf⟩ := pm_if hf
  obtain ⟨v10, e11, hf⟩ := pm_bd hf
  refine pm_getR C dX1_memoryAccess_29 flX1_40 rfl k9 e11 ?_
  refine pm_iconst (v := 2) C dX1_memoryAccess_32 (by decide) ?_
  obtain ⟨k12, hf⟩ := pm_if hf
  obtain ⟨v13, e14, hf⟩ := pm_bd hf
  refine pm_callV (as := [.int 2]) (st := []) C X dX1_memoryAccess_33 lnX1_60 myX7_count viX7_count ⟨by decide, by decide⟩ rfl rfl k12 (Nat.le_of_ble_eq_true rfl) (Nat.le_refl _) (Nat.le_refl _) (ctX7_count e14 ?_)
  show pm_G g 36 [(2, .int s0), (0, .ref x0), (1, .int x1)] [.int v13] h 0 0
  refine pm_if_eq (tgt := 43) C dX1_memoryAccess_36 (by decide) (fun c15 => ?_) (fun c15 => ?_)
  · have hf := pm_it hf c15
    refine pm_aload_n C dX1_memoryAccess_43 rfl rfl ?_
    refine pm_bipush (v := 30) C dX1_memoryAccess_44 (by decide) ?_
    obtain ⟨v16, e17, hf⟩ := pm_bd hf
    refine pm_callV (as := [.int 30]) (st := []) C X dX1_memoryAccess_46 lnX1_198 myX1_fail viX1_fail ⟨by decide, by decide⟩ rfl rfl k9 (Nat.le_of_ble_eq_true rfl) (Nat.le_refl _) (Nat.le_refl _) (ctX1_fail e17 ?_)
    show pm_G g 49 [(2, .int s0), (0, .ref x0), (1, .int x1)] [] v16 0 0
    cases hf
    exact pm_vret C X dX1_memoryAccess_49 rfl (Nat.le_refl _) (Nat.le_refl _) q
  · have hf := pm_ie hf c15
    refine pm_iload_n C dX1_memoryAccess_39 rfl rfl ?_
    refine pm_if_ne (tgt := 50) C dX1_memoryAccess_40 (by decide) (fun c18 => ?_) (fun c18 => ?_)
    · have hf := pm_ie hf c18
      refine pm_iload_n C dX1_memoryAccess_50 rfl rfl ?_
      refine pm_bipush (v := 63) C dX1_memoryAccess_51 (by decide) ?_
      refine pm_icmp_ne (tgt := 68) C dX1_memoryAccess_53 (by decide) (fun c19 => ?_) (fun c19 => ?_)
      · have hf := pm_ie hf c19
        refine pm_iload_n C dX1_memoryAccess_68 rfl rfl ?_
        refine pm_bipush (v := 64) C dX1_memoryAccess_69 (by decide) ?_
        refine pm_icmp_ne (tgt := 87) C dX1_memoryAccess_71 (by decide) (fun c20 => ?_) (fun c20 => ?_)
        · have hf := pm_ie hf c20
          refine pm_iload_n C dX1_memoryAccess_87 rfl rfl ?_
          refine pm_bipush (v := 54) C dX1_memoryAccess_88 (by decide) ?_
          refine pm_icmp_ge (tgt := 108) C dX1_memoryAccess_90 (by decide) (fun c21 => ?_) (fun c21 => ?_)
          · have hf := pm_it hf c21
            refine pm_aload_n C dX1_memoryAccess_108 rfl rfl ?_
            refine pm_iload_n C dX1_memoryAccess_109 rfl rfl ?_
            obtain ⟨v22, e23, hf⟩ := pm_bd hf
            refine pm_callS (as := [.int x1]) (st := [.ref x0]) C X dX1_memoryAccess_110 lnX1_439 myX6_valueType stX6_valueType ⟨by decide, by decide⟩ rfl rfl (Nat.le_of_ble_eq_true rfl) (Nat.le_refl _) (Nat.le_refl _) (ctX6_valueType e23 ?_)
            show pm_G g 113 [(2, .int s0), (0, .ref x0), (1, .int x1)] [.int v22, .ref x0] h 0 0
            refine pm_bipush (v := 127) C dX1_memoryAccess_113 (by decide) ?_
            refine pm_iconst (v := 0) C dX1_memoryAccess_115 (by decide) ?_
            refine pm_iconst (v := 0) C dX1_memoryAccess_116 (by decide) ?_
            obtain ⟨v24, e25, hf⟩ := pm_bd hf
            refine pm_callV (as := [.int v22, .int 127, .int 0, .int 0]) (st := []) C X dX1_memoryAccess_117 lnX1_427 myX1_plain viX1_plain ⟨by decide, by decide⟩ rfl rfl k9 (Nat.le_of_ble_eq_true rfl) (Nat.le_refl _) (Nat.le_refl _) (ctX1_plain e25 ?_)
            show pm_G g 120 [(2, .int s0), (0, .ref x0), (1, .int x1)] [] v24 0 0
            cases hf
            exact pm_vret C X dX1_memoryAccess_120 rfl (Nat.le_refl _) (Nat.le_refl _) q
          · have hf := pm_ie hf c21
            refine pm_aload_n C dX1_memoryAccess_93 rfl rfl ?_
            refine pm_bipush (v := 127) C dX1_memoryAccess_94 (by decide) ?_
            refine pm_iconst (v := 0) C dX1_memoryAccess_96 (by decide) ?_
            refine pm_iconst (v := 0) C dX1_memoryAccess_97 (by decide) ?_
            refine pm_iload_n C dX1_memoryAccess_98 rfl rfl ?_
            obtain ⟨v26, e27, hf⟩ := pm_bd hf
            refine pm_callS (as := [.int x1]) (st := [.int 0, .int 0, .int 127, .ref x0]) C X dX1_memoryAccess_99 lnX1_439 myX6_valueType stX6_valueType ⟨by decide, by decide⟩ rfl rfl (Nat.le_of_ble_eq_true rfl) (Nat.le_refl _) (Nat.le_refl _) (ctX6_valueType e27 ?_)
            show pm_G g 102 [(2, .int s0), (0, .ref x0), (1, .int x1)] [.int v26, .int 0, .int 0, .int 127, .ref x0] h 0 0
            obtain ⟨v28, e29, hf⟩ := pm_bd hf
            refine pm_callV (as := [.int 127, .int 0, .int 0, .int v26]) (st := []) C X dX1_memoryAccess_102 lnX1_427 myX1_plain viX1_plain ⟨by decide, by decide⟩ rfl rfl k9 (Nat.le_of_ble_eq_true rfl) (Nat.le_refl _) (Nat.le_refl _) (ctX1_plain e29 ?_)
            show pm_G g 105 [(2, .int s0), (0, .ref x0), (1, .int x1)] [] v28 0 0
            refine pm_goto (tgt := 120) C dX1_memoryAccess_105 (by decide) ?_
            cases hf
            exact pm_vret C X dX1_memoryAccess_120 rfl (Nat.le_refl _) (Nat.le_refl _) q
        · have hf := pm_it hf c20
          refine pm_aload_n C dX1_memoryAccess_74 rfl rfl ?_
          refine pm_bipush (v := 127) C dX1_memoryAccess_75 (by decide) ?_
          refine pm_iconst (v := 0) C dX1_memoryAccess_77 (by decide) ?_
          refine pm_iconst (v := 0) C dX1_memoryAccess_78 (by decide) ?_
          refine pm_bipush (v := 127) C dX1_memoryAccess_79 (by decide) ?_
          obtain ⟨v30, e31, hf⟩ := pm_bd hf
          refine pm_callV (as := [.int 127, .int 0, .int 0, .int 127]) (st := []) C X dX1_memoryAccess_81 lnX1_427 myX1_plain viX1_plain ⟨by decide, by decide⟩ rfl rfl k9 (Nat.le_of_ble_eq_true rfl) (Nat.le_refl _) (Nat.le_refl _) (ctX1_plain e31 ?_)
          show pm_G g 84 [(2, .int s0), (0, .ref x0), (1, .int x1)] [] v30 0 0
          refine pm_goto (tgt := 120) C dX1_memoryAccess_84 (by decide) ?_
          cases hf
          exact pm_vret C X dX1_memoryAccess_120 rfl (Nat.le_refl _) (Nat.le_refl _) q
      · have hf := pm_it hf c19
        refine pm_aload_n C dX1_memoryAccess_56 rfl rfl ?_
        refine pm_iconst (v := 0) C dX1_memoryAccess_57 (by decide) ?_
        refine pm_iconst (v := 0) C dX1_memoryAccess_58 (by decide) ?_
        refine pm_iconst (v := 0) C dX1_memoryAccess_59 (by decide) ?_
        refine pm_bipush (v := 127) C dX1_memoryAccess_60 (by decide) ?_
        obtain ⟨v32, e33, hf⟩ := pm_bd hf
        refine pm_callV (as := [.int 0, .int 0, .int 0, .int 127]) (st := []) C X dX1_memoryAccess_62 lnX1_427 myX1_plain viX1_plain ⟨by decide, by decide⟩ rfl rfl k9 (Nat.le_of_ble_eq_true rfl) (Nat.le_refl _) (Nat.le_refl _) (ctX1_plain e33 ?_)
        show pm_G g 65 [(2, .int s0), (0, .ref x0), (1, .int x1)] [] v32 0 0
        refine pm_goto (tgt := 120) C dX1_memoryAccess_65 (by decide) ?_
        cases hf
        exact pm_vret C X dX1_memoryAccess_120 rfl (Nat.le_refl _) (Nat.le_refl _) q
    · have hf := pm_it hf c18
      refine pm_aload_n C dX1_memoryAccess_43 rfl rfl ?_
      refine pm_bipush (v := 30) C dX1_memoryAccess_44 (by decide) ?_
      obtain ⟨v34, e35, hf⟩ := pm_bd hf
      refine pm_callV (as := [.int 30]) (st := []) C X dX1_memoryAccess_46 lnX1_198 myX1_fail viX1_fail ⟨by decide, by decide⟩ rfl rfl k9 (Nat.le_of_ble_eq_true rfl) (Nat.le_refl _) (Nat.le_refl _) (ctX1_fail e35 ?_)
      show pm_G g 49 [(2, .int s0), (0, .ref x0), (1, .int x1)] [] v34 0 0
      cases hf
      exact pm_vret C X dX1_memoryAccess_49 rfl (Nat.le_refl _) (Nat.le_refl _) q
set_option maxHeartbeats 4000000 in
set_option maxRecDepth 100000 in
theorem bX1_memoryAccess_22 {g : pm_Gm} {l : Launch} {G : pm_Gl} {Qr : Option Value → pm_H → Prop} (C : pm_C g cX1_memoryAccess RX1) (X : pm_X g l G mX1_memoryAccess 0 0 Qr) {h : pm_H} {x0 : Nat} {x1 : Int32} {r : pm_H} (hf : fX1_memoryAccess_b22 h x0 x1 = some r) (q : Qr none r) : pm_G g 22 [(0, .ref x0), (1, .int x1)] [] h 0 0 := by
  unfold fX1_memoryAccess_b22 at hf
  refine pm_iconst (v := 1) C dX1_memoryAccess_22 (by decide) ?_
  refine pm_goto (tgt := 27) C dX1_memoryAccess_23 (by decide) ?_
  exact pm_sub [0, 1] rfl (bX1_memoryAccess_27 C X hf q)
set_option maxHeartbeats 4000000 in
set_option maxRecDepth 100000 in
theorem ctX1_memoryAccess {l : Launch} {G : pm_Gl} {h : pm_H} {a0 : Nat} {p1 : Int32} {r : pm_H} {Qr : Option Value → pm_H → Prop} (hf : fX1_memoryAccess h a0 p1 = some r) (q : Qr none r) : pm_Ct l G mX1_memoryAccess [.ref a0, .int p1] h 0 0 Qr := by
  refine pm_body pnX1 (Nat.le_of_ble_eq_true rfl) (fun g C X => ?_)
  have C : pm_C g cX1_memoryAccess RX1 := C
  show pm_G g 0 [(0, .ref a0), (1, .int p1)] [] h 0 0
  unfold fX1_memoryAccess at hf
  refine pm_iload_n C dX1_memoryAccess_0 rfl rfl ?_
  refine pm_bipush (v := 63) C dX1_memoryAccess_1 (by decide) ?_
  refine pm_icmp_ge (tgt := 22) C dX1_memoryAccess_3 (by decide) (fun c1 => ?_) (fun c1 => ?_)
  · have hf := pm_it hf c1
    exact pm_sub [0, 1] rfl (bX1_memoryAccess_22 C X hf q)
  · have hf := pm_ie hf c1
    refine pm_aload_n C dX1_memoryAccess_6 rfl rfl ?_
    obtain ⟨k2, hf⟩ := pm_if hf
    obtain ⟨v3, e4, hf⟩ := pm_bd hf
    refine pm_getR C dX1_memoryAccess_7 flX1_36 rfl k2 e4 ?_
    obtain ⟨k5, hf⟩ := pm_if hf
    refine pm_getL C dX1_memoryAccess_10 flX1_201 rfl k5 rfl ?_
    refine pm_iload_n C dX1_memoryAccess_13 rfl rfl ?_
    obtain ⟨v6, e7, hf⟩ := pm_bd hf
    refine pm_callS (as := [.int p1]) (st := [.long (pm_L h v3 8)]) C X dX1_memoryAccess_14 lnX1_434 myX6_logOfWidth stX6_logOfWidth ⟨by decide, by decide⟩ rfl rfl (Nat.le_of_ble_eq_true rfl) (Nat.le_refl _) (Nat.le_refl _) (ctX6_logOfWidth e7 ?_)
    show pm_G g 17 [(0, .ref a0), (1, .int p1)] [.int v6, .long (pm_L h v3 8)] h 0 0
    refine pm_i2l C dX1_memoryAccess_17 ?_
    refine pm_lcmp C dX1_memoryAccess_18 ?_
    refine pm_if_gt (tgt := 26) C dX1_memoryAccess_19 (by decide) (fun c8 => ?_) (fun c8 => ?_)
    · have hf := pm_it hf ((pm_lg_gt _ _).mp c8)
      refine pm_iconst (v := 0) C dX1_memoryAccess_26 (by decide) ?_
      exact pm_sub [0, 1] rfl (bX1_memoryAccess_27 C X hf q)
    · have hf := pm_ie hf ((fun z => c8 ((pm_lg_gt _ _).mpr z)))
      exact pm_sub [0, 1] rfl (bX1_memoryAccess_22 C X hf q)
set_option maxHeartbeats 4000000 in
set_option maxRecDepth 100000 in
theorem kpX1_memoryAccess_b27 {h : pm_H} {x0 : Nat} {x1 : Int32} {s0 : Int32} {r : pm_H} (hf : fX1_memoryAccess_b27 h x0 x1 s0 = some r) : pm_S3 r h := by
  unfold fX1_memoryAccess_b27 at hf
  have K0 := pm_S3.rf h
  obtain ⟨k9, hf⟩ := pm_if hf
  obtain ⟨v10, e11, hf⟩ := pm_bd hf
  obtain ⟨k12, hf⟩ := pm_if hf
  obtain ⟨v13, e14, hf⟩ := pm_bd hf
  by_cases c15 : v13 = 0
  · have hf := pm_it hf c15
    obtain ⟨v16, e17, hf⟩ := pm_bd hf
    have K18 := pm_S3.trans (kpX1_fail e17) K0
    cases hf
    exact K18
  · have hf := pm_ie hf c15
    by_cases c19 : s0 = 0
    · have hf := pm_it hf c19
      obtain ⟨v20, e21, hf⟩ := pm_bd hf
      have K22 := pm_S3.trans (kpX1_fail e21) K0
      cases hf
      exact K22
    · have hf := pm_ie hf c19
      by_cases c23 : x1 = 63
      · have hf := pm_it hf c23
        obtain ⟨v24, e25, hf⟩ := pm_bd hf
        have K26 := pm_S3.trans (kpX1_plain e25) K0
        cases hf
        exact K26
      · have hf := pm_ie hf c23
        by_cases c27 : x1 = 64
        · have hf := pm_it hf c27
          obtain ⟨v28, e29, hf⟩ := pm_bd hf
          have K30 := pm_S3.trans (kpX1_plain e29) K0
          cases hf
          exact K30
        · have hf := pm_ie hf c27
          by_cases c31 : 54 ≤ x1
          · have hf := pm_it hf c31
            obtain ⟨v32, e33, hf⟩ := pm_bd hf
            obtain ⟨v34, e35, hf⟩ := pm_bd hf
            have K36 := pm_S3.trans (kpX1_plain e35) K0
            cases hf
            exact K36
          · have hf := pm_ie hf c31
            obtain ⟨v37, e38, hf⟩ := pm_bd hf
            obtain ⟨v39, e40, hf⟩ := pm_bd hf
            have K41 := pm_S3.trans (kpX1_plain e40) K0
            cases hf
            exact K41
set_option maxHeartbeats 4000000 in
set_option maxRecDepth 100000 in
theorem kpX1_memoryAccess_b22 {h : pm_H} {x0 : Nat} {x1 : Int32} {r : pm_H} (hf : fX1_memoryAccess_b22 h x0 x1 = some r) : pm_S3 r h := by
  unfold fX1_memoryAccess_b22 at hf
  have K0 := pm_S3.rf h
  exact pm_S3.trans (kpX1_memoryAccess_b27 hf) K0
set_option maxHeartbeats 4000000 in
set_option maxRecDepth 100000 in
theorem kpX1_memoryAccess {h : pm_H} {a0 : Nat} {p1 : Int32} {r : pm_H} (hf : fX1_memoryAccess h a0 p1 = some r) : pm_S3 r h := by
  unfold fX1_memoryAccess at hf
  have K0 := pm_S3.rf h
  by_cases c1 : 63 ≤ p1
  · have hf := pm_it hf c1
    exact pm_S3.trans (kpX1_memoryAccess_b22 hf) K0
  · have hf := pm_ie hf c1
    obtain ⟨k2, hf⟩ := pm_if hf
    obtain ⟨v3, e4, hf⟩ := pm_bd hf
    obtain ⟨k5, hf⟩ := pm_if hf
    obtain ⟨v6, e7, hf⟩ := pm_bd hf
    by_cases c8 : v6.toInt64 < (pm_L h v3 8)
    · have hf := pm_it hf c8
      exact pm_S3.trans (kpX1_memoryAccess_b27 hf) K0
    · have hf := pm_ie hf c8
      exact pm_S3.trans (kpX1_memoryAccess_b22 hf) K0
theorem dX1_operator_0 : decode cX1_operator 0 = .ok (.bipush 127, 2) := by decide +kernel
theorem dX1_operator_2 : decode cX1_operator 2 = .ok (.iload_n 1, 1) := by decide +kernel
theorem dX1_operator_3 : decode cX1_operator 3 = .ok (.invokestatic 442, 3) := by decide +kernel
theorem dX1_operator_6 : decode cX1_operator 6 = .ok (.isub, 1) := by decide +kernel
theorem dX1_operator_7 : decode cX1_operator 7 = .ok (.istore_n 2, 1) := by decide +kernel
theorem dX1_operator_8 : decode cX1_operator 8 = .ok (.aload_n 0, 1) := by decide +kernel
theorem dX1_operator_9 : decode cX1_operator 9 = .ok (.iload_n 2, 1) := by decide +kernel
theorem dX1_operator_10 : decode cX1_operator 10 = .ok (.iload_n 1, 1) := by decide +kernel
theorem dX1_operator_11 : decode cX1_operator 11 = .ok (.invokestatic 447, 3) := by decide +kernel
theorem dX1_operator_14 : decode cX1_operator 14 = .ok (.ifCond .eq 7, 3) := by decide +kernel
theorem dX1_operator_17 : decode cX1_operator 17 = .ok (.iload_n 2, 1) := by decide +kernel
theorem dX1_operator_18 : decode cX1_operator 18 = .ok (.goto 4, 3) := by decide +kernel
theorem dX1_operator_21 : decode cX1_operator 21 = .ok (.iconst 0, 1) := by decide +kernel
theorem dX1_operator_22 : decode cX1_operator 22 = .ok (.iconst 0, 1) := by decide +kernel
theorem dX1_operator_23 : decode cX1_operator 23 = .ok (.bipush 127, 2) := by decide +kernel
theorem dX1_operator_25 : decode cX1_operator 25 = .ok (.iload_n 1, 1) := by decide +kernel
theorem dX1_operator_26 : decode cX1_operator 26 = .ok (.invokestatic 450, 3) := by decide +kernel
theorem dX1_operator_29 : decode cX1_operator 29 = .ok (.isub, 1) := by decide +kernel
theorem dX1_operator_30 : decode cX1_operator 30 = .ok (.invokevirtual 427, 3) := by decide +kernel
theorem dX1_operator_33 : decode cX1_operator 33 = .ok (.return_, 1) := by decide +kernel
def fX1_operator (h : pm_H) (a0 : Nat) (p1 : Int32) : Option pm_H := (fX8_operandType p1).bind fun v1 => pm_let (127 - v1) fun y3 => pm_let (fX8_isBinary p1) fun v5 => if v5 = 0 then ((fX8_resultType p1).bind fun v8 => if pm_kd h a0 = 1 then (fX1_plain h a0 y3 0 0 (127 - v8)).bind fun v11 => some v11 else none) else ((fX8_resultType p1).bind fun v13 => if pm_kd h a0 = 1 then (fX1_plain h a0 y3 y3 0 (127 - v13)).bind fun v16 => some v16 else none)
set_option maxHeartbeats 4000000 in
set_option maxRecDepth 100000 in
theorem ctX1_operator {l : Launch} {G : pm_Gl} {h : pm_H} {a0 : Nat} {p1 : Int32} {r : pm_H} {Qr : Option Value → pm_H → Prop} (hf : fX1_operator h a0 p1 = some r) (q : Qr none r) : pm_Ct l G mX1_operator [.ref a0, .int p1] h 0 0 Qr := by
  refine pm_body pnX1 (Nat.le_of_ble_eq_true rfl) (fun g C X => ?_)
  have C : pm_C g cX1_operator RX1 := C
  show pm_G g 0 [(0, .ref a0), (1, .int p1)] [] h 0 0
  unfold fX1_operator at hf
  refine pm_bipush (v := 127) C dX1_operator_0 (by decide) ?_
  refine pm_iload_n C dX1_operator_2 rfl rfl ?_
  obtain ⟨v1, e2, hf⟩ := pm_bd hf
  refine pm_callS (as := [.int p1]) (st := [.int 127]) C X dX1_operator_3 lnX1_442 myX8_operandType stX8_operandType ⟨by decide, by decide⟩ rfl rfl (Nat.le_of_ble_eq_true rfl) (Nat.le_refl _) (Nat.le_refl _) (ctX8_operandType e2 ?_)
  show pm_G g 6 [(0, .ref a0), (1, .int p1)] [.int v1, .int 127] h 0 0
  refine pm_isub C dX1_operator_6 ?_
  obtain ⟨y3, e4, hf⟩ := pm_lt hf
  refine pm_topI e4 ?_
  refine pm_istore_n (lv' := [(2, .int y3), (0, .ref a0), (1, .int p1)]) C dX1_operator_7 rfl (pm_nl X (by decide)) rfl ?_
  refine pm_aload_n C dX1_operator_8 rfl rfl ?_
  refine pm_iload_n C dX1_operator_9 rfl rfl ?_
  refine pm_iload_n C dX1_operator_10 rfl rfl ?_
  obtain ⟨v5, e6, hf⟩ := pm_lt hf
  refine pm_callS (as := [.int p1]) (st := [.int y3, .ref a0]) C X dX1_operator_11 lnX1_447 myX8_isBinary stX8_isBinary ⟨by decide, by decide⟩ rfl rfl (Nat.le_of_ble_eq_true rfl) (Nat.le_refl _) (Nat.le_refl _) (ctX8_isBinary e6 ?_)
  show pm_G g 14 [(2, .int y3), (0, .ref a0), (1, .int p1)] [.int v5, .int y3, .ref a0] h 0 0
  refine pm_if_eq (tgt := 21) C dX1_operator_14 (by decide) (fun c7 => ?_) (fun c7 => ?_)
  · have hf := pm_it hf c7
    refine pm_iconst (v := 0) C dX1_operator_21 (by decide) ?_
    refine pm_iconst (v := 0) C dX1_operator_22 (by decide) ?_
    refine pm_bipush (v := 127) C dX1_operator_23 (by decide) ?_
    refine pm_iload_n C dX1_operator_25 rfl rfl ?_
    obtain ⟨v8, e9, hf⟩ := pm_bd hf
    refine pm_callS (as := [.int p1]) (st := [.int 127, .int 0, .int 0, .int y3, .ref a0]) C X dX1_operator_26 lnX1_450 myX8_resultType stX8_resultType ⟨by decide, by decide⟩ rfl rfl (Nat.le_of_ble_eq_true rfl) (Nat.le_refl _) (Nat.le_refl _) (ctX8_resultType e9 ?_)
    show pm_G g 29 [(2, .int y3), (0, .ref a0), (1, .int p1)] [.int v8, .int 127, .int 0, .int 0, .int y3, .ref a0] h 0 0
    refine pm_isub C dX1_operator_29 ?_
    obtain ⟨k10, hf⟩ := pm_if hf
    obtain ⟨v11, e12, hf⟩ := pm_bd hf
    refine pm_callV (as := [.int y3, .int 0, .int 0, .int (127 - v8)]) (st := []) C X dX1_operator_30 lnX1_427 myX1_plain viX1_plain ⟨by decide, by decide⟩ rfl rfl k10 (Nat.le_of_ble_eq_true rfl) (Nat.le_refl _) (Nat.le_refl _) (ctX1_plain e12 ?_)
    show pm_G g 33 [(2, .int y3), (0, .ref a0), (1, .int p1)] [] v11 0 0
    cases hf
    exact pm_vret C X dX1_operator_33 rfl (Nat.le_refl _) (Nat.le_refl _) q
  · have hf := pm_ie hf c7
    refine pm_iload_n C dX1_operator_17 rfl rfl ?_
    refine pm_goto (tgt := 22) C dX1_operator_18 (by decide) ?_
    refine pm_iconst (v := 0) C dX1_operator_22 (by decide) ?_
    refine pm_bipush (v := 127) C dX1_operator_23 (by decide) ?_
    refine pm_iload_n C dX1_operator_25 rfl rfl ?_
    obtain ⟨v13, e14, hf⟩ := pm_bd hf
    refine pm_callS (as := [.int p1]) (st := [.int 127, .int 0, .int y3, .int y3, .ref a0]) C X dX1_operator_26 lnX1_450 myX8_resultType stX8_resultType ⟨by decide, by decide⟩ rfl rfl (Nat.le_of_ble_eq_true rfl) (Nat.le_refl _) (Nat.le_refl _) (ctX8_resultType e14 ?_)
    show pm_G g 29 [(2, .int y3), (0, .ref a0), (1, .int p1)] [.int v13, .int 127, .int 0, .int y3, .int y3, .ref a0] h 0 0
    refine pm_isub C dX1_operator_29 ?_
    obtain ⟨k15, hf⟩ := pm_if hf
    obtain ⟨v16, e17, hf⟩ := pm_bd hf
    refine pm_callV (as := [.int y3, .int y3, .int 0, .int (127 - v13)]) (st := []) C X dX1_operator_30 lnX1_427 myX1_plain viX1_plain ⟨by decide, by decide⟩ rfl rfl k15 (Nat.le_of_ble_eq_true rfl) (Nat.le_refl _) (Nat.le_refl _) (ctX1_plain e17 ?_)
    show pm_G g 33 [(2, .int y3), (0, .ref a0), (1, .int p1)] [] v16 0 0
    cases hf
    exact pm_vret C X dX1_operator_33 rfl (Nat.le_refl _) (Nat.le_refl _) q
set_option maxHeartbeats 4000000 in
set_option maxRecDepth 100000 in
theorem kpX1_operator {h : pm_H} {a0 : Nat} {p1 : Int32} {r : pm_H} (hf : fX1_operator h a0 p1 = some r) : pm_S3 r h := by
  unfold fX1_operator at hf
  have K0 := pm_S3.rf h
  obtain ⟨v1, e2, hf⟩ := pm_bd hf
  obtain ⟨y3, e4, hf⟩ := pm_lt hf
  obtain ⟨v5, e6, hf⟩ := pm_lt hf
  by_cases c7 : v5 = 0
  · have hf := pm_it hf c7
    obtain ⟨v8, e9, hf⟩ := pm_bd hf
    obtain ⟨k10, hf⟩ := pm_if hf
    obtain ⟨v11, e12, hf⟩ := pm_bd hf
    have K13 := pm_S3.trans (kpX1_plain e12) K0
    cases hf
    exact K13
  · have hf := pm_ie hf c7
    obtain ⟨v14, e15, hf⟩ := pm_bd hf
    obtain ⟨k16, hf⟩ := pm_if hf
    obtain ⟨v17, e18, hf⟩ := pm_bd hf
    have K19 := pm_S3.trans (kpX1_plain e18) K0
    cases hf
    exact K19
