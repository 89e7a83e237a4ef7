theorem dX11_copyFrom_0 : decode cX11_copyFrom 0 = .ok (.lconst 0, 1) := by decide +kernel
theorem dX11_copyFrom_1 : decode cX11_copyFrom 1 = .ok (.lstore 9, 2) := by decide +kernel
theorem dX11_copyFrom_3 : decode cX11_copyFrom 3 = .ok (.lload 9, 2) := by decide +kernel
theorem dX11_copyFrom_5 : decode cX11_copyFrom 5 = .ok (.lload 7, 2) := by decide +kernel
theorem dX11_copyFrom_7 : decode cX11_copyFrom 7 = .ok (.lcmp, 1) := by decide +kernel
theorem dX11_copyFrom_8 : decode cX11_copyFrom 8 = .ok (.ifCond .ge 31, 3) := by decide +kernel
theorem dX11_copyFrom_11 : decode cX11_copyFrom 11 = .ok (.aload_n 0, 1) := by decide +kernel
theorem dX11_copyFrom_12 : decode cX11_copyFrom 12 = .ok (.iload_n 2, 1) := by decide +kernel
theorem dX11_copyFrom_13 : decode cX11_copyFrom 13 = .ok (.lload_n 3, 1) := by decide +kernel
theorem dX11_copyFrom_14 : decode cX11_copyFrom 14 = .ok (.lload 9, 2) := by decide +kernel
theorem dX11_copyFrom_16 : decode cX11_copyFrom 16 = .ok (.ladd, 1) := by decide +kernel
theorem dX11_copyFrom_17 : decode cX11_copyFrom 17 = .ok (.aload_n 1, 1) := by decide +kernel
theorem dX11_copyFrom_18 : decode cX11_copyFrom 18 = .ok (.lload 5, 2) := by decide +kernel
theorem dX11_copyFrom_20 : decode cX11_copyFrom 20 = .ok (.lload 9, 2) := by decide +kernel
theorem dX11_copyFrom_22 : decode cX11_copyFrom 22 = .ok (.ladd, 1) := by decide +kernel
theorem dX11_copyFrom_23 : decode cX11_copyFrom 23 = .ok (.l2i, 1) := by decide +kernel
theorem dX11_copyFrom_24 : decode cX11_copyFrom 24 = .ok (.invokestatic 45, 3) := by decide +kernel
theorem dX11_copyFrom_27 : decode cX11_copyFrom 27 = .ok (.invokevirtual 76, 3) := by decide +kernel
theorem dX11_copyFrom_30 : decode cX11_copyFrom 30 = .ok (.lload 9, 2) := by decide +kernel
theorem dX11_copyFrom_32 : decode cX11_copyFrom 32 = .ok (.lconst 1, 1) := by decide +kernel
theorem dX11_copyFrom_33 : decode cX11_copyFrom 33 = .ok (.ladd, 1) := by decide +kernel
theorem dX11_copyFrom_34 : decode cX11_copyFrom 34 = .ok (.lstore 9, 2) := by decide +kernel
theorem dX11_copyFrom_36 : decode cX11_copyFrom 36 = .ok (.goto (-33), 3) := by decide +kernel
theorem dX11_copyFrom_39 : decode cX11_copyFrom 39 = .ok (.return_, 1) := by decide +kernel
def tX11_copyFrom_3 (x0 : Nat) (x1 : Nat) (x2 : Int32) (x3 : Int64) (x5 : Int64) (x7 : Int64) (x9 : Int64) (h : pm_H) : Option (((Nat × Nat × Int32 × Int64 × Int64 × Int64 × Int64 × pm_H)) ⊕ pm_H) := if x7 ≤ x9 then (some (.inr (h))) else ((fX12_item h x1 ((x5 + x9).toInt32)).bind fun v2 => if pm_kd h x0 = 11 then (fX11_setEntry h x0 x2 (x3 + x9) v2).bind fun v5 => pm_let (x9 + 1) fun y7 => some (.inl ((x0, x1, x2, x3, x5, x7, y7, v5))) else none)
def sX11_copyFrom : ((Nat × Nat × Int32 × Int64 × Int64 × Int64 × Int64 × pm_H)) → Option (((Nat × Nat × Int32 × Int64 × Int64 × Int64 × Int64 × pm_H)) ⊕ pm_H) := fun z => match z with
  | (x0, x1, x2, x3, x5, x7, x9, h) => tX11_copyFrom_3 x0 x1 x2 x3 x5 x7 x9 h
noncomputable def fX11_copyFrom (h : pm_H) (a0 : Nat) (p1 : Nat) (p2 : Int32) (p3 : Int64) (p4 : Int64) (p5 : Int64) : Option pm_H := pm_lim sX11_copyFrom ((a0, p1, p2, p3, p4, p5, 0, h))
set_option maxHeartbeats 4000000 in
set_option maxRecDepth 100000 in
theorem lpX11_copyFrom {g : pm_Gm} {l : Launch} {G : pm_Gl} {Qr : Option Value → pm_H → Prop} (C : pm_C g cX11_copyFrom RX11) (X : pm_X g l G mX11_copyFrom 0 0 Qr) {r : pm_H} (q : Qr none r) : ∀ n : Nat, (∀ (x0 : Nat) (x1 : Nat) (x2 : Int32) (x3 : Int64) (x5 : Int64) (x7 : Int64) (x9 : Int64) (h : pm_H), pm_iter sX11_copyFrom n (x0, x1, x2, x3, x5, x7, x9, h) = some r → pm_G g 3 [(0, .ref x0), (1, .ref x1), (2, .int x2), (3, .long x3), (5, .long x5), (7, .long x7), (9, .long x9)] [] h 0 0) := by
  intro n
  induction n with
  | zero => exact fun _ _ _ _ _ _ _ _ hf => (by cases hf)
  | succ n ih =>
    refine fun x0 x1 x2 x3 x5 x7 x9 h hf => ?_
    obtain ⟨y, hf, hi⟩ := pm_iter_s hf
    have hf : tX11_copyFrom_3 x0 x1 x2 x3 x5 x7 x9 h = some y := hf
    unfold tX11_copyFrom_3 at hf
    refine pm_lload C dX11_copyFrom_3 rfl ?_
    refine pm_lload C dX11_copyFrom_5 rfl ?_
    refine pm_lcmp C dX11_copyFrom_7 ?_
    refine pm_if_ge (tgt := 39) C dX11_copyFrom_8 (by decide) (fun c1 => ?_) (fun c1 => ?_)
    · have hf := pm_it hf ((pm_lg_ge _ _).mp c1)
      cases hf
      cases hi
      exact pm_vret C X dX11_copyFrom_39 rfl (Nat.le_refl _) (Nat.le_refl _) q
    · have hf := pm_ie hf ((fun z => c1 ((pm_lg_ge _ _).mpr z)))
      refine pm_aload_n C dX11_copyFrom_11 rfl rfl ?_
      refine pm_iload_n C dX11_copyFrom_12 rfl rfl ?_
      refine pm_lload_n C dX11_copyFrom_13 rfl rfl ?_
      refine pm_lload C dX11_copyFrom_14 rfl ?_
      refine pm_ladd C dX11_copyFrom_16 ?_
      refine pm_aload_n C dX11_copyFrom_17 rfl rfl ?_
      refine pm_lload C dX11_copyFrom_18 rfl ?_
      refine pm_lload C dX11_copyFrom_20 rfl ?_
      refine pm_ladd C dX11_copyFrom_22 ?_
      refine pm_l2i C dX11_copyFrom_23 ?_
      obtain ⟨v2, e3, hf⟩ := pm_bd hf
      refine pm_callS (as := [.ref x1, .int ((x5 + x9).toInt32)]) (st := [.long (x3 + x9), .int x2, .ref x0]) C X dX11_copyFrom_24 lnX11_45 myX12_item stX12_item ⟨by decide, by decide⟩ rfl rfl (Nat.le_of_ble_eq_true rfl) (Nat.le_refl _) (Nat.le_refl _) (ctX12_item e3 ?_)
      show pm_G g 27 [(0, .ref x0), (1, .ref x1), (2, .int x2), (3, .long x3), (5, .long x5), (7, .long x7), (9, .long x9)] [.int v2, .long (x3 + x9), .int x2, .ref x0] h 0 0
      obtain ⟨k4, hf⟩ := pm_if hf
      obtain ⟨v5, e6, hf⟩ := pm_bd hf
      refine pm_callV (as := [.int x2, .long (x3 + x9), .int v2]) (st := []) C X dX11_copyFrom_27 lnX11_76 myX11_setEntry viX11_setEntry ⟨by decide, by decide⟩ rfl rfl k4 (Nat.le_of_ble_eq_true rfl) (Nat.le_refl _) (Nat.le_refl _) (ctX11_setEntry e6 ?_)
      show pm_G g 30 [(0, .ref x0), (1, .ref x1), (2, .int x2), (3, .long x3), (5, .long x5), (7, .long x7), (9, .long x9)] [] v5 0 0
      refine pm_lload C dX11_copyFrom_30 rfl ?_
      refine pm_lconst (v := 1) C dX11_copyFrom_32 (by decide) ?_
      refine pm_ladd C dX11_copyFrom_33 ?_
      obtain ⟨y7, e8, hf⟩ := pm_lt hf
      refine pm_topL e8 ?_
      refine pm_lstore (lv' := [(9, .long y7), (0, .ref x0), (1, .ref x1), (2, .int x2), (3, .long x3), (5, .long x5), (7, .long x7)]) C dX11_copyFrom_34 (pm_nl X (by decide)) rfl ?_
      refine pm_goto (tgt := 3) C dX11_copyFrom_36 (by decide) ?_
      cases hf
      exact pm_sub [1, 2, 3, 4, 5, 6, 0] rfl (ih x0 x1 x2 x3 x5 x7 y7 v5 hi)
set_option maxHeartbeats 4000000 in
set_option maxRecDepth 100000 in
theorem ctX11_copyFrom {l : Launch} {G : pm_Gl} {h : pm_H} {a0 : Nat} {p1 : Nat} {p2 : Int32} {p3 : Int64} {p4 : Int64} {p5 : Int64} {r : pm_H} {Qr : Option Value → pm_H → Prop} (hf : fX11_copyFrom h a0 p1 p2 p3 p4 p5 = some r) (q : Qr none r) : pm_Ct l G mX11_copyFrom [.ref a0, .ref p1, .int p2, .long p3, .long p4, .long p5] h 0 0 Qr := by
  refine pm_body pnX11 (Nat.le_of_ble_eq_true rfl) (fun g C X => ?_)
  have C : pm_C g cX11_copyFrom RX11 := C
  show pm_G g 0 [(0, .ref a0), (1, .ref p1), (2, .int p2), (3, .long p3), (5, .long p4), (7, .long p5)] [] h 0 0
  unfold fX11_copyFrom at hf
  refine pm_lconst (v := 0) C dX11_copyFrom_0 (by decide) ?_
  refine pm_lstore (lv' := [(9, .long 0), (0, .ref a0), (1, .ref p1), (2, .int p2), (3, .long p3), (5, .long p4), (7, .long p5)]) C dX11_copyFrom_1 (pm_nl X (by decide)) rfl ?_
  obtain ⟨n, hn⟩ := pm_lim_iter hf
  exact pm_sub [1, 2, 3, 4, 5, 6, 0] rfl ((lpX11_copyFrom C X q n) a0 p1 p2 p3 p4 p5 0 h hn)
theorem dX11_reaches_0 : decode cX11_reaches 0 = .ok (.lload_n 2, 1) := by decide +kernel
theorem dX11_reaches_1 : decode cX11_reaches 1 = .ok (.lconst 0, 1) := by decide +kernel
theorem dX11_reaches_2 : decode cX11_reaches 2 = .ok (.lcmp, 1) := by decide +kernel
theorem dX11_reaches_3 : decode cX11_reaches 3 = .ok (.ifCond .lt 31, 3) := by decide +kernel
theorem dX11_reaches_6 : decode cX11_reaches 6 = .ok (.lload 4, 2) := by decide +kernel
theorem dX11_reaches_8 : decode cX11_reaches 8 = .ok (.lconst 0, 1) := by decide +kernel
theorem dX11_reaches_9 : decode cX11_reaches 9 = .ok (.lcmp, 1) := by decide +kernel
theorem dX11_reaches_10 : decode cX11_reaches 10 = .ok (.ifCond .lt 24, 3) := by decide +kernel
theorem dX11_reaches_13 : decode cX11_reaches 13 = .ok (.lload_n 2, 1) := by decide +kernel
theorem dX11_reaches_14 : decode cX11_reaches 14 = .ok (.lload 4, 2) := by decide +kernel
theorem dX11_reaches_16 : decode cX11_reaches 16 = .ok (.ladd, 1) := by decide +kernel
theorem dX11_reaches_17 : decode cX11_reaches 17 = .ok (.aload_n 0, 1) := by decide +kernel
theorem dX11_reaches_18 : decode cX11_reaches 18 = .ok (.getfield 17, 3) := by decide +kernel
theorem dX11_reaches_21 : decode cX11_reaches 21 = .ok (.iload_n 1, 1) := by decide +kernel
theorem dX11_reaches_22 : decode cX11_reaches 22 = .ok (.invokestatic 45, 3) := by decide +kernel
theorem dX11_reaches_25 : decode cX11_reaches 25 = .ok (.i2l, 1) := by decide +kernel
theorem dX11_reaches_26 : decode cX11_reaches 26 = .ok (.lcmp, 1) := by decide +kernel
theorem dX11_reaches_27 : decode cX11_reaches 27 = .ok (.ifCond .gt 7, 3) := by decide +kernel
theorem dX11_reaches_30 : decode cX11_reaches 30 = .ok (.iconst 1, 1) := by decide +kernel
theorem dX11_reaches_31 : decode cX11_reaches 31 = .ok (.goto 4, 3) := by decide +kernel
theorem dX11_reaches_34 : decode cX11_reaches 34 = .ok (.iconst 0, 1) := by decide +kernel
theorem dX11_reaches_35 : decode cX11_reaches 35 = .ok (.ireturn, 1) := by decide +kernel
def fX11_reaches (h : pm_H) (a0 : Nat) (p1 : Int32) (p2 : Int64) (p3 : Int64) : Option Int32 := if p2 < 0 then (some 0) else (if p3 < 0 then (some 0) else (if pm_kd h a0 = 11 then (pm_R h a0 3).bind fun v4 => (fX12_item h v4 p1).bind fun v6 => if v6.toInt64 < (p2 + p3) then (some 0) else (some 1) else none))
set_option maxHeartbeats 4000000 in
set_option maxRecDepth 100000 in
theorem ctX11_reaches {l : Launch} {G : pm_Gl} {h : pm_H} {a0 : Nat} {p1 : Int32} {p2 : Int64} {p3 : Int64} {r : Int32} {Qr : Option Value → pm_H → Prop} (hf : fX11_reaches h a0 p1 p2 p3 = some r) (q : Qr (some (.int r)) h) : pm_Ct l G mX11_reaches [.ref a0, .int p1, .long p2, .long p3] h 0 0 Qr := by
  refine pm_body pnX11 (Nat.le_of_ble_eq_true rfl) (fun g C X => ?_)
  have C : pm_C g cX11_reaches RX11 := C
  show pm_G g 0 [(0, .ref a0), (1, .int p1), (2, .long p2), (4, .long p3)] [] h 0 0
  unfold fX11_reaches at hf
  refine pm_lload_n C dX11_reaches_0 rfl rfl ?_
  refine pm_lconst (v := 0) C dX11_reaches_1 (by decide) ?_
  refine pm_lcmp C dX11_reaches_2 ?_
  refine pm_if_lt (tgt := 34) C dX11_reaches_3 (by decide) (fun c1 => ?_) (fun c1 => ?_)
  · have hf := pm_it hf ((pm_lg_lt _ _).mp c1)
    refine pm_iconst (v := 0) C dX11_reaches_34 (by decide) ?_
    cases hf
    exact pm_zret C X dX11_reaches_35 rfl (by decide) (Nat.le_refl _) (Nat.le_refl _) q
  · have hf := pm_ie hf ((fun z => c1 ((pm_lg_lt _ _).mpr z)))
    refine pm_lload C dX11_reaches_6 rfl ?_
    refine pm_lconst (v := 0) C dX11_reaches_8 (by decide) ?_
    refine pm_lcmp C dX11_reaches_9 ?_
    refine pm_if_lt (tgt := 34) C dX11_reaches_10 (by decide) (fun c2 => ?_) (fun c2 => ?_)
    · have hf := pm_it hf ((pm_lg_lt _ _).mp c2)
      refine pm_iconst (v := 0) C dX11_reaches_34 (by decide) ?_
      cases hf
      exact pm_zret C X dX11_reaches_35 rfl (by decide) (Nat.le_refl _) (Nat.le_refl _) q
    · have hf := pm_ie hf ((fun z => c2 ((pm_lg_lt _ _).mpr z)))
      refine pm_lload_n C dX11_reaches_13 rfl rfl ?_
      refine pm_lload C dX11_reaches_14 rfl ?_
      refine pm_ladd C dX11_reaches_16 ?_
      refine pm_aload_n C dX11_reaches_17 rfl rfl ?_
      obtain ⟨k3, hf⟩ := pm_if hf
      obtain ⟨v4, e5, hf⟩ := pm_bd hf
      refine pm_getR C dX11_reaches_18 flX11_17 rfl k3 e5 ?_
      refine pm_iload_n C dX11_reaches_21 rfl rfl ?_
      obtain ⟨v6, e7, hf⟩ := pm_bd hf
      refine pm_callS (as := [.ref v4, .int p1]) (st := [.long (p2 + p3)]) C X dX11_reaches_22 lnX11_45 myX12_item stX12_item ⟨by decide, by decide⟩ rfl rfl (Nat.le_of_ble_eq_true rfl) (Nat.le_refl _) (Nat.le_refl _) (ctX12_item e7 ?_)
      show pm_G g 25 [(0, .ref a0), (1, .int p1), (2, .long p2), (4, .long p3)] [.int v6, .long (p2 + p3)] h 0 0
      refine pm_i2l C dX11_reaches_25 ?_
      refine pm_lcmp C dX11_reaches_26 ?_
      refine pm_if_gt (tgt := 34) C dX11_reaches_27 (by decide) (fun c8 => ?_) (fun c8 => ?_)
      · have hf := pm_it hf ((pm_lg_gt _ _).mp c8)
        refine pm_iconst (v := 0) C dX11_reaches_34 (by decide) ?_
        cases hf
        exact pm_zret C X dX11_reaches_35 rfl (by decide) (Nat.le_refl _) (Nat.le_refl _) q
      · have hf := pm_ie hf ((fun z => c8 ((pm_lg_gt _ _).mpr z)))
        refine pm_iconst (v := 1) C dX11_reaches_30 (by decide) ?_
        refine pm_goto (tgt := 35) C dX11_reaches_31 (by decide) ?_
        cases hf
        exact pm_zret C X dX11_reaches_35 rfl (by decide) (Nat.le_refl _) (Nat.le_refl _) q
theorem dX12_argumentsAre_0 : decode cX12_argumentsAre 0 = .ok (.aload_n 0, 1) := by decide +kernel
theorem dX12_argumentsAre_1 : decode cX12_argumentsAre 1 = .ok (.getfield 191, 3) := by decide +kernel
theorem dX12_argumentsAre_4 : decode cX12_argumentsAre 4 = .ok (.iload_n 3, 1) := by decide +kernel
theorem dX12_argumentsAre_5 : decode cX12_argumentsAre 5 = .ok (.if_icmp .ne 12, 3) := by decide +kernel
theorem dX12_argumentsAre_8 : decode cX12_argumentsAre 8 = .ok (.iload_n 3, 1) := by decide +kernel
theorem dX12_argumentsAre_9 : decode cX12_argumentsAre 9 = .ok (.aload_n 0, 1) := by decide +kernel
theorem dX12_argumentsAre_10 : decode cX12_argumentsAre 10 = .ok (.getfield 24, 3) := by decide +kernel
theorem dX12_argumentsAre_13 : decode cX12_argumentsAre 13 = .ok (.arraylength, 1) := by decide +kernel
theorem dX12_argumentsAre_14 : decode cX12_argumentsAre 14 = .ok (.if_icmp .le 5, 3) := by decide +kernel
theorem dX12_argumentsAre_17 : decode cX12_argumentsAre 17 = .ok (.iconst 0, 1) := by decide +kernel
theorem dX12_argumentsAre_18 : decode cX12_argumentsAre 18 = .ok (.ireturn, 1) := by decide +kernel
theorem dX12_argumentsAre_19 : decode cX12_argumentsAre 19 = .ok (.iconst 0, 1) := by decide +kernel
theorem dX12_argumentsAre_20 : decode cX12_argumentsAre 20 = .ok (.istore 4, 2) := by decide +kernel
theorem dX12_argumentsAre_22 : decode cX12_argumentsAre 22 = .ok (.iload 4, 2) := by decide +kernel
theorem dX12_argumentsAre_24 : decode cX12_argumentsAre 24 = .ok (.iload_n 3, 1) := by decide +kernel
theorem dX12_argumentsAre_25 : decode cX12_argumentsAre 25 = .ok (.if_icmp .ge 99, 3) := by decide +kernel
theorem dX12_argumentsAre_28 : decode cX12_argumentsAre 28 = .ok (.aload_n 1, 1) := by decide +kernel
theorem dX12_argumentsAre_29 : decode cX12_argumentsAre 29 = .ok (.iload_n 2, 1) := by decide +kernel
theorem dX12_argumentsAre_30 : decode cX12_argumentsAre 30 = .ok (.iload 4, 2) := by decide +kernel
theorem dX12_argumentsAre_32 : decode cX12_argumentsAre 32 = .ok (.iadd, 1) := by decide +kernel
theorem dX12_argumentsAre_33 : decode cX12_argumentsAre 33 = .ok (.invokestatic 181, 3) := by decide +kernel
theorem dX12_argumentsAre_36 : decode cX12_argumentsAre 36 = .ok (.istore 5, 2) := by decide +kernel
theorem dX12_argumentsAre_38 : decode cX12_argumentsAre 38 = .ok (.iload 5, 2) := by decide +kernel
theorem dX12_argumentsAre_40 : decode cX12_argumentsAre 40 = .ok (.bipush 112, 2) := by decide +kernel
theorem dX12_argumentsAre_42 : decode cX12_argumentsAre 42 = .ok (.if_icmp .ne 16, 3) := by decide +kernel
theorem dX12_argumentsAre_45 : decode cX12_argumentsAre 45 = .ok (.aload_n 0, 1) := by decide +kernel
theorem dX12_argumentsAre_46 : decode cX12_argumentsAre 46 = .ok (.getfield 52, 3) := by decide +kernel
theorem dX12_argumentsAre_49 : decode cX12_argumentsAre 49 = .ok (.getfield 218, 3) := by decide +kernel
theorem dX12_argumentsAre_52 : decode cX12_argumentsAre 52 = .ok (.iconst 1, 1) := by decide +kernel
theorem dX12_argumentsAre_53 : decode cX12_argumentsAre 53 = .ok (.isub, 1) := by decide +kernel
theorem dX12_argumentsAre_54 : decode cX12_argumentsAre 54 = .ok (.i2l, 1) := by decide +kernel
theorem dX12_argumentsAre_55 : decode cX12_argumentsAre 55 = .ok (.goto 6, 3) := by decide +kernel
theorem dX12_argumentsAre_58 : decode cX12_argumentsAre 58 = .ok (.ldc2_w 223, 3) := by decide +kernel
theorem dX12_argumentsAre_61 : decode cX12_argumentsAre 61 = .ok (.lstore 6, 2) := by decide +kernel
theorem dX12_argumentsAre_63 : decode cX12_argumentsAre 63 = .ok (.iload 5, 2) := by decide +kernel
theorem dX12_argumentsAre_65 : decode cX12_argumentsAre 65 = .ok (.bipush 112, 2) := by decide +kernel
theorem dX12_argumentsAre_67 : decode cX12_argumentsAre 67 = .ok (.if_icmp .eq 10, 3) := by decide +kernel
theorem dX12_argumentsAre_70 : decode cX12_argumentsAre 70 = .ok (.iload 5, 2) := by decide +kernel
theorem dX12_argumentsAre_72 : decode cX12_argumentsAre 72 = .ok (.bipush 111, 2) := by decide +kernel
theorem dX12_argumentsAre_74 : decode cX12_argumentsAre 74 = .ok (.if_icmp .ne 7, 3) := by decide +kernel
theorem dX12_argumentsAre_77 : decode cX12_argumentsAre 77 = .ok (.iconst 1, 1) := by decide +kernel
theorem dX12_argumentsAre_78 : decode cX12_argumentsAre 78 = .ok (.goto 4, 3) := by decide +kernel
theorem dX12_argumentsAre_81 : decode cX12_argumentsAre 81 = .ok (.iconst 0, 1) := by decide +kernel
theorem dX12_argumentsAre_82 : decode cX12_argumentsAre 82 = .ok (.istore 8, 2) := by decide +kernel
theorem dX12_argumentsAre_84 : decode cX12_argumentsAre 84 = .ok (.iload 8, 2) := by decide +kernel
theorem dX12_argumentsAre_86 : decode cX12_argumentsAre 86 = .ok (.ifCond .eq 32, 3) := by decide +kernel
theorem dX12_argumentsAre_89 : decode cX12_argumentsAre 89 = .ok (.aload_n 0, 1) := by decide +kernel
theorem dX12_argumentsAre_90 : decode cX12_argumentsAre 90 = .ok (.getfield 24, 3) := by decide +kernel
theorem dX12_argumentsAre_93 : decode cX12_argumentsAre 93 = .ok (.iload 4, 2) := by decide +kernel
theorem dX12_argumentsAre_95 : decode cX12_argumentsAre 95 = .ok (.laload, 1) := by decide +kernel
theorem dX12_argumentsAre_96 : decode cX12_argumentsAre 96 = .ok (.ldc2_w 225, 3) := by decide +kernel
theorem dX12_argumentsAre_99 : decode cX12_argumentsAre 99 = .ok (.lcmp, 1) := by decide +kernel
theorem dX12_argumentsAre_100 : decode cX12_argumentsAre 100 = .ok (.ifCond .lt 16, 3) := by decide +kernel
theorem dX12_argumentsAre_103 : decode cX12_argumentsAre 103 = .ok (.aload_n 0, 1) := by decide +kernel
theorem dX12_argumentsAre_104 : decode cX12_argumentsAre 104 = .ok (.getfield 24, 3) := by decide +kernel
theorem dX12_argumentsAre_107 : decode cX12_argumentsAre 107 = .ok (.iload 4, 2) := by decide +kernel
theorem dX12_argumentsAre_109 : decode cX12_argumentsAre 109 = .ok (.laload, 1) := by decide +kernel
theorem dX12_argumentsAre_110 : decode cX12_argumentsAre 110 = .ok (.lload 6, 2) := by decide +kernel
theorem dX12_argumentsAre_112 : decode cX12_argumentsAre 112 = .ok (.lcmp, 1) := by decide +kernel
theorem dX12_argumentsAre_113 : decode cX12_argumentsAre 113 = .ok (.ifCond .le 5, 3) := by decide +kernel
theorem dX12_argumentsAre_116 : decode cX12_argumentsAre 116 = .ok (.iconst 0, 1) := by decide +kernel
theorem dX12_argumentsAre_117 : decode cX12_argumentsAre 117 = .ok (.ireturn, 1) := by decide +kernel
theorem dX12_argumentsAre_118 : decode cX12_argumentsAre 118 = .ok (.iinc 4 1, 3) := by decide +kernel
theorem dX12_argumentsAre_121 : decode cX12_argumentsAre 121 = .ok (.goto (-99), 3) := by decide +kernel
theorem dX12_argumentsAre_124 : decode cX12_argumentsAre 124 = .ok (.iconst 1, 1) := by decide +kernel
theorem dX12_argumentsAre_125 : decode cX12_argumentsAre 125 = .ok (.ireturn, 1) := by decide +kernel
def tX12_argumentsAre_22 (h : pm_H) (x0 : Nat) (x1 : Nat) (x2 : Int32) (x3 : Int32) (x4 : Int32) : Option (((Nat × Nat × Int32 × Int32 × Int32) ⊕ (Nat × Nat × Int32 × Int32 × Int32 × Int32 × Int64) ⊕ (Nat × Nat × Int32 × Int32 × Int32 × Int64) ⊕ (Nat × Nat × Int32 × Int32 × Int32 × Int64 × Int32)) ⊕ Int32) := if x3 ≤ x4 then (some (.inr (1))) else ((fX12_item h x1 (x2 + x4)).bind fun v8 => if v8 = 112 then (if pm_kd h x0 = 12 then (pm_R h x0 10).bind fun v12 => if pm_kd h v12 = 10 then some (.inl (.inr (.inl ((x0, x1, x2, x3, x4, v8, ((pm_I h v12 1) - 1).toInt64))))) else none else none) else (some (.inl (.inr (.inl ((x0, x1, x2, x3, x4, v8, 2147483647)))))))
def tX12_argumentsAre_61 (h : pm_H) (x0 : Nat) (x1 : Nat) (x2 : Int32) (x3 : Int32) (x4 : Int32) (x5 : Int32) (s0 : Int64) : Option (((Nat × Nat × Int32 × Int32 × Int32) ⊕ (Nat × Nat × Int32 × Int32 × Int32 × Int32 × Int64) ⊕ (Nat × Nat × Int32 × Int32 × Int32 × Int64) ⊕ (Nat × Nat × Int32 × Int32 × Int32 × Int64 × Int32)) ⊕ Int32) := if x5 = 112 then (some (.inl (.inr (.inr (.inl ((x0, x1, x2, x3, x4, s0))))))) else (if x5 = 111 then (some (.inl (.inr (.inr (.inl ((x0, x1, x2, x3, x4, s0))))))) else (some (.inl (.inr (.inr (.inr ((x0, x1, x2, x3, x4, s0, 0))))))))
def tX12_argumentsAre_77 (h : pm_H) (x0 : Nat) (x1 : Nat) (x2 : Int32) (x3 : Int32) (x4 : Int32) (x6 : Int64) : Option (((Nat × Nat × Int32 × Int32 × Int32) ⊕ (Nat × Nat × Int32 × Int32 × Int32 × Int32 × Int64) ⊕ (Nat × Nat × Int32 × Int32 × Int32 × Int64) ⊕ (Nat × Nat × Int32 × Int32 × Int32 × Int64 × Int32)) ⊕ Int32) := some (.inl (.inr (.inr (.inr ((x0, x1, x2, x3, x4, x6, 1))))))
def tX12_argumentsAre_82 (h : pm_H) (x0 : Nat) (x1 : Nat) (x2 : Int32) (x3 : Int32) (x4 : Int32) (x6 : Int64) (s0 : Int32) : Option (((Nat × Nat × Int32 × Int32 × Int32) ⊕ (Nat × Nat × Int32 × Int32 × Int32 × Int32 × Int64) ⊕ (Nat × Nat × Int32 × Int32 × Int32 × Int64) ⊕ (Nat × Nat × Int32 × Int32 × Int32 × Int64 × Int32)) ⊕ Int32) := if s0 = 0 then (pm_let (x4 + 1) fun y18 => some (.inl (.inl ((x0, x1, x2, x3, y18))))) else (if pm_kd h x0 = 12 then (pm_R h x0 14).bind fun v21 => if pm_kd h v21 = 35 then if pm_in x4 (pm_ln h v21) then if (pm_L h v21 x4.toNatClampNeg) < (-1) then (some (.inr (0))) else (if pm_in x4 (pm_ln h v21) then if (pm_L h v21 x4.toNatClampNeg) ≤ x6 then (pm_let (x4 + 1) fun y28 => some (.inl (.inl ((x0, x1, x2, x3, y28))))) else (some (.inr (0))) else none) else none else none else none)
def sX12_argumentsAre (h : pm_H) : ((Nat × Nat × Int32 × Int32 × Int32) ⊕ (Nat × Nat × Int32 × Int32 × Int32 × Int32 × Int64) ⊕ (Nat × Nat × Int32 × Int32 × Int32 × Int64) ⊕ (Nat × Nat × Int32 × Int32 × Int32 × Int64 × Int32)) → Option (((Nat × Nat × Int32 × Int32 × Int32) ⊕ (Nat × Nat × Int32 × Int32 × Int32 × Int32 × Int64) ⊕ (Nat × Nat × Int32 × Int32 × Int32 × Int64) ⊕ (Nat × Nat × Int32 × Int32 × Int32 × Int64 × Int32)) ⊕ Int32) := fun z => match z with
  | .inl (x0, x1, x2, x3, x4) => tX12_argumentsAre_22 h x0 x1 x2 x3 x4
  | .inr (.inl (x0, x1, x2, x3, x4, x5, s0)) => tX12_argumentsAre_61 h x0 x1 x2 x3 x4 x5 s0
  | .inr (.inr (.inl (x0, x1, x2, x3, x4, x6))) => tX12_argumentsAre_77 h x0 x1 x2 x3 x4 x6
  | .inr (.inr (.inr (x0, x1, x2, x3, x4, x6, s0))) => tX12_argumentsAre_82 h x0 x1 x2 x3 x4 x6 s0
noncomputable def fX12_argumentsAre (h : pm_H) (a0 : Nat) (p1 : Nat) (p2 : Int32) (p3 : Int32) : Option Int32 := if pm_kd h a0 = 12 then if (pm_I h a0 15) = p3 then ((pm_R h a0 14).bind fun v3 => if pm_kd h v3 = 35 then if p3 ≤ (Int32.ofNat (pm_ln h v3)) then (pm_lim (sX12_argumentsAre h) (.inl ((a0, p1, p2, p3, 0)))) else (some 0) else none) else (some 0) else none
set_option maxHeartbeats 4000000 in
set_option maxRecDepth 100000 in
theorem lpX12_argumentsAre {g : pm_Gm} {l : Launch} {G : pm_Gl} {Qr : Option Value → pm_H → Prop} (C : pm_C g cX12_argumentsAre RX12) (X : pm_X g l G mX12_argumentsAre 0 0 Qr) {h : pm_H} {r : Int32} (q : Qr (some (.int r)) h) : ∀ n : Nat, (∀ (x0 : Nat) (x1 : Nat) (x2 : Int32) (x3 : Int32) (x4 : Int32), pm_iter (sX12_argumentsAre h) n (.inl (x0, x1, x2, x3, x4)) = some r → pm_G g 22 [(0, .ref x0), (1, .ref x1), (2, .int x2), (3, .int x3), (4, .int x4)] [] h 0 0) ∧ (∀ (x0 : Nat) (x1 : Nat) (x2 : Int32) (x3 : Int32) (x4 : Int32) (x5 : Int32) (s0 : Int64), pm_iter (sX12_argumentsAre h) n (.inr (.inl (x0, x1, x2, x3, x4, x5, s0))) = some r → pm_G g 61 [(0, .ref x0), (1, .ref x1), (2, .int x2), (3, .int x3), (4, .int x4), (5, .int x5)] [.long s0] h 0 0) ∧ (∀ (x0 : Nat) (x1 : Nat) (x2 : Int32) (x3 : Int32) (x4 : Int32) (x6 : Int64), pm_iter (sX12_argumentsAre h) n (.inr (.inr (.inl (x0, x1, x2, x3, x4, x6)))) = some r → pm_G g 77 [(0, .ref x0), (1, .ref x1), (2, .int x2), (3, .int x3), (4, .int x4), (6, .long x6)] [] h 0 0) ∧ (∀ (x0 : Nat) (x1 : Nat) (x2 : Int32) (x3 : Int32) (x4 : Int32) (x6 : Int64) (s0 : Int32), pm_iter (sX12_argumentsAre h) n (.inr (.inr (.inr (x0, x1, x2, x3, x4, x6, s0)))) = some r → pm_G g 82 [(0, .ref x0), (1, .ref x1), (2, .int x2), (3, .int x3), (4, .int x4), (6, .long x6)] [.int s0] h 0 0) := by
  intro n
  induction n with
  | zero => exact ⟨fun _ _ _ _ _ hf => (by cases hf), fun _ _ _ _ _ _ _ hf => (by cases hf), fun _ _ _ _ _ _ hf => (by cases hf), fun _ _ _ _ _ _ _ hf => (by cases hf)⟩
  | succ n ih =>
    refine ⟨fun x0 x1 x2 x3 x4 hf => ?_, ?_⟩
    · obtain ⟨y, hf, hi⟩ := pm_iter_s hf
      have hf : tX12_argumentsAre_22 h x0 x1 x2 x3 x4 = some y := hf
      unfold tX12_argumentsAre_22 at hf
      refine pm_iload C dX12_argumentsAre_22 rfl ?_
      refine pm_iload_n C dX12_argumentsAre_24 rfl rfl ?_
      refine pm_icmp_ge (tgt := 124) C dX12_argumentsAre_25 (by decide) (fun c7 => ?_) (fun c7 => ?_)
      · have hf := pm_it hf c7
        refine pm_iconst (v := 1) C dX12_argumentsAre_124 (by decide) ?_
        cases hf
        cases hi
        exact pm_zret C X dX12_argumentsAre_125 rfl (by decide) (Nat.le_refl _) (Nat.le_refl _) q
      · have hf := pm_ie hf c7
        refine pm_aload_n C dX12_argumentsAre_28 rfl rfl ?_
        refine pm_iload_n C dX12_argumentsAre_29 rfl rfl ?_
        refine pm_iload C dX12_argumentsAre_30 rfl ?_
        refine pm_iadd C dX12_argumentsAre_32 ?_
        obtain ⟨v8, e9, hf⟩ := pm_bd hf
        refine pm_callS (as := [.ref x1, .int (x2 + x4)]) (st := []) C X dX12_argumentsAre_33 lnX12_181 myX12_item stX12_item ⟨by decide, by decide⟩ rfl rfl (Nat.le_of_ble_eq_true rfl) (Nat.le_refl _) (Nat.le_refl _) (ctX12_item e9 ?_)
        show pm_G g 36 [(0, .ref x0), (1, .ref x1), (2, .int x2), (3, .int x3), (4, .int x4)] [.int v8] h 0 0
        refine pm_istore (lv' := [(5, .int v8), (0, .ref x0), (1, .ref x1), (2, .int x2), (3, .int x3), (4, .int x4)]) C dX12_argumentsAre_36 (pm_nl X (by decide)) rfl ?_
        refine pm_iload C dX12_argumentsAre_38 rfl ?_
        refine pm_bipush (v := 112) C dX12_argumentsAre_40 (by decide) ?_
        refine pm_icmp_ne (tgt := 58) C dX12_argumentsAre_42 (by decide) (fun c10 => ?_) (fun c10 => ?_)
        · have hf := pm_ie hf c10
          refine pm_ldc2 C dX12_argumentsAre_58 cnX12_223 ?_
          cases hf
          exact pm_sub [1, 2, 3, 4, 5, 0] rfl (ih.2.1 x0 x1 x2 x3 x4 v8 2147483647 hi)
        · have hf := pm_it hf c10
          refine pm_aload_n C dX12_argumentsAre_45 rfl rfl ?_
          obtain ⟨k11, hf⟩ := pm_if hf
          obtain ⟨v12, e13, hf⟩ := pm_bd hf
          refine pm_getR C dX12_argumentsAre_46 flX12_52 rfl k11 e13 ?_
          obtain ⟨k14, hf⟩ := pm_if hf
          refine pm_getI C dX12_argumentsAre_49 flX12_218 rfl k14 rfl ?_
          refine pm_iconst (v := 1) C dX12_argumentsAre_52 (by decide) ?_
          refine pm_isub C dX12_argumentsAre_53 ?_
          refine pm_i2l C dX12_argumentsAre_54 ?_
          refine pm_goto (tgt := 61) C dX12_argumentsAre_55 (by decide) ?_
          cases hf
          exact pm_sub [1, 2, 3, 4, 5, 0] rfl (ih.2.1 x0 x1 x2 x3 x4 v8 (((pm_I h v12 1) - 1).toInt64) hi)
    refine ⟨fun x0 x1 x2 x3 x4 x5 s0 hf => ?_, ?_⟩
    · obtain ⟨y, hf, hi⟩ := pm_iter_s hf
      have hf : tX12_argumentsAre_61 h x0 x1 x2 x3 x4 x5 s0 = some y := hf
      unfold tX12_argumentsAre_61 at hf
      refine pm_lstore (lv' := [(6, .long s0), (0, .ref x0), (1, .ref x1), (2, .int x2), (3, .int x3), (4, .int x4), (5, .int x5)]) C dX12_argumentsAre_61 (pm_nl X (by decide)) rfl ?_
      refine pm_iload C dX12_argumentsAre_63 rfl ?_
      refine pm_bipush (v := 112) C dX12_argumentsAre_65 (by decide) ?_
      refine pm_icmp_eq (tgt := 77) C dX12_argumentsAre_67 (by decide) (fun c15 => ?_) (fun c15 => ?_)
      · have hf := pm_it hf c15
        cases hf
        exact pm_sub [1, 2, 3, 4, 5, 0] rfl (ih.2.2.1 x0 x1 x2 x3 x4 s0 hi)
      · have hf := pm_ie hf c15
        refine pm_iload C dX12_argumentsAre_70 rfl ?_
        refine pm_bipush (v := 111) C dX12_argumentsAre_72 (by decide) ?_
        refine pm_icmp_ne (tgt := 81) C dX12_argumentsAre_74 (by decide) (fun c16 => ?_) (fun c16 => ?_)
        · have hf := pm_ie hf c16
          refine pm_iconst (v := 0) C dX12_argumentsAre_81 (by decide) ?_
          cases hf
          exact pm_sub [1, 2, 3, 4, 5, 0] rfl (ih.2.2.2 x0 x1 x2 x3 x4 s0 0 hi)
        · have hf := pm_it hf c16
          cases hf
          exact pm_sub [1, 2, 3, 4, 5, 0] rfl (ih.2.2.1 x0 x1 x2 x3 x4 s0 hi)
    refine ⟨fun x0 x1 x2 x3 x4 x6 hf => ?_, ?_⟩
    · obtain ⟨y, hf, hi⟩ := pm_iter_s hf
      have hf : tX12_argumentsAre_77 h x0 x1 x2 x3 x4 x6 = some y := hf
      unfold tX12_argumentsAre_77 at hf
      refine pm_iconst (v := 1) C dX12_argumentsAre_77 (by decide) ?_
      refine pm_goto (tgt := 82) C dX12_argumentsAre_78 (by decide) ?_
      cases hf
      exact pm_sub [0, 1, 2, 3, 4, 5] rfl (ih.2.2.2 x0 x1 x2 x3 x4 x6 1 hi)
    refine fun x0 x1 x2 x3 x4 x6 s0 hf => ?_
    obtain ⟨y, hf, hi⟩ := pm_iter_s hf
    have hf : tX12_argumentsAre_82 h x0 x1 x2 x3 x4 x6 s0 = some y := hf
    unfold tX12_argumentsAre_82 at hf
    refine pm_istore (lv' := [(8, .int s0), (0, .ref x0), (1, .ref x1), (2, .int x2), (3, .int x3), (4, .int x4), (6, .long x6)]) C dX12_argumentsAre_82 (pm_nl X (by decide)) rfl ?_
    refine pm_iload C dX12_argumentsAre_84 rfl ?_
    refine pm_if_eq (tgt := 118) C dX12_argumentsAre_86 (by decide) (fun c17 => ?_) (fun c17 => ?_)
    · have hf := pm_it hf c17
      obtain ⟨y18, e19, hf⟩ := pm_lt hf
      refine pm_iinc (v := y18) (lv' := [(4, .int y18), (8, .int s0), (0, .ref x0), (1, .ref x1), (2, .int x2), (3, .int x3), (6, .long x6)]) C dX12_argumentsAre_118 rfl ((congrArg (x4 + ·) (by decide : Int32.ofInt 1 = 1)).trans e19) (pm_nl X (by decide)) rfl ?_
      refine pm_goto (tgt := 22) C dX12_argumentsAre_121 (by decide) ?_
      cases hf
      exact pm_sub [2, 3, 4, 5, 0] rfl (ih.1 x0 x1 x2 x3 y18 hi)
    · have hf := pm_ie hf c17
      refine pm_aload_n C dX12_argumentsAre_89 rfl rfl ?_
      obtain ⟨k20, hf⟩ := pm_if hf
      obtain ⟨v21, e22, hf⟩ := pm_bd hf
      refine pm_getR C dX12_argumentsAre_90 flX12_24 rfl k20 e22 ?_
      refine pm_iload C dX12_argumentsAre_93 rfl ?_
      obtain ⟨k23, hf⟩ := pm_if hf
      obtain ⟨u24, hf⟩ := pm_if hf
      refine pm_lald C dX12_argumentsAre_95 k23 u24 rfl ?_
      refine pm_ldc2 C dX12_argumentsAre_96 cnX12_225 ?_
      refine pm_lcmp C dX12_argumentsAre_99 ?_
      refine pm_if_lt (tgt := 116) C dX12_argumentsAre_100 (by decide) (fun c25 => ?_) (fun c25 => ?_)
      · have hf := pm_it hf ((pm_lg_lt _ _).mp c25)
        refine pm_iconst (v := 0) C dX12_argumentsAre_116 (by decide) ?_
        cases hf
        cases hi
        exact pm_zret C X dX12_argumentsAre_117 rfl (by decide) (Nat.le_refl _) (Nat.le_refl _) q
      · have hf := pm_ie hf ((fun z => c25 ((pm_lg_lt _ _).mpr z)))
        refine pm_aload_n C dX12_argumentsAre_103 rfl rfl ?_
        refine pm_getR C dX12_argumentsAre_104 flX12_24 rfl k20 e22 ?_
        refine pm_iload C dX12_argumentsAre_107 rfl ?_
        obtain ⟨u26, hf⟩ := pm_if hf
        refine pm_lald C dX12_argumentsAre_109 k23 u26 rfl ?_
        refine pm_lload C dX12_argumentsAre_110 rfl ?_
        refine pm_lcmp C dX12_argumentsAre_112 ?_
        refine pm_if_le (tgt := 118) C dX12_argumentsAre_113 (by decide) (fun c27 => ?_) (fun c27 => ?_)
        · have hf := pm_it hf ((pm_lg_le _ _).mp c27)
          obtain ⟨y28, e29, hf⟩ := pm_lt hf
          refine pm_iinc (v := y28) (lv' := [(4, .int y28), (8, .int s0), (0, .ref x0), (1, .ref x1), (2, .int x2), (3, .int x3), (6, .long x6)]) C dX12_argumentsAre_118 rfl ((congrArg (x4 + ·) (by decide : Int32.ofInt 1 = 1)).trans e29) (pm_nl X (by decide)) rfl ?_
          refine pm_goto (tgt := 22) C dX12_argumentsAre_121 (by decide) ?_
          cases hf
          exact pm_sub [2, 3, 4, 5, 0] rfl (ih.1 x0 x1 x2 x3 y28 hi)
        · have hf := pm_ie hf ((fun z => c27 ((pm_lg_le _ _).mpr z)))
          refine pm_iconst (v := 0) C dX12_argumentsAre_116 (by decide) ?_
          cases hf
          cases hi
          exact pm_zret C X dX12_argumentsAre_117 rfl (by decide) (Nat.le_refl _) (Nat.le_refl _) q
set_option maxHeartbeats 4000000 in
set_option maxRecDepth 100000 in
theorem ctX12_argumentsAre {l : Launch} {G : pm_Gl} {h : pm_H} {a0 : Nat} {p1 : Nat} {p2 : Int32} {p3 : Int32} {r : Int32} {Qr : Option Value → pm_H → Prop} (hf : fX12_argumentsAre h a0 p1 p2 p3 = some r) (q : Qr (some (.int r)) h) : pm_Ct l G mX12_argumentsAre [.ref a0, .ref p1, .int p2, .int p3] h 0 0 Qr := by
  refine pm_body pnX12 (Nat.le_of_ble_eq_true rfl) (fun g C X => ?_)
  have C : pm_C g cX12_argumentsAre RX12 := C
  show pm_G g 0 [(0, .ref a0), (1, .ref p1), (2, .int p2), (3, .int p3)] [] h 0 0
  unfold fX12_argumentsAre at hf
  refine pm_aload_n C dX12_argumentsAre_0 rfl rfl ?_
  obtain ⟨k1, hf⟩ := pm_if hf
  refine pm_getI C dX12_argumentsAre_1 flX12_191 rfl k1 rfl ?_
  refine pm_iload_n C dX12_argumentsAre_4 rfl rfl ?_
  refine pm_icmp_ne (tgt := 17) C dX12_argumentsAre_5 (by decide) (fun c2 => ?_) (fun c2 => ?_)
  · have hf := pm_ie hf c2
    refine pm_iconst (v := 0) C dX12_argumentsAre_17 (by decide) ?_
    cases hf
    exact pm_zret C X dX12_argumentsAre_18 rfl (by decide) (Nat.le_refl _) (Nat.le_refl _) q
  · have hf := pm_it hf c2
    refine pm_iload_n C dX12_argumentsAre_8 rfl rfl ?_
    refine pm_aload_n C dX12_argumentsAre_9 rfl rfl ?_
    obtain ⟨v3, e4, hf⟩ := pm_bd hf
    refine pm_getR C dX12_argumentsAre_10 flX12_24 rfl k1 e4 ?_
    obtain ⟨k5, hf⟩ := pm_if hf
    refine pm_alen (t := 3) C dX12_argumentsAre_13 (by decide) k5 rfl ?_
    refine pm_icmp_le (tgt := 19) C dX12_argumentsAre_14 (by decide) (fun c6 => ?_) (fun c6 => ?_)
    · have hf := pm_it hf c6
      refine pm_iconst (v := 0) C dX12_argumentsAre_19 (by decide) ?_
      refine pm_istore (lv' := [(4, .int 0), (0, .ref a0), (1, .ref p1), (2, .int p2), (3, .int p3)]) C dX12_argumentsAre_20 (pm_nl X (by decide)) rfl ?_
      obtain ⟨n, hn⟩ := pm_lim_iter hf
      exact pm_sub [1, 2, 3, 4, 0] rfl ((lpX12_argumentsAre C X q n).1 a0 p1 p2 p3 0 hn)
    · have hf := pm_ie hf c6
      refine pm_iconst (v := 0) C dX12_argumentsAre_17 (by decide) ?_
      cases hf
      exact pm_zret C X dX12_argumentsAre_18 rfl (by decide) (Nat.le_refl _) (Nat.le_refl _) q
theorem dX12_export_0 : decode cX12_export 0 = .ok (.aload_n 0, 1) := by decide +kernel
theorem dX12_export_1 : decode cX12_export 1 = .ok (.getfield 52, 3) := by decide +kernel
theorem dX12_export_4 : decode cX12_export 4 = .ok (.iload_n 1, 1) := by decide +kernel
theorem dX12_export_5 : decode cX12_export 5 = .ok (.invokevirtual 139, 3) := by decide +kernel
theorem dX12_export_8 : decode cX12_export 8 = .ok (.astore 4, 2) := by decide +kernel
theorem dX12_export_10 : decode cX12_export 10 = .ok (.aload 4, 2) := by decide +kernel
theorem dX12_export_12 : decode cX12_export 12 = .ok (.iload_n 2, 1) := by decide +kernel
theorem dX12_export_13 : decode cX12_export 13 = .ok (.invokevirtual 143, 3) := by decide +kernel
theorem dX12_export_16 : decode cX12_export 16 = .ok (.istore 5, 2) := by decide +kernel
theorem dX12_export_18 : decode cX12_export 18 = .ok (.aload 4, 2) := by decide +kernel
theorem dX12_export_20 : decode cX12_export 20 = .ok (.iload_n 2, 1) := by decide +kernel
theorem dX12_export_21 : decode cX12_export 21 = .ok (.invokevirtual 149, 3) := by decide +kernel
theorem dX12_export_24 : decode cX12_export 24 = .ok (.istore 6, 2) := by decide +kernel
theorem dX12_export_26 : decode cX12_export 26 = .ok (.iload 5, 2) := by decide +kernel
theorem dX12_export_28 : decode cX12_export 28 = .ok (.ifCond .ge 5, 3) := by decide +kernel
theorem dX12_export_31 : decode cX12_export 31 = .ok (.iconst (-1), 1) := by decide +kernel
theorem dX12_export_32 : decode cX12_export 32 = .ok (.ireturn, 1) := by decide +kernel
theorem dX12_export_33 : decode cX12_export 33 = .ok (.iload_n 3, 1) := by decide +kernel
theorem dX12_export_34 : decode cX12_export 34 = .ok (.tableswitch 163 0 5 #[38, 41, 44, 67, 90, 140], 38) := by decide +kernel
theorem dX12_export_72 : decode cX12_export 72 = .ok (.iload 5, 2) := by decide +kernel
theorem dX12_export_74 : decode cX12_export 74 = .ok (.ireturn, 1) := by decide +kernel
theorem dX12_export_75 : decode cX12_export 75 = .ok (.iload 6, 2) := by decide +kernel
theorem dX12_export_77 : decode cX12_export 77 = .ok (.ireturn, 1) := by decide +kernel
theorem dX12_export_78 : decode cX12_export 78 = .ok (.iload 5, 2) := by decide +kernel
theorem dX12_export_80 : decode cX12_export 80 = .ok (.ifCond .ne 19, 3) := by decide +kernel
theorem dX12_export_83 : decode cX12_export 83 = .ok (.aload_n 0, 1) := by decide +kernel
theorem dX12_export_84 : decode cX12_export 84 = .ok (.getfield 52, 3) := by decide +kernel
theorem dX12_export_87 : decode cX12_export 87 = .ok (.iload 6, 2) := by decide +kernel
theorem dX12_export_89 : decode cX12_export 89 = .ok (.invokevirtual 194, 3) := by decide +kernel
theorem dX12_export_92 : decode cX12_export 92 = .ok (.iconst 0, 1) := by decide +kernel
theorem dX12_export_93 : decode cX12_export 93 = .ok (.invokestatic 181, 3) := by decide +kernel
theorem dX12_export_96 : decode cX12_export 96 = .ok (.goto 4, 3) := by decide +kernel
theorem dX12_export_99 : decode cX12_export 99 = .ok (.iconst (-1), 1) := by decide +kernel
theorem dX12_export_100 : decode cX12_export 100 = .ok (.ireturn, 1) := by decide +kernel
theorem dX12_export_101 : decode cX12_export 101 = .ok (.iload 5, 2) := by decide +kernel
theorem dX12_export_103 : decode cX12_export 103 = .ok (.ifCond .ne 19, 3) := by decide +kernel
theorem dX12_export_106 : decode cX12_export 106 = .ok (.aload_n 0, 1) := by decide +kernel
theorem dX12_export_107 : decode cX12_export 107 = .ok (.getfield 52, 3) := by decide +kernel
theorem dX12_export_110 : decode cX12_export 110 = .ok (.iload 6, 2) := by decide +kernel
theorem dX12_export_112 : decode cX12_export 112 = .ok (.invokevirtual 194, 3) := by decide +kernel
theorem dX12_export_115 : decode cX12_export 115 = .ok (.iconst 1, 1) := by decide +kernel
theorem dX12_export_116 : decode cX12_export 116 = .ok (.invokestatic 181, 3) := by decide +kernel
theorem dX12_export_119 : decode cX12_export 119 = .ok (.goto 4, 3) := by decide +kernel
theorem dX12_export_122 : decode cX12_export 122 = .ok (.iconst (-1), 1) := by decide +kernel
theorem dX12_export_123 : decode cX12_export 123 = .ok (.ireturn, 1) := by decide +kernel
theorem dX12_export_124 : decode cX12_export 124 = .ok (.iload 5, 2) := by decide +kernel
theorem dX12_export_126 : decode cX12_export 126 = .ok (.iconst 1, 1) := by decide +kernel
theorem dX12_export_127 : decode cX12_export 127 = .ok (.if_icmp .ne 21, 3) := by decide +kernel
theorem dX12_export_130 : decode cX12_export 130 = .ok (.aload_n 0, 1) := by decide +kernel
theorem dX12_export_131 : decode cX12_export 131 = .ok (.getfield 52, 3) := by decide +kernel
theorem dX12_export_134 : decode cX12_export 134 = .ok (.getfield 248, 3) := by decide +kernel
theorem dX12_export_137 : decode cX12_export 137 = .ok (.getfield 270, 3) := by decide +kernel
theorem dX12_export_140 : decode cX12_export 140 = .ok (.iload 6, 2) := by decide +kernel
theorem dX12_export_142 : decode cX12_export 142 = .ok (.invokestatic 181, 3) := by decide +kernel
theorem dX12_export_145 : decode cX12_export 145 = .ok (.goto 28, 3) := by decide +kernel
theorem dX12_export_148 : decode cX12_export 148 = .ok (.iload 5, 2) := by decide +kernel
theorem dX12_export_150 : decode cX12_export 150 = .ok (.iconst 2, 1) := by decide +kernel
theorem dX12_export_151 : decode cX12_export 151 = .ok (.if_icmp .ne 21, 3) := by decide +kernel
theorem dX12_export_154 : decode cX12_export 154 = .ok (.aload_n 0, 1) := by decide +kernel
theorem dX12_export_155 : decode cX12_export 155 = .ok (.getfield 52, 3) := by decide +kernel
theorem dX12_export_158 : decode cX12_export 158 = .ok (.getfield 239, 3) := by decide +kernel
theorem dX12_export_161 : decode cX12_export 161 = .ok (.getfield 273, 3) := by decide +kernel
theorem dX12_export_164 : decode cX12_export 164 = .ok (.iload 6, 2) := by decide +kernel
theorem dX12_export_166 : decode cX12_export 166 = .ok (.invokestatic 181, 3) := by decide +kernel
theorem dX12_export_169 : decode cX12_export 169 = .ok (.goto 4, 3) := by decide +kernel
theorem dX12_export_172 : decode cX12_export 172 = .ok (.iconst (-1), 1) := by decide +kernel
theorem dX12_export_173 : decode cX12_export 173 = .ok (.ireturn, 1) := by decide +kernel
theorem dX12_export_174 : decode cX12_export 174 = .ok (.iload 5, 2) := by decide +kernel
theorem dX12_export_176 : decode cX12_export 176 = .ok (.iconst 3, 1) := by decide +kernel
theorem dX12_export_177 : decode cX12_export 177 = .ok (.if_icmp .ne 18, 3) := by decide +kernel
theorem dX12_export_180 : decode cX12_export 180 = .ok (.aload_n 0, 1) := by decide +kernel
theorem dX12_export_181 : decode cX12_export 181 = .ok (.getfield 52, 3) := by decide +kernel
theorem dX12_export_184 : decode cX12_export 184 = .ok (.getfield 274, 3) := by decide +kernel
theorem dX12_export_187 : decode cX12_export 187 = .ok (.iload 6, 2) := by decide +kernel
theorem dX12_export_189 : decode cX12_export 189 = .ok (.invokestatic 181, 3) := by decide +kernel
theorem dX12_export_192 : decode cX12_export 192 = .ok (.goto 4, 3) := by decide +kernel
theorem dX12_export_195 : decode cX12_export 195 = .ok (.iconst (-1), 1) := by decide +kernel
theorem dX12_export_196 : decode cX12_export 196 = .ok (.ireturn, 1) := by decide +kernel
theorem dX12_export_197 : decode cX12_export 197 = .ok (.iconst (-1), 1) := by decide +kernel
theorem dX12_export_198 : decode cX12_export 198 = .ok (.ireturn, 1) := by decide +kernel
def fX12_export (h : pm_H) (a0 : Nat) (p1 : Int32) (p2 : Int32) (p3 : Int32) : Option Int32 := if pm_kd h a0 = 12 then (pm_R h a0 10).bind fun v2 => if pm_kd h v2 = 10 then (fX10_instanceAt h v2 p1).bind fun v5 => if pm_kd h v5 = 4 then (fX4_exportKind h v5 p2).bind fun v8 => (fX4_exportNumber h v5 p2).bind fun v10 => if 0 ≤ v8 then (if p3 = 0 then (some v8) else (if p3 = 1 then (some v10) else (if p3 = 2 then (if v8 = 0 then ((fX10_shapeOf h v2 v10).bind fun v17 => (fX12_item h v17 0).bind fun v19 => some v19) else (some ((-1)))) else (if p3 = 3 then (if v8 = 0 then ((fX10_shapeOf h v2 v10).bind fun v23 => (fX12_item h v23 1).bind fun v25 => some v25) else (some ((-1)))) else (if p3 = 4 then (if v8 = 1 then ((pm_R h v2 4).bind fun v37 => if pm_kd h v37 = 11 then (pm_R h v37 3).bind fun v40 => (fX12_item h v40 v10).bind fun v42 => some v42 else none) else (if v8 = 2 then ((pm_R h v2 5).bind fun v30 => if pm_kd h v30 = 6 then (pm_R h v30 2).bind fun v33 => (fX12_item h v33 v10).bind fun v35 => some v35 else none) else (some ((-1))))) else (if p3 = 5 then (if v8 = 3 then ((pm_R h v2 6).bind fun v46 => (fX12_item h v46 v10).bind fun v48 => some v48) else (some ((-1)))) else (some ((-1))))))))) else (some ((-1))) else none else none else none
set_option maxHeartbeats 4000000 in
set_option maxRecDepth 100000 in
theorem ctX12_export {l : Launch} {G : pm_Gl} {h : pm_H} {a0 : Nat} {p1 : Int32} {p2 : Int32} {p3 : Int32} {r : Int32} {Qr : Option Value → pm_H → Prop} (hf : fX12_export h a0 p1 p2 p3 = some r) (q : Qr (some (.int r)) h) : pm_Ct l G mX12_export [.ref a0, .int p1, .int p2, .int p3] h 0 0 Qr := by
  refine pm_body pnX12 (Nat.le_of_ble_eq_true rfl) (fun g C X => ?_)
  have C : pm_C g cX12_export RX12 := C
  show pm_G g 0 [(0, .ref a0), (1, .int p1), (2, .int p2), (3, .int p3)] [] h 0 0
  unfold fX12_export at hf
  refine pm_aload_n C dX12_export_0 rfl rfl ?_
  obtain ⟨k1, hf⟩ := pm_if hf
  obtain ⟨v2, e3, hf⟩ := pm_bd hf
  refine pm_getR C dX12_export_1 flX12_52 rfl k1 e3 ?_
  refine pm_iload_n C dX12_export_4 rfl rfl ?_
  obtain ⟨k4, hf⟩ := pm_if hf
  obtain ⟨v5, e6, hf⟩ := pm_bd hf
  refine pm_callV (as := [.int p1]) (st := []) C X dX12_export_5 lnX12_139 myX10_instanceAt viX10_instanceAt ⟨by decide, by decide⟩ rfl rfl k4 (Nat.le_of_ble_eq_true rfl) (Nat.le_refl _) (Nat.le_refl _) (ctX10_instanceAt e6 ?_)
  show pm_G g 8 [(0, .ref a0), (1, .int p1), (2, .int p2), (3, .int p3)] [.ref v5] h 0 0
  refine pm_astore (lv' := [(4, .ref v5), (0, .ref a0), (1, .int p1), (2, .int p2), (3, .int p3)]) C dX12_export_8 (pm_nl X (by decide)) rfl ?_
  refine pm_aload C dX12_export_10 rfl ?_
  refine pm_iload_n C dX12_export_12 rfl rfl ?_
  obtain ⟨k7, hf⟩ := pm_if hf
  obtain ⟨v8, e9, hf⟩ := pm_bd hf
  refine pm_callV (as := [.int p2]) (st := []) C X dX12_export_13 lnX12_143 myX4_exportKind viX4_exportKind ⟨by decide, by decide⟩ rfl rfl k7 (Nat.le_of_ble_eq_true rfl) (Nat.le_refl _) (Nat.le_refl _) (ctX4_exportKind e9 ?_)
  show pm_G g 16 [(4, .ref v5), (0, .ref a0), (1, .int p1), (2, .int p2), (3, .int p3)] [.int v8] h 0 0
  refine pm_istore (lv' := [(5, .int v8), (4, .ref v5), (0, .ref a0), (1, .int p1), (2, .int p2), (3, .int p3)]) C dX12_export_16 (pm_nl X (by decide)) rfl ?_
  refine pm_aload C dX12_export_18 rfl ?_
  refine pm_iload_n C dX12_export_20 rfl rfl ?_
  obtain ⟨v10, e11, hf⟩ := pm_bd hf
  refine pm_callV (as := [.int p2]) (st := []) C X dX12_export_21 lnX12_149 myX4_exportNumber viX4_exportNumber ⟨by decide, by decide⟩ rfl rfl k7 (Nat.le_of_ble_eq_true rfl) (Nat.le_refl _) (Nat.le_refl _) (ctX4_exportNumber e11 ?_)
  show pm_G g 24 [(5, .int v8), (4, .ref v5), (0, .ref a0), (1, .int p1), (2, .int p2), (3, .int p3)] [.int v10] h 0 0
  refine pm_istore (lv' := [(6, .int v10), (5, .int v8), (4, .ref v5), (0, .ref a0), (1, .int p1), (2, .int p2), (3, .int p3)]) C dX12_export_24 (pm_nl X (by decide)) rfl ?_
  refine pm_iload C dX12_export_26 rfl ?_
  refine pm_if_ge (tgt := 33) C dX12_export_28 (by decide) (fun c12 => ?_) (fun c12 => ?_)
  · have hf := pm_it hf c12
    refine pm_iload_n C dX12_export_33 rfl rfl ?_
    by_cases c13 : p3 = 0
    · have hf := pm_it hf c13
      refine pm_tableIn (tgt := 72) C dX12_export_34 (by rw [c13]; decide) (by rw [c13]; decide) (by rw [c13]; rfl) (by decide) ?_
      refine pm_iload C dX12_export_72 rfl ?_
      cases hf
      exact pm_iret C X dX12_export_74 rfl (Nat.le_refl _) (Nat.le_refl _) q
    have hf := pm_ie hf c13
    by_cases c14 : p3 = 1
    · have hf := pm_it hf c14
      refine pm_tableIn (tgt := 75) C dX12_export_34 (by rw [c14]; decide) (by rw [c14]; decide) (by rw [c14]; rfl) (by decide) ?_
      refine pm_iload C dX12_export_75 rfl ?_
      cases hf
      exact pm_iret C X dX12_export_77 rfl (Nat.le_refl _) (Nat.le_refl _) q
    have hf := pm_ie hf c14
    by_cases c15 : p3 = 2
    · have hf := pm_it hf c15
      refine pm_tableIn (tgt := 78) C dX12_export_34 (by rw [c15]; decide) (by rw [c15]; decide) (by rw [c15]; rfl) (by decide) ?_
      refine pm_iload C dX12_export_78 rfl ?_
      refine pm_if_ne (tgt := 99) C dX12_export_80 (by decide) (fun c16 => ?_) (fun c16 => ?_)
      · have hf := pm_ie hf c16
        refine pm_iconst (v := (-1)) C dX12_export_99 (by decide) ?_
        cases hf
        exact pm_iret C X dX12_export_100 rfl (Nat.le_refl _) (Nat.le_refl _) q
      · have hf := pm_it hf c16
        refine pm_aload_n C dX12_export_83 rfl rfl ?_
        refine pm_getR C dX12_export_84 flX12_52 rfl k1 e3 ?_
        refine pm_iload C dX12_export_87 rfl ?_
        obtain ⟨v17, e18, hf⟩ := pm_bd hf
        refine pm_callV (as := [.int v10]) (st := []) C X dX12_export_89 lnX12_194 myX10_shapeOf viX10_shapeOf ⟨by decide, by decide⟩ rfl rfl k4 (Nat.le_of_ble_eq_true rfl) (Nat.le_refl _) (Nat.le_refl _) (ctX10_shapeOf e18 ?_)
        show pm_G g 92 [(6, .int v10), (5, .int v8), (4, .ref v5), (0, .ref a0), (1, .int p1), (2, .int p2), (3, .int p3)] [.ref v17] h 0 0
        refine pm_iconst (v := 0) C dX12_export_92 (by decide) ?_
        obtain ⟨v19, e20, hf⟩ := pm_bd hf
        refine pm_callS (as := [.ref v17, .int 0]) (st := []) C X dX12_export_93 lnX12_181 myX12_item stX12_item ⟨by decide, by decide⟩ rfl rfl (Nat.le_of_ble_eq_true rfl) (Nat.le_refl _) (Nat.le_refl _) (ctX12_item e20 ?_)
        show pm_G g 96 [(6, .int v10), (5, .int v8), (4, .ref v5), (0, .ref a0), (1, .int p1), (2, .int p2), (3, .int p3)] [.int v19] h 0 0
        refine pm_goto (tgt := 100) C dX12_export_96 (by decide) ?_
        cases hf
        exact pm_iret C X dX12_export_100 rfl (Nat.le_refl _) (Nat.le_refl _) q
    have hf := pm_ie hf c15
    by_cases c21 : p3 = 3
    · have hf := pm_it hf c21
      refine pm_tableIn (tgt := 101) C dX12_export_34 (by rw [c21]; decide) (by rw [c21]; decide) (by rw [c21]; rfl) (by decide) ?_
      refine pm_iload C dX12_export_101 rfl ?_
      refine pm_if_ne (tgt := 122) C dX12_export_103 (by decide) (fun c22 => ?_) (fun c22 => ?_)
      · have hf := pm_ie hf c22
        refine pm_iconst (v := (-1)) C dX12_export_122 (by decide) ?_
        cases hf
        exact pm_iret C X dX12_export_123 rfl (Nat.le_refl _) (Nat.le_refl _) q
      · have hf := pm_it hf c22
        refine pm_aload_n C dX12_export_106 rfl rfl ?_
        refine pm_getR C dX12_export_107 flX12_52 rfl k1 e3 ?_
        refine pm_iload C dX12_export_110 rfl ?_
        obtain ⟨v23, e24, hf⟩ := pm_bd hf
        refine pm_callV (as := [.int v10]) (st := []) C X dX12_export_112 lnX12_194 myX10_shapeOf viX10_shapeOf ⟨by decide, by decide⟩ rfl rfl k4 (Nat.le_of_ble_eq_true rfl) (Nat.le_refl _) (Nat.le_refl _) (ctX10_shapeOf e24 ?_)
        show pm_G g 115 [(6, .int v10), (5, .int v8), (4, .ref v5), (0, .ref a0), (1, .int p1), (2, .int p2), (3, .int p3)] [.ref v23] h 0 0
        refine pm_iconst (v := 1) C dX12_export_115 (by decide) ?_
        obtain ⟨v25, e26, hf⟩ := pm_bd hf
        refine pm_callS (as := [.ref v23, .int 1]) (st := []) C X dX12_export_116 lnX12_181 myX12_item stX12_item ⟨by decide, by decide⟩ rfl rfl (Nat.le_of_ble_eq_true rfl) (Nat.le_refl _) (Nat.le_refl _) (ctX12_item e26 ?_)
        show pm_G g 119 [(6, .int v10), (5, .int v8), (4, .ref v5), (0, .ref a0), (1, .int p1), (2, .int p2), (3, .int p3)] [.int v25] h 0 0
        refine pm_goto (tgt := 123) C dX12_export_119 (by decide) ?_
        cases hf
        exact pm_iret C X dX12_export_123 rfl (Nat.le_refl _) (Nat.le_refl _) q
    have hf := pm_ie hf c21
    by_cases c27 : p3 = 4
    · have hf := pm_it hf c27
      refine pm_tableIn (tgt := 124) C dX12_export_34 (by rw [c27]; decide) (by rw [c27]; decide) (by rw [c27]; rfl) (by decide) ?_
      refine pm_iload C dX12_export_124 rfl ?_
      refine pm_iconst (v := 1) C dX12_export_126 (by decide) ?_
      refine pm_icmp_ne (tgt := 148) C dX12_export_127 (by decide) (fun c28 => ?_) (fun c28 => ?_)
      · have hf := pm_ie hf c28
        refine pm_iload C dX12_export_148 rfl ?_
        refine pm_iconst (v := 2) C dX12_export_150 (by decide) ?_
        refine pm_icmp_ne (tgt := 172) C dX12_export_151 (by decide) (fun c29 => ?_) (fun c29 => ?_)
        · have hf := pm_ie hf c29
          refine pm_iconst (v := (-1)) C dX12_export_172 (by decide) ?_
          cases hf
          exact pm_iret C X dX12_export_173 rfl (Nat.le_refl _) (Nat.le_refl _) q
        · have hf := pm_it hf c29
          refine pm_aload_n C dX12_export_154 rfl rfl ?_
          refine pm_getR C dX12_export_155 flX12_52 rfl k1 e3 ?_
          obtain ⟨v30, e31, hf⟩ := pm_bd hf
          refine pm_getR C dX12_export_158 flX12_239 rfl k4 e31 ?_
          obtain ⟨k32, hf⟩ := pm_if hf
          obtain ⟨v33, e34, hf⟩ := pm_bd hf
          refine pm_getR C dX12_export_161 flX12_273 rfl k32 e34 ?_
          refine pm_iload C dX12_export_164 rfl ?_
          obtain ⟨v35, e36, hf⟩ := pm_bd hf
          refine pm_callS (as := [.ref v33, .int v10]) (st := []) C X dX12_export_166 lnX12_181 myX12_item stX12_item ⟨by decide, by decide⟩ rfl rfl (Nat.le_of_ble_eq_true rfl) (Nat.le_refl _) (Nat.le_refl _) (ctX12_item e36 ?_)
          show pm_G g 169 [(6, .int v10), (5, .int v8), (4, .ref v5), (0, .ref a0), (1, .int p1), (2, .int p2), (3, .int p3)] [.int v35] h 0 0
          refine pm_goto (tgt := 173) C dX12_export_169 (by decide) ?_
          cases hf
          exact pm_iret C X dX12_export_173 rfl (Nat.le_refl _) (Nat.le_refl _) q
      · have hf := pm_it hf c28
        refine pm_aload_n C dX12_export_130 rfl rfl ?_
        refine pm_getR C dX12_export_131 flX12_52 rfl k1 e3 ?_
        obtain ⟨v37, e38, hf⟩ := pm_bd hf
        refine pm_getR C dX12_export_134 flX12_248 rfl k4 e38 ?_
        obtain ⟨k39, hf⟩ := pm_if hf
        obtain ⟨v40, e41, hf⟩ := pm_bd hf
        refine pm_getR C dX12_export_137 flX12_270 rfl k39 e41 ?_
        refine pm_iload C dX12_export_140 rfl ?_
        obtain ⟨v42, e43, hf⟩ := pm_bd hf
        refine pm_callS (as := [.ref v40, .int v10]) (st := []) C X dX12_export_142 lnX12_181 myX12_item stX12_item ⟨by decide, by decide⟩ rfl rfl (Nat.le_of_ble_eq_true rfl) (Nat.le_refl _) (Nat.le_refl _) (ctX12_item e43 ?_)
        show pm_G g 145 [(6, .int v10), (5, .int v8), (4, .ref v5), (0, .ref a0), (1, .int p1), (2, .int p2), (3, .int p3)] [.int v42] h 0 0
        refine pm_goto (tgt := 173) C dX12_export_145 (by decide) ?_
        cases hf
        exact pm_iret C X dX12_export_173 rfl (Nat.le_refl _) (Nat.le_refl _) q
    have hf := pm_ie hf c27
    by_cases c44 : p3 = 5
    · have hf := pm_it hf c44
      refine pm_tableIn (tgt := 174) C dX12_export_34 (by rw [c44]; decide) (by rw [c44]; decide) (by rw [c44]; rfl) (by decide) ?_
      refine pm_iload C dX12_export_174 rfl ?_
      refine pm_iconst (v := 3) C dX12_export_176 (by decide) ?_
      refine pm_icmp_ne (tgt := 195) C dX12_export_177 (by decide) (fun c45 => ?_) (fun c45 => ?_)
      · have hf := pm_ie hf c45
        refine pm_iconst (v := (-1)) C dX12_export_195 (by decide) ?_
        cases hf
        exact pm_iret C X dX12_export_196 rfl (Nat.le_refl _) (Nat.le_refl _) q
      · have hf := pm_it hf c45
        refine pm_aload_n C dX12_export_180 rfl rfl ?_
        refine pm_getR C dX12_export_181 flX12_52 rfl k1 e3 ?_
        obtain ⟨v46, e47, hf⟩ := pm_bd hf
        refine pm_getR C dX12_export_184 flX12_274 rfl k4 e47 ?_
        refine pm_iload C dX12_export_187 rfl ?_
        obtain ⟨v48, e49, hf⟩ := pm_bd hf
        refine pm_callS (as := [.ref v46, .int v10]) (st := []) C X dX12_export_189 lnX12_181 myX12_item stX12_item ⟨by decide, by decide⟩ rfl rfl (Nat.le_of_ble_eq_true rfl) (Nat.le_refl _) (Nat.le_refl _) (ctX12_item e49 ?_)
        show pm_G g 192 [(6, .int v10), (5, .int v8), (4, .ref v5), (0, .ref a0), (1, .int p1), (2, .int p2), (3, .int p3)] [.int v48] h 0 0
        refine pm_goto (tgt := 196) C dX12_export_192 (by decide) ?_
        cases hf
        exact pm_iret C X dX12_export_196 rfl (Nat.le_refl _) (Nat.le_refl _) q
    have hf := pm_ie hf c44
    have nc13 := lv_neT c13 (by decide : (0 : Int32).toInt = 0)
    have nc14 := lv_neT c14 (by decide : (1 : Int32).toInt = 1)
    have nc15 := lv_neT c15 (by decide : (2 : Int32).toInt = 2)
    have nc21 := lv_neT c21 (by decide : (3 : Int32).toInt = 3)
    have nc27 := lv_neT c27 (by decide : (4 : Int32).toInt = 4)
    have nc44 := lv_neT c44 (by decide : (5 : Int32).toInt = 5)
    refine pm_tableOut (tgt := 197) C dX12_export_34 (by omega) (by decide) ?_
    refine pm_iconst (v := (-1)) C dX12_export_197 (by decide) ?_
    cases hf
    exact pm_iret C X dX12_export_198 rfl (Nat.le_refl _) (Nat.le_refl _) q
  · have hf := pm_ie hf c12
    refine pm_iconst (v := (-1)) C dX12_export_31 (by decide) ?_
    cases hf
    exact pm_iret C X dX12_export_32 rfl (Nat.le_refl _) (Nat.le_refl _) q
theorem dX12_feed_0 : decode cX12_feed 0 = .ok (.aload_n 0, 1) := by decide +kernel
theorem dX12_feed_1 : decode cX12_feed 1 = .ok (.getfield 65, 3) := by decide +kernel
theorem dX12_feed_4 : decode cX12_feed 4 = .ok (.ldc 69, 2) := by decide +kernel
theorem dX12_feed_6 : decode cX12_feed 6 = .ok (.if_icmp .le 5, 3) := by decide +kernel
theorem dX12_feed_9 : decode cX12_feed 9 = .ok (.iconst (-1), 1) := by decide +kernel
theorem dX12_feed_10 : decode cX12_feed 10 = .ok (.ireturn, 1) := by decide +kernel
theorem dX12_feed_11 : decode cX12_feed 11 = .ok (.aload_n 0, 1) := by decide +kernel
theorem dX12_feed_12 : decode cX12_feed 12 = .ok (.iload_n 1, 1) := by decide +kernel
theorem dX12_feed_13 : decode cX12_feed 13 = .ok (.aload_n 0, 1) := by decide +kernel
theorem dX12_feed_14 : decode cX12_feed 14 = .ok (.getfield 70, 3) := by decide +kernel
theorem dX12_feed_17 : decode cX12_feed 17 = .ok (.invokevirtual 73, 3) := by decide +kernel
theorem dX12_feed_20 : decode cX12_feed 20 = .ok (.aload_n 0, 1) := by decide +kernel
theorem dX12_feed_21 : decode cX12_feed 21 = .ok (.iload_n 2, 1) := by decide +kernel
theorem dX12_feed_22 : decode cX12_feed 22 = .ok (.aload_n 0, 1) := by decide +kernel
theorem dX12_feed_23 : decode cX12_feed 23 = .ok (.getfield 70, 3) := by decide +kernel
theorem dX12_feed_26 : decode cX12_feed 26 = .ok (.iconst 4, 1) := by decide +kernel
theorem dX12_feed_27 : decode cX12_feed 27 = .ok (.iadd, 1) := by decide +kernel
theorem dX12_feed_28 : decode cX12_feed 28 = .ok (.invokevirtual 73, 3) := by decide +kernel
theorem dX12_feed_31 : decode cX12_feed 31 = .ok (.aload_n 0, 1) := by decide +kernel
theorem dX12_feed_32 : decode cX12_feed 32 = .ok (.iload_n 3, 1) := by decide +kernel
theorem dX12_feed_33 : decode cX12_feed 33 = .ok (.aload_n 0, 1) := by decide +kernel
theorem dX12_feed_34 : decode cX12_feed 34 = .ok (.getfield 70, 3) := by decide +kernel
theorem dX12_feed_37 : decode cX12_feed 37 = .ok (.bipush 8, 2) := by decide +kernel
theorem dX12_feed_39 : decode cX12_feed 39 = .ok (.iadd, 1) := by decide +kernel
theorem dX12_feed_40 : decode cX12_feed 40 = .ok (.invokevirtual 73, 3) := by decide +kernel
theorem dX12_feed_43 : decode cX12_feed 43 = .ok (.aload_n 0, 1) := by decide +kernel
theorem dX12_feed_44 : decode cX12_feed 44 = .ok (.iload 4, 2) := by decide +kernel
theorem dX12_feed_46 : decode cX12_feed 46 = .ok (.aload_n 0, 1) := by decide +kernel
theorem dX12_feed_47 : decode cX12_feed 47 = .ok (.getfield 70, 3) := by decide +kernel
theorem dX12_feed_50 : decode cX12_feed 50 = .ok (.bipush 12, 2) := by decide +kernel
theorem dX12_feed_52 : decode cX12_feed 52 = .ok (.iadd, 1) := by decide +kernel
theorem dX12_feed_53 : decode cX12_feed 53 = .ok (.invokevirtual 73, 3) := by decide +kernel
theorem dX12_feed_56 : decode cX12_feed 56 = .ok (.aload_n 0, 1) := by decide +kernel
theorem dX12_feed_57 : decode cX12_feed 57 = .ok (.iload 5, 2) := by decide +kernel
theorem dX12_feed_59 : decode cX12_feed 59 = .ok (.aload_n 0, 1) := by decide +kernel
theorem dX12_feed_60 : decode cX12_feed 60 = .ok (.getfield 70, 3) := by decide +kernel
theorem dX12_feed_63 : decode cX12_feed 63 = .ok (.bipush 16, 2) := by decide +kernel
theorem dX12_feed_65 : decode cX12_feed 65 = .ok (.iadd, 1) := by decide +kernel
theorem dX12_feed_66 : decode cX12_feed 66 = .ok (.invokevirtual 73, 3) := by decide +kernel
theorem dX12_feed_69 : decode cX12_feed 69 = .ok (.aload_n 0, 1) := by decide +kernel
theorem dX12_feed_70 : decode cX12_feed 70 = .ok (.dup, 1) := by decide +kernel
theorem dX12_feed_71 : decode cX12_feed 71 = .ok (.getfield 65, 3) := by decide +kernel
theorem dX12_feed_74 : decode cX12_feed 74 = .ok (.bipush 20, 2) := by decide +kernel
theorem dX12_feed_76 : decode cX12_feed 76 = .ok (.iadd, 1) := by decide +kernel
theorem dX12_feed_77 : decode cX12_feed 77 = .ok (.putfield 65, 3) := by decide +kernel
theorem dX12_feed_80 : decode cX12_feed 80 = .ok (.aload_n 0, 1) := by decide +kernel
theorem dX12_feed_81 : decode cX12_feed 81 = .ok (.dup, 1) := by decide +kernel
theorem dX12_feed_82 : decode cX12_feed 82 = .ok (.getfield 70, 3) := by decide +kernel
theorem dX12_feed_85 : decode cX12_feed 85 = .ok (.bipush 20, 2) := by decide +kernel
theorem dX12_feed_87 : decode cX12_feed 87 = .ok (.iadd, 1) := by decide +kernel
theorem dX12_feed_88 : decode cX12_feed 88 = .ok (.putfield 70, 3) := by decide +kernel
theorem dX12_feed_91 : decode cX12_feed 91 = .ok (.aload_n 0, 1) := by decide +kernel
theorem dX12_feed_92 : decode cX12_feed 92 = .ok (.getfield 70, 3) := by decide +kernel
theorem dX12_feed_95 : decode cX12_feed 95 = .ok (.ireturn, 1) := by decide +kernel
noncomputable def fX12_feed (h : pm_H) (a0 : Nat) (p1 : Int32) (p2 : Int32) (p3 : Int32) (p4 : Int32) (p5 : Int32) : Option (Int32 × pm_H) := if pm_kd h a0 = 12 then if (pm_I h a0 2) ≤ 40940 then ((fX12_write h a0 p1 (pm_I h a0 1)).bind fun v3 => if pm_kd v3 a0 = 12 then (fX12_write v3 a0 p2 ((pm_I v3 a0 1) + 4)).bind fun v6 => if pm_kd v6 a0 = 12 then (fX12_write v6 a0 p3 ((pm_I v6 a0 1) + 8)).bind fun v9 => if pm_kd v9 a0 = 12 then (fX12_write v9 a0 p4 ((pm_I v9 a0 1) + 12)).bind fun v12 => if pm_kd v12 a0 = 12 then (fX12_write v12 a0 p5 ((pm_I v12 a0 1) + 16)).bind fun v15 => if pm_kd v15 a0 = 12 then pm_let ((pm_I v15 a0 2) + 20) fun y18 => pm_let ((pm_I (pm_setI v15 a0 2 y18) a0 1) + 20) fun y20 => some ((pm_I (pm_setI (pm_setI v15 a0 2 y18) a0 1 y20) a0 1, pm_setI (pm_setI v15 a0 2 y18) a0 1 y20)) else none else none else none else none else none) else (some (((-1), h))) else none
set_option maxHeartbeats 4000000 in
set_option maxRecDepth 100000 in
theorem ctX12_feed {l : Launch} {G : pm_Gl} {h : pm_H} {a0 : Nat} {p1 : Int32} {p2 : Int32} {p3 : Int32} {p4 : Int32} {p5 : Int32} {r : (Int32 × pm_H)} {Qr : Option Value → pm_H → Prop} (hf : fX12_feed h a0 p1 p2 p3 p4 p5 = some r) (q : Qr (some (.int r.1)) r.2) : pm_Ct l G mX12_feed [.ref a0, .int p1, .int p2, .int p3, .int p4, .int p5] h 0 0 Qr := by
  refine pm_body pnX12 (Nat.le_of_ble_eq_true rfl) (fun g C X => ?_)
  have C : pm_C g cX12_feed RX12 := C
  show pm_G g 0 [(0, .ref a0), (1, .int p1), (2, .int p2), (3, .int p3), (4, .int p4), (5, .int p5)] [] h 0 0
  unfold fX12_feed at hf
  refine pm_aload_n C dX12_feed_0 rfl rfl ?_
  obtain ⟨k1, hf⟩ := pm_if hf
  refine pm_getI C dX12_feed_1 flX12_65 rfl k1 rfl ?_
  refine pm_ldc C dX12_feed_4 cnX12_69 ?_
  refine pm_icmp_le (tgt := 11) C dX12_feed_6 (by decide) (fun c2 => ?_) (fun c2 => ?_)
  · have hf := pm_it hf c2
    refine pm_aload_n C dX12_feed_11 rfl rfl ?_
    refine pm_iload_n C dX12_feed_12 rfl rfl ?_
    refine pm_aload_n C dX12_feed_13 rfl rfl ?_
    refine pm_getI C dX12_feed_14 flX12_70 rfl k1 rfl ?_
    obtain ⟨v3, e4, hf⟩ := pm_bd hf
    refine pm_callV (as := [.int p1, .int (pm_I h a0 1)]) (st := []) C X dX12_feed_17 lnX12_73 myX12_write viX12_write ⟨by decide, by decide⟩ rfl rfl k1 (Nat.le_of_ble_eq_true rfl) (Nat.le_refl _) (Nat.le_refl _) (ctX12_write e4 ?_)
    show pm_G g 20 [(0, .ref a0), (1, .int p1), (2, .int p2), (3, .int p3), (4, .int p4), (5, .int p5)] [] v3 0 0
    refine pm_aload_n C dX12_feed_20 rfl rfl ?_
    refine pm_iload_n C dX12_feed_21 rfl rfl ?_
    refine pm_aload_n C dX12_feed_22 rfl rfl ?_
    obtain ⟨k5, hf⟩ := pm_if hf
    refine pm_getI C dX12_feed_23 flX12_70 rfl k5 rfl ?_
    refine pm_iconst (v := 4) C dX12_feed_26 (by decide) ?_
    refine pm_iadd C dX12_feed_27 ?_
    obtain ⟨v6, e7, hf⟩ := pm_bd hf
    refine pm_callV (as := [.int p2, .int ((pm_I v3 a0 1) + 4)]) (st := []) C X dX12_feed_28 lnX12_73 myX12_write viX12_write ⟨by decide, by decide⟩ rfl rfl k5 (Nat.le_of_ble_eq_true rfl) (Nat.le_refl _) (Nat.le_refl _) (ctX12_write e7 ?_)
    show pm_G g 31 [(0, .ref a0), (1, .int p1), (2, .int p2), (3, .int p3), (4, .int p4), (5, .int p5)] [] v6 0 0
    refine pm_aload_n C dX12_feed_31 rfl rfl ?_
    refine pm_iload_n C dX12_feed_32 rfl rfl ?_
    refine pm_aload_n C dX12_feed_33 rfl rfl ?_
    obtain ⟨k8, hf⟩ := pm_if hf
    refine pm_getI C dX12_feed_34 flX12_70 rfl k8 rfl ?_
    refine pm_bipush (v := 8) C dX12_feed_37 (by decide) ?_
    refine pm_iadd C dX12_feed_39 ?_
    obtain ⟨v9, e10, hf⟩ := pm_bd hf
    refine pm_callV (as := [.int p3, .int ((pm_I v6 a0 1) + 8)]) (st := []) C X dX12_feed_40 lnX12_73 myX12_write viX12_write ⟨by decide, by decide⟩ rfl rfl k8 (Nat.le_of_ble_eq_true rfl) (Nat.le_refl _) (Nat.le_refl _) (ctX12_write e10 ?_)
    show pm_G g 43 [(0, .ref a0), (1, .int p1), (2, .int p2), (3, .int p3), (4, .int p4), (5, .int p5)] [] v9 0 0
    refine pm_aload_n C dX12_feed_43 rfl rfl ?_
    refine pm_iload C dX12_feed_44 rfl ?_
    refine pm_aload_n C dX12_feed_46 rfl rfl ?_
    obtain ⟨k11, hf⟩ := pm_if hf
    refine pm_getI C dX12_feed_47 flX12_70 rfl k11 rfl ?_
    refine pm_bipush (v := 12) C dX12_feed_50 (by decide) ?_
    refine pm_iadd C dX12_feed_52 ?_
    obtain ⟨v12, e13, hf⟩ := pm_bd hf
    refine pm_callV (as := [.int p4, .int ((pm_I v9 a0 1) + 12)]) (st := []) C X dX12_feed_53 lnX12_73 myX12_write viX12_write ⟨by decide, by decide⟩ rfl rfl k11 (Nat.le_of_ble_eq_true rfl) (Nat.le_refl _) (Nat.le_refl _) (ctX12_write e13 ?_)
    show pm_G g 56 [(0, .ref a0), (1, .int p1), (2, .int p2), (3, .int p3), (4, .int p4), (5, .int p5)] [] v12 0 0
    refine pm_aload_n C dX12_feed_56 rfl rfl ?_
    refine pm_iload C dX12_feed_57 rfl ?_
    refine pm_aload_n C dX12_feed_59 rfl rfl ?_
    obtain ⟨k14, hf⟩ := pm_if hf
    refine pm_getI C dX12_feed_60 flX12_70 rfl k14 rfl ?_
    refine pm_bipush (v := 16) C dX12_feed_63 (by decide) ?_
    refine pm_iadd C dX12_feed_65 ?_
    obtain ⟨v15, e16, hf⟩ := pm_bd hf
    refine pm_callV (as := [.int p5, .int ((pm_I v12 a0 1) + 16)]) (st := []) C X dX12_feed_66 lnX12_73 myX12_write viX12_write ⟨by decide, by decide⟩ rfl rfl k14 (Nat.le_of_ble_eq_true rfl) (Nat.le_refl _) (Nat.le_refl _) (ctX12_write e16 ?_)
    show pm_G g 69 [(0, .ref a0), (1, .int p1), (2, .int p2), (3, .int p3), (4, .int p4), (5, .int p5)] [] v15 0 0
    refine pm_aload_n C dX12_feed_69 rfl rfl ?_
    refine pm_dup C dX12_feed_70 rfl ?_
    obtain ⟨k17, hf⟩ := pm_if hf
    refine pm_getI C dX12_feed_71 flX12_65 rfl k17 rfl ?_
    refine pm_bipush (v := 20) C dX12_feed_74 (by decide) ?_
    refine pm_iadd C dX12_feed_76 ?_
    obtain ⟨y18, e19, hf⟩ := pm_lt hf
    refine pm_topI e19 ?_
    refine pm_putI C dX12_feed_77 flX12_65 rfl rfl k17 rfl rfl ?_
    refine pm_aload_n C dX12_feed_80 rfl rfl ?_
    refine pm_dup C dX12_feed_81 rfl ?_
    refine pm_getI C dX12_feed_82 flX12_70 rfl k17 rfl ?_
    refine pm_bipush (v := 20) C dX12_feed_85 (by decide) ?_
    refine pm_iadd C dX12_feed_87 ?_
    obtain ⟨y20, e21, hf⟩ := pm_lt hf
    refine pm_topI e21 ?_
    refine pm_putI C dX12_feed_88 flX12_70 rfl rfl k17 rfl rfl ?_
    refine pm_aload_n C dX12_feed_91 rfl rfl ?_
    refine pm_getI C dX12_feed_92 flX12_70 rfl k17 rfl ?_
    cases hf
    exact pm_iret C X dX12_feed_95 rfl (Nat.le_refl _) (Nat.le_refl _) q
  · have hf := pm_ie hf c2
    refine pm_iconst (v := (-1)) C dX12_feed_9 (by decide) ?_
    cases hf
    exact pm_iret C X dX12_feed_10 rfl (Nat.le_refl _) (Nat.le_refl _) q
theorem dX12_global_0 : decode cX12_global 0 = .ok (.aload_n 0, 1) := by decide +kernel
theorem dX12_global_1 : decode cX12_global 1 = .ok (.getfield 52, 3) := by decide +kernel
theorem dX12_global_4 : decode cX12_global 4 = .ok (.iload_n 1, 1) := by decide +kernel
theorem dX12_global_5 : decode cX12_global 5 = .ok (.invokevirtual 139, 3) := by decide +kernel
theorem dX12_global_8 : decode cX12_global 8 = .ok (.astore_n 3, 1) := by decide +kernel
theorem dX12_global_9 : decode cX12_global 9 = .ok (.aload_n 3, 1) := by decide +kernel
theorem dX12_global_10 : decode cX12_global 10 = .ok (.iload_n 2, 1) := by decide +kernel
theorem dX12_global_11 : decode cX12_global 11 = .ok (.invokevirtual 143, 3) := by decide +kernel
theorem dX12_global_14 : decode cX12_global 14 = .ok (.iconst 3, 1) := by decide +kernel
theorem dX12_global_15 : decode cX12_global 15 = .ok (.if_icmp .ne 21, 3) := by decide +kernel
theorem dX12_global_18 : decode cX12_global 18 = .ok (.aload_n 0, 1) := by decide +kernel
theorem dX12_global_19 : decode cX12_global 19 = .ok (.getfield 52, 3) := by decide +kernel
theorem dX12_global_22 : decode cX12_global 22 = .ok (.getfield 295, 3) := by decide +kernel
theorem dX12_global_25 : decode cX12_global 25 = .ok (.aload_n 3, 1) := by decide +kernel
theorem dX12_global_26 : decode cX12_global 26 = .ok (.iload_n 2, 1) := by decide +kernel
theorem dX12_global_27 : decode cX12_global 27 = .ok (.invokevirtual 149, 3) := by decide +kernel
theorem dX12_global_30 : decode cX12_global 30 = .ok (.invokestatic 264, 3) := by decide +kernel
theorem dX12_global_33 : decode cX12_global 33 = .ok (.goto 4, 3) := by decide +kernel
theorem dX12_global_36 : decode cX12_global 36 = .ok (.lconst 0, 1) := by decide +kernel
theorem dX12_global_37 : decode cX12_global 37 = .ok (.lreturn, 1) := by decide +kernel
def fX12_global (h : pm_H) (a0 : Nat) (p1 : Int32) (p2 : Int32) : Option Int64 := if pm_kd h a0 = 12 then (pm_R h a0 10).bind fun v2 => if pm_kd h v2 = 10 then (fX10_instanceAt h v2 p1).bind fun v5 => if pm_kd h v5 = 4 then (fX4_exportKind h v5 p2).bind fun v8 => if v8 = 3 then ((pm_R h v2 7).bind fun v11 => (fX4_exportNumber h v5 p2).bind fun v13 => (fX12_item_ h v11 v13).bind fun v15 => some v15) else (some 0) else none else none else none
set_option maxHeartbeats 4000000 in
set_option maxRecDepth 100000 in
theorem ctX12_global {l : Launch} {G : pm_Gl} {h : pm_H} {a0 : Nat} {p1 : Int32} {p2 : Int32} {r : Int64} {Qr : Option Value → pm_H → Prop} (hf : fX12_global h a0 p1 p2 = some r) (q : Qr (some (.long r)) h) : pm_Ct l G mX12_global [.ref a0, .int p1, .int p2] h 0 0 Qr := by
  refine pm_body pnX12 (Nat.le_of_ble_eq_true rfl) (fun g C X => ?_)
  have C : pm_C g cX12_global RX12 := C
  show pm_G g 0 [(0, .ref a0), (1, .int p1), (2, .int p2)] [] h 0 0
  unfold fX12_global at hf
  refine pm_aload_n C dX12_global_0 rfl rfl ?_
  obtain ⟨k1, hf⟩ := pm_if hf
  obtain ⟨v2, e3, hf⟩ := pm_bd hf
  refine pm_getR C dX12_global_1 flX12_52 rfl k1 e3 ?_
  refine pm_iload_n C dX12_global_4 rfl rfl ?_
  obtain ⟨k4, hf⟩ := pm_if hf
  obtain ⟨v5, e6, hf⟩ := pm_bd hf
  refine pm_callV (as := [.int p1]) (st := []) C X dX12_global_5 lnX12_139 myX10_instanceAt viX10_instanceAt ⟨by decide, by decide⟩ rfl rfl k4 (Nat.le_of_ble_eq_true rfl) (Nat.le_refl _) (Nat.le_refl _) (ctX10_instanceAt e6 ?_)
  show pm_G g 8 [(0, .ref a0), (1, .int p1), (2, .int p2)] [.ref v5] h 0 0
  refine pm_astore_n (lv' := [(3, .ref v5), (0, .ref a0), (1, .int p1), (2, .int p2)]) C dX12_global_8 rfl (pm_nl X (by decide)) rfl ?_
  refine pm_aload_n C dX12_global_9 rfl rfl ?_
  refine pm_iload_n C dX12_global_10 rfl rfl ?_
  obtain ⟨k7, hf⟩ := pm_if hf
  obtain ⟨v8, e9, hf⟩ := pm_bd hf
  refine pm_callV (as := [.int p2]) (st := []) C X dX12_global_11 lnX12_143 myX4_exportKind viX4_exportKind ⟨by decide, by decide⟩ rfl rfl k7 (Nat.le_of_ble_eq_true rfl) (Nat.le_refl _) (Nat.le_refl _) (ctX4_exportKind e9 ?_)
  show pm_G g 14 [(3, .ref v5), (0, .ref a0), (1, .int p1), (2, .int p2)] [.int v8] h 0 0
  refine pm_iconst (v := 3) C dX12_global_14 (by decide) ?_
  refine pm_icmp_ne (tgt := 36) C dX12_global_15 (by decide) (fun c10 => ?_) (fun c10 => ?_)
  · have hf := pm_ie hf c10
    refine pm_lconst (v := 0) C dX12_global_36 (by decide) ?_
    cases hf
    exact pm_lret C X dX12_global_37 rfl (Nat.le_refl _) (Nat.le_refl _) q
  · have hf := pm_it hf c10
    refine pm_aload_n C dX12_global_18 rfl rfl ?_
    refine pm_getR C dX12_global_19 flX12_52 rfl k1 e3 ?_
    obtain ⟨v11, e12, hf⟩ := pm_bd hf
    refine pm_getR C dX12_global_22 flX12_295 rfl k4 e12 ?_
    refine pm_aload_n C dX12_global_25 rfl rfl ?_
    refine pm_iload_n C dX12_global_26 rfl rfl ?_
    obtain ⟨v13, e14, hf⟩ := pm_bd hf
    refine pm_callV (as := [.int p2]) (st := [.ref v11]) C X dX12_global_27 lnX12_149 myX4_exportNumber viX4_exportNumber ⟨by decide, by decide⟩ rfl rfl k7 (Nat.le_of_ble_eq_true rfl) (Nat.le_refl _) (Nat.le_refl _) (ctX4_exportNumber e14 ?_)
    show pm_G g 30 [(3, .ref v5), (0, .ref a0), (1, .int p1), (2, .int p2)] [.int v13, .ref v11] h 0 0
    obtain ⟨v15, e16, hf⟩ := pm_bd hf
    refine pm_callS (as := [.ref v11, .int v13]) (st := []) C X dX12_global_30 lnX12_264 myX12_item_ stX12_item_ ⟨by decide, by decide⟩ rfl rfl (Nat.le_of_ble_eq_true rfl) (Nat.le_refl _) (Nat.le_refl _) (ctX12_item_ e16 ?_)
    show pm_G g 33 [(3, .ref v5), (0, .ref a0), (1, .int p1), (2, .int p2)] [.long v15] h 0 0
    refine pm_goto (tgt := 37) C dX12_global_33 (by decide) ?_
    cases hf
    exact pm_lret C X dX12_global_37 rfl (Nat.le_refl _) (Nat.le_refl _) q
theorem dX12_memory_0 : decode cX12_memory 0 = .ok (.aload_n 0, 1) := by decide +kernel
theorem dX12_memory_1 : decode cX12_memory 1 = .ok (.getfield 52, 3) := by decide +kernel
theorem dX12_memory_4 : decode cX12_memory 4 = .ok (.iload_n 1, 1) := by decide +kernel
theorem dX12_memory_5 : decode cX12_memory 5 = .ok (.invokevirtual 139, 3) := by decide +kernel
theorem dX12_memory_8 : decode cX12_memory 8 = .ok (.astore 4, 2) := by decide +kernel
theorem dX12_memory_10 : decode cX12_memory 10 = .ok (.aload 4, 2) := by decide +kernel
theorem dX12_memory_12 : decode cX12_memory 12 = .ok (.iload_n 2, 1) := by decide +kernel
theorem dX12_memory_13 : decode cX12_memory 13 = .ok (.invokevirtual 149, 3) := by decide +kernel
theorem dX12_memory_16 : decode cX12_memory 16 = .ok (.istore 5, 2) := by decide +kernel
theorem dX12_memory_18 : decode cX12_memory 18 = .ok (.iload_n 3, 1) := by decide +kernel
theorem dX12_memory_19 : decode cX12_memory 19 = .ok (.i2l, 1) := by decide +kernel
theorem dX12_memory_20 : decode cX12_memory 20 = .ok (.ldc2_w 277, 3) := by decide +kernel
theorem dX12_memory_23 : decode cX12_memory 23 = .ok (.land, 1) := by decide +kernel
theorem dX12_memory_24 : decode cX12_memory 24 = .ok (.lstore 6, 2) := by decide +kernel
theorem dX12_memory_26 : decode cX12_memory 26 = .ok (.aload 4, 2) := by decide +kernel
theorem dX12_memory_28 : decode cX12_memory 28 = .ok (.iload_n 2, 1) := by decide +kernel
theorem dX12_memory_29 : decode cX12_memory 29 = .ok (.invokevirtual 143, 3) := by decide +kernel
theorem dX12_memory_32 : decode cX12_memory 32 = .ok (.iconst 2, 1) := by decide +kernel
theorem dX12_memory_33 : decode cX12_memory 33 = .ok (.if_icmp .ne 21, 3) := by decide +kernel
theorem dX12_memory_36 : decode cX12_memory 36 = .ok (.aload_n 0, 1) := by decide +kernel
theorem dX12_memory_37 : decode cX12_memory 37 = .ok (.getfield 52, 3) := by decide +kernel
theorem dX12_memory_40 : decode cX12_memory 40 = .ok (.getfield 239, 3) := by decide +kernel
theorem dX12_memory_43 : decode cX12_memory 43 = .ok (.iload 5, 2) := by decide +kernel
theorem dX12_memory_45 : decode cX12_memory 45 = .ok (.lload 6, 2) := by decide +kernel
theorem dX12_memory_47 : decode cX12_memory 47 = .ok (.lconst 1, 1) := by decide +kernel
theorem dX12_memory_48 : decode cX12_memory 48 = .ok (.invokevirtual 279, 3) := by decide +kernel
theorem dX12_memory_51 : decode cX12_memory 51 = .ok (.ifCond .ne 5, 3) := by decide +kernel
theorem dX12_memory_54 : decode cX12_memory 54 = .ok (.iconst (-1), 1) := by decide +kernel
theorem dX12_memory_55 : decode cX12_memory 55 = .ok (.ireturn, 1) := by decide +kernel
theorem dX12_memory_56 : decode cX12_memory 56 = .ok (.aload_n 0, 1) := by decide +kernel
theorem dX12_memory_57 : decode cX12_memory 57 = .ok (.getfield 52, 3) := by decide +kernel
theorem dX12_memory_60 : decode cX12_memory 60 = .ok (.getfield 239, 3) := by decide +kernel
theorem dX12_memory_63 : decode cX12_memory 63 = .ok (.iload 5, 2) := by decide +kernel
theorem dX12_memory_65 : decode cX12_memory 65 = .ok (.lload 6, 2) := by decide +kernel
theorem dX12_memory_67 : decode cX12_memory 67 = .ok (.invokevirtual 283, 3) := by decide +kernel
theorem dX12_memory_70 : decode cX12_memory 70 = .ok (.ireturn, 1) := by decide +kernel
def fX12_memory (h : pm_H) (a0 : Nat) (p1 : Int32) (p2 : Int32) (p3 : Int32) : Option Int32 := if pm_kd h a0 = 12 then (pm_R h a0 10).bind fun v2 => if pm_kd h v2 = 10 then (fX10_instanceAt h v2 p1).bind fun v5 => if pm_kd h v5 = 4 then (fX4_exportNumber h v5 p2).bind fun v8 => pm_let (p3.toInt64 &&& 4294967295) fun y10 => (fX4_exportKind h v5 p2).bind fun v12 => if v12 = 2 then ((pm_R h v2 5).bind fun v15 => if pm_kd h v15 = 6 then (fX6_reaches h v15 v8 y10 1).bind fun v18 => if v18 = 0 then (some ((-1))) else ((fX6_byteAt h v15 v8 y10).bind fun v21 => some v21) else none) else (some ((-1))) else none else none else none
set_option maxHeartbeats 4000000 in
set_option maxRecDepth 100000 in
theorem ctX12_memory {l : Launch} {G : pm_Gl} {h : pm_H} {a0 : Nat} {p1 : Int32} {p2 : Int32} {p3 : Int32} {r : Int32} {Qr : Option Value → pm_H → Prop} (hf : fX12_memory h a0 p1 p2 p3 = some r) (q : Qr (some (.int r)) h) : pm_Ct l G mX12_memory [.ref a0, .int p1, .int p2, .int p3] h 0 0 Qr := by
  refine pm_body pnX12 (Nat.le_of_ble_eq_true rfl) (fun g C X => ?_)
  have C : pm_C g cX12_memory RX12 := C
  show pm_G g 0 [(0, .ref a0), (1, .int p1), (2, .int p2), (3, .int p3)] [] h 0 0
  unfold fX12_memory at hf
  refine pm_aload_n C dX12_memory_0 rfl rfl ?_
  obtain ⟨k1, hf⟩ := pm_if hf
  obtain ⟨v2, e3, hf⟩ := pm_bd hf
  refine pm_getR C dX12_memory_1 flX12_52 rfl k1 e3 ?_
  refine pm_iload_n C dX12_memory_4 rfl rfl ?_
  obtain ⟨k4, hf⟩ := pm_if hf
  obtain ⟨v5, e6, hf⟩ := pm_bd hf
  refine pm_callV (as := [.int p1]) (st := []) C X dX12_memory_5 lnX12_139 myX10_instanceAt viX10_instanceAt ⟨by decide, by decide⟩ rfl rfl k4 (Nat.le_of_ble_eq_true rfl) (Nat.le_refl _) (Nat.le_refl _) (ctX10_instanceAt e6 ?_)
  show pm_G g 8 [(0, .ref a0), (1, .int p1), (2, .int p2), (3, .int p3)] [.ref v5] h 0 0
  refine pm_astore (lv' := [(4, .ref v5), (0, .ref a0), (1, .int p1), (2, .int p2), (3, .int p3)]) C dX12_memory_8 (pm_nl X (by decide)) rfl ?_
  refine pm_aload C dX12_memory_10 rfl ?_
  refine pm_iload_n C dX12_memory_12 rfl rfl ?_
  obtain ⟨k7, hf⟩ := pm_if hf
  obtain ⟨v8, e9, hf⟩ := pm_bd hf
  refine pm_callV (as := [.int p2]) (st := []) C X dX12_memory_13 lnX12_149 myX4_exportNumber viX4_exportNumber ⟨by decide, by decide⟩ rfl rfl k7 (Nat.le_of_ble_eq_true rfl) (Nat.le_refl _) (Nat.le_refl _) (ctX4_exportNumber e9 ?_)
  show pm_G g 16 [(4, .ref v5), (0, .ref a0), (1, .int p1), (2, .int p2), (3, .int p3)] [.int v8] h 0 0
  refine pm_istore (lv' := [(5, .int v8), (4, .ref v5), (0, .ref a0), (1, .int p1), (2, .int p2), (3, .int p3)]) C dX12_memory_16 (pm_nl X (by decide)) rfl ?_
  refine pm_iload_n C dX12_memory_18 rfl rfl ?_
  refine pm_i2l C dX12_memory_19 ?_
  refine pm_ldc2 C dX12_memory_20 cnX12_277 ?_
  refine pm_land C dX12_memory_23 ?_
  obtain ⟨y10, e11, hf⟩ := pm_lt hf
  refine pm_topL e11 ?_
  refine pm_lstore (lv' := [(6, .long y10), (5, .int v8), (4, .ref v5), (0, .ref a0), (1, .int p1), (2, .int p2), (3, .int p3)]) C dX12_memory_24 (pm_nl X (by decide)) rfl ?_
  refine pm_aload C dX12_memory_26 rfl ?_
  refine pm_iload_n C dX12_memory_28 rfl rfl ?_
  obtain ⟨v12, e13, hf⟩ := pm_bd hf
  refine pm_callV (as := [.int p2]) (st := []) C X dX12_memory_29 lnX12_143 myX4_exportKind viX4_exportKind ⟨by decide, by decide⟩ rfl rfl k7 (Nat.le_of_ble_eq_true rfl) (Nat.le_refl _) (Nat.le_refl _) (ctX4_exportKind e13 ?_)
  show pm_G g 32 [(6, .long y10), (5, .int v8), (4, .ref v5), (0, .ref a0), (1, .int p1), (2, .int p2), (3, .int p3)] [.int v12] h 0 0
  refine pm_iconst (v := 2) C dX12_memory_32 (by decide) ?_
  refine pm_icmp_ne (tgt := 54) C dX12_memory_33 (by decide) (fun c14 => ?_) (fun c14 => ?_)
  · have hf := pm_ie hf c14
    refine pm_iconst (v := (-1)) C dX12_memory_54 (by decide) ?_
    cases hf
    exact pm_iret C X dX12_memory_55 rfl (Nat.le_refl _) (Nat.le_refl _) q
  · have hf := pm_it hf c14
    refine pm_aload_n C dX12_memory_36 rfl rfl ?_
    refine pm_getR C dX12_memory_37 flX12_52 rfl k1 e3 ?_
    obtain ⟨v15, e16, hf⟩ := pm_bd hf
    refine pm_getR C dX12_memory_40 flX12_239 rfl k4 e16 ?_
    refine pm_iload C dX12_memory_43 rfl ?_
    refine pm_lload C dX12_memory_45 rfl ?_
    refine pm_lconst (v := 1) C dX12_memory_47 (by decide) ?_
    obtain ⟨k17, hf⟩ := pm_if hf
    obtain ⟨v18, e19, hf⟩ := pm_bd hf
    refine pm_callV (as := [.int v8, .long y10, .long 1]) (st := []) C X dX12_memory_48 lnX12_279 myX6_reaches viX6_reaches ⟨by decide, by decide⟩ rfl rfl k17 (Nat.le_of_ble_eq_true rfl) (Nat.le_refl _) (Nat.le_refl _) (ctX6_reaches e19 ?_)
    show pm_G g 51 [(6, .long y10), (5, .int v8), (4, .ref v5), (0, .ref a0), (1, .int p1), (2, .int p2), (3, .int p3)] [.int v18] h 0 0
    refine pm_if_ne (tgt := 56) C dX12_memory_51 (by decide) (fun c20 => ?_) (fun c20 => ?_)
    · have hf := pm_ie hf c20
      refine pm_aload_n C dX12_memory_56 rfl rfl ?_
      refine pm_getR C dX12_memory_57 flX12_52 rfl k1 e3 ?_
      refine pm_getR C dX12_memory_60 flX12_239 rfl k4 e16 ?_
      refine pm_iload C dX12_memory_63 rfl ?_
      refine pm_lload C dX12_memory_65 rfl ?_
      obtain ⟨v21, e22, hf⟩ := pm_bd hf
      refine pm_callV (as := [.int v8, .long y10]) (st := []) C X dX12_memory_67 lnX12_283 myX6_byteAt viX6_byteAt ⟨by decide, by decide⟩ rfl rfl k17 (Nat.le_of_ble_eq_true rfl) (Nat.le_refl _) (Nat.le_refl _) (ctX6_byteAt e22 ?_)
      show pm_G g 70 [(6, .long y10), (5, .int v8), (4, .ref v5), (0, .ref a0), (1, .int p1), (2, .int p2), (3, .int p3)] [.int v21] h 0 0
      cases hf
      exact pm_iret C X dX12_memory_70 rfl (Nat.le_refl _) (Nat.le_refl _) q
    · have hf := pm_it hf c20
      refine pm_iconst (v := (-1)) C dX12_memory_54 (by decide) ?_
      cases hf
      exact pm_iret C X dX12_memory_55 rfl (Nat.le_refl _) (Nat.le_refl _) q
theorem dX12_offerOf_0 : decode cX12_offerOf 0 = .ok (.aload_n 0, 1) := by decide +kernel
theorem dX12_offerOf_1 : decode cX12_offerOf 1 = .ok (.getfield 20, 3) := by decide +kernel
theorem dX12_offerOf_4 : decode cX12_offerOf 4 = .ok (.iconst 2, 1) := by decide +kernel
theorem dX12_offerOf_5 : decode cX12_offerOf 5 = .ok (.aload_n 0, 1) := by decide +kernel
theorem dX12_offerOf_6 : decode cX12_offerOf 6 = .ok (.getfield 132, 3) := by decide +kernel
theorem dX12_offerOf_9 : decode cX12_offerOf 9 = .ok (.imul, 1) := by decide +kernel
theorem dX12_offerOf_10 : decode cX12_offerOf 10 = .ok (.iload_n 1, 1) := by decide +kernel
theorem dX12_offerOf_11 : decode cX12_offerOf 11 = .ok (.invokestatic 152, 3) := by decide +kernel
theorem dX12_offerOf_14 : decode cX12_offerOf 14 = .ok (.aload_n 0, 1) := by decide +kernel
theorem dX12_offerOf_15 : decode cX12_offerOf 15 = .ok (.getfield 20, 3) := by decide +kernel
theorem dX12_offerOf_18 : decode cX12_offerOf 18 = .ok (.iconst 2, 1) := by decide +kernel
theorem dX12_offerOf_19 : decode cX12_offerOf 19 = .ok (.aload_n 0, 1) := by decide +kernel
theorem dX12_offerOf_20 : decode cX12_offerOf 20 = .ok (.getfield 132, 3) := by decide +kernel
theorem dX12_offerOf_23 : decode cX12_offerOf 23 = .ok (.imul, 1) := by decide +kernel
theorem dX12_offerOf_24 : decode cX12_offerOf 24 = .ok (.iconst 1, 1) := by decide +kernel
theorem dX12_offerOf_25 : decode cX12_offerOf 25 = .ok (.iadd, 1) := by decide +kernel
theorem dX12_offerOf_26 : decode cX12_offerOf 26 = .ok (.iload_n 2, 1) := by decide +kernel
theorem dX12_offerOf_27 : decode cX12_offerOf 27 = .ok (.invokestatic 152, 3) := by decide +kernel
theorem dX12_offerOf_30 : decode cX12_offerOf 30 = .ok (.aload_n 0, 1) := by decide +kernel
theorem dX12_offerOf_31 : decode cX12_offerOf 31 = .ok (.dup, 1) := by decide +kernel
theorem dX12_offerOf_32 : decode cX12_offerOf 32 = .ok (.getfield 132, 3) := by decide +kernel
theorem dX12_offerOf_35 : decode cX12_offerOf 35 = .ok (.iconst 1, 1) := by decide +kernel
theorem dX12_offerOf_36 : decode cX12_offerOf 36 = .ok (.iadd, 1) := by decide +kernel
theorem dX12_offerOf_37 : decode cX12_offerOf 37 = .ok (.putfield 132, 3) := by decide +kernel
theorem dX12_offerOf_40 : decode cX12_offerOf 40 = .ok (.aload_n 0, 1) := by decide +kernel
theorem dX12_offerOf_41 : decode cX12_offerOf 41 = .ok (.getfield 132, 3) := by decide +kernel
theorem dX12_offerOf_44 : decode cX12_offerOf 44 = .ok (.ireturn, 1) := by decide +kernel
def fX12_offerOf (h : pm_H) (a0 : Nat) (p1 : Int32) (p2 : Int32) : Option (Int32 × pm_H) := if pm_kd h a0 = 12 then (pm_R h a0 12).bind fun v2 => (fX12_setItem h v2 (2 * (pm_I h a0 13)) p1).bind fun v4 => if pm_kd v4 a0 = 12 then (pm_R v4 a0 12).bind fun v7 => (fX12_setItem v4 v7 ((2 * (pm_I v4 a0 13)) + 1) p2).bind fun v9 => if pm_kd v9 a0 = 12 then pm_let ((pm_I v9 a0 13) + 1) fun y12 => some ((pm_I (pm_setI v9 a0 13 y12) a0 13, pm_setI v9 a0 13 y12)) else none else none else none
set_option maxHeartbeats 4000000 in
set_option maxRecDepth 100000 in
theorem ctX12_offerOf {l : Launch} {G : pm_Gl} {h : pm_H} {a0 : Nat} {p1 : Int32} {p2 : Int32} {r : (Int32 × pm_H)} {Qr : Option Value → pm_H → Prop} (hf : fX12_offerOf h a0 p1 p2 = some r) (q : Qr (some (.int r.1)) r.2) : pm_Ct l G mX12_offerOf [.ref a0, .int p1, .int p2] h 0 0 Qr := by
  refine pm_body pnX12 (Nat.le_of_ble_eq_true rfl) (fun g C X => ?_)
  have C : pm_C g cX12_offerOf RX12 := C
  show pm_G g 0 [(0, .ref a0), (1, .int p1), (2, .int p2)] [] h 0 0
  unfold fX12_offerOf at hf
  refine pm_aload_n C dX12_offerOf_0 rfl rfl ?_
  obtain ⟨k1, hf⟩ := pm_if hf
  obtain ⟨v2, e3, hf⟩ := pm_bd hf
  refine pm_getR C dX12_offerOf_1 flX12_20 rfl k1 e3 ?_
  refine pm_iconst (v := 2) C dX12_offerOf_4 (by decide) ?_
  refine pm_aload_n C dX12_offerOf_5 rfl rfl ?_
  refine pm_getI C dX12_offerOf_6 flX12_132 rfl k1 rfl ?_
  refine pm_imul C dX12_offerOf_9 ?_
  refine pm_iload_n C dX12_offerOf_10 rfl rfl ?_
  obtain ⟨v4, e5, hf⟩ := pm_bd hf
  refine pm_callS (as := [.ref v2, .int (2 * (pm_I h a0 13)), .int p1]) (st := []) C X dX12_offerOf_11 lnX12_152 myX12_setItem stX12_setItem ⟨by decide, by decide⟩ rfl rfl (Nat.le_of_ble_eq_true rfl) (Nat.le_refl _) (Nat.le_refl _) (ctX12_setItem e5 ?_)
  show pm_G g 14 [(0, .ref a0), (1, .int p1), (2, .int p2)] [] v4 0 0
  refine pm_aload_n C dX12_offerOf_14 rfl rfl ?_
  obtain ⟨k6, hf⟩ := pm_if hf
  obtain ⟨v7, e8, hf⟩ := pm_bd hf
  refine pm_getR C dX12_offerOf_15 flX12_20 rfl k6 e8 ?_
  refine pm_iconst (v := 2) C dX12_offerOf_18 (by decide) ?_
  refine pm_aload_n C dX12_offerOf_19 rfl rfl ?_
  refine pm_getI C dX12_offerOf_20 flX12_132 rfl k6 rfl ?_
  refine pm_imul C dX12_offerOf_23 ?_
  refine pm_iconst (v := 1) C dX12_offerOf_24 (by decide) ?_
  refine pm_iadd C dX12_offerOf_25 ?_
  refine pm_iload_n C dX12_offerOf_26 rfl rfl ?_
  obtain ⟨v9, e10, hf⟩ := pm_bd hf
  refine pm_callS (as := [.ref v7, .int ((2 * (pm_I v4 a0 13)) + 1), .int p2]) (st := []) C X dX12_offerOf_27 lnX12_152 myX12_setItem stX12_setItem ⟨by decide, by decide⟩ rfl rfl (Nat.le_of_ble_eq_true rfl) (Nat.le_refl _) (Nat.le_refl _) (ctX12_setItem e10 ?_)
  show pm_G g 30 [(0, .ref a0), (1, .int p1), (2, .int p2)] [] v9 0 0
  refine pm_aload_n C dX12_offerOf_30 rfl rfl ?_
  refine pm_dup C dX12_offerOf_31 rfl ?_
  obtain ⟨k11, hf⟩ := pm_if hf
  refine pm_getI C dX12_offerOf_32 flX12_132 rfl k11 rfl ?_
  refine pm_iconst (v := 1) C dX12_offerOf_35 (by decide) ?_
  refine pm_iadd C dX12_offerOf_36 ?_
  obtain ⟨y12, e13, hf⟩ := pm_lt hf
  refine pm_topI e13 ?_
  refine pm_putI C dX12_offerOf_37 flX12_132 rfl rfl k11 rfl rfl ?_
  refine pm_aload_n C dX12_offerOf_40 rfl rfl ?_
  refine pm_getI C dX12_offerOf_41 flX12_132 rfl k11 rfl ?_
  cases hf
  exact pm_iret C X dX12_offerOf_44 rfl (Nat.le_refl _) (Nat.le_refl _) q
theorem dX12_poke_0 : decode cX12_poke 0 = .ok (.aload_n 0, 1) := by decide +kernel
theorem dX12_poke_1 : decode cX12_poke 1 = .ok (.getfield 52, 3) := by decide +kernel
theorem dX12_poke_4 : decode cX12_poke 4 = .ok (.iload_n 1, 1) := by decide +kernel
theorem dX12_poke_5 : decode cX12_poke 5 = .ok (.invokevirtual 139, 3) := by decide +kernel
theorem dX12_poke_8 : decode cX12_poke 8 = .ok (.astore 5, 2) := by decide +kernel
theorem dX12_poke_10 : decode cX12_poke 10 = .ok (.aload 5, 2) := by decide +kernel
theorem dX12_poke_12 : decode cX12_poke 12 = .ok (.iload_n 2, 1) := by decide +kernel
theorem dX12_poke_13 : decode cX12_poke 13 = .ok (.invokevirtual 149, 3) := by decide +kernel
theorem dX12_poke_16 : decode cX12_poke 16 = .ok (.istore 6, 2) := by decide +kernel
theorem dX12_poke_18 : decode cX12_poke 18 = .ok (.iload_n 3, 1) := by decide +kernel
theorem dX12_poke_19 : decode cX12_poke 19 = .ok (.i2l, 1) := by decide +kernel
theorem dX12_poke_20 : decode cX12_poke 20 = .ok (.ldc2_w 277, 3) := by decide +kernel
theorem dX12_poke_23 : decode cX12_poke 23 = .ok (.land, 1) := by decide +kernel
theorem dX12_poke_24 : decode cX12_poke 24 = .ok (.lstore 7, 2) := by decide +kernel
theorem dX12_poke_26 : decode cX12_poke 26 = .ok (.aload_n 0, 1) := by decide +kernel
theorem dX12_poke_27 : decode cX12_poke 27 = .ok (.getfield 61, 3) := by decide +kernel
theorem dX12_poke_30 : decode cX12_poke 30 = .ok (.invokevirtual 156, 3) := by decide +kernel
theorem dX12_poke_33 : decode cX12_poke 33 = .ok (.ifCond .ne 31, 3) := by decide +kernel
theorem dX12_poke_36 : decode cX12_poke 36 = .ok (.aload 5, 2) := by decide +kernel
theorem dX12_poke_38 : decode cX12_poke 38 = .ok (.iload_n 2, 1) := by decide +kernel
theorem dX12_poke_39 : decode cX12_poke 39 = .ok (.invokevirtual 143, 3) := by decide +kernel
theorem dX12_poke_42 : decode cX12_poke 42 = .ok (.iconst 2, 1) := by decide +kernel
theorem dX12_poke_43 : decode cX12_poke 43 = .ok (.if_icmp .ne 21, 3) := by decide +kernel
theorem dX12_poke_46 : decode cX12_poke 46 = .ok (.aload_n 0, 1) := by decide +kernel
theorem dX12_poke_47 : decode cX12_poke 47 = .ok (.getfield 52, 3) := by decide +kernel
theorem dX12_poke_50 : decode cX12_poke 50 = .ok (.getfield 239, 3) := by decide +kernel
theorem dX12_poke_53 : decode cX12_poke 53 = .ok (.iload 6, 2) := by decide +kernel
theorem dX12_poke_55 : decode cX12_poke 55 = .ok (.lload 7, 2) := by decide +kernel
theorem dX12_poke_57 : decode cX12_poke 57 = .ok (.lconst 1, 1) := by decide +kernel
theorem dX12_poke_58 : decode cX12_poke 58 = .ok (.invokevirtual 279, 3) := by decide +kernel
theorem dX12_poke_61 : decode cX12_poke 61 = .ok (.ifCond .ne 5, 3) := by decide +kernel
theorem dX12_poke_64 : decode cX12_poke 64 = .ok (.iconst 0, 1) := by decide +kernel
theorem dX12_poke_65 : decode cX12_poke 65 = .ok (.ireturn, 1) := by decide +kernel
theorem dX12_poke_66 : decode cX12_poke 66 = .ok (.aload_n 0, 1) := by decide +kernel
theorem dX12_poke_67 : decode cX12_poke 67 = .ok (.getfield 52, 3) := by decide +kernel
theorem dX12_poke_70 : decode cX12_poke 70 = .ok (.getfield 239, 3) := by decide +kernel
theorem dX12_poke_73 : decode cX12_poke 73 = .ok (.iload 6, 2) := by decide +kernel
theorem dX12_poke_75 : decode cX12_poke 75 = .ok (.lload 7, 2) := by decide +kernel
theorem dX12_poke_77 : decode cX12_poke 77 = .ok (.iload 4, 2) := by decide +kernel
theorem dX12_poke_79 : decode cX12_poke 79 = .ok (.invokevirtual 287, 3) := by decide +kernel
theorem dX12_poke_82 : decode cX12_poke 82 = .ok (.iconst 1, 1) := by decide +kernel
theorem dX12_poke_83 : decode cX12_poke 83 = .ok (.ireturn, 1) := by decide +kernel
def fX12_poke (h : pm_H) (a0 : Nat) (p1 : Int32) (p2 : Int32) (p3 : Int32) (p4 : Int32) : Option (Int32 × pm_H) := if pm_kd h a0 = 12 then (pm_R h a0 10).bind fun v2 => if pm_kd h v2 = 10 then (fX10_instanceAt h v2 p1).bind fun v5 => if pm_kd h v5 = 4 then (fX4_exportNumber h v5 p2).bind fun v8 => pm_let (p3.toInt64 &&& 4294967295) fun y10 => (pm_R h a0 11).bind fun v12 => if pm_kd h v12 = 5 then (fX5_isBusy h v12).bind fun v15 => if v15 = 0 then ((fX4_exportKind h v5 p2).bind fun v18 => if v18 = 2 then ((pm_R h v2 5).bind fun v21 => if pm_kd h v21 = 6 then (fX6_reaches h v21 v8 y10 1).bind fun v24 => if v24 = 0 then (some ((0, h))) else ((fX6_setByte h v21 v8 y10 p4).bind fun v27 => some ((1, v27))) else none) else (some ((0, h)))) else (some ((0, h))) else none else none else none else none
set_option maxHeartbeats 4000000 in
set_option maxRecDepth 100000 in
theorem ctX12_poke {l : Launch} {G : pm_Gl} {h : pm_H} {a0 : Nat} {p1 : Int32} {p2 : Int32} {p3 : Int32} {p4 : Int32} {r : (Int32 × pm_H)} {Qr : Option Value → pm_H → Prop} (hf : fX12_poke h a0 p1 p2 p3 p4 = some r) (q : Qr (some (.int r.1)) r.2) : pm_Ct l G mX12_poke [.ref a0, .int p1, .int p2, .int p3, .int p4] h 0 0 Qr := by
  refine pm_body pnX12 (Nat.le_of_ble_eq_true rfl) (fun g C X => ?_)
  have C : pm_C g cX12_poke RX12 := C
  show pm_G g 0 [(0, .ref a0), (1, .int p1), (2, .int p2), (3, .int p3), (4, .int p4)] [] h 0 0
  unfold fX12_poke at hf
  refine pm_aload_n C dX12_poke_0 rfl rfl ?_
  obtain ⟨k1, hf⟩ := pm_if hf
  obtain ⟨v2, e3, hf⟩ := pm_bd hf
  refine pm_getR C dX12_poke_1 flX12_52 rfl k1 e3 ?_
  refine pm_iload_n C dX12_poke_4 rfl rfl ?_
  obtain ⟨k4, hf⟩ := pm_if hf
  obtain ⟨v5, e6, hf⟩ := pm_bd hf
  refine pm_callV (as := [.int p1]) (st := []) C X dX12_poke_5 lnX12_139 myX10_instanceAt viX10_instanceAt ⟨by decide, by decide⟩ rfl rfl k4 (Nat.le_of_ble_eq_true rfl) (Nat.le_refl _) (Nat.le_refl _) (ctX10_instanceAt e6 ?_)
  show pm_G g 8 [(0, .ref a0), (1, .int p1), (2, .int p2), (3, .int p3), (4, .int p4)] [.ref v5] h 0 0
  refine pm_astore (lv' := [(5, .ref v5), (0, .ref a0), (1, .int p1), (2, .int p2), (3, .int p3), (4, .int p4)]) C dX12_poke_8 (pm_nl X (by decide)) rfl ?_
  refine pm_aload C dX12_poke_10 rfl ?_
  refine pm_iload_n C dX12_poke_12 rfl rfl ?_
  obtain ⟨k7, hf⟩ := pm_if hf
  obtain ⟨v8, e9, hf⟩ := pm_bd hf
  refine pm_callV (as := [.int p2]) (st := []) C X dX12_poke_13 lnX12_149 myX4_exportNumber viX4_exportNumber ⟨by decide, by decide⟩ rfl rfl k7 (Nat.le_of_ble_eq_true rfl) (Nat.le_refl _) (Nat.le_refl _) (ctX4_exportNumber e9 ?_)
  show pm_G g 16 [(5, .ref v5), (0, .ref a0), (1, .int p1), (2, .int p2), (3, .int p3), (4, .int p4)] [.int v8] h 0 0
  refine pm_istore (lv' := [(6, .int v8), (5, .ref v5), (0, .ref a0), (1, .int p1), (2, .int p2), (3, .int p3), (4, .int p4)]) C dX12_poke_16 (pm_nl X (by decide)) rfl ?_
  refine pm_iload_n C dX12_poke_18 rfl rfl ?_
  refine pm_i2l C dX12_poke_19 ?_
  refine pm_ldc2 C dX12_poke_20 cnX12_277 ?_
  refine pm_land C dX12_poke_23 ?_
  obtain ⟨y10, e11, hf⟩ := pm_lt hf
  refine pm_topL e11 ?_
  refine pm_lstore (lv' := [(7, .long y10), (6, .int v8), (5, .ref v5), (0, .ref a0), (1, .int p1), (2, .int p2), (3, .int p3), (4, .int p4)]) C dX12_poke_24 (pm_nl X (by decide)) rfl ?_
  refine pm_aload_n C dX12_poke_26 rfl rfl ?_
  obtain ⟨v12, e13, hf⟩ := pm_bd hf
  refine pm_getR C dX12_poke_27 flX12_61 rfl k1 e13 ?_
  obtain ⟨k14, hf⟩ := pm_if hf
  obtain ⟨v15, e16, hf⟩ := pm_bd hf
  refine pm_callV (as := []) (st := []) C X dX12_poke_30 lnX12_156 myX5_isBusy viX5_isBusy ⟨by decide, by decide⟩ rfl rfl k14 (Nat.le_of_ble_eq_true rfl) (Nat.le_refl _) (Nat.le_refl _) (ctX5_isBusy e16 ?_)
  show pm_G g 33 [(7, .long y10), (6, .int v8), (5, .ref v5), (0, .ref a0), (1, .int p1), (2, .int p2), (3, .int p3), (4, .int p4)] [.int v15] h 0 0
  refine pm_if_ne (tgt := 64) C dX12_poke_33 (by decide) (fun c17 => ?_) (fun c17 => ?_)
  · have hf := pm_ie hf c17
    refine pm_iconst (v := 0) C dX12_poke_64 (by decide) ?_
    cases hf
    exact pm_zret C X dX12_poke_65 rfl (by decide) (Nat.le_refl _) (Nat.le_refl _) q
  · have hf := pm_it hf c17
    refine pm_aload C dX12_poke_36 rfl ?_
    refine pm_iload_n C dX12_poke_38 rfl rfl ?_
    obtain ⟨v18, e19, hf⟩ := pm_bd hf
    refine pm_callV (as := [.int p2]) (st := []) C X dX12_poke_39 lnX12_143 myX4_exportKind viX4_exportKind ⟨by decide, by decide⟩ rfl rfl k7 (Nat.le_of_ble_eq_true rfl) (Nat.le_refl _) (Nat.le_refl _) (ctX4_exportKind e19 ?_)
    show pm_G g 42 [(7, .long y10), (6, .int v8), (5, .ref v5), (0, .ref a0), (1, .int p1), (2, .int p2), (3, .int p3), (4, .int p4)] [.int v18] h 0 0
    refine pm_iconst (v := 2) C dX12_poke_42 (by decide) ?_
    refine pm_icmp_ne (tgt := 64) C dX12_poke_43 (by decide) (fun c20 => ?_) (fun c20 => ?_)
    · have hf := pm_ie hf c20
      refine pm_iconst (v := 0) C dX12_poke_64 (by decide) ?_
      cases hf
      exact pm_zret C X dX12_poke_65 rfl (by decide) (Nat.le_refl _) (Nat.le_refl _) q
    · have hf := pm_it hf c20
      refine pm_aload_n C dX12_poke_46 rfl rfl ?_
      refine pm_getR C dX12_poke_47 flX12_52 rfl k1 e3 ?_
      obtain ⟨v21, e22, hf⟩ := pm_bd hf
      refine pm_getR C dX12_poke_50 flX12_239 rfl k4 e22 ?_
      refine pm_iload C dX12_poke_53 rfl ?_
      refine pm_lload C dX12_poke_55 rfl ?_
      refine pm_lconst (v := 1) C dX12_poke_57 (by decide) ?_
      obtain ⟨k23, hf⟩ := pm_if hf
      obtain ⟨v24, e25, hf⟩ := pm_bd hf
      refine pm_callV (as := [.int v8, .long y10, .long 1]) (st := []) C X dX12_poke_58 lnX12_279 myX6_reaches viX6_reaches ⟨by decide, by decide⟩ rfl rfl k23 (Nat.le_of_ble_eq_true rfl) (Nat.le_refl _) (Nat.le_refl _) (ctX6_reaches e25 ?_)
      show pm_G g 61 [(7, .long y10), (6, .int v8), (5, .ref v5), (0, .ref a0), (1, .int p1), (2, .int p2), (3, .int p3), (4, .int p4)] [.int v24] h 0 0
      refine pm_if_ne (tgt := 66) C dX12_poke_61 (by decide) (fun c26 => ?_) (fun c26 => ?_)
      · have hf := pm_ie hf c26
        refine pm_aload_n C dX12_poke_66 rfl rfl ?_
        refine pm_getR C dX12_poke_67 flX12_52 rfl k1 e3 ?_
        refine pm_getR C dX12_poke_70 flX12_239 rfl k4 e22 ?_
        refine pm_iload C dX12_poke_73 rfl ?_
        refine pm_lload C dX12_poke_75 rfl ?_
        refine pm_iload C dX12_poke_77 rfl ?_
        obtain ⟨v27, e28, hf⟩ := pm_bd hf
        refine pm_callV (as := [.int v8, .long y10, .int p4]) (st := []) C X dX12_poke_79 lnX12_287 myX6_setByte viX6_setByte ⟨by decide, by decide⟩ rfl rfl k23 (Nat.le_of_ble_eq_true rfl) (Nat.le_refl _) (Nat.le_refl _) (ctX6_setByte e28 ?_)
        show pm_G g 82 [(7, .long y10), (6, .int v8), (5, .ref v5), (0, .ref a0), (1, .int p1), (2, .int p2), (3, .int p3), (4, .int p4)] [] v27 0 0
        refine pm_iconst (v := 1) C dX12_poke_82 (by decide) ?_
        cases hf
        exact pm_zret C X dX12_poke_83 rfl (by decide) (Nat.le_refl _) (Nat.le_refl _) q
      · have hf := pm_it hf c26
        refine pm_iconst (v := 0) C dX12_poke_64 (by decide) ?_
        cases hf
        exact pm_zret C X dX12_poke_65 rfl (by decide) (Nat.le_refl _) (Nat.le_refl _) q
theorem dX12_table_0 : decode cX12_table 0 = .ok (.aload_n 0, 1) := by decide +kernel
theorem dX12_table_1 : decode cX12_table 1 = .ok (.getfield 52, 3) := by decide +kernel
theorem dX12_table_4 : decode cX12_table 4 = .ok (.iload_n 1, 1) := by decide +kernel
theorem dX12_table_5 : decode cX12_table 5 = .ok (.invokevirtual 139, 3) := by decide +kernel
theorem dX12_table_8 : decode cX12_table 8 = .ok (.astore 4, 2) := by decide +kernel
theorem dX12_table_10 : decode cX12_table 10 = .ok (.aload 4, 2) := by decide +kernel
theorem dX12_table_12 : decode cX12_table 12 = .ok (.iload_n 2, 1) := by decide +kernel
theorem dX12_table_13 : decode cX12_table 13 = .ok (.invokevirtual 149, 3) := by decide +kernel
theorem dX12_table_16 : decode cX12_table 16 = .ok (.istore 5, 2) := by decide +kernel
theorem dX12_table_18 : decode cX12_table 18 = .ok (.aload 4, 2) := by decide +kernel
theorem dX12_table_20 : decode cX12_table 20 = .ok (.iload_n 2, 1) := by decide +kernel
theorem dX12_table_21 : decode cX12_table 21 = .ok (.invokevirtual 143, 3) := by decide +kernel
theorem dX12_table_24 : decode cX12_table 24 = .ok (.iconst 1, 1) := by decide +kernel
theorem dX12_table_25 : decode cX12_table 25 = .ok (.if_icmp .ne 21, 3) := by decide +kernel
theorem dX12_table_28 : decode cX12_table 28 = .ok (.aload_n 0, 1) := by decide +kernel
theorem dX12_table_29 : decode cX12_table 29 = .ok (.getfield 52, 3) := by decide +kernel
theorem dX12_table_32 : decode cX12_table 32 = .ok (.getfield 248, 3) := by decide +kernel
theorem dX12_table_35 : decode cX12_table 35 = .ok (.iload 5, 2) := by decide +kernel
theorem dX12_table_37 : decode cX12_table 37 = .ok (.iload_n 3, 1) := by decide +kernel
theorem dX12_table_38 : decode cX12_table 38 = .ok (.i2l, 1) := by decide +kernel
theorem dX12_table_39 : decode cX12_table 39 = .ok (.lconst 1, 1) := by decide +kernel
theorem dX12_table_40 : decode cX12_table 40 = .ok (.invokevirtual 291, 3) := by decide +kernel
theorem dX12_table_43 : decode cX12_table 43 = .ok (.ifCond .ne 6, 3) := by decide +kernel
theorem dX12_table_46 : decode cX12_table 46 = .ok (.bipush (-2), 2) := by decide +kernel
theorem dX12_table_48 : decode cX12_table 48 = .ok (.ireturn, 1) := by decide +kernel
theorem dX12_table_49 : decode cX12_table 49 = .ok (.aload_n 0, 1) := by decide +kernel
theorem dX12_table_50 : decode cX12_table 50 = .ok (.getfield 52, 3) := by decide +kernel
theorem dX12_table_53 : decode cX12_table 53 = .ok (.getfield 248, 3) := by decide +kernel
theorem dX12_table_56 : decode cX12_table 56 = .ok (.iload 5, 2) := by decide +kernel
theorem dX12_table_58 : decode cX12_table 58 = .ok (.iload_n 3, 1) := by decide +kernel
theorem dX12_table_59 : decode cX12_table 59 = .ok (.i2l, 1) := by decide +kernel
theorem dX12_table_60 : decode cX12_table 60 = .ok (.invokevirtual 292, 3) := by decide +kernel
theorem dX12_table_63 : decode cX12_table 63 = .ok (.ireturn, 1) := by decide +kernel
def fX12_table (h : pm_H) (a0 : Nat) (p1 : Int32) (p2 : Int32) (p3 : Int32) : Option Int32 := if pm_kd h a0 = 12 then (pm_R h a0 10).bind fun v2 => if pm_kd h v2 = 10 then (fX10_instanceAt h v2 p1).bind fun v5 => if pm_kd h v5 = 4 then (fX4_exportNumber h v5 p2).bind fun v8 => (fX4_exportKind h v5 p2).bind fun v10 => if v10 = 1 then ((pm_R h v2 4).bind fun v13 => if pm_kd h v13 = 11 then (fX11_reaches h v13 v8 p3.toInt64 1).bind fun v16 => if v16 = 0 then (some ((-2))) else ((fX11_entry h v13 v8 p3.toInt64).bind fun v19 => some v19) else none) else (some ((-2))) else none else none else none
set_option maxHeartbeats 4000000 in
set_option maxRecDepth 100000 in
theorem ctX12_table {l : Launch} {G : pm_Gl} {h : pm_H} {a0 : Nat} {p1 : Int32} {p2 : Int32} {p3 : Int32} {r : Int32} {Qr : Option Value → pm_H → Prop} (hf : fX12_table h a0 p1 p2 p3 = some r) (q : Qr (some (.int r)) h) : pm_Ct l G mX12_table [.ref a0, .int p1, .int p2, .int p3] h 0 0 Qr := by
  refine pm_body pnX12 (Nat.le_of_ble_eq_true rfl) (fun g C X => ?_)
  have C : pm_C g cX12_table RX12 := C
  show pm_G g 0 [(0, .ref a0), (1, .int p1), (2, .int p2), (3, .int p3)] [] h 0 0
  unfold fX12_table at hf
  refine pm_aload_n C dX12_table_0 rfl rfl ?_
  obtain ⟨k1, hf⟩ := pm_if hf
  obtain ⟨v2, e3, hf⟩ := pm_bd hf
  refine pm_getR C dX12_table_1 flX12_52 rfl k1 e3 ?_
  refine pm_iload_n C dX12_table_4 rfl rfl ?_
  obtain ⟨k4, hf⟩ := pm_if hf
  obtain ⟨v5, e6, hf⟩ := pm_bd hf
  refine pm_callV (as := [.int p1]) (st := []) C X dX12_table_5 lnX12_139 myX10_instanceAt viX10_instanceAt ⟨by decide, by decide⟩ rfl rfl k4 (Nat.le_of_ble_eq_true rfl) (Nat.le_refl _) (Nat.le_refl _) (ctX10_instanceAt e6 ?_)
  show pm_G g 8 [(0, .ref a0), (1, .int p1), (2, .int p2), (3, .int p3)] [.ref v5] h 0 0
  refine pm_astore (lv' := [(4, .ref v5), (0, .ref a0), (1, .int p1), (2, .int p2), (3, .int p3)]) C dX12_table_8 (pm_nl X (by decide)) rfl ?_
  refine pm_aload C dX12_table_10 rfl ?_
  refine pm_iload_n C dX12_table_12 rfl rfl ?_
  obtain ⟨k7, hf⟩ := pm_if hf
  obtain ⟨v8, e9, hf⟩ := pm_bd hf
  refine pm_callV (as := [.int p2]) (st := []) C X dX12_table_13 lnX12_149 myX4_exportNumber viX4_exportNumber ⟨by decide, by decide⟩ rfl rfl k7 (Nat.le_of_ble_eq_true rfl) (Nat.le_refl _) (Nat.le_refl _) (ctX4_exportNumber e9 ?_)
  show pm_G g 16 [(4, .ref v5), (0, .ref a0), (1, .int p1), (2, .int p2), (3, .int p3)] [.int v8] h 0 0
  refine pm_istore (lv' := [(5, .int v8), (4, .ref v5), (0, .ref a0), (1, .int p1), (2, .int p2), (3, .int p3)]) C dX12_table_16 (pm_nl X (by decide)) rfl ?_
  refine pm_aload C dX12_table_18 rfl ?_
  refine pm_iload_n C dX12_table_20 rfl rfl ?_
  obtain ⟨v10, e11, hf⟩ := pm_bd hf
  refine pm_callV (as := [.int p2]) (st := []) C X dX12_table_21 lnX12_143 myX4_exportKind viX4_exportKind ⟨by decide, by decide⟩ rfl rfl k7 (Nat.le_of_ble_eq_true rfl) (Nat.le_refl _) (Nat.le_refl _) (ctX4_exportKind e11 ?_)
  show pm_G g 24 [(5, .int v8), (4, .ref v5), (0, .ref a0), (1, .int p1), (2, .int p2), (3, .int p3)] [.int v10] h 0 0
  refine pm_iconst (v := 1) C dX12_table_24 (by decide) ?_
  refine pm_icmp_ne (tgt := 46) C dX12_table_25 (by decide) (fun c12 => ?_) (fun c12 => ?_)
  · have hf := pm_ie hf c12
    refine pm_bipush (v := (-2)) C dX12_table_46 (by decide) ?_
    cases hf
    exact pm_iret C X dX12_table_48 rfl (Nat.le_refl _) (Nat.le_refl _) q
  · have hf := pm_it hf c12
    refine pm_aload_n C dX12_table_28 rfl rfl ?_
    refine pm_getR C dX12_table_29 flX12_52 rfl k1 e3 ?_
    obtain ⟨v13, e14, hf⟩ := pm_bd hf
    refine pm_getR C dX12_table_32 flX12_248 rfl k4 e14 ?_
    refine pm_iload C dX12_table_35 rfl ?_
    refine pm_iload_n C dX12_table_37 rfl rfl ?_
    refine pm_i2l C dX12_table_38 ?_
    refine pm_lconst (v := 1) C dX12_table_39 (by decide) ?_
    obtain ⟨k15, hf⟩ := pm_if hf
    obtain ⟨v16, e17, hf⟩ := pm_bd hf
    refine pm_callV (as := [.int v8, .long p3.toInt64, .long 1]) (st := []) C X dX12_table_40 lnX12_291 myX11_reaches viX11_reaches ⟨by decide, by decide⟩ rfl rfl k15 (Nat.le_of_ble_eq_true rfl) (Nat.le_refl _) (Nat.le_refl _) (ctX11_reaches e17 ?_)
    show pm_G g 43 [(5, .int v8), (4, .ref v5), (0, .ref a0), (1, .int p1), (2, .int p2), (3, .int p3)] [.int v16] h 0 0
    refine pm_if_ne (tgt := 49) C dX12_table_43 (by decide) (fun c18 => ?_) (fun c18 => ?_)
    · have hf := pm_ie hf c18
      refine pm_aload_n C dX12_table_49 rfl rfl ?_
      refine pm_getR C dX12_table_50 flX12_52 rfl k1 e3 ?_
      refine pm_getR C dX12_table_53 flX12_248 rfl k4 e14 ?_
      refine pm_iload C dX12_table_56 rfl ?_
      refine pm_iload_n C dX12_table_58 rfl rfl ?_
      refine pm_i2l C dX12_table_59 ?_
      obtain ⟨v19, e20, hf⟩ := pm_bd hf
      refine pm_callV (as := [.int v8, .long p3.toInt64]) (st := []) C X dX12_table_60 lnX12_292 myX11_entry viX11_entry ⟨by decide, by decide⟩ rfl rfl k15 (Nat.le_of_ble_eq_true rfl) (Nat.le_refl _) (Nat.le_refl _) (ctX11_entry e20 ?_)
      show pm_G g 63 [(5, .int v8), (4, .ref v5), (0, .ref a0), (1, .int p1), (2, .int p2), (3, .int p3)] [.int v19] h 0 0
      cases hf
      exact pm_iret C X dX12_table_63 rfl (Nat.le_refl _) (Nat.le_refl _) q
    · have hf := pm_it hf c18
      refine pm_bipush (v := (-2)) C dX12_table_46 (by decide) ?_
      cases hf
      exact pm_iret C X dX12_table_48 rfl (Nat.le_refl _) (Nat.le_refl _) q
theorem dX14_all_0 : decode cX14_all 0 = .ok (.aload_n 0, 1) := by decide +kernel
theorem dX14_all_1 : decode cX14_all 1 = .ok (.iload_n 1, 1) := by decide +kernel
theorem dX14_all_2 : decode cX14_all 2 = .ok (.invokevirtual 193, 3) := by decide +kernel
theorem dX14_all_5 : decode cX14_all 5 = .ok (.iload_n 1, 1) := by decide +kernel
theorem dX14_all_6 : decode cX14_all 6 = .ok (.ifCond .ne 10, 3) := by decide +kernel
theorem dX14_all_9 : decode cX14_all 9 = .ok (.aload_n 0, 1) := by decide +kernel
theorem dX14_all_10 : decode cX14_all 10 = .ok (.getfield 166, 3) := by decide +kernel
theorem dX14_all_13 : decode cX14_all 13 = .ok (.goto 31, 3) := by decide +kernel
theorem dX14_all_16 : decode cX14_all 16 = .ok (.iload_n 1, 1) := by decide +kernel
theorem dX14_all_17 : decode cX14_all 17 = .ok (.iconst 1, 1) := by decide +kernel
theorem dX14_all_18 : decode cX14_all 18 = .ok (.if_icmp .ne 10, 3) := by decide +kernel
theorem dX14_all_21 : decode cX14_all 21 = .ok (.aload_n 0, 1) := by decide +kernel
theorem dX14_all_22 : decode cX14_all 22 = .ok (.getfield 169, 3) := by decide +kernel
theorem dX14_all_25 : decode cX14_all 25 = .ok (.goto 19, 3) := by decide +kernel
theorem dX14_all_28 : decode cX14_all 28 = .ok (.iload_n 1, 1) := by decide +kernel
theorem dX14_all_29 : decode cX14_all 29 = .ok (.iconst 2, 1) := by decide +kernel
theorem dX14_all_30 : decode cX14_all 30 = .ok (.if_icmp .ne 10, 3) := by decide +kernel
theorem dX14_all_33 : decode cX14_all 33 = .ok (.aload_n 0, 1) := by decide +kernel
theorem dX14_all_34 : decode cX14_all 34 = .ok (.getfield 172, 3) := by decide +kernel
theorem dX14_all_37 : decode cX14_all 37 = .ok (.goto 7, 3) := by decide +kernel
theorem dX14_all_40 : decode cX14_all 40 = .ok (.aload_n 0, 1) := by decide +kernel
theorem dX14_all_41 : decode cX14_all 41 = .ok (.getfield 175, 3) := by decide +kernel
theorem dX14_all_44 : decode cX14_all 44 = .ok (.iadd, 1) := by decide +kernel
theorem dX14_all_45 : decode cX14_all 45 = .ok (.ireturn, 1) := by decide +kernel
noncomputable def fX14_all (h : pm_H) (a0 : Nat) (p1 : Int32) : Option Int32 := if pm_kd h a0 = 14 then (fX14_imported h a0 p1).bind fun v2 => if p1 = 0 then (some (v2 + (pm_I h a0 15))) else (if p1 = 1 then (some (v2 + (pm_I h a0 17))) else (if p1 = 2 then (some (v2 + (pm_I h a0 21))) else (some (v2 + (pm_I h a0 24))))) else none
set_option maxHeartbeats 4000000 in
set_option maxRecDepth 100000 in
theorem ctX14_all {l : Launch} {G : pm_Gl} {h : pm_H} {a0 : Nat} {p1 : Int32} {r : Int32} {Qr : Option Value → pm_H → Prop} (hf : fX14_all h a0 p1 = some r) (q : Qr (some (.int r)) h) : pm_Ct l G mX14_all [.ref a0, .int p1] h 0 0 Qr := by
  refine pm_body pnX14 (Nat.le_of_ble_eq_true rfl) (fun g C X => ?_)
  have C : pm_C g cX14_all RX14 := C
  show pm_G g 0 [(0, .ref a0), (1, .int p1)] [] h 0 0
  unfold fX14_all at hf
  refine pm_aload_n C dX14_all_0 rfl rfl ?_
  refine pm_iload_n C dX14_all_1 rfl rfl ?_
  obtain ⟨k1, hf⟩ := pm_if hf
  obtain ⟨v2, e3, hf⟩ := pm_bd hf
  refine pm_callV (as := [.int p1]) (st := []) C X dX14_all_2 lnX14_193 myX14_imported viX14_imported ⟨by decide, by decide⟩ rfl rfl k1 (Nat.le_of_ble_eq_true rfl) (Nat.le_refl _) (Nat.le_refl _) (ctX14_imported e3 ?_)
  show pm_G g 5 [(0, .ref a0), (1, .int p1)] [.int v2] h 0 0
  refine pm_iload_n C dX14_all_5 rfl rfl ?_
  refine pm_if_ne (tgt := 16) C dX14_all_6 (by decide) (fun c4 => ?_) (fun c4 => ?_)
  · have hf := pm_ie hf c4
    refine pm_iload_n C dX14_all_16 rfl rfl ?_
    refine pm_iconst (v := 1) C dX14_all_17 (by decide) ?_
    refine pm_icmp_ne (tgt := 28) C dX14_all_18 (by decide) (fun c5 => ?_) (fun c5 => ?_)
    · have hf := pm_ie hf c5
      refine pm_iload_n C dX14_all_28 rfl rfl ?_
      refine pm_iconst (v := 2) C dX14_all_29 (by decide) ?_
      refine pm_icmp_ne (tgt := 40) C dX14_all_30 (by decide) (fun c6 => ?_) (fun c6 => ?_)
      · have hf := pm_ie hf c6
        refine pm_aload_n C dX14_all_40 rfl rfl ?_
        refine pm_getI C dX14_all_41 flX14_175 rfl k1 rfl ?_
        refine pm_iadd C dX14_all_44 ?_
        cases hf
        exact pm_iret C X dX14_all_45 rfl (Nat.le_refl _) (Nat.le_refl _) q
      · have hf := pm_it hf c6
        refine pm_aload_n C dX14_all_33 rfl rfl ?_
        refine pm_getI C dX14_all_34 flX14_172 rfl k1 rfl ?_
        refine pm_goto (tgt := 44) C dX14_all_37 (by decide) ?_
        refine pm_iadd C dX14_all_44 ?_
        cases hf
        exact pm_iret C X dX14_all_45 rfl (Nat.le_refl _) (Nat.le_refl _) q
    · have hf := pm_it hf c5
      refine pm_aload_n C dX14_all_21 rfl rfl ?_
      refine pm_getI C dX14_all_22 flX14_169 rfl k1 rfl ?_
      refine pm_goto (tgt := 44) C dX14_all_25 (by decide) ?_
      refine pm_iadd C dX14_all_44 ?_
      cases hf
      exact pm_iret C X dX14_all_45 rfl (Nat.le_refl _) (Nat.le_refl _) q
  · have hf := pm_it hf c4
    refine pm_aload_n C dX14_all_9 rfl rfl ?_
    refine pm_getI C dX14_all_10 flX14_166 rfl k1 rfl ?_
    refine pm_goto (tgt := 44) C dX14_all_13 (by decide) ?_
    refine pm_iadd C dX14_all_44 ?_
    cases hf
    exact pm_iret C X dX14_all_45 rfl (Nat.le_refl _) (Nat.le_refl _) q
theorem dX14_globalMoves_0 : decode cX14_globalMoves 0 = .ok (.aload_n 0, 1) := by decide +kernel
theorem dX14_globalMoves_1 : decode cX14_globalMoves 1 = .ok (.iconst 3, 1) := by decide +kernel
theorem dX14_globalMoves_2 : decode cX14_globalMoves 2 = .ok (.invokevirtual 193, 3) := by decide +kernel
theorem dX14_globalMoves_5 : decode cX14_globalMoves 5 = .ok (.istore_n 2, 1) := by decide +kernel
theorem dX14_globalMoves_6 : decode cX14_globalMoves 6 = .ok (.iload_n 1, 1) := by decide +kernel
theorem dX14_globalMoves_7 : decode cX14_globalMoves 7 = .ok (.iload_n 2, 1) := by decide +kernel
theorem dX14_globalMoves_8 : decode cX14_globalMoves 8 = .ok (.if_icmp .ge 17, 3) := by decide +kernel
theorem dX14_globalMoves_11 : decode cX14_globalMoves 11 = .ok (.aload_n 0, 1) := by decide +kernel
theorem dX14_globalMoves_12 : decode cX14_globalMoves 12 = .ok (.getfield 41, 3) := by decide +kernel
theorem dX14_globalMoves_15 : decode cX14_globalMoves 15 = .ok (.aload_n 0, 1) := by decide +kernel
theorem dX14_globalMoves_16 : decode cX14_globalMoves 16 = .ok (.iconst 3, 1) := by decide +kernel
theorem dX14_globalMoves_17 : decode cX14_globalMoves 17 = .ok (.iload_n 1, 1) := by decide +kernel
theorem dX14_globalMoves_18 : decode cX14_globalMoves 18 = .ok (.invokevirtual 197, 3) := by decide +kernel
theorem dX14_globalMoves_21 : decode cX14_globalMoves 21 = .ok (.baload, 1) := by decide +kernel
theorem dX14_globalMoves_22 : decode cX14_globalMoves 22 = .ok (.goto 11, 3) := by decide +kernel
theorem dX14_globalMoves_25 : decode cX14_globalMoves 25 = .ok (.aload_n 0, 1) := by decide +kernel
theorem dX14_globalMoves_26 : decode cX14_globalMoves 26 = .ok (.getfield 66, 3) := by decide +kernel
theorem dX14_globalMoves_29 : decode cX14_globalMoves 29 = .ok (.iload_n 1, 1) := by decide +kernel
theorem dX14_globalMoves_30 : decode cX14_globalMoves 30 = .ok (.iload_n 2, 1) := by decide +kernel
theorem dX14_globalMoves_31 : decode cX14_globalMoves 31 = .ok (.isub, 1) := by decide +kernel
theorem dX14_globalMoves_32 : decode cX14_globalMoves 32 = .ok (.baload, 1) := by decide +kernel
theorem dX14_globalMoves_33 : decode cX14_globalMoves 33 = .ok (.ireturn, 1) := by decide +kernel
noncomputable def fX14_globalMoves (h : pm_H) (a0 : Nat) (p1 : Int32) : Option Int32 := if pm_kd h a0 = 14 then (fX14_imported h a0 3).bind fun v2 => if v2 ≤ p1 then ((pm_R h a0 26).bind fun v5 => pm_let (p1 - v2) fun y7 => if pm_kd h v5 = 32 then if pm_in y7 (pm_ln h v5) then if (pm_I h v5 y7.toNatClampNeg) = 0 ∨ (pm_I h v5 y7.toNatClampNeg) = 1 then some (pm_I h v5 y7.toNatClampNeg) else none else none else none) else ((pm_R h a0 13).bind fun v12 => (fX14_importOf h a0 3 p1).bind fun v14 => if pm_kd h v12 = 32 then if pm_in v14 (pm_ln h v12) then if (pm_I h v12 v14.toNatClampNeg) = 0 ∨ (pm_I h v12 v14.toNatClampNeg) = 1 then some (pm_I h v12 v14.toNatClampNeg) else none else none else none) else none
set_option maxHeartbeats 4000000 in
set_option maxRecDepth 100000 in
theorem ctX14_globalMoves {l : Launch} {G : pm_Gl} {h : pm_H} {a0 : Nat} {p1 : Int32} {r : Int32} {Qr : Option Value → pm_H → Prop} (hf : fX14_globalMoves h a0 p1 = some r) (q : Qr (some (.int r)) h) : pm_Ct l G mX14_globalMoves [.ref a0, .int p1] h 0 0 Qr := by
  refine pm_body pnX14 (Nat.le_of_ble_eq_true rfl) (fun g C X => ?_)
  have C : pm_C g cX14_globalMoves RX14 := C
  show pm_G g 0 [(0, .ref a0), (1, .int p1)] [] h 0 0
  unfold fX14_globalMoves at hf
  refine pm_aload_n C dX14_globalMoves_0 rfl rfl ?_
  refine pm_iconst (v := 3) C dX14_globalMoves_1 (by decide) ?_
  obtain ⟨k1, hf⟩ := pm_if hf
  obtain ⟨v2, e3, hf⟩ := pm_bd hf
  refine pm_callV (as := [.int 3]) (st := []) C X dX14_globalMoves_2 lnX14_193 myX14_imported viX14_imported ⟨by decide, by decide⟩ rfl rfl k1 (Nat.le_of_ble_eq_true rfl) (Nat.le_refl _) (Nat.le_refl _) (ctX14_imported e3 ?_)
  show pm_G g 5 [(0, .ref a0), (1, .int p1)] [.int v2] h 0 0
  refine pm_istore_n (lv' := [(2, .int v2), (0, .ref a0), (1, .int p1)]) C dX14_globalMoves_5 rfl (pm_nl X (by decide)) rfl ?_
  refine pm_iload_n C dX14_globalMoves_6 rfl rfl ?_
  refine pm_iload_n C dX14_globalMoves_7 rfl rfl ?_
  refine pm_icmp_ge (tgt := 25) C dX14_globalMoves_8 (by decide) (fun c4 => ?_) (fun c4 => ?_)
  · have hf := pm_it hf c4
    refine pm_aload_n C dX14_globalMoves_25 rfl rfl ?_
    obtain ⟨v5, e6, hf⟩ := pm_bd hf
    refine pm_getR C dX14_globalMoves_26 flX14_66 rfl k1 e6 ?_
    refine pm_iload_n C dX14_globalMoves_29 rfl rfl ?_
    refine pm_iload_n C dX14_globalMoves_30 rfl rfl ?_
    refine pm_isub C dX14_globalMoves_31 ?_
    obtain ⟨y7, e8, hf⟩ := pm_lt hf
    refine pm_topI e8 ?_
    obtain ⟨k9, hf⟩ := pm_if hf
    obtain ⟨u10, hf⟩ := pm_if hf
    refine pm_zald C dX14_globalMoves_32 k9 u10 rfl ?_
    obtain ⟨u11, hf⟩ := pm_if hf
    cases hf
    exact pm_zret C X dX14_globalMoves_33 rfl (pm_b01 u11).1 (Nat.le_refl _) (Nat.le_refl _) q
  · have hf := pm_ie hf c4
    refine pm_aload_n C dX14_globalMoves_11 rfl rfl ?_
    obtain ⟨v12, e13, hf⟩ := pm_bd hf
    refine pm_getR C dX14_globalMoves_12 flX14_41 rfl k1 e13 ?_
    refine pm_aload_n C dX14_globalMoves_15 rfl rfl ?_
    refine pm_iconst (v := 3) C dX14_globalMoves_16 (by decide) ?_
    refine pm_iload_n C dX14_globalMoves_17 rfl rfl ?_
    obtain ⟨v14, e15, hf⟩ := pm_bd hf
    refine pm_callV (as := [.int 3, .int p1]) (st := [.ref v12]) C X dX14_globalMoves_18 lnX14_197 myX14_importOf viX14_importOf ⟨by decide, by decide⟩ rfl rfl k1 (Nat.le_of_ble_eq_true rfl) (Nat.le_refl _) (Nat.le_refl _) (ctX14_importOf e15 ?_)
    show pm_G g 21 [(2, .int v2), (0, .ref a0), (1, .int p1)] [.int v14, .ref v12] h 0 0
    obtain ⟨k16, hf⟩ := pm_if hf
    obtain ⟨u17, hf⟩ := pm_if hf
    refine pm_zald C dX14_globalMoves_21 k16 u17 rfl ?_
    refine pm_goto (tgt := 33) C dX14_globalMoves_22 (by decide) ?_
    obtain ⟨u18, hf⟩ := pm_if hf
    cases hf
    exact pm_zret C X dX14_globalMoves_33 rfl (pm_b01 u18).1 (Nat.le_refl _) (Nat.le_refl _) q
