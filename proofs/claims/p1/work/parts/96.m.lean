theorem dX7_shareImports_0 : decode cX7_shareImports 0 = .ok (.iconst 0, 1) := by decide +kernel
theorem dX7_shareImports_1 : decode cX7_shareImports 1 = .ok (.istore_n 1, 1) := by decide +kernel
theorem dX7_shareImports_2 : decode cX7_shareImports 2 = .ok (.iload_n 1, 1) := by decide +kernel
theorem dX7_shareImports_3 : decode cX7_shareImports 3 = .ok (.iconst 4, 1) := by decide +kernel
theorem dX7_shareImports_4 : decode cX7_shareImports 4 = .ok (.if_icmp .ge 91, 3) := by decide +kernel
theorem dX7_shareImports_7 : decode cX7_shareImports 7 = .ok (.aload_n 0, 1) := by decide +kernel
theorem dX7_shareImports_8 : decode cX7_shareImports 8 = .ok (.iload_n 1, 1) := by decide +kernel
theorem dX7_shareImports_9 : decode cX7_shareImports 9 = .ok (.invokevirtual 79, 3) := by decide +kernel
theorem dX7_shareImports_12 : decode cX7_shareImports 12 = .ok (.bipush 6, 2) := by decide +kernel
theorem dX7_shareImports_14 : decode cX7_shareImports 14 = .ok (.imul, 1) := by decide +kernel
theorem dX7_shareImports_15 : decode cX7_shareImports 15 = .ok (.newarray .long, 2) := by decide +kernel
theorem dX7_shareImports_17 : decode cX7_shareImports 17 = .ok (.astore_n 2, 1) := by decide +kernel
theorem dX7_shareImports_18 : decode cX7_shareImports 18 = .ok (.iconst 0, 1) := by decide +kernel
theorem dX7_shareImports_19 : decode cX7_shareImports 19 = .ok (.istore_n 3, 1) := by decide +kernel
theorem dX7_shareImports_20 : decode cX7_shareImports 20 = .ok (.iconst 0, 1) := by decide +kernel
theorem dX7_shareImports_21 : decode cX7_shareImports 21 = .ok (.istore 4, 2) := by decide +kernel
theorem dX7_shareImports_23 : decode cX7_shareImports 23 = .ok (.iload 4, 2) := by decide +kernel
theorem dX7_shareImports_25 : decode cX7_shareImports 25 = .ok (.bipush 6, 2) := by decide +kernel
theorem dX7_shareImports_27 : decode cX7_shareImports 27 = .ok (.iadd, 1) := by decide +kernel
theorem dX7_shareImports_28 : decode cX7_shareImports 28 = .ok (.aload_n 0, 1) := by decide +kernel
theorem dX7_shareImports_29 : decode cX7_shareImports 29 = .ok (.getfield 18, 3) := by decide +kernel
theorem dX7_shareImports_32 : decode cX7_shareImports 32 = .ok (.arraylength, 1) := by decide +kernel
theorem dX7_shareImports_33 : decode cX7_shareImports 33 = .ok (.if_icmp .gt 50, 3) := by decide +kernel
theorem dX7_shareImports_36 : decode cX7_shareImports 36 = .ok (.iload_n 3, 1) := by decide +kernel
theorem dX7_shareImports_37 : decode cX7_shareImports 37 = .ok (.bipush 6, 2) := by decide +kernel
theorem dX7_shareImports_39 : decode cX7_shareImports 39 = .ok (.iadd, 1) := by decide +kernel
theorem dX7_shareImports_40 : decode cX7_shareImports 40 = .ok (.aload_n 2, 1) := by decide +kernel
theorem dX7_shareImports_41 : decode cX7_shareImports 41 = .ok (.arraylength, 1) := by decide +kernel
theorem dX7_shareImports_42 : decode cX7_shareImports 42 = .ok (.if_icmp .gt 41, 3) := by decide +kernel
theorem dX7_shareImports_45 : decode cX7_shareImports 45 = .ok (.aload_n 0, 1) := by decide +kernel
theorem dX7_shareImports_46 : decode cX7_shareImports 46 = .ok (.getfield 18, 3) := by decide +kernel
theorem dX7_shareImports_49 : decode cX7_shareImports 49 = .ok (.iload 4, 2) := by decide +kernel
theorem dX7_shareImports_51 : decode cX7_shareImports 51 = .ok (.laload, 1) := by decide +kernel
theorem dX7_shareImports_52 : decode cX7_shareImports 52 = .ok (.iload_n 1, 1) := by decide +kernel
theorem dX7_shareImports_53 : decode cX7_shareImports 53 = .ok (.i2l, 1) := by decide +kernel
theorem dX7_shareImports_54 : decode cX7_shareImports 54 = .ok (.lcmp, 1) := by decide +kernel
theorem dX7_shareImports_55 : decode cX7_shareImports 55 = .ok (.ifCond .eq 6, 3) := by decide +kernel
theorem dX7_shareImports_58 : decode cX7_shareImports 58 = .ok (.goto 19, 3) := by decide +kernel
theorem dX7_shareImports_61 : decode cX7_shareImports 61 = .ok (.aload_n 0, 1) := by decide +kernel
theorem dX7_shareImports_62 : decode cX7_shareImports 62 = .ok (.getfield 18, 3) := by decide +kernel
theorem dX7_shareImports_65 : decode cX7_shareImports 65 = .ok (.iload 4, 2) := by decide +kernel
theorem dX7_shareImports_67 : decode cX7_shareImports 67 = .ok (.aload_n 2, 1) := by decide +kernel
theorem dX7_shareImports_68 : decode cX7_shareImports 68 = .ok (.iload_n 3, 1) := by decide +kernel
theorem dX7_shareImports_69 : decode cX7_shareImports 69 = .ok (.bipush 6, 2) := by decide +kernel
theorem dX7_shareImports_71 : decode cX7_shareImports 71 = .ok (.invokestatic 82, 3) := by decide +kernel
theorem dX7_shareImports_74 : decode cX7_shareImports 74 = .ok (.iinc 3 6, 3) := by decide +kernel
theorem dX7_shareImports_77 : decode cX7_shareImports 77 = .ok (.iinc 4 6, 3) := by decide +kernel
theorem dX7_shareImports_80 : decode cX7_shareImports 80 = .ok (.goto (-57), 3) := by decide +kernel
theorem dX7_shareImports_83 : decode cX7_shareImports 83 = .ok (.aload_n 0, 1) := by decide +kernel
theorem dX7_shareImports_84 : decode cX7_shareImports 84 = .ok (.iload_n 1, 1) := by decide +kernel
theorem dX7_shareImports_85 : decode cX7_shareImports 85 = .ok (.aload_n 2, 1) := by decide +kernel
theorem dX7_shareImports_86 : decode cX7_shareImports 86 = .ok (.invokevirtual 88, 3) := by decide +kernel
theorem dX7_shareImports_89 : decode cX7_shareImports 89 = .ok (.iinc 1 1, 3) := by decide +kernel
theorem dX7_shareImports_92 : decode cX7_shareImports 92 = .ok (.goto (-90), 3) := by decide +kernel
theorem dX7_shareImports_95 : decode cX7_shareImports 95 = .ok (.return_, 1) := by decide +kernel
noncomputable def tX7_shareImports_0 (x0 : Nat) (h : pm_H) : Option (((Nat × pm_H) ⊕ (Nat × Int32 × pm_H) ⊕ (Nat × Int32 × Nat × pm_H) ⊕ (Nat × Int32 × Nat × Int32 × Int32 × pm_H)) ⊕ pm_H) := some (.inl (.inr (.inl ((x0, 0, h)))))
noncomputable def tX7_shareImports_2 (x0 : Nat) (x1 : Int32) (h : pm_H) : Option (((Nat × pm_H) ⊕ (Nat × Int32 × pm_H) ⊕ (Nat × Int32 × Nat × pm_H) ⊕ (Nat × Int32 × Nat × Int32 × Int32 × pm_H)) ⊕ pm_H) := if 4 ≤ x1 then (some (.inr (h))) else (if pm_kd h x0 = 7 then (fX7_imported h x0 x1).bind fun v3 => pm_let (v3 * 6) fun y5 => if ¬ y5 < 0 ∧ y5.toNatClampNeg * 8 ≤ 536870912 then some (.inl (.inr (.inr (.inl ((x0, x1, pm_sz h, pm_new h 35 y5.toNatClampNeg)))))) else none else none)
noncomputable def tX7_shareImports_17 (x0 : Nat) (x1 : Int32) (s0 : Nat) (h : pm_H) : Option (((Nat × pm_H) ⊕ (Nat × Int32 × pm_H) ⊕ (Nat × Int32 × Nat × pm_H) ⊕ (Nat × Int32 × Nat × Int32 × Int32 × pm_H)) ⊕ pm_H) := some (.inl (.inr (.inr (.inr ((x0, x1, s0, 0, 0, h))))))
noncomputable def tX7_shareImports_23 (x0 : Nat) (x1 : Int32) (x2 : Nat) (x3 : Int32) (x4 : Int32) (h : pm_H) : Option (((Nat × pm_H) ⊕ (Nat × Int32 × pm_H) ⊕ (Nat × Int32 × Nat × pm_H) ⊕ (Nat × Int32 × Nat × Int32 × Int32 × pm_H)) ⊕ pm_H) := if pm_kd h x0 = 7 then (pm_R h x0 3).bind fun v9 => if pm_kd h v9 = 35 then if (Int32.ofNat (pm_ln h v9)) < (x4 + 6) then ((fX7_setSpace h x0 x1 x2).bind fun v13 => pm_let (x1 + 1) fun y16 => some (.inl (.inr (.inl ((x0, y16, v13)))))) else (if pm_kd h x2 = 35 then if (Int32.ofNat (pm_ln h x2)) < (x3 + 6) then ((fX7_setSpace h x0 x1 x2).bind fun v20 => pm_let (x1 + 1) fun y23 => some (.inl (.inr (.inl ((x0, y23, v20)))))) else (if pm_in x4 (pm_ln h v9) then if (pm_L h v9 x4.toNatClampNeg) = x1.toInt64 then (if ¬ x4 < 0 ∧ ¬ x3 < 0 ∧ ¬ (6 : Int32) < 0 ∧ x4.toNatClampNeg + (6 : Int32).toNatClampNeg ≤ pm_ln h v9 ∧ x3.toNatClampNeg + (6 : Int32).toNatClampNeg ≤ pm_ln h x2 then pm_let (x3 + 6) fun y28 => pm_let (x4 + 6) fun y30 => some (.inl (.inr (.inr (.inr ((x0, x1, x2, y28, y30, pm_cpL h v9 x4.toNatClampNeg x2 x3.toNatClampNeg ((6 : Int32).toNatClampNeg))))))) else none) else (pm_let (x4 + 6) fun y32 => some (.inl (.inr (.inr (.inr ((x0, x1, x2, x3, y32, h))))))) else none) else none) else none else none
noncomputable def sX7_shareImports : ((Nat × pm_H) ⊕ (Nat × Int32 × pm_H) ⊕ (Nat × Int32 × Nat × pm_H) ⊕ (Nat × Int32 × Nat × Int32 × Int32 × pm_H)) → Option (((Nat × pm_H) ⊕ (Nat × Int32 × pm_H) ⊕ (Nat × Int32 × Nat × pm_H) ⊕ (Nat × Int32 × Nat × Int32 × Int32 × pm_H)) ⊕ pm_H) := fun z => match z with
  | .inl (x0, h) => tX7_shareImports_0 x0 h
  | .inr (.inl (x0, x1, h)) => tX7_shareImports_2 x0 x1 h
  | .inr (.inr (.inl (x0, x1, s0, h))) => tX7_shareImports_17 x0 x1 s0 h
  | .inr (.inr (.inr (x0, x1, x2, x3, x4, h))) => tX7_shareImports_23 x0 x1 x2 x3 x4 h
noncomputable def fX7_shareImports (h : pm_H) (a0 : Nat) : Option pm_H := pm_lim sX7_shareImports (.inl ((a0, h)))
set_option maxHeartbeats 4000000 in
set_option maxRecDepth 100000 in
theorem mlX7_shareImports {r : pm_H} : ∀ n : Nat, (∀ (x0 : Nat) (h : pm_H), pm_iter sX7_shareImports n (.inl (x0, h)) = some r → pm_Le h r) ∧ (∀ (x0 : Nat) (x1 : Int32) (h : pm_H), pm_iter sX7_shareImports n (.inr (.inl (x0, x1, h))) = some r → pm_Le h r) ∧ (∀ (x0 : Nat) (x1 : Int32) (s0 : Nat) (h : pm_H), pm_iter sX7_shareImports n (.inr (.inr (.inl (x0, x1, s0, h)))) = some r → pm_Le h r) ∧ (∀ (x0 : Nat) (x1 : Int32) (x2 : Nat) (x3 : Int32) (x4 : Int32) (h : pm_H), pm_iter sX7_shareImports n (.inr (.inr (.inr (x0, x1, x2, x3, x4, h)))) = some r → pm_Le h r) := by
  intro n
  induction n with
  | zero => exact ⟨fun _ _ hf => (by cases hf), fun _ _ _ hf => (by cases hf), fun _ _ _ _ hf => (by cases hf), fun _ _ _ _ _ _ hf => (by cases hf)⟩
  | succ n ih =>
    refine ⟨fun x0 h hf => ?_, ?_⟩
    · obtain ⟨y, hf, hi⟩ := pm_iter_s hf
      have hf : tX7_shareImports_0 x0 h = some y := hf
      unfold tX7_shareImports_0 at hf
      have K0 := pm_S3.rf h
      cases hf
      exact (pm_S3.le K0).trans (ih.2.1 x0 0 h hi)
    refine ⟨fun x0 x1 h hf => ?_, ?_⟩
    · obtain ⟨y, hf, hi⟩ := pm_iter_s hf
      have hf : tX7_shareImports_2 x0 x1 h = some y := hf
      unfold tX7_shareImports_2 at hf
      have K0 := pm_S3.rf h
      by_cases c1 : 4 ≤ x1
      · have hf := pm_it hf c1
        have hf := Option.some.inj hf
        subst hf
        have hi := Option.some.inj (show some _ = some r from hi)
        subst hi
        exact pm_S3.le K0
      · have hf := pm_ie hf c1
        obtain ⟨k2, hf⟩ := pm_if hf
        obtain ⟨v3, e4, hf⟩ := pm_bd hf
        obtain ⟨y5, e6, hf⟩ := pm_lt hf
        obtain ⟨u7, hf⟩ := pm_if hf
        cases hf
        exact ((pm_S3.le K0).trans (pm_Le_new _ _ _)).trans (ih.2.2.1 x0 x1 (pm_sz h) (pm_new h 35 y5.toNatClampNeg) hi)
    refine ⟨fun x0 x1 s0 h hf => ?_, ?_⟩
    · obtain ⟨y, hf, hi⟩ := pm_iter_s hf
      have hf : tX7_shareImports_17 x0 x1 s0 h = some y := hf
      unfold tX7_shareImports_17 at hf
      have K0 := pm_S3.rf h
      cases hf
      exact (pm_S3.le K0).trans (ih.2.2.2 x0 x1 s0 0 0 h hi)
    refine fun x0 x1 x2 x3 x4 h hf => ?_
    obtain ⟨y, hf, hi⟩ := pm_iter_s hf
    have hf : tX7_shareImports_23 x0 x1 x2 x3 x4 h = some y := hf
    unfold tX7_shareImports_23 at hf
    have K0 := pm_S3.rf h
    obtain ⟨k8, hf⟩ := pm_if hf
    obtain ⟨v9, e10, hf⟩ := pm_bd hf
    obtain ⟨k11, hf⟩ := pm_if hf
    by_cases c12 : (Int32.ofNat (pm_ln h v9)) < (x4 + 6)
    · have hf := pm_it hf c12
      obtain ⟨v13, e14, hf⟩ := pm_bd hf
      have K15 := pm_S3.trans (kpX7_setSpace e14) K0
      obtain ⟨y16, e17, hf⟩ := pm_lt hf
      cases hf
      exact (pm_S3.le K15).trans (ih.2.1 x0 y16 v13 hi)
    · have hf := pm_ie hf c12
      obtain ⟨k18, hf⟩ := pm_if hf
      by_cases c19 : (Int32.ofNat (pm_ln h x2)) < (x3 + 6)
      · have hf := pm_it hf c19
        obtain ⟨v20, e21, hf⟩ := pm_bd hf
        have K22 := pm_S3.trans (kpX7_setSpace e21) K0
        obtain ⟨y23, e24, hf⟩ := pm_lt hf
        cases hf
        exact (pm_S3.le K22).trans (ih.2.1 x0 y23 v20 hi)
      · have hf := pm_ie hf c19
        obtain ⟨u25, hf⟩ := pm_if hf
        by_cases c26 : (pm_L h v9 x4.toNatClampNeg) = x1.toInt64
        · have hf := pm_it hf c26
          obtain ⟨u27, hf⟩ := pm_if hf
          obtain ⟨y28, e29, hf⟩ := pm_lt hf
          obtain ⟨y30, e31, hf⟩ := pm_lt hf
          cases hf
          exact (pm_S3.le (pm_S3CL K0)).trans (ih.2.2.2 x0 x1 x2 y28 y30 (pm_cpL h v9 x4.toNatClampNeg x2 x3.toNatClampNeg ((6 : Int32).toNatClampNeg)) hi)
        · have hf := pm_ie hf c26
          obtain ⟨y32, e33, hf⟩ := pm_lt hf
          cases hf
          exact (pm_S3.le K0).trans (ih.2.2.2 x0 x1 x2 x3 y32 h hi)
set_option maxHeartbeats 4000000 in
set_option maxRecDepth 100000 in
theorem moX7_shareImports {h : pm_H} {a0 : Nat} {r : pm_H} (hf : fX7_shareImports h a0 = some r) : pm_Le h r := by
  unfold fX7_shareImports at hf
  have K0 := pm_S3.rf h
  obtain ⟨n, hn⟩ := pm_lim_iter hf
  exact (mlX7_shareImports n).1 a0 h hn
set_option maxHeartbeats 4000000 in
set_option maxRecDepth 100000 in
theorem lpX7_shareImports {g : pm_Gm} {l : Launch} {G : pm_Gl} {Qr : Option Value → pm_H → Prop} (C : pm_C g cX7_shareImports RX7) {h0 : pm_H} {r : pm_H} (X : pm_X g l G mX7_shareImports (pm_sz r - pm_sz h0) (pm_us r - pm_us h0) Qr) (q : Qr none r) : ∀ n : Nat, (∀ (x0 : Nat) (h : pm_H), pm_Le h0 h → pm_iter sX7_shareImports n (.inl (x0, h)) = some r → pm_G g 0 [(0, .ref x0)] [] h (pm_sz h - pm_sz h0) (pm_us h - pm_us h0)) ∧ (∀ (x0 : Nat) (x1 : Int32) (h : pm_H), pm_Le h0 h → pm_iter sX7_shareImports n (.inr (.inl (x0, x1, h))) = some r → pm_G g 2 [(0, .ref x0), (1, .int x1)] [] h (pm_sz h - pm_sz h0) (pm_us h - pm_us h0)) ∧ (∀ (x0 : Nat) (x1 : Int32) (s0 : Nat) (h : pm_H), pm_Le h0 h → pm_iter sX7_shareImports n (.inr (.inr (.inl (x0, x1, s0, h)))) = some r → pm_G g 17 [(0, .ref x0), (1, .int x1)] [.ref s0] h (pm_sz h - pm_sz h0) (pm_us h - pm_us h0)) ∧ (∀ (x0 : Nat) (x1 : Int32) (x2 : Nat) (x3 : Int32) (x4 : Int32) (h : pm_H), pm_Le h0 h → pm_iter sX7_shareImports n (.inr (.inr (.inr (x0, x1, x2, x3, x4, h)))) = some r → pm_G g 23 [(0, .ref x0), (1, .int x1), (2, .ref x2), (3, .int x3), (4, .int x4)] [] h (pm_sz h - pm_sz h0) (pm_us h - pm_us h0)) := by
  intro n
  induction n with
  | zero => exact ⟨fun _ _ _ hf => (by cases hf), fun _ _ _ _ hf => (by cases hf), fun _ _ _ _ _ hf => (by cases hf), fun _ _ _ _ _ _ _ hf => (by cases hf)⟩
  | succ n ih =>
    refine ⟨fun x0 h m0 hf => ?_, ?_⟩
    · have le0 := (mlX7_shareImports (n + 1)).1 x0 h hf
      have kc1 := Nat.sub_le_sub_right le0.1 (pm_sz h0)
      have kc2 := Nat.sub_le_sub_right le0.2 (pm_us h0)
      have K0 := pm_S3.rf h
      obtain ⟨y, hf, hi⟩ := pm_iter_s hf
      have hf : tX7_shareImports_0 x0 h = some y := hf
      unfold tX7_shareImports_0 at hf
      refine pm_iconst (v := 0) C dX7_shareImports_0 (by decide) ?_
      refine pm_istore_n (lv' := [(1, .int 0), (0, .ref x0)]) C dX7_shareImports_1 rfl (pm_nl X (by decide)) rfl ?_
      cases hf
      exact pa_join K0 (pm_sub [1, 0] rfl (ih.2.1 x0 0 h (m0.trans (pm_S3.le K0)) hi))
    refine ⟨fun x0 x1 h m0 hf => ?_, ?_⟩
    · have le0 := (mlX7_shareImports (n + 1)).2.1 x0 x1 h hf
      have kc1 := Nat.sub_le_sub_right le0.1 (pm_sz h0)
      have kc2 := Nat.sub_le_sub_right le0.2 (pm_us h0)
      have K0 := pm_S3.rf h
      obtain ⟨y, hf, hi⟩ := pm_iter_s hf
      have hf : tX7_shareImports_2 x0 x1 h = some y := hf
      unfold tX7_shareImports_2 at hf
      refine pm_iload_n C dX7_shareImports_2 rfl rfl ?_
      refine pm_iconst (v := 4) C dX7_shareImports_3 (by decide) ?_
      refine pm_icmp_ge (tgt := 95) C dX7_shareImports_4 (by decide) (fun c1 => ?_) (fun c1 => ?_)
      · have hf := pm_it hf c1
        have hf := Option.some.inj hf
        subst hf
        have hi := Option.some.inj (show some _ = some r from hi)
        subst hi
        exact pm_vret C X dX7_shareImports_95 rfl kc1 kc2 q
      · have hf := pm_ie hf c1
        refine pm_aload_n C dX7_shareImports_7 rfl rfl ?_
        refine pm_iload_n C dX7_shareImports_8 rfl rfl ?_
        obtain ⟨k2, hf⟩ := pm_if hf
        obtain ⟨v3, e4, hf⟩ := pm_bd hf
        refine pm_callV (as := [.int x1]) (st := []) C X dX7_shareImports_9 lnX7_79 myX7_imported viX7_imported ⟨by decide, by decide⟩ rfl rfl k2 (Nat.le_of_ble_eq_true rfl) kc1 kc2 (ctX7_imported e4 ?_)
        show pm_G g 12 [(0, .ref x0), (1, .int x1)] [.int v3] h (pm_sz h - pm_sz h0) (pm_us h - pm_us h0)
        refine pm_bipush (v := 6) C dX7_shareImports_12 (by decide) ?_
        refine pm_imul C dX7_shareImports_14 ?_
        obtain ⟨y5, e6, hf⟩ := pm_lt hf
        refine pm_topI e6 ?_
        obtain ⟨u7, hf⟩ := pm_if hf
        cases hf
        refine pa_newa (hb := h) (h0 := h0) (t := 3) (N := y5.toNatClampNeg) C X K0 m0 dX7_shareImports_15 (by decide) rfl al3 u7.1 rfl u7.2 ((mlX7_shareImports n).2.2.1 x0 x1 (pm_sz h) (pm_new h 35 y5.toNatClampNeg) hi) ?_
        exact pm_sub [0, 1] rfl (ih.2.2.1 x0 x1 (pm_sz h) (pm_new h 35 y5.toNatClampNeg) ((m0.trans (pm_S3.le K0)).trans (pm_Le_new _ _ _)) hi)
    refine ⟨fun x0 x1 s0 h m0 hf => ?_, ?_⟩
    · have le0 := (mlX7_shareImports (n + 1)).2.2.1 x0 x1 s0 h hf
      have kc1 := Nat.sub_le_sub_right le0.1 (pm_sz h0)
      have kc2 := Nat.sub_le_sub_right le0.2 (pm_us h0)
      have K0 := pm_S3.rf h
      obtain ⟨y, hf, hi⟩ := pm_iter_s hf
      have hf : tX7_shareImports_17 x0 x1 s0 h = some y := hf
      unfold tX7_shareImports_17 at hf
      refine pm_astore_n (lv' := [(2, .ref s0), (0, .ref x0), (1, .int x1)]) C dX7_shareImports_17 rfl (pm_nl X (by decide)) rfl ?_
      refine pm_iconst (v := 0) C dX7_shareImports_18 (by decide) ?_
      refine pm_istore_n (lv' := [(3, .int 0), (2, .ref s0), (0, .ref x0), (1, .int x1)]) C dX7_shareImports_19 rfl (pm_nl X (by decide)) rfl ?_
      refine pm_iconst (v := 0) C dX7_shareImports_20 (by decide) ?_
      refine pm_istore (lv' := [(4, .int 0), (3, .int 0), (2, .ref s0), (0, .ref x0), (1, .int x1)]) C dX7_shareImports_21 (pm_nl X (by decide)) rfl ?_
      cases hf
      exact pa_join K0 (pm_sub [3, 4, 2, 1, 0] rfl (ih.2.2.2 x0 x1 s0 0 0 h (m0.trans (pm_S3.le K0)) hi))
    refine fun x0 x1 x2 x3 x4 h m0 hf => ?_
    have le0 := (mlX7_shareImports (n + 1)).2.2.2 x0 x1 x2 x3 x4 h hf
    have kc1 := Nat.sub_le_sub_right le0.1 (pm_sz h0)
    have kc2 := Nat.sub_le_sub_right le0.2 (pm_us h0)
    have K0 := pm_S3.rf h
    obtain ⟨y, hf, hi⟩ := pm_iter_s hf
    have hf : tX7_shareImports_23 x0 x1 x2 x3 x4 h = some y := hf
    unfold tX7_shareImports_23 at hf
    refine pm_iload C dX7_shareImports_23 rfl ?_
    refine pm_bipush (v := 6) C dX7_shareImports_25 (by decide) ?_
    refine pm_iadd C dX7_shareImports_27 ?_
    refine pm_aload_n C dX7_shareImports_28 rfl rfl ?_
    obtain ⟨k8, hf⟩ := pm_if hf
    obtain ⟨v9, e10, hf⟩ := pm_bd hf
    refine pm_getR C dX7_shareImports_29 flX7_18 rfl k8 e10 ?_
    obtain ⟨k11, hf⟩ := pm_if hf
    refine pm_alen (t := 3) C dX7_shareImports_32 (by decide) k11 rfl ?_
    refine pm_icmp_gt (tgt := 83) C dX7_shareImports_33 (by decide) (fun c12 => ?_) (fun c12 => ?_)
    · have hf := pm_it hf c12
      refine pm_aload_n C dX7_shareImports_83 rfl rfl ?_
      refine pm_iload_n C dX7_shareImports_84 rfl rfl ?_
      refine pm_aload_n C dX7_shareImports_85 rfl rfl ?_
      obtain ⟨v13, e14, hf⟩ := pm_bd hf
      refine pm_callV (as := [.int x1, .ref x2]) (st := []) C X dX7_shareImports_86 lnX7_88 myX7_setSpace viX7_setSpace ⟨by decide, by decide⟩ rfl rfl k8 (Nat.le_of_ble_eq_true rfl) kc1 kc2 (ctX7_setSpace e14 ?_)
      have K15 := pm_S3.trans (kpX7_setSpace e14) K0
      show pm_G g 89 [(0, .ref x0), (1, .int x1), (2, .ref x2), (3, .int x3), (4, .int x4)] [] v13 (pm_sz h - pm_sz h0) (pm_us h - pm_us h0)
      obtain ⟨y16, e17, hf⟩ := pm_lt hf
      refine pm_iinc (v := y16) (lv' := [(1, .int y16), (0, .ref x0), (2, .ref x2), (3, .int x3), (4, .int x4)]) C dX7_shareImports_89 rfl ((congrArg (x1 + ·) (by decide : Int32.ofInt 1 = 1)).trans e17) (pm_nl X (by decide)) rfl ?_
      refine pm_goto (tgt := 2) C dX7_shareImports_92 (by decide) ?_
      cases hf
      exact pa_join K15 (pm_sub [1, 0] rfl (ih.2.1 x0 y16 v13 (m0.trans (pm_S3.le K15)) hi))
    · have hf := pm_ie hf c12
      refine pm_iload_n C dX7_shareImports_36 rfl rfl ?_
      refine pm_bipush (v := 6) C dX7_shareImports_37 (by decide) ?_
      refine pm_iadd C dX7_shareImports_39 ?_
      refine pm_aload_n C dX7_shareImports_40 rfl rfl ?_
      obtain ⟨k18, hf⟩ := pm_if hf
      refine pm_alen (t := 3) C dX7_shareImports_41 (by decide) k18 rfl ?_
      refine pm_icmp_gt (tgt := 83) C dX7_shareImports_42 (by decide) (fun c19 => ?_) (fun c19 => ?_)
      · have hf := pm_it hf c19
        refine pm_aload_n C dX7_shareImports_83 rfl rfl ?_
        refine pm_iload_n C dX7_shareImports_84 rfl rfl ?_
        refine pm_aload_n C dX7_shareImports_85 rfl rfl ?_
        obtain ⟨v20, e21, hf⟩ := pm_bd hf
        refine pm_callV (as := [.int x1, .ref x2]) (st := []) C X dX7_shareImports_86 lnX7_88 myX7_setSpace viX7_setSpace ⟨by decide, by decide⟩ rfl rfl k8 (Nat.le_of_ble_eq_true rfl) kc1 kc2 (ctX7_setSpace e21 ?_)
        have K22 := pm_S3.trans (kpX7_setSpace e21) K0
        show pm_G g 89 [(0, .ref x0), (1, .int x1), (2, .ref x2), (3, .int x3), (4, .int x4)] [] v20 (pm_sz h - pm_sz h0) (pm_us h - pm_us h0)
        obtain ⟨y23, e24, hf⟩ := pm_lt hf
        refine pm_iinc (v := y23) (lv' := [(1, .int y23), (0, .ref x0), (2, .ref x2), (3, .int x3), (4, .int x4)]) C dX7_shareImports_89 rfl ((congrArg (x1 + ·) (by decide : Int32.ofInt 1 = 1)).trans e24) (pm_nl X (by decide)) rfl ?_
        refine pm_goto (tgt := 2) C dX7_shareImports_92 (by decide) ?_
        cases hf
        exact pa_join K22 (pm_sub [1, 0] rfl (ih.2.1 x0 y23 v20 (m0.trans (pm_S3.le K22)) hi))
      · have hf := pm_ie hf c19
        refine pm_aload_n C dX7_shareImports_45 rfl rfl ?_
        refine pm_getR C dX7_shareImports_46 flX7_18 rfl k8 e10 ?_
        refine pm_iload C dX7_shareImports_49 rfl ?_
        obtain ⟨u25, hf⟩ := pm_if hf
        refine pm_lald C dX7_shareImports_51 k11 u25 rfl ?_
        refine pm_iload_n C dX7_shareImports_52 rfl rfl ?_
        refine pm_i2l C dX7_shareImports_53 ?_
        refine pm_lcmp C dX7_shareImports_54 ?_
        refine pm_if_eq (tgt := 61) C dX7_shareImports_55 (by decide) (fun c26 => ?_) (fun c26 => ?_)
        · have hf := pm_it hf ((pm_lg_eq _ _).mp c26)
          refine pm_aload_n C dX7_shareImports_61 rfl rfl ?_
          refine pm_getR C dX7_shareImports_62 flX7_18 rfl k8 e10 ?_
          refine pm_iload C dX7_shareImports_65 rfl ?_
          refine pm_aload_n C dX7_shareImports_67 rfl rfl ?_
          refine pm_iload_n C dX7_shareImports_68 rfl rfl ?_
          refine pm_bipush (v := 6) C dX7_shareImports_69 (by decide) ?_
          obtain ⟨u27, hf⟩ := pm_if hf
          refine pm_copyL (t := 3) C (pm_XR X) dX7_shareImports_71 acX7_82 rfl k11 k18 u27.1 u27.2.1 u27.2.2.1 u27.2.2.2.1 u27.2.2.2.2 (fun _ _ => rfl) (by decide) (by decide) (Nat.le_of_ble_eq_true rfl) ?_
          obtain ⟨y28, e29, hf⟩ := pm_lt hf
          refine pm_iinc (v := y28) (lv' := [(3, .int y28), (0, .ref x0), (1, .int x1), (2, .ref x2), (4, .int x4)]) C dX7_shareImports_74 rfl ((congrArg (x3 + ·) (by decide : Int32.ofInt 6 = 6)).trans e29) (pm_nl X (by decide)) rfl ?_
          obtain ⟨y30, e31, hf⟩ := pm_lt hf
          refine pm_iinc (v := y30) (lv' := [(4, .int y30), (3, .int y28), (0, .ref x0), (1, .int x1), (2, .ref x2)]) C dX7_shareImports_77 rfl ((congrArg (x4 + ·) (by decide : Int32.ofInt 6 = 6)).trans e31) (pm_nl X (by decide)) rfl ?_
          refine pm_goto (tgt := 23) C dX7_shareImports_80 (by decide) ?_
          cases hf
          exact pa_join (pm_S3CL K0) (pm_sub [2, 3, 4, 1, 0] rfl (ih.2.2.2 x0 x1 x2 y28 y30 (pm_cpL h v9 x4.toNatClampNeg x2 x3.toNatClampNeg ((6 : Int32).toNatClampNeg)) (m0.trans (pm_S3.le (pm_S3CL K0))) hi))
        · have hf := pm_ie hf ((fun z => c26 ((pm_lg_eq _ _).mpr z)))
          refine pm_goto (tgt := 77) C dX7_shareImports_58 (by decide) ?_
          obtain ⟨y32, e33, hf⟩ := pm_lt hf
          refine pm_iinc (v := y32) (lv' := [(4, .int y32), (0, .ref x0), (1, .int x1), (2, .ref x2), (3, .int x3)]) C dX7_shareImports_77 rfl ((congrArg (x4 + ·) (by decide : Int32.ofInt 6 = 6)).trans e33) (pm_nl X (by decide)) rfl ?_
          refine pm_goto (tgt := 23) C dX7_shareImports_80 (by decide) ?_
          cases hf
          exact pa_join K0 (pm_sub [1, 2, 3, 4, 0] rfl (ih.2.2.2 x0 x1 x2 x3 y32 h (m0.trans (pm_S3.le K0)) hi))
set_option maxHeartbeats 4000000 in
set_option maxRecDepth 100000 in
theorem ctX7_shareImports {l : Launch} {G : pm_Gl} {h : pm_H} {a0 : Nat} {r : pm_H} {Qr : Option Value → pm_H → Prop} (hf : fX7_shareImports h a0 = some r) (q : Qr none r) : pm_Ct l G mX7_shareImports [.ref a0] h (pm_sz r - pm_sz h) (pm_us r - pm_us h) Qr := by
  refine pm_body pnX7 (Nat.le_of_ble_eq_true rfl) (fun g C X => ?_)
  have C : pm_C g cX7_shareImports RX7 := C
  show pm_G g 0 [(0, .ref a0)] [] h 0 0
  unfold fX7_shareImports at hf
  obtain ⟨n, hn⟩ := pm_lim_iter hf
  exact pa_start (pm_sub [0] rfl ((lpX7_shareImports C X q n).1 a0 h (pm_Le.rf h) hn))
theorem dX8_init_0 : decode cX8_init 0 = .ok (.aload_n 0, 1) := by decide +kernel
theorem dX8_init_1 : decode cX8_init 1 = .ok (.invokespecial 3, 3) := by decide +kernel
theorem dX8_init_4 : decode cX8_init 4 = .ok (.return_, 1) := by decide +kernel
def fX8_init (a0 : Nat) : Unit := ()
set_option maxHeartbeats 4000000 in
set_option maxRecDepth 100000 in
theorem ctX8_init {l : Launch} {G : pm_Gl} {h : pm_H} {a0 : Nat} {r : Unit} {Qr : Option Value → pm_H → Prop} (hf : fX8_init a0 = r) (q : Qr none h) : pm_Ct l G mX8_init [.ref a0] h 0 0 Qr := by
  refine pm_bodyN pnX8 (Nat.le_of_ble_eq_true rfl) (fun g C X nm => ?_)
  have C : pm_C g cX8_init RX8 := C
  show pm_G g 0 [(0, .ref a0)] [] h 0 0
  unfold fX8_init at hf
  refine pm_aload_n C dX8_init_0 rfl rfl ?_
  refine pm_obj C X dX8_init_1 obX8_3 obI obC (by decide) (by decide) (Nat.le_of_ble_eq_true rfl) ?_
  subst hf
  exact pm_vret C X dX8_init_4 rfl (Nat.le_refl _) (Nat.le_refl _) q
theorem dX9_closeSection_0 : decode cX9_closeSection 0 = .ok (.aload_n 0, 1) := by decide +kernel
theorem dX9_closeSection_1 : decode cX9_closeSection 1 = .ok (.getfield 51, 3) := by decide +kernel
theorem dX9_closeSection_4 : decode cX9_closeSection 4 = .ok (.aload_n 0, 1) := by decide +kernel
theorem dX9_closeSection_5 : decode cX9_closeSection 5 = .ok (.getfield 60, 3) := by decide +kernel
theorem dX9_closeSection_8 : decode cX9_closeSection 8 = .ok (.if_icmp .ge 12, 3) := by decide +kernel
theorem dX9_closeSection_11 : decode cX9_closeSection 11 = .ok (.aload_n 0, 1) := by decide +kernel
theorem dX9_closeSection_12 : decode cX9_closeSection 12 = .ok (.iconst 3, 1) := by decide +kernel
theorem dX9_closeSection_13 : decode cX9_closeSection 13 = .ok (.aload_n 0, 1) := by decide +kernel
theorem dX9_closeSection_14 : decode cX9_closeSection 14 = .ok (.getfield 51, 3) := by decide +kernel
theorem dX9_closeSection_17 : decode cX9_closeSection 17 = .ok (.invokevirtual 47, 3) := by decide +kernel
theorem dX9_closeSection_20 : decode cX9_closeSection 20 = .ok (.aload_n 0, 1) := by decide +kernel
theorem dX9_closeSection_21 : decode cX9_closeSection 21 = .ok (.getfield 34, 3) := by decide +kernel
theorem dX9_closeSection_24 : decode cX9_closeSection 24 = .ok (.iconst 2, 1) := by decide +kernel
theorem dX9_closeSection_25 : decode cX9_closeSection 25 = .ok (.if_icmp .ne 10, 3) := by decide +kernel
theorem dX9_closeSection_28 : decode cX9_closeSection 28 = .ok (.aload_n 0, 1) := by decide +kernel
theorem dX9_closeSection_29 : decode cX9_closeSection 29 = .ok (.getfield 19, 3) := by decide +kernel
theorem dX9_closeSection_32 : decode cX9_closeSection 32 = .ok (.invokevirtual 170, 3) := by decide +kernel
theorem dX9_closeSection_35 : decode cX9_closeSection 35 = .ok (.aload_n 0, 1) := by decide +kernel
theorem dX9_closeSection_36 : decode cX9_closeSection 36 = .ok (.iconst (-1), 1) := by decide +kernel
theorem dX9_closeSection_37 : decode cX9_closeSection 37 = .ok (.putfield 34, 3) := by decide +kernel
theorem dX9_closeSection_40 : decode cX9_closeSection 40 = .ok (.aload_n 0, 1) := by decide +kernel
theorem dX9_closeSection_41 : decode cX9_closeSection 41 = .ok (.aload_n 0, 1) := by decide +kernel
theorem dX9_closeSection_42 : decode cX9_closeSection 42 = .ok (.getfield 19, 3) := by decide +kernel
theorem dX9_closeSection_45 : decode cX9_closeSection 45 = .ok (.getfield 54, 3) := by decide +kernel
theorem dX9_closeSection_48 : decode cX9_closeSection 48 = .ok (.arraylength, 1) := by decide +kernel
theorem dX9_closeSection_49 : decode cX9_closeSection 49 = .ok (.putfield 60, 3) := by decide +kernel
theorem dX9_closeSection_52 : decode cX9_closeSection 52 = .ok (.return_, 1) := by decide +kernel
noncomputable def fX9_closeSection_b35 (h : pm_H) (x0 : Nat) : Option pm_H := if pm_kd h x0 = 9 then (pm_R (pm_setI h x0 10 (-1)) x0 0).bind fun v14 => if pm_kd (pm_setI h x0 10 (-1)) v14 = 7 then (pm_R (pm_setI h x0 10 (-1)) v14 0).bind fun v17 => if pm_kd (pm_setI h x0 10 (-1)) v17 = 33 then pm_let (Int32.ofNat (pm_ln (pm_setI h x0 10 (-1)) v17)) fun y20 => some (pm_setI (pm_setI h x0 10 (-1)) x0 2 y20) else none else none else none
noncomputable def fX9_closeSection_b20 (h : pm_H) (x0 : Nat) : Option pm_H := if pm_kd h x0 = 9 then if (pm_I h x0 10) = 2 then ((pm_R h x0 0).bind fun v8 => if pm_kd h v8 = 7 then (fX7_shareImports h v8).bind fun v11 => fX9_closeSection_b35 v11 x0 else none) else (fX9_closeSection_b35 h x0) else none
noncomputable def fX9_closeSection_b0 (h : pm_H) (x0 : Nat) : Option pm_H := if pm_kd h x0 = 9 then if (pm_I h x0 2) ≤ (pm_I h x0 1) then (fX9_closeSection_b20 h x0) else ((fX9_fail h x0 3 (pm_I h x0 1)).bind fun v3 => fX9_closeSection_b20 v3 x0) else none
noncomputable def fX9_closeSection (h : pm_H) (a0 : Nat) : Option pm_H := fX9_closeSection_b0 h a0
set_option maxHeartbeats 4000000 in
set_option maxRecDepth 100000 in
theorem moX9_closeSection_b35 {h : pm_H} {x0 : Nat} {r : pm_H} (hf : fX9_closeSection_b35 h x0 = some r) : pm_Le h r := by
  unfold fX9_closeSection_b35 at hf
  have K0 := pm_S3.rf h
  obtain ⟨k13, hf⟩ := pm_if hf
  obtain ⟨v14, e15, hf⟩ := pm_bd hf
  obtain ⟨k16, hf⟩ := pm_if hf
  obtain ⟨v17, e18, hf⟩ := pm_bd hf
  obtain ⟨k19, hf⟩ := pm_if hf
  obtain ⟨y20, e21, hf⟩ := pm_lt hf
  have hf := Option.some.inj hf
  subst hf
  exact pm_S3.le (pm_S3I (pm_S3I K0))
set_option maxHeartbeats 4000000 in
set_option maxRecDepth 100000 in
theorem moX9_closeSection_b20 {h : pm_H} {x0 : Nat} {r : pm_H} (hf : fX9_closeSection_b20 h x0 = some r) : pm_Le h r := by
  unfold fX9_closeSection_b20 at hf
  have K0 := pm_S3.rf h
  obtain ⟨k6, hf⟩ := pm_if hf
  by_cases c7 : (pm_I h x0 10) = 2
  · have hf := pm_it hf c7
    obtain ⟨v8, e9, hf⟩ := pm_bd hf
    obtain ⟨k10, hf⟩ := pm_if hf
    obtain ⟨v11, e12, hf⟩ := pm_bd hf
    exact ((pm_S3.le K0).trans (moX7_shareImports e12)).trans (moX9_closeSection_b35 hf)
  · have hf := pm_ie hf c7
    exact (pm_S3.le K0).trans (moX9_closeSection_b35 hf)
set_option maxHeartbeats 4000000 in
set_option maxRecDepth 100000 in
theorem moX9_closeSection_b0 {h : pm_H} {x0 : Nat} {r : pm_H} (hf : fX9_closeSection_b0 h x0 = some r) : pm_Le h r := by
  unfold fX9_closeSection_b0 at hf
  have K0 := pm_S3.rf h
  obtain ⟨k1, hf⟩ := pm_if hf
  by_cases c2 : (pm_I h x0 2) ≤ (pm_I h x0 1)
  · have hf := pm_it hf c2
    exact (pm_S3.le K0).trans (moX9_closeSection_b20 hf)
  · have hf := pm_ie hf c2
    obtain ⟨v3, e4, hf⟩ := pm_bd hf
    have K5 := pm_S3.trans (kpX9_fail e4) K0
    exact (pm_S3.le K5).trans (moX9_closeSection_b20 hf)
set_option maxHeartbeats 4000000 in
set_option maxRecDepth 100000 in
theorem moX9_closeSection {h : pm_H} {a0 : Nat} {r : pm_H} (hf : fX9_closeSection h a0 = some r) : pm_Le h r := by
  unfold fX9_closeSection at hf
  have K0 := pm_S3.rf h
  exact (pm_S3.le K0).trans (moX9_closeSection_b0 hf)
set_option maxHeartbeats 4000000 in
set_option maxRecDepth 100000 in
theorem bX9_closeSection_35 {g : pm_Gm} {l : Launch} {G : pm_Gl} {Qr : Option Value → pm_H → Prop} (C : pm_C g cX9_closeSection RX9) {h0 h : pm_H} {x0 : Nat} {r : pm_H} (X : pm_X g l G mX9_closeSection (pm_sz r - pm_sz h0) (pm_us r - pm_us h0) Qr) (m0 : pm_Le h0 h) (hf : fX9_closeSection_b35 h x0 = some r) (q : Qr none r) : pm_G g 35 [(0, .ref x0)] [] h (pm_sz h - pm_sz h0) (pm_us h - pm_us h0) := by
  have le0 := moX9_closeSection_b35 hf
  have kc1 := Nat.sub_le_sub_right le0.1 (pm_sz h0)
  have kc2 := Nat.sub_le_sub_right le0.2 (pm_us h0)
  have K0 := pm_S3.rf h
  unfold fX9_closeSection_b35 at hf
  refine pm_aload_n C dX9_closeSection_35 rfl rfl ?_
  refine pm_iconst (v := (-1)) C dX9_closeSection_36 (by decide) ?_
  obtain ⟨k13, hf⟩ := pm_if hf
  refine pm_putI C dX9_closeSection_37 flX9_34 rfl rfl k13 rfl rfl ?_
  refine pm_aload_n C dX9_closeSection_40 rfl rfl ?_
  refine pm_aload_n C dX9_closeSection_41 rfl rfl ?_
  obtain ⟨v14, e15, hf⟩ := pm_bd hf
  refine pm_getR C dX9_closeSection_42 flX9_19 rfl k13 e15 ?_
  obtain ⟨k16, hf⟩ := pm_if hf
  obtain ⟨v17, e18, hf⟩ := pm_bd hf
  refine pm_getR C dX9_closeSection_45 flX9_54 rfl k16 e18 ?_
  obtain ⟨k19, hf⟩ := pm_if hf
  refine pm_alen (t := 1) C dX9_closeSection_48 (by decide) k19 rfl ?_
  obtain ⟨y20, e21, hf⟩ := pm_lt hf
  refine pm_topI e21 ?_
  refine pm_putI C dX9_closeSection_49 flX9_60 rfl rfl k13 rfl rfl ?_
  have hf := Option.some.inj hf
  subst hf
  exact pm_vret C X dX9_closeSection_52 rfl kc1 kc2 q
set_option maxHeartbeats 4000000 in
set_option maxRecDepth 100000 in
theorem bX9_closeSection_20 {g : pm_Gm} {l : Launch} {G : pm_Gl} {Qr : Option Value → pm_H → Prop} (C : pm_C g cX9_closeSection RX9) {h0 h : pm_H} {x0 : Nat} {r : pm_H} (X : pm_X g l G mX9_closeSection (pm_sz r - pm_sz h0) (pm_us r - pm_us h0) Qr) (m0 : pm_Le h0 h) (hf : fX9_closeSection_b20 h x0 = some r) (q : Qr none r) : pm_G g 20 [(0, .ref x0)] [] h (pm_sz h - pm_sz h0) (pm_us h - pm_us h0) := by
  have le0 := moX9_closeSection_b20 hf
  have kc1 := Nat.sub_le_sub_right le0.1 (pm_sz h0)
  have kc2 := Nat.sub_le_sub_right le0.2 (pm_us h0)
  have K0 := pm_S3.rf h
  unfold fX9_closeSection_b20 at hf
  refine pm_aload_n C dX9_closeSection_20 rfl rfl ?_
  obtain ⟨k6, hf⟩ := pm_if hf
  refine pm_getI C dX9_closeSection_21 flX9_34 rfl k6 rfl ?_
  refine pm_iconst (v := 2) C dX9_closeSection_24 (by decide) ?_
  refine pm_icmp_ne (tgt := 35) C dX9_closeSection_25 (by decide) (fun c7 => ?_) (fun c7 => ?_)
  · have hf := pm_ie hf c7
    exact pa_join K0 (pm_sub [0] rfl (bX9_closeSection_35 C X (m0.trans (pm_S3.le K0)) hf q))
  · have hf := pm_it hf c7
    refine pm_aload_n C dX9_closeSection_28 rfl rfl ?_
    obtain ⟨v8, e9, hf⟩ := pm_bd hf
    refine pm_getR C dX9_closeSection_29 flX9_19 rfl k6 e9 ?_
    obtain ⟨k10, hf⟩ := pm_if hf
    obtain ⟨v11, e12, hf⟩ := pm_bd hf
    refine pm_callV (as := []) (st := []) C X dX9_closeSection_32 lnX9_170 myX7_shareImports viX7_shareImports ⟨by decide, by decide⟩ rfl rfl k10 (Nat.le_of_ble_eq_true rfl) (pa_le1 K0 m0 (moX7_shareImports e12) (moX9_closeSection_b35 hf)) (pa_le2 K0 m0 (moX7_shareImports e12) (moX9_closeSection_b35 hf)) (ctX7_shareImports e12 ?_)
    show pm_G g 35 [(0, .ref x0)] [] v11 (pm_sz h - pm_sz h0 + (pm_sz v11 - pm_sz h)) (pm_us h - pm_us h0 + (pm_us v11 - pm_us h))
    refine pa_fin K0 m0 (moX7_shareImports e12) ?_
    exact pm_sub [0] rfl (bX9_closeSection_35 C X ((m0.trans (pm_S3.le K0)).trans (moX7_shareImports e12)) hf q)
set_option maxHeartbeats 4000000 in
set_option maxRecDepth 100000 in
theorem bX9_closeSection_0 {g : pm_Gm} {l : Launch} {G : pm_Gl} {Qr : Option Value → pm_H → Prop} (C : pm_C g cX9_closeSection RX9) {h0 h : pm_H} {x0 : Nat} {r : pm_H} (X : pm_X g l G mX9_closeSection (pm_sz r - pm_sz h0) (pm_us r - pm_us h0) Qr) (m0 : pm_Le h0 h) (hf : fX9_closeSection_b0 h x0 = some r) (q : Qr none r) : pm_G g 0 [(0, .ref x0)] [] h (pm_sz h - pm_sz h0) (pm_us h - pm_us h0) := by
  have le0 := moX9_closeSection_b0 hf
  have kc1 := Nat.sub_le_sub_right le0.1 (pm_sz h0)
  have kc2 := Nat.sub_le_sub_right le0.2 (pm_us h0)
  have K0 := pm_S3.rf h
  unfold fX9_closeSection_b0 at hf
  refine pm_aload_n C dX9_closeSection_0 rfl rfl ?_
  obtain ⟨k1, hf⟩ := pm_if hf
  refine pm_getI C dX9_closeSection_1 flX9_51 rfl k1 rfl ?_
  refine pm_aload_n C dX9_closeSection_4 rfl rfl ?_
  refine pm_getI C dX9_closeSection_5 flX9_60 rfl k1 rfl ?_
  refine pm_icmp_ge (tgt := 20) C dX9_closeSection_8 (by decide) (fun c2 => ?_) (fun c2 => ?_)
  · have hf := pm_it hf c2
    exact pa_join K0 (pm_sub [0] rfl (bX9_closeSection_20 C X (m0.trans (pm_S3.le K0)) hf q))
  · have hf := pm_ie hf c2
    refine pm_aload_n C dX9_closeSection_11 rfl rfl ?_
    refine pm_iconst (v := 3) C dX9_closeSection_12 (by decide) ?_
    refine pm_aload_n C dX9_closeSection_13 rfl rfl ?_
    refine pm_getI C dX9_closeSection_14 flX9_51 rfl k1 rfl ?_
    obtain ⟨v3, e4, hf⟩ := pm_bd hf
    refine pm_callV (as := [.int 3, .int (pm_I h x0 1)]) (st := []) C X dX9_closeSection_17 lnX9_47 myX9_fail viX9_fail ⟨by decide, by decide⟩ rfl rfl k1 (Nat.le_of_ble_eq_true rfl) kc1 kc2 (ctX9_fail e4 ?_)
    have K5 := pm_S3.trans (kpX9_fail e4) K0
    show pm_G g 20 [(0, .ref x0)] [] v3 (pm_sz h - pm_sz h0) (pm_us h - pm_us h0)
    exact pa_join K5 (pm_sub [0] rfl (bX9_closeSection_20 C X (m0.trans (pm_S3.le K5)) hf q))
set_option maxHeartbeats 4000000 in
set_option maxRecDepth 100000 in
theorem ctX9_closeSection {l : Launch} {G : pm_Gl} {h : pm_H} {a0 : Nat} {r : pm_H} {Qr : Option Value → pm_H → Prop} (hf : fX9_closeSection h a0 = some r) (q : Qr none r) : pm_Ct l G mX9_closeSection [.ref a0] h (pm_sz r - pm_sz h) (pm_us r - pm_us h) Qr := by
  refine pm_body pnX9 (Nat.le_of_ble_eq_true rfl) (fun g C X => ?_)
  have C : pm_C g cX9_closeSection RX9 := C
  show pm_G g 0 [(0, .ref a0)] [] h 0 0
  unfold fX9_closeSection at hf
  exact pa_start (pm_sub [0] rfl (bX9_closeSection_0 C X (pm_Le.rf h) hf q))
theorem dX9_init_0 : decode cX9_init 0 = .ok (.aload_n 0, 1) := by decide +kernel
theorem dX9_init_1 : decode cX9_init 1 = .ok (.invokespecial 3, 3) := by decide +kernel
theorem dX9_init_4 : decode cX9_init 4 = .ok (.aload_n 0, 1) := by decide +kernel
theorem dX9_init_5 : decode cX9_init 5 = .ok (.sipush 20481, 3) := by decide +kernel
theorem dX9_init_8 : decode cX9_init 8 = .ok (.newarray .boolean, 2) := by decide +kernel
theorem dX9_init_10 : decode cX9_init 10 = .ok (.putfield 9, 3) := by decide +kernel
theorem dX9_init_13 : decode cX9_init 13 = .ok (.aload_n 0, 1) := by decide +kernel
theorem dX9_init_14 : decode cX9_init 14 = .ok (.bipush 34, 2) := by decide +kernel
theorem dX9_init_16 : decode cX9_init 16 = .ok (.newarray .int, 2) := by decide +kernel
theorem dX9_init_18 : decode cX9_init 18 = .ok (.putfield 15, 3) := by decide +kernel
theorem dX9_init_21 : decode cX9_init 21 = .ok (.aload_n 0, 1) := by decide +kernel
theorem dX9_init_22 : decode cX9_init 22 = .ok (.aload_n 1, 1) := by decide +kernel
theorem dX9_init_23 : decode cX9_init 23 = .ok (.putfield 19, 3) := by decide +kernel
theorem dX9_init_26 : decode cX9_init 26 = .ok (.return_, 1) := by decide +kernel
def fX9_init_b18 (h : pm_H) (x0 : Nat) (x1 : Nat) (s0 : Nat) (s1 : Nat) : Option pm_H := if pm_kd h s1 = 9 then if pm_kd (pm_setR h s1 18 (some s0)) x0 = 9 then some (pm_setR (pm_setR h s1 18 (some s0)) x0 0 (some x1)) else none else none
def fX9_init_b10 (h : pm_H) (x0 : Nat) (x1 : Nat) (s0 : Nat) (s1 : Nat) : Option pm_H := if pm_kd h s1 = 9 then fX9_init_b18 (pm_new (pm_setR h s1 17 (some s0)) 34 34) x0 x1 (pm_sz (pm_setR h s1 17 (some s0))) x0 else none
def fX9_init_b0 (h : pm_H) (x0 : Nat) (x1 : Nat) : Option pm_H := fX9_init_b10 (pm_new h 32 20481) x0 x1 (pm_sz h) x0
def fX9_init (h : pm_H) (a0 : Nat) (p1 : Nat) : Option pm_H := fX9_init_b0 h a0 p1
set_option maxHeartbeats 4000000 in
set_option maxRecDepth 100000 in
theorem moX9_init_b18 {h : pm_H} {x0 : Nat} {x1 : Nat} {s0 : Nat} {s1 : Nat} {r : pm_H} (hf : fX9_init_b18 h x0 x1 s0 s1 = some r) : pm_Le h r := by
  unfold fX9_init_b18 at hf
  have K0 := pm_S3.rf h
  obtain ⟨k2, hf⟩ := pm_if hf
  obtain ⟨k3, hf⟩ := pm_if hf
  have hf := Option.some.inj hf
  subst hf
  exact pm_S3.le (pm_S3R (pm_S3R K0))
set_option maxHeartbeats 4000000 in
set_option maxRecDepth 100000 in
theorem moX9_init_b10 {h : pm_H} {x0 : Nat} {x1 : Nat} {s0 : Nat} {s1 : Nat} {r : pm_H} (hf : fX9_init_b10 h x0 x1 s0 s1 = some r) : pm_Le h r := by
  unfold fX9_init_b10 at hf
  have K0 := pm_S3.rf h
  obtain ⟨k1, hf⟩ := pm_if hf
  exact ((pm_S3.le (pm_S3R K0)).trans (pm_Le_new _ _ _)).trans (moX9_init_b18 hf)
set_option maxHeartbeats 4000000 in
set_option maxRecDepth 100000 in
theorem moX9_init_b0 {h : pm_H} {x0 : Nat} {x1 : Nat} {r : pm_H} (hf : fX9_init_b0 h x0 x1 = some r) : pm_Le h r := by
  unfold fX9_init_b0 at hf
  have K0 := pm_S3.rf h
  exact ((pm_S3.le K0).trans (pm_Le_new _ _ _)).trans (moX9_init_b10 hf)
set_option maxHeartbeats 4000000 in
set_option maxRecDepth 100000 in
theorem moX9_init {h : pm_H} {a0 : Nat} {p1 : Nat} {r : pm_H} (hf : fX9_init h a0 p1 = some r) : pm_Le h r := by
  unfold fX9_init at hf
  have K0 := pm_S3.rf h
  exact (pm_S3.le K0).trans (moX9_init_b0 hf)
set_option maxHeartbeats 4000000 in
set_option maxRecDepth 100000 in
theorem bX9_init_18 {g : pm_Gm} {l : Launch} {G : pm_Gl} {Qr : Option Value → pm_H → Prop} (C : pm_C g cX9_init RX9) {h0 h : pm_H} {x0 : Nat} {x1 : Nat} {s0 : Nat} {s1 : Nat} {r : pm_H} (X : pm_X g l G mX9_init (pm_sz r - pm_sz h0) (pm_us r - pm_us h0) Qr) (m0 : pm_Le h0 h) (hf : fX9_init_b18 h x0 x1 s0 s1 = some r) (q : Qr none r) (nm : g.2.2.2.2.2.2.2.2.1.name = "<init>") : pm_G g 18 [(0, .ref x0), (1, .ref x1)] [.ref s0, .ref s1] h (pm_sz h - pm_sz h0) (pm_us h - pm_us h0) := by
  have le0 := moX9_init_b18 hf
  have kc1 := Nat.sub_le_sub_right le0.1 (pm_sz h0)
  have kc2 := Nat.sub_le_sub_right le0.2 (pm_us h0)
  have K0 := pm_S3.rf h
  unfold fX9_init_b18 at hf
  obtain ⟨k2, hf⟩ := pm_if hf
  refine pm_putRF C dX9_init_18 flX9_15 rfl nm rfl fwX9_15 rfl k2 ?_
  refine pm_aload_n C dX9_init_21 rfl rfl ?_
  refine pm_aload_n C dX9_init_22 rfl rfl ?_
  obtain ⟨k3, hf⟩ := pm_if hf
  refine pm_putR C dX9_init_23 flX9_19 rfl rfl k3 ?_
  have hf := Option.some.inj hf
  subst hf
  exact pm_vret C X dX9_init_26 rfl kc1 kc2 q
set_option maxHeartbeats 4000000 in
set_option maxRecDepth 100000 in
theorem bX9_init_10 {g : pm_Gm} {l : Launch} {G : pm_Gl} {Qr : Option Value → pm_H → Prop} (C : pm_C g cX9_init RX9) {h0 h : pm_H} {x0 : Nat} {x1 : Nat} {s0 : Nat} {s1 : Nat} {r : pm_H} (X : pm_X g l G mX9_init (pm_sz r - pm_sz h0) (pm_us r - pm_us h0) Qr) (m0 : pm_Le h0 h) (hf : fX9_init_b10 h x0 x1 s0 s1 = some r) (q : Qr none r) (nm : g.2.2.2.2.2.2.2.2.1.name = "<init>") : pm_G g 10 [(0, .ref x0), (1, .ref x1)] [.ref s0, .ref s1] h (pm_sz h - pm_sz h0) (pm_us h - pm_us h0) := by
  have le0 := moX9_init_b10 hf
  have kc1 := Nat.sub_le_sub_right le0.1 (pm_sz h0)
  have kc2 := Nat.sub_le_sub_right le0.2 (pm_us h0)
  have K0 := pm_S3.rf h
  unfold fX9_init_b10 at hf
  obtain ⟨k1, hf⟩ := pm_if hf
  refine pm_putRF C dX9_init_10 flX9_9 rfl nm rfl fwX9_9 rfl k1 ?_
  refine pm_aload_n C dX9_init_13 rfl rfl ?_
  refine pm_bipush (v := 34) C dX9_init_14 (by decide) ?_
  refine pa_newa (hb := h) (h0 := h0) (t := 2) (N := 34) C X (pm_S3R K0) m0 dX9_init_16 (by decide) rfl al2 (by decide) (by decide +kernel) (by decide +kernel) (moX9_init_b18 hf) ?_
  exact pm_sub [0, 1] rfl (bX9_init_18 C X ((m0.trans (pm_S3.le (pm_S3R K0))).trans (pm_Le_new _ _ _)) hf q nm)
set_option maxHeartbeats 4000000 in
set_option maxRecDepth 100000 in
theorem bX9_init_0 {g : pm_Gm} {l : Launch} {G : pm_Gl} {Qr : Option Value → pm_H → Prop} (C : pm_C g cX9_init RX9) {h0 h : pm_H} {x0 : Nat} {x1 : Nat} {r : pm_H} (X : pm_X g l G mX9_init (pm_sz r - pm_sz h0) (pm_us r - pm_us h0) Qr) (m0 : pm_Le h0 h) (hf : fX9_init_b0 h x0 x1 = some r) (q : Qr none r) (nm : g.2.2.2.2.2.2.2.2.1.name = "<init>") : pm_G g 0 [(0, .ref x0), (1, .ref x1)] [] h (pm_sz h - pm_sz h0) (pm_us h - pm_us h0) := by
  have le0 := moX9_init_b0 hf
  have kc1 := Nat.sub_le_sub_right le0.1 (pm_sz h0)
  have kc2 := Nat.sub_le_sub_right le0.2 (pm_us h0)
  have K0 := pm_S3.rf h
  unfold fX9_init_b0 at hf
  refine pm_aload_n C dX9_init_0 rfl rfl ?_
  refine pm_obj C X dX9_init_1 obX9_3 obI obC (by decide) (by decide) (Nat.le_of_ble_eq_true rfl) ?_
  refine pm_aload_n C dX9_init_4 rfl rfl ?_
  refine pm_sipush (v := 20481) C dX9_init_5 (by decide) ?_
  refine pa_newa (hb := h) (h0 := h0) (t := 0) (N := 20481) C X K0 m0 dX9_init_8 (by decide) rfl al0 (by decide) (by decide +kernel) (by decide +kernel) (moX9_init_b10 hf) ?_
  exact pm_sub [0, 1] rfl (bX9_init_10 C X ((m0.trans (pm_S3.le K0)).trans (pm_Le_new _ _ _)) hf q nm)
set_option maxHeartbeats 4000000 in
set_option maxRecDepth 100000 in
theorem ctX9_init {l : Launch} {G : pm_Gl} {h : pm_H} {a0 : Nat} {p1 : Nat} {r : pm_H} {Qr : Option Value → pm_H → Prop} (hf : fX9_init h a0 p1 = some r) (q : Qr none r) : pm_Ct l G mX9_init [.ref a0, .ref p1] h (pm_sz r - pm_sz h) (pm_us r - pm_us h) Qr := by
  refine pm_bodyN pnX9 (Nat.le_of_ble_eq_true rfl) (fun g C X nm => ?_)
  have C : pm_C g cX9_init RX9 := C
  show pm_G g 0 [(0, .ref a0), (1, .ref p1)] [] h 0 0
  unfold fX9_init at hf
  exact pa_start (pm_sub [0, 1] rfl (bX9_init_0 C X (pm_Le.rf h) hf q nm))
