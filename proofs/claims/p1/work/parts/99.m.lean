theorem dX10_refusal_0 : decode cX10_refusal 0 = .ok (.iload_n 3, 1) := by decide +kernel
theorem dX10_refusal_1 : decode cX10_refusal 1 = .ok (.aload_n 1, 1) := by decide +kernel
theorem dX10_refusal_2 : decode cX10_refusal 2 = .ok (.getfield 99, 3) := by decide +kernel
theorem dX10_refusal_5 : decode cX10_refusal 5 = .ok (.arraylength, 1) := by decide +kernel
theorem dX10_refusal_6 : decode cX10_refusal 6 = .ok (.bipush 6, 2) := by decide +kernel
theorem dX10_refusal_8 : decode cX10_refusal 8 = .ok (.idiv, 1) := by decide +kernel
theorem dX10_refusal_9 : decode cX10_refusal 9 = .ok (.if_icmp .eq 6, 3) := by decide +kernel
theorem dX10_refusal_12 : decode cX10_refusal 12 = .ok (.bipush (-2), 2) := by decide +kernel
theorem dX10_refusal_14 : decode cX10_refusal 14 = .ok (.ireturn, 1) := by decide +kernel
theorem dX10_refusal_15 : decode cX10_refusal 15 = .ok (.iconst 0, 1) := by decide +kernel
theorem dX10_refusal_16 : decode cX10_refusal 16 = .ok (.istore 4, 2) := by decide +kernel
theorem dX10_refusal_18 : decode cX10_refusal 18 = .ok (.iload 4, 2) := by decide +kernel
theorem dX10_refusal_20 : decode cX10_refusal 20 = .ok (.iload_n 3, 1) := by decide +kernel
theorem dX10_refusal_21 : decode cX10_refusal 21 = .ok (.if_icmp .ge 59, 3) := by decide +kernel
theorem dX10_refusal_24 : decode cX10_refusal 24 = .ok (.aload_n 0, 1) := by decide +kernel
theorem dX10_refusal_25 : decode cX10_refusal 25 = .ok (.aload_n 1, 1) := by decide +kernel
theorem dX10_refusal_26 : decode cX10_refusal 26 = .ok (.iload 4, 2) := by decide +kernel
theorem dX10_refusal_28 : decode cX10_refusal 28 = .ok (.bipush 6, 2) := by decide +kernel
theorem dX10_refusal_30 : decode cX10_refusal 30 = .ok (.imul, 1) := by decide +kernel
theorem dX10_refusal_31 : decode cX10_refusal 31 = .ok (.aload_n 2, 1) := by decide +kernel
theorem dX10_refusal_32 : decode cX10_refusal 32 = .ok (.iconst 2, 1) := by decide +kernel
theorem dX10_refusal_33 : decode cX10_refusal 33 = .ok (.iload 4, 2) := by decide +kernel
theorem dX10_refusal_35 : decode cX10_refusal 35 = .ok (.imul, 1) := by decide +kernel
theorem dX10_refusal_36 : decode cX10_refusal 36 = .ok (.invokestatic 104, 3) := by decide +kernel
theorem dX10_refusal_39 : decode cX10_refusal 39 = .ok (.aload_n 2, 1) := by decide +kernel
theorem dX10_refusal_40 : decode cX10_refusal 40 = .ok (.iconst 2, 1) := by decide +kernel
theorem dX10_refusal_41 : decode cX10_refusal 41 = .ok (.iload 4, 2) := by decide +kernel
theorem dX10_refusal_43 : decode cX10_refusal 43 = .ok (.imul, 1) := by decide +kernel
theorem dX10_refusal_44 : decode cX10_refusal 44 = .ok (.iconst 1, 1) := by decide +kernel
theorem dX10_refusal_45 : decode cX10_refusal 45 = .ok (.iadd, 1) := by decide +kernel
theorem dX10_refusal_46 : decode cX10_refusal 46 = .ok (.invokestatic 104, 3) := by decide +kernel
theorem dX10_refusal_49 : decode cX10_refusal 49 = .ok (.invokevirtual 108, 3) := by decide +kernel
theorem dX10_refusal_52 : decode cX10_refusal 52 = .ok (.ifCond .ne 22, 3) := by decide +kernel
theorem dX10_refusal_55 : decode cX10_refusal 55 = .ok (.bipush (-3), 2) := by decide +kernel
theorem dX10_refusal_57 : decode cX10_refusal 57 = .ok (.aload_n 1, 1) := by decide +kernel
theorem dX10_refusal_58 : decode cX10_refusal 58 = .ok (.getfield 99, 3) := by decide +kernel
theorem dX10_refusal_61 : decode cX10_refusal 61 = .ok (.iload 4, 2) := by decide +kernel
theorem dX10_refusal_63 : decode cX10_refusal 63 = .ok (.bipush 6, 2) := by decide +kernel
theorem dX10_refusal_65 : decode cX10_refusal 65 = .ok (.imul, 1) := by decide +kernel
theorem dX10_refusal_66 : decode cX10_refusal 66 = .ok (.iconst 0, 1) := by decide +kernel
theorem dX10_refusal_67 : decode cX10_refusal 67 = .ok (.iadd, 1) := by decide +kernel
theorem dX10_refusal_68 : decode cX10_refusal 68 = .ok (.invokestatic 112, 3) := by decide +kernel
theorem dX10_refusal_71 : decode cX10_refusal 71 = .ok (.l2i, 1) := by decide +kernel
theorem dX10_refusal_72 : decode cX10_refusal 72 = .ok (.isub, 1) := by decide +kernel
theorem dX10_refusal_73 : decode cX10_refusal 73 = .ok (.ireturn, 1) := by decide +kernel
theorem dX10_refusal_74 : decode cX10_refusal 74 = .ok (.iinc 4 1, 3) := by decide +kernel
theorem dX10_refusal_77 : decode cX10_refusal 77 = .ok (.goto (-59), 3) := by decide +kernel
theorem dX10_refusal_80 : decode cX10_refusal 80 = .ok (.aload_n 0, 1) := by decide +kernel
theorem dX10_refusal_81 : decode cX10_refusal 81 = .ok (.aload_n 1, 1) := by decide +kernel
theorem dX10_refusal_82 : decode cX10_refusal 82 = .ok (.aload_n 2, 1) := by decide +kernel
theorem dX10_refusal_83 : decode cX10_refusal 83 = .ok (.iload_n 3, 1) := by decide +kernel
theorem dX10_refusal_84 : decode cX10_refusal 84 = .ok (.invokevirtual 115, 3) := by decide +kernel
theorem dX10_refusal_87 : decode cX10_refusal 87 = .ok (.ifCond .eq 7, 3) := by decide +kernel
theorem dX10_refusal_90 : decode cX10_refusal 90 = .ok (.iconst 0, 1) := by decide +kernel
theorem dX10_refusal_91 : decode cX10_refusal 91 = .ok (.goto 5, 3) := by decide +kernel
theorem dX10_refusal_94 : decode cX10_refusal 94 = .ok (.bipush (-9), 2) := by decide +kernel
theorem dX10_refusal_96 : decode cX10_refusal 96 = .ok (.ireturn, 1) := by decide +kernel
noncomputable def tX10_refusal_0 (x0 : Nat) (x1 : Nat) (x2 : Nat) (x3 : Int32) (h : pm_H) : Option (((Nat × Nat × Nat × Int32 × pm_H) ⊕ (Nat × Nat × Nat × Int32 × Int32 × pm_H) ⊕ (Nat × Nat × Nat × Int32 × Int32 × Int32 × pm_H)) ⊕ (Int32 × pm_H)) := if pm_kd h x1 = 7 then (pm_R h x1 3).bind fun v2 => if pm_kd h v2 = 35 then if x3 = ((Int32.ofNat (pm_ln h v2)) / 6) then (some (.inl (.inr (.inl ((x0, x1, x2, x3, 0, h)))))) else (some (.inr (((-2), h)))) else none else none
noncomputable def tX10_refusal_18 (x0 : Nat) (x1 : Nat) (x2 : Nat) (x3 : Int32) (x4 : Int32) (h : pm_H) : Option (((Nat × Nat × Nat × Int32 × pm_H) ⊕ (Nat × Nat × Nat × Int32 × Int32 × pm_H) ⊕ (Nat × Nat × Nat × Int32 × Int32 × Int32 × pm_H)) ⊕ (Int32 × pm_H)) := if x3 ≤ x4 then (if pm_kd h x0 = 10 then (fX10_hasRoom h x0 x1 x2 x3).bind fun v8 => if v8 = 0 then (some (.inr (((-9), h)))) else (some (.inr ((0, h)))) else none) else ((fX12_item h x2 (2 * x4)).bind fun v11 => (fX12_item h x2 ((2 * x4) + 1)).bind fun v13 => if pm_kd h x0 = 10 then (fX10_fits h x0 x1 (x4 * 6) v11 v13).bind fun v16 => some (.inl (.inr (.inr ((x0, x1, x2, x3, x4, v16.1, v16.2))))) else none)
noncomputable def tX10_refusal_52 (x0 : Nat) (x1 : Nat) (x2 : Nat) (x3 : Int32) (x4 : Int32) (s0 : Int32) (h : pm_H) : Option (((Nat × Nat × Nat × Int32 × pm_H) ⊕ (Nat × Nat × Nat × Int32 × Int32 × pm_H) ⊕ (Nat × Nat × Nat × Int32 × Int32 × Int32 × pm_H)) ⊕ (Int32 × pm_H)) := if s0 = 0 then (if pm_kd h x1 = 7 then (pm_R h x1 3).bind fun v22 => (fX12_item_ h v22 ((x4 * 6) + 0)).bind fun v24 => some (.inr (((-3) - v24.toInt32, h))) else none) else (pm_let (x4 + 1) fun y19 => some (.inl (.inr (.inl ((x0, x1, x2, x3, y19, h))))))
noncomputable def sX10_refusal : ((Nat × Nat × Nat × Int32 × pm_H) ⊕ (Nat × Nat × Nat × Int32 × Int32 × pm_H) ⊕ (Nat × Nat × Nat × Int32 × Int32 × Int32 × pm_H)) → Option (((Nat × Nat × Nat × Int32 × pm_H) ⊕ (Nat × Nat × Nat × Int32 × Int32 × pm_H) ⊕ (Nat × Nat × Nat × Int32 × Int32 × Int32 × pm_H)) ⊕ (Int32 × pm_H)) := fun z => match z with
  | .inl (x0, x1, x2, x3, h) => tX10_refusal_0 x0 x1 x2 x3 h
  | .inr (.inl (x0, x1, x2, x3, x4, h)) => tX10_refusal_18 x0 x1 x2 x3 x4 h
  | .inr (.inr (x0, x1, x2, x3, x4, s0, h)) => tX10_refusal_52 x0 x1 x2 x3 x4 s0 h
noncomputable def fX10_refusal (h : pm_H) (a0 : Nat) (p1 : Nat) (p2 : Nat) (p3 : Int32) : Option (Int32 × pm_H) := pm_lim sX10_refusal (.inl ((a0, p1, p2, p3, h)))
set_option maxHeartbeats 4000000 in
set_option maxRecDepth 100000 in
theorem mlX10_refusal {r : (Int32 × pm_H)} : ∀ n : Nat, (∀ (x0 : Nat) (x1 : Nat) (x2 : Nat) (x3 : Int32) (h : pm_H), pm_iter sX10_refusal n (.inl (x0, x1, x2, x3, h)) = some r → pm_Le h r.2) ∧ (∀ (x0 : Nat) (x1 : Nat) (x2 : Nat) (x3 : Int32) (x4 : Int32) (h : pm_H), pm_iter sX10_refusal n (.inr (.inl (x0, x1, x2, x3, x4, h))) = some r → pm_Le h r.2) ∧ (∀ (x0 : Nat) (x1 : Nat) (x2 : Nat) (x3 : Int32) (x4 : Int32) (s0 : Int32) (h : pm_H), pm_iter sX10_refusal n (.inr (.inr (x0, x1, x2, x3, x4, s0, h))) = some r → pm_Le h r.2) := by
  intro n
  induction n with
  | zero => exact ⟨fun _ _ _ _ _ hf => (by cases hf), fun _ _ _ _ _ _ hf => (by cases hf), fun _ _ _ _ _ _ _ hf => (by cases hf)⟩
  | succ n ih =>
    refine ⟨fun x0 x1 x2 x3 h hf => ?_, ?_⟩
    · obtain ⟨y, hf, hi⟩ := pm_iter_s hf
      have hf : tX10_refusal_0 x0 x1 x2 x3 h = some y := hf
      unfold tX10_refusal_0 at hf
      have K0 := pm_S3.rf h
      obtain ⟨k1, hf⟩ := pm_if hf
      obtain ⟨v2, e3, hf⟩ := pm_bd hf
      obtain ⟨k4, hf⟩ := pm_if hf
      by_cases c5 : x3 = ((Int32.ofNat (pm_ln h v2)) / 6)
      · have hf := pm_it hf c5
        cases hf
        exact (pm_S3.le K0).trans (ih.2.1 x0 x1 x2 x3 0 h hi)
      · have hf := pm_ie hf c5
        have hf := Option.some.inj hf
        subst hf
        have hi := Option.some.inj (show some _ = some r from hi)
        subst hi
        exact pm_S3.le K0
    refine ⟨fun x0 x1 x2 x3 x4 h hf => ?_, ?_⟩
    · obtain ⟨y, hf, hi⟩ := pm_iter_s hf
      have hf : tX10_refusal_18 x0 x1 x2 x3 x4 h = some y := hf
      unfold tX10_refusal_18 at hf
      have K0 := pm_S3.rf h
      by_cases c6 : x3 ≤ x4
      · have hf := pm_it hf c6
        obtain ⟨k7, hf⟩ := pm_if hf
        obtain ⟨v8, e9, hf⟩ := pm_bd hf
        by_cases c10 : v8 = 0
        · have hf := pm_it hf c10
          have hf := Option.some.inj hf
          subst hf
          have hi := Option.some.inj (show some _ = some r from hi)
          subst hi
          exact pm_S3.le K0
        · have hf := pm_ie hf c10
          have hf := Option.some.inj hf
          subst hf
          have hi := Option.some.inj (show some _ = some r from hi)
          subst hi
          exact pm_S3.le K0
      · have hf := pm_ie hf c6
        obtain ⟨v11, e12, hf⟩ := pm_bd hf
        obtain ⟨v13, e14, hf⟩ := pm_bd hf
        obtain ⟨k15, hf⟩ := pm_if hf
        obtain ⟨v16, e17, hf⟩ := pm_bd hf
        cases hf
        exact ((pm_S3.le K0).trans (moX10_fits e17)).trans (ih.2.2 x0 x1 x2 x3 x4 v16.1 v16.2 hi)
    refine fun x0 x1 x2 x3 x4 s0 h hf => ?_
    obtain ⟨y, hf, hi⟩ := pm_iter_s hf
    have hf : tX10_refusal_52 x0 x1 x2 x3 x4 s0 h = some y := hf
    unfold tX10_refusal_52 at hf
    have K0 := pm_S3.rf h
    by_cases c18 : s0 = 0
    · have hf := pm_it hf c18
      obtain ⟨k19, hf⟩ := pm_if hf
      obtain ⟨v20, e21, hf⟩ := pm_bd hf
      obtain ⟨v22, e23, hf⟩ := pm_bd hf
      have hf := Option.some.inj hf
      subst hf
      have hi := Option.some.inj (show some _ = some r from hi)
      subst hi
      exact pm_S3.le K0
    · have hf := pm_ie hf c18
      obtain ⟨y24, e25, hf⟩ := pm_lt hf
      cases hf
      exact (pm_S3.le K0).trans (ih.2.1 x0 x1 x2 x3 y24 h hi)
set_option maxHeartbeats 4000000 in
set_option maxRecDepth 100000 in
theorem moX10_refusal {h : pm_H} {a0 : Nat} {p1 : Nat} {p2 : Nat} {p3 : Int32} {r : (Int32 × pm_H)} (hf : fX10_refusal h a0 p1 p2 p3 = some r) : pm_Le h r.2 := by
  unfold fX10_refusal at hf
  have K0 := pm_S3.rf h
  obtain ⟨n, hn⟩ := pm_lim_iter hf
  exact (mlX10_refusal n).1 a0 p1 p2 p3 h hn
set_option maxHeartbeats 4000000 in
set_option maxRecDepth 100000 in
theorem lpX10_refusal {g : pm_Gm} {l : Launch} {G : pm_Gl} {Qr : Option Value → pm_H → Prop} (C : pm_C g cX10_refusal RX10) {h0 : pm_H} {r : (Int32 × pm_H)} (X : pm_X g l G mX10_refusal (pm_sz r.2 - pm_sz h0) (pm_us r.2 - pm_us h0) Qr) (q : Qr (some (.int r.1)) r.2) : ∀ n : Nat, (∀ (x0 : Nat) (x1 : Nat) (x2 : Nat) (x3 : Int32) (h : pm_H), pm_Le h0 h → pm_iter sX10_refusal n (.inl (x0, x1, x2, x3, h)) = some r → pm_G g 0 [(0, .ref x0), (1, .ref x1), (2, .ref x2), (3, .int x3)] [] h (pm_sz h - pm_sz h0) (pm_us h - pm_us h0)) ∧ (∀ (x0 : Nat) (x1 : Nat) (x2 : Nat) (x3 : Int32) (x4 : Int32) (h : pm_H), pm_Le h0 h → pm_iter sX10_refusal n (.inr (.inl (x0, x1, x2, x3, x4, h))) = some r → pm_G g 18 [(0, .ref x0), (1, .ref x1), (2, .ref x2), (3, .int x3), (4, .int x4)] [] h (pm_sz h - pm_sz h0) (pm_us h - pm_us h0)) ∧ (∀ (x0 : Nat) (x1 : Nat) (x2 : Nat) (x3 : Int32) (x4 : Int32) (s0 : Int32) (h : pm_H), pm_Le h0 h → pm_iter sX10_refusal n (.inr (.inr (x0, x1, x2, x3, x4, s0, h))) = some r → pm_G g 52 [(0, .ref x0), (1, .ref x1), (2, .ref x2), (3, .int x3), (4, .int x4)] [.int s0] h (pm_sz h - pm_sz h0) (pm_us h - pm_us h0)) := by
  intro n
  induction n with
  | zero => exact ⟨fun _ _ _ _ _ _ hf => (by cases hf), fun _ _ _ _ _ _ _ hf => (by cases hf), fun _ _ _ _ _ _ _ _ hf => (by cases hf)⟩
  | succ n ih =>
    refine ⟨fun x0 x1 x2 x3 h m0 hf => ?_, ?_⟩
    · have le0 := (mlX10_refusal (n + 1)).1 x0 x1 x2 x3 h hf
      have kc1 := Nat.sub_le_sub_right le0.1 (pm_sz h0)
      have kc2 := Nat.sub_le_sub_right le0.2 (pm_us h0)
      have K0 := pm_S3.rf h
      obtain ⟨y, hf, hi⟩ := pm_iter_s hf
      have hf : tX10_refusal_0 x0 x1 x2 x3 h = some y := hf
      unfold tX10_refusal_0 at hf
      refine pm_iload_n C dX10_refusal_0 rfl rfl ?_
      refine pm_aload_n C dX10_refusal_1 rfl rfl ?_
      obtain ⟨k1, hf⟩ := pm_if hf
      obtain ⟨v2, e3, hf⟩ := pm_bd hf
      refine pm_getR C dX10_refusal_2 flX10_99 rfl k1 e3 ?_
      obtain ⟨k4, hf⟩ := pm_if hf
      refine pm_alen (t := 3) C dX10_refusal_5 (by decide) k4 rfl ?_
      refine pm_bipush (v := 6) C dX10_refusal_6 (by decide) ?_
      refine pm_idiv C dX10_refusal_8 (by decide) ?_
      refine pm_icmp_eq (tgt := 15) C dX10_refusal_9 (by decide) (fun c5 => ?_) (fun c5 => ?_)
      · have hf := pm_it hf c5
        refine pm_iconst (v := 0) C dX10_refusal_15 (by decide) ?_
        refine pm_istore (lv' := [(4, .int 0), (0, .ref x0), (1, .ref x1), (2, .ref x2), (3, .int x3)]) C dX10_refusal_16 (pm_nl X (by decide)) rfl ?_
        cases hf
        exact pa_join K0 (pm_sub [1, 2, 3, 4, 0] rfl (ih.2.1 x0 x1 x2 x3 0 h (m0.trans (pm_S3.le K0)) hi))
      · have hf := pm_ie hf c5
        refine pm_bipush (v := (-2)) C dX10_refusal_12 (by decide) ?_
        have hf := Option.some.inj hf
        subst hf
        have hi := Option.some.inj (show some _ = some r from hi)
        subst hi
        exact pm_iret C X dX10_refusal_14 rfl kc1 kc2 q
    refine ⟨fun x0 x1 x2 x3 x4 h m0 hf => ?_, ?_⟩
    · have le0 := (mlX10_refusal (n + 1)).2.1 x0 x1 x2 x3 x4 h hf
      have kc1 := Nat.sub_le_sub_right le0.1 (pm_sz h0)
      have kc2 := Nat.sub_le_sub_right le0.2 (pm_us h0)
      have K0 := pm_S3.rf h
      obtain ⟨y, hf, hi⟩ := pm_iter_s hf
      have hf : tX10_refusal_18 x0 x1 x2 x3 x4 h = some y := hf
      unfold tX10_refusal_18 at hf
      refine pm_iload C dX10_refusal_18 rfl ?_
      refine pm_iload_n C dX10_refusal_20 rfl rfl ?_
      refine pm_icmp_ge (tgt := 80) C dX10_refusal_21 (by decide) (fun c6 => ?_) (fun c6 => ?_)
      · have hf := pm_it hf c6
        refine pm_aload_n C dX10_refusal_80 rfl rfl ?_
        refine pm_aload_n C dX10_refusal_81 rfl rfl ?_
        refine pm_aload_n C dX10_refusal_82 rfl rfl ?_
        refine pm_iload_n C dX10_refusal_83 rfl rfl ?_
        obtain ⟨k7, hf⟩ := pm_if hf
        obtain ⟨v8, e9, hf⟩ := pm_bd hf
        refine pm_callV (as := [.ref x1, .ref x2, .int x3]) (st := []) C X dX10_refusal_84 lnX10_115 myX10_hasRoom viX10_hasRoom ⟨by decide, by decide⟩ rfl rfl k7 (Nat.le_of_ble_eq_true rfl) kc1 kc2 (ctX10_hasRoom e9 ?_)
        show pm_G g 87 [(0, .ref x0), (1, .ref x1), (2, .ref x2), (3, .int x3), (4, .int x4)] [.int v8] h (pm_sz h - pm_sz h0) (pm_us h - pm_us h0)
        refine pm_if_eq (tgt := 94) C dX10_refusal_87 (by decide) (fun c10 => ?_) (fun c10 => ?_)
        · have hf := pm_it hf c10
          refine pm_bipush (v := (-9)) C dX10_refusal_94 (by decide) ?_
          have hf := Option.some.inj hf
          subst hf
          have hi := Option.some.inj (show some _ = some r from hi)
          subst hi
          exact pm_iret C X dX10_refusal_96 rfl kc1 kc2 q
        · have hf := pm_ie hf c10
          refine pm_iconst (v := 0) C dX10_refusal_90 (by decide) ?_
          refine pm_goto (tgt := 96) C dX10_refusal_91 (by decide) ?_
          have hf := Option.some.inj hf
          subst hf
          have hi := Option.some.inj (show some _ = some r from hi)
          subst hi
          exact pm_iret C X dX10_refusal_96 rfl kc1 kc2 q
      · have hf := pm_ie hf c6
        refine pm_aload_n C dX10_refusal_24 rfl rfl ?_
        refine pm_aload_n C dX10_refusal_25 rfl rfl ?_
        refine pm_iload C dX10_refusal_26 rfl ?_
        refine pm_bipush (v := 6) C dX10_refusal_28 (by decide) ?_
        refine pm_imul C dX10_refusal_30 ?_
        refine pm_aload_n C dX10_refusal_31 rfl rfl ?_
        refine pm_iconst (v := 2) C dX10_refusal_32 (by decide) ?_
        refine pm_iload C dX10_refusal_33 rfl ?_
        refine pm_imul C dX10_refusal_35 ?_
        obtain ⟨v11, e12, hf⟩ := pm_bd hf
        refine pm_callS (as := [.ref x2, .int (2 * x4)]) (st := [.int (x4 * 6), .ref x1, .ref x0]) C X dX10_refusal_36 lnX10_104 myX12_item stX12_item ⟨by decide, by decide⟩ rfl rfl (Nat.le_of_ble_eq_true rfl) kc1 kc2 (ctX12_item e12 ?_)
        show pm_G g 39 [(0, .ref x0), (1, .ref x1), (2, .ref x2), (3, .int x3), (4, .int x4)] [.int v11, .int (x4 * 6), .ref x1, .ref x0] h (pm_sz h - pm_sz h0) (pm_us h - pm_us h0)
        refine pm_aload_n C dX10_refusal_39 rfl rfl ?_
        refine pm_iconst (v := 2) C dX10_refusal_40 (by decide) ?_
        refine pm_iload C dX10_refusal_41 rfl ?_
        refine pm_imul C dX10_refusal_43 ?_
        refine pm_iconst (v := 1) C dX10_refusal_44 (by decide) ?_
        refine pm_iadd C dX10_refusal_45 ?_
        obtain ⟨v13, e14, hf⟩ := pm_bd hf
        refine pm_callS (as := [.ref x2, .int ((2 * x4) + 1)]) (st := [.int v11, .int (x4 * 6), .ref x1, .ref x0]) C X dX10_refusal_46 lnX10_104 myX12_item stX12_item ⟨by decide, by decide⟩ rfl rfl (Nat.le_of_ble_eq_true rfl) kc1 kc2 (ctX12_item e14 ?_)
        show pm_G g 49 [(0, .ref x0), (1, .ref x1), (2, .ref x2), (3, .int x3), (4, .int x4)] [.int v13, .int v11, .int (x4 * 6), .ref x1, .ref x0] h (pm_sz h - pm_sz h0) (pm_us h - pm_us h0)
        obtain ⟨k15, hf⟩ := pm_if hf
        obtain ⟨v16, e17, hf⟩ := pm_bd hf
        cases hf
        refine pm_callV (as := [.ref x1, .int (x4 * 6), .int v11, .int v13]) (st := []) C X dX10_refusal_49 lnX10_108 myX10_fits viX10_fits ⟨by decide, by decide⟩ rfl rfl k15 (Nat.le_of_ble_eq_true rfl) (pa_le1 K0 m0 (moX10_fits e17) ((mlX10_refusal n).2.2 x0 x1 x2 x3 x4 v16.1 v16.2 hi)) (pa_le2 K0 m0 (moX10_fits e17) ((mlX10_refusal n).2.2 x0 x1 x2 x3 x4 v16.1 v16.2 hi)) (ctX10_fits e17 ?_)
        show pm_G g 52 [(0, .ref x0), (1, .ref x1), (2, .ref x2), (3, .int x3), (4, .int x4)] [.int v16.1] v16.2 (pm_sz h - pm_sz h0 + (pm_sz v16.2 - pm_sz h)) (pm_us h - pm_us h0 + (pm_us v16.2 - pm_us h))
        refine pa_fin K0 m0 (moX10_fits e17) ?_
        exact pm_sub [0, 1, 2, 3, 4] rfl (ih.2.2 x0 x1 x2 x3 x4 v16.1 v16.2 ((m0.trans (pm_S3.le K0)).trans (moX10_fits e17)) hi)
    refine fun x0 x1 x2 x3 x4 s0 h m0 hf => ?_
    have le0 := (mlX10_refusal (n + 1)).2.2 x0 x1 x2 x3 x4 s0 h hf
    have kc1 := Nat.sub_le_sub_right le0.1 (pm_sz h0)
    have kc2 := Nat.sub_le_sub_right le0.2 (pm_us h0)
    have K0 := pm_S3.rf h
    obtain ⟨y, hf, hi⟩ := pm_iter_s hf
    have hf : tX10_refusal_52 x0 x1 x2 x3 x4 s0 h = some y := hf
    unfold tX10_refusal_52 at hf
    refine pm_if_ne (tgt := 74) C dX10_refusal_52 (by decide) (fun c18 => ?_) (fun c18 => ?_)
    · have hf := pm_ie hf c18
      obtain ⟨y19, e20, hf⟩ := pm_lt hf
      refine pm_iinc (v := y19) (lv' := [(4, .int y19), (0, .ref x0), (1, .ref x1), (2, .ref x2), (3, .int x3)]) C dX10_refusal_74 rfl ((congrArg (x4 + ·) (by decide : Int32.ofInt 1 = 1)).trans e20) (pm_nl X (by decide)) rfl ?_
      refine pm_goto (tgt := 18) C dX10_refusal_77 (by decide) ?_
      cases hf
      exact pa_join K0 (pm_sub [1, 2, 3, 4, 0] rfl (ih.2.1 x0 x1 x2 x3 y19 h (m0.trans (pm_S3.le K0)) hi))
    · have hf := pm_it hf c18
      refine pm_bipush (v := (-3)) C dX10_refusal_55 (by decide) ?_
      refine pm_aload_n C dX10_refusal_57 rfl rfl ?_
      obtain ⟨k21, hf⟩ := pm_if hf
      obtain ⟨v22, e23, hf⟩ := pm_bd hf
      refine pm_getR C dX10_refusal_58 flX10_99 rfl k21 e23 ?_
      refine pm_iload C dX10_refusal_61 rfl ?_
      refine pm_bipush (v := 6) C dX10_refusal_63 (by decide) ?_
      refine pm_imul C dX10_refusal_65 ?_
      refine pm_iconst (v := 0) C dX10_refusal_66 (by decide) ?_
      refine pm_iadd C dX10_refusal_67 ?_
      obtain ⟨v24, e25, hf⟩ := pm_bd hf
      refine pm_callS (as := [.ref v22, .int ((x4 * 6) + 0)]) (st := [.int (-3)]) C X dX10_refusal_68 lnX10_112 myX12_item_ stX12_item_ ⟨by decide, by decide⟩ rfl rfl (Nat.le_of_ble_eq_true rfl) kc1 kc2 (ctX12_item_ e25 ?_)
      show pm_G g 71 [(0, .ref x0), (1, .ref x1), (2, .ref x2), (3, .int x3), (4, .int x4)] [.long v24, .int (-3)] h (pm_sz h - pm_sz h0) (pm_us h - pm_us h0)
      refine pm_l2i C dX10_refusal_71 ?_
      refine pm_isub C dX10_refusal_72 ?_
      have hf := Option.some.inj hf
      subst hf
      have hi := Option.some.inj (show some _ = some r from hi)
      subst hi
      exact pm_iret C X dX10_refusal_73 rfl kc1 kc2 q
set_option maxHeartbeats 4000000 in
set_option maxRecDepth 100000 in
theorem ctX10_refusal {l : Launch} {G : pm_Gl} {h : pm_H} {a0 : Nat} {p1 : Nat} {p2 : Nat} {p3 : Int32} {r : (Int32 × pm_H)} {Qr : Option Value → pm_H → Prop} (hf : fX10_refusal h a0 p1 p2 p3 = some r) (q : Qr (some (.int r.1)) r.2) : pm_Ct l G mX10_refusal [.ref a0, .ref p1, .ref p2, .int p3] h (pm_sz r.2 - pm_sz h) (pm_us r.2 - pm_us h) Qr := by
  refine pm_body pnX10 (Nat.le_of_ble_eq_true rfl) (fun g C X => ?_)
  have C : pm_C g cX10_refusal RX10 := C
  show pm_G g 0 [(0, .ref a0), (1, .ref p1), (2, .ref p2), (3, .int p3)] [] h 0 0
  unfold fX10_refusal at hf
  obtain ⟨n, hn⟩ := pm_lim_iter hf
  exact pa_start (pm_sub [0, 1, 2, 3] rfl ((lpX10_refusal C X q n).1 a0 p1 p2 p3 h (pm_Le.rf h) hn))
theorem dX14_begin_0 : decode cX14_begin 0 = .ok (.aload_n 0, 1) := by decide +kernel
theorem dX14_begin_1 : decode cX14_begin 1 = .ok (.iload_n 1, 1) := by decide +kernel
theorem dX14_begin_2 : decode cX14_begin 2 = .ok (.putfield 144, 3) := by decide +kernel
theorem dX14_begin_5 : decode cX14_begin 5 = .ok (.aload_n 0, 1) := by decide +kernel
theorem dX14_begin_6 : decode cX14_begin 6 = .ok (.iload_n 1, 1) := by decide +kernel
theorem dX14_begin_7 : decode cX14_begin 7 = .ok (.newarray .byte, 2) := by decide +kernel
theorem dX14_begin_9 : decode cX14_begin 9 = .ok (.putfield 147, 3) := by decide +kernel
theorem dX14_begin_12 : decode cX14_begin 12 = .ok (.aload_n 0, 1) := by decide +kernel
theorem dX14_begin_13 : decode cX14_begin 13 = .ok (.iload_n 1, 1) := by decide +kernel
theorem dX14_begin_14 : decode cX14_begin 14 = .ok (.newarray .int, 2) := by decide +kernel
theorem dX14_begin_16 : decode cX14_begin 16 = .ok (.putfield 151, 3) := by decide +kernel
theorem dX14_begin_19 : decode cX14_begin 19 = .ok (.aload_n 0, 1) := by decide +kernel
theorem dX14_begin_20 : decode cX14_begin 20 = .ok (.iload_n 1, 1) := by decide +kernel
theorem dX14_begin_21 : decode cX14_begin 21 = .ok (.newarray .int, 2) := by decide +kernel
theorem dX14_begin_23 : decode cX14_begin 23 = .ok (.putfield 154, 3) := by decide +kernel
theorem dX14_begin_26 : decode cX14_begin 26 = .ok (.iconst 0, 1) := by decide +kernel
theorem dX14_begin_27 : decode cX14_begin 27 = .ok (.istore_n 2, 1) := by decide +kernel
theorem dX14_begin_28 : decode cX14_begin 28 = .ok (.iload_n 2, 1) := by decide +kernel
theorem dX14_begin_29 : decode cX14_begin 29 = .ok (.bipush 13, 2) := by decide +kernel
theorem dX14_begin_31 : decode cX14_begin 31 = .ok (.if_icmp .ge 16, 3) := by decide +kernel
theorem dX14_begin_34 : decode cX14_begin 34 = .ok (.aload_n 0, 1) := by decide +kernel
theorem dX14_begin_35 : decode cX14_begin 35 = .ok (.getfield 9, 3) := by decide +kernel
theorem dX14_begin_38 : decode cX14_begin 38 = .ok (.iload_n 2, 1) := by decide +kernel
theorem dX14_begin_39 : decode cX14_begin 39 = .ok (.iconst (-1), 1) := by decide +kernel
theorem dX14_begin_40 : decode cX14_begin 40 = .ok (.iastore, 1) := by decide +kernel
theorem dX14_begin_41 : decode cX14_begin 41 = .ok (.iinc 2 1, 3) := by decide +kernel
theorem dX14_begin_44 : decode cX14_begin 44 = .ok (.goto (-16), 3) := by decide +kernel
theorem dX14_begin_47 : decode cX14_begin 47 = .ok (.aload_n 0, 1) := by decide +kernel
theorem dX14_begin_48 : decode cX14_begin 48 = .ok (.iconst (-1), 1) := by decide +kernel
theorem dX14_begin_49 : decode cX14_begin 49 = .ok (.putfield 15, 3) := by decide +kernel
theorem dX14_begin_52 : decode cX14_begin 52 = .ok (.aload_n 0, 1) := by decide +kernel
theorem dX14_begin_53 : decode cX14_begin 53 = .ok (.iconst 0, 1) := by decide +kernel
theorem dX14_begin_54 : decode cX14_begin 54 = .ok (.putfield 157, 3) := by decide +kernel
theorem dX14_begin_57 : decode cX14_begin 57 = .ok (.aload_n 0, 1) := by decide +kernel
theorem dX14_begin_58 : decode cX14_begin 58 = .ok (.iconst 0, 1) := by decide +kernel
theorem dX14_begin_59 : decode cX14_begin 59 = .ok (.putfield 160, 3) := by decide +kernel
theorem dX14_begin_62 : decode cX14_begin 62 = .ok (.aload_n 0, 1) := by decide +kernel
theorem dX14_begin_63 : decode cX14_begin 63 = .ok (.lconst 0, 1) := by decide +kernel
theorem dX14_begin_64 : decode cX14_begin 64 = .ok (.putfield 163, 3) := by decide +kernel
theorem dX14_begin_67 : decode cX14_begin 67 = .ok (.aload_n 0, 1) := by decide +kernel
theorem dX14_begin_68 : decode cX14_begin 68 = .ok (.iconst 0, 1) := by decide +kernel
theorem dX14_begin_69 : decode cX14_begin 69 = .ok (.putfield 166, 3) := by decide +kernel
theorem dX14_begin_72 : decode cX14_begin 72 = .ok (.aload_n 0, 1) := by decide +kernel
theorem dX14_begin_73 : decode cX14_begin 73 = .ok (.iconst 0, 1) := by decide +kernel
theorem dX14_begin_74 : decode cX14_begin 74 = .ok (.putfield 169, 3) := by decide +kernel
theorem dX14_begin_77 : decode cX14_begin 77 = .ok (.aload_n 0, 1) := by decide +kernel
theorem dX14_begin_78 : decode cX14_begin 78 = .ok (.iconst 0, 1) := by decide +kernel
theorem dX14_begin_79 : decode cX14_begin 79 = .ok (.putfield 172, 3) := by decide +kernel
theorem dX14_begin_82 : decode cX14_begin 82 = .ok (.aload_n 0, 1) := by decide +kernel
theorem dX14_begin_83 : decode cX14_begin 83 = .ok (.iconst 0, 1) := by decide +kernel
theorem dX14_begin_84 : decode cX14_begin 84 = .ok (.putfield 175, 3) := by decide +kernel
theorem dX14_begin_87 : decode cX14_begin 87 = .ok (.aload_n 0, 1) := by decide +kernel
theorem dX14_begin_88 : decode cX14_begin 88 = .ok (.iconst 0, 1) := by decide +kernel
theorem dX14_begin_89 : decode cX14_begin 89 = .ok (.putfield 178, 3) := by decide +kernel
theorem dX14_begin_92 : decode cX14_begin 92 = .ok (.aload_n 0, 1) := by decide +kernel
theorem dX14_begin_93 : decode cX14_begin 93 = .ok (.ldc2_w 84, 3) := by decide +kernel
theorem dX14_begin_96 : decode cX14_begin 96 = .ok (.putfield 86, 3) := by decide +kernel
theorem dX14_begin_99 : decode cX14_begin 99 = .ok (.aload_n 0, 1) := by decide +kernel
theorem dX14_begin_100 : decode cX14_begin 100 = .ok (.iconst 0, 1) := by decide +kernel
theorem dX14_begin_101 : decode cX14_begin 101 = .ok (.putfield 181, 3) := by decide +kernel
theorem dX14_begin_104 : decode cX14_begin 104 = .ok (.aload_n 0, 1) := by decide +kernel
theorem dX14_begin_105 : decode cX14_begin 105 = .ok (.ldc2_w 84, 3) := by decide +kernel
theorem dX14_begin_108 : decode cX14_begin 108 = .ok (.putfield 111, 3) := by decide +kernel
theorem dX14_begin_111 : decode cX14_begin 111 = .ok (.aload_n 0, 1) := by decide +kernel
theorem dX14_begin_112 : decode cX14_begin 112 = .ok (.lconst 0, 1) := by decide +kernel
theorem dX14_begin_113 : decode cX14_begin 113 = .ok (.putfield 184, 3) := by decide +kernel
theorem dX14_begin_116 : decode cX14_begin 116 = .ok (.aload_n 0, 1) := by decide +kernel
theorem dX14_begin_117 : decode cX14_begin 117 = .ok (.iconst 0, 1) := by decide +kernel
theorem dX14_begin_118 : decode cX14_begin 118 = .ok (.putfield 187, 3) := by decide +kernel
theorem dX14_begin_121 : decode cX14_begin 121 = .ok (.aload_n 0, 1) := by decide +kernel
theorem dX14_begin_122 : decode cX14_begin 122 = .ok (.lconst 0, 1) := by decide +kernel
theorem dX14_begin_123 : decode cX14_begin 123 = .ok (.putfield 190, 3) := by decide +kernel
theorem dX14_begin_126 : decode cX14_begin 126 = .ok (.return_, 1) := by decide +kernel
def tX14_begin_0 (x0 : Nat) (x1 : Int32) (h : pm_H) : Option (((Nat × Int32 × pm_H) ⊕ (Nat × Int32 × Nat × Nat × pm_H) ⊕ (Nat × Int32 × Nat × Nat × pm_H) ⊕ (Nat × Nat × Nat × pm_H) ⊕ (Nat × Int32 × pm_H)) ⊕ pm_H) := if pm_kd h x0 = 14 then if ¬ x1 < 0 ∧ x1.toNatClampNeg * 1 ≤ 536870912 then some (.inl (.inr (.inl ((x0, x1, pm_sz (pm_setI h x0 1 x1), x0, pm_new (pm_setI h x0 1 x1) 33 x1.toNatClampNeg))))) else none else none
def tX14_begin_9 (x0 : Nat) (x1 : Int32) (s0 : Nat) (s1 : Nat) (h : pm_H) : Option (((Nat × Int32 × pm_H) ⊕ (Nat × Int32 × Nat × Nat × pm_H) ⊕ (Nat × Int32 × Nat × Nat × pm_H) ⊕ (Nat × Nat × Nat × pm_H) ⊕ (Nat × Int32 × pm_H)) ⊕ pm_H) := if pm_kd h s1 = 14 then if ¬ x1 < 0 ∧ x1.toNatClampNeg * 4 ≤ 536870912 then some (.inl (.inr (.inr (.inl ((x0, x1, pm_sz (pm_setR h s1 0 (some s0)), x0, pm_new (pm_setR h s1 0 (some s0)) 34 x1.toNatClampNeg)))))) else none else none
def tX14_begin_16 (x0 : Nat) (x1 : Int32) (s0 : Nat) (s1 : Nat) (h : pm_H) : Option (((Nat × Int32 × pm_H) ⊕ (Nat × Int32 × Nat × Nat × pm_H) ⊕ (Nat × Int32 × Nat × Nat × pm_H) ⊕ (Nat × Nat × Nat × pm_H) ⊕ (Nat × Int32 × pm_H)) ⊕ pm_H) := if pm_kd h s1 = 14 then if ¬ x1 < 0 ∧ x1.toNatClampNeg * 4 ≤ 536870912 then some (.inl (.inr (.inr (.inr (.inl ((x0, pm_sz (pm_setR h s1 56 (some s0)), x0, pm_new (pm_setR h s1 56 (some s0)) 34 x1.toNatClampNeg))))))) else none else none
def tX14_begin_23 (x0 : Nat) (s0 : Nat) (s1 : Nat) (h : pm_H) : Option (((Nat × Int32 × pm_H) ⊕ (Nat × Int32 × Nat × Nat × pm_H) ⊕ (Nat × Int32 × Nat × Nat × pm_H) ⊕ (Nat × Nat × Nat × pm_H) ⊕ (Nat × Int32 × pm_H)) ⊕ pm_H) := if pm_kd h s1 = 14 then some (.inl (.inr (.inr (.inr (.inr ((x0, 0, pm_setR h s1 57 (some s0)))))))) else none
def tX14_begin_28 (x0 : Nat) (x2 : Int32) (h : pm_H) : Option (((Nat × Int32 × pm_H) ⊕ (Nat × Int32 × Nat × Nat × pm_H) ⊕ (Nat × Int32 × Nat × Nat × pm_H) ⊕ (Nat × Nat × Nat × pm_H) ⊕ (Nat × Int32 × pm_H)) ⊕ pm_H) := if 13 ≤ x2 then (if pm_kd h x0 = 14 then some (.inr (pm_setL (pm_setI (pm_setL (pm_setL (pm_setI (pm_setL (pm_setI (pm_setI (pm_setI (pm_setI (pm_setI (pm_setL (pm_setI (pm_setI (pm_setI h x0 3 (-1)) x0 4 0) x0 8 0) x0 14 0) x0 15 0) x0 17 0) x0 21 0) x0 24 0) x0 28 0) x0 33 (-1)) x0 34 0) x0 42 (-1)) x0 43 0) x0 44 0) x0 50 0)) else none) else (if pm_kd h x0 = 14 then (pm_R h x0 2).bind fun v11 => if pm_kd h v11 = 34 then if pm_in x2 (pm_ln h v11) then pm_let (x2 + 1) fun y15 => some (.inl (.inr (.inr (.inr (.inr ((x0, y15, pm_setI h v11 x2.toNatClampNeg (-1)))))))) else none else none else none)
def sX14_begin : ((Nat × Int32 × pm_H) ⊕ (Nat × Int32 × Nat × Nat × pm_H) ⊕ (Nat × Int32 × Nat × Nat × pm_H) ⊕ (Nat × Nat × Nat × pm_H) ⊕ (Nat × Int32 × pm_H)) → Option (((Nat × Int32 × pm_H) ⊕ (Nat × Int32 × Nat × Nat × pm_H) ⊕ (Nat × Int32 × Nat × Nat × pm_H) ⊕ (Nat × Nat × Nat × pm_H) ⊕ (Nat × Int32 × pm_H)) ⊕ pm_H) := fun z => match z with
  | .inl (x0, x1, h) => tX14_begin_0 x0 x1 h
  | .inr (.inl (x0, x1, s0, s1, h)) => tX14_begin_9 x0 x1 s0 s1 h
  | .inr (.inr (.inl (x0, x1, s0, s1, h))) => tX14_begin_16 x0 x1 s0 s1 h
  | .inr (.inr (.inr (.inl (x0, s0, s1, h)))) => tX14_begin_23 x0 s0 s1 h
  | .inr (.inr (.inr (.inr (x0, x2, h)))) => tX14_begin_28 x0 x2 h
noncomputable def fX14_begin (h : pm_H) (a0 : Nat) (p1 : Int32) : Option pm_H := pm_lim sX14_begin (.inl ((a0, p1, h)))
set_option maxHeartbeats 4000000 in
set_option maxRecDepth 100000 in
theorem mlX14_begin {r : pm_H} : ∀ n : Nat, (∀ (x0 : Nat) (x1 : Int32) (h : pm_H), pm_iter sX14_begin n (.inl (x0, x1, h)) = some r → pm_Le h r) ∧ (∀ (x0 : Nat) (x1 : Int32) (s0 : Nat) (s1 : Nat) (h : pm_H), pm_iter sX14_begin n (.inr (.inl (x0, x1, s0, s1, h))) = some r → pm_Le h r) ∧ (∀ (x0 : Nat) (x1 : Int32) (s0 : Nat) (s1 : Nat) (h : pm_H), pm_iter sX14_begin n (.inr (.inr (.inl (x0, x1, s0, s1, h)))) = some r → pm_Le h r) ∧ (∀ (x0 : Nat) (s0 : Nat) (s1 : Nat) (h : pm_H), pm_iter sX14_begin n (.inr (.inr (.inr (.inl (x0, s0, s1, h))))) = some r → pm_Le h r) ∧ (∀ (x0 : Nat) (x2 : Int32) (h : pm_H), pm_iter sX14_begin n (.inr (.inr (.inr (.inr (x0, x2, h))))) = some r → pm_Le h r) := by
  intro n
  induction n with
  | zero => exact ⟨fun _ _ _ hf => (by cases hf), fun _ _ _ _ _ hf => (by cases hf), fun _ _ _ _ _ hf => (by cases hf), fun _ _ _ _ hf => (by cases hf), fun _ _ _ hf => (by cases hf)⟩
  | succ n ih =>
    refine ⟨fun x0 x1 h hf => ?_, ?_⟩
    · obtain ⟨y, hf, hi⟩ := pm_iter_s hf
      have hf : tX14_begin_0 x0 x1 h = some y := hf
      unfold tX14_begin_0 at hf
      have K0 := pm_S3.rf h
      obtain ⟨k1, hf⟩ := pm_if hf
      obtain ⟨u2, hf⟩ := pm_if hf
      cases hf
      exact ((pm_S3.le (pm_S3I K0)).trans (pm_Le_new _ _ _)).trans (ih.2.1 x0 x1 (pm_sz (pm_setI h x0 1 x1)) x0 (pm_new (pm_setI h x0 1 x1) 33 x1.toNatClampNeg) hi)
    refine ⟨fun x0 x1 s0 s1 h hf => ?_, ?_⟩
    · obtain ⟨y, hf, hi⟩ := pm_iter_s hf
      have hf : tX14_begin_9 x0 x1 s0 s1 h = some y := hf
      unfold tX14_begin_9 at hf
      have K0 := pm_S3.rf h
      obtain ⟨k3, hf⟩ := pm_if hf
      obtain ⟨u4, hf⟩ := pm_if hf
      cases hf
      exact ((pm_S3.le (pm_S3R K0)).trans (pm_Le_new _ _ _)).trans (ih.2.2.1 x0 x1 (pm_sz (pm_setR h s1 0 (some s0))) x0 (pm_new (pm_setR h s1 0 (some s0)) 34 x1.toNatClampNeg) hi)
    refine ⟨fun x0 x1 s0 s1 h hf => ?_, ?_⟩
    · obtain ⟨y, hf, hi⟩ := pm_iter_s hf
      have hf : tX14_begin_16 x0 x1 s0 s1 h = some y := hf
      unfold tX14_begin_16 at hf
      have K0 := pm_S3.rf h
      obtain ⟨k5, hf⟩ := pm_if hf
      obtain ⟨u6, hf⟩ := pm_if hf
      cases hf
      exact ((pm_S3.le (pm_S3R K0)).trans (pm_Le_new _ _ _)).trans (ih.2.2.2.1 x0 (pm_sz (pm_setR h s1 56 (some s0))) x0 (pm_new (pm_setR h s1 56 (some s0)) 34 x1.toNatClampNeg) hi)
    refine ⟨fun x0 s0 s1 h hf => ?_, ?_⟩
    · obtain ⟨y, hf, hi⟩ := pm_iter_s hf
      have hf : tX14_begin_23 x0 s0 s1 h = some y := hf
      unfold tX14_begin_23 at hf
      have K0 := pm_S3.rf h
      obtain ⟨k7, hf⟩ := pm_if hf
      cases hf
      exact (pm_S3.le (pm_S3R K0)).trans (ih.2.2.2.2 x0 0 (pm_setR h s1 57 (some s0)) hi)
    refine fun x0 x2 h hf => ?_
    obtain ⟨y, hf, hi⟩ := pm_iter_s hf
    have hf : tX14_begin_28 x0 x2 h = some y := hf
    unfold tX14_begin_28 at hf
    have K0 := pm_S3.rf h
    by_cases c8 : 13 ≤ x2
    · have hf := pm_it hf c8
      obtain ⟨k9, hf⟩ := pm_if hf
      have hf := Option.some.inj hf
      subst hf
      have hi := Option.some.inj (show some _ = some r from hi)
      subst hi
      exact pm_S3.le (pm_S3L (pm_S3I (pm_S3L (pm_S3L (pm_S3I (pm_S3L (pm_S3I (pm_S3I (pm_S3I (pm_S3I (pm_S3I (pm_S3L (pm_S3I (pm_S3I (pm_S3I K0)))))))))))))))
    · have hf := pm_ie hf c8
      obtain ⟨k10, hf⟩ := pm_if hf
      obtain ⟨v11, e12, hf⟩ := pm_bd hf
      obtain ⟨k13, hf⟩ := pm_if hf
      obtain ⟨u14, hf⟩ := pm_if hf
      obtain ⟨y15, e16, hf⟩ := pm_lt hf
      cases hf
      exact (pm_S3.le (pm_S3I K0)).trans (ih.2.2.2.2 x0 y15 (pm_setI h v11 x2.toNatClampNeg (-1)) hi)
set_option maxHeartbeats 4000000 in
set_option maxRecDepth 100000 in
theorem moX14_begin {h : pm_H} {a0 : Nat} {p1 : Int32} {r : pm_H} (hf : fX14_begin h a0 p1 = some r) : pm_Le h r := by
  unfold fX14_begin at hf
  have K0 := pm_S3.rf h
  obtain ⟨n, hn⟩ := pm_lim_iter hf
  exact (mlX14_begin n).1 a0 p1 h hn
set_option maxHeartbeats 4000000 in
set_option maxRecDepth 100000 in
theorem lpX14_begin {g : pm_Gm} {l : Launch} {G : pm_Gl} {Qr : Option Value → pm_H → Prop} (C : pm_C g cX14_begin RX14) {h0 : pm_H} {r : pm_H} (X : pm_X g l G mX14_begin (pm_sz r - pm_sz h0) (pm_us r - pm_us h0) Qr) (q : Qr none r) : ∀ n : Nat, (∀ (x0 : Nat) (x1 : Int32) (h : pm_H), pm_Le h0 h → pm_iter sX14_begin n (.inl (x0, x1, h)) = some r → pm_G g 0 [(0, .ref x0), (1, .int x1)] [] h (pm_sz h - pm_sz h0) (pm_us h - pm_us h0)) ∧ (∀ (x0 : Nat) (x1 : Int32) (s0 : Nat) (s1 : Nat) (h : pm_H), pm_Le h0 h → pm_iter sX14_begin n (.inr (.inl (x0, x1, s0, s1, h))) = some r → pm_G g 9 [(0, .ref x0), (1, .int x1)] [.ref s0, .ref s1] h (pm_sz h - pm_sz h0) (pm_us h - pm_us h0)) ∧ (∀ (x0 : Nat) (x1 : Int32) (s0 : Nat) (s1 : Nat) (h : pm_H), pm_Le h0 h → pm_iter sX14_begin n (.inr (.inr (.inl (x0, x1, s0, s1, h)))) = some r → pm_G g 16 [(0, .ref x0), (1, .int x1)] [.ref s0, .ref s1] h (pm_sz h - pm_sz h0) (pm_us h - pm_us h0)) ∧ (∀ (x0 : Nat) (s0 : Nat) (s1 : Nat) (h : pm_H), pm_Le h0 h → pm_iter sX14_begin n (.inr (.inr (.inr (.inl (x0, s0, s1, h))))) = some r → pm_G g 23 [(0, .ref x0)] [.ref s0, .ref s1] h (pm_sz h - pm_sz h0) (pm_us h - pm_us h0)) ∧ (∀ (x0 : Nat) (x2 : Int32) (h : pm_H), pm_Le h0 h → pm_iter sX14_begin n (.inr (.inr (.inr (.inr (x0, x2, h))))) = some r → pm_G g 28 [(0, .ref x0), (2, .int x2)] [] h (pm_sz h - pm_sz h0) (pm_us h - pm_us h0)) := by
  intro n
  induction n with
  | zero => exact ⟨fun _ _ _ _ hf => (by cases hf), fun _ _ _ _ _ _ hf => (by cases hf), fun _ _ _ _ _ _ hf => (by cases hf), fun _ _ _ _ _ hf => (by cases hf), fun _ _ _ _ hf => (by cases hf)⟩
  | succ n ih =>
    refine ⟨fun x0 x1 h m0 hf => ?_, ?_⟩
    · have le0 := (mlX14_begin (n + 1)).1 x0 x1 h hf
      have kc1 := Nat.sub_le_sub_right le0.1 (pm_sz h0)
      have kc2 := Nat.sub_le_sub_right le0.2 (pm_us h0)
      have K0 := pm_S3.rf h
      obtain ⟨y, hf, hi⟩ := pm_iter_s hf
      have hf : tX14_begin_0 x0 x1 h = some y := hf
      unfold tX14_begin_0 at hf
      refine pm_aload_n C dX14_begin_0 rfl rfl ?_
      refine pm_iload_n C dX14_begin_1 rfl rfl ?_
      obtain ⟨k1, hf⟩ := pm_if hf
      refine pm_putI C dX14_begin_2 flX14_144 rfl rfl k1 rfl rfl ?_
      refine pm_aload_n C dX14_begin_5 rfl rfl ?_
      refine pm_iload_n C dX14_begin_6 rfl rfl ?_
      obtain ⟨u2, hf⟩ := pm_if hf
      cases hf
      refine pa_newa (hb := h) (h0 := h0) (t := 1) (N := x1.toNatClampNeg) C X (pm_S3I K0) m0 dX14_begin_7 (by decide) rfl al1 u2.1 rfl u2.2 ((mlX14_begin n).2.1 x0 x1 (pm_sz (pm_setI h x0 1 x1)) x0 (pm_new (pm_setI h x0 1 x1) 33 x1.toNatClampNeg) hi) ?_
      exact pm_sub [0, 1] rfl (ih.2.1 x0 x1 (pm_sz (pm_setI h x0 1 x1)) x0 (pm_new (pm_setI h x0 1 x1) 33 x1.toNatClampNeg) ((m0.trans (pm_S3.le (pm_S3I K0))).trans (pm_Le_new _ _ _)) hi)
    refine ⟨fun x0 x1 s0 s1 h m0 hf => ?_, ?_⟩
    · have le0 := (mlX14_begin (n + 1)).2.1 x0 x1 s0 s1 h hf
      have kc1 := Nat.sub_le_sub_right le0.1 (pm_sz h0)
      have kc2 := Nat.sub_le_sub_right le0.2 (pm_us h0)
      have K0 := pm_S3.rf h
      obtain ⟨y, hf, hi⟩ := pm_iter_s hf
      have hf : tX14_begin_9 x0 x1 s0 s1 h = some y := hf
      unfold tX14_begin_9 at hf
      obtain ⟨k3, hf⟩ := pm_if hf
      refine pm_putR C dX14_begin_9 flX14_147 rfl rfl k3 ?_
      refine pm_aload_n C dX14_begin_12 rfl rfl ?_
      refine pm_iload_n C dX14_begin_13 rfl rfl ?_
      obtain ⟨u4, hf⟩ := pm_if hf
      cases hf
      refine pa_newa (hb := h) (h0 := h0) (t := 2) (N := x1.toNatClampNeg) C X (pm_S3R K0) m0 dX14_begin_14 (by decide) rfl al2 u4.1 rfl u4.2 ((mlX14_begin n).2.2.1 x0 x1 (pm_sz (pm_setR h s1 0 (some s0))) x0 (pm_new (pm_setR h s1 0 (some s0)) 34 x1.toNatClampNeg) hi) ?_
      exact pm_sub [0, 1] rfl (ih.2.2.1 x0 x1 (pm_sz (pm_setR h s1 0 (some s0))) x0 (pm_new (pm_setR h s1 0 (some s0)) 34 x1.toNatClampNeg) ((m0.trans (pm_S3.le (pm_S3R K0))).trans (pm_Le_new _ _ _)) hi)
    refine ⟨fun x0 x1 s0 s1 h m0 hf => ?_, ?_⟩
    · have le0 := (mlX14_begin (n + 1)).2.2.1 x0 x1 s0 s1 h hf
      have kc1 := Nat.sub_le_sub_right le0.1 (pm_sz h0)
      have kc2 := Nat.sub_le_sub_right le0.2 (pm_us h0)
      have K0 := pm_S3.rf h
      obtain ⟨y, hf, hi⟩ := pm_iter_s hf
      have hf : tX14_begin_16 x0 x1 s0 s1 h = some y := hf
      unfold tX14_begin_16 at hf
      obtain ⟨k5, hf⟩ := pm_if hf
      refine pm_putR C dX14_begin_16 flX14_151 rfl rfl k5 ?_
      refine pm_aload_n C dX14_begin_19 rfl rfl ?_
      refine pm_iload_n C dX14_begin_20 rfl rfl ?_
      obtain ⟨u6, hf⟩ := pm_if hf
      cases hf
      refine pa_newa (hb := h) (h0 := h0) (t := 2) (N := x1.toNatClampNeg) C X (pm_S3R K0) m0 dX14_begin_21 (by decide) rfl al2 u6.1 rfl u6.2 ((mlX14_begin n).2.2.2.1 x0 (pm_sz (pm_setR h s1 56 (some s0))) x0 (pm_new (pm_setR h s1 56 (some s0)) 34 x1.toNatClampNeg) hi) ?_
      exact pm_sub [0] rfl (ih.2.2.2.1 x0 (pm_sz (pm_setR h s1 56 (some s0))) x0 (pm_new (pm_setR h s1 56 (some s0)) 34 x1.toNatClampNeg) ((m0.trans (pm_S3.le (pm_S3R K0))).trans (pm_Le_new _ _ _)) hi)
    refine ⟨fun x0 s0 s1 h m0 hf => ?_, ?_⟩
    · have le0 := (mlX14_begin (n + 1)).2.2.2.1 x0 s0 s1 h hf
      have kc1 := Nat.sub_le_sub_right le0.1 (pm_sz h0)
      have kc2 := Nat.sub_le_sub_right le0.2 (pm_us h0)
      have K0 := pm_S3.rf h
      obtain ⟨y, hf, hi⟩ := pm_iter_s hf
      have hf : tX14_begin_23 x0 s0 s1 h = some y := hf
      unfold tX14_begin_23 at hf
      obtain ⟨k7, hf⟩ := pm_if hf
      refine pm_putR C dX14_begin_23 flX14_154 rfl rfl k7 ?_
      refine pm_iconst (v := 0) C dX14_begin_26 (by decide) ?_
      refine pm_istore_n (lv' := [(2, .int 0), (0, .ref x0)]) C dX14_begin_27 rfl (pm_nl X (by decide)) rfl ?_
      cases hf
      exact pa_join (pm_S3R K0) (pm_sub [1, 0] rfl (ih.2.2.2.2 x0 0 (pm_setR h s1 57 (some s0)) (m0.trans (pm_S3.le (pm_S3R K0))) hi))
    refine fun x0 x2 h m0 hf => ?_
    have le0 := (mlX14_begin (n + 1)).2.2.2.2 x0 x2 h hf
    have kc1 := Nat.sub_le_sub_right le0.1 (pm_sz h0)
    have kc2 := Nat.sub_le_sub_right le0.2 (pm_us h0)
    have K0 := pm_S3.rf h
    obtain ⟨y, hf, hi⟩ := pm_iter_s hf
    have hf : tX14_begin_28 x0 x2 h = some y := hf
    unfold tX14_begin_28 at hf
    refine pm_iload_n C dX14_begin_28 rfl rfl ?_
    refine pm_bipush (v := 13) C dX14_begin_29 (by decide) ?_
    refine pm_icmp_ge (tgt := 47) C dX14_begin_31 (by decide) (fun c8 => ?_) (fun c8 => ?_)
    · have hf := pm_it hf c8
      refine pm_aload_n C dX14_begin_47 rfl rfl ?_
      refine pm_iconst (v := (-1)) C dX14_begin_48 (by decide) ?_
      obtain ⟨k9, hf⟩ := pm_if hf
      refine pm_putI C dX14_begin_49 flX14_15 rfl rfl k9 rfl rfl ?_
      refine pm_aload_n C dX14_begin_52 rfl rfl ?_
      refine pm_iconst (v := 0) C dX14_begin_53 (by decide) ?_
      refine pm_putI C dX14_begin_54 flX14_157 rfl rfl k9 rfl rfl ?_
      refine pm_aload_n C dX14_begin_57 rfl rfl ?_
      refine pm_iconst (v := 0) C dX14_begin_58 (by decide) ?_
      refine pm_putI C dX14_begin_59 flX14_160 rfl rfl k9 rfl rfl ?_
      refine pm_aload_n C dX14_begin_62 rfl rfl ?_
      refine pm_lconst (v := 0) C dX14_begin_63 (by decide) ?_
      refine pm_putL C dX14_begin_64 flX14_163 rfl rfl k9 ?_
      refine pm_aload_n C dX14_begin_67 rfl rfl ?_
      refine pm_iconst (v := 0) C dX14_begin_68 (by decide) ?_
      refine pm_putI C dX14_begin_69 flX14_166 rfl rfl k9 rfl rfl ?_
      refine pm_aload_n C dX14_begin_72 rfl rfl ?_
      refine pm_iconst (v := 0) C dX14_begin_73 (by decide) ?_
      refine pm_putI C dX14_begin_74 flX14_169 rfl rfl k9 rfl rfl ?_
      refine pm_aload_n C dX14_begin_77 rfl rfl ?_
      refine pm_iconst (v := 0) C dX14_begin_78 (by decide) ?_
      refine pm_putI C dX14_begin_79 flX14_172 rfl rfl k9 rfl rfl ?_
      refine pm_aload_n C dX14_begin_82 rfl rfl ?_
      refine pm_iconst (v := 0) C dX14_begin_83 (by decide) ?_
      refine pm_putI C dX14_begin_84 flX14_175 rfl rfl k9 rfl rfl ?_
      refine pm_aload_n C dX14_begin_87 rfl rfl ?_
      refine pm_iconst (v := 0) C dX14_begin_88 (by decide) ?_
      refine pm_putI C dX14_begin_89 flX14_178 rfl rfl k9 rfl rfl ?_
      refine pm_aload_n C dX14_begin_92 rfl rfl ?_
      refine pm_ldc2 C dX14_begin_93 cnX14_84 ?_
      refine pm_putL C dX14_begin_96 flX14_86 rfl rfl k9 ?_
      refine pm_aload_n C dX14_begin_99 rfl rfl ?_
      refine pm_iconst (v := 0) C dX14_begin_100 (by decide) ?_
      refine pm_putI C dX14_begin_101 flX14_181 rfl rfl k9 rfl rfl ?_
      refine pm_aload_n C dX14_begin_104 rfl rfl ?_
      refine pm_ldc2 C dX14_begin_105 cnX14_84 ?_
      refine pm_putL C dX14_begin_108 flX14_111 rfl rfl k9 ?_
      refine pm_aload_n C dX14_begin_111 rfl rfl ?_
      refine pm_lconst (v := 0) C dX14_begin_112 (by decide) ?_
      refine pm_putL C dX14_begin_113 flX14_184 rfl rfl k9 ?_
      refine pm_aload_n C dX14_begin_116 rfl rfl ?_
      refine pm_iconst (v := 0) C dX14_begin_117 (by decide) ?_
      refine pm_putI C dX14_begin_118 flX14_187 rfl rfl k9 rfl rfl ?_
      refine pm_aload_n C dX14_begin_121 rfl rfl ?_
      refine pm_lconst (v := 0) C dX14_begin_122 (by decide) ?_
      refine pm_putL C dX14_begin_123 flX14_190 rfl rfl k9 ?_
      have hf := Option.some.inj hf
      subst hf
      have hi := Option.some.inj (show some _ = some r from hi)
      subst hi
      exact pm_vret C X dX14_begin_126 rfl kc1 kc2 q
    · have hf := pm_ie hf c8
      refine pm_aload_n C dX14_begin_34 rfl rfl ?_
      obtain ⟨k10, hf⟩ := pm_if hf
      obtain ⟨v11, e12, hf⟩ := pm_bd hf
      refine pm_getR C dX14_begin_35 flX14_9 rfl k10 e12 ?_
      refine pm_iload_n C dX14_begin_38 rfl rfl ?_
      refine pm_iconst (v := (-1)) C dX14_begin_39 (by decide) ?_
      obtain ⟨k13, hf⟩ := pm_if hf
      obtain ⟨u14, hf⟩ := pm_if hf
      refine pm_iast C dX14_begin_40 k13 u14 ?_
      obtain ⟨y15, e16, hf⟩ := pm_lt hf
      refine pm_iinc (v := y15) (lv' := [(2, .int y15), (0, .ref x0)]) C dX14_begin_41 rfl ((congrArg (x2 + ·) (by decide : Int32.ofInt 1 = 1)).trans e16) (pm_nl X (by decide)) rfl ?_
      refine pm_goto (tgt := 28) C dX14_begin_44 (by decide) ?_
      cases hf
      exact pa_join (pm_S3I K0) (pm_sub [1, 0] rfl (ih.2.2.2.2 x0 y15 (pm_setI h v11 x2.toNatClampNeg (-1)) (m0.trans (pm_S3.le (pm_S3I K0))) hi))
set_option maxHeartbeats 4000000 in
set_option maxRecDepth 100000 in
theorem ctX14_begin {l : Launch} {G : pm_Gl} {h : pm_H} {a0 : Nat} {p1 : Int32} {r : pm_H} {Qr : Option Value → pm_H → Prop} (hf : fX14_begin h a0 p1 = some r) (q : Qr none r) : pm_Ct l G mX14_begin [.ref a0, .int p1] h (pm_sz r - pm_sz h) (pm_us r - pm_us h) Qr := by
  refine pm_body pnX14 (Nat.le_of_ble_eq_true rfl) (fun g C X => ?_)
  have C : pm_C g cX14_begin RX14 := C
  show pm_G g 0 [(0, .ref a0), (1, .int p1)] [] h 0 0
  unfold fX14_begin at hf
  obtain ⟨n, hn⟩ := pm_lim_iter hf
  exact pa_start (pm_sub [0, 1] rfl ((lpX14_begin C X q n).1 a0 p1 h (pm_Le.rf h) hn))
