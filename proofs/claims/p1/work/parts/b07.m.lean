theorem dX5_goOn_0 : decode cX5_goOn 0 = .ok (.aload_n 0, 1) := by decide +kernel
theorem dX5_goOn_1 : decode cX5_goOn 1 = .ok (.getfield 24, 3) := by decide +kernel
theorem dX5_goOn_4 : decode cX5_goOn 4 = .ok (.aload_n 0, 1) := by decide +kernel
theorem dX5_goOn_5 : decode cX5_goOn 5 = .ok (.getfield 112, 3) := by decide +kernel
theorem dX5_goOn_8 : decode cX5_goOn 8 = .ok (.invokevirtual 84, 3) := by decide +kernel
theorem dX5_goOn_11 : decode cX5_goOn 11 = .ok (.astore_n 3, 1) := by decide +kernel
theorem dX5_goOn_12 : decode cX5_goOn 12 = .ok (.iconst 2, 1) := by decide +kernel
theorem dX5_goOn_13 : decode cX5_goOn 13 = .ok (.aload_n 3, 1) := by decide +kernel
theorem dX5_goOn_14 : decode cX5_goOn 14 = .ok (.iconst 0, 1) := by decide +kernel
theorem dX5_goOn_15 : decode cX5_goOn 15 = .ok (.invokestatic 88, 3) := by decide +kernel
theorem dX5_goOn_18 : decode cX5_goOn 18 = .ok (.iadd, 1) := by decide +kernel
theorem dX5_goOn_19 : decode cX5_goOn 19 = .ok (.istore 4, 2) := by decide +kernel
theorem dX5_goOn_21 : decode cX5_goOn 21 = .ok (.iconst 0, 1) := by decide +kernel
theorem dX5_goOn_22 : decode cX5_goOn 22 = .ok (.istore 5, 2) := by decide +kernel
theorem dX5_goOn_24 : decode cX5_goOn 24 = .ok (.iload 5, 2) := by decide +kernel
theorem dX5_goOn_26 : decode cX5_goOn 26 = .ok (.iload_n 2, 1) := by decide +kernel
theorem dX5_goOn_27 : decode cX5_goOn 27 = .ok (.if_icmp .ge 36, 3) := by decide +kernel
theorem dX5_goOn_30 : decode cX5_goOn 30 = .ok (.aload_n 0, 1) := by decide +kernel
theorem dX5_goOn_31 : decode cX5_goOn 31 = .ok (.getfield 9, 3) := by decide +kernel
theorem dX5_goOn_34 : decode cX5_goOn 34 = .ok (.iload 5, 2) := by decide +kernel
theorem dX5_goOn_36 : decode cX5_goOn 36 = .ok (.aload_n 3, 1) := by decide +kernel
theorem dX5_goOn_37 : decode cX5_goOn 37 = .ok (.iload 4, 2) := by decide +kernel
theorem dX5_goOn_39 : decode cX5_goOn 39 = .ok (.iload 5, 2) := by decide +kernel
theorem dX5_goOn_41 : decode cX5_goOn 41 = .ok (.iadd, 1) := by decide +kernel
theorem dX5_goOn_42 : decode cX5_goOn 42 = .ok (.invokestatic 88, 3) := by decide +kernel
theorem dX5_goOn_45 : decode cX5_goOn 45 = .ok (.aload_n 1, 1) := by decide +kernel
theorem dX5_goOn_46 : decode cX5_goOn 46 = .ok (.iload 5, 2) := by decide +kernel
theorem dX5_goOn_48 : decode cX5_goOn 48 = .ok (.invokestatic 92, 3) := by decide +kernel
theorem dX5_goOn_51 : decode cX5_goOn 51 = .ok (.invokestatic 95, 3) := by decide +kernel
theorem dX5_goOn_54 : decode cX5_goOn 54 = .ok (.invokestatic 99, 3) := by decide +kernel
theorem dX5_goOn_57 : decode cX5_goOn 57 = .ok (.iinc 5 1, 3) := by decide +kernel
theorem dX5_goOn_60 : decode cX5_goOn 60 = .ok (.goto (-36), 3) := by decide +kernel
theorem dX5_goOn_63 : decode cX5_goOn 63 = .ok (.aload_n 0, 1) := by decide +kernel
theorem dX5_goOn_64 : decode cX5_goOn 64 = .ok (.iload_n 2, 1) := by decide +kernel
theorem dX5_goOn_65 : decode cX5_goOn 65 = .ok (.putfield 115, 3) := by decide +kernel
theorem dX5_goOn_68 : decode cX5_goOn 68 = .ok (.aload_n 0, 1) := by decide +kernel
theorem dX5_goOn_69 : decode cX5_goOn 69 = .ok (.getfield 59, 3) := by decide +kernel
theorem dX5_goOn_72 : decode cX5_goOn 72 = .ok (.ifCond .ne 9, 3) := by decide +kernel
theorem dX5_goOn_75 : decode cX5_goOn 75 = .ok (.aload_n 0, 1) := by decide +kernel
theorem dX5_goOn_76 : decode cX5_goOn 76 = .ok (.iconst 2, 1) := by decide +kernel
theorem dX5_goOn_77 : decode cX5_goOn 77 = .ok (.invokevirtual 74, 3) := by decide +kernel
theorem dX5_goOn_80 : decode cX5_goOn 80 = .ok (.return_, 1) := by decide +kernel
theorem dX5_goOn_81 : decode cX5_goOn 81 = .ok (.iconst 0, 1) := by decide +kernel
theorem dX5_goOn_82 : decode cX5_goOn 82 = .ok (.istore 5, 2) := by decide +kernel
theorem dX5_goOn_84 : decode cX5_goOn 84 = .ok (.iload 5, 2) := by decide +kernel
theorem dX5_goOn_86 : decode cX5_goOn 86 = .ok (.iload_n 2, 1) := by decide +kernel
theorem dX5_goOn_87 : decode cX5_goOn 87 = .ok (.if_icmp .ge 35, 3) := by decide +kernel
theorem dX5_goOn_90 : decode cX5_goOn 90 = .ok (.aload_n 0, 1) := by decide +kernel
theorem dX5_goOn_91 : decode cX5_goOn 91 = .ok (.getfield 15, 3) := by decide +kernel
theorem dX5_goOn_94 : decode cX5_goOn 94 = .ok (.aload_n 0, 1) := by decide +kernel
theorem dX5_goOn_95 : decode cX5_goOn 95 = .ok (.getfield 51, 3) := by decide +kernel
theorem dX5_goOn_98 : decode cX5_goOn 98 = .ok (.getfield 118, 3) := by decide +kernel
theorem dX5_goOn_101 : decode cX5_goOn 101 = .ok (.iload 5, 2) := by decide +kernel
theorem dX5_goOn_103 : decode cX5_goOn 103 = .ok (.iadd, 1) := by decide +kernel
theorem dX5_goOn_104 : decode cX5_goOn 104 = .ok (.aload_n 0, 1) := by decide +kernel
theorem dX5_goOn_105 : decode cX5_goOn 105 = .ok (.getfield 9, 3) := by decide +kernel
theorem dX5_goOn_108 : decode cX5_goOn 108 = .ok (.iload 5, 2) := by decide +kernel
theorem dX5_goOn_110 : decode cX5_goOn 110 = .ok (.invokestatic 92, 3) := by decide +kernel
theorem dX5_goOn_113 : decode cX5_goOn 113 = .ok (.invokestatic 99, 3) := by decide +kernel
theorem dX5_goOn_116 : decode cX5_goOn 116 = .ok (.iinc 5 1, 3) := by decide +kernel
theorem dX5_goOn_119 : decode cX5_goOn 119 = .ok (.goto (-35), 3) := by decide +kernel
theorem dX5_goOn_122 : decode cX5_goOn 122 = .ok (.aload_n 0, 1) := by decide +kernel
theorem dX5_goOn_123 : decode cX5_goOn 123 = .ok (.getfield 51, 3) := by decide +kernel
theorem dX5_goOn_126 : decode cX5_goOn 126 = .ok (.dup, 1) := by decide +kernel
theorem dX5_goOn_127 : decode cX5_goOn 127 = .ok (.getfield 118, 3) := by decide +kernel
theorem dX5_goOn_130 : decode cX5_goOn 130 = .ok (.iload_n 2, 1) := by decide +kernel
theorem dX5_goOn_131 : decode cX5_goOn 131 = .ok (.iadd, 1) := by decide +kernel
theorem dX5_goOn_132 : decode cX5_goOn 132 = .ok (.putfield 118, 3) := by decide +kernel
theorem dX5_goOn_135 : decode cX5_goOn 135 = .ok (.aload_n 0, 1) := by decide +kernel
theorem dX5_goOn_136 : decode cX5_goOn 136 = .ok (.iconst 1, 1) := by decide +kernel
theorem dX5_goOn_137 : decode cX5_goOn 137 = .ok (.putfield 55, 3) := by decide +kernel
theorem dX5_goOn_140 : decode cX5_goOn 140 = .ok (.aload_n 0, 1) := by decide +kernel
theorem dX5_goOn_141 : decode cX5_goOn 141 = .ok (.invokevirtual 107, 3) := by decide +kernel
theorem dX5_goOn_144 : decode cX5_goOn 144 = .ok (.return_, 1) := by decide +kernel
noncomputable def tX5_goOn_0 (x0 : Nat) (x1 : Nat) (x2 : Int32) (h : pm_H) : Option (((Nat × Nat × Int32 × pm_H) ⊕ (Nat × Nat × Int32 × Nat × Int32 × Int32 × pm_H) ⊕ (Nat × Int32 × Int32 × pm_H) ⊕ (pm_H)) ⊕ pm_H) := if pm_kd h x0 = 5 then (pm_R h x0 8).bind fun v2 => if pm_kd h v2 = 10 then (fX10_shapeOf h v2 (pm_I h x0 4)).bind fun v5 => (fX12_item h v5 0).bind fun v7 => pm_let (2 + v7) fun y9 => some (.inl (.inr (.inl ((x0, x1, x2, v5, y9, 0, h))))) else none else none
noncomputable def tX5_goOn_24 (x0 : Nat) (x1 : Nat) (x2 : Int32) (x3 : Nat) (x4 : Int32) (x5 : Int32) (h : pm_H) : Option (((Nat × Nat × Int32 × pm_H) ⊕ (Nat × Nat × Int32 × Nat × Int32 × Int32 × pm_H) ⊕ (Nat × Int32 × Int32 × pm_H) ⊕ (pm_H)) ⊕ pm_H) := if x2 ≤ x5 then (if pm_kd h x0 = 5 then if (pm_I (pm_setI h x0 7 x2) x0 3) = 0 then ((fX5_stop (pm_setI h x0 7 x2) x0 2).bind fun v14 => some (.inr (v14))) else (some (.inl (.inr (.inr (.inl ((x0, x2, 0, pm_setI h x0 7 x2))))))) else none) else (if pm_kd h x0 = 5 then (pm_R h x0 6).bind fun v18 => (fX12_item h x3 (x4 + x5)).bind fun v20 => (fX12_item_ h x1 x5).bind fun v22 => pm_let (fX5_toldBits v20 v22) fun v24 => (fX12_setItem_ h v18 x5 v24).bind fun v26 => pm_let (x5 + 1) fun y29 => some (.inl (.inr (.inl ((x0, x1, x2, x3, x4, y29, v26))))) else none)
noncomputable def tX5_goOn_84 (x0 : Nat) (x2 : Int32) (x5 : Int32) (h : pm_H) : Option (((Nat × Nat × Int32 × pm_H) ⊕ (Nat × Nat × Int32 × Nat × Int32 × Int32 × pm_H) ⊕ (Nat × Int32 × Int32 × pm_H) ⊕ (pm_H)) ⊕ pm_H) := if x2 ≤ x5 then (if pm_kd h x0 = 5 then (pm_R h x0 12).bind fun v33 => if pm_kd h v33 = 3 then pm_let ((pm_I h v33 5) + x2) fun y36 => (fX5_settle (pm_setI (pm_setI h v33 5 y36) x0 0 1) x0).bind fun v38 => some (.inl (.inr (.inr (.inr (v38))))) else none else none) else (if pm_kd h x0 = 5 then (pm_R h x0 10).bind fun v41 => (pm_R h x0 12).bind fun v43 => if pm_kd h v43 = 3 then (pm_R h x0 6).bind fun v46 => (fX12_item_ h v46 x5).bind fun v48 => (fX12_setItem_ h v41 ((pm_I h v43 5) + x5) v48).bind fun v50 => pm_let (x5 + 1) fun y53 => some (.inl (.inr (.inr (.inl ((x0, x2, y53, v50)))))) else none else none)
noncomputable def tX5_goOn_144 (h : pm_H) : Option (((Nat × Nat × Int32 × pm_H) ⊕ (Nat × Nat × Int32 × Nat × Int32 × Int32 × pm_H) ⊕ (Nat × Int32 × Int32 × pm_H) ⊕ (pm_H)) ⊕ pm_H) := some (.inr (h))
noncomputable def sX5_goOn : ((Nat × Nat × Int32 × pm_H) ⊕ (Nat × Nat × Int32 × Nat × Int32 × Int32 × pm_H) ⊕ (Nat × Int32 × Int32 × pm_H) ⊕ (pm_H)) → Option (((Nat × Nat × Int32 × pm_H) ⊕ (Nat × Nat × Int32 × Nat × Int32 × Int32 × pm_H) ⊕ (Nat × Int32 × Int32 × pm_H) ⊕ (pm_H)) ⊕ pm_H) := fun z => match z with
  | .inl (x0, x1, x2, h) => tX5_goOn_0 x0 x1 x2 h
  | .inr (.inl (x0, x1, x2, x3, x4, x5, h)) => tX5_goOn_24 x0 x1 x2 x3 x4 x5 h
  | .inr (.inr (.inl (x0, x2, x5, h))) => tX5_goOn_84 x0 x2 x5 h
  | .inr (.inr (.inr h)) => tX5_goOn_144 h
noncomputable def fX5_goOn (h : pm_H) (a0 : Nat) (p1 : Nat) (p2 : Int32) : Option pm_H := pm_lim sX5_goOn (.inl ((a0, p1, p2, h)))
set_option maxHeartbeats 4000000 in
set_option maxRecDepth 100000 in
theorem mlX5_goOn {r : pm_H} : ∀ n : Nat, (∀ (x0 : Nat) (x1 : Nat) (x2 : Int32) (h : pm_H), pm_iter sX5_goOn n (.inl (x0, x1, x2, h)) = some r → pm_Le h r) ∧ (∀ (x0 : Nat) (x1 : Nat) (x2 : Int32) (x3 : Nat) (x4 : Int32) (x5 : Int32) (h : pm_H), pm_iter sX5_goOn n (.inr (.inl (x0, x1, x2, x3, x4, x5, h))) = some r → pm_Le h r) ∧ (∀ (x0 : Nat) (x2 : Int32) (x5 : Int32) (h : pm_H), pm_iter sX5_goOn n (.inr (.inr (.inl (x0, x2, x5, h)))) = some r → pm_Le h r) ∧ (∀ (h : pm_H), pm_iter sX5_goOn n (.inr (.inr (.inr h))) = some r → pm_Le h r) := by
  intro n
  induction n with
  | zero => exact ⟨fun _ _ _ _ hf => (by cases hf), fun _ _ _ _ _ _ _ hf => (by cases hf), fun _ _ _ _ hf => (by cases hf), fun  _ hf => (by cases hf)⟩
  | succ n ih =>
    refine ⟨fun x0 x1 x2 h hf => ?_, ?_⟩
    · obtain ⟨y, hf, hi⟩ := pm_iter_s hf
      have hf : tX5_goOn_0 x0 x1 x2 h = some y := hf
      unfold tX5_goOn_0 at hf
      have K0 := pm_S3.rf h
      obtain ⟨k1, hf⟩ := pm_if hf
      obtain ⟨v2, e3, hf⟩ := pm_bd hf
      obtain ⟨k4, hf⟩ := pm_if hf
      obtain ⟨v5, e6, hf⟩ := pm_bd hf
      obtain ⟨v7, e8, hf⟩ := pm_bd hf
      obtain ⟨y9, e10, hf⟩ := pm_lt hf
      cases hf
      exact (pm_S3.le K0).trans (ih.2.1 x0 x1 x2 v5 y9 0 h hi)
    refine ⟨fun x0 x1 x2 x3 x4 x5 h hf => ?_, ?_⟩
    · obtain ⟨y, hf, hi⟩ := pm_iter_s hf
      have hf : tX5_goOn_24 x0 x1 x2 x3 x4 x5 h = some y := hf
      unfold tX5_goOn_24 at hf
      have K0 := pm_S3.rf h
      by_cases c11 : x2 ≤ x5
      · have hf := pm_it hf c11
        obtain ⟨k12, hf⟩ := pm_if hf
        by_cases c13 : (pm_I (pm_setI h x0 7 x2) x0 3) = 0
        · have hf := pm_it hf c13
          obtain ⟨v14, e15, hf⟩ := pm_bd hf
          have K16 := pm_S3.trans (kpX5_stop e15) (pm_S3I K0)
          have hf := Option.some.inj hf
          subst hf
          have hi := Option.some.inj (show some _ = some r from hi)
          subst hi
          exact pm_S3.le K16
        · have hf := pm_ie hf c13
          cases hf
          exact (pm_S3.le (pm_S3I K0)).trans (ih.2.2.1 x0 x2 0 (pm_setI h x0 7 x2) hi)
      · have hf := pm_ie hf c11
        obtain ⟨k17, hf⟩ := pm_if hf
        obtain ⟨v18, e19, hf⟩ := pm_bd hf
        obtain ⟨v20, e21, hf⟩ := pm_bd hf
        obtain ⟨v22, e23, hf⟩ := pm_bd hf
        obtain ⟨v24, e25, hf⟩ := pm_lt hf
        obtain ⟨v26, e27, hf⟩ := pm_bd hf
        have K28 := pm_S3.trans (kpX12_setItem_ e27) K0
        obtain ⟨y29, e30, hf⟩ := pm_lt hf
        cases hf
        exact (pm_S3.le K28).trans (ih.2.1 x0 x1 x2 x3 x4 y29 v26 hi)
    refine ⟨fun x0 x2 x5 h hf => ?_, ?_⟩
    · obtain ⟨y, hf, hi⟩ := pm_iter_s hf
      have hf : tX5_goOn_84 x0 x2 x5 h = some y := hf
      unfold tX5_goOn_84 at hf
      have K0 := pm_S3.rf h
      by_cases c31 : x2 ≤ x5
      · have hf := pm_it hf c31
        obtain ⟨k32, hf⟩ := pm_if hf
        obtain ⟨v33, e34, hf⟩ := pm_bd hf
        obtain ⟨k35, hf⟩ := pm_if hf
        obtain ⟨y36, e37, hf⟩ := pm_lt hf
        obtain ⟨v38, e39, hf⟩ := pm_bd hf
        cases hf
        exact ((pm_S3.le (pm_S3I (pm_S3I K0))).trans (moX5_settle e39)).trans (ih.2.2.2 v38 hi)
      · have hf := pm_ie hf c31
        obtain ⟨k40, hf⟩ := pm_if hf
        obtain ⟨v41, e42, hf⟩ := pm_bd hf
        obtain ⟨v43, e44, hf⟩ := pm_bd hf
        obtain ⟨k45, hf⟩ := pm_if hf
        obtain ⟨v46, e47, hf⟩ := pm_bd hf
        obtain ⟨v48, e49, hf⟩ := pm_bd hf
        obtain ⟨v50, e51, hf⟩ := pm_bd hf
        have K52 := pm_S3.trans (kpX12_setItem_ e51) K0
        obtain ⟨y53, e54, hf⟩ := pm_lt hf
        cases hf
        exact (pm_S3.le K52).trans (ih.2.2.1 x0 x2 y53 v50 hi)
    refine fun h hf => ?_
    obtain ⟨y, hf, hi⟩ := pm_iter_s hf
    have hf : tX5_goOn_144 h = some y := hf
    unfold tX5_goOn_144 at hf
    have K0 := pm_S3.rf h
    have hf := Option.some.inj hf
    subst hf
    have hi := Option.some.inj (show some _ = some r from hi)
    subst hi
    exact pm_S3.le K0
set_option maxHeartbeats 4000000 in
set_option maxRecDepth 100000 in
theorem moX5_goOn {h : pm_H} {a0 : Nat} {p1 : Nat} {p2 : Int32} {r : pm_H} (hf : fX5_goOn h a0 p1 p2 = some r) : pm_Le h r := by
  unfold fX5_goOn at hf
  have K0 := pm_S3.rf h
  obtain ⟨n, hn⟩ := pm_lim_iter hf
  exact (mlX5_goOn n).1 a0 p1 p2 h hn
set_option maxHeartbeats 4000000 in
set_option maxRecDepth 100000 in
theorem lpX5_goOn {g : pm_Gm} {l : Launch} {G : pm_Gl} {Qr : Option Value → pm_H → Prop} (C : pm_C g cX5_goOn RX5) {h0 : pm_H} {r : pm_H} (X : pm_X g l G mX5_goOn (pm_sz r - pm_sz h0) (pm_us r - pm_us h0) Qr) (q : Qr none r) : ∀ n : Nat, (∀ (x0 : Nat) (x1 : Nat) (x2 : Int32) (h : pm_H), pm_Le h0 h → pm_iter sX5_goOn n (.inl (x0, x1, x2, h)) = some r → pm_G g 0 [(0, .ref x0), (1, .ref x1), (2, .int x2)] [] h (pm_sz h - pm_sz h0) (pm_us h - pm_us h0)) ∧ (∀ (x0 : Nat) (x1 : Nat) (x2 : Int32) (x3 : Nat) (x4 : Int32) (x5 : Int32) (h : pm_H), pm_Le h0 h → pm_iter sX5_goOn n (.inr (.inl (x0, x1, x2, x3, x4, x5, h))) = some r → pm_G g 24 [(0, .ref x0), (1, .ref x1), (2, .int x2), (3, .ref x3), (4, .int x4), (5, .int x5)] [] h (pm_sz h - pm_sz h0) (pm_us h - pm_us h0)) ∧ (∀ (x0 : Nat) (x2 : Int32) (x5 : Int32) (h : pm_H), pm_Le h0 h → pm_iter sX5_goOn n (.inr (.inr (.inl (x0, x2, x5, h)))) = some r → pm_G g 84 [(0, .ref x0), (2, .int x2), (5, .int x5)] [] h (pm_sz h - pm_sz h0) (pm_us h - pm_us h0)) ∧ (∀ (h : pm_H), pm_Le h0 h → pm_iter sX5_goOn n (.inr (.inr (.inr h))) = some r → pm_G g 144 [] [] h (pm_sz h - pm_sz h0) (pm_us h - pm_us h0)) := by
  intro n
  induction n with
  | zero => exact ⟨fun _ _ _ _ _ hf => (by cases hf), fun _ _ _ _ _ _ _ _ hf => (by cases hf), fun _ _ _ _ _ hf => (by cases hf), fun  _ _ hf => (by cases hf)⟩
  | succ n ih =>
    refine ⟨fun x0 x1 x2 h m0 hf => ?_, ?_⟩
    · have le0 := (mlX5_goOn (n + 1)).1 x0 x1 x2 h hf
      have kc1 := Nat.sub_le_sub_right le0.1 (pm_sz h0)
      have kc2 := Nat.sub_le_sub_right le0.2 (pm_us h0)
      have K0 := pm_S3.rf h
      obtain ⟨y, hf, hi⟩ := pm_iter_s hf
      have hf : tX5_goOn_0 x0 x1 x2 h = some y := hf
      unfold tX5_goOn_0 at hf
      refine pm_aload_n C dX5_goOn_0 rfl rfl ?_
      obtain ⟨k1, hf⟩ := pm_if hf
      obtain ⟨v2, e3, hf⟩ := pm_bd hf
      refine pm_getR C dX5_goOn_1 flX5_24 rfl k1 e3 ?_
      refine pm_aload_n C dX5_goOn_4 rfl rfl ?_
      refine pm_getI C dX5_goOn_5 flX5_112 rfl k1 rfl ?_
      obtain ⟨k4, hf⟩ := pm_if hf
      obtain ⟨v5, e6, hf⟩ := pm_bd hf
      refine pm_callV (as := [.int (pm_I h x0 4)]) (st := []) C X dX5_goOn_8 lnX5_84 myX10_shapeOf viX10_shapeOf ⟨by decide, by decide⟩ rfl rfl k4 (Nat.le_of_ble_eq_true rfl) kc1 kc2 (ctX10_shapeOf e6 ?_)
      show pm_G g 11 [(0, .ref x0), (1, .ref x1), (2, .int x2)] [.ref v5] h (pm_sz h - pm_sz h0) (pm_us h - pm_us h0)
      refine pm_astore_n (lv' := [(3, .ref v5), (0, .ref x0), (1, .ref x1), (2, .int x2)]) C dX5_goOn_11 rfl (pm_nl X (by decide)) rfl ?_
      refine pm_iconst (v := 2) C dX5_goOn_12 (by decide) ?_
      refine pm_aload_n C dX5_goOn_13 rfl rfl ?_
      refine pm_iconst (v := 0) C dX5_goOn_14 (by decide) ?_
      obtain ⟨v7, e8, hf⟩ := pm_bd hf
      refine pm_callS (as := [.ref v5, .int 0]) (st := [.int 2]) C X dX5_goOn_15 lnX5_88 myX12_item stX12_item ⟨by decide, by decide⟩ rfl rfl (Nat.le_of_ble_eq_true rfl) kc1 kc2 (ctX12_item e8 ?_)
      show pm_G g 18 [(3, .ref v5), (0, .ref x0), (1, .ref x1), (2, .int x2)] [.int v7, .int 2] h (pm_sz h - pm_sz h0) (pm_us h - pm_us h0)
      refine pm_iadd C dX5_goOn_18 ?_
      obtain ⟨y9, e10, hf⟩ := pm_lt hf
      refine pm_topI e10 ?_
      refine pm_istore (lv' := [(4, .int y9), (3, .ref v5), (0, .ref x0), (1, .ref x1), (2, .int x2)]) C dX5_goOn_19 (pm_nl X (by decide)) rfl ?_
      refine pm_iconst (v := 0) C dX5_goOn_21 (by decide) ?_
      refine pm_istore (lv' := [(5, .int 0), (4, .int y9), (3, .ref v5), (0, .ref x0), (1, .ref x1), (2, .int x2)]) C dX5_goOn_22 (pm_nl X (by decide)) rfl ?_
      cases hf
      exact pa_join K0 (pm_sub [3, 4, 5, 2, 1, 0] rfl (ih.2.1 x0 x1 x2 v5 y9 0 h (m0.trans (pm_S3.le K0)) hi))
    refine ⟨fun x0 x1 x2 x3 x4 x5 h m0 hf => ?_, ?_⟩
    · have le0 := (mlX5_goOn (n + 1)).2.1 x0 x1 x2 x3 x4 x5 h hf
      have kc1 := Nat.sub_le_sub_right le0.1 (pm_sz h0)
      have kc2 := Nat.sub_le_sub_right le0.2 (pm_us h0)
      have K0 := pm_S3.rf h
      obtain ⟨y, hf, hi⟩ := pm_iter_s hf
      have hf : tX5_goOn_24 x0 x1 x2 x3 x4 x5 h = some y := hf
      unfold tX5_goOn_24 at hf
      refine pm_iload C dX5_goOn_24 rfl ?_
      refine pm_iload_n C dX5_goOn_26 rfl rfl ?_
      refine pm_icmp_ge (tgt := 63) C dX5_goOn_27 (by decide) (fun c11 => ?_) (fun c11 => ?_)
      · have hf := pm_it hf c11
        refine pm_aload_n C dX5_goOn_63 rfl rfl ?_
        refine pm_iload_n C dX5_goOn_64 rfl rfl ?_
        obtain ⟨k12, hf⟩ := pm_if hf
        refine pm_putI C dX5_goOn_65 flX5_115 rfl rfl k12 rfl rfl ?_
        refine pm_aload_n C dX5_goOn_68 rfl rfl ?_
        refine pm_getI C dX5_goOn_69 flX5_59 rfl k12 rfl ?_
        refine pm_if_ne (tgt := 81) C dX5_goOn_72 (by decide) (fun c13 => ?_) (fun c13 => ?_)
        · have hf := pm_ie hf c13
          refine pm_iconst (v := 0) C dX5_goOn_81 (by decide) ?_
          refine pm_istore (lv' := [(5, .int 0), (0, .ref x0), (1, .ref x1), (2, .int x2), (3, .ref x3), (4, .int x4)]) C dX5_goOn_82 (pm_nl X (by decide)) rfl ?_
          cases hf
          exact pa_join (pm_S3I K0) (pm_sub [1, 3, 0] rfl (ih.2.2.1 x0 x2 0 (pm_setI h x0 7 x2) (m0.trans (pm_S3.le (pm_S3I K0))) hi))
        · have hf := pm_it hf c13
          refine pm_aload_n C dX5_goOn_75 rfl rfl ?_
          refine pm_iconst (v := 2) C dX5_goOn_76 (by decide) ?_
          obtain ⟨v14, e15, hf⟩ := pm_bd hf
          refine pm_callV (as := [.int 2]) (st := []) C X dX5_goOn_77 lnX5_74 myX5_stop viX5_stop ⟨by decide, by decide⟩ rfl rfl k12 (Nat.le_of_ble_eq_true rfl) kc1 kc2 (ctX5_stop e15 ?_)
          have K16 := pm_S3.trans (kpX5_stop e15) (pm_S3I K0)
          show pm_G g 80 [(0, .ref x0), (1, .ref x1), (2, .int x2), (3, .ref x3), (4, .int x4), (5, .int x5)] [] v14 (pm_sz h - pm_sz h0) (pm_us h - pm_us h0)
          have hf := Option.some.inj hf
          subst hf
          have hi := Option.some.inj (show some _ = some r from hi)
          subst hi
          exact pm_vret C X dX5_goOn_80 rfl kc1 kc2 q
      · have hf := pm_ie hf c11
        refine pm_aload_n C dX5_goOn_30 rfl rfl ?_
        obtain ⟨k17, hf⟩ := pm_if hf
        obtain ⟨v18, e19, hf⟩ := pm_bd hf
        refine pm_getR C dX5_goOn_31 flX5_9 rfl k17 e19 ?_
        refine pm_iload C dX5_goOn_34 rfl ?_
        refine pm_aload_n C dX5_goOn_36 rfl rfl ?_
        refine pm_iload C dX5_goOn_37 rfl ?_
        refine pm_iload C dX5_goOn_39 rfl ?_
        refine pm_iadd C dX5_goOn_41 ?_
        obtain ⟨v20, e21, hf⟩ := pm_bd hf
        refine pm_callS (as := [.ref x3, .int (x4 + x5)]) (st := [.int x5, .ref v18]) C X dX5_goOn_42 lnX5_88 myX12_item stX12_item ⟨by decide, by decide⟩ rfl rfl (Nat.le_of_ble_eq_true rfl) kc1 kc2 (ctX12_item e21 ?_)
        show pm_G g 45 [(0, .ref x0), (1, .ref x1), (2, .int x2), (3, .ref x3), (4, .int x4), (5, .int x5)] [.int v20, .int x5, .ref v18] h (pm_sz h - pm_sz h0) (pm_us h - pm_us h0)
        refine pm_aload_n C dX5_goOn_45 rfl rfl ?_
        refine pm_iload C dX5_goOn_46 rfl ?_
        obtain ⟨v22, e23, hf⟩ := pm_bd hf
        refine pm_callS (as := [.ref x1, .int x5]) (st := [.int v20, .int x5, .ref v18]) C X dX5_goOn_48 lnX5_92 myX12_item_ stX12_item_ ⟨by decide, by decide⟩ rfl rfl (Nat.le_of_ble_eq_true rfl) kc1 kc2 (ctX12_item_ e23 ?_)
        show pm_G g 51 [(0, .ref x0), (1, .ref x1), (2, .int x2), (3, .ref x3), (4, .int x4), (5, .int x5)] [.long v22, .int v20, .int x5, .ref v18] h (pm_sz h - pm_sz h0) (pm_us h - pm_us h0)
        obtain ⟨v24, e25, hf⟩ := pm_lt hf
        refine pm_callS (as := [.int v20, .long v22]) (st := [.int x5, .ref v18]) C X dX5_goOn_51 lnX5_95 myX5_toldBits stX5_toldBits ⟨by decide, by decide⟩ rfl rfl (Nat.le_of_ble_eq_true rfl) kc1 kc2 (ctX5_toldBits e25 ?_)
        show pm_G g 54 [(0, .ref x0), (1, .ref x1), (2, .int x2), (3, .ref x3), (4, .int x4), (5, .int x5)] [.long v24, .int x5, .ref v18] h (pm_sz h - pm_sz h0) (pm_us h - pm_us h0)
        obtain ⟨v26, e27, hf⟩ := pm_bd hf
        refine pm_callS (as := [.ref v18, .int x5, .long v24]) (st := []) C X dX5_goOn_54 lnX5_99 myX12_setItem_ stX12_setItem_ ⟨by decide, by decide⟩ rfl rfl (Nat.le_of_ble_eq_true rfl) kc1 kc2 (ctX12_setItem_ e27 ?_)
        have K28 := pm_S3.trans (kpX12_setItem_ e27) K0
        show pm_G g 57 [(0, .ref x0), (1, .ref x1), (2, .int x2), (3, .ref x3), (4, .int x4), (5, .int x5)] [] v26 (pm_sz h - pm_sz h0) (pm_us h - pm_us h0)
        obtain ⟨y29, e30, hf⟩ := pm_lt hf
        refine pm_iinc (v := y29) (lv' := [(5, .int y29), (0, .ref x0), (1, .ref x1), (2, .int x2), (3, .ref x3), (4, .int x4)]) C dX5_goOn_57 rfl ((congrArg (x5 + ·) (by decide : Int32.ofInt 1 = 1)).trans e30) (pm_nl X (by decide)) rfl ?_
        refine pm_goto (tgt := 24) C dX5_goOn_60 (by decide) ?_
        cases hf
        exact pa_join K28 (pm_sub [1, 2, 3, 4, 5, 0] rfl (ih.2.1 x0 x1 x2 x3 x4 y29 v26 (m0.trans (pm_S3.le K28)) hi))
    refine ⟨fun x0 x2 x5 h m0 hf => ?_, ?_⟩
    · have le0 := (mlX5_goOn (n + 1)).2.2.1 x0 x2 x5 h hf
      have kc1 := Nat.sub_le_sub_right le0.1 (pm_sz h0)
      have kc2 := Nat.sub_le_sub_right le0.2 (pm_us h0)
      have K0 := pm_S3.rf h
      obtain ⟨y, hf, hi⟩ := pm_iter_s hf
      have hf : tX5_goOn_84 x0 x2 x5 h = some y := hf
      unfold tX5_goOn_84 at hf
      refine pm_iload C dX5_goOn_84 rfl ?_
      refine pm_iload_n C dX5_goOn_86 rfl rfl ?_
      refine pm_icmp_ge (tgt := 122) C dX5_goOn_87 (by decide) (fun c31 => ?_) (fun c31 => ?_)
      · have hf := pm_it hf c31
        refine pm_aload_n C dX5_goOn_122 rfl rfl ?_
        obtain ⟨k32, hf⟩ := pm_if hf
        obtain ⟨v33, e34, hf⟩ := pm_bd hf
        refine pm_getR C dX5_goOn_123 flX5_51 rfl k32 e34 ?_
        refine pm_dup C dX5_goOn_126 rfl ?_
        obtain ⟨k35, hf⟩ := pm_if hf
        refine pm_getI C dX5_goOn_127 flX5_118 rfl k35 rfl ?_
        refine pm_iload_n C dX5_goOn_130 rfl rfl ?_
        refine pm_iadd C dX5_goOn_131 ?_
        obtain ⟨y36, e37, hf⟩ := pm_lt hf
        refine pm_topI e37 ?_
        refine pm_putI C dX5_goOn_132 flX5_118 rfl rfl k35 rfl rfl ?_
        refine pm_aload_n C dX5_goOn_135 rfl rfl ?_
        refine pm_iconst (v := 1) C dX5_goOn_136 (by decide) ?_
        refine pm_putI C dX5_goOn_137 flX5_55 rfl rfl k32 rfl rfl ?_
        refine pm_aload_n C dX5_goOn_140 rfl rfl ?_
        obtain ⟨v38, e39, hf⟩ := pm_bd hf
        cases hf
        refine pm_callV (as := []) (st := []) C X dX5_goOn_141 lnX5_107 myX5_settle viX5_settle ⟨by decide, by decide⟩ rfl rfl k32 (Nat.le_of_ble_eq_true rfl) (pa_le1 (pm_S3I (pm_S3I K0)) m0 (moX5_settle e39) ((mlX5_goOn n).2.2.2 v38 hi)) (pa_le2 (pm_S3I (pm_S3I K0)) m0 (moX5_settle e39) ((mlX5_goOn n).2.2.2 v38 hi)) (ctX5_settle e39 ?_)
        show pm_G g 144 [(0, .ref x0), (2, .int x2), (5, .int x5)] [] v38 (pm_sz h - pm_sz h0 + (pm_sz v38 - pm_sz (pm_setI (pm_setI h v33 5 y36) x0 0 1))) (pm_us h - pm_us h0 + (pm_us v38 - pm_us (pm_setI (pm_setI h v33 5 y36) x0 0 1)))
        refine pa_fin (pm_S3I (pm_S3I K0)) m0 (moX5_settle e39) ?_
        exact pm_sub [] rfl (ih.2.2.2 v38 ((m0.trans (pm_S3.le (pm_S3I (pm_S3I K0)))).trans (moX5_settle e39)) hi)
      · have hf := pm_ie hf c31
        refine pm_aload_n C dX5_goOn_90 rfl rfl ?_
        obtain ⟨k40, hf⟩ := pm_if hf
        obtain ⟨v41, e42, hf⟩ := pm_bd hf
        refine pm_getR C dX5_goOn_91 flX5_15 rfl k40 e42 ?_
        refine pm_aload_n C dX5_goOn_94 rfl rfl ?_
        obtain ⟨v43, e44, hf⟩ := pm_bd hf
        refine pm_getR C dX5_goOn_95 flX5_51 rfl k40 e44 ?_
        obtain ⟨k45, hf⟩ := pm_if hf
        refine pm_getI C dX5_goOn_98 flX5_118 rfl k45 rfl ?_
        refine pm_iload C dX5_goOn_101 rfl ?_
        refine pm_iadd C dX5_goOn_103 ?_
        refine pm_aload_n C dX5_goOn_104 rfl rfl ?_
        obtain ⟨v46, e47, hf⟩ := pm_bd hf
        refine pm_getR C dX5_goOn_105 flX5_9 rfl k40 e47 ?_
        refine pm_iload C dX5_goOn_108 rfl ?_
        obtain ⟨v48, e49, hf⟩ := pm_bd hf
        refine pm_callS (as := [.ref v46, .int x5]) (st := [.int ((pm_I h v43 5) + x5), .ref v41]) C X dX5_goOn_110 lnX5_92 myX12_item_ stX12_item_ ⟨by decide, by decide⟩ rfl rfl (Nat.le_of_ble_eq_true rfl) kc1 kc2 (ctX12_item_ e49 ?_)
        show pm_G g 113 [(0, .ref x0), (2, .int x2), (5, .int x5)] [.long v48, .int ((pm_I h v43 5) + x5), .ref v41] h (pm_sz h - pm_sz h0) (pm_us h - pm_us h0)
        obtain ⟨v50, e51, hf⟩ := pm_bd hf
        refine pm_callS (as := [.ref v41, .int ((pm_I h v43 5) + x5), .long v48]) (st := []) C X dX5_goOn_113 lnX5_99 myX12_setItem_ stX12_setItem_ ⟨by decide, by decide⟩ rfl rfl (Nat.le_of_ble_eq_true rfl) kc1 kc2 (ctX12_setItem_ e51 ?_)
        have K52 := pm_S3.trans (kpX12_setItem_ e51) K0
        show pm_G g 116 [(0, .ref x0), (2, .int x2), (5, .int x5)] [] v50 (pm_sz h - pm_sz h0) (pm_us h - pm_us h0)
        obtain ⟨y53, e54, hf⟩ := pm_lt hf
        refine pm_iinc (v := y53) (lv' := [(5, .int y53), (0, .ref x0), (2, .int x2)]) C dX5_goOn_116 rfl ((congrArg (x5 + ·) (by decide : Int32.ofInt 1 = 1)).trans e54) (pm_nl X (by decide)) rfl ?_
        refine pm_goto (tgt := 84) C dX5_goOn_119 (by decide) ?_
        cases hf
        exact pa_join K52 (pm_sub [1, 2, 0] rfl (ih.2.2.1 x0 x2 y53 v50 (m0.trans (pm_S3.le K52)) hi))
    refine fun h m0 hf => ?_
    have le0 := (mlX5_goOn (n + 1)).2.2.2 h hf
    have kc1 := Nat.sub_le_sub_right le0.1 (pm_sz h0)
    have kc2 := Nat.sub_le_sub_right le0.2 (pm_us h0)
    have K0 := pm_S3.rf h
    obtain ⟨y, hf, hi⟩ := pm_iter_s hf
    have hf : tX5_goOn_144 h = some y := hf
    unfold tX5_goOn_144 at hf
    have hf := Option.some.inj hf
    subst hf
    have hi := Option.some.inj (show some _ = some r from hi)
    subst hi
    exact pm_vret C X dX5_goOn_144 rfl kc1 kc2 q
set_option maxHeartbeats 4000000 in
set_option maxRecDepth 100000 in
theorem ctX5_goOn {l : Launch} {G : pm_Gl} {h : pm_H} {a0 : Nat} {p1 : Nat} {p2 : Int32} {r : pm_H} {Qr : Option Value → pm_H → Prop} (hf : fX5_goOn h a0 p1 p2 = some r) (q : Qr none r) : pm_Ct l G mX5_goOn [.ref a0, .ref p1, .int p2] h (pm_sz r - pm_sz h) (pm_us r - pm_us h) Qr := by
  refine pm_body pnX5 (Nat.le_of_ble_eq_true rfl) (fun g C X => ?_)
  have C : pm_C g cX5_goOn RX5 := C
  show pm_G g 0 [(0, .ref a0), (1, .ref p1), (2, .int p2)] [] h 0 0
  unfold fX5_goOn at hf
  obtain ⟨n, hn⟩ := pm_lim_iter hf
  exact pa_start (pm_sub [0, 1, 2] rfl ((lpX5_goOn C X q n).1 a0 p1 p2 h (pm_Le.rf h) hn))
