theorem dX6_grow_0 : decode cX6_grow 0 = .ok (.aload_n 0, 1) := by decide +kernel
theorem dX6_grow_1 : decode cX6_grow 1 = .ok (.getfield 15, 3) := by decide +kernel
theorem dX6_grow_4 : decode cX6_grow 4 = .ok (.iload_n 1, 1) := by decide +kernel
theorem dX6_grow_5 : decode cX6_grow 5 = .ok (.invokestatic 52, 3) := by decide +kernel
theorem dX6_grow_8 : decode cX6_grow 8 = .ok (.istore 4, 2) := by decide +kernel
theorem dX6_grow_10 : decode cX6_grow 10 = .ok (.aload_n 0, 1) := by decide +kernel
theorem dX6_grow_11 : decode cX6_grow 11 = .ok (.getfield 19, 3) := by decide +kernel
theorem dX6_grow_14 : decode cX6_grow 14 = .ok (.iload_n 1, 1) := by decide +kernel
theorem dX6_grow_15 : decode cX6_grow 15 = .ok (.invokestatic 56, 3) := by decide +kernel
theorem dX6_grow_18 : decode cX6_grow 18 = .ok (.lconst 0, 1) := by decide +kernel
theorem dX6_grow_19 : decode cX6_grow 19 = .ok (.lcmp, 1) := by decide +kernel
theorem dX6_grow_20 : decode cX6_grow 20 = .ok (.ifCond .ge 9, 3) := by decide +kernel
theorem dX6_grow_23 : decode cX6_grow 23 = .ok (.ldc2_w 59, 3) := by decide +kernel
theorem dX6_grow_26 : decode cX6_grow 26 = .ok (.goto 11, 3) := by decide +kernel
theorem dX6_grow_29 : decode cX6_grow 29 = .ok (.aload_n 0, 1) := by decide +kernel
theorem dX6_grow_30 : decode cX6_grow 30 = .ok (.getfield 19, 3) := by decide +kernel
theorem dX6_grow_33 : decode cX6_grow 33 = .ok (.iload_n 1, 1) := by decide +kernel
theorem dX6_grow_34 : decode cX6_grow 34 = .ok (.invokestatic 56, 3) := by decide +kernel
theorem dX6_grow_37 : decode cX6_grow 37 = .ok (.lstore 5, 2) := by decide +kernel
theorem dX6_grow_39 : decode cX6_grow 39 = .ok (.iload_n 1, 1) := by decide +kernel
theorem dX6_grow_40 : decode cX6_grow 40 = .ok (.ifCond .lt 24, 3) := by decide +kernel
theorem dX6_grow_43 : decode cX6_grow 43 = .ok (.lload_n 2, 1) := by decide +kernel
theorem dX6_grow_44 : decode cX6_grow 44 = .ok (.aload_n 0, 1) := by decide +kernel
theorem dX6_grow_45 : decode cX6_grow 45 = .ok (.getfield 11, 3) := by decide +kernel
theorem dX6_grow_48 : decode cX6_grow 48 = .ok (.i2l, 1) := by decide +kernel
theorem dX6_grow_49 : decode cX6_grow 49 = .ok (.lcmp, 1) := by decide +kernel
theorem dX6_grow_50 : decode cX6_grow 50 = .ok (.ifCond .gt 14, 3) := by decide +kernel
theorem dX6_grow_53 : decode cX6_grow 53 = .ok (.iload 4, 2) := by decide +kernel
theorem dX6_grow_55 : decode cX6_grow 55 = .ok (.i2l, 1) := by decide +kernel
theorem dX6_grow_56 : decode cX6_grow 56 = .ok (.lload_n 2, 1) := by decide +kernel
theorem dX6_grow_57 : decode cX6_grow 57 = .ok (.ladd, 1) := by decide +kernel
theorem dX6_grow_58 : decode cX6_grow 58 = .ok (.lload 5, 2) := by decide +kernel
theorem dX6_grow_60 : decode cX6_grow 60 = .ok (.lcmp, 1) := by decide +kernel
theorem dX6_grow_61 : decode cX6_grow 61 = .ok (.ifCond .le 5, 3) := by decide +kernel
theorem dX6_grow_64 : decode cX6_grow 64 = .ok (.iconst (-1), 1) := by decide +kernel
theorem dX6_grow_65 : decode cX6_grow 65 = .ok (.ireturn, 1) := by decide +kernel
theorem dX6_grow_66 : decode cX6_grow 66 = .ok (.iconst 0, 1) := by decide +kernel
theorem dX6_grow_67 : decode cX6_grow 67 = .ok (.istore 7, 2) := by decide +kernel
theorem dX6_grow_69 : decode cX6_grow 69 = .ok (.iload 7, 2) := by decide +kernel
theorem dX6_grow_71 : decode cX6_grow 71 = .ok (.i2l, 1) := by decide +kernel
theorem dX6_grow_72 : decode cX6_grow 72 = .ok (.lload_n 2, 1) := by decide +kernel
theorem dX6_grow_73 : decode cX6_grow 73 = .ok (.lcmp, 1) := by decide +kernel
theorem dX6_grow_74 : decode cX6_grow 74 = .ok (.ifCond .ge 42, 3) := by decide +kernel
theorem dX6_grow_77 : decode cX6_grow 77 = .ok (.iload_n 1, 1) := by decide +kernel
theorem dX6_grow_78 : decode cX6_grow 78 = .ok (.bipush 8, 2) := by decide +kernel
theorem dX6_grow_80 : decode cX6_grow 80 = .ok (.imul, 1) := by decide +kernel
theorem dX6_grow_81 : decode cX6_grow 81 = .ok (.iload 4, 2) := by decide +kernel
theorem dX6_grow_83 : decode cX6_grow 83 = .ok (.iadd, 1) := by decide +kernel
theorem dX6_grow_84 : decode cX6_grow 84 = .ok (.iload 7, 2) := by decide +kernel
theorem dX6_grow_86 : decode cX6_grow 86 = .ok (.iadd, 1) := by decide +kernel
theorem dX6_grow_87 : decode cX6_grow 87 = .ok (.istore 8, 2) := by decide +kernel
theorem dX6_grow_89 : decode cX6_grow 89 = .ok (.iload 8, 2) := by decide +kernel
theorem dX6_grow_91 : decode cX6_grow 91 = .ok (.aload_n 0, 1) := by decide +kernel
theorem dX6_grow_92 : decode cX6_grow 92 = .ok (.getfield 25, 3) := by decide +kernel
theorem dX6_grow_95 : decode cX6_grow 95 = .ok (.arraylength, 1) := by decide +kernel
theorem dX6_grow_96 : decode cX6_grow 96 = .ok (.if_icmp .ge 14, 3) := by decide +kernel
theorem dX6_grow_99 : decode cX6_grow 99 = .ok (.aload_n 0, 1) := by decide +kernel
theorem dX6_grow_100 : decode cX6_grow 100 = .ok (.getfield 25, 3) := by decide +kernel
theorem dX6_grow_103 : decode cX6_grow 103 = .ok (.iload 8, 2) := by decide +kernel
theorem dX6_grow_105 : decode cX6_grow 105 = .ok (.ldc 61, 2) := by decide +kernel
theorem dX6_grow_107 : decode cX6_grow 107 = .ok (.newarray .byte, 2) := by decide +kernel
theorem dX6_grow_109 : decode cX6_grow 109 = .ok (.aastore, 1) := by decide +kernel
theorem dX6_grow_110 : decode cX6_grow 110 = .ok (.iinc 7 1, 3) := by decide +kernel
theorem dX6_grow_113 : decode cX6_grow 113 = .ok (.goto (-44), 3) := by decide +kernel
theorem dX6_grow_116 : decode cX6_grow 116 = .ok (.aload_n 0, 1) := by decide +kernel
theorem dX6_grow_117 : decode cX6_grow 117 = .ok (.dup, 1) := by decide +kernel
theorem dX6_grow_118 : decode cX6_grow 118 = .ok (.getfield 11, 3) := by decide +kernel
theorem dX6_grow_121 : decode cX6_grow 121 = .ok (.lload_n 2, 1) := by decide +kernel
theorem dX6_grow_122 : decode cX6_grow 122 = .ok (.l2i, 1) := by decide +kernel
theorem dX6_grow_123 : decode cX6_grow 123 = .ok (.isub, 1) := by decide +kernel
theorem dX6_grow_124 : decode cX6_grow 124 = .ok (.putfield 11, 3) := by decide +kernel
theorem dX6_grow_127 : decode cX6_grow 127 = .ok (.aload_n 0, 1) := by decide +kernel
theorem dX6_grow_128 : decode cX6_grow 128 = .ok (.getfield 15, 3) := by decide +kernel
theorem dX6_grow_131 : decode cX6_grow 131 = .ok (.iload_n 1, 1) := by decide +kernel
theorem dX6_grow_132 : decode cX6_grow 132 = .ok (.iload 4, 2) := by decide +kernel
theorem dX6_grow_134 : decode cX6_grow 134 = .ok (.lload_n 2, 1) := by decide +kernel
theorem dX6_grow_135 : decode cX6_grow 135 = .ok (.l2i, 1) := by decide +kernel
theorem dX6_grow_136 : decode cX6_grow 136 = .ok (.iadd, 1) := by decide +kernel
theorem dX6_grow_137 : decode cX6_grow 137 = .ok (.invokestatic 41, 3) := by decide +kernel
theorem dX6_grow_140 : decode cX6_grow 140 = .ok (.iload 4, 2) := by decide +kernel
theorem dX6_grow_142 : decode cX6_grow 142 = .ok (.ireturn, 1) := by decide +kernel
def tX6_grow_0 (x0 : Nat) (x1 : Int32) (x2 : Int64) (h : pm_H) : Option (((Nat × Int32 × Int64 × pm_H) ⊕ (Nat × Int32 × Int64 × Int32 × Int64 × pm_H) ⊕ (Nat × Int32 × Int64 × Int32 × Int32 × pm_H) ⊕ (Nat × Int32 × Int64 × Int32 × Int32 × Nat × Int32 × Nat × pm_H)) ⊕ (Int32 × pm_H)) := if pm_kd h x0 = 6 then (pm_R h x0 2).bind fun v2 => (fX12_item h v2 x1).bind fun v4 => (pm_R h x0 3).bind fun v6 => (fX12_item_ h v6 x1).bind fun v8 => if 0 ≤ v8 then ((fX12_item_ h v6 x1).bind fun v11 => some (.inl (.inr (.inl ((x0, x1, x2, v4, v11, h)))))) else (some (.inl (.inr (.inl ((x0, x1, x2, v4, 65536, h)))))) else none
def tX6_grow_37 (x0 : Nat) (x1 : Int32) (x2 : Int64) (x4 : Int32) (s0 : Int64) (h : pm_H) : Option (((Nat × Int32 × Int64 × pm_H) ⊕ (Nat × Int32 × Int64 × Int32 × Int64 × pm_H) ⊕ (Nat × Int32 × Int64 × Int32 × Int32 × pm_H) ⊕ (Nat × Int32 × Int64 × Int32 × Int32 × Nat × Int32 × Nat × pm_H)) ⊕ (Int32 × pm_H)) := if x1 < 0 then (some (.inr (((-1), h)))) else (if pm_kd h x0 = 6 then if ((pm_I h x0 1).toInt64) < x2 then (some (.inr (((-1), h)))) else (if (x4.toInt64 + x2) ≤ s0 then (some (.inl (.inr (.inr (.inl ((x0, x1, x2, x4, 0, h))))))) else (some (.inr (((-1), h))))) else none)
def tX6_grow_69 (x0 : Nat) (x1 : Int32) (x2 : Int64) (x4 : Int32) (x7 : Int32) (h : pm_H) : Option (((Nat × Int32 × Int64 × pm_H) ⊕ (Nat × Int32 × Int64 × Int32 × Int64 × pm_H) ⊕ (Nat × Int32 × Int64 × Int32 × Int32 × pm_H) ⊕ (Nat × Int32 × Int64 × Int32 × Int32 × Nat × Int32 × Nat × pm_H)) ⊕ (Int32 × pm_H)) := if x2 ≤ x7.toInt64 then (if pm_kd h x0 = 6 then pm_let ((pm_I h x0 1) - x2.toInt32) fun y19 => (pm_R (pm_setI h x0 1 y19) x0 2).bind fun v21 => (fX12_setItem (pm_setI h x0 1 y19) v21 x1 (x4 + x2.toInt32)).bind fun v23 => some (.inr ((x4, v23))) else none) else (pm_let (((x1 * 8) + x4) + x7) fun y26 => if pm_kd h x0 = 6 then (pm_R h x0 4).bind fun v29 => if pm_kd h v29 = 37 then if (Int32.ofNat (pm_ln h v29)) ≤ y26 then (pm_let (x7 + 1) fun y33 => some (.inl (.inr (.inr (.inl ((x0, x1, x2, x4, y33, h))))))) else (some (.inl (.inr (.inr (.inr ((x0, x1, x2, x4, x7, pm_sz h, y26, v29, pm_new h 33 65536))))))) else none else none)
def tX6_grow_109 (x0 : Nat) (x1 : Int32) (x2 : Int64) (x4 : Int32) (x7 : Int32) (s0 : Nat) (s1 : Int32) (s2 : Nat) (h : pm_H) : Option (((Nat × Int32 × Int64 × pm_H) ⊕ (Nat × Int32 × Int64 × Int32 × Int64 × pm_H) ⊕ (Nat × Int32 × Int64 × Int32 × Int32 × pm_H) ⊕ (Nat × Int32 × Int64 × Int32 × Int32 × Nat × Int32 × Nat × pm_H)) ⊕ (Int32 × pm_H)) := if pm_kd h s2 = 37 then if pm_kd h s0 = 33 then if pm_in s1 (pm_ln h s2) then pm_let (x7 + 1) fun y38 => some (.inl (.inr (.inr (.inl ((x0, x1, x2, x4, y38, pm_setR h s2 s1.toNatClampNeg (some s0))))))) else none else none else none
def sX6_grow : ((Nat × Int32 × Int64 × pm_H) ⊕ (Nat × Int32 × Int64 × Int32 × Int64 × pm_H) ⊕ (Nat × Int32 × Int64 × Int32 × Int32 × pm_H) ⊕ (Nat × Int32 × Int64 × Int32 × Int32 × Nat × Int32 × Nat × pm_H)) → Option (((Nat × Int32 × Int64 × pm_H) ⊕ (Nat × Int32 × Int64 × Int32 × Int64 × pm_H) ⊕ (Nat × Int32 × Int64 × Int32 × Int32 × pm_H) ⊕ (Nat × Int32 × Int64 × Int32 × Int32 × Nat × Int32 × Nat × pm_H)) ⊕ (Int32 × pm_H)) := fun z => match z with
  | .inl (x0, x1, x2, h) => tX6_grow_0 x0 x1 x2 h
  | .inr (.inl (x0, x1, x2, x4, s0, h)) => tX6_grow_37 x0 x1 x2 x4 s0 h
  | .inr (.inr (.inl (x0, x1, x2, x4, x7, h))) => tX6_grow_69 x0 x1 x2 x4 x7 h
  | .inr (.inr (.inr (x0, x1, x2, x4, x7, s0, s1, s2, h))) => tX6_grow_109 x0 x1 x2 x4 x7 s0 s1 s2 h
noncomputable def fX6_grow (h : pm_H) (a0 : Nat) (p1 : Int32) (p2 : Int64) : Option (Int32 × pm_H) := pm_lim sX6_grow (.inl ((a0, p1, p2, h)))
set_option maxHeartbeats 4000000 in
set_option maxRecDepth 100000 in
theorem mlX6_grow {r : (Int32 × pm_H)} : ∀ n : Nat, (∀ (x0 : Nat) (x1 : Int32) (x2 : Int64) (h : pm_H), pm_iter sX6_grow n (.inl (x0, x1, x2, h)) = some r → pm_Le h r.2) ∧ (∀ (x0 : Nat) (x1 : Int32) (x2 : Int64) (x4 : Int32) (s0 : Int64) (h : pm_H), pm_iter sX6_grow n (.inr (.inl (x0, x1, x2, x4, s0, h))) = some r → pm_Le h r.2) ∧ (∀ (x0 : Nat) (x1 : Int32) (x2 : Int64) (x4 : Int32) (x7 : Int32) (h : pm_H), pm_iter sX6_grow n (.inr (.inr (.inl (x0, x1, x2, x4, x7, h)))) = some r → pm_Le h r.2) ∧ (∀ (x0 : Nat) (x1 : Int32) (x2 : Int64) (x4 : Int32) (x7 : Int32) (s0 : Nat) (s1 : Int32) (s2 : Nat) (h : pm_H), pm_iter sX6_grow n (.inr (.inr (.inr (x0, x1, x2, x4, x7, s0, s1, s2, h)))) = some r → pm_Le h r.2) := by
  intro n
  induction n with
  | zero => exact ⟨fun _ _ _ _ hf => (by cases hf), fun _ _ _ _ _ _ hf => (by cases hf), fun _ _ _ _ _ _ hf => (by cases hf), fun _ _ _ _ _ _ _ _ _ hf => (by cases hf)⟩
  | succ n ih =>
    refine ⟨fun x0 x1 x2 h hf => ?_, ?_⟩
    · obtain ⟨y, hf, hi⟩ := pm_iter_s hf
      have hf : tX6_grow_0 x0 x1 x2 h = some y := hf
      unfold tX6_grow_0 at hf
      have K0 := pm_S3.rf h
      obtain ⟨k1, hf⟩ := pm_if hf
      obtain ⟨v2, e3, hf⟩ := pm_bd hf
      obtain ⟨v4, e5, hf⟩ := pm_bd hf
      obtain ⟨v6, e7, hf⟩ := pm_bd hf
      obtain ⟨v8, e9, hf⟩ := pm_bd hf
      by_cases c10 : 0 ≤ v8
      · have hf := pm_it hf c10
        obtain ⟨v11, e12, hf⟩ := pm_bd hf
        cases hf
        exact (pm_S3.le K0).trans (ih.2.1 x0 x1 x2 v4 v11 h hi)
      · have hf := pm_ie hf c10
        cases hf
        exact (pm_S3.le K0).trans (ih.2.1 x0 x1 x2 v4 65536 h hi)
    refine ⟨fun x0 x1 x2 x4 s0 h hf => ?_, ?_⟩
    · obtain ⟨y, hf, hi⟩ := pm_iter_s hf
      have hf : tX6_grow_37 x0 x1 x2 x4 s0 h = some y := hf
      unfold tX6_grow_37 at hf
      have K0 := pm_S3.rf h
      by_cases c13 : x1 < 0
      · have hf := pm_it hf c13
        have hf := Option.some.inj hf
        subst hf
        have hi := Option.some.inj (show some _ = some r from hi)
        subst hi
        exact pm_S3.le K0
      · have hf := pm_ie hf c13
        obtain ⟨k14, hf⟩ := pm_if hf
        by_cases c15 : ((pm_I h x0 1).toInt64) < x2
        · have hf := pm_it hf c15
          have hf := Option.some.inj hf
          subst hf
          have hi := Option.some.inj (show some _ = some r from hi)
          subst hi
          exact pm_S3.le K0
        · have hf := pm_ie hf c15
          by_cases c16 : (x4.toInt64 + x2) ≤ s0
          · have hf := pm_it hf c16
            cases hf
            exact (pm_S3.le K0).trans (ih.2.2.1 x0 x1 x2 x4 0 h hi)
          · have hf := pm_ie hf c16
            have hf := Option.some.inj hf
            subst hf
            have hi := Option.some.inj (show some _ = some r from hi)
            subst hi
            exact pm_S3.le K0
    refine ⟨fun x0 x1 x2 x4 x7 h hf => ?_, ?_⟩
    · obtain ⟨y, hf, hi⟩ := pm_iter_s hf
      have hf : tX6_grow_69 x0 x1 x2 x4 x7 h = some y := hf
      unfold tX6_grow_69 at hf
      have K0 := pm_S3.rf h
      by_cases c17 : x2 ≤ x7.toInt64
      · have hf := pm_it hf c17
        obtain ⟨k18, hf⟩ := pm_if hf
        obtain ⟨y19, e20, hf⟩ := pm_lt hf
        obtain ⟨v21, e22, hf⟩ := pm_bd hf
        obtain ⟨v23, e24, hf⟩ := pm_bd hf
        have K25 := pm_S3.trans (kpX12_setItem e24) (pm_S3I K0)
        have hf := Option.some.inj hf
        subst hf
        have hi := Option.some.inj (show some _ = some r from hi)
        subst hi
        exact pm_S3.le K25
      · have hf := pm_ie hf c17
        obtain ⟨y26, e27, hf⟩ := pm_lt hf
        obtain ⟨k28, hf⟩ := pm_if hf
        obtain ⟨v29, e30, hf⟩ := pm_bd hf
        obtain ⟨k31, hf⟩ := pm_if hf
        by_cases c32 : (Int32.ofNat (pm_ln h v29)) ≤ y26
        · have hf := pm_it hf c32
          obtain ⟨y33, e34, hf⟩ := pm_lt hf
          cases hf
          exact (pm_S3.le K0).trans (ih.2.2.1 x0 x1 x2 x4 y33 h hi)
        · have hf := pm_ie hf c32
          cases hf
          exact ((pm_S3.le K0).trans (pm_Le_new _ _ _)).trans (ih.2.2.2 x0 x1 x2 x4 x7 (pm_sz h) y26 v29 (pm_new h 33 65536) hi)
    refine fun x0 x1 x2 x4 x7 s0 s1 s2 h hf => ?_
    obtain ⟨y, hf, hi⟩ := pm_iter_s hf
    have hf : tX6_grow_109 x0 x1 x2 x4 x7 s0 s1 s2 h = some y := hf
    unfold tX6_grow_109 at hf
    have K0 := pm_S3.rf h
    obtain ⟨k35, hf⟩ := pm_if hf
    obtain ⟨k36, hf⟩ := pm_if hf
    obtain ⟨u37, hf⟩ := pm_if hf
    obtain ⟨y38, e39, hf⟩ := pm_lt hf
    cases hf
    exact (pm_S3.le (pm_S3R K0)).trans (ih.2.2.1 x0 x1 x2 x4 y38 (pm_setR h s2 s1.toNatClampNeg (some s0)) hi)
set_option maxHeartbeats 4000000 in
set_option maxRecDepth 100000 in
theorem moX6_grow {h : pm_H} {a0 : Nat} {p1 : Int32} {p2 : Int64} {r : (Int32 × pm_H)} (hf : fX6_grow h a0 p1 p2 = some r) : pm_Le h r.2 := by
  unfold fX6_grow at hf
  have K0 := pm_S3.rf h
  obtain ⟨n, hn⟩ := pm_lim_iter hf
  exact (mlX6_grow n).1 a0 p1 p2 h hn
set_option maxHeartbeats 4000000 in
set_option maxRecDepth 100000 in
theorem lpX6_grow {g : pm_Gm} {l : Launch} {G : pm_Gl} {Qr : Option Value → pm_H → Prop} (C : pm_C g cX6_grow RX6) {h0 : pm_H} {r : (Int32 × pm_H)} (X : pm_X g l G mX6_grow (pm_sz r.2 - pm_sz h0) (pm_us r.2 - pm_us h0) Qr) (q : Qr (some (.int r.1)) r.2) : ∀ n : Nat, (∀ (x0 : Nat) (x1 : Int32) (x2 : Int64) (h : pm_H), pm_Le h0 h → pm_iter sX6_grow n (.inl (x0, x1, x2, h)) = some r → pm_G g 0 [(0, .ref x0), (1, .int x1), (2, .long x2)] [] h (pm_sz h - pm_sz h0) (pm_us h - pm_us h0)) ∧ (∀ (x0 : Nat) (x1 : Int32) (x2 : Int64) (x4 : Int32) (s0 : Int64) (h : pm_H), pm_Le h0 h → pm_iter sX6_grow n (.inr (.inl (x0, x1, x2, x4, s0, h))) = some r → pm_G g 37 [(0, .ref x0), (1, .int x1), (2, .long x2), (4, .int x4)] [.long s0] h (pm_sz h - pm_sz h0) (pm_us h - pm_us h0)) ∧ (∀ (x0 : Nat) (x1 : Int32) (x2 : Int64) (x4 : Int32) (x7 : Int32) (h : pm_H), pm_Le h0 h → pm_iter sX6_grow n (.inr (.inr (.inl (x0, x1, x2, x4, x7, h)))) = some r → pm_G g 69 [(0, .ref x0), (1, .int x1), (2, .long x2), (4, .int x4), (7, .int x7)] [] h (pm_sz h - pm_sz h0) (pm_us h - pm_us h0)) ∧ (∀ (x0 : Nat) (x1 : Int32) (x2 : Int64) (x4 : Int32) (x7 : Int32) (s0 : Nat) (s1 : Int32) (s2 : Nat) (h : pm_H), pm_Le h0 h → pm_iter sX6_grow n (.inr (.inr (.inr (x0, x1, x2, x4, x7, s0, s1, s2, h)))) = some r → pm_G g 109 [(0, .ref x0), (1, .int x1), (2, .long x2), (4, .int x4), (7, .int x7)] [.ref s0, .int s1, .ref s2] h (pm_sz h - pm_sz h0) (pm_us h - pm_us h0)) := by
  intro n
  induction n with
  | zero => exact ⟨fun _ _ _ _ _ hf => (by cases hf), fun _ _ _ _ _ _ _ hf => (by cases hf), fun _ _ _ _ _ _ _ hf => (by cases hf), fun _ _ _ _ _ _ _ _ _ _ hf => (by cases hf)⟩
  | succ n ih =>
    refine ⟨fun x0 x1 x2 h m0 hf => ?_, ?_⟩
    · have le0 := (mlX6_grow (n + 1)).1 x0 x1 x2 h hf
      have kc1 := Nat.sub_le_sub_right le0.1 (pm_sz h0)
      have kc2 := Nat.sub_le_sub_right le0.2 (pm_us h0)
      have K0 := pm_S3.rf h
      obtain ⟨y, hf, hi⟩ := pm_iter_s hf
      have hf : tX6_grow_0 x0 x1 x2 h = some y := hf
      unfold tX6_grow_0 at hf
      refine pm_aload_n C dX6_grow_0 rfl rfl ?_
      obtain ⟨k1, hf⟩ := pm_if hf
      obtain ⟨v2, e3, hf⟩ := pm_bd hf
      refine pm_getR C dX6_grow_1 flX6_15 rfl k1 e3 ?_
      refine pm_iload_n C dX6_grow_4 rfl rfl ?_
      obtain ⟨v4, e5, hf⟩ := pm_bd hf
      refine pm_callS (as := [.ref v2, .int x1]) (st := []) C X dX6_grow_5 lnX6_52 myX12_item stX12_item ⟨by decide, by decide⟩ rfl rfl (Nat.le_of_ble_eq_true rfl) kc1 kc2 (ctX12_item e5 ?_)
      show pm_G g 8 [(0, .ref x0), (1, .int x1), (2, .long x2)] [.int v4] h (pm_sz h - pm_sz h0) (pm_us h - pm_us h0)
      refine pm_istore (lv' := [(4, .int v4), (0, .ref x0), (1, .int x1), (2, .long x2)]) C dX6_grow_8 (pm_nl X (by decide)) rfl ?_
      refine pm_aload_n C dX6_grow_10 rfl rfl ?_
      obtain ⟨v6, e7, hf⟩ := pm_bd hf
      refine pm_getR C dX6_grow_11 flX6_19 rfl k1 e7 ?_
      refine pm_iload_n C dX6_grow_14 rfl rfl ?_
      obtain ⟨v8, e9, hf⟩ := pm_bd hf
      refine pm_callS (as := [.ref v6, .int x1]) (st := []) C X dX6_grow_15 lnX6_56 myX12_item_ stX12_item_ ⟨by decide, by decide⟩ rfl rfl (Nat.le_of_ble_eq_true rfl) kc1 kc2 (ctX12_item_ e9 ?_)
      show pm_G g 18 [(4, .int v4), (0, .ref x0), (1, .int x1), (2, .long x2)] [.long v8] h (pm_sz h - pm_sz h0) (pm_us h - pm_us h0)
      refine pm_lconst (v := 0) C dX6_grow_18 (by decide) ?_
      refine pm_lcmp C dX6_grow_19 ?_
      refine pm_if_ge (tgt := 29) C dX6_grow_20 (by decide) (fun c10 => ?_) (fun c10 => ?_)
      · have hf := pm_it hf ((pm_lg_ge _ _).mp c10)
        refine pm_aload_n C dX6_grow_29 rfl rfl ?_
        refine pm_getR C dX6_grow_30 flX6_19 rfl k1 e7 ?_
        refine pm_iload_n C dX6_grow_33 rfl rfl ?_
        obtain ⟨v11, e12, hf⟩ := pm_bd hf
        refine pm_callS (as := [.ref v6, .int x1]) (st := []) C X dX6_grow_34 lnX6_56 myX12_item_ stX12_item_ ⟨by decide, by decide⟩ rfl rfl (Nat.le_of_ble_eq_true rfl) kc1 kc2 (ctX12_item_ e12 ?_)
        show pm_G g 37 [(4, .int v4), (0, .ref x0), (1, .int x1), (2, .long x2)] [.long v11] h (pm_sz h - pm_sz h0) (pm_us h - pm_us h0)
        cases hf
        exact pa_join K0 (pm_sub [1, 2, 3, 0] rfl (ih.2.1 x0 x1 x2 v4 v11 h (m0.trans (pm_S3.le K0)) hi))
      · have hf := pm_ie hf ((fun z => c10 ((pm_lg_ge _ _).mpr z)))
        refine pm_ldc2 C dX6_grow_23 cnX6_59 ?_
        refine pm_goto (tgt := 37) C dX6_grow_26 (by decide) ?_
        cases hf
        exact pa_join K0 (pm_sub [1, 2, 3, 0] rfl (ih.2.1 x0 x1 x2 v4 65536 h (m0.trans (pm_S3.le K0)) hi))
    refine ⟨fun x0 x1 x2 x4 s0 h m0 hf => ?_, ?_⟩
    · have le0 := (mlX6_grow (n + 1)).2.1 x0 x1 x2 x4 s0 h hf
      have kc1 := Nat.sub_le_sub_right le0.1 (pm_sz h0)
      have kc2 := Nat.sub_le_sub_right le0.2 (pm_us h0)
      have K0 := pm_S3.rf h
      obtain ⟨y, hf, hi⟩ := pm_iter_s hf
      have hf : tX6_grow_37 x0 x1 x2 x4 s0 h = some y := hf
      unfold tX6_grow_37 at hf
      refine pm_lstore (lv' := [(5, .long s0), (0, .ref x0), (1, .int x1), (2, .long x2), (4, .int x4)]) C dX6_grow_37 (pm_nl X (by decide)) rfl ?_
      refine pm_iload_n C dX6_grow_39 rfl rfl ?_
      refine pm_if_lt (tgt := 64) C dX6_grow_40 (by decide) (fun c13 => ?_) (fun c13 => ?_)
      · have hf := pm_it hf c13
        refine pm_iconst (v := (-1)) C dX6_grow_64 (by decide) ?_
        have hf := Option.some.inj hf
        subst hf
        have hi := Option.some.inj (show some _ = some r from hi)
        subst hi
        exact pm_iret C X dX6_grow_65 rfl kc1 kc2 q
      · have hf := pm_ie hf c13
        refine pm_lload_n C dX6_grow_43 rfl rfl ?_
        refine pm_aload_n C dX6_grow_44 rfl rfl ?_
        obtain ⟨k14, hf⟩ := pm_if hf
        refine pm_getI C dX6_grow_45 flX6_11 rfl k14 rfl ?_
        refine pm_i2l C dX6_grow_48 ?_
        refine pm_lcmp C dX6_grow_49 ?_
        refine pm_if_gt (tgt := 64) C dX6_grow_50 (by decide) (fun c15 => ?_) (fun c15 => ?_)
        · have hf := pm_it hf ((pm_lg_gt _ _).mp c15)
          refine pm_iconst (v := (-1)) C dX6_grow_64 (by decide) ?_
          have hf := Option.some.inj hf
          subst hf
          have hi := Option.some.inj (show some _ = some r from hi)
          subst hi
          exact pm_iret C X dX6_grow_65 rfl kc1 kc2 q
        · have hf := pm_ie hf ((fun z => c15 ((pm_lg_gt _ _).mpr z)))
          refine pm_iload C dX6_grow_53 rfl ?_
          refine pm_i2l C dX6_grow_55 ?_
          refine pm_lload_n C dX6_grow_56 rfl rfl ?_
          refine pm_ladd C dX6_grow_57 ?_
          refine pm_lload C dX6_grow_58 rfl ?_
          refine pm_lcmp C dX6_grow_60 ?_
          refine pm_if_le (tgt := 66) C dX6_grow_61 (by decide) (fun c16 => ?_) (fun c16 => ?_)
          · have hf := pm_it hf ((pm_lg_le _ _).mp c16)
            refine pm_iconst (v := 0) C dX6_grow_66 (by decide) ?_
            refine pm_istore (lv' := [(7, .int 0), (5, .long s0), (0, .ref x0), (1, .int x1), (2, .long x2), (4, .int x4)]) C dX6_grow_67 (pm_nl X (by decide)) rfl ?_
            cases hf
            exact pa_join K0 (pm_sub [2, 3, 4, 5, 0] rfl (ih.2.2.1 x0 x1 x2 x4 0 h (m0.trans (pm_S3.le K0)) hi))
          · have hf := pm_ie hf ((fun z => c16 ((pm_lg_le _ _).mpr z)))
            refine pm_iconst (v := (-1)) C dX6_grow_64 (by decide) ?_
            have hf := Option.some.inj hf
            subst hf
            have hi := Option.some.inj (show some _ = some r from hi)
            subst hi
            exact pm_iret C X dX6_grow_65 rfl kc1 kc2 q
    refine ⟨fun x0 x1 x2 x4 x7 h m0 hf => ?_, ?_⟩
    · have le0 := (mlX6_grow (n + 1)).2.2.1 x0 x1 x2 x4 x7 h hf
      have kc1 := Nat.sub_le_sub_right le0.1 (pm_sz h0)
      have kc2 := Nat.sub_le_sub_right le0.2 (pm_us h0)
      have K0 := pm_S3.rf h
      obtain ⟨y, hf, hi⟩ := pm_iter_s hf
      have hf : tX6_grow_69 x0 x1 x2 x4 x7 h = some y := hf
      unfold tX6_grow_69 at hf
      refine pm_iload C dX6_grow_69 rfl ?_
      refine pm_i2l C dX6_grow_71 ?_
      refine pm_lload_n C dX6_grow_72 rfl rfl ?_
      refine pm_lcmp C dX6_grow_73 ?_
      refine pm_if_ge (tgt := 116) C dX6_grow_74 (by decide) (fun c17 => ?_) (fun c17 => ?_)
      · have hf := pm_it hf ((pm_lg_ge _ _).mp c17)
        refine pm_aload_n C dX6_grow_116 rfl rfl ?_
        refine pm_dup C dX6_grow_117 rfl ?_
        obtain ⟨k18, hf⟩ := pm_if hf
        refine pm_getI C dX6_grow_118 flX6_11 rfl k18 rfl ?_
        refine pm_lload_n C dX6_grow_121 rfl rfl ?_
        refine pm_l2i C dX6_grow_122 ?_
        refine pm_isub C dX6_grow_123 ?_
        obtain ⟨y19, e20, hf⟩ := pm_lt hf
        refine pm_topI e20 ?_
        refine pm_putI C dX6_grow_124 flX6_11 rfl rfl k18 rfl rfl ?_
        refine pm_aload_n C dX6_grow_127 rfl rfl ?_
        obtain ⟨v21, e22, hf⟩ := pm_bd hf
        refine pm_getR C dX6_grow_128 flX6_15 rfl k18 e22 ?_
        refine pm_iload_n C dX6_grow_131 rfl rfl ?_
        refine pm_iload C dX6_grow_132 rfl ?_
        refine pm_lload_n C dX6_grow_134 rfl rfl ?_
        refine pm_l2i C dX6_grow_135 ?_
        refine pm_iadd C dX6_grow_136 ?_
        obtain ⟨v23, e24, hf⟩ := pm_bd hf
        refine pm_callS (as := [.ref v21, .int x1, .int (x4 + x2.toInt32)]) (st := []) C X dX6_grow_137 lnX6_41 myX12_setItem stX12_setItem ⟨by decide, by decide⟩ rfl rfl (Nat.le_of_ble_eq_true rfl) kc1 kc2 (ctX12_setItem e24 ?_)
        have K25 := pm_S3.trans (kpX12_setItem e24) (pm_S3I K0)
        show pm_G g 140 [(0, .ref x0), (1, .int x1), (2, .long x2), (4, .int x4), (7, .int x7)] [] v23 (pm_sz h - pm_sz h0) (pm_us h - pm_us h0)
        refine pm_iload C dX6_grow_140 rfl ?_
        have hf := Option.some.inj hf
        subst hf
        have hi := Option.some.inj (show some _ = some r from hi)
        subst hi
        exact pm_iret C X dX6_grow_142 rfl kc1 kc2 q
      · have hf := pm_ie hf ((fun z => c17 ((pm_lg_ge _ _).mpr z)))
        refine pm_iload_n C dX6_grow_77 rfl rfl ?_
        refine pm_bipush (v := 8) C dX6_grow_78 (by decide) ?_
        refine pm_imul C dX6_grow_80 ?_
        refine pm_iload C dX6_grow_81 rfl ?_
        refine pm_iadd C dX6_grow_83 ?_
        refine pm_iload C dX6_grow_84 rfl ?_
        refine pm_iadd C dX6_grow_86 ?_
        obtain ⟨y26, e27, hf⟩ := pm_lt hf
        refine pm_topI e27 ?_
        refine pm_istore (lv' := [(8, .int y26), (0, .ref x0), (1, .int x1), (2, .long x2), (4, .int x4), (7, .int x7)]) C dX6_grow_87 (pm_nl X (by decide)) rfl ?_
        refine pm_iload C dX6_grow_89 rfl ?_
        refine pm_aload_n C dX6_grow_91 rfl rfl ?_
        obtain ⟨k28, hf⟩ := pm_if hf
        obtain ⟨v29, e30, hf⟩ := pm_bd hf
        refine pm_getR C dX6_grow_92 flX6_25 rfl k28 e30 ?_
        obtain ⟨k31, hf⟩ := pm_if hf
        refine pm_alen (t := 5) C dX6_grow_95 (by decide) k31 rfl ?_
        refine pm_icmp_ge (tgt := 110) C dX6_grow_96 (by decide) (fun c32 => ?_) (fun c32 => ?_)
        · have hf := pm_it hf c32
          obtain ⟨y33, e34, hf⟩ := pm_lt hf
          refine pm_iinc (v := y33) (lv' := [(7, .int y33), (8, .int y26), (0, .ref x0), (1, .int x1), (2, .long x2), (4, .int x4)]) C dX6_grow_110 rfl ((congrArg (x7 + ·) (by decide : Int32.ofInt 1 = 1)).trans e34) (pm_nl X (by decide)) rfl ?_
          refine pm_goto (tgt := 69) C dX6_grow_113 (by decide) ?_
          cases hf
          exact pa_join K0 (pm_sub [2, 3, 4, 5, 0] rfl (ih.2.2.1 x0 x1 x2 x4 y33 h (m0.trans (pm_S3.le K0)) hi))
        · have hf := pm_ie hf c32
          refine pm_aload_n C dX6_grow_99 rfl rfl ?_
          refine pm_getR C dX6_grow_100 flX6_25 rfl k28 e30 ?_
          refine pm_iload C dX6_grow_103 rfl ?_
          refine pm_ldc C dX6_grow_105 cnX6_61 ?_
          cases hf
          refine pa_newa (hb := h) (h0 := h0) (t := 1) (N := 65536) C X K0 m0 dX6_grow_107 (by decide) rfl al1 (by decide) (by decide +kernel) (by decide +kernel) ((mlX6_grow n).2.2.2 x0 x1 x2 x4 x7 (pm_sz h) y26 v29 (pm_new h 33 65536) hi) ?_
          exact pm_sub [1, 2, 3, 4, 5] rfl (ih.2.2.2 x0 x1 x2 x4 x7 (pm_sz h) y26 v29 (pm_new h 33 65536) ((m0.trans (pm_S3.le K0)).trans (pm_Le_new _ _ _)) hi)
    refine fun x0 x1 x2 x4 x7 s0 s1 s2 h m0 hf => ?_
    have le0 := (mlX6_grow (n + 1)).2.2.2 x0 x1 x2 x4 x7 s0 s1 s2 h hf
    have kc1 := Nat.sub_le_sub_right le0.1 (pm_sz h0)
    have kc2 := Nat.sub_le_sub_right le0.2 (pm_us h0)
    have K0 := pm_S3.rf h
    obtain ⟨y, hf, hi⟩ := pm_iter_s hf
    have hf : tX6_grow_109 x0 x1 x2 x4 x7 s0 s1 s2 h = some y := hf
    unfold tX6_grow_109 at hf
    obtain ⟨k35, hf⟩ := pm_if hf
    obtain ⟨k36, hf⟩ := pm_if hf
    obtain ⟨u37, hf⟩ := pm_if hf
    refine pm_aasta (t := 5) (u := 1) C dX6_grow_109 (Or.inr ⟨rfl, rfl⟩) k35 k36 u37 ?_
    obtain ⟨y38, e39, hf⟩ := pm_lt hf
    refine pm_iinc (v := y38) (lv' := [(7, .int y38), (0, .ref x0), (1, .int x1), (2, .long x2), (4, .int x4)]) C dX6_grow_110 rfl ((congrArg (x7 + ·) (by decide : Int32.ofInt 1 = 1)).trans e39) (pm_nl X (by decide)) rfl ?_
    refine pm_goto (tgt := 69) C dX6_grow_113 (by decide) ?_
    cases hf
    exact pa_join (pm_S3R K0) (pm_sub [1, 2, 3, 4, 0] rfl (ih.2.2.1 x0 x1 x2 x4 y38 (pm_setR h s2 s1.toNatClampNeg (some s0)) (m0.trans (pm_S3.le (pm_S3R K0))) hi))
set_option maxHeartbeats 4000000 in
set_option maxRecDepth 100000 in
theorem ctX6_grow {l : Launch} {G : pm_Gl} {h : pm_H} {a0 : Nat} {p1 : Int32} {p2 : Int64} {r : (Int32 × pm_H)} {Qr : Option Value → pm_H → Prop} (hf : fX6_grow h a0 p1 p2 = some r) (q : Qr (some (.int r.1)) r.2) : pm_Ct l G mX6_grow [.ref a0, .int p1, .long p2] h (pm_sz r.2 - pm_sz h) (pm_us r.2 - pm_us h) Qr := by
  refine pm_body pnX6 (Nat.le_of_ble_eq_true rfl) (fun g C X => ?_)
  have C : pm_C g cX6_grow RX6 := C
  show pm_G g 0 [(0, .ref a0), (1, .int p1), (2, .long p2)] [] h 0 0
  unfold fX6_grow at hf
  obtain ⟨n, hn⟩ := pm_lim_iter hf
  exact pa_start (pm_sub [0, 1, 2] rfl ((lpX6_grow C X q n).1 a0 p1 p2 h (pm_Le.rf h) hn))
theorem dX7_shape_0 : decode cX7_shape 0 = .ok (.iload_n 1, 1) := by decide +kernel
theorem dX7_shape_1 : decode cX7_shape 1 = .ok (.ifCond .lt 21, 3) := by decide +kernel
theorem dX7_shape_4 : decode cX7_shape 4 = .ok (.iload_n 1, 1) := by decide +kernel
theorem dX7_shape_5 : decode cX7_shape 5 = .ok (.aload_n 0, 1) := by decide +kernel
theorem dX7_shape_6 : decode cX7_shape 6 = .ok (.getfield 15, 3) := by decide +kernel
theorem dX7_shape_9 : decode cX7_shape 9 = .ok (.arraylength, 1) := by decide +kernel
theorem dX7_shape_10 : decode cX7_shape 10 = .ok (.if_icmp .ge 12, 3) := by decide +kernel
theorem dX7_shape_13 : decode cX7_shape 13 = .ok (.aload_n 0, 1) := by decide +kernel
theorem dX7_shape_14 : decode cX7_shape 14 = .ok (.getfield 15, 3) := by decide +kernel
theorem dX7_shape_17 : decode cX7_shape 17 = .ok (.iload_n 1, 1) := by decide +kernel
theorem dX7_shape_18 : decode cX7_shape 18 = .ok (.aaload, 1) := by decide +kernel
theorem dX7_shape_19 : decode cX7_shape 19 = .ok (.goto 6, 3) := by decide +kernel
theorem dX7_shape_22 : decode cX7_shape 22 = .ok (.iconst 2, 1) := by decide +kernel
theorem dX7_shape_23 : decode cX7_shape 23 = .ok (.newarray .int, 2) := by decide +kernel
theorem dX7_shape_25 : decode cX7_shape 25 = .ok (.areturn, 1) := by decide +kernel
def fX7_shape_b25 (h : pm_H) (s0 : Nat) : Option (Nat × pm_H) := some ((s0, h))
def fX7_shape_b0 (h : pm_H) (x0 : Nat) (x1 : Int32) : Option (Nat × pm_H) := if x1 < 0 then (fX7_shape_b25 (pm_new h 34 2) (pm_sz h)) else (if pm_kd h x0 = 7 then (pm_R h x0 2).bind fun v3 => if pm_kd h v3 = 36 then if (Int32.ofNat (pm_ln h v3)) ≤ x1 then (fX7_shape_b25 (pm_new h 34 2) (pm_sz h)) else (if pm_in x1 (pm_ln h v3) then (pm_R h v3 x1.toNatClampNeg).bind fun v8 => fX7_shape_b25 h v8 else none) else none else none)
def fX7_shape (h : pm_H) (a0 : Nat) (p1 : Int32) : Option (Nat × pm_H) := fX7_shape_b0 h a0 p1
set_option maxHeartbeats 4000000 in
set_option maxRecDepth 100000 in
theorem moX7_shape_b25 {h : pm_H} {s0 : Nat} {r : (Nat × pm_H)} (hf : fX7_shape_b25 h s0 = some r) : pm_Le h r.2 := by
  unfold fX7_shape_b25 at hf
  have K0 := pm_S3.rf h
  have hf := Option.some.inj hf
  subst hf
  exact pm_S3.le K0
set_option maxHeartbeats 4000000 in
set_option maxRecDepth 100000 in
theorem moX7_shape_b0 {h : pm_H} {x0 : Nat} {x1 : Int32} {r : (Nat × pm_H)} (hf : fX7_shape_b0 h x0 x1 = some r) : pm_Le h r.2 := by
  unfold fX7_shape_b0 at hf
  have K0 := pm_S3.rf h
  by_cases c1 : x1 < 0
  · have hf := pm_it hf c1
    exact ((pm_S3.le K0).trans (pm_Le_new _ _ _)).trans (moX7_shape_b25 hf)
  · have hf := pm_ie hf c1
    obtain ⟨k2, hf⟩ := pm_if hf
    obtain ⟨v3, e4, hf⟩ := pm_bd hf
    obtain ⟨k5, hf⟩ := pm_if hf
    by_cases c6 : (Int32.ofNat (pm_ln h v3)) ≤ x1
    · have hf := pm_it hf c6
      exact ((pm_S3.le K0).trans (pm_Le_new _ _ _)).trans (moX7_shape_b25 hf)
    · have hf := pm_ie hf c6
      obtain ⟨u7, hf⟩ := pm_if hf
      obtain ⟨v8, e9, hf⟩ := pm_bd hf
      exact (pm_S3.le K0).trans (moX7_shape_b25 hf)
set_option maxHeartbeats 4000000 in
set_option maxRecDepth 100000 in
theorem moX7_shape {h : pm_H} {a0 : Nat} {p1 : Int32} {r : (Nat × pm_H)} (hf : fX7_shape h a0 p1 = some r) : pm_Le h r.2 := by
  unfold fX7_shape at hf
  have K0 := pm_S3.rf h
  exact (pm_S3.le K0).trans (moX7_shape_b0 hf)
set_option maxHeartbeats 4000000 in
set_option maxRecDepth 100000 in
theorem bX7_shape_25 {g : pm_Gm} {l : Launch} {G : pm_Gl} {Qr : Option Value → pm_H → Prop} (C : pm_C g cX7_shape RX7) {h0 h : pm_H} {s0 : Nat} {r : (Nat × pm_H)} (X : pm_X g l G mX7_shape (pm_sz r.2 - pm_sz h0) (pm_us r.2 - pm_us h0) Qr) (m0 : pm_Le h0 h) (hf : fX7_shape_b25 h s0 = some r) (q : Qr (some (.ref r.1)) r.2) : pm_G g 25 [] [.ref s0] h (pm_sz h - pm_sz h0) (pm_us h - pm_us h0) := by
  have le0 := moX7_shape_b25 hf
  have kc1 := Nat.sub_le_sub_right le0.1 (pm_sz h0)
  have kc2 := Nat.sub_le_sub_right le0.2 (pm_us h0)
  have K0 := pm_S3.rf h
  unfold fX7_shape_b25 at hf
  have hf := Option.some.inj hf
  subst hf
  exact pm_aret C X dX7_shape_25 rfl (Or.inr ⟨_, rfl⟩) kc1 kc2 q
set_option maxHeartbeats 4000000 in
set_option maxRecDepth 100000 in
theorem bX7_shape_0 {g : pm_Gm} {l : Launch} {G : pm_Gl} {Qr : Option Value → pm_H → Prop} (C : pm_C g cX7_shape RX7) {h0 h : pm_H} {x0 : Nat} {x1 : Int32} {r : (Nat × pm_H)} (X : pm_X g l G mX7_shape (pm_sz r.2 - pm_sz h0) (pm_us r.2 - pm_us h0) Qr) (m0 : pm_Le h0 h) (hf : fX7_shape_b0 h x0 x1 = some r) (q : Qr (some (.ref r.1)) r.2) : pm_G g 0 [(0, .ref x0), (1, .int x1)] [] h (pm_sz h - pm_sz h0) (pm_us h - pm_us h0) := by
  have le0 := moX7_shape_b0 hf
  have kc1 := Nat.sub_le_sub_right le0.1 (pm_sz h0)
  have kc2 := Nat.sub_le_sub_right le0.2 (pm_us h0)
  have K0 := pm_S3.rf h
  unfold fX7_shape_b0 at hf
  refine pm_iload_n C dX7_shape_0 rfl rfl ?_
  refine pm_if_lt (tgt := 22) C dX7_shape_1 (by decide) (fun c1 => ?_) (fun c1 => ?_)
  · have hf := pm_it hf c1
    refine pm_iconst (v := 2) C dX7_shape_22 (by decide) ?_
    refine pa_newa (hb := h) (h0 := h0) (t := 2) (N := 2) C X K0 m0 dX7_shape_23 (by decide) rfl al2 (by decide) (by decide +kernel) (by decide +kernel) (moX7_shape_b25 hf) ?_
    exact pm_sub [] rfl (bX7_shape_25 C X ((m0.trans (pm_S3.le K0)).trans (pm_Le_new _ _ _)) hf q)
  · have hf := pm_ie hf c1
    refine pm_iload_n C dX7_shape_4 rfl rfl ?_
    refine pm_aload_n C dX7_shape_5 rfl rfl ?_
    obtain ⟨k2, hf⟩ := pm_if hf
    obtain ⟨v3, e4, hf⟩ := pm_bd hf
    refine pm_getR C dX7_shape_6 flX7_15 rfl k2 e4 ?_
    obtain ⟨k5, hf⟩ := pm_if hf
    refine pm_alen (t := 4) C dX7_shape_9 (by decide) k5 rfl ?_
    refine pm_icmp_ge (tgt := 22) C dX7_shape_10 (by decide) (fun c6 => ?_) (fun c6 => ?_)
    · have hf := pm_it hf c6
      refine pm_iconst (v := 2) C dX7_shape_22 (by decide) ?_
      refine pa_newa (hb := h) (h0 := h0) (t := 2) (N := 2) C X K0 m0 dX7_shape_23 (by decide) rfl al2 (by decide) (by decide +kernel) (by decide +kernel) (moX7_shape_b25 hf) ?_
      exact pm_sub [] rfl (bX7_shape_25 C X ((m0.trans (pm_S3.le K0)).trans (pm_Le_new _ _ _)) hf q)
    · have hf := pm_ie hf c6
      refine pm_aload_n C dX7_shape_13 rfl rfl ?_
      refine pm_getR C dX7_shape_14 flX7_15 rfl k2 e4 ?_
      refine pm_iload_n C dX7_shape_17 rfl rfl ?_
      obtain ⟨u7, hf⟩ := pm_if hf
      obtain ⟨v8, e9, hf⟩ := pm_bd hf
      refine pm_ald (t := 4) C dX7_shape_18 (by decide) rfl k5 u7 e9 ?_
      refine pm_goto (tgt := 25) C dX7_shape_19 (by decide) ?_
      exact pa_join K0 (pm_sub [] rfl (bX7_shape_25 C X (m0.trans (pm_S3.le K0)) hf q))
set_option maxHeartbeats 4000000 in
set_option maxRecDepth 100000 in
theorem ctX7_shape {l : Launch} {G : pm_Gl} {h : pm_H} {a0 : Nat} {p1 : Int32} {r : (Nat × pm_H)} {Qr : Option Value → pm_H → Prop} (hf : fX7_shape h a0 p1 = some r) (q : Qr (some (.ref r.1)) r.2) : pm_Ct l G mX7_shape [.ref a0, .int p1] h (pm_sz r.2 - pm_sz h) (pm_us r.2 - pm_us h) Qr := by
  refine pm_body pnX7 (Nat.le_of_ble_eq_true rfl) (fun g C X => ?_)
  have C : pm_C g cX7_shape RX7 := C
  show pm_G g 0 [(0, .ref a0), (1, .int p1)] [] h 0 0
  unfold fX7_shape at hf
  exact pa_start (pm_sub [0, 1] rfl (bX7_shape_0 C X (pm_Le.rf h) hf q))
theorem dX7_shapeOfFunction_0 : decode cX7_shapeOfFunction 0 = .ok (.aload_n 0, 1) := by decide +kernel
theorem dX7_shapeOfFunction_1 : decode cX7_shapeOfFunction 1 = .ok (.aload_n 0, 1) := by decide +kernel
theorem dX7_shapeOfFunction_2 : decode cX7_shapeOfFunction 2 = .ok (.iconst 0, 1) := by decide +kernel
theorem dX7_shapeOfFunction_3 : decode cX7_shapeOfFunction 3 = .ok (.iload_n 1, 1) := by decide +kernel
theorem dX7_shapeOfFunction_4 : decode cX7_shapeOfFunction 4 = .ok (.iconst 1, 1) := by decide +kernel
theorem dX7_shapeOfFunction_5 : decode cX7_shapeOfFunction 5 = .ok (.invokevirtual 92, 3) := by decide +kernel
theorem dX7_shapeOfFunction_8 : decode cX7_shapeOfFunction 8 = .ok (.l2i, 1) := by decide +kernel
theorem dX7_shapeOfFunction_9 : decode cX7_shapeOfFunction 9 = .ok (.invokevirtual 96, 3) := by decide +kernel
theorem dX7_shapeOfFunction_12 : decode cX7_shapeOfFunction 12 = .ok (.areturn, 1) := by decide +kernel
def fX7_shapeOfFunction_b12 (h : pm_H) (s0 : Nat) : Option (Nat × pm_H) := some ((s0, h))
def fX7_shapeOfFunction_b0 (h : pm_H) (x0 : Nat) (x1 : Int32) : Option (Nat × pm_H) := if pm_kd h x0 = 7 then (fX7_of h x0 0 x1 1).bind fun v2 => (fX7_shape h x0 v2.toInt32).bind fun v4 => fX7_shapeOfFunction_b12 v4.2 v4.1 else none
def fX7_shapeOfFunction (h : pm_H) (a0 : Nat) (p1 : Int32) : Option (Nat × pm_H) := fX7_shapeOfFunction_b0 h a0 p1
set_option maxHeartbeats 4000000 in
set_option maxRecDepth 100000 in
theorem moX7_shapeOfFunction_b12 {h : pm_H} {s0 : Nat} {r : (Nat × pm_H)} (hf : fX7_shapeOfFunction_b12 h s0 = some r) : pm_Le h r.2 := by
  unfold fX7_shapeOfFunction_b12 at hf
  have K0 := pm_S3.rf h
  have hf := Option.some.inj hf
  subst hf
  exact pm_S3.le K0
set_option maxHeartbeats 4000000 in
set_option maxRecDepth 100000 in
theorem moX7_shapeOfFunction_b0 {h : pm_H} {x0 : Nat} {x1 : Int32} {r : (Nat × pm_H)} (hf : fX7_shapeOfFunction_b0 h x0 x1 = some r) : pm_Le h r.2 := by
  unfold fX7_shapeOfFunction_b0 at hf
  have K0 := pm_S3.rf h
  obtain ⟨k1, hf⟩ := pm_if hf
  obtain ⟨v2, e3, hf⟩ := pm_bd hf
  obtain ⟨v4, e5, hf⟩ := pm_bd hf
  exact ((pm_S3.le K0).trans (moX7_shape e5)).trans (moX7_shapeOfFunction_b12 hf)
set_option maxHeartbeats 4000000 in
set_option maxRecDepth 100000 in
theorem moX7_shapeOfFunction {h : pm_H} {a0 : Nat} {p1 : Int32} {r : (Nat × pm_H)} (hf : fX7_shapeOfFunction h a0 p1 = some r) : pm_Le h r.2 := by
  unfold fX7_shapeOfFunction at hf
  have K0 := pm_S3.rf h
  exact (pm_S3.le K0).trans (moX7_shapeOfFunction_b0 hf)
set_option maxHeartbeats 4000000 in
set_option maxRecDepth 100000 in
theorem bX7_shapeOfFunction_12 {g : pm_Gm} {l : Launch} {G : pm_Gl} {Qr : Option Value → pm_H → Prop} (C : pm_C g cX7_shapeOfFunction RX7) {h0 h : pm_H} {s0 : Nat} {r : (Nat × pm_H)} (X : pm_X g l G mX7_shapeOfFunction (pm_sz r.2 - pm_sz h0) (pm_us r.2 - pm_us h0) Qr) (m0 : pm_Le h0 h) (hf : fX7_shapeOfFunction_b12 h s0 = some r) (q : Qr (some (.ref r.1)) r.2) : pm_G g 12 [] [.ref s0] h (pm_sz h - pm_sz h0) (pm_us h - pm_us h0) := by
  have le0 := moX7_shapeOfFunction_b12 hf
  have kc1 := Nat.sub_le_sub_right le0.1 (pm_sz h0)
  have kc2 := Nat.sub_le_sub_right le0.2 (pm_us h0)
  have K0 := pm_S3.rf h
  unfold fX7_shapeOfFunction_b12 at hf
  have hf := Option.some.inj hf
  subst hf
  exact pm_aret C X dX7_shapeOfFunction_12 rfl (Or.inr ⟨_, rfl⟩) kc1 kc2 q
set_option maxHeartbeats 4000000 in
set_option maxRecDepth 100000 in
theorem bX7_shapeOfFunction_0 {g : pm_Gm} {l : Launch} {G : pm_Gl} {Qr : Option Value → pm_H → Prop} (C : pm_C g cX7_shapeOfFunction RX7) {h0 h : pm_H} {x0 : Nat} {x1 : Int32} {r : (Nat × pm_H)} (X : pm_X g l G mX7_shapeOfFunction (pm_sz r.2 - pm_sz h0) (pm_us r.2 - pm_us h0) Qr) (m0 : pm_Le h0 h) (hf : fX7_shapeOfFunction_b0 h x0 x1 = some r) (q : Qr (some (.ref r.1)) r.2) : pm_G g 0 [(0, .ref x0), (1, .int x1)] [] h (pm_sz h - pm_sz h0) (pm_us h - pm_us h0) := by
  have le0 := moX7_shapeOfFunction_b0 hf
  have kc1 := Nat.sub_le_sub_right le0.1 (pm_sz h0)
  have kc2 := Nat.sub_le_sub_right le0.2 (pm_us h0)
  have K0 := pm_S3.rf h
  unfold fX7_shapeOfFunction_b0 at hf
  refine pm_aload_n C dX7_shapeOfFunction_0 rfl rfl ?_
  refine pm_aload_n C dX7_shapeOfFunction_1 rfl rfl ?_
  refine pm_iconst (v := 0) C dX7_shapeOfFunction_2 (by decide) ?_
  refine pm_iload_n C dX7_shapeOfFunction_3 rfl rfl ?_
  refine pm_iconst (v := 1) C dX7_shapeOfFunction_4 (by decide) ?_
  obtain ⟨k1, hf⟩ := pm_if hf
  obtain ⟨v2, e3, hf⟩ := pm_bd hf
  refine pm_callV (as := [.int 0, .int x1, .int 1]) (st := [.ref x0]) C X dX7_shapeOfFunction_5 lnX7_92 myX7_of viX7_of ⟨by decide, by decide⟩ rfl rfl k1 (Nat.le_of_ble_eq_true rfl) kc1 kc2 (ctX7_of e3 ?_)
  show pm_G g 8 [(0, .ref x0), (1, .int x1)] [.long v2, .ref x0] h (pm_sz h - pm_sz h0) (pm_us h - pm_us h0)
  refine pm_l2i C dX7_shapeOfFunction_8 ?_
  obtain ⟨v4, e5, hf⟩ := pm_bd hf
  refine pm_callV (as := [.int v2.toInt32]) (st := []) C X dX7_shapeOfFunction_9 lnX7_96 myX7_shape viX7_shape ⟨by decide, by decide⟩ rfl rfl k1 (Nat.le_of_ble_eq_true rfl) (pa_le1 K0 m0 (moX7_shape e5) (moX7_shapeOfFunction_b12 hf)) (pa_le2 K0 m0 (moX7_shape e5) (moX7_shapeOfFunction_b12 hf)) (ctX7_shape e5 ?_)
  show pm_G g 12 [(0, .ref x0), (1, .int x1)] [.ref v4.1] v4.2 (pm_sz h - pm_sz h0 + (pm_sz v4.2 - pm_sz h)) (pm_us h - pm_us h0 + (pm_us v4.2 - pm_us h))
  refine pa_fin K0 m0 (moX7_shape e5) ?_
  exact pm_sub [] rfl (bX7_shapeOfFunction_12 C X ((m0.trans (pm_S3.le K0)).trans (moX7_shape e5)) hf q)
set_option maxHeartbeats 4000000 in
set_option maxRecDepth 100000 in
theorem ctX7_shapeOfFunction {l : Launch} {G : pm_Gl} {h : pm_H} {a0 : Nat} {p1 : Int32} {r : (Nat × pm_H)} {Qr : Option Value → pm_H → Prop} (hf : fX7_shapeOfFunction h a0 p1 = some r) (q : Qr (some (.ref r.1)) r.2) : pm_Ct l G mX7_shapeOfFunction [.ref a0, .int p1] h (pm_sz r.2 - pm_sz h) (pm_us r.2 - pm_us h) Qr := by
  refine pm_body pnX7 (Nat.le_of_ble_eq_true rfl) (fun g C X => ?_)
  have C : pm_C g cX7_shapeOfFunction RX7 := C
  show pm_G g 0 [(0, .ref a0), (1, .int p1)] [] h 0 0
  unfold fX7_shapeOfFunction at hf
  exact pa_start (pm_sub [0, 1] rfl (bX7_shapeOfFunction_0 C X (pm_Le.rf h) hf q))
