theorem dX1_takeAndPutAgain_0 : decode cX1_takeAndPutAgain 0 = .ok (.aload_n 0, 1) := by decide +kernel
theorem dX1_takeAndPutAgain_1 : decode cX1_takeAndPutAgain 1 = .ok (.getfield 28, 3) := by decide +kernel
theorem dX1_takeAndPutAgain_4 : decode cX1_takeAndPutAgain 4 = .ok (.arraylength, 1) := by decide +kernel
theorem dX1_takeAndPutAgain_5 : decode cX1_takeAndPutAgain 5 = .ok (.aload_n 0, 1) := by decide +kernel
theorem dX1_takeAndPutAgain_6 : decode cX1_takeAndPutAgain 6 = .ok (.iload_n 1, 1) := by decide +kernel
theorem dX1_takeAndPutAgain_7 : decode cX1_takeAndPutAgain 7 = .ok (.invokevirtual 311, 3) := by decide +kernel
theorem dX1_takeAndPutAgain_10 : decode cX1_takeAndPutAgain 10 = .ok (.invokestatic 278, 3) := by decide +kernel
theorem dX1_takeAndPutAgain_13 : decode cX1_takeAndPutAgain 13 = .ok (.istore_n 2, 1) := by decide +kernel
theorem dX1_takeAndPutAgain_14 : decode cX1_takeAndPutAgain 14 = .ok (.aload_n 0, 1) := by decide +kernel
theorem dX1_takeAndPutAgain_15 : decode cX1_takeAndPutAgain 15 = .ok (.iload_n 1, 1) := by decide +kernel
theorem dX1_takeAndPutAgain_16 : decode cX1_takeAndPutAgain 16 = .ok (.invokevirtual 301, 3) := by decide +kernel
theorem dX1_takeAndPutAgain_19 : decode cX1_takeAndPutAgain 19 = .ok (.astore_n 3, 1) := by decide +kernel
theorem dX1_takeAndPutAgain_20 : decode cX1_takeAndPutAgain 20 = .ok (.aload_n 0, 1) := by decide +kernel
theorem dX1_takeAndPutAgain_21 : decode cX1_takeAndPutAgain 21 = .ok (.iload_n 1, 1) := by decide +kernel
theorem dX1_takeAndPutAgain_22 : decode cX1_takeAndPutAgain 22 = .ok (.invokevirtual 308, 3) := by decide +kernel
theorem dX1_takeAndPutAgain_25 : decode cX1_takeAndPutAgain 25 = .ok (.istore 4, 2) := by decide +kernel
theorem dX1_takeAndPutAgain_27 : decode cX1_takeAndPutAgain 27 = .ok (.iload_n 2, 1) := by decide +kernel
theorem dX1_takeAndPutAgain_28 : decode cX1_takeAndPutAgain 28 = .ok (.iconst 1, 1) := by decide +kernel
theorem dX1_takeAndPutAgain_29 : decode cX1_takeAndPutAgain 29 = .ok (.isub, 1) := by decide +kernel
theorem dX1_takeAndPutAgain_30 : decode cX1_takeAndPutAgain 30 = .ok (.istore 5, 2) := by decide +kernel
theorem dX1_takeAndPutAgain_32 : decode cX1_takeAndPutAgain 32 = .ok (.iload 5, 2) := by decide +kernel
theorem dX1_takeAndPutAgain_34 : decode cX1_takeAndPutAgain 34 = .ok (.ifCond .lt 29, 3) := by decide +kernel
theorem dX1_takeAndPutAgain_37 : decode cX1_takeAndPutAgain 37 = .ok (.aload_n 0, 1) := by decide +kernel
theorem dX1_takeAndPutAgain_38 : decode cX1_takeAndPutAgain 38 = .ok (.getfield 28, 3) := by decide +kernel
theorem dX1_takeAndPutAgain_41 : decode cX1_takeAndPutAgain 41 = .ok (.iload 5, 2) := by decide +kernel
theorem dX1_takeAndPutAgain_43 : decode cX1_takeAndPutAgain 43 = .ok (.aload_n 0, 1) := by decide +kernel
theorem dX1_takeAndPutAgain_44 : decode cX1_takeAndPutAgain 44 = .ok (.aload_n 3, 1) := by decide +kernel
theorem dX1_takeAndPutAgain_45 : decode cX1_takeAndPutAgain 45 = .ok (.iload 4, 2) := by decide +kernel
theorem dX1_takeAndPutAgain_47 : decode cX1_takeAndPutAgain 47 = .ok (.iload 5, 2) := by decide +kernel
theorem dX1_takeAndPutAgain_49 : decode cX1_takeAndPutAgain 49 = .ok (.iadd, 1) := by decide +kernel
theorem dX1_takeAndPutAgain_50 : decode cX1_takeAndPutAgain 50 = .ok (.invokestatic 105, 3) := by decide +kernel
theorem dX1_takeAndPutAgain_53 : decode cX1_takeAndPutAgain 53 = .ok (.invokevirtual 289, 3) := by decide +kernel
theorem dX1_takeAndPutAgain_56 : decode cX1_takeAndPutAgain 56 = .ok (.iastore, 1) := by decide +kernel
theorem dX1_takeAndPutAgain_57 : decode cX1_takeAndPutAgain 57 = .ok (.iinc 5 (-1), 3) := by decide +kernel
theorem dX1_takeAndPutAgain_60 : decode cX1_takeAndPutAgain 60 = .ok (.goto (-28), 3) := by decide +kernel
theorem dX1_takeAndPutAgain_63 : decode cX1_takeAndPutAgain 63 = .ok (.iconst 0, 1) := by decide +kernel
theorem dX1_takeAndPutAgain_64 : decode cX1_takeAndPutAgain 64 = .ok (.istore 5, 2) := by decide +kernel
theorem dX1_takeAndPutAgain_66 : decode cX1_takeAndPutAgain 66 = .ok (.iload 5, 2) := by decide +kernel
theorem dX1_takeAndPutAgain_68 : decode cX1_takeAndPutAgain 68 = .ok (.iload_n 2, 1) := by decide +kernel
theorem dX1_takeAndPutAgain_69 : decode cX1_takeAndPutAgain 69 = .ok (.if_icmp .ge 20, 3) := by decide +kernel
theorem dX1_takeAndPutAgain_72 : decode cX1_takeAndPutAgain 72 = .ok (.aload_n 0, 1) := by decide +kernel
theorem dX1_takeAndPutAgain_73 : decode cX1_takeAndPutAgain 73 = .ok (.aload_n 0, 1) := by decide +kernel
theorem dX1_takeAndPutAgain_74 : decode cX1_takeAndPutAgain 74 = .ok (.getfield 28, 3) := by decide +kernel
theorem dX1_takeAndPutAgain_77 : decode cX1_takeAndPutAgain 77 = .ok (.iload 5, 2) := by decide +kernel
theorem dX1_takeAndPutAgain_79 : decode cX1_takeAndPutAgain 79 = .ok (.iaload, 1) := by decide +kernel
theorem dX1_takeAndPutAgain_80 : decode cX1_takeAndPutAgain 80 = .ok (.invokevirtual 292, 3) := by decide +kernel
theorem dX1_takeAndPutAgain_83 : decode cX1_takeAndPutAgain 83 = .ok (.iinc 5 1, 3) := by decide +kernel
theorem dX1_takeAndPutAgain_86 : decode cX1_takeAndPutAgain 86 = .ok (.goto (-20), 3) := by decide +kernel
theorem dX1_takeAndPutAgain_89 : decode cX1_takeAndPutAgain 89 = .ok (.return_, 1) := by decide +kernel
def tX1_takeAndPutAgain_0 (x0 : Nat) (x1 : Int32) (h : pm_H) : Option (((Nat × Int32 × pm_H) ⊕ (Nat × Int32 × Int32 × Int32 × pm_H) ⊕ (Nat × Int32 × Int32 × Nat × pm_H) ⊕ (Nat × Int32 × Nat × Int32 × pm_H) ⊕ (Nat × Int32 × Nat × Int32 × Int32 × pm_H) ⊕ (Nat × Int32 × Int32 × pm_H)) ⊕ pm_H) := if pm_kd h x0 = 1 then (pm_R h x0 15).bind fun v2 => if pm_kd h v2 = 34 then (fX1_wantedCount h x0 x1).bind fun v5 => some (.inl (.inr (.inl ((x0, x1, v5.1, Int32.ofNat (pm_ln h v2), v5.2))))) else none else none
def tX1_takeAndPutAgain_10 (x0 : Nat) (x1 : Int32) (s0 : Int32) (s1 : Int32) (h : pm_H) : Option (((Nat × Int32 × pm_H) ⊕ (Nat × Int32 × Int32 × Int32 × pm_H) ⊕ (Nat × Int32 × Int32 × Nat × pm_H) ⊕ (Nat × Int32 × Nat × Int32 × pm_H) ⊕ (Nat × Int32 × Nat × Int32 × Int32 × pm_H) ⊕ (Nat × Int32 × Int32 × pm_H)) ⊕ pm_H) := pm_let (if s0 < s1 then s0 else s1) fun y7 => if pm_kd h x0 = 1 then (fX1_shapeOfLabel h x0 x1).bind fun v10 => some (.inl (.inr (.inr (.inl ((x0, x1, y7, v10.1, v10.2)))))) else none
def tX1_takeAndPutAgain_19 (x0 : Nat) (x1 : Int32) (x2 : Int32) (s0 : Nat) (h : pm_H) : Option (((Nat × Int32 × pm_H) ⊕ (Nat × Int32 × Int32 × Int32 × pm_H) ⊕ (Nat × Int32 × Int32 × Nat × pm_H) ⊕ (Nat × Int32 × Nat × Int32 × pm_H) ⊕ (Nat × Int32 × Nat × Int32 × Int32 × pm_H) ⊕ (Nat × Int32 × Int32 × pm_H)) ⊕ pm_H) := if pm_kd h x0 = 1 then (fX1_wantedFrom h x0 x1).bind fun v13 => some (.inl (.inr (.inr (.inr (.inl ((x0, x2, s0, v13.1, v13.2))))))) else none
def tX1_takeAndPutAgain_25 (x0 : Nat) (x2 : Int32) (x3 : Nat) (s0 : Int32) (h : pm_H) : Option (((Nat × Int32 × pm_H) ⊕ (Nat × Int32 × Int32 × Int32 × pm_H) ⊕ (Nat × Int32 × Int32 × Nat × pm_H) ⊕ (Nat × Int32 × Nat × Int32 × pm_H) ⊕ (Nat × Int32 × Nat × Int32 × Int32 × pm_H) ⊕ (Nat × Int32 × Int32 × pm_H)) ⊕ pm_H) := pm_let (x2 - 1) fun y15 => some (.inl (.inr (.inr (.inr (.inr (.inl ((x0, x2, x3, s0, y15, h))))))))
def tX1_takeAndPutAgain_32 (x0 : Nat) (x2 : Int32) (x3 : Nat) (x4 : Int32) (x5 : Int32) (h : pm_H) : Option (((Nat × Int32 × pm_H) ⊕ (Nat × Int32 × Int32 × Int32 × pm_H) ⊕ (Nat × Int32 × Int32 × Nat × pm_H) ⊕ (Nat × Int32 × Nat × Int32 × pm_H) ⊕ (Nat × Int32 × Nat × Int32 × Int32 × pm_H) ⊕ (Nat × Int32 × Int32 × pm_H)) ⊕ pm_H) := if x5 < 0 then (some (.inl (.inr (.inr (.inr (.inr (.inr ((x0, x2, 0, h))))))))) else (if pm_kd h x0 = 1 then (pm_R h x0 15).bind fun v19 => (fX12_item h x3 (x4 + x5)).bind fun v21 => (fX1_take h x0 v21).bind fun v23 => if pm_kd v23.2 v19 = 34 then if pm_in x5 (pm_ln v23.2 v19) then pm_let (x5 + (-1)) fun y28 => some (.inl (.inr (.inr (.inr (.inr (.inl ((x0, x2, x3, x4, y28, pm_setI v23.2 v19 x5.toNatClampNeg v23.1)))))))) else none else none else none)
def tX1_takeAndPutAgain_66 (x0 : Nat) (x2 : Int32) (x5 : Int32) (h : pm_H) : Option (((Nat × Int32 × pm_H) ⊕ (Nat × Int32 × Int32 × Int32 × pm_H) ⊕ (Nat × Int32 × Int32 × Nat × pm_H) ⊕ (Nat × Int32 × Nat × Int32 × pm_H) ⊕ (Nat × Int32 × Nat × Int32 × Int32 × pm_H) ⊕ (Nat × Int32 × Int32 × pm_H)) ⊕ pm_H) := if x2 ≤ x5 then (some (.inr (h))) else (if pm_kd h x0 = 1 then (pm_R h x0 15).bind fun v32 => if pm_kd h v32 = 34 then if pm_in x5 (pm_ln h v32) then (fX1_put h x0 (pm_I h v32 x5.toNatClampNeg)).bind fun v36 => pm_let (x5 + 1) fun y39 => some (.inl (.inr (.inr (.inr (.inr (.inr ((x0, x2, y39, v36)))))))) else none else none else none)
def sX1_takeAndPutAgain : ((Nat × Int32 × pm_H) ⊕ (Nat × Int32 × Int32 × Int32 × pm_H) ⊕ (Nat × Int32 × Int32 × Nat × pm_H) ⊕ (Nat × Int32 × Nat × Int32 × pm_H) ⊕ (Nat × Int32 × Nat × Int32 × Int32 × pm_H) ⊕ (Nat × Int32 × Int32 × pm_H)) → Option (((Nat × Int32 × pm_H) ⊕ (Nat × Int32 × Int32 × Int32 × pm_H) ⊕ (Nat × Int32 × Int32 × Nat × pm_H) ⊕ (Nat × Int32 × Nat × Int32 × pm_H) ⊕ (Nat × Int32 × Nat × Int32 × Int32 × pm_H) ⊕ (Nat × Int32 × Int32 × pm_H)) ⊕ pm_H) := fun z => match z with
  | .inl (x0, x1, h) => tX1_takeAndPutAgain_0 x0 x1 h
  | .inr (.inl (x0, x1, s0, s1, h)) => tX1_takeAndPutAgain_10 x0 x1 s0 s1 h
  | .inr (.inr (.inl (x0, x1, x2, s0, h))) => tX1_takeAndPutAgain_19 x0 x1 x2 s0 h
  | .inr (.inr (.inr (.inl (x0, x2, x3, s0, h)))) => tX1_takeAndPutAgain_25 x0 x2 x3 s0 h
  | .inr (.inr (.inr (.inr (.inl (x0, x2, x3, x4, x5, h))))) => tX1_takeAndPutAgain_32 x0 x2 x3 x4 x5 h
  | .inr (.inr (.inr (.inr (.inr (x0, x2, x5, h))))) => tX1_takeAndPutAgain_66 x0 x2 x5 h
noncomputable def fX1_takeAndPutAgain (h : pm_H) (a0 : Nat) (p1 : Int32) : Option pm_H := pm_lim sX1_takeAndPutAgain (.inl ((a0, p1, h)))
set_option maxHeartbeats 4000000 in
set_option maxRecDepth 100000 in
theorem mlX1_takeAndPutAgain {r : pm_H} : ∀ n : Nat, (∀ (x0 : Nat) (x1 : Int32) (h : pm_H), pm_iter sX1_takeAndPutAgain n (.inl (x0, x1, h)) = some r → pm_Le h r) ∧ (∀ (x0 : Nat) (x1 : Int32) (s0 : Int32) (s1 : Int32) (h : pm_H), pm_iter sX1_takeAndPutAgain n (.inr (.inl (x0, x1, s0, s1, h))) = some r → pm_Le h r) ∧ (∀ (x0 : Nat) (x1 : Int32) (x2 : Int32) (s0 : Nat) (h : pm_H), pm_iter sX1_takeAndPutAgain n (.inr (.inr (.inl (x0, x1, x2, s0, h)))) = some r → pm_Le h r) ∧ (∀ (x0 : Nat) (x2 : Int32) (x3 : Nat) (s0 : Int32) (h : pm_H), pm_iter sX1_takeAndPutAgain n (.inr (.inr (.inr (.inl (x0, x2, x3, s0, h))))) = some r → pm_Le h r) ∧ (∀ (x0 : Nat) (x2 : Int32) (x3 : Nat) (x4 : Int32) (x5 : Int32) (h : pm_H), pm_iter sX1_takeAndPutAgain n (.inr (.inr (.inr (.inr (.inl (x0, x2, x3, x4, x5, h)))))) = some r → pm_Le h r) ∧ (∀ (x0 : Nat) (x2 : Int32) (x5 : Int32) (h : pm_H), pm_iter sX1_takeAndPutAgain n (.inr (.inr (.inr (.inr (.inr (x0, x2, x5, h)))))) = some r → pm_Le h r) := by
  intro n
  induction n with
  | zero => exact ⟨fun _ _ _ hf => (by cases hf), fun _ _ _ _ _ hf => (by cases hf), fun _ _ _ _ _ hf => (by cases hf), fun _ _ _ _ _ hf => (by cases hf), fun _ _ _ _ _ _ hf => (by cases hf), fun _ _ _ _ hf => (by cases hf)⟩
  | succ n ih =>
    refine ⟨fun x0 x1 h hf => ?_, ?_⟩
    · obtain ⟨y, hf, hi⟩ := pm_iter_s hf
      have hf : tX1_takeAndPutAgain_0 x0 x1 h = some y := hf
      unfold tX1_takeAndPutAgain_0 at hf
      have K0 := pm_S3.rf h
      obtain ⟨k1, hf⟩ := pm_if hf
      obtain ⟨v2, e3, hf⟩ := pm_bd hf
      obtain ⟨k4, hf⟩ := pm_if hf
      obtain ⟨v5, e6, hf⟩ := pm_bd hf
      cases hf
      exact ((pm_S3.le K0).trans (moX1_wantedCount e6)).trans (ih.2.1 x0 x1 v5.1 (Int32.ofNat (pm_ln h v2)) v5.2 hi)
    refine ⟨fun x0 x1 s0 s1 h hf => ?_, ?_⟩
    · obtain ⟨y, hf, hi⟩ := pm_iter_s hf
      have hf : tX1_takeAndPutAgain_10 x0 x1 s0 s1 h = some y := hf
      unfold tX1_takeAndPutAgain_10 at hf
      have K0 := pm_S3.rf h
      obtain ⟨y7, e8, hf⟩ := pm_lt hf
      obtain ⟨k9, hf⟩ := pm_if hf
      obtain ⟨v10, e11, hf⟩ := pm_bd hf
      cases hf
      exact ((pm_S3.le K0).trans (moX1_shapeOfLabel e11)).trans (ih.2.2.1 x0 x1 y7 v10.1 v10.2 hi)
    refine ⟨fun x0 x1 x2 s0 h hf => ?_, ?_⟩
    · obtain ⟨y, hf, hi⟩ := pm_iter_s hf
      have hf : tX1_takeAndPutAgain_19 x0 x1 x2 s0 h = some y := hf
      unfold tX1_takeAndPutAgain_19 at hf
      have K0 := pm_S3.rf h
      obtain ⟨k12, hf⟩ := pm_if hf
      obtain ⟨v13, e14, hf⟩ := pm_bd hf
      cases hf
      exact ((pm_S3.le K0).trans (moX1_wantedFrom e14)).trans (ih.2.2.2.1 x0 x2 s0 v13.1 v13.2 hi)
    refine ⟨fun x0 x2 x3 s0 h hf => ?_, ?_⟩
    · obtain ⟨y, hf, hi⟩ := pm_iter_s hf
      have hf : tX1_takeAndPutAgain_25 x0 x2 x3 s0 h = some y := hf
      unfold tX1_takeAndPutAgain_25 at hf
      have K0 := pm_S3.rf h
      obtain ⟨y15, e16, hf⟩ := pm_lt hf
      cases hf
      exact (pm_S3.le K0).trans (ih.2.2.2.2.1 x0 x2 x3 s0 y15 h hi)
    refine ⟨fun x0 x2 x3 x4 x5 h hf => ?_, ?_⟩
    · obtain ⟨y, hf, hi⟩ := pm_iter_s hf
      have hf : tX1_takeAndPutAgain_32 x0 x2 x3 x4 x5 h = some y := hf
      unfold tX1_takeAndPutAgain_32 at hf
      have K0 := pm_S3.rf h
      by_cases c17 : x5 < 0
      · have hf := pm_it hf c17
        cases hf
        exact (pm_S3.le K0).trans (ih.2.2.2.2.2 x0 x2 0 h hi)
      · have hf := pm_ie hf c17
        obtain ⟨k18, hf⟩ := pm_if hf
        obtain ⟨v19, e20, hf⟩ := pm_bd hf
        obtain ⟨v21, e22, hf⟩ := pm_bd hf
        obtain ⟨v23, e24, hf⟩ := pm_bd hf
        have K25 := pm_S3.trans (kpX1_take e24) K0
        obtain ⟨k26, hf⟩ := pm_if hf
        obtain ⟨u27, hf⟩ := pm_if hf
        obtain ⟨y28, e29, hf⟩ := pm_lt hf
        cases hf
        exact (pm_S3.le (pm_S3I K25)).trans (ih.2.2.2.2.1 x0 x2 x3 x4 y28 (pm_setI v23.2 v19 x5.toNatClampNeg v23.1) hi)
    refine fun x0 x2 x5 h hf => ?_
    obtain ⟨y, hf, hi⟩ := pm_iter_s hf
    have hf : tX1_takeAndPutAgain_66 x0 x2 x5 h = some y := hf
    unfold tX1_takeAndPutAgain_66 at hf
    have K0 := pm_S3.rf h
    by_cases c30 : x2 ≤ x5
    · have hf := pm_it hf c30
      have hf := Option.some.inj hf
      subst hf
      have hi := Option.some.inj (show some _ = some r from hi)
      subst hi
      exact pm_S3.le K0
    · have hf := pm_ie hf c30
      obtain ⟨k31, hf⟩ := pm_if hf
      obtain ⟨v32, e33, hf⟩ := pm_bd hf
      obtain ⟨k34, hf⟩ := pm_if hf
      obtain ⟨u35, hf⟩ := pm_if hf
      obtain ⟨v36, e37, hf⟩ := pm_bd hf
      have K38 := pm_S3.trans (kpX1_put e37) K0
      obtain ⟨y39, e40, hf⟩ := pm_lt hf
      cases hf
      exact (pm_S3.le K38).trans (ih.2.2.2.2.2 x0 x2 y39 v36 hi)
set_option maxHeartbeats 4000000 in
set_option maxRecDepth 100000 in
theorem moX1_takeAndPutAgain {h : pm_H} {a0 : Nat} {p1 : Int32} {r : pm_H} (hf : fX1_takeAndPutAgain h a0 p1 = some r) : pm_Le h r := by
  unfold fX1_takeAndPutAgain at hf
  have K0 := pm_S3.rf h
  obtain ⟨n, hn⟩ := pm_lim_iter hf
  exact (mlX1_takeAndPutAgain n).1 a0 p1 h hn
set_option maxHeartbeats 4000000 in
set_option maxRecDepth 100000 in
theorem lpX1_takeAndPutAgain {g : pm_Gm} {l : Launch} {G : pm_Gl} {Qr : Option Value → pm_H → Prop} (C : pm_C g cX1_takeAndPutAgain RX1) {h0 : pm_H} {r : pm_H} (X : pm_X g l G mX1_takeAndPutAgain (pm_sz r - pm_sz h0) (pm_us r - pm_us h0) Qr) (q : Qr none r) : ∀ n : Nat, (∀ (x0 : Nat) (x1 : Int32) (h : pm_H), pm_Le h0 h → pm_iter sX1_takeAndPutAgain n (.inl (x0, x1, h)) = some r → pm_G g 0 [(0, .ref x0), (1, .int x1)] [] h (pm_sz h - pm_sz h0) (pm_us h - pm_us h0)) ∧ (∀ (x0 : Nat) (x1 : Int32) (s0 : Int32) (s1 : Int32) (h : pm_H), pm_Le h0 h → pm_iter sX1_takeAndPutAgain n (.inr (.inl (x0, x1, s0, s1, h))) = some r → pm_G g 10 [(0, .ref x0), (1, .int x1)] [.int s0, .int s1] h (pm_sz h - pm_sz h0) (pm_us h - pm_us h0)) ∧ (∀ (x0 : Nat) (x1 : Int32) (x2 : Int32) (s0 : Nat) (h : pm_H), pm_Le h0 h → pm_iter sX1_takeAndPutAgain n (.inr (.inr (.inl (x0, x1, x2, s0, h)))) = some r → pm_G g 19 [(0, .ref x0), (1, .int x1), (2, .int x2)] [.ref s0] h (pm_sz h - pm_sz h0) (pm_us h - pm_us h0)) ∧ (∀ (x0 : Nat) (x2 : Int32) (x3 : Nat) (s0 : Int32) (h : pm_H), pm_Le h0 h → pm_iter sX1_takeAndPutAgain n (.inr (.inr (.inr (.inl (x0, x2, x3, s0, h))))) = some r → pm_G g 25 [(0, .ref x0), (2, .int x2), (3, .ref x3)] [.int s0] h (pm_sz h - pm_sz h0) (pm_us h - pm_us h0)) ∧ (∀ (x0 : Nat) (x2 : Int32) (x3 : Nat) (x4 : Int32) (x5 : Int32) (h : pm_H), pm_Le h0 h → pm_iter sX1_takeAndPutAgain n (.inr (.inr (.inr (.inr (.inl (x0, x2, x3, x4, x5, h)))))) = some r → pm_G g 32 [(0, .ref x0), (2, .int x2), (3, .ref x3), (4, .int x4), (5, .int x5)] [] h (pm_sz h - pm_sz h0) (pm_us h - pm_us h0)) ∧ (∀ (x0 : Nat) (x2 : Int32) (x5 : Int32) (h : pm_H), pm_Le h0 h → pm_iter sX1_takeAndPutAgain n (.inr (.inr (.inr (.inr (.inr (x0, x2, x5, h)))))) = some r → pm_G g 66 [(0, .ref x0), (2, .int x2), (5, .int x5)] [] h (pm_sz h - pm_sz h0) (pm_us h - pm_us h0)) := by
  intro n
  induction n with
  | zero => exact ⟨fun _ _ _ _ hf => (by cases hf), fun _ _ _ _ _ _ hf => (by cases hf), fun _ _ _ _ _ _ hf => (by cases hf), fun _ _ _ _ _ _ hf => (by cases hf), fun _ _ _ _ _ _ _ hf => (by cases hf), fun _ _ _ _ _ hf => (by cases hf)⟩
  | succ n ih =>
    refine ⟨fun x0 x1 h m0 hf => ?_, ?_⟩
    · have le0 := (mlX1_takeAndPutAgain (n + 1)).1 x0 x1 h hf
      have kc1 := Nat.sub_le_sub_right le0.1 (pm_sz h0)
      have kc2 := Nat.sub_le_sub_right le0.2 (pm_us h0)
      have K0 := pm_S3.rf h
      obtain ⟨y, hf, hi⟩ := pm_iter_s hf
      have hf : tX1_takeAndPutAgain_0 x0 x1 h = some y := hf
      unfold tX1_takeAndPutAgain_0 at hf
      refine pm_aload_n C dX1_takeAndPutAgain_0 rfl rfl ?_
      obtain ⟨k1, hf⟩ := pm_if hf
      obtain ⟨v2, e3, hf⟩ := pm_bd hf
      refine pm_getR C dX1_takeAndPutAgain_1 flX1_28 rfl k1 e3 ?_
      obtain ⟨k4, hf⟩ := pm_if hf
      refine pm_alen (t := 2) C dX1_takeAndPutAgain_4 (by decide) k4 rfl ?_
      refine pm_aload_n C dX1_takeAndPutAgain_5 rfl rfl ?_
      refine pm_iload_n C dX1_takeAndPutAgain_6 rfl rfl ?_
      obtain ⟨v5, e6, hf⟩ := pm_bd hf
      cases hf
      refine pm_callV (as := [.int x1]) (st := [.int (Int32.ofNat (pm_ln h v2))]) C X dX1_takeAndPutAgain_7 lnX1_311 myX1_wantedCount viX1_wantedCount ⟨by decide, by decide⟩ rfl rfl k1 (Nat.le_of_ble_eq_true rfl) (pa_le1 K0 m0 (moX1_wantedCount e6) ((mlX1_takeAndPutAgain n).2.1 x0 x1 v5.1 (Int32.ofNat (pm_ln h v2)) v5.2 hi)) (pa_le2 K0 m0 (moX1_wantedCount e6) ((mlX1_takeAndPutAgain n).2.1 x0 x1 v5.1 (Int32.ofNat (pm_ln h v2)) v5.2 hi)) (ctX1_wantedCount e6 ?_)
      show pm_G g 10 [(0, .ref x0), (1, .int x1)] [.int v5.1, .int (Int32.ofNat (pm_ln h v2))] v5.2 (pm_sz h - pm_sz h0 + (pm_sz v5.2 - pm_sz h)) (pm_us h - pm_us h0 + (pm_us v5.2 - pm_us h))
      refine pa_fin K0 m0 (moX1_wantedCount e6) ?_
      exact pm_sub [0, 1] rfl (ih.2.1 x0 x1 v5.1 (Int32.ofNat (pm_ln h v2)) v5.2 ((m0.trans (pm_S3.le K0)).trans (moX1_wantedCount e6)) hi)
    refine ⟨fun x0 x1 s0 s1 h m0 hf => ?_, ?_⟩
    · have le0 := (mlX1_takeAndPutAgain (n + 1)).2.1 x0 x1 s0 s1 h hf
      have kc1 := Nat.sub_le_sub_right le0.1 (pm_sz h0)
      have kc2 := Nat.sub_le_sub_right le0.2 (pm_us h0)
      have K0 := pm_S3.rf h
      obtain ⟨y, hf, hi⟩ := pm_iter_s hf
      have hf : tX1_takeAndPutAgain_10 x0 x1 s0 s1 h = some y := hf
      unfold tX1_takeAndPutAgain_10 at hf
      refine pm_mminI C (pm_XR X) dX1_takeAndPutAgain_10 mtX1_278 (by decide) (by decide) (Nat.le_of_ble_eq_true rfl) kc1 kc2 ?_
      obtain ⟨y7, e8, hf⟩ := pm_lt hf
      refine pm_topI e8 ?_
      refine pm_istore_n (lv' := [(2, .int y7), (0, .ref x0), (1, .int x1)]) C dX1_takeAndPutAgain_13 rfl (pm_nl X (by decide)) rfl ?_
      refine pm_aload_n C dX1_takeAndPutAgain_14 rfl rfl ?_
      refine pm_iload_n C dX1_takeAndPutAgain_15 rfl rfl ?_
      obtain ⟨k9, hf⟩ := pm_if hf
      obtain ⟨v10, e11, hf⟩ := pm_bd hf
      cases hf
      refine pm_callV (as := [.int x1]) (st := []) C X dX1_takeAndPutAgain_16 lnX1_301 myX1_shapeOfLabel viX1_shapeOfLabel ⟨by decide, by decide⟩ rfl rfl k9 (Nat.le_of_ble_eq_true rfl) (pa_le1 K0 m0 (moX1_shapeOfLabel e11) ((mlX1_takeAndPutAgain n).2.2.1 x0 x1 y7 v10.1 v10.2 hi)) (pa_le2 K0 m0 (moX1_shapeOfLabel e11) ((mlX1_takeAndPutAgain n).2.2.1 x0 x1 y7 v10.1 v10.2 hi)) (ctX1_shapeOfLabel e11 ?_)
      show pm_G g 19 [(2, .int y7), (0, .ref x0), (1, .int x1)] [.ref v10.1] v10.2 (pm_sz h - pm_sz h0 + (pm_sz v10.2 - pm_sz h)) (pm_us h - pm_us h0 + (pm_us v10.2 - pm_us h))
      refine pa_fin K0 m0 (moX1_shapeOfLabel e11) ?_
      exact pm_sub [1, 2, 0] rfl (ih.2.2.1 x0 x1 y7 v10.1 v10.2 ((m0.trans (pm_S3.le K0)).trans (moX1_shapeOfLabel e11)) hi)
    refine ⟨fun x0 x1 x2 s0 h m0 hf => ?_, ?_⟩
    · have le0 := (mlX1_takeAndPutAgain (n + 1)).2.2.1 x0 x1 x2 s0 h hf
      have kc1 := Nat.sub_le_sub_right le0.1 (pm_sz h0)
      have kc2 := Nat.sub_le_sub_right le0.2 (pm_us h0)
      have K0 := pm_S3.rf h
      obtain ⟨y, hf, hi⟩ := pm_iter_s hf
      have hf : tX1_takeAndPutAgain_19 x0 x1 x2 s0 h = some y := hf
      unfold tX1_takeAndPutAgain_19 at hf
      refine pm_astore_n (lv' := [(3, .ref s0), (0, .ref x0), (1, .int x1), (2, .int x2)]) C dX1_takeAndPutAgain_19 rfl (pm_nl X (by decide)) rfl ?_
      refine pm_aload_n C dX1_takeAndPutAgain_20 rfl rfl ?_
      refine pm_iload_n C dX1_takeAndPutAgain_21 rfl rfl ?_
      obtain ⟨k12, hf⟩ := pm_if hf
      obtain ⟨v13, e14, hf⟩ := pm_bd hf
      cases hf
      refine pm_callV (as := [.int x1]) (st := []) C X dX1_takeAndPutAgain_22 lnX1_308 myX1_wantedFrom viX1_wantedFrom ⟨by decide, by decide⟩ rfl rfl k12 (Nat.le_of_ble_eq_true rfl) (pa_le1 K0 m0 (moX1_wantedFrom e14) ((mlX1_takeAndPutAgain n).2.2.2.1 x0 x2 s0 v13.1 v13.2 hi)) (pa_le2 K0 m0 (moX1_wantedFrom e14) ((mlX1_takeAndPutAgain n).2.2.2.1 x0 x2 s0 v13.1 v13.2 hi)) (ctX1_wantedFrom e14 ?_)
      show pm_G g 25 [(3, .ref s0), (0, .ref x0), (1, .int x1), (2, .int x2)] [.int v13.1] v13.2 (pm_sz h - pm_sz h0 + (pm_sz v13.2 - pm_sz h)) (pm_us h - pm_us h0 + (pm_us v13.2 - pm_us h))
      refine pa_fin K0 m0 (moX1_wantedFrom e14) ?_
      exact pm_sub [1, 3, 0] rfl (ih.2.2.2.1 x0 x2 s0 v13.1 v13.2 ((m0.trans (pm_S3.le K0)).trans (moX1_wantedFrom e14)) hi)
    refine ⟨fun x0 x2 x3 s0 h m0 hf => ?_, ?_⟩
    · have le0 := (mlX1_takeAndPutAgain (n + 1)).2.2.2.1 x0 x2 x3 s0 h hf
      have kc1 := Nat.sub_le_sub_right le0.1 (pm_sz h0)
      have kc2 := Nat.sub_le_sub_right le0.2 (pm_us h0)
      have K0 := pm_S3.rf h
      obtain ⟨y, hf, hi⟩ := pm_iter_s hf
      have hf : tX1_takeAndPutAgain_25 x0 x2 x3 s0 h = some y := hf
      unfold tX1_takeAndPutAgain_25 at hf
      refine pm_istore (lv' := [(4, .int s0), (0, .ref x0), (2, .int x2), (3, .ref x3)]) C dX1_takeAndPutAgain_25 (pm_nl X (by decide)) rfl ?_
      refine pm_iload_n C dX1_takeAndPutAgain_27 rfl rfl ?_
      refine pm_iconst (v := 1) C dX1_takeAndPutAgain_28 (by decide) ?_
      refine pm_isub C dX1_takeAndPutAgain_29 ?_
      obtain ⟨y15, e16, hf⟩ := pm_lt hf
      refine pm_topI e16 ?_
      refine pm_istore (lv' := [(5, .int y15), (4, .int s0), (0, .ref x0), (2, .int x2), (3, .ref x3)]) C dX1_takeAndPutAgain_30 (pm_nl X (by decide)) rfl ?_
      cases hf
      exact pa_join K0 (pm_sub [2, 3, 4, 1, 0] rfl (ih.2.2.2.2.1 x0 x2 x3 s0 y15 h (m0.trans (pm_S3.le K0)) hi))
    refine ⟨fun x0 x2 x3 x4 x5 h m0 hf => ?_, ?_⟩
    · have le0 := (mlX1_takeAndPutAgain (n + 1)).2.2.2.2.1 x0 x2 x3 x4 x5 h hf
      have kc1 := Nat.sub_le_sub_right le0.1 (pm_sz h0)
      have kc2 := Nat.sub_le_sub_right le0.2 (pm_us h0)
      have K0 := pm_S3.rf h
      obtain ⟨y, hf, hi⟩ := pm_iter_s hf
      have hf : tX1_takeAndPutAgain_32 x0 x2 x3 x4 x5 h = some y := hf
      unfold tX1_takeAndPutAgain_32 at hf
      refine pm_iload C dX1_takeAndPutAgain_32 rfl ?_
      refine pm_if_lt (tgt := 63) C dX1_takeAndPutAgain_34 (by decide) (fun c17 => ?_) (fun c17 => ?_)
      · have hf := pm_it hf c17
        refine pm_iconst (v := 0) C dX1_takeAndPutAgain_63 (by decide) ?_
        refine pm_istore (lv' := [(5, .int 0), (0, .ref x0), (2, .int x2), (3, .ref x3), (4, .int x4)]) C dX1_takeAndPutAgain_64 (pm_nl X (by decide)) rfl ?_
        cases hf
        exact pa_join K0 (pm_sub [1, 2, 0] rfl (ih.2.2.2.2.2 x0 x2 0 h (m0.trans (pm_S3.le K0)) hi))
      · have hf := pm_ie hf c17
        refine pm_aload_n C dX1_takeAndPutAgain_37 rfl rfl ?_
        obtain ⟨k18, hf⟩ := pm_if hf
        obtain ⟨v19, e20, hf⟩ := pm_bd hf
        refine pm_getR C dX1_takeAndPutAgain_38 flX1_28 rfl k18 e20 ?_
        refine pm_iload C dX1_takeAndPutAgain_41 rfl ?_
        refine pm_aload_n C dX1_takeAndPutAgain_43 rfl rfl ?_
        refine pm_aload_n C dX1_takeAndPutAgain_44 rfl rfl ?_
        refine pm_iload C dX1_takeAndPutAgain_45 rfl ?_
        refine pm_iload C dX1_takeAndPutAgain_47 rfl ?_
        refine pm_iadd C dX1_takeAndPutAgain_49 ?_
        obtain ⟨v21, e22, hf⟩ := pm_bd hf
        refine pm_callS (as := [.ref x3, .int (x4 + x5)]) (st := [.ref x0, .int x5, .ref v19]) C X dX1_takeAndPutAgain_50 lnX1_105 myX12_item stX12_item ⟨by decide, by decide⟩ rfl rfl (Nat.le_of_ble_eq_true rfl) kc1 kc2 (ctX12_item e22 ?_)
        show pm_G g 53 [(0, .ref x0), (2, .int x2), (3, .ref x3), (4, .int x4), (5, .int x5)] [.int v21, .ref x0, .int x5, .ref v19] h (pm_sz h - pm_sz h0) (pm_us h - pm_us h0)
        obtain ⟨v23, e24, hf⟩ := pm_bd hf
        refine pm_callV (as := [.int v21]) (st := [.int x5, .ref v19]) C X dX1_takeAndPutAgain_53 lnX1_289 myX1_take viX1_take ⟨by decide, by decide⟩ rfl rfl k18 (Nat.le_of_ble_eq_true rfl) kc1 kc2 (ctX1_take e24 ?_)
        have K25 := pm_S3.trans (kpX1_take e24) K0
        show pm_G g 56 [(0, .ref x0), (2, .int x2), (3, .ref x3), (4, .int x4), (5, .int x5)] [.int v23.1, .int x5, .ref v19] v23.2 (pm_sz h - pm_sz h0) (pm_us h - pm_us h0)
        obtain ⟨k26, hf⟩ := pm_if hf
        obtain ⟨u27, hf⟩ := pm_if hf
        refine pm_iast C dX1_takeAndPutAgain_56 k26 u27 ?_
        obtain ⟨y28, e29, hf⟩ := pm_lt hf
        refine pm_iinc (v := y28) (lv' := [(5, .int y28), (0, .ref x0), (2, .int x2), (3, .ref x3), (4, .int x4)]) C dX1_takeAndPutAgain_57 rfl ((congrArg (x5 + ·) (by decide : Int32.ofInt (-1) = (-1))).trans e29) (pm_nl X (by decide)) rfl ?_
        refine pm_goto (tgt := 32) C dX1_takeAndPutAgain_60 (by decide) ?_
        cases hf
        exact pa_join (pm_S3I K25) (pm_sub [1, 2, 3, 4, 0] rfl (ih.2.2.2.2.1 x0 x2 x3 x4 y28 (pm_setI v23.2 v19 x5.toNatClampNeg v23.1) (m0.trans (pm_S3.le (pm_S3I K25))) hi))
    refine fun x0 x2 x5 h m0 hf => ?_
    have le0 := (mlX1_takeAndPutAgain (n + 1)).2.2.2.2.2 x0 x2 x5 h hf
    have kc1 := Nat.sub_le_sub_right le0.1 (pm_sz h0)
    have kc2 := Nat.sub_le_sub_right le0.2 (pm_us h0)
    have K0 := pm_S3.rf h
    obtain ⟨y, hf, hi⟩ := pm_iter_s hf
    have hf : tX1_takeAndPutAgain_66 x0 x2 x5 h = some y := hf
    unfold tX1_takeAndPutAgain_66 at hf
    refine pm_iload C dX1_takeAndPutAgain_66 rfl ?_
    refine pm_iload_n C dX1_takeAndPutAgain_68 rfl rfl ?_
    refine pm_icmp_ge (tgt := 89) C dX1_takeAndPutAgain_69 (by decide) (fun c30 => ?_) (fun c30 => ?_)
    · have hf := pm_it hf c30
      have hf := Option.some.inj hf
      subst hf
      have hi := Option.some.inj (show some _ = some r from hi)
      subst hi
      exact pm_vret C X dX1_takeAndPutAgain_89 rfl kc1 kc2 q
    · have hf := pm_ie hf c30
      refine pm_aload_n C dX1_takeAndPutAgain_72 rfl rfl ?_
      refine pm_aload_n C dX1_takeAndPutAgain_73 rfl rfl ?_
      obtain ⟨k31, hf⟩ := pm_if hf
      obtain ⟨v32, e33, hf⟩ := pm_bd hf
      refine pm_getR C dX1_takeAndPutAgain_74 flX1_28 rfl k31 e33 ?_
      refine pm_iload C dX1_takeAndPutAgain_77 rfl ?_
      obtain ⟨k34, hf⟩ := pm_if hf
      obtain ⟨u35, hf⟩ := pm_if hf
      refine pm_iald C dX1_takeAndPutAgain_79 k34 u35 rfl ?_
      obtain ⟨v36, e37, hf⟩ := pm_bd hf
      refine pm_callV (as := [.int (pm_I h v32 x5.toNatClampNeg)]) (st := []) C X dX1_takeAndPutAgain_80 lnX1_292 myX1_put viX1_put ⟨by decide, by decide⟩ rfl rfl k31 (Nat.le_of_ble_eq_true rfl) kc1 kc2 (ctX1_put e37 ?_)
      have K38 := pm_S3.trans (kpX1_put e37) K0
      show pm_G g 83 [(0, .ref x0), (2, .int x2), (5, .int x5)] [] v36 (pm_sz h - pm_sz h0) (pm_us h - pm_us h0)
      obtain ⟨y39, e40, hf⟩ := pm_lt hf
      refine pm_iinc (v := y39) (lv' := [(5, .int y39), (0, .ref x0), (2, .int x2)]) C dX1_takeAndPutAgain_83 rfl ((congrArg (x5 + ·) (by decide : Int32.ofInt 1 = 1)).trans e40) (pm_nl X (by decide)) rfl ?_
      refine pm_goto (tgt := 66) C dX1_takeAndPutAgain_86 (by decide) ?_
      cases hf
      exact pa_join K38 (pm_sub [1, 2, 0] rfl (ih.2.2.2.2.2 x0 x2 y39 v36 (m0.trans (pm_S3.le K38)) hi))
set_option maxHeartbeats 4000000 in
set_option maxRecDepth 100000 in
theorem ctX1_takeAndPutAgain {l : Launch} {G : pm_Gl} {h : pm_H} {a0 : Nat} {p1 : Int32} {r : pm_H} {Qr : Option Value → pm_H → Prop} (hf : fX1_takeAndPutAgain h a0 p1 = some r) (q : Qr none r) : pm_Ct l G mX1_takeAndPutAgain [.ref a0, .int p1] h (pm_sz r - pm_sz h) (pm_us r - pm_us h) Qr := by
  refine pm_body pnX1 (Nat.le_of_ble_eq_true rfl) (fun g C X => ?_)
  have C : pm_C g cX1_takeAndPutAgain RX1 := C
  show pm_G g 0 [(0, .ref a0), (1, .int p1)] [] h 0 0
  unfold fX1_takeAndPutAgain at hf
  obtain ⟨n, hn⟩ := pm_lim_iter hf
  exact pa_start (pm_sub [0, 1] rfl ((lpX1_takeAndPutAgain C X q n).1 a0 p1 h (pm_Le.rf h) hn))
theorem dX1_takeWanted_0 : decode cX1_takeWanted 0 = .ok (.aload_n 0, 1) := by decide +kernel
theorem dX1_takeWanted_1 : decode cX1_takeWanted 1 = .ok (.aload_n 0, 1) := by decide +kernel
theorem dX1_takeWanted_2 : decode cX1_takeWanted 2 = .ok (.iload_n 1, 1) := by decide +kernel
theorem dX1_takeWanted_3 : decode cX1_takeWanted 3 = .ok (.invokevirtual 301, 3) := by decide +kernel
theorem dX1_takeWanted_6 : decode cX1_takeWanted 6 = .ok (.aload_n 0, 1) := by decide +kernel
theorem dX1_takeWanted_7 : decode cX1_takeWanted 7 = .ok (.iload_n 1, 1) := by decide +kernel
theorem dX1_takeWanted_8 : decode cX1_takeWanted 8 = .ok (.invokevirtual 308, 3) := by decide +kernel
theorem dX1_takeWanted_11 : decode cX1_takeWanted 11 = .ok (.aload_n 0, 1) := by decide +kernel
theorem dX1_takeWanted_12 : decode cX1_takeWanted 12 = .ok (.iload_n 1, 1) := by decide +kernel
theorem dX1_takeWanted_13 : decode cX1_takeWanted 13 = .ok (.invokevirtual 311, 3) := by decide +kernel
theorem dX1_takeWanted_16 : decode cX1_takeWanted 16 = .ok (.invokevirtual 295, 3) := by decide +kernel
theorem dX1_takeWanted_19 : decode cX1_takeWanted 19 = .ok (.return_, 1) := by decide +kernel
noncomputable def fX1_takeWanted_b16 (h : pm_H) (s0 : Int32) (s1 : Int32) (s2 : Nat) (s3 : Nat) : Option pm_H := if pm_kd h s3 = 1 then (fX1_takeTypes h s3 s2 s1 s0).bind fun v11 => some v11 else none
noncomputable def fX1_takeWanted_b11 (h : pm_H) (x0 : Nat) (x1 : Int32) (s0 : Int32) (s1 : Nat) (s2 : Nat) : Option pm_H := if pm_kd h x0 = 1 then (fX1_wantedCount h x0 x1).bind fun v8 => fX1_takeWanted_b16 v8.2 v8.1 s0 s1 s2 else none
noncomputable def fX1_takeWanted_b6 (h : pm_H) (x0 : Nat) (x1 : Int32) (s0 : Nat) (s1 : Nat) : Option pm_H := if pm_kd h x0 = 1 then (fX1_wantedFrom h x0 x1).bind fun v5 => fX1_takeWanted_b11 v5.2 x0 x1 v5.1 s0 s1 else none
noncomputable def fX1_takeWanted_b0 (h : pm_H) (x0 : Nat) (x1 : Int32) : Option pm_H := if pm_kd h x0 = 1 then (fX1_shapeOfLabel h x0 x1).bind fun v2 => fX1_takeWanted_b6 v2.2 x0 x1 v2.1 x0 else none
noncomputable def fX1_takeWanted (h : pm_H) (a0 : Nat) (p1 : Int32) : Option pm_H := fX1_takeWanted_b0 h a0 p1
set_option maxHeartbeats 4000000 in
set_option maxRecDepth 100000 in
theorem moX1_takeWanted_b16 {h : pm_H} {s0 : Int32} {s1 : Int32} {s2 : Nat} {s3 : Nat} {r : pm_H} (hf : fX1_takeWanted_b16 h s0 s1 s2 s3 = some r) : pm_Le h r := by
  unfold fX1_takeWanted_b16 at hf
  have K0 := pm_S3.rf h
  obtain ⟨k10, hf⟩ := pm_if hf
  obtain ⟨v11, e12, hf⟩ := pm_bd hf
  have K13 := pm_S3.trans (kpX1_takeTypes e12) K0
  have hf := Option.some.inj hf
  subst hf
  exact pm_S3.le K13
set_option maxHeartbeats 4000000 in
set_option maxRecDepth 100000 in
theorem moX1_takeWanted_b11 {h : pm_H} {x0 : Nat} {x1 : Int32} {s0 : Int32} {s1 : Nat} {s2 : Nat} {r : pm_H} (hf : fX1_takeWanted_b11 h x0 x1 s0 s1 s2 = some r) : pm_Le h r := by
  unfold fX1_takeWanted_b11 at hf
  have K0 := pm_S3.rf h
  obtain ⟨k7, hf⟩ := pm_if hf
  obtain ⟨v8, e9, hf⟩ := pm_bd hf
  exact ((pm_S3.le K0).trans (moX1_wantedCount e9)).trans (moX1_takeWanted_b16 hf)
set_option maxHeartbeats 4000000 in
set_option maxRecDepth 100000 in
theorem moX1_takeWanted_b6 {h : pm_H} {x0 : Nat} {x1 : Int32} {s0 : Nat} {s1 : Nat} {r : pm_H} (hf : fX1_takeWanted_b6 h x0 x1 s0 s1 = some r) : pm_Le h r := by
  unfold fX1_takeWanted_b6 at hf
  have K0 := pm_S3.rf h
  obtain ⟨k4, hf⟩ := pm_if hf
  obtain ⟨v5, e6, hf⟩ := pm_bd hf
  exact ((pm_S3.le K0).trans (moX1_wantedFrom e6)).trans (moX1_takeWanted_b11 hf)
set_option maxHeartbeats 4000000 in
set_option maxRecDepth 100000 in
theorem moX1_takeWanted_b0 {h : pm_H} {x0 : Nat} {x1 : Int32} {r : pm_H} (hf : fX1_takeWanted_b0 h x0 x1 = some r) : pm_Le h r := by
  unfold fX1_takeWanted_b0 at hf
  have K0 := pm_S3.rf h
  obtain ⟨k1, hf⟩ := pm_if hf
  obtain ⟨v2, e3, hf⟩ := pm_bd hf
  exact ((pm_S3.le K0).trans (moX1_shapeOfLabel e3)).trans (moX1_takeWanted_b6 hf)
set_option maxHeartbeats 4000000 in
set_option maxRecDepth 100000 in
theorem moX1_takeWanted {h : pm_H} {a0 : Nat} {p1 : Int32} {r : pm_H} (hf : fX1_takeWanted h a0 p1 = some r) : pm_Le h r := by
  unfold fX1_takeWanted at hf
  have K0 := pm_S3.rf h
  exact (pm_S3.le K0).trans (moX1_takeWanted_b0 hf)
set_option maxHeartbeats 4000000 in
set_option maxRecDepth 100000 in
theorem bX1_takeWanted_16 {g : pm_Gm} {l : Launch} {G : pm_Gl} {Qr : Option Value → pm_H → Prop} (C : pm_C g cX1_takeWanted RX1) {h0 h : pm_H} {s0 : Int32} {s1 : Int32} {s2 : Nat} {s3 : Nat} {r : pm_H} (X : pm_X g l G mX1_takeWanted (pm_sz r - pm_sz h0) (pm_us r - pm_us h0) Qr) (m0 : pm_Le h0 h) (hf : fX1_takeWanted_b16 h s0 s1 s2 s3 = some r) (q : Qr none r) : pm_G g 16 [] [.int s0, .int s1, .ref s2, .ref s3] h (pm_sz h - pm_sz h0) (pm_us h - pm_us h0) := by
  have le0 := moX1_takeWanted_b16 hf
  have kc1 := Nat.sub_le_sub_right le0.1 (pm_sz h0)
  have kc2 := Nat.sub_le_sub_right le0.2 (pm_us h0)
  have K0 := pm_S3.rf h
  unfold fX1_takeWanted_b16 at hf
  obtain ⟨k10, hf⟩ := pm_if hf
  obtain ⟨v11, e12, hf⟩ := pm_bd hf
  refine pm_callV (as := [.ref s2, .int s1, .int s0]) (st := []) C X dX1_takeWanted_16 lnX1_295 myX1_takeTypes viX1_takeTypes ⟨by decide, by decide⟩ rfl rfl k10 (Nat.le_of_ble_eq_true rfl) kc1 kc2 (ctX1_takeTypes e12 ?_)
  have K13 := pm_S3.trans (kpX1_takeTypes e12) K0
  show pm_G g 19 [] [] v11 (pm_sz h - pm_sz h0) (pm_us h - pm_us h0)
  have hf := Option.some.inj hf
  subst hf
  exact pm_vret C X dX1_takeWanted_19 rfl kc1 kc2 q
set_option maxHeartbeats 4000000 in
set_option maxRecDepth 100000 in
theorem bX1_takeWanted_11 {g : pm_Gm} {l : Launch} {G : pm_Gl} {Qr : Option Value → pm_H → Prop} (C : pm_C g cX1_takeWanted RX1) {h0 h : pm_H} {x0 : Nat} {x1 : Int32} {s0 : Int32} {s1 : Nat} {s2 : Nat} {r : pm_H} (X : pm_X g l G mX1_takeWanted (pm_sz r - pm_sz h0) (pm_us r - pm_us h0) Qr) (m0 : pm_Le h0 h) (hf : fX1_takeWanted_b11 h x0 x1 s0 s1 s2 = some r) (q : Qr none r) : pm_G g 11 [(0, .ref x0), (1, .int x1)] [.int s0, .ref s1, .ref s2] h (pm_sz h - pm_sz h0) (pm_us h - pm_us h0) := by
  have le0 := moX1_takeWanted_b11 hf
  have kc1 := Nat.sub_le_sub_right le0.1 (pm_sz h0)
  have kc2 := Nat.sub_le_sub_right le0.2 (pm_us h0)
  have K0 := pm_S3.rf h
  unfold fX1_takeWanted_b11 at hf
  refine pm_aload_n C dX1_takeWanted_11 rfl rfl ?_
  refine pm_iload_n C dX1_takeWanted_12 rfl rfl ?_
  obtain ⟨k7, hf⟩ := pm_if hf
  obtain ⟨v8, e9, hf⟩ := pm_bd hf
  refine pm_callV (as := [.int x1]) (st := [.int s0, .ref s1, .ref s2]) C X dX1_takeWanted_13 lnX1_311 myX1_wantedCount viX1_wantedCount ⟨by decide, by decide⟩ rfl rfl k7 (Nat.le_of_ble_eq_true rfl) (pa_le1 K0 m0 (moX1_wantedCount e9) (moX1_takeWanted_b16 hf)) (pa_le2 K0 m0 (moX1_wantedCount e9) (moX1_takeWanted_b16 hf)) (ctX1_wantedCount e9 ?_)
  show pm_G g 16 [(0, .ref x0), (1, .int x1)] [.int v8.1, .int s0, .ref s1, .ref s2] v8.2 (pm_sz h - pm_sz h0 + (pm_sz v8.2 - pm_sz h)) (pm_us h - pm_us h0 + (pm_us v8.2 - pm_us h))
  refine pa_fin K0 m0 (moX1_wantedCount e9) ?_
  exact pm_sub [] rfl (bX1_takeWanted_16 C X ((m0.trans (pm_S3.le K0)).trans (moX1_wantedCount e9)) hf q)
set_option maxHeartbeats 4000000 in
set_option maxRecDepth 100000 in
theorem bX1_takeWanted_6 {g : pm_Gm} {l : Launch} {G : pm_Gl} {Qr : Option Value → pm_H → Prop} (C : pm_C g cX1_takeWanted RX1) {h0 h : pm_H} {x0 : Nat} {x1 : Int32} {s0 : Nat} {s1 : Nat} {r : pm_H} (X : pm_X g l G mX1_takeWanted (pm_sz r - pm_sz h0) (pm_us r - pm_us h0) Qr) (m0 : pm_Le h0 h) (hf : fX1_takeWanted_b6 h x0 x1 s0 s1 = some r) (q : Qr none r) : pm_G g 6 [(0, .ref x0), (1, .int x1)] [.ref s0, .ref s1] h (pm_sz h - pm_sz h0) (pm_us h - pm_us h0) := by
  have le0 := moX1_takeWanted_b6 hf
  have kc1 := Nat.sub_le_sub_right le0.1 (pm_sz h0)
  have kc2 := Nat.sub_le_sub_right le0.2 (pm_us h0)
  have K0 := pm_S3.rf h
  unfold fX1_takeWanted_b6 at hf
  refine pm_aload_n C dX1_takeWanted_6 rfl rfl ?_
  refine pm_iload_n C dX1_takeWanted_7 rfl rfl ?_
  obtain ⟨k4, hf⟩ := pm_if hf
  obtain ⟨v5, e6, hf⟩ := pm_bd hf
  refine pm_callV (as := [.int x1]) (st := [.ref s0, .ref s1]) C X dX1_takeWanted_8 lnX1_308 myX1_wantedFrom viX1_wantedFrom ⟨by decide, by decide⟩ rfl rfl k4 (Nat.le_of_ble_eq_true rfl) (pa_le1 K0 m0 (moX1_wantedFrom e6) (moX1_takeWanted_b11 hf)) (pa_le2 K0 m0 (moX1_wantedFrom e6) (moX1_takeWanted_b11 hf)) (ctX1_wantedFrom e6 ?_)
  show pm_G g 11 [(0, .ref x0), (1, .int x1)] [.int v5.1, .ref s0, .ref s1] v5.2 (pm_sz h - pm_sz h0 + (pm_sz v5.2 - pm_sz h)) (pm_us h - pm_us h0 + (pm_us v5.2 - pm_us h))
  refine pa_fin K0 m0 (moX1_wantedFrom e6) ?_
  exact pm_sub [0, 1] rfl (bX1_takeWanted_11 C X ((m0.trans (pm_S3.le K0)).trans (moX1_wantedFrom e6)) hf q)
set_option maxHeartbeats 4000000 in
set_option maxRecDepth 100000 in
theorem bX1_takeWanted_0 {g : pm_Gm} {l : Launch} {G : pm_Gl} {Qr : Option Value → pm_H → Prop} (C : pm_C g cX1_takeWanted RX1) {h0 h : pm_H} {x0 : Nat} {x1 : Int32} {r : pm_H} (X : pm_X g l G mX1_takeWanted (pm_sz r - pm_sz h0) (pm_us r - pm_us h0) Qr) (m0 : pm_Le h0 h) (hf : fX1_takeWanted_b0 h x0 x1 = some r) (q : Qr none r) : pm_G g 0 [(0, .ref x0), (1, .int x1)] [] h (pm_sz h - pm_sz h0) (pm_us h - pm_us h0) := by
  have le0 := moX1_takeWanted_b0 hf
  have kc1 := Nat.sub_le_sub_right le0.1 (pm_sz h0)
  have kc2 := Nat.sub_le_sub_right le0.2 (pm_us h0)
  have K0 := pm_S3.rf h
  unfold fX1_takeWanted_b0 at hf
  refine pm_aload_n C dX1_takeWanted_0 rfl rfl ?_
  refine pm_aload_n C dX1_takeWanted_1 rfl rfl ?_
  refine pm_iload_n C dX1_takeWanted_2 rfl rfl ?_
  obtain ⟨k1, hf⟩ := pm_if hf
  obtain ⟨v2, e3, hf⟩ := pm_bd hf
  refine pm_callV (as := [.int x1]) (st := [.ref x0]) C X dX1_takeWanted_3 lnX1_301 myX1_shapeOfLabel viX1_shapeOfLabel ⟨by decide, by decide⟩ rfl rfl k1 (Nat.le_of_ble_eq_true rfl) (pa_le1 K0 m0 (moX1_shapeOfLabel e3) (moX1_takeWanted_b6 hf)) (pa_le2 K0 m0 (moX1_shapeOfLabel e3) (moX1_takeWanted_b6 hf)) (ctX1_shapeOfLabel e3 ?_)
  show pm_G g 6 [(0, .ref x0), (1, .int x1)] [.ref v2.1, .ref x0] v2.2 (pm_sz h - pm_sz h0 + (pm_sz v2.2 - pm_sz h)) (pm_us h - pm_us h0 + (pm_us v2.2 - pm_us h))
  refine pa_fin K0 m0 (moX1_shapeOfLabel e3) ?_
  exact pm_sub [0, 1] rfl (bX1_takeWanted_6 C X ((m0.trans (pm_S3.le K0)).trans (moX1_shapeOfLabel e3)) hf q)
set_option maxHeartbeats 4000000 in
set_option maxRecDepth 100000 in
theorem ctX1_takeWanted {l : Launch} {G : pm_Gl} {h : pm_H} {a0 : Nat} {p1 : Int32} {r : pm_H} {Qr : Option Value → pm_H → Prop} (hf : fX1_takeWanted h a0 p1 = some r) (q : Qr none r) : pm_Ct l G mX1_takeWanted [.ref a0, .int p1] h (pm_sz r - pm_sz h) (pm_us r - pm_us h) Qr := by
  refine pm_body pnX1 (Nat.le_of_ble_eq_true rfl) (fun g C X => ?_)
  have C : pm_C g cX1_takeWanted RX1 := C
  show pm_G g 0 [(0, .ref a0), (1, .int p1)] [] h 0 0
  unfold fX1_takeWanted at hf
  exact pa_start (pm_sub [0, 1] rfl (bX1_takeWanted_0 C X (pm_Le.rf h) hf q))
