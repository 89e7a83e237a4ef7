set_option maxHeartbeats 4000000 in
set_option maxRecDepth 100000 in
theorem rlX16_enters {A : Nat → Prop} {h0 : pm_H} {r : pm_H} : ∀ n : Nat, (∀ (x0 : Nat) (x1 : Int32) (x2 : Nat) (x3 : Int32) (x4 : Int32) (x5 : Int32) (s0 : Int32) (h : pm_H), pr_F A h0 h → A x0 → A x2 → pm_iter sX16_enters n (.inl (x0, x1, x2, x3, x4, x5, s0, h)) = some r → pr_F A h0 r) ∧ (∀ (x0 : Nat) (x1 : Int32) (x2 : Nat) (x3 : Int32) (x4 : Int32) (x6 : Int32) (x7 : Int32) (h : pm_H), pr_F A h0 h → A x0 → A x2 → pm_iter sX16_enters n (.inr (.inl (x0, x1, x2, x3, x4, x6, x7, h))) = some r → pr_F A h0 r) ∧ (∀ (x0 : Nat) (x1 : Int32) (x2 : Nat) (x3 : Int32) (x7 : Int64) (h : pm_H), pr_F A h0 h → A x0 → A x2 → pm_iter sX16_enters n (.inr (.inr (.inl (x0, x1, x2, x3, x7, h)))) = some r → pr_F A h0 r) ∧ (∀ (x0 : Nat) (x1 : Int32) (x2 : Nat) (x3 : Int32) (x7 : Int64) (x9 : Int64) (x11 : Int64) (h : pm_H), pr_F A h0 h → A x0 → A x2 → pm_iter sX16_enters n (.inr (.inr (.inr (x0, x1, x2, x3, x7, x9, x11, h)))) = some r → pr_F A h0 r) := by
  intro n
  induction n with
  | zero => exact ⟨fun _ _ _ _ _ _ _ _ _ _ _ hf => (by cases hf), fun _ _ _ _ _ _ _ _ _ _ _ hf => (by cases hf), fun _ _ _ _ _ _ _ _ _ hf => (by cases hf), fun _ _ _ _ _ _ _ _ _ _ _ hf => (by cases hf)⟩
  | succ n ih =>
    refine ⟨fun x0 x1 x2 x3 x4 x5 s0 h K0 Hx0 Hx2 hf => ?_, ?_⟩
    · obtain ⟨y, hf, hi⟩ := pm_iter_s hf
      have hf : tX16_enters_111 x0 x1 x2 x3 x4 x5 s0 h = some y := hf
      unfold tX16_enters_111 at hf
      obtain ⟨k53, hf⟩ := pm_if hf
      by_cases c54 : (pm_I h x0 85) = 200
      · have hf := pm_it hf c54
        cases hf
        cases hi
        exact (pr_sI K0 Hx0)
      · have hf := pm_ie hf c54
        obtain ⟨k55, hf⟩ := pm_if hf
        obtain ⟨v56, e57, hf⟩ := pm_bd hf
        obtain ⟨k58, hf⟩ := pm_if hf
        obtain ⟨u59, hf⟩ := pm_if hf
        by_cases c60 : ((s0 + x5) + (pm_I h v56 x3.toNatClampNeg)) ≤ 4096
        · have hf := pm_it hf c60
          obtain ⟨v61, e62, hf⟩ := pm_bd hf
          have K63 := rgX16_counts K0 Hx0 e62
          obtain ⟨k64, hf⟩ := pm_if hf
          by_cases c65 : (pm_I v61 x0 85) ≤ 0
          · have hf := pm_it hf c65
            obtain ⟨v66, e67, hf⟩ := pm_bd hf
            obtain ⟨k68, hf⟩ := pm_if hf
            obtain ⟨u69, hf⟩ := pm_if hf
            obtain ⟨v70, e71, hf⟩ := pm_bd hf
            obtain ⟨y72, e73, hf⟩ := pm_lt hf
            obtain ⟨k74, hf⟩ := pm_if hf
            obtain ⟨u75, hf⟩ := pm_if hf
            obtain ⟨v76, e77, hf⟩ := pm_bd hf
            obtain ⟨k78, hf⟩ := pm_if hf
            obtain ⟨u79, hf⟩ := pm_if hf
            obtain ⟨v80, e81, hf⟩ := pm_bd hf
            obtain ⟨k82, hf⟩ := pm_if hf
            obtain ⟨v83, e84, hf⟩ := pm_bd hf
            obtain ⟨k85, hf⟩ := pm_if hf
            obtain ⟨u86, hf⟩ := pm_if hf
            obtain ⟨y87, e88, hf⟩ := pm_lt hf
            obtain ⟨k89, hf⟩ := pm_if hf
            obtain ⟨u90, hf⟩ := pm_if hf
            obtain ⟨v91, e92, hf⟩ := pm_bd hf
            obtain ⟨y93, e94, hf⟩ := pm_lt hf
            obtain ⟨k95, hf⟩ := pm_if hf
            obtain ⟨u96, hf⟩ := pm_if hf
            obtain ⟨y97, e98, hf⟩ := pm_lt hf
            obtain ⟨v99, e100, hf⟩ := pm_bd hf
            obtain ⟨k101, hf⟩ := pm_if hf
            obtain ⟨u102, hf⟩ := pm_if hf
            obtain ⟨y103, e104, hf⟩ := pm_lt hf
            cases hf
            exact ih.2.1 x0 x1 x2 x3 x4 s0 0 (pm_setI (pm_setR (pm_setI (pm_setI (pm_setI (pm_setI (pm_setI (pm_setI v61 v66 ((pm_I v61 x0 85).toNatClampNeg) x1) v70 ((pm_I (pm_setI v61 v66 ((pm_I v61 x0 85).toNatClampNeg) x1) x0 85).toNatClampNeg) y72) v76 ((pm_I (pm_setI (pm_setI v61 v66 ((pm_I v61 x0 85).toNatClampNeg) x1) v70 ((pm_I (pm_setI v61 v66 ((pm_I v61 x0 85).toNatClampNeg) x1) x0 85).toNatClampNeg) y72) x0 85).toNatClampNeg) s0) v80 ((pm_I (pm_setI (pm_setI (pm_setI v61 v66 ((pm_I v61 x0 85).toNatClampNeg) x1) v70 ((pm_I (pm_setI v61 v66 ((pm_I v61 x0 85).toNatClampNeg) x1) x0 85).toNatClampNeg) y72) v76 ((pm_I (pm_setI (pm_setI v61 v66 ((pm_I v61 x0 85).toNatClampNeg) x1) v70 ((pm_I (pm_setI v61 v66 ((pm_I v61 x0 85).toNatClampNeg) x1) x0 85).toNatClampNeg) y72) x0 85).toNatClampNeg) s0) x0 85).toNatClampNeg) y87) v91 ((pm_I (pm_setI (pm_setI (pm_setI (pm_setI v61 v66 ((pm_I v61 x0 85).toNatClampNeg) x1) v70 ((pm_I (pm_setI v61 v66 ((pm_I v61 x0 85).toNatClampNeg) x1) x0 85).toNatClampNeg) y72) v76 ((pm_I (pm_setI (pm_setI v61 v66 ((pm_I v61 x0 85).toNatClampNeg) x1) v70 ((pm_I (pm_setI v61 v66 ((pm_I v61 x0 85).toNatClampNeg) x1) x0 85).toNatClampNeg) y72) x0 85).toNatClampNeg) s0) v80 ((pm_I (pm_setI (pm_setI (pm_setI v61 v66 ((pm_I v61 x0 85).toNatClampNeg) x1) v70 ((pm_I (pm_setI v61 v66 ((pm_I v61 x0 85).toNatClampNeg) x1) x0 85).toNatClampNeg) y72) v76 ((pm_I (pm_setI (pm_setI v61 v66 ((pm_I v61 x0 85).toNatClampNeg) x1) v70 ((pm_I (pm_setI v61 v66 ((pm_I v61 x0 85).toNatClampNeg) x1) x0 85).toNatClampNeg) y72) x0 85).toNatClampNeg) s0) x0 85).toNatClampNeg) y87) x0 85).toNatClampNeg) y93) x0 85 y97) x0 10 (some x2)) x0 95 y103) (pr_sI (pr_sR (pr_sI (pr_sI (pr_sI (pr_sI (pr_sI (pr_sI K63 (pr_c K63 Hx0 e67)) (pr_c (pr_sI K63 (pr_c K63 Hx0 e67)) Hx0 e71)) (pr_c (pr_sI (pr_sI K63 (pr_c K63 Hx0 e67)) (pr_c (pr_sI K63 (pr_c K63 Hx0 e67)) Hx0 e71)) Hx0 e77)) (pr_c (pr_sI (pr_sI (pr_sI K63 (pr_c K63 Hx0 e67)) (pr_c (pr_sI K63 (pr_c K63 Hx0 e67)) Hx0 e71)) (pr_c (pr_sI (pr_sI K63 (pr_c K63 Hx0 e67)) (pr_c (pr_sI K63 (pr_c K63 Hx0 e67)) Hx0 e71)) Hx0 e77)) Hx0 e81)) (pr_c (pr_sI (pr_sI (pr_sI (pr_sI K63 (pr_c K63 Hx0 e67)) (pr_c (pr_sI K63 (pr_c K63 Hx0 e67)) Hx0 e71)) (pr_c (pr_sI (pr_sI K63 (pr_c K63 Hx0 e67)) (pr_c (pr_sI K63 (pr_c K63 Hx0 e67)) Hx0 e71)) Hx0 e77)) (pr_c (pr_sI (pr_sI (pr_sI K63 (pr_c K63 Hx0 e67)) (pr_c (pr_sI K63 (pr_c K63 Hx0 e67)) Hx0 e71)) (pr_c (pr_sI (pr_sI K63 (pr_c K63 Hx0 e67)) (pr_c (pr_sI K63 (pr_c K63 Hx0 e67)) Hx0 e71)) Hx0 e77)) Hx0 e81)) Hx0 e92)) Hx0) Hx0 Hx2) Hx0) Hx0 Hx2 hi
          · have hf := pm_ie hf c65
            obtain ⟨v105, e106, hf⟩ := pm_bd hf
            obtain ⟨y107, e108, hf⟩ := pm_lt hf
            obtain ⟨k109, hf⟩ := pm_if hf
            obtain ⟨u110, hf⟩ := pm_if hf
            obtain ⟨v111, e112, hf⟩ := pm_bd hf
            obtain ⟨k113, hf⟩ := pm_if hf
            obtain ⟨u114, hf⟩ := pm_if hf
            obtain ⟨v115, e116, hf⟩ := pm_bd hf
            obtain ⟨y117, e118, hf⟩ := pm_lt hf
            obtain ⟨k119, hf⟩ := pm_if hf
            obtain ⟨u120, hf⟩ := pm_if hf
            obtain ⟨v121, e122, hf⟩ := pm_bd hf
            obtain ⟨k123, hf⟩ := pm_if hf
            obtain ⟨u124, hf⟩ := pm_if hf
            obtain ⟨v125, e126, hf⟩ := pm_bd hf
            obtain ⟨k127, hf⟩ := pm_if hf
            obtain ⟨v128, e129, hf⟩ := pm_bd hf
            obtain ⟨k130, hf⟩ := pm_if hf
            obtain ⟨u131, hf⟩ := pm_if hf
            obtain ⟨y132, e133, hf⟩ := pm_lt hf
            obtain ⟨k134, hf⟩ := pm_if hf
            obtain ⟨u135, hf⟩ := pm_if hf
            obtain ⟨v136, e137, hf⟩ := pm_bd hf
            obtain ⟨y138, e139, hf⟩ := pm_lt hf
            obtain ⟨k140, hf⟩ := pm_if hf
            obtain ⟨u141, hf⟩ := pm_if hf
            obtain ⟨y142, e143, hf⟩ := pm_lt hf
            obtain ⟨v144, e145, hf⟩ := pm_bd hf
            obtain ⟨k146, hf⟩ := pm_if hf
            obtain ⟨u147, hf⟩ := pm_if hf
            obtain ⟨y148, e149, hf⟩ := pm_lt hf
            cases hf
            exact ih.2.1 x0 x1 x2 x3 x4 s0 0 (pm_setI (pm_setR (pm_setI (pm_setI (pm_setI (pm_setI (pm_setI (pm_setI (pm_setI v61 v105 (((pm_I v61 x0 85) - 1).toNatClampNeg) y107) v111 ((pm_I (pm_setI v61 v105 (((pm_I v61 x0 85) - 1).toNatClampNeg) y107) x0 85).toNatClampNeg) x1) v115 ((pm_I (pm_setI (pm_setI v61 v105 (((pm_I v61 x0 85) - 1).toNatClampNeg) y107) v111 ((pm_I (pm_setI v61 v105 (((pm_I v61 x0 85) - 1).toNatClampNeg) y107) x0 85).toNatClampNeg) x1) x0 85).toNatClampNeg) y117) v121 ((pm_I (pm_setI (pm_setI (pm_setI v61 v105 (((pm_I v61 x0 85) - 1).toNatClampNeg) y107) v111 ((pm_I (pm_setI v61 v105 (((pm_I v61 x0 85) - 1).toNatClampNeg) y107) x0 85).toNatClampNeg) x1) v115 ((pm_I (pm_setI (pm_setI v61 v105 (((pm_I v61 x0 85) - 1).toNatClampNeg) y107) v111 ((pm_I (pm_setI v61 v105 (((pm_I v61 x0 85) - 1).toNatClampNeg) y107) x0 85).toNatClampNeg) x1) x0 85).toNatClampNeg) y117) x0 85).toNatClampNeg) s0) v125 ((pm_I (pm_setI (pm_setI (pm_setI (pm_setI v61 v105 (((pm_I v61 x0 85) - 1).toNatClampNeg) y107) v111 ((pm_I (pm_setI v61 v105 (((pm_I v61 x0 85) - 1).toNatClampNeg) y107) x0 85).toNatClampNeg) x1) v115 ((pm_I (pm_setI (pm_setI v61 v105 (((pm_I v61 x0 85) - 1).toNatClampNeg) y107) v111 ((pm_I (pm_setI v61 v105 (((pm_I v61 x0 85) - 1).toNatClampNeg) y107) x0 85).toNatClampNeg) x1) x0 85).toNatClampNeg) y117) v121 ((pm_I (pm_setI (pm_setI (pm_setI v61 v105 (((pm_I v61 x0 85) - 1).toNatClampNeg) y107) v111 ((pm_I (pm_setI v61 v105 (((pm_I v61 x0 85) - 1).toNatClampNeg) y107) x0 85).toNatClampNeg) x1) v115 ((pm_I (pm_setI (pm_setI v61 v105 (((pm_I v61 x0 85) - 1).toNatClampNeg) y107) v111 ((pm_I (pm_setI v61 v105 (((pm_I v61 x0 85) - 1).toNatClampNeg) y107) x0 85).toNatClampNeg) x1) x0 85).toNatClampNeg) y117) x0 85).toNatClampNeg) s0) x0 85).toNatClampNeg) y132) v136 ((pm_I (pm_setI (pm_setI (pm_setI (pm_setI (pm_setI v61 v105 (((pm_I v61 x0 85) - 1).toNatClampNeg) y107) v111 ((pm_I (pm_setI v61 v105 (((pm_I v61 x0 85) - 1).toNatClampNeg) y107) x0 85).toNatClampNeg) x1) v115 ((pm_I (pm_setI (pm_setI v61 v105 (((pm_I v61 x0 85) - 1).toNatClampNeg) y107) v111 ((pm_I (pm_setI v61 v105 (((pm_I v61 x0 85) - 1).toNatClampNeg) y107) x0 85).toNatClampNeg) x1) x0 85).toNatClampNeg) y117) v121 ((pm_I (pm_setI (pm_setI (pm_setI v61 v105 (((pm_I v61 x0 85) - 1).toNatClampNeg) y107) v111 ((pm_I (pm_setI v61 v105 (((pm_I v61 x0 85) - 1).toNatClampNeg) y107) x0 85).toNatClampNeg) x1) v115 ((pm_I (pm_setI (pm_setI v61 v105 (((pm_I v61 x0 85) - 1).toNatClampNeg) y107) v111 ((pm_I (pm_setI v61 v105 (((pm_I v61 x0 85) - 1).toNatClampNeg) y107) x0 85).toNatClampNeg) x1) x0 85).toNatClampNeg) y117) x0 85).toNatClampNeg) s0) v125 ((pm_I (pm_setI (pm_setI (pm_setI (pm_setI v61 v105 (((pm_I v61 x0 85) - 1).toNatClampNeg) y107) v111 ((pm_I (pm_setI v61 v105 (((pm_I v61 x0 85) - 1).toNatClampNeg) y107) x0 85).toNatClampNeg) x1) v115 ((pm_I (pm_setI (pm_setI v61 v105 (((pm_I v61 x0 85) - 1).toNatClampNeg) y107) v111 ((pm_I (pm_setI v61 v105 (((pm_I v61 x0 85) - 1).toNatClampNeg) y107) x0 85).toNatClampNeg) x1) x0 85).toNatClampNeg) y117) v121 ((pm_I (pm_setI (pm_setI (pm_setI v61 v105 (((pm_I v61 x0 85) - 1).toNatClampNeg) y107) v111 ((pm_I (pm_setI v61 v105 (((pm_I v61 x0 85) - 1).toNatClampNeg) y107) x0 85).toNatClampNeg) x1) v115 ((pm_I (pm_setI (pm_setI v61 v105 (((pm_I v61 x0 85) - 1).toNatClampNeg) y107) v111 ((pm_I (pm_setI v61 v105 (((pm_I v61 x0 85) - 1).toNatClampNeg) y107) x0 85).toNatClampNeg) x1) x0 85).toNatClampNeg) y117) x0 85).toNatClampNeg) s0) x0 85).toNatClampNeg) y132) x0 85).toNatClampNeg) y138) x0 85 y142) x0 10 (some x2)) x0 95 y148) (pr_sI (pr_sR (pr_sI (pr_sI (pr_sI (pr_sI (pr_sI (pr_sI (pr_sI K63 (pr_c K63 Hx0 e106)) (pr_c (pr_sI K63 (pr_c K63 Hx0 e106)) Hx0 e112)) (pr_c (pr_sI (pr_sI K63 (pr_c K63 Hx0 e106)) (pr_c (pr_sI K63 (pr_c K63 Hx0 e106)) Hx0 e112)) Hx0 e116)) (pr_c (pr_sI (pr_sI (pr_sI K63 (pr_c K63 Hx0 e106)) (pr_c (pr_sI K63 (pr_c K63 Hx0 e106)) Hx0 e112)) (pr_c (pr_sI (pr_sI K63 (pr_c K63 Hx0 e106)) (pr_c (pr_sI K63 (pr_c K63 Hx0 e106)) Hx0 e112)) Hx0 e116)) Hx0 e122)) (pr_c (pr_sI (pr_sI (pr_sI (pr_sI K63 (pr_c K63 Hx0 e106)) (pr_c (pr_sI K63 (pr_c K63 Hx0 e106)) Hx0 e112)) (pr_c (pr_sI (pr_sI K63 (pr_c K63 Hx0 e106)) (pr_c (pr_sI K63 (pr_c K63 Hx0 e106)) Hx0 e112)) Hx0 e116)) (pr_c (pr_sI (pr_sI (pr_sI K63 (pr_c K63 Hx0 e106)) (pr_c (pr_sI K63 (pr_c K63 Hx0 e106)) Hx0 e112)) (pr_c (pr_sI (pr_sI K63 (pr_c K63 Hx0 e106)) (pr_c (pr_sI K63 (pr_c K63 Hx0 e106)) Hx0 e112)) Hx0 e116)) Hx0 e122)) Hx0 e126)) (pr_c (pr_sI (pr_sI (pr_sI (pr_sI (pr_sI K63 (pr_c K63 Hx0 e106)) (pr_c (pr_sI K63 (pr_c K63 Hx0 e106)) Hx0 e112)) (pr_c (pr_sI (pr_sI K63 (pr_c K63 Hx0 e106)) (pr_c (pr_sI K63 (pr_c K63 Hx0 e106)) Hx0 e112)) Hx0 e116)) (pr_c (pr_sI (pr_sI (pr_sI K63 (pr_c K63 Hx0 e106)) (pr_c (pr_sI K63 (pr_c K63 Hx0 e106)) Hx0 e112)) (pr_c (pr_sI (pr_sI K63 (pr_c K63 Hx0 e106)) (pr_c (pr_sI K63 (pr_c K63 Hx0 e106)) Hx0 e112)) Hx0 e116)) Hx0 e122)) (pr_c (pr_sI (pr_sI (pr_sI (pr_sI K63 (pr_c K63 Hx0 e106)) (pr_c (pr_sI K63 (pr_c K63 Hx0 e106)) Hx0 e112)) (pr_c (pr_sI (pr_sI K63 (pr_c K63 Hx0 e106)) (pr_c (pr_sI K63 (pr_c K63 Hx0 e106)) Hx0 e112)) Hx0 e116)) (pr_c (pr_sI (pr_sI (pr_sI K63 (pr_c K63 Hx0 e106)) (pr_c (pr_sI K63 (pr_c K63 Hx0 e106)) Hx0 e112)) (pr_c (pr_sI (pr_sI K63 (pr_c K63 Hx0 e106)) (pr_c (pr_sI K63 (pr_c K63 Hx0 e106)) Hx0 e112)) Hx0 e116)) Hx0 e122)) Hx0 e126)) Hx0 e137)) Hx0) Hx0 Hx2) Hx0) Hx0 Hx2 hi
        · have hf := pm_ie hf c60
          cases hf
          cases hi
          exact (pr_sI K0 Hx0)
    refine ⟨fun x0 x1 x2 x3 x4 x6 x7 h K0 Hx0 Hx2 hf => ?_, ?_⟩
    · obtain ⟨y, hf, hi⟩ := pm_iter_s hf
      have hf : tX16_enters_267 x0 x1 x2 x3 x4 x6 x7 h = some y := hf
      unfold tX16_enters_267 at hf
      by_cases c150 : x4 ≤ x7
      · have hf := pm_it hf c150
        obtain ⟨y151, e152, hf⟩ := pm_lt hf
        obtain ⟨k153, hf⟩ := pm_if hf
        obtain ⟨k154, hf⟩ := pm_if hf
        obtain ⟨v155, e156, hf⟩ := pm_bd hf
        obtain ⟨k157, hf⟩ := pm_if hf
        obtain ⟨u158, hf⟩ := pm_if hf
        obtain ⟨y159, e160, hf⟩ := pm_lt hf
        obtain ⟨v161, e162, hf⟩ := pm_bd hf
        have K163 := rgX16_word (pr_sI (pr_sI K0 Hx0) Hx0) Hx0 e162
        cases hf
        exact ih.2.2.1 x0 x1 x2 x3 v161.1 v161.2 K163 Hx0 Hx2 hi
      · have hf := pm_ie hf c150
        obtain ⟨k164, hf⟩ := pm_if hf
        obtain ⟨v165, e166, hf⟩ := pm_bd hf
        obtain ⟨v167, e168, hf⟩ := pm_bd hf
        obtain ⟨k169, hf⟩ := pm_if hf
        obtain ⟨u170, hf⟩ := pm_if hf
        obtain ⟨y171, e172, hf⟩ := pm_lt hf
        obtain ⟨k173, hf⟩ := pm_if hf
        obtain ⟨u174, hf⟩ := pm_if hf
        obtain ⟨y175, e176, hf⟩ := pm_lt hf
        cases hf
        exact ih.2.1 x0 x1 x2 x3 x4 x6 y175 (pm_setL h v165 ((x6 + x7).toNatClampNeg) y171) (pr_sL K0 (pr_c K0 Hx0 e166)) Hx0 Hx2 hi
    refine ⟨fun x0 x1 x2 x3 x7 h K0 Hx0 Hx2 hf => ?_, ?_⟩
    · obtain ⟨y, hf, hi⟩ := pm_iter_s hf
      have hf : tX16_enters_322 x0 x1 x2 x3 x7 h = some y := hf
      unfold tX16_enters_322 at hf
      by_cases c177 : x7 ≤ 0
      · have hf := pm_it hf c177
        obtain ⟨k178, hf⟩ := pm_if hf
        obtain ⟨v179, e180, hf⟩ := pm_bd hf
        obtain ⟨k181, hf⟩ := pm_if hf
        obtain ⟨u182, hf⟩ := pm_if hf
        obtain ⟨y183, e184, hf⟩ := pm_lt hf
        obtain ⟨k185, hf⟩ := pm_if hf
        obtain ⟨v186, e187, hf⟩ := pm_bd hf
        obtain ⟨k188, hf⟩ := pm_if hf
        obtain ⟨u189, hf⟩ := pm_if hf
        obtain ⟨v190, e191, hf⟩ := pm_bd hf
        obtain ⟨v192, e193, hf⟩ := pm_bd hf
        obtain ⟨k194, hf⟩ := pm_if hf
        obtain ⟨u195, hf⟩ := pm_if hf
        obtain ⟨y196, e197, hf⟩ := pm_lt hf
        obtain ⟨k198, hf⟩ := pm_if hf
        obtain ⟨u199, hf⟩ := pm_if hf
        obtain ⟨v200, e201, hf⟩ := pm_bd hf
        have K202 := rgX16_opens (pr_sI K0 Hx0) Hx0 e201
        cases hf
        cases hi
        exact K202
      · have hf := pm_ie hf c177
        obtain ⟨k203, hf⟩ := pm_if hf
        obtain ⟨v204, e205, hf⟩ := pm_bd hf
        have K206 := rgX16_word K0 Hx0 e205
        obtain ⟨k207, hf⟩ := pm_if hf
        obtain ⟨k208, hf⟩ := pm_if hf
        obtain ⟨v209, e210, hf⟩ := pm_bd hf
        obtain ⟨v211, e212, hf⟩ := pm_lt hf
        by_cases c213 : v211 = 0
        · have hf := pm_it hf c213
          obtain ⟨y214, e215, hf⟩ := pm_lt hf
          cases hf
          exact ih.2.2.2 x0 x1 x2 x3 x7 v204.1 0 (pm_setI v204.2 x0 19 y214) (pr_sI K206 Hx0) Hx0 Hx2 hi
        · have hf := pm_ie hf c213
          obtain ⟨y216, e217, hf⟩ := pm_lt hf
          cases hf
          exact ih.2.2.2 x0 x1 x2 x3 x7 v204.1 (-1) (pm_setI v204.2 x0 19 y216) (pr_sI K206 Hx0) Hx0 Hx2 hi
    refine fun x0 x1 x2 x3 x7 x9 x11 h K0 Hx0 Hx2 hf => ?_
    obtain ⟨y, hf, hi⟩ := pm_iter_s hf
    have hf : tX16_enters_368 x0 x1 x2 x3 x7 x9 x11 h = some y := hf
    unfold tX16_enters_368 at hf
    by_cases c218 : x9 ≤ 0
    · have hf := pm_it hf c218
      obtain ⟨y219, e220, hf⟩ := pm_lt hf
      cases hf
      exact ih.2.2.1 x0 x1 x2 x3 y219 h K0 Hx0 Hx2 hi
    · have hf := pm_ie hf c218
      obtain ⟨k221, hf⟩ := pm_if hf
      obtain ⟨v222, e223, hf⟩ := pm_bd hf
      obtain ⟨k224, hf⟩ := pm_if hf
      obtain ⟨u225, hf⟩ := pm_if hf
      obtain ⟨y226, e227, hf⟩ := pm_lt hf
      obtain ⟨y228, e229, hf⟩ := pm_lt hf
      cases hf
      exact ih.2.2.2 x0 x1 x2 x3 x7 y228 x11 (pm_setI (pm_setL h v222 ((pm_I h x0 93).toNatClampNeg) x11) x0 93 y226) (pr_sI (pr_sL K0 (pr_c K0 Hx0 e223)) Hx0) Hx0 Hx2 hi
set_option maxHeartbeats 4000000 in
set_option maxRecDepth 100000 in
theorem rgX16_enters {A : Nat → Prop} {h0 h : pm_H} (K0 : pr_F A h0 h) {a0 : Nat} {p1 : Int32} (Ha0 : A a0) {r : pm_H} (hf : fX16_enters h a0 p1 = some r) : pr_F A h0 r := by
  unfold fX16_enters at hf
  obtain ⟨k1, hf⟩ := pm_if hf
  obtain ⟨v2, e3, hf⟩ := pm_bd hf
  obtain ⟨k4, hf⟩ := pm_if hf
  obtain ⟨u5, hf⟩ := pm_if hf
  by_cases c6 : (pm_I h v2 p1.toNatClampNeg) < 0
  · have hf := pm_it hf c6
    obtain ⟨v7, e8, hf⟩ := pm_bd hf
    have K9 := rgX16_planOf K0 Ha0 e8
    obtain ⟨v10, e11, hf⟩ := pm_bd hf
    obtain ⟨k12, hf⟩ := pm_if hf
    obtain ⟨u13, hf⟩ := pm_if hf
    obtain ⟨y14, e15, hf⟩ := pm_lt hf
    obtain ⟨k16, hf⟩ := pm_if hf
    obtain ⟨v17, e18, hf⟩ := pm_bd hf
    obtain ⟨v19, e20, hf⟩ := pm_bd hf
    obtain ⟨k21, hf⟩ := pm_if hf
    obtain ⟨u22, hf⟩ := pm_if hf
    obtain ⟨y23, e24, hf⟩ := pm_lt hf
    obtain ⟨k25, hf⟩ := pm_if hf
    obtain ⟨u26, hf⟩ := pm_if hf
    obtain ⟨y27, e28, hf⟩ := pm_lt hf
    obtain ⟨v29, e30, hf⟩ := pm_bd hf
    obtain ⟨k31, hf⟩ := pm_if hf
    obtain ⟨u32, hf⟩ := pm_if hf
    obtain ⟨y33, e34, hf⟩ := pm_lt hf
    by_cases c35 : (pm_I h a0 85) = 0
    · have hf := pm_it hf c35
      obtain ⟨n, hn⟩ := pm_lim_iter hf
      exact (rlX16_enters n).1 a0 p1 v7 y14 y27 y33 0 h K0 Ha0 K9 hn
    · have hf := pm_ie hf c35
      obtain ⟨v36, e37, hf⟩ := pm_bd hf
      obtain ⟨y38, e39, hf⟩ := pm_lt hf
      obtain ⟨k40, hf⟩ := pm_if hf
      obtain ⟨u41, hf⟩ := pm_if hf
      obtain ⟨v42, e43, hf⟩ := pm_bd hf
      obtain ⟨y44, e45, hf⟩ := pm_lt hf
      obtain ⟨k46, hf⟩ := pm_if hf
      obtain ⟨u47, hf⟩ := pm_if hf
      obtain ⟨n, hn⟩ := pm_lim_iter hf
      exact (rlX16_enters n).1 a0 p1 v7 y14 y27 y33 ((pm_I h v36 y38.toNatClampNeg) + (pm_I h v42 y44.toNatClampNeg)) h K0 Ha0 K9 hn
  · have hf := pm_ie hf c6
    obtain ⟨u48, hf⟩ := pm_if hf
    obtain ⟨y49, e50, hf⟩ := pm_lt hf
    obtain ⟨v51, e52, hf⟩ := pm_bd hf
    cases hf
    exact (pr_sI (pr_sI (pr_sI (pr_sI K0 Ha0) Ha0) Ha0) Ha0)
set_option maxHeartbeats 4000000 in
set_option maxRecDepth 100000 in
theorem rgX16_extreme_b132 {A : Nat → Prop} {h0 h : pm_H} (K0 : pr_F A h0 h) {x1 : Int32} {x2 : Int64} {x4 : Int64} {x6 : Int32}  {r : (Int64 × pm_H)} (hf : fX16_extreme_b132 h x1 x2 x4 x6 = some r) : pr_F A h0 r.2 := by
  unfold fX16_extreme_b132 at hf
  obtain ⟨v47, e48, hf⟩ := pm_lt hf
  obtain ⟨v49, e50, hf⟩ := pm_lt hf
  by_cases c51 : v49 ≤ v47
  · have hf := pm_it hf c51
    by_cases c52 : 0 = x6
    · have hf := pm_it hf c52
      cases hf
      exact K0
    · have hf := pm_ie hf c52
      cases hf
      exact K0
  · have hf := pm_ie hf c51
    by_cases c53 : 1 = x6
    · have hf := pm_it hf c53
      cases hf
      exact K0
    · have hf := pm_ie hf c53
      cases hf
      exact K0
set_option maxHeartbeats 4000000 in
set_option maxRecDepth 100000 in
theorem rgX16_extreme {A : Nat → Prop} {h0 h : pm_H} (K0 : pr_F A h0 h) {a0 : Nat} {p1 : Int32} {p2 : Int64} {p3 : Int64} {p4 : Int32} (Ha0 : A a0) {r : (Int64 × pm_H)} (hf : fX16_extreme h a0 p1 p2 p3 p4 = some r) : pr_F A h0 r.2 := by
  unfold fX16_extreme at hf
  obtain ⟨k1, hf⟩ := pm_if hf
  obtain ⟨v2, e3, hf⟩ := pm_bd hf
  obtain ⟨k4, hf⟩ := pm_if hf
  obtain ⟨v5, e6, hf⟩ := pm_bd hf
  have K7 := rgX15_read K0 (pr_c K0 Ha0 e3) e6
  obtain ⟨k8, hf⟩ := pm_if hf
  obtain ⟨v9, e10, hf⟩ := pm_bd hf
  obtain ⟨k11, hf⟩ := pm_if hf
  obtain ⟨v12, e13, hf⟩ := pm_bd hf
  have K14 := rgX15_read K7 (pr_c K7 Ha0 e10) e13
  obtain ⟨k15, hf⟩ := pm_if hf
  obtain ⟨v16, e17, hf⟩ := pm_bd hf
  obtain ⟨k18, hf⟩ := pm_if hf
  by_cases c19 : (pm_I v12 v16 1) = 3
  · have hf := pm_it hf c19
    obtain ⟨v20, e21, hf⟩ := pm_lt hf
    cases hf
    exact K14
  · have hf := pm_ie hf c19
    obtain ⟨v22, e23, hf⟩ := pm_bd hf
    obtain ⟨k24, hf⟩ := pm_if hf
    by_cases c25 : (pm_I v12 v22 1) = 3
    · have hf := pm_it hf c25
      obtain ⟨v26, e27, hf⟩ := pm_lt hf
      cases hf
      exact K14
    · have hf := pm_ie hf c25
      by_cases c28 : (pm_I v12 v16 1) = 1
      · have hf := pm_it hf c28
        by_cases c29 : (pm_I v12 v22 1) = 1
        · have hf := pm_it hf c29
          by_cases c30 : p4 = 0
          · have hf := pm_it hf c30
            by_cases c31 : (pm_I v12 v16 0) = 0
            · have hf := pm_it hf c31
              obtain ⟨v32, e33, hf⟩ := pm_lt hf
              cases hf
              exact K14
            · have hf := pm_ie hf c31
              by_cases c34 : (pm_I v12 v22 0) = 0
              · have hf := pm_it hf c34
                obtain ⟨v35, e36, hf⟩ := pm_lt hf
                cases hf
                exact K14
              · have hf := pm_ie hf c34
                obtain ⟨v37, e38, hf⟩ := pm_lt hf
                cases hf
                exact K14
          · have hf := pm_ie hf c30
            by_cases c39 : (pm_I v12 v16 0) = 0
            · have hf := pm_it hf c39
              by_cases c40 : (pm_I v12 v22 0) = 0
              · have hf := pm_it hf c40
                obtain ⟨v41, e42, hf⟩ := pm_lt hf
                cases hf
                exact K14
              · have hf := pm_ie hf c40
                obtain ⟨v43, e44, hf⟩ := pm_lt hf
                cases hf
                exact K14
            · have hf := pm_ie hf c39
              obtain ⟨v45, e46, hf⟩ := pm_lt hf
              cases hf
              exact K14
        · have hf := pm_ie hf c29
          exact rgX16_extreme_b132 K14  hf
      · have hf := pm_ie hf c28
        exact rgX16_extreme_b132 K14  hf
set_option maxHeartbeats 4000000 in
set_option maxRecDepth 100000 in
theorem rlX16_goesOn {A : Nat → Prop} {h0 : pm_H} {r : pm_H} : ∀ n : Nat, (∀ (x0 : Nat) (h : pm_H), pr_F A h0 h → A x0 → pm_iter sX16_goesOn n (x0, h) = some r → pr_F A h0 r) := by
  intro n
  induction n with
  | zero => exact fun _ _ _ _ hf => (by cases hf)
  | succ n ih =>
    refine fun x0 h K0 Hx0 hf => ?_
    obtain ⟨y, hf, hi⟩ := pm_iter_s hf
    have hf : tX16_goesOn_0 x0 h = some y := hf
    unfold tX16_goesOn_0 at hf
    obtain ⟨k1, hf⟩ := pm_if hf
    by_cases c2 : (pm_I h x0 76) = 1
    · have hf := pm_it hf c2
      obtain ⟨v3, e4, hf⟩ := pm_bd hf
      obtain ⟨k5, hf⟩ := pm_if hf
      obtain ⟨v6, e7, hf⟩ := pm_bd hf
      by_cases c8 : v6 = 2
      · have hf := pm_it hf c8
        obtain ⟨v9, e10, hf⟩ := pm_bd hf
        have K11 := rgX16_opensBlock K0 Hx0 e10
        cases hf
        exact ih x0 v9 K11 Hx0 hi
      · have hf := pm_ie hf c8
        by_cases c12 : v6 = 3
        · have hf := pm_it hf c12
          obtain ⟨v13, e14, hf⟩ := pm_bd hf
          have K15 := rgX16_opensBlock K0 Hx0 e14
          cases hf
          exact ih x0 v13 K15 Hx0 hi
        · have hf := pm_ie hf c12
          by_cases c16 : v6 = 5
          · have hf := pm_it hf c16
            obtain ⟨v17, e18, hf⟩ := pm_bd hf
            obtain ⟨y19, e20, hf⟩ := pm_lt hf
            obtain ⟨k21, hf⟩ := pm_if hf
            obtain ⟨u22, hf⟩ := pm_if hf
            obtain ⟨y23, e24, hf⟩ := pm_lt hf
            cases hf
            exact ih x0 (pm_setI h x0 94 y23) (pr_sI K0 Hx0) Hx0 hi
          · have hf := pm_ie hf c16
            by_cases c25 : v6 = 11
            · have hf := pm_it hf c25
              obtain ⟨v26, e27, hf⟩ := pm_bd hf
              have K28 := rgX16_closes K0 Hx0 e27
              cases hf
              exact ih x0 v26 K28 Hx0 hi
            · have hf := pm_ie hf c25
              cases hf
              cases hi
              exact K0
    · have hf := pm_ie hf c2
      cases hf
      cases hi
      exact K0
set_option maxHeartbeats 4000000 in
set_option maxRecDepth 100000 in
theorem rgX16_goesOn {A : Nat → Prop} {h0 h : pm_H} (K0 : pr_F A h0 h) {a0 : Nat} (Ha0 : A a0) {r : pm_H} (hf : fX16_goesOn h a0 = some r) : pr_F A h0 r := by
  unfold fX16_goesOn at hf
  obtain ⟨n, hn⟩ := pm_lim_iter hf
  exact (rlX16_goesOn n) a0 h K0 Ha0 hn
set_option maxHeartbeats 4000000 in
set_option maxRecDepth 100000 in
theorem rlX16_invokes {A : Nat → Prop} {h0 : pm_H} {r : pm_H} : ∀ n : Nat, (∀ (x0 : Nat) (x1 : Int32) (x2 : Int32) (x3 : Int32) (h : pm_H), pr_F A h0 h → A x0 → pm_iter sX16_invokes n (x0, x1, x2, x3, h) = some r → pr_F A h0 r) := by
  intro n
  induction n with
  | zero => exact fun _ _ _ _ _ _ _ hf => (by cases hf)
  | succ n ih =>
    refine fun x0 x1 x2 x3 h K0 Hx0 hf => ?_
    obtain ⟨y, hf, hi⟩ := pm_iter_s hf
    have hf : tX16_invokes_18 x0 x1 x2 x3 h = some y := hf
    unfold tX16_invokes_18 at hf
    by_cases c6 : x2 ≤ x3
    · have hf := pm_it hf c6
      obtain ⟨k7, hf⟩ := pm_if hf
      obtain ⟨v8, e9, hf⟩ := pm_bd hf
      have K10 := rgX16_enters K0 Hx0 e9
      cases hf
      cases hi
      exact K10
    · have hf := pm_ie hf c6
      obtain ⟨k11, hf⟩ := pm_if hf
      obtain ⟨v12, e13, hf⟩ := pm_bd hf
      obtain ⟨v14, e15, hf⟩ := pm_bd hf
      obtain ⟨y16, e17, hf⟩ := pm_lt hf
      obtain ⟨k18, hf⟩ := pm_if hf
      obtain ⟨u19, hf⟩ := pm_if hf
      obtain ⟨y20, e21, hf⟩ := pm_lt hf
      obtain ⟨k22, hf⟩ := pm_if hf
      obtain ⟨u23, hf⟩ := pm_if hf
      obtain ⟨y24, e25, hf⟩ := pm_lt hf
      cases hf
      exact ih x0 x1 x2 y24 (pm_setL h v12 x3.toNatClampNeg y20) (pr_sL K0 (pr_c K0 Hx0 e13)) Hx0 hi
set_option maxHeartbeats 4000000 in
set_option maxRecDepth 100000 in
theorem rgX16_invokes {A : Nat → Prop} {h0 h : pm_H} (K0 : pr_F A h0 h) {a0 : Nat} {p1 : Int32} (Ha0 : A a0) {r : pm_H} (hf : fX16_invokes h a0 p1 = some r) : pr_F A h0 r := by
  unfold fX16_invokes at hf
  obtain ⟨k1, hf⟩ := pm_if hf
  obtain ⟨v2, e3, hf⟩ := pm_bd hf
  obtain ⟨y4, e5, hf⟩ := pm_lt hf
  obtain ⟨n, hn⟩ := pm_lim_iter hf
  exact (rlX16_invokes n) a0 p1 v2 0 (pm_setI h a0 93 y4) (pr_sI K0 Ha0) Ha0 hn
set_option maxHeartbeats 4000000 in
set_option maxRecDepth 100000 in
theorem rgX16_invokesEntry {A : Nat → Prop} {h0 h : pm_H} (K0 : pr_F A h0 h) {a0 : Nat} (Ha0 : A a0) {r : pm_H} (hf : fX16_invokesEntry h a0 = some r) : pr_F A h0 r := by
  unfold fX16_invokesEntry at hf
  obtain ⟨k1, hf⟩ := pm_if hf
  obtain ⟨v2, e3, hf⟩ := pm_bd hf
  have K4 := rgX16_word K0 Ha0 e3
  obtain ⟨k5, hf⟩ := pm_if hf
  obtain ⟨v6, e7, hf⟩ := pm_bd hf
  obtain ⟨v8, e9, hf⟩ := pm_bd hf
  have K10 := rgX16_word K4 Ha0 e9
  obtain ⟨y11, e12, hf⟩ := pm_lt hf
  obtain ⟨k13, hf⟩ := pm_if hf
  obtain ⟨u14, hf⟩ := pm_if hf
  obtain ⟨y15, e16, hf⟩ := pm_lt hf
  obtain ⟨k17, hf⟩ := pm_if hf
  obtain ⟨v18, e19, hf⟩ := pm_bd hf
  have K20 := rgX16_pop K10 Ha0 e19
  obtain ⟨k21, hf⟩ := pm_if hf
  obtain ⟨v22, e23, hf⟩ := pm_bd hf
  obtain ⟨k24, hf⟩ := pm_if hf
  obtain ⟨u25, hf⟩ := pm_if hf
  by_cases c26 : v18.1 < ((pm_I v18.2 v22 y15.toNatClampNeg).toInt64)
  · have hf := pm_it hf c26
    obtain ⟨v27, e28, hf⟩ := pm_bd hf
    obtain ⟨y29, e30, hf⟩ := pm_lt hf
    obtain ⟨k31, hf⟩ := pm_if hf
    obtain ⟨u32, hf⟩ := pm_if hf
    obtain ⟨y33, e34, hf⟩ := pm_lt hf
    by_cases c35 : 0 ≤ y33
    · have hf := pm_it hf c35
      obtain ⟨v36, e37, hf⟩ := pm_bd hf
      obtain ⟨k38, hf⟩ := pm_if hf
      obtain ⟨u39, hf⟩ := pm_if hf
      obtain ⟨v40, e41, hf⟩ := pm_bd hf
      obtain ⟨k42, hf⟩ := pm_if hf
      obtain ⟨u43, hf⟩ := pm_if hf
      obtain ⟨v44, e45, hf⟩ := pm_bd hf
      obtain ⟨y46, e47, hf⟩ := pm_lt hf
      obtain ⟨k48, hf⟩ := pm_if hf
      obtain ⟨u49, hf⟩ := pm_if hf
      obtain ⟨v50, e51, hf⟩ := pm_bd hf
      by_cases c52 : v50 = 0
      · have hf := pm_it hf c52
        obtain ⟨v53, e54, hf⟩ := pm_bd hf
        have K55 := rgX16_endsBy K20 Ha0 e54
        cases hf
        exact K55
      · have hf := pm_ie hf c52
        obtain ⟨v56, e57, hf⟩ := pm_bd hf
        have K58 := rgX16_invokes K20 Ha0 e57
        cases hf
        exact K58
    · have hf := pm_ie hf c35
      obtain ⟨v59, e60, hf⟩ := pm_bd hf
      have K61 := rgX16_endsBy K20 Ha0 e60
      cases hf
      exact K61
  · have hf := pm_ie hf c26
    obtain ⟨v62, e63, hf⟩ := pm_bd hf
    have K64 := rgX16_endsBy K20 Ha0 e63
    cases hf
    exact K64
set_option maxHeartbeats 4000000 in
set_option maxRecDepth 100000 in
theorem rlX16_isNamed {A : Nat → Prop} {h0 : pm_H} {r : (Int32 × pm_H)} : ∀ n : Nat, (∀ (x0 : Nat) (x2 : Int32) (h : pm_H), pr_F A h0 h → A x0 → pm_iter sX16_isNamed n (.inl (x0, x2, h)) = some r → pr_F A h0 r.2) ∧ (∀ (x0 : Nat) (x2 : Int32) (h : pm_H), pr_F A h0 h → A x0 → pm_iter sX16_isNamed n (.inr (.inl (x0, x2, h))) = some r → pr_F A h0 r.2) ∧ (∀ (x0 : Nat) (x3 : Int64) (x5 : Int32) (x6 : Int64) (h : pm_H), pr_F A h0 h → A x0 → pm_iter sX16_isNamed n (.inr (.inr (x0, x3, x5, x6, h))) = some r → pr_F A h0 r.2) := by
  intro n
  induction n with
  | zero => exact ⟨fun _ _ _ _ _ hf => (by cases hf), fun _ _ _ _ _ hf => (by cases hf), fun _ _ _ _ _ _ _ hf => (by cases hf)⟩
  | succ n ih =>
    refine ⟨fun x0 x2 h K0 Hx0 hf => ?_, ?_⟩
    · obtain ⟨y, hf, hi⟩ := pm_iter_s hf
      have hf : tX16_isNamed_39 x0 x2 h = some y := hf
      unfold tX16_isNamed_39 at hf
      by_cases c14 : x2 = 12
      · have hf := pm_it hf c14
        obtain ⟨k15, hf⟩ := pm_if hf
        obtain ⟨v16, e17, hf⟩ := pm_bd hf
        have K18 := rgX16_word K0 Hx0 e17
        obtain ⟨k19, hf⟩ := pm_if hf
        by_cases c20 : ((pm_I v16.2 x0 24).toInt64) ≤ v16.1
        · have hf := pm_it hf c20
          cases hf
          cases hi
          exact K18
        · have hf := pm_ie hf c20
          cases hf
          cases hi
          exact K18
      · have hf := pm_ie hf c14
        by_cases c21 : x2 = 13
        · have hf := pm_it hf c21
          obtain ⟨k22, hf⟩ := pm_if hf
          obtain ⟨v23, e24, hf⟩ := pm_bd hf
          have K25 := rgX16_word K0 Hx0 e24
          obtain ⟨k26, hf⟩ := pm_if hf
          by_cases c27 : ((pm_I v23.2 x0 24).toInt64) ≤ v23.1
          · have hf := pm_it hf c27
            cases hf
            cases hi
            exact K25
          · have hf := pm_ie hf c27
            cases hf
            cases hi
            exact K25
        · have hf := pm_ie hf c21
          by_cases c28 : x2 = 14
          · have hf := pm_it hf c28
            obtain ⟨k29, hf⟩ := pm_if hf
            obtain ⟨v30, e31, hf⟩ := pm_bd hf
            have K32 := rgX16_word K0 Hx0 e31
            cases hf
            exact ih.2.2 x0 v30.1 1 0 v30.2 K32 Hx0 hi
          · have hf := pm_ie hf c28
            by_cases c33 : x2 = 16
            · have hf := pm_it hf c33
              obtain ⟨k34, hf⟩ := pm_if hf
              obtain ⟨v35, e36, hf⟩ := pm_bd hf
              have K37 := rgX16_word K0 Hx0 e36
              obtain ⟨k38, hf⟩ := pm_if hf
              obtain ⟨v39, e40, hf⟩ := pm_bd hf
              obtain ⟨k41, hf⟩ := pm_if hf
              obtain ⟨v42, e43, hf⟩ := pm_bd hf
              by_cases c44 : v42.toInt64 ≤ v35.1
              · have hf := pm_it hf c44
                cases hf
                cases hi
                exact K37
              · have hf := pm_ie hf c44
                cases hf
                cases hi
                exact K37
            · have hf := pm_ie hf c33
              by_cases c45 : x2 = 17
              · have hf := pm_it hf c45
                obtain ⟨k46, hf⟩ := pm_if hf
                obtain ⟨v47, e48, hf⟩ := pm_bd hf
                have K49 := rgX16_word K0 Hx0 e48
                obtain ⟨k50, hf⟩ := pm_if hf
                obtain ⟨v51, e52, hf⟩ := pm_bd hf
                have K53 := rgX16_word K49 Hx0 e52
                obtain ⟨k54, hf⟩ := pm_if hf
                obtain ⟨v55, e56, hf⟩ := pm_bd hf
                obtain ⟨k57, hf⟩ := pm_if hf
                by_cases c58 : ((pm_I v51.2 v55 4).toInt64) ≤ v47.1
                · have hf := pm_it hf c58
                  cases hf
                  cases hi
                  exact K53
                · have hf := pm_ie hf c58
                  obtain ⟨v59, e60, hf⟩ := pm_bd hf
                  by_cases c61 : v59.toInt64 ≤ v51.1
                  · have hf := pm_it hf c61
                    cases hf
                    cases hi
                    exact K53
                  · have hf := pm_ie hf c61
                    obtain ⟨v62, e63, hf⟩ := pm_bd hf
                    by_cases c64 : v62 = 112
                    · have hf := pm_it hf c64
                      cases hf
                      cases hi
                      exact K53
                    · have hf := pm_ie hf c64
                      cases hf
                      cases hi
                      exact K53
              · have hf := pm_ie hf c45
                by_cases c65 : x2 < 32
                · have hf := pm_it hf c65
                  cases hf
                  exact ih.2.1 x0 x2 h K0 Hx0 hi
                · have hf := pm_ie hf c65
                  by_cases c66 : 34 < x2
                  · have hf := pm_it hf c66
                    cases hf
                    exact ih.2.1 x0 x2 h K0 Hx0 hi
                  · have hf := pm_ie hf c66
                    obtain ⟨k67, hf⟩ := pm_if hf
                    obtain ⟨v68, e69, hf⟩ := pm_bd hf
                    have K70 := rgX16_word K0 Hx0 e69
                    obtain ⟨k71, hf⟩ := pm_if hf
                    obtain ⟨v72, e73, hf⟩ := pm_bd hf
                    obtain ⟨k74, hf⟩ := pm_if hf
                    obtain ⟨v75, e76, hf⟩ := pm_bd hf
                    obtain ⟨y77, e78, hf⟩ := pm_lt hf
                    obtain ⟨k79, hf⟩ := pm_if hf
                    obtain ⟨u80, hf⟩ := pm_if hf
                    obtain ⟨v81, e82, hf⟩ := pm_bd hf
                    obtain ⟨y83, e84, hf⟩ := pm_lt hf
                    obtain ⟨k85, hf⟩ := pm_if hf
                    obtain ⟨u86, hf⟩ := pm_if hf
                    by_cases c87 : (((pm_I v68.2 v75 y77.toNatClampNeg).toInt64) + (pm_L v68.2 v81 y83.toNatClampNeg)) ≤ v68.1
                    · have hf := pm_it hf c87
                      cases hf
                      cases hi
                      exact K70
                    · have hf := pm_ie hf c87
                      cases hf
                      cases hi
                      exact K70
    refine ⟨fun x0 x2 h K0 Hx0 hf => ?_, ?_⟩
    · obtain ⟨y, hf, hi⟩ := pm_iter_s hf
      have hf : tX16_isNamed_290 x0 x2 h = some y := hf
      unfold tX16_isNamed_290 at hf
      by_cases c112 : x2 = 35
      · have hf := pm_it hf c112
        obtain ⟨k113, hf⟩ := pm_if hf
        obtain ⟨v114, e115, hf⟩ := pm_bd hf
        have K116 := rgX16_word K0 Hx0 e115
        obtain ⟨k117, hf⟩ := pm_if hf
        obtain ⟨v118, e119, hf⟩ := pm_bd hf
        obtain ⟨k120, hf⟩ := pm_if hf
        obtain ⟨v121, e122, hf⟩ := pm_bd hf
        by_cases c123 : v121.toInt64 ≤ v114.1
        · have hf := pm_it hf c123
          cases hf
          cases hi
          exact K116
        · have hf := pm_ie hf c123
          by_cases c124 : x2 = 35
          · have hf := pm_it hf c124
            cases hf
            cases hi
            exact K116
          · have hf := pm_ie hf c124
            obtain ⟨v125, e126, hf⟩ := pm_bd hf
            by_cases c127 : v125 = 0
            · have hf := pm_it hf c127
              cases hf
              cases hi
              exact K116
            · have hf := pm_ie hf c127
              cases hf
              cases hi
              exact K116
      · have hf := pm_ie hf c112
        by_cases c128 : x2 = 36
        · have hf := pm_it hf c128
          obtain ⟨k129, hf⟩ := pm_if hf
          obtain ⟨v130, e131, hf⟩ := pm_bd hf
          have K132 := rgX16_word K0 Hx0 e131
          obtain ⟨k133, hf⟩ := pm_if hf
          obtain ⟨v134, e135, hf⟩ := pm_bd hf
          obtain ⟨k136, hf⟩ := pm_if hf
          obtain ⟨v137, e138, hf⟩ := pm_bd hf
          by_cases c139 : v137.toInt64 ≤ v130.1
          · have hf := pm_it hf c139
            cases hf
            cases hi
            exact K132
          · have hf := pm_ie hf c139
            by_cases c140 : x2 = 35
            · have hf := pm_it hf c140
              cases hf
              cases hi
              exact K132
            · have hf := pm_ie hf c140
              obtain ⟨v141, e142, hf⟩ := pm_bd hf
              by_cases c143 : v141 = 0
              · have hf := pm_it hf c143
                cases hf
                cases hi
                exact K132
              · have hf := pm_ie hf c143
                cases hf
                cases hi
                exact K132
        · have hf := pm_ie hf c128
          by_cases c144 : x2 = 37
          · have hf := pm_it hf c144
            obtain ⟨k145, hf⟩ := pm_if hf
            obtain ⟨v146, e147, hf⟩ := pm_bd hf
            have K148 := rgX16_word K0 Hx0 e147
            obtain ⟨k149, hf⟩ := pm_if hf
            obtain ⟨v150, e151, hf⟩ := pm_bd hf
            obtain ⟨k152, hf⟩ := pm_if hf
            obtain ⟨v153, e154, hf⟩ := pm_bd hf
            by_cases c155 : v153.toInt64 ≤ v146.1
            · have hf := pm_it hf c155
              cases hf
              cases hi
              exact K148
            · have hf := pm_ie hf c155
              cases hf
              cases hi
              exact K148
          · have hf := pm_ie hf c144
            by_cases c156 : x2 = 38
            · have hf := pm_it hf c156
              obtain ⟨k157, hf⟩ := pm_if hf
              obtain ⟨v158, e159, hf⟩ := pm_bd hf
              have K160 := rgX16_word K0 Hx0 e159
              obtain ⟨k161, hf⟩ := pm_if hf
              obtain ⟨v162, e163, hf⟩ := pm_bd hf
              obtain ⟨k164, hf⟩ := pm_if hf
              obtain ⟨v165, e166, hf⟩ := pm_bd hf
              by_cases c167 : v165.toInt64 ≤ v158.1
              · have hf := pm_it hf c167
                cases hf
                cases hi
                exact K160
              · have hf := pm_ie hf c167
                cases hf
                cases hi
                exact K160
            · have hf := pm_ie hf c156
              obtain ⟨v168, e169, hf⟩ := pm_lt hf
              by_cases c170 : v168 = 0
              · have hf := pm_it hf c170
                by_cases c171 : x2 = 63
                · have hf := pm_it hf c171
                  obtain ⟨k172, hf⟩ := pm_if hf
                  obtain ⟨v173, e174, hf⟩ := pm_bd hf
                  obtain ⟨k175, hf⟩ := pm_if hf
                  obtain ⟨v176, e177, hf⟩ := pm_bd hf
                  by_cases c178 : v176 ≤ 0
                  · have hf := pm_it hf c178
                    cases hf
                    cases hi
                    exact K0
                  · have hf := pm_ie hf c178
                    cases hf
                    cases hi
                    exact K0
                · have hf := pm_ie hf c171
                  by_cases c179 : x2 = 64
                  · have hf := pm_it hf c179
                    obtain ⟨k180, hf⟩ := pm_if hf
                    obtain ⟨v181, e182, hf⟩ := pm_bd hf
                    obtain ⟨k183, hf⟩ := pm_if hf
                    obtain ⟨v184, e185, hf⟩ := pm_bd hf
                    by_cases c186 : v184 ≤ 0
                    · have hf := pm_it hf c186
                      cases hf
                      cases hi
                      exact K0
                    · have hf := pm_ie hf c186
                      cases hf
                      cases hi
                      exact K0
                  · have hf := pm_ie hf c179
                    by_cases c187 : x2 = 210
                    · have hf := pm_it hf c187
                      obtain ⟨k188, hf⟩ := pm_if hf
                      obtain ⟨v189, e190, hf⟩ := pm_bd hf
                      have K191 := rgX16_word K0 Hx0 e190
                      obtain ⟨k192, hf⟩ := pm_if hf
                      obtain ⟨v193, e194, hf⟩ := pm_bd hf
                      obtain ⟨k195, hf⟩ := pm_if hf
                      obtain ⟨v196, e197, hf⟩ := pm_bd hf
                      by_cases c198 : v196.toInt64 ≤ v189.1
                      · have hf := pm_it hf c198
                        cases hf
                        cases hi
                        exact K191
                      · have hf := pm_ie hf c198
                        obtain ⟨v199, e200, hf⟩ := pm_bd hf
                        obtain ⟨k201, hf⟩ := pm_if hf
                        obtain ⟨u202, hf⟩ := pm_if hf
                        by_cases c203 : (pm_I v189.2 v199 v189.1.toInt32.toNatClampNeg) = 0
                        · have hf := pm_it hf c203
                          cases hf
                          cases hi
                          exact K191
                        · have hf := pm_ie hf c203
                          cases hf
                          cases hi
                          exact K191
                    · have hf := pm_ie hf c187
                      by_cases c204 : x2 = 252
                      · have hf := pm_it hf c204
                        obtain ⟨k205, hf⟩ := pm_if hf
                        obtain ⟨v206, e207, hf⟩ := pm_bd hf
                        have K208 := rgX16_isNamedFurther K0 Hx0 e207
                        by_cases c209 : v206.1 = 0
                        · have hf := pm_it hf c209
                          cases hf
                          cases hi
                          exact K208
                        · have hf := pm_ie hf c209
                          cases hf
                          cases hi
                          exact K208
                      · have hf := pm_ie hf c204
                        cases hf
                        cases hi
                        exact K0
              · have hf := pm_ie hf c170
                obtain ⟨k210, hf⟩ := pm_if hf
                obtain ⟨v211, e212, hf⟩ := pm_bd hf
                have K213 := rgX16_word K0 Hx0 e212
                obtain ⟨v214, e215, hf⟩ := pm_lt hf
                by_cases c216 : v214.toInt64 < v211.1
                · have hf := pm_it hf c216
                  cases hf
                  cases hi
                  exact K213
                · have hf := pm_ie hf c216
                  obtain ⟨k217, hf⟩ := pm_if hf
                  obtain ⟨v218, e219, hf⟩ := pm_bd hf
                  obtain ⟨k220, hf⟩ := pm_if hf
                  obtain ⟨v221, e222, hf⟩ := pm_bd hf
                  by_cases c223 : v221 ≤ 0
                  · have hf := pm_it hf c223
                    cases hf
                    cases hi
                    exact K213
                  · have hf := pm_ie hf c223
                    cases hf
                    cases hi
                    exact K213
    refine fun x0 x3 x5 x6 h K0 Hx0 hf => ?_
    obtain ⟨y, hf, hi⟩ := pm_iter_s hf
    have hf : tX16_isNamed_87 x0 x3 x5 x6 h = some y := hf
    unfold tX16_isNamed_87 at hf
    by_cases c88 : x3 < x6
    · have hf := pm_it hf c88
      obtain ⟨u89, hf⟩ := pm_if hf
      cases hf
      cases hi
      exact K0
    · have hf := pm_ie hf c88
      obtain ⟨k90, hf⟩ := pm_if hf
      obtain ⟨v91, e92, hf⟩ := pm_bd hf
      have K93 := rgX16_word K0 Hx0 e92
      obtain ⟨k94, hf⟩ := pm_if hf
      by_cases c95 : ((pm_I v91.2 x0 24).toInt64) ≤ v91.1
      · have hf := pm_it hf c95
        by_cases c96 : x5 = 0
        · have hf := pm_it hf c96
          obtain ⟨y97, e98, hf⟩ := pm_lt hf
          cases hf
          exact ih.2.2 x0 x3 0 y97 v91.2 K93 Hx0 hi
        · have hf := pm_ie hf c96
          by_cases c99 : (0 : Int32) = (0 : Int32)
          · have hf := pm_it hf c99
            obtain ⟨y100, e101, hf⟩ := pm_lt hf
            cases hf
            exact ih.2.2 x0 x3 0 y100 v91.2 K93 Hx0 hi
          · have hf := pm_ie hf c99
            obtain ⟨y102, e103, hf⟩ := pm_lt hf
            cases hf
            exact ih.2.2 x0 x3 1 y102 v91.2 K93 Hx0 hi
      · have hf := pm_ie hf c95
        by_cases c104 : x5 = 0
        · have hf := pm_it hf c104
          obtain ⟨y105, e106, hf⟩ := pm_lt hf
          cases hf
          exact ih.2.2 x0 x3 0 y105 v91.2 K93 Hx0 hi
        · have hf := pm_ie hf c104
          by_cases c107 : (1 : Int32) = (0 : Int32)
          · have hf := pm_it hf c107
            obtain ⟨y108, e109, hf⟩ := pm_lt hf
            cases hf
            exact ih.2.2 x0 x3 0 y108 v91.2 K93 Hx0 hi
          · have hf := pm_ie hf c107
            obtain ⟨y110, e111, hf⟩ := pm_lt hf
            cases hf
            exact ih.2.2 x0 x3 1 y110 v91.2 K93 Hx0 hi
set_option maxHeartbeats 4000000 in
set_option maxRecDepth 100000 in
theorem rgX16_isNamed {A : Nat → Prop} {h0 h : pm_H} (K0 : pr_F A h0 h) {a0 : Nat} {p1 : Int32} {p2 : Int32} (Ha0 : A a0) {r : (Int32 × pm_H)} (hf : fX16_isNamed h a0 p1 p2 = some r) : pr_F A h0 r.2 := by
  unfold fX16_isNamed at hf
  obtain ⟨y1, e2, hf⟩ := pm_lt hf
  obtain ⟨k3, hf⟩ := pm_if hf
  by_cases c4 : p2 < 2
  · have hf := pm_it hf c4
    obtain ⟨n, hn⟩ := pm_lim_iter hf
    exact (rlX16_isNamed n).1 a0 p2 (pm_setI h a0 19 y1) (pr_sI K0 Ha0) Ha0 hn
  · have hf := pm_ie hf c4
    by_cases c5 : 4 < p2
    · have hf := pm_it hf c5
      obtain ⟨n, hn⟩ := pm_lim_iter hf
      exact (rlX16_isNamed n).1 a0 p2 (pm_setI h a0 19 y1) (pr_sI K0 Ha0) Ha0 hn
    · have hf := pm_ie hf c5
      obtain ⟨v6, e7, hf⟩ := pm_bd hf
      have K8 := rgX16_blockWord (pr_sI K0 Ha0) Ha0 e7
      obtain ⟨k9, hf⟩ := pm_if hf
      obtain ⟨v10, e11, hf⟩ := pm_bd hf
      obtain ⟨k12, hf⟩ := pm_if hf
      by_cases c13 : ((pm_I v6.2 v10 4).toInt64) ≤ v6.1
      · have hf := pm_it hf c13
        cases hf
        exact K8
      · have hf := pm_ie hf c13
        cases hf
        exact K8
set_option maxHeartbeats 4000000 in
set_option maxRecDepth 100000 in
theorem rgX16_isReal {A : Nat → Prop} {h0 h : pm_H} (K0 : pr_F A h0 h) {a0 : Nat} {p1 : Int32} {p2 : Int32} {p3 : Int64} {p4 : Int64} (Ha0 : A a0) {r : (Int32 × pm_H)} (hf : fX16_isReal h a0 p1 p2 p3 p4 = some r) : pr_F A h0 r.2 := by
  unfold fX16_isReal at hf
  obtain ⟨k1, hf⟩ := pm_if hf
  obtain ⟨v2, e3, hf⟩ := pm_bd hf
  obtain ⟨k4, hf⟩ := pm_if hf
  obtain ⟨v5, e6, hf⟩ := pm_bd hf
  have K7 := rgX15_read K0 (pr_c K0 Ha0 e3) e6
  obtain ⟨k8, hf⟩ := pm_if hf
  obtain ⟨v9, e10, hf⟩ := pm_bd hf
  obtain ⟨k11, hf⟩ := pm_if hf
  obtain ⟨v12, e13, hf⟩ := pm_bd hf
  have K14 := rgX15_read K7 (pr_c K7 Ha0 e10) e13
  obtain ⟨k15, hf⟩ := pm_if hf
  obtain ⟨v16, e17, hf⟩ := pm_bd hf
  obtain ⟨k18, hf⟩ := pm_if hf
  by_cases c19 : (pm_I v12 v16 1) = 3
  · have hf := pm_it hf c19
    by_cases c20 : p1 = 1
    · have hf := pm_it hf c20
      cases hf
      exact K14
    · have hf := pm_ie hf c20
      cases hf
      exact K14
  · have hf := pm_ie hf c19
    obtain ⟨v21, e22, hf⟩ := pm_bd hf
    obtain ⟨k23, hf⟩ := pm_if hf
    by_cases c24 : (pm_I v12 v21 1) = 3
    · have hf := pm_it hf c24
      by_cases c25 : p1 = 1
      · have hf := pm_it hf c25
        cases hf
        exact K14
      · have hf := pm_ie hf c25
        cases hf
        exact K14
    · have hf := pm_ie hf c24
      obtain ⟨v26, e27, hf⟩ := pm_lt hf
      obtain ⟨v28, e29, hf⟩ := pm_lt hf
      by_cases c30 : p1 = 0
      · have hf := pm_it hf c30
        by_cases c31 : v26 = v28
        · have hf := pm_it hf c31
          cases hf
          exact K14
        · have hf := pm_ie hf c31
          cases hf
          exact K14
      · have hf := pm_ie hf c30
        by_cases c32 : p1 = 1
        · have hf := pm_it hf c32
          by_cases c33 : v26 = v28
          · have hf := pm_it hf c33
            cases hf
            exact K14
          · have hf := pm_ie hf c33
            cases hf
            exact K14
        · have hf := pm_ie hf c32
          by_cases c34 : p1 = 2
          · have hf := pm_it hf c34
            by_cases c35 : v28 ≤ v26
            · have hf := pm_it hf c35
              cases hf
              exact K14
            · have hf := pm_ie hf c35
              cases hf
              exact K14
          · have hf := pm_ie hf c34
            by_cases c36 : p1 = 3
            · have hf := pm_it hf c36
              by_cases c37 : v26 ≤ v28
              · have hf := pm_it hf c37
                cases hf
                exact K14
              · have hf := pm_ie hf c37
                cases hf
                exact K14
            · have hf := pm_ie hf c36
              by_cases c38 : p1 = 4
              · have hf := pm_it hf c38
                by_cases c39 : v28 < v26
                · have hf := pm_it hf c39
                  cases hf
                  exact K14
                · have hf := pm_ie hf c39
                  cases hf
                  exact K14
              · have hf := pm_ie hf c38
                by_cases c40 : v26 < v28
                · have hf := pm_it hf c40
                  cases hf
                  exact K14
                · have hf := pm_ie hf c40
                  cases hf
                  exact K14
set_option maxHeartbeats 4000000 in
set_option maxRecDepth 100000 in
theorem rgX16_moved {A : Nat → Prop} {h0 h : pm_H} (K0 : pr_F A h0 h) {a0 : Nat} {p1 : Int32} {p2 : Int32} {p3 : Int64} (Ha0 : A a0) {r : (Int64 × pm_H)} (hf : fX16_moved h a0 p1 p2 p3 = some r) : pr_F A h0 r.2 := by
  unfold fX16_moved at hf
  obtain ⟨k1, hf⟩ := pm_if hf
  obtain ⟨v2, e3, hf⟩ := pm_bd hf
  obtain ⟨k4, hf⟩ := pm_if hf
  obtain ⟨v5, e6, hf⟩ := pm_bd hf
  have K7 := rgX15_read K0 (pr_c K0 Ha0 e3) e6
  obtain ⟨k8, hf⟩ := pm_if hf
  obtain ⟨v9, e10, hf⟩ := pm_bd hf
  obtain ⟨k11, hf⟩ := pm_if hf
  by_cases c12 : (pm_I v5 v9 1) = 3
  · have hf := pm_it hf c12
    obtain ⟨v13, e14, hf⟩ := pm_lt hf
    cases hf
    exact K7
  · have hf := pm_ie hf c12
    by_cases c15 : (pm_I v5 v9 1) ≤ 0
    · have hf := pm_it hf c15
      obtain ⟨v16, e17, hf⟩ := pm_bd hf
      cases hf
      exact K7
    · have hf := pm_ie hf c15
      by_cases c18 : (pm_I v5 v9 1) = 2
      · have hf := pm_it hf c18
        obtain ⟨v19, e20, hf⟩ := pm_lt hf
        obtain ⟨v21, e22, hf⟩ := pm_lt hf
        cases hf
        exact K7
      · have hf := pm_ie hf c18
        obtain ⟨v23, e24, hf⟩ := pm_lt hf
        cases hf
        exact K7
set_option maxHeartbeats 4000000 in
set_option maxRecDepth 100000 in
theorem rgX16_poke_b18 {A : Nat → Prop} {h0 h : pm_H} (K0 : pr_F A h0 h) {x0 : Nat} {x3 : Int32} {x4 : Int32} {s0 : Int32} (Hx0 : A x0) {r : (Int32 × pm_H)} (hf : fX16_poke_b18 h x0 x3 x4 s0 = some r) : pr_F A h0 r.2 := by
  unfold fX16_poke_b18 at hf
  obtain ⟨y7, e8, hf⟩ := pm_lt hf
  by_cases c9 : s0 < 0
  · have hf := pm_it hf c9
    cases hf
    exact K0
  · have hf := pm_ie hf c9
    obtain ⟨k10, hf⟩ := pm_if hf
    obtain ⟨v11, e12, hf⟩ := pm_bd hf
    obtain ⟨k13, hf⟩ := pm_if hf
    obtain ⟨u14, hf⟩ := pm_if hf
    by_cases c15 : y7 < (65536 * ((pm_I h v11 s0.toNatClampNeg).toInt64))
    · have hf := pm_it hf c15
      obtain ⟨v16, e17, hf⟩ := pm_bd hf
      have K18 := rgX16_sets K0 Hx0 e17
      cases hf
      exact K18
    · have hf := pm_ie hf c15
      cases hf
      exact K0
set_option maxHeartbeats 4000000 in
set_option maxRecDepth 100000 in
theorem rgX16_poke {A : Nat → Prop} {h0 h : pm_H} (K0 : pr_F A h0 h) {a0 : Nat} {p1 : Int32} {p2 : Int32} {p3 : Int32} {p4 : Int32} (Ha0 : A a0) {r : (Int32 × pm_H)} (hf : fX16_poke h a0 p1 p2 p3 p4 = some r) : pr_F A h0 r.2 := by
  unfold fX16_poke at hf
  obtain ⟨k1, hf⟩ := pm_if hf
  obtain ⟨v2, e3, hf⟩ := pm_bd hf
  by_cases c4 : v2 = 0
  · have hf := pm_it hf c4
    obtain ⟨v5, e6, hf⟩ := pm_bd hf
    exact rgX16_poke_b18 K0 Ha0 hf
  · have hf := pm_ie hf c4
    exact rgX16_poke_b18 K0 Ha0 hf
set_option maxHeartbeats 4000000 in
set_option maxRecDepth 100000 in
theorem rgX16_product_b41 {A : Nat → Prop} {h0 h : pm_H} (K0 : pr_F A h0 h) {x0 : Nat} {x1 : Int32} {s0 : Int32} (Hx0 : A x0) {r : (Int64 × pm_H)} (hf : fX16_product_b41 h x0 x1 s0 = some r) : pr_F A h0 r.2 := by
  unfold fX16_product_b41 at hf
  obtain ⟨k23, hf⟩ := pm_if hf
  obtain ⟨v24, e25, hf⟩ := pm_bd hf
  obtain ⟨k26, hf⟩ := pm_if hf
  by_cases c27 : (pm_I h v24 1) = 3
  · have hf := pm_it hf c27
    obtain ⟨v28, e29, hf⟩ := pm_lt hf
    cases hf
    exact K0
  · have hf := pm_ie hf c27
    obtain ⟨v30, e31, hf⟩ := pm_bd hf
    obtain ⟨k32, hf⟩ := pm_if hf
    by_cases c33 : (pm_I h v30 1) = 3
    · have hf := pm_it hf c33
      obtain ⟨v34, e35, hf⟩ := pm_lt hf
      cases hf
      exact K0
    · have hf := pm_ie hf c33
      by_cases c36 : ((pm_I h v24 1) + (pm_I h v30 1)) = 3
      · have hf := pm_it hf c36
        obtain ⟨v37, e38, hf⟩ := pm_lt hf
        cases hf
        exact K0
      · have hf := pm_ie hf c36
        by_cases c39 : (pm_I h v24 1) = 2
        · have hf := pm_it hf c39
          obtain ⟨v40, e41, hf⟩ := pm_lt hf
          obtain ⟨v42, e43, hf⟩ := pm_lt hf
          cases hf
          exact K0
        · have hf := pm_ie hf c39
          by_cases c44 : (pm_I h v30 1) = 2
          · have hf := pm_it hf c44
            obtain ⟨v45, e46, hf⟩ := pm_lt hf
            obtain ⟨v47, e48, hf⟩ := pm_lt hf
            cases hf
            exact K0
          · have hf := pm_ie hf c44
            by_cases c49 : (pm_I h v24 1) = 1
            · have hf := pm_it hf c49
              obtain ⟨v50, e51, hf⟩ := pm_lt hf
              cases hf
              exact K0
            · have hf := pm_ie hf c49
              by_cases c52 : (pm_I h v30 1) = 1
              · have hf := pm_it hf c52
                obtain ⟨v53, e54, hf⟩ := pm_lt hf
                cases hf
                exact K0
              · have hf := pm_ie hf c52
                obtain ⟨y55, e56, hf⟩ := pm_lt hf
                obtain ⟨y57, e58, hf⟩ := pm_lt hf
                obtain ⟨y59, e60, hf⟩ := pm_lt hf
                obtain ⟨y61, e62, hf⟩ := pm_lt hf
                obtain ⟨y63, e64, hf⟩ := pm_lt hf
                obtain ⟨y65, e66, hf⟩ := pm_lt hf
                obtain ⟨y67, e68, hf⟩ := pm_lt hf
                obtain ⟨v69, e70, hf⟩ := pm_lt hf
                by_cases c71 : v69 = 0
                · have hf := pm_it hf c71
                  obtain ⟨y72, e73, hf⟩ := pm_lt hf
                  obtain ⟨y74, e75, hf⟩ := pm_lt hf
                  obtain ⟨v76, e77, hf⟩ := pm_lt hf
                  by_cases c78 : v76 = 0
                  · have hf := pm_it hf c78
                    obtain ⟨v79, e80, hf⟩ := pm_bd hf
                    cases hf
                    exact K0
                  · have hf := pm_ie hf c78
                    obtain ⟨y81, e82, hf⟩ := pm_lt hf
                    obtain ⟨v83, e84, hf⟩ := pm_bd hf
                    cases hf
                    exact K0
                · have hf := pm_ie hf c71
                  obtain ⟨y85, e86, hf⟩ := pm_lt hf
                  obtain ⟨y87, e88, hf⟩ := pm_lt hf
                  obtain ⟨y89, e90, hf⟩ := pm_lt hf
                  obtain ⟨v91, e92, hf⟩ := pm_lt hf
                  by_cases c93 : v91 = 0
                  · have hf := pm_it hf c93
                    obtain ⟨v94, e95, hf⟩ := pm_bd hf
                    cases hf
                    exact K0
                  · have hf := pm_ie hf c93
                    obtain ⟨y96, e97, hf⟩ := pm_lt hf
                    obtain ⟨v98, e99, hf⟩ := pm_bd hf
                    cases hf
                    exact K0
set_option maxHeartbeats 4000000 in
set_option maxRecDepth 100000 in
theorem rgX16_product {A : Nat → Prop} {h0 h : pm_H} (K0 : pr_F A h0 h) {a0 : Nat} {p1 : Int32} {p2 : Int64} {p3 : Int64} (Ha0 : A a0) {r : (Int64 × pm_H)} (hf : fX16_product h a0 p1 p2 p3 = some r) : pr_F A h0 r.2 := by
  unfold fX16_product at hf
  obtain ⟨k1, hf⟩ := pm_if hf
  obtain ⟨v2, e3, hf⟩ := pm_bd hf
  obtain ⟨k4, hf⟩ := pm_if hf
  obtain ⟨v5, e6, hf⟩ := pm_bd hf
  have K7 := rgX15_read K0 (pr_c K0 Ha0 e3) e6
  obtain ⟨k8, hf⟩ := pm_if hf
  obtain ⟨v9, e10, hf⟩ := pm_bd hf
  obtain ⟨k11, hf⟩ := pm_if hf
  obtain ⟨v12, e13, hf⟩ := pm_bd hf
  have K14 := rgX15_read K7 (pr_c K7 Ha0 e10) e13
  obtain ⟨k15, hf⟩ := pm_if hf
  obtain ⟨v16, e17, hf⟩ := pm_bd hf
  obtain ⟨k18, hf⟩ := pm_if hf
  obtain ⟨v19, e20, hf⟩ := pm_bd hf
  obtain ⟨k21, hf⟩ := pm_if hf
  by_cases c22 : (pm_I v12 v16 0) = (pm_I v12 v19 0)
  · have hf := pm_it hf c22
    exact rgX16_product_b41 K14 Ha0 hf
  · have hf := pm_ie hf c22
    exact rgX16_product_b41 K14 Ha0 hf
set_option maxHeartbeats 4000000 in
set_option maxRecDepth 100000 in
theorem rlX16_quotient {A : Nat → Prop} {h0 : pm_H} {r : (Int64 × pm_H)} : ∀ n : Nat, (∀ (x0 : Nat) (x1 : Int32) (s0 : Int32) (h : pm_H), pr_F A h0 h → A x0 → pm_iter sX16_quotient n (.inl (x0, x1, s0, h)) = some r → pr_F A h0 r.2) ∧ (∀ (x1 : Int32) (x6 : Int32) (x7 : Int64) (x9 : Int64) (x11 : Int32) (h : pm_H), pr_F A h0 h → pm_iter sX16_quotient n (.inr (.inl (x1, x6, x7, x9, x11, h))) = some r → pr_F A h0 r.2) ∧ (∀ (x1 : Int32) (x6 : Int32) (x7 : Int64) (x9 : Int64) (x11 : Int32) (h : pm_H), pr_F A h0 h → pm_iter sX16_quotient n (.inr (.inr (.inl (x1, x6, x7, x9, x11, h)))) = some r → pr_F A h0 r.2) ∧ (∀ (x1 : Int32) (x6 : Int32) (x7 : Int64) (x9 : Int64) (x11 : Int32) (x12 : Int64) (x14 : Int32) (h : pm_H), pr_F A h0 h → pm_iter sX16_quotient n (.inr (.inr (.inr (x1, x6, x7, x9, x11, x12, x14, h)))) = some r → pr_F A h0 r.2) := by
  intro n
  induction n with
  | zero => exact ⟨fun _ _ _ _ _ _ hf => (by cases hf), fun _ _ _ _ _ _ _ hf => (by cases hf), fun _ _ _ _ _ _ _ hf => (by cases hf), fun _ _ _ _ _ _ _ _ _ hf => (by cases hf)⟩
  | succ n ih =>
    refine ⟨fun x0 x1 s0 h K0 Hx0 hf => ?_, ?_⟩
    · obtain ⟨y, hf, hi⟩ := pm_iter_s hf
      have hf : tX16_quotient_41 x0 x1 s0 h = some y := hf
      unfold tX16_quotient_41 at hf
      obtain ⟨k23, hf⟩ := pm_if hf
      obtain ⟨v24, e25, hf⟩ := pm_bd hf
      obtain ⟨k26, hf⟩ := pm_if hf
      by_cases c27 : (pm_I h v24 1) = 3
      · have hf := pm_it hf c27
        obtain ⟨v28, e29, hf⟩ := pm_lt hf
        cases hf
        cases hi
        exact K0
      · have hf := pm_ie hf c27
        obtain ⟨v30, e31, hf⟩ := pm_bd hf
        obtain ⟨k32, hf⟩ := pm_if hf
        by_cases c33 : (pm_I h v30 1) = 3
        · have hf := pm_it hf c33
          obtain ⟨v34, e35, hf⟩ := pm_lt hf
          cases hf
          cases hi
          exact K0
        · have hf := pm_ie hf c33
          by_cases c36 : (pm_I h v24 1) = (pm_I h v30 1)
          · have hf := pm_it hf c36
            by_cases c37 : (pm_I h v24 1) ≤ 0
            · have hf := pm_it hf c37
              by_cases c38 : (pm_I h v24 1) = 2
              · have hf := pm_it hf c38
                obtain ⟨v39, e40, hf⟩ := pm_lt hf
                obtain ⟨v41, e42, hf⟩ := pm_lt hf
                cases hf
                cases hi
                exact K0
              · have hf := pm_ie hf c38
                by_cases c43 : (pm_I h v30 1) = 1
                · have hf := pm_it hf c43
                  obtain ⟨v44, e45, hf⟩ := pm_lt hf
                  obtain ⟨v46, e47, hf⟩ := pm_lt hf
                  cases hf
                  cases hi
                  exact K0
                · have hf := pm_ie hf c43
                  by_cases c48 : (pm_I h v24 1) = 1
                  · have hf := pm_it hf c48
                    obtain ⟨v49, e50, hf⟩ := pm_lt hf
                    cases hf
                    cases hi
                    exact K0
                  · have hf := pm_ie hf c48
                    by_cases c51 : (pm_I h v30 1) = 2
                    · have hf := pm_it hf c51
                      obtain ⟨v52, e53, hf⟩ := pm_lt hf
                      cases hf
                      cases hi
                      exact K0
                    · have hf := pm_ie hf c51
                      obtain ⟨y54, e55, hf⟩ := pm_lt hf
                      obtain ⟨y56, e57, hf⟩ := pm_lt hf
                      obtain ⟨y58, e59, hf⟩ := pm_lt hf
                      cases hf
                      exact ih.2.1 x1 s0 y54 y56 y58 h K0  hi
            · have hf := pm_ie hf c37
              obtain ⟨v60, e61, hf⟩ := pm_lt hf
              cases hf
              cases hi
              exact K0
          · have hf := pm_ie hf c36
            by_cases c62 : (pm_I h v24 1) = 2
            · have hf := pm_it hf c62
              obtain ⟨v63, e64, hf⟩ := pm_lt hf
              obtain ⟨v65, e66, hf⟩ := pm_lt hf
              cases hf
              cases hi
              exact K0
            · have hf := pm_ie hf c62
              by_cases c67 : (pm_I h v30 1) = 1
              · have hf := pm_it hf c67
                obtain ⟨v68, e69, hf⟩ := pm_lt hf
                obtain ⟨v70, e71, hf⟩ := pm_lt hf
                cases hf
                cases hi
                exact K0
              · have hf := pm_ie hf c67
                by_cases c72 : (pm_I h v24 1) = 1
                · have hf := pm_it hf c72
                  obtain ⟨v73, e74, hf⟩ := pm_lt hf
                  cases hf
                  cases hi
                  exact K0
                · have hf := pm_ie hf c72
                  by_cases c75 : (pm_I h v30 1) = 2
                  · have hf := pm_it hf c75
                    obtain ⟨v76, e77, hf⟩ := pm_lt hf
                    cases hf
                    cases hi
                    exact K0
                  · have hf := pm_ie hf c75
                    obtain ⟨y78, e79, hf⟩ := pm_lt hf
                    obtain ⟨y80, e81, hf⟩ := pm_lt hf
                    obtain ⟨y82, e83, hf⟩ := pm_lt hf
                    cases hf
                    exact ih.2.1 x1 s0 y78 y80 y82 h K0  hi
    refine ⟨fun x1 x6 x7 x9 x11 h K0 hf => ?_, ?_⟩
    · obtain ⟨y, hf, hi⟩ := pm_iter_s hf
      have hf : tX16_quotient_195 x1 x6 x7 x9 x11 h = some y := hf
      unfold tX16_quotient_195 at hf
      by_cases c84 : 4503599627370496 ≤ x7
      · have hf := pm_it hf c84
        cases hf
        exact ih.2.2.1 x1 x6 x7 x9 x11 h K0  hi
      · have hf := pm_ie hf c84
        obtain ⟨y85, e86, hf⟩ := pm_lt hf
        obtain ⟨y87, e88, hf⟩ := pm_lt hf
        cases hf
        exact ih.2.1 x1 x6 y87 x9 y85 h K0  hi
    refine ⟨fun x1 x6 x7 x9 x11 h K0 hf => ?_, ?_⟩
    · obtain ⟨y, hf, hi⟩ := pm_iter_s hf
      have hf : tX16_quotient_216 x1 x6 x7 x9 x11 h = some y := hf
      unfold tX16_quotient_216 at hf
      by_cases c89 : 4503599627370496 ≤ x9
      · have hf := pm_it hf c89
        cases hf
        exact ih.2.2.2 x1 x6 x7 x9 x11 0 0 h K0  hi
      · have hf := pm_ie hf c89
        obtain ⟨y90, e91, hf⟩ := pm_lt hf
        obtain ⟨y92, e93, hf⟩ := pm_lt hf
        cases hf
        exact ih.2.2.1 x1 x6 x7 y92 y90 h K0  hi
    refine fun x1 x6 x7 x9 x11 x12 x14 h K0 hf => ?_
    obtain ⟨y, hf, hi⟩ := pm_iter_s hf
    have hf : tX16_quotient_243 x1 x6 x7 x9 x11 x12 x14 h = some y := hf
    unfold tX16_quotient_243 at hf
    by_cases c94 : 57 ≤ x14
    · have hf := pm_it hf c94
      by_cases c95 : x7 = 0
      · have hf := pm_it hf c95
        obtain ⟨v96, e97, hf⟩ := pm_bd hf
        cases hf
        cases hi
        exact K0
      · have hf := pm_ie hf c95
        obtain ⟨v98, e99, hf⟩ := pm_bd hf
        cases hf
        cases hi
        exact K0
    · have hf := pm_ie hf c94
      obtain ⟨y100, e101, hf⟩ := pm_lt hf
      by_cases c102 : x7 < x9
      · have hf := pm_it hf c102
        obtain ⟨y103, e104, hf⟩ := pm_lt hf
        obtain ⟨y105, e106, hf⟩ := pm_lt hf
        cases hf
        exact ih.2.2.2 x1 x6 y103 x9 x11 y100 y105 h K0  hi
      · have hf := pm_ie hf c102
        obtain ⟨y107, e108, hf⟩ := pm_lt hf
        obtain ⟨y109, e110, hf⟩ := pm_lt hf
        obtain ⟨y111, e112, hf⟩ := pm_lt hf
        obtain ⟨y113, e114, hf⟩ := pm_lt hf
        cases hf
        exact ih.2.2.2 x1 x6 y111 x9 x11 y109 y113 h K0  hi
set_option maxHeartbeats 4000000 in
set_option maxRecDepth 100000 in
theorem rgX16_quotient {A : Nat → Prop} {h0 h : pm_H} (K0 : pr_F A h0 h) {a0 : Nat} {p1 : Int32} {p2 : Int64} {p3 : Int64} (Ha0 : A a0) {r : (Int64 × pm_H)} (hf : fX16_quotient h a0 p1 p2 p3 = some r) : pr_F A h0 r.2 := by
  unfold fX16_quotient at hf
  obtain ⟨k1, hf⟩ := pm_if hf
  obtain ⟨v2, e3, hf⟩ := pm_bd hf
  obtain ⟨k4, hf⟩ := pm_if hf
  obtain ⟨v5, e6, hf⟩ := pm_bd hf
  have K7 := rgX15_read K0 (pr_c K0 Ha0 e3) e6
  obtain ⟨k8, hf⟩ := pm_if hf
  obtain ⟨v9, e10, hf⟩ := pm_bd hf
  obtain ⟨k11, hf⟩ := pm_if hf
  obtain ⟨v12, e13, hf⟩ := pm_bd hf
  have K14 := rgX15_read K7 (pr_c K7 Ha0 e10) e13
  obtain ⟨k15, hf⟩ := pm_if hf
  obtain ⟨v16, e17, hf⟩ := pm_bd hf
  obtain ⟨k18, hf⟩ := pm_if hf
  obtain ⟨v19, e20, hf⟩ := pm_bd hf
  obtain ⟨k21, hf⟩ := pm_if hf
  by_cases c22 : (pm_I v12 v16 0) = (pm_I v12 v19 0)
  · have hf := pm_it hf c22
    obtain ⟨n, hn⟩ := pm_lim_iter hf
    exact (rlX16_quotient n).1 a0 p1 0 v12 K14 Ha0 hn
  · have hf := pm_ie hf c22
    obtain ⟨n, hn⟩ := pm_lim_iter hf
    exact (rlX16_quotient n).1 a0 p1 1 v12 K14 Ha0 hn
set_option maxHeartbeats 4000000 in
set_option maxRecDepth 100000 in
theorem rlX16_root {A : Nat → Prop} {h0 : pm_H} {r : (Int64 × pm_H)} : ∀ n : Nat, (∀ (x1 : Int32) (x4 : Int64) (x6 : Int32) (h : pm_H), pr_F A h0 h → pm_iter sX16_root n (.inl (x1, x4, x6, h)) = some r → pr_F A h0 r.2) ∧ (∀ (x1 : Int32) (x4 : Int64) (x6 : Int32) (x7 : Int64) (x9 : Int64) (x11 : Int32) (h : pm_H), pr_F A h0 h → pm_iter sX16_root n (.inr (x1, x4, x6, x7, x9, x11, h)) = some r → pr_F A h0 r.2) := by
  intro n
  induction n with
  | zero => exact ⟨fun _ _ _ _ _ hf => (by cases hf), fun _ _ _ _ _ _ _ _ hf => (by cases hf)⟩
  | succ n ih =>
    refine ⟨fun x1 x4 x6 h K0 hf => ?_, ?_⟩
    · obtain ⟨y, hf, hi⟩ := pm_iter_s hf
      have hf : tX16_root_79 x1 x4 x6 h = some y := hf
      unfold tX16_root_79 at hf
      by_cases c24 : x4 < 4503599627370496
      · have hf := pm_it hf c24
        obtain ⟨y25, e26, hf⟩ := pm_lt hf
        obtain ⟨y27, e28, hf⟩ := pm_lt hf
        cases hf
        exact ih.1 x1 y25 y27 h K0  hi
      · have hf := pm_ie hf c24
        by_cases c29 : (x6 - x6 / 2 * 2) = 0
        · have hf := pm_it hf c29
          cases hf
          exact ih.2 x1 x4 x6 0 0 28 h K0  hi
        · have hf := pm_ie hf c29
          obtain ⟨y30, e31, hf⟩ := pm_lt hf
          obtain ⟨y32, e33, hf⟩ := pm_lt hf
          cases hf
          exact ih.1 x1 y30 y32 h K0  hi
    refine fun x1 x4 x6 x7 x9 x11 h K0 hf => ?_
    obtain ⟨y, hf, hi⟩ := pm_iter_s hf
    have hf : tX16_root_117 x1 x4 x6 x7 x9 x11 h = some y := hf
    unfold tX16_root_117 at hf
    by_cases c34 : x11 ≤ (-30)
    · have hf := pm_it hf c34
      by_cases c35 : x7 = 0
      · have hf := pm_it hf c35
        obtain ⟨v36, e37, hf⟩ := pm_bd hf
        cases hf
        cases hi
        exact K0
      · have hf := pm_ie hf c35
        obtain ⟨v38, e39, hf⟩ := pm_bd hf
        cases hf
        cases hi
        exact K0
    · have hf := pm_ie hf c34
      by_cases c40 : 0 ≤ x11
      · have hf := pm_it hf c40
        obtain ⟨y41, e42, hf⟩ := pm_lt hf
        obtain ⟨y43, e44, hf⟩ := pm_lt hf
        obtain ⟨y45, e46, hf⟩ := pm_lt hf
        by_cases c47 : y41 < y43
        · have hf := pm_it hf c47
          obtain ⟨y48, e49, hf⟩ := pm_lt hf
          cases hf
          exact ih.2 x1 x4 x6 y41 y45 y48 h K0  hi
        · have hf := pm_ie hf c47
          obtain ⟨y50, e51, hf⟩ := pm_lt hf
          obtain ⟨y52, e53, hf⟩ := pm_lt hf
          obtain ⟨y54, e55, hf⟩ := pm_lt hf
          cases hf
          exact ih.2 x1 x4 x6 y50 y52 y54 h K0  hi
      · have hf := pm_ie hf c40
        obtain ⟨y56, e57, hf⟩ := pm_lt hf
        obtain ⟨y58, e59, hf⟩ := pm_lt hf
        obtain ⟨y60, e61, hf⟩ := pm_lt hf
        by_cases c62 : y56 < y58
        · have hf := pm_it hf c62
          obtain ⟨y63, e64, hf⟩ := pm_lt hf
          cases hf
          exact ih.2 x1 x4 x6 y56 y60 y63 h K0  hi
        · have hf := pm_ie hf c62
          obtain ⟨y65, e66, hf⟩ := pm_lt hf
          obtain ⟨y67, e68, hf⟩ := pm_lt hf
          obtain ⟨y69, e70, hf⟩ := pm_lt hf
          cases hf
          exact ih.2 x1 x4 x6 y65 y67 y69 h K0  hi
set_option maxHeartbeats 4000000 in
set_option maxRecDepth 100000 in
theorem rgX16_root {A : Nat → Prop} {h0 h : pm_H} (K0 : pr_F A h0 h) {a0 : Nat} {p1 : Int32} {p2 : Int64} (Ha0 : A a0) {r : (Int64 × pm_H)} (hf : fX16_root h a0 p1 p2 = some r) : pr_F A h0 r.2 := by
  unfold fX16_root at hf
  obtain ⟨k1, hf⟩ := pm_if hf
  obtain ⟨v2, e3, hf⟩ := pm_bd hf
  obtain ⟨k4, hf⟩ := pm_if hf
  obtain ⟨v5, e6, hf⟩ := pm_bd hf
  have K7 := rgX15_read K0 (pr_c K0 Ha0 e3) e6
  obtain ⟨k8, hf⟩ := pm_if hf
  obtain ⟨v9, e10, hf⟩ := pm_bd hf
  obtain ⟨k11, hf⟩ := pm_if hf
  by_cases c12 : (pm_I v5 v9 1) = 1
  · have hf := pm_it hf c12
    cases hf
    exact K7
  · have hf := pm_ie hf c12
    by_cases c13 : (pm_I v5 v9 1) = 3
    · have hf := pm_it hf c13
      obtain ⟨v14, e15, hf⟩ := pm_lt hf
      cases hf
      exact K7
    · have hf := pm_ie hf c13
      by_cases c16 : (pm_I v5 v9 0) = 0
      · have hf := pm_it hf c16
        by_cases c17 : (pm_I v5 v9 1) = 2
        · have hf := pm_it hf c17
          cases hf
          exact K7
        · have hf := pm_ie hf c17
          obtain ⟨y18, e19, hf⟩ := pm_lt hf
          obtain ⟨y20, e21, hf⟩ := pm_lt hf
          obtain ⟨n, hn⟩ := pm_lim_iter hf
          exact (rlX16_root n).1 p1 y18 y20 v5 K7  hn
      · have hf := pm_ie hf c16
        obtain ⟨v22, e23, hf⟩ := pm_lt hf
        cases hf
        exact K7
set_option maxHeartbeats 4000000 in
set_option maxRecDepth 100000 in
theorem rgX16_sum_b207 {A : Nat → Prop} {h0 h : pm_H} (K0 : pr_F A h0 h) {x0 : Nat} {x1 : Int32} {x2 : Int64} {x4 : Int64} (Hx0 : A x0) {r : (Int64 × pm_H)} (hf : fX16_sum_b207 h x0 x1 x2 x4 = some r) : pr_F A h0 r.2 := by
  unfold fX16_sum_b207 at hf
  obtain ⟨k63, hf⟩ := pm_if hf
  obtain ⟨v64, e65, hf⟩ := pm_bd hf
  obtain ⟨k66, hf⟩ := pm_if hf
  by_cases c67 : (pm_I h v64 1) = 1
  · have hf := pm_it hf c67
    obtain ⟨v68, e69, hf⟩ := pm_bd hf
    obtain ⟨k70, hf⟩ := pm_if hf
    obtain ⟨v71, e72, hf⟩ := pm_lt hf
    obtain ⟨v73, e74, hf⟩ := pm_lt hf
    cases hf
    exact K0
  · have hf := pm_ie hf c67
    obtain ⟨v75, e76, hf⟩ := pm_bd hf
    obtain ⟨k77, hf⟩ := pm_if hf
    by_cases c78 : (pm_I h v75 1) = 1
    · have hf := pm_it hf c78
      cases hf
      exact K0
    · have hf := pm_ie hf c78
      by_cases c79 : (pm_I h v64 3) < (pm_I h v75 3)
      · have hf := pm_it hf c79
        by_cases c80 : (pm_I h v64 3) < (pm_I h v75 3)
        · have hf := pm_it hf c80
          obtain ⟨v81, e82, hf⟩ := pm_bd hf
          cases hf
          exact K0
        · have hf := pm_ie hf c80
          obtain ⟨v83, e84, hf⟩ := pm_bd hf
          cases hf
          exact K0
      · have hf := pm_ie hf c79
        by_cases c85 : (pm_I h v64 3) < (pm_I h v75 3)
        · have hf := pm_it hf c85
          obtain ⟨v86, e87, hf⟩ := pm_bd hf
          cases hf
          exact K0
        · have hf := pm_ie hf c85
          obtain ⟨v88, e89, hf⟩ := pm_bd hf
          cases hf
          exact K0
set_option maxHeartbeats 4000000 in
set_option maxRecDepth 100000 in
theorem rgX16_sum_b114 {A : Nat → Prop} {h0 h : pm_H} (K0 : pr_F A h0 h) {x0 : Nat} {x1 : Int32} {x2 : Int64} {x4 : Int64} (Hx0 : A x0) {r : (Int64 × pm_H)} (hf : fX16_sum_b114 h x0 x1 x2 x4 = some r) : pr_F A h0 r.2 := by
  unfold fX16_sum_b114 at hf
  obtain ⟨k40, hf⟩ := pm_if hf
  obtain ⟨v41, e42, hf⟩ := pm_bd hf
  obtain ⟨k43, hf⟩ := pm_if hf
  by_cases c44 : (pm_I h v41 1) = 2
  · have hf := pm_it hf c44
    cases hf
    exact K0
  · have hf := pm_ie hf c44
    obtain ⟨v45, e46, hf⟩ := pm_bd hf
    obtain ⟨k47, hf⟩ := pm_if hf
    by_cases c48 : (pm_I h v45 1) = 2
    · have hf := pm_it hf c48
      obtain ⟨v49, e50, hf⟩ := pm_lt hf
      obtain ⟨v51, e52, hf⟩ := pm_lt hf
      cases hf
      exact K0
    · have hf := pm_ie hf c48
      by_cases c53 : (pm_I h v41 1) = 1
      · have hf := pm_it hf c53
        by_cases c54 : (pm_I h v45 1) = 1
        · have hf := pm_it hf c54
          by_cases c55 : (pm_I h v41 0) = 0
          · have hf := pm_it hf c55
            obtain ⟨v56, e57, hf⟩ := pm_lt hf
            cases hf
            exact K0
          · have hf := pm_ie hf c55
            by_cases c58 : (pm_I h v45 0) = 0
            · have hf := pm_it hf c58
              obtain ⟨v59, e60, hf⟩ := pm_lt hf
              cases hf
              exact K0
            · have hf := pm_ie hf c58
              obtain ⟨v61, e62, hf⟩ := pm_lt hf
              cases hf
              exact K0
        · have hf := pm_ie hf c54
          exact rgX16_sum_b207 K0 Hx0 hf
      · have hf := pm_ie hf c53
        exact rgX16_sum_b207 K0 Hx0 hf
set_option maxHeartbeats 4000000 in
set_option maxRecDepth 100000 in
theorem rgX16_sum_b40 {A : Nat → Prop} {h0 h : pm_H} (K0 : pr_F A h0 h) {x0 : Nat} {x1 : Int32} {x2 : Int64} {x4 : Int64} {s0 : Int32} {s1 : Nat} (Hx0 : A x0) (Hs1 : A s1) {r : (Int64 × pm_H)} (hf : fX16_sum_b40 h x0 x1 x2 x4 s0 s1 = some r) : pr_F A h0 r.2 := by
  unfold fX16_sum_b40 at hf
  obtain ⟨k20, hf⟩ := pm_if hf
  obtain ⟨u21, hf⟩ := pm_if hf
  obtain ⟨k22, hf⟩ := pm_if hf
  obtain ⟨v23, e24, hf⟩ := pm_bd hf
  obtain ⟨k25, hf⟩ := pm_if hf
  by_cases c26 : (pm_I (pm_setI h s1 0 s0) v23 1) = 3
  · have hf := pm_it hf c26
    obtain ⟨v27, e28, hf⟩ := pm_lt hf
    cases hf
    exact (pr_sI K0 Hs1)
  · have hf := pm_ie hf c26
    obtain ⟨v29, e30, hf⟩ := pm_bd hf
    obtain ⟨k31, hf⟩ := pm_if hf
    by_cases c32 : (pm_I (pm_setI h s1 0 s0) v29 1) = 3
    · have hf := pm_it hf c32
      obtain ⟨v33, e34, hf⟩ := pm_lt hf
      cases hf
      exact (pr_sI K0 Hs1)
    · have hf := pm_ie hf c32
      by_cases c35 : (pm_I (pm_setI h s1 0 s0) v23 1) = 2
      · have hf := pm_it hf c35
        by_cases c36 : (pm_I (pm_setI h s1 0 s0) v29 1) = 2
        · have hf := pm_it hf c36
          by_cases c37 : (pm_I (pm_setI h s1 0 s0) v23 0) = (pm_I (pm_setI h s1 0 s0) v29 0)
          · have hf := pm_it hf c37
            exact rgX16_sum_b114 (pr_sI K0 Hs1) Hx0 hf
          · have hf := pm_ie hf c37
            obtain ⟨v38, e39, hf⟩ := pm_lt hf
            cases hf
            exact (pr_sI K0 Hs1)
        · have hf := pm_ie hf c36
          exact rgX16_sum_b114 (pr_sI K0 Hs1) Hx0 hf
      · have hf := pm_ie hf c35
        exact rgX16_sum_b114 (pr_sI K0 Hs1) Hx0 hf
set_option maxHeartbeats 4000000 in
set_option maxRecDepth 100000 in
theorem rgX16_sum {A : Nat → Prop} {h0 h : pm_H} (K0 : pr_F A h0 h) {a0 : Nat} {p1 : Int32} {p2 : Int64} {p3 : Int64} {p4 : Int32} (Ha0 : A a0) {r : (Int64 × pm_H)} (hf : fX16_sum h a0 p1 p2 p3 p4 = some r) : pr_F A h0 r.2 := by
  unfold fX16_sum at hf
  obtain ⟨k1, hf⟩ := pm_if hf
  obtain ⟨v2, e3, hf⟩ := pm_bd hf
  obtain ⟨k4, hf⟩ := pm_if hf
  obtain ⟨v5, e6, hf⟩ := pm_bd hf
  have K7 := rgX15_read K0 (pr_c K0 Ha0 e3) e6
  obtain ⟨k8, hf⟩ := pm_if hf
  obtain ⟨v9, e10, hf⟩ := pm_bd hf
  obtain ⟨k11, hf⟩ := pm_if hf
  obtain ⟨v12, e13, hf⟩ := pm_bd hf
  have K14 := rgX15_read K7 (pr_c K7 Ha0 e10) e13
  obtain ⟨k15, hf⟩ := pm_if hf
  obtain ⟨v16, e17, hf⟩ := pm_bd hf
  obtain ⟨k18, hf⟩ := pm_if hf
  by_cases c19 : (pm_I v12 v16 0) = p4
  · have hf := pm_it hf c19
    exact rgX16_sum_b40 K14 Ha0 (pr_c K14 Ha0 e17) hf
  · have hf := pm_ie hf c19
    exact rgX16_sum_b40 K14 Ha0 (pr_c K14 Ha0 e17) hf
set_option maxHeartbeats 4000000 in
set_option maxRecDepth 100000 in
theorem rgX16_turned_b101 {A : Nat → Prop} {h0 h : pm_H} (K0 : pr_F A h0 h) {x0 : Nat} {x1 : Int32} {x2 : Int32} {x3 : Int64} (Hx0 : A x0) {r : (Int64 × pm_H)} (hf : fX16_turned_b101 h x0 x1 x2 x3 = some r) : pr_F A h0 r.2 := by
  unfold fX16_turned_b101 at hf
  by_cases c44 : x1 = 167
  · have hf := pm_it hf c44
    cases hf
    exact K0
  have hf := pm_ie hf c44
  by_cases c45 : x1 = 168
  · have hf := pm_it hf c45
    cases hf
    exact K0
  have hf := pm_ie hf c45
  by_cases c46 : x1 = 169
  · have hf := pm_it hf c46
    cases hf
    exact K0
  have hf := pm_ie hf c46
  by_cases c47 : x1 = 170
  · have hf := pm_it hf c47
    cases hf
    exact K0
  have hf := pm_ie hf c47
  by_cases c48 : x1 = 171
  · have hf := pm_it hf c48
    cases hf
    exact K0
  have hf := pm_ie hf c48
  by_cases c49 : x1 = 172
  · have hf := pm_it hf c49
    cases hf
    exact K0
  have hf := pm_ie hf c49
  by_cases c50 : x1 = 173
  · have hf := pm_it hf c50
    cases hf
    exact K0
  have hf := pm_ie hf c50
  by_cases c51 : x1 = 174
  · have hf := pm_it hf c51
    cases hf
    exact K0
  have hf := pm_ie hf c51
  by_cases c52 : x1 = 175
  · have hf := pm_it hf c52
    cases hf
    exact K0
  have hf := pm_ie hf c52
  by_cases c53 : x1 = 176
  · have hf := pm_it hf c53
    cases hf
    exact K0
  have hf := pm_ie hf c53
  by_cases c54 : x1 = 177
  · have hf := pm_it hf c54
    cases hf
    exact K0
  have hf := pm_ie hf c54
  by_cases c55 : x1 = 178
  · have hf := pm_it hf c55
    obtain ⟨v56, e57, hf⟩ := pm_lt hf
    by_cases c58 : 0 ≤ x3.toInt32
    · have hf := pm_it hf c58
      by_cases c59 : 0 ≤ x3.toInt32
      · have hf := pm_it hf c59
        obtain ⟨v60, e61, hf⟩ := pm_bd hf
        cases hf
        exact K0
      · have hf := pm_ie hf c59
        obtain ⟨v62, e63, hf⟩ := pm_bd hf
        cases hf
        exact K0
    · have hf := pm_ie hf c58
      by_cases c64 : 0 ≤ x3.toInt32
      · have hf := pm_it hf c64
        obtain ⟨v65, e66, hf⟩ := pm_bd hf
        cases hf
        exact K0
      · have hf := pm_ie hf c64
        obtain ⟨v67, e68, hf⟩ := pm_bd hf
        cases hf
        exact K0
  have hf := pm_ie hf c55
  by_cases c69 : x1 = 179
  · have hf := pm_it hf c69
    obtain ⟨v70, e71, hf⟩ := pm_lt hf
    obtain ⟨v72, e73, hf⟩ := pm_bd hf
    cases hf
    exact K0
  have hf := pm_ie hf c69
  by_cases c74 : x1 = 180
  · have hf := pm_it hf c74
    obtain ⟨v75, e76, hf⟩ := pm_lt hf
    by_cases c77 : 0 ≤ x3
    · have hf := pm_it hf c77
      by_cases c78 : 0 ≤ x3
      · have hf := pm_it hf c78
        obtain ⟨v79, e80, hf⟩ := pm_bd hf
        cases hf
        exact K0
      · have hf := pm_ie hf c78
        obtain ⟨v81, e82, hf⟩ := pm_bd hf
        cases hf
        exact K0
    · have hf := pm_ie hf c77
      by_cases c83 : 0 ≤ x3
      · have hf := pm_it hf c83
        obtain ⟨v84, e85, hf⟩ := pm_bd hf
        cases hf
        exact K0
      · have hf := pm_ie hf c83
        obtain ⟨v86, e87, hf⟩ := pm_bd hf
        cases hf
        exact K0
  have hf := pm_ie hf c74
  by_cases c88 : x1 = 181
  · have hf := pm_it hf c88
    obtain ⟨v89, e90, hf⟩ := pm_lt hf
    obtain ⟨v91, e92, hf⟩ := pm_bd hf
    cases hf
    exact K0
  have hf := pm_ie hf c88
  by_cases c93 : x1 = 182
  · have hf := pm_it hf c93
    obtain ⟨v94, e95, hf⟩ := pm_lt hf
    obtain ⟨k96, hf⟩ := pm_if hf
    obtain ⟨v97, e98, hf⟩ := pm_bd hf
    have K99 := rgX16_moved K0 Hx0 e98
    cases hf
    exact K99
  have hf := pm_ie hf c93
  by_cases c100 : x1 = 183
  · have hf := pm_it hf c100
    obtain ⟨v101, e102, hf⟩ := pm_lt hf
    by_cases c103 : 0 ≤ x3.toInt32
    · have hf := pm_it hf c103
      by_cases c104 : 0 ≤ x3.toInt32
      · have hf := pm_it hf c104
        obtain ⟨v105, e106, hf⟩ := pm_bd hf
        cases hf
        exact K0
      · have hf := pm_ie hf c104
        obtain ⟨v107, e108, hf⟩ := pm_bd hf
        cases hf
        exact K0
    · have hf := pm_ie hf c103
      by_cases c109 : 0 ≤ x3.toInt32
      · have hf := pm_it hf c109
        obtain ⟨v110, e111, hf⟩ := pm_bd hf
        cases hf
        exact K0
      · have hf := pm_ie hf c109
        obtain ⟨v112, e113, hf⟩ := pm_bd hf
        cases hf
        exact K0
  have hf := pm_ie hf c100
  by_cases c114 : x1 = 184
  · have hf := pm_it hf c114
    obtain ⟨v115, e116, hf⟩ := pm_lt hf
    obtain ⟨v117, e118, hf⟩ := pm_bd hf
    cases hf
    exact K0
  have hf := pm_ie hf c114
  by_cases c119 : x1 = 185
  · have hf := pm_it hf c119
    obtain ⟨v120, e121, hf⟩ := pm_lt hf
    by_cases c122 : 0 ≤ x3
    · have hf := pm_it hf c122
      by_cases c123 : 0 ≤ x3
      · have hf := pm_it hf c123
        obtain ⟨v124, e125, hf⟩ := pm_bd hf
        cases hf
        exact K0
      · have hf := pm_ie hf c123
        obtain ⟨v126, e127, hf⟩ := pm_bd hf
        cases hf
        exact K0
    · have hf := pm_ie hf c122
      by_cases c128 : 0 ≤ x3
      · have hf := pm_it hf c128
        obtain ⟨v129, e130, hf⟩ := pm_bd hf
        cases hf
        exact K0
      · have hf := pm_ie hf c128
        obtain ⟨v131, e132, hf⟩ := pm_bd hf
        cases hf
        exact K0
  have hf := pm_ie hf c119
  by_cases c133 : x1 = 186
  · have hf := pm_it hf c133
    obtain ⟨v134, e135, hf⟩ := pm_lt hf
    obtain ⟨v136, e137, hf⟩ := pm_bd hf
    cases hf
    exact K0
  have hf := pm_ie hf c133
  by_cases c138 : x1 = 187
  · have hf := pm_it hf c138
    obtain ⟨v139, e140, hf⟩ := pm_lt hf
    obtain ⟨k141, hf⟩ := pm_if hf
    obtain ⟨v142, e143, hf⟩ := pm_bd hf
    have K144 := rgX16_moved K0 Hx0 e143
    cases hf
    exact K144
  have hf := pm_ie hf c138
  by_cases c145 : x1 = 188
  · have hf := pm_it hf c145
    cases hf
    exact K0
  have hf := pm_ie hf c145
  by_cases c146 : x1 = 189
  · have hf := pm_it hf c146
    cases hf
    exact K0
  have hf := pm_ie hf c146
  by_cases c147 : x1 = 190
  · have hf := pm_it hf c147
    cases hf
    exact K0
  have hf := pm_ie hf c147
  by_cases c148 : x1 = 191
  · have hf := pm_it hf c148
    cases hf
    exact K0
  have hf := pm_ie hf c148
  by_cases c149 : x1 = 192
  · have hf := pm_it hf c149
    by_cases c150 : x1 = 192
    · have hf := pm_it hf c150
      cases hf
      exact K0
    · have hf := pm_ie hf c150
      cases hf
      exact K0
  have hf := pm_ie hf c149
  by_cases c151 : x1 = 193
  · have hf := pm_it hf c151
    by_cases c152 : x1 = 193
    · have hf := pm_it hf c152
      cases hf
      exact K0
    · have hf := pm_ie hf c152
      cases hf
      exact K0
  have hf := pm_ie hf c151
  by_cases c153 : x1 = 194
  · have hf := pm_it hf c153
    by_cases c154 : x1 = 192
    · have hf := pm_it hf c154
      cases hf
      exact K0
    · have hf := pm_ie hf c154
      cases hf
      exact K0
  have hf := pm_ie hf c153
  by_cases c155 : x1 = 195
  · have hf := pm_it hf c155
    by_cases c156 : x1 = 193
    · have hf := pm_it hf c156
      cases hf
      exact K0
    · have hf := pm_ie hf c156
      cases hf
      exact K0
  have hf := pm_ie hf c155
  by_cases c157 : x1 = 196
  · have hf := pm_it hf c157
    cases hf
    exact K0
  have hf := pm_ie hf c157
  cases hf
  exact K0
set_option maxHeartbeats 4000000 in
set_option maxRecDepth 100000 in
theorem rgX16_turned_b68 {A : Nat → Prop} {h0 h : pm_H} (K0 : pr_F A h0 h) {x0 : Nat} {x1 : Int32} {x2 : Int32} {x3 : Int64} (Hx0 : A x0) {r : (Int64 × pm_H)} (hf : fX16_turned_b68 h x0 x1 x2 x3 = some r) : pr_F A h0 r.2 := by
  unfold fX16_turned_b68 at hf
  by_cases c25 : 172 ≤ x1
  · have hf := pm_it hf c25
    by_cases c26 : (x1 - x1 / 2 * 2) = 0
    · have hf := pm_it hf c26
      obtain ⟨k27, hf⟩ := pm_if hf
      obtain ⟨v28, e29, hf⟩ := pm_bd hf
      have K30 := rgX16_towards K0 Hx0 e29
      cases hf
      exact K30
    · have hf := pm_ie hf c26
      obtain ⟨k31, hf⟩ := pm_if hf
      obtain ⟨v32, e33, hf⟩ := pm_bd hf
      have K34 := rgX16_towards K0 Hx0 e33
      cases hf
      exact K34
  · have hf := pm_ie hf c25
    by_cases c35 : (x1 - x1 / 2 * 2) = 0
    · have hf := pm_it hf c35
      obtain ⟨k36, hf⟩ := pm_if hf
      obtain ⟨v37, e38, hf⟩ := pm_bd hf
      have K39 := rgX16_towards K0 Hx0 e38
      cases hf
      exact K39
    · have hf := pm_ie hf c35
      obtain ⟨k40, hf⟩ := pm_if hf
      obtain ⟨v41, e42, hf⟩ := pm_bd hf
      have K43 := rgX16_towards K0 Hx0 e42
      cases hf
      exact K43
set_option maxHeartbeats 4000000 in
set_option maxRecDepth 100000 in
theorem rgX16_turned_b54 {A : Nat → Prop} {h0 h : pm_H} (K0 : pr_F A h0 h) {x0 : Nat} {x1 : Int32} {x2 : Int32} {x3 : Int64} (Hx0 : A x0) {r : (Int64 × pm_H)} (hf : fX16_turned_b54 h x0 x1 x2 x3 = some r) : pr_F A h0 r.2 := by
  unfold fX16_turned_b54 at hf
  by_cases c23 : x1 < 174
  · have hf := pm_it hf c23
    exact rgX16_turned_b101 K0 Hx0 hf
  · have hf := pm_ie hf c23
    by_cases c24 : 178 ≤ x1
    · have hf := pm_it hf c24
      exact rgX16_turned_b101 K0 Hx0 hf
    · have hf := pm_ie hf c24
      exact rgX16_turned_b68 K0 Hx0 hf
set_option maxHeartbeats 4000000 in
set_option maxRecDepth 100000 in
theorem rgX16_turned {A : Nat → Prop} {h0 h : pm_H} (K0 : pr_F A h0 h) {a0 : Nat} {p1 : Int32} {p2 : Int32} {p3 : Int64} (Ha0 : A a0) {r : (Int64 × pm_H)} (hf : fX16_turned h a0 p1 p2 p3 = some r) : pr_F A h0 r.2 := by
  unfold fX16_turned at hf
  by_cases c1 : p1 < 200
  · have hf := pm_it hf c1
    by_cases c2 : p1 < 168
    · have hf := pm_it hf c2
      exact rgX16_turned_b54 K0 Ha0 hf
    · have hf := pm_ie hf c2
      by_cases c3 : p1 < 172
      · have hf := pm_it hf c3
        exact rgX16_turned_b68 K0 Ha0 hf
      · have hf := pm_ie hf c3
        exact rgX16_turned_b54 K0 Ha0 hf
  · have hf := pm_ie hf c1
    by_cases c4 : 204 ≤ p1
    · have hf := pm_it hf c4
      by_cases c5 : (p1 - p1 / 2 * 2) = 0
      · have hf := pm_it hf c5
        obtain ⟨k6, hf⟩ := pm_if hf
        obtain ⟨v7, e8, hf⟩ := pm_bd hf
        have K9 := rgX16_towards K0 Ha0 e8
        cases hf
        exact K9
      · have hf := pm_ie hf c5
        obtain ⟨k10, hf⟩ := pm_if hf
        obtain ⟨v11, e12, hf⟩ := pm_bd hf
        have K13 := rgX16_towards K0 Ha0 e12
        cases hf
        exact K13
    · have hf := pm_ie hf c4
      by_cases c14 : (p1 - p1 / 2 * 2) = 0
      · have hf := pm_it hf c14
        obtain ⟨k15, hf⟩ := pm_if hf
        obtain ⟨v16, e17, hf⟩ := pm_bd hf
        have K18 := rgX16_towards K0 Ha0 e17
        cases hf
        exact K18
      · have hf := pm_ie hf c14
        obtain ⟨k19, hf⟩ := pm_if hf
        obtain ⟨v20, e21, hf⟩ := pm_bd hf
        have K22 := rgX16_towards K0 Ha0 e21
        cases hf
        exact K22
set_option maxHeartbeats 4000000 in
set_option maxRecDepth 100000 in
theorem rlX16_turns {A : Nat → Prop} {h0 : pm_H} {r : pm_H} : ∀ n : Nat, (∀ (x0 : Nat) (x8 : Int64) (x10 : Int64) (x12 : Int64) (h : pm_H), pr_F A h0 h → A x0 → pm_iter sX16_turns n (x0, x8, x10, x12, h) = some r → pr_F A h0 r) := by
  intro n
  induction n with
  | zero => exact fun _ _ _ _ _ _ _ hf => (by cases hf)
  | succ n ih =>
    refine fun x0 x8 x10 x12 h K0 Hx0 hf => ?_
    obtain ⟨y, hf, hi⟩ := pm_iter_s hf
    have hf : tX16_turns_222 x0 x8 x10 x12 h = some y := hf
    unfold tX16_turns_222 at hf
    by_cases c150 : x8 ≤ x12
    · have hf := pm_it hf c150
      obtain ⟨k151, hf⟩ := pm_if hf
      obtain ⟨v152, e153, hf⟩ := pm_bd hf
      have K154 := rgX16_branches K0 Hx0 e153
      cases hf
      cases hi
      exact K154
    · have hf := pm_ie hf c150
      obtain ⟨k155, hf⟩ := pm_if hf
      obtain ⟨v156, e157, hf⟩ := pm_bd hf
      have K158 := rgX16_word K0 Hx0 e157
      obtain ⟨y159, e160, hf⟩ := pm_lt hf
      cases hf
      exact ih x0 x8 v156.1 y159 v156.2 K158 Hx0 hi
set_option maxHeartbeats 4000000 in
set_option maxRecDepth 100000 in
theorem rgX16_turns {A : Nat → Prop} {h0 h : pm_H} (K0 : pr_F A h0 h) {a0 : Nat} {p1 : Int32} {p2 : Int32} (Ha0 : A a0) {r : pm_H} (hf : fX16_turns h a0 p1 p2 = some r) : pr_F A h0 r := by
  unfold fX16_turns at hf
  by_cases c1 : p1 = 0
  · have hf := pm_it hf c1
    obtain ⟨k2, hf⟩ := pm_if hf
    obtain ⟨v3, e4, hf⟩ := pm_bd hf
    have K5 := rgX16_endsBy K0 Ha0 e4
    cases hf
    exact K5
  have hf := pm_ie hf c1
  by_cases c6 : p1 = 1
  · have hf := pm_it hf c6
    cases hf
    exact K0
  have hf := pm_ie hf c6
  by_cases c7 : p1 = 2
  · have hf := pm_it hf c7
    cases hf
    exact K0
  have hf := pm_ie hf c7
  by_cases c8 : p1 = 3
  · have hf := pm_it hf c8
    cases hf
    exact K0
  have hf := pm_ie hf c8
  by_cases c9 : p1 = 4
  · have hf := pm_it hf c9
    obtain ⟨k10, hf⟩ := pm_if hf
    obtain ⟨v11, e12, hf⟩ := pm_bd hf
    have K13 := rgX16_opensIf K0 Ha0 e12
    cases hf
    exact K13
  have hf := pm_ie hf c9
  by_cases c14 : p1 = 5
  · have hf := pm_it hf c14
    cases hf
    exact K0
  have hf := pm_ie hf c14
  by_cases c15 : p1 = 6
  · have hf := pm_it hf c15
    cases hf
    exact K0
  have hf := pm_ie hf c15
  by_cases c16 : p1 = 7
  · have hf := pm_it hf c16
    cases hf
    exact K0
  have hf := pm_ie hf c16
  by_cases c17 : p1 = 8
  · have hf := pm_it hf c17
    cases hf
    exact K0
  have hf := pm_ie hf c17
  by_cases c18 : p1 = 9
  · have hf := pm_it hf c18
    cases hf
    exact K0
  have hf := pm_ie hf c18
  by_cases c19 : p1 = 10
  · have hf := pm_it hf c19
    cases hf
    exact K0
  have hf := pm_ie hf c19
  by_cases c20 : p1 = 11
  · have hf := pm_it hf c20
    cases hf
    exact K0
  have hf := pm_ie hf c20
  by_cases c21 : p1 = 12
  · have hf := pm_it hf c21
    obtain ⟨k22, hf⟩ := pm_if hf
    obtain ⟨v23, e24, hf⟩ := pm_bd hf
    have K25 := rgX16_word K0 Ha0 e24
    obtain ⟨k26, hf⟩ := pm_if hf
    obtain ⟨v27, e28, hf⟩ := pm_bd hf
    have K29 := rgX16_branches K25 Ha0 e28
    cases hf
    exact K29
  have hf := pm_ie hf c21
  by_cases c30 : p1 = 13
  · have hf := pm_it hf c30
    obtain ⟨k31, hf⟩ := pm_if hf
    obtain ⟨v32, e33, hf⟩ := pm_bd hf
    have K34 := rgX16_word K0 Ha0 e33
    obtain ⟨k35, hf⟩ := pm_if hf
    obtain ⟨v36, e37, hf⟩ := pm_bd hf
    have K38 := rgX16_pop K34 Ha0 e37
    by_cases c39 : v36.1 = 0
    · have hf := pm_it hf c39
      cases hf
      exact K38
    · have hf := pm_ie hf c39
      obtain ⟨k40, hf⟩ := pm_if hf
      obtain ⟨v41, e42, hf⟩ := pm_bd hf
      have K43 := rgX16_branches K38 Ha0 e42
      cases hf
      exact K43
  have hf := pm_ie hf c30
  by_cases c44 : p1 = 14
  · have hf := pm_it hf c44
    obtain ⟨k45, hf⟩ := pm_if hf
    obtain ⟨v46, e47, hf⟩ := pm_bd hf
    have K48 := rgX16_word K0 Ha0 e47
    obtain ⟨k49, hf⟩ := pm_if hf
    obtain ⟨v50, e51, hf⟩ := pm_bd hf
    have K52 := rgX16_pop K48 Ha0 e51
    by_cases c53 : v46.1 ≤ v50.1
    · have hf := pm_it hf c53
      obtain ⟨k54, hf⟩ := pm_if hf
      obtain ⟨v55, e56, hf⟩ := pm_bd hf
      have K57 := rgX16_word K52 Ha0 e56
      obtain ⟨n, hn⟩ := pm_lim_iter hf
      exact (rlX16_turns n) a0 v46.1 v55.1 0 v55.2 K57 Ha0 hn
    · have hf := pm_ie hf c53
      obtain ⟨k58, hf⟩ := pm_if hf
      obtain ⟨v59, e60, hf⟩ := pm_bd hf
      have K61 := rgX16_word K52 Ha0 e60
      obtain ⟨n, hn⟩ := pm_lim_iter hf
      exact (rlX16_turns n) a0 v50.1 v59.1 0 v59.2 K61 Ha0 hn
  have hf := pm_ie hf c44
  by_cases c62 : p1 = 15
  · have hf := pm_it hf c62
    obtain ⟨k63, hf⟩ := pm_if hf
    obtain ⟨v64, e65, hf⟩ := pm_bd hf
    obtain ⟨y66, e67, hf⟩ := pm_lt hf
    obtain ⟨k68, hf⟩ := pm_if hf
    obtain ⟨u69, hf⟩ := pm_if hf
    obtain ⟨v70, e71, hf⟩ := pm_bd hf
    have K72 := rgX16_branches K0 Ha0 e71
    cases hf
    exact K72
  have hf := pm_ie hf c62
  by_cases c73 : p1 = 16
  · have hf := pm_it hf c73
    obtain ⟨k74, hf⟩ := pm_if hf
    obtain ⟨v75, e76, hf⟩ := pm_bd hf
    obtain ⟨v77, e78, hf⟩ := pm_bd hf
    have K79 := rgX16_word K0 Ha0 e78
    obtain ⟨y80, e81, hf⟩ := pm_lt hf
    obtain ⟨k82, hf⟩ := pm_if hf
    obtain ⟨u83, hf⟩ := pm_if hf
    obtain ⟨k84, hf⟩ := pm_if hf
    obtain ⟨v85, e86, hf⟩ := pm_bd hf
    have K87 := rgX16_invokes K79 Ha0 e86
    cases hf
    exact K87
  have hf := pm_ie hf c73
  by_cases c88 : p1 = 17
  · have hf := pm_it hf c88
    obtain ⟨k89, hf⟩ := pm_if hf
    obtain ⟨v90, e91, hf⟩ := pm_bd hf
    have K92 := rgX16_invokesEntry K0 Ha0 e91
    cases hf
    exact K92
  have hf := pm_ie hf c88
  by_cases c93 : p1 = 18
  · have hf := pm_it hf c93
    cases hf
    exact K0
  have hf := pm_ie hf c93
  by_cases c94 : p1 = 19
  · have hf := pm_it hf c94
    cases hf
    exact K0
  have hf := pm_ie hf c94
  by_cases c95 : p1 = 20
  · have hf := pm_it hf c95
    cases hf
    exact K0
  have hf := pm_ie hf c95
  by_cases c96 : p1 = 21
  · have hf := pm_it hf c96
    cases hf
    exact K0
  have hf := pm_ie hf c96
  by_cases c97 : p1 = 22
  · have hf := pm_it hf c97
    cases hf
    exact K0
  have hf := pm_ie hf c97
  by_cases c98 : p1 = 23
  · have hf := pm_it hf c98
    cases hf
    exact K0
  have hf := pm_ie hf c98
  by_cases c99 : p1 = 24
  · have hf := pm_it hf c99
    cases hf
    exact K0
  have hf := pm_ie hf c99
  by_cases c100 : p1 = 25
  · have hf := pm_it hf c100
    cases hf
    exact K0
  have hf := pm_ie hf c100
  by_cases c101 : p1 = 26
  · have hf := pm_it hf c101
    obtain ⟨k102, hf⟩ := pm_if hf
    obtain ⟨v103, e104, hf⟩ := pm_bd hf
    have K105 := rgX16_pop K0 Ha0 e104
    cases hf
    exact K105
  have hf := pm_ie hf c101
  by_cases c106 : p1 = 27
  · have hf := pm_it hf c106
    obtain ⟨k107, hf⟩ := pm_if hf
    obtain ⟨v108, e109, hf⟩ := pm_bd hf
    have K110 := rgX16_pop K0 Ha0 e109
    obtain ⟨k111, hf⟩ := pm_if hf
    obtain ⟨v112, e113, hf⟩ := pm_bd hf
    have K114 := rgX16_pop K110 Ha0 e113
    obtain ⟨k115, hf⟩ := pm_if hf
    obtain ⟨v116, e117, hf⟩ := pm_bd hf
    have K118 := rgX16_pop K114 Ha0 e117
    by_cases c119 : v108.1 = 0
    · have hf := pm_it hf c119
      obtain ⟨k120, hf⟩ := pm_if hf
      obtain ⟨v121, e122, hf⟩ := pm_bd hf
      have K123 := rgX16_push K118 Ha0 e122
      cases hf
      exact K123
    · have hf := pm_ie hf c119
      obtain ⟨k124, hf⟩ := pm_if hf
      obtain ⟨v125, e126, hf⟩ := pm_bd hf
      have K127 := rgX16_push K118 Ha0 e126
      cases hf
      exact K127
  have hf := pm_ie hf c106
  by_cases c128 : p1 = 28
  · have hf := pm_it hf c128
    obtain ⟨k129, hf⟩ := pm_if hf
    obtain ⟨v130, e131, hf⟩ := pm_bd hf
    have K132 := rgX16_pop K0 Ha0 e131
    obtain ⟨k133, hf⟩ := pm_if hf
    obtain ⟨v134, e135, hf⟩ := pm_bd hf
    have K136 := rgX16_pop K132 Ha0 e135
    obtain ⟨k137, hf⟩ := pm_if hf
    obtain ⟨v138, e139, hf⟩ := pm_bd hf
    have K140 := rgX16_pop K136 Ha0 e139
    by_cases c141 : v130.1 = 0
    · have hf := pm_it hf c141
      obtain ⟨k142, hf⟩ := pm_if hf
      obtain ⟨v143, e144, hf⟩ := pm_bd hf
      have K145 := rgX16_push K140 Ha0 e144
      cases hf
      exact K145
    · have hf := pm_ie hf c141
      obtain ⟨k146, hf⟩ := pm_if hf
      obtain ⟨v147, e148, hf⟩ := pm_bd hf
      have K149 := rgX16_push K140 Ha0 e148
      cases hf
      exact K149
  have hf := pm_ie hf c128
  cases hf
  exact K0
set_option maxHeartbeats 4000000 in
set_option maxRecDepth 100000 in
theorem rgX1_choice_b100 {A : Nat → Prop} {h0 h : pm_H} (K0 : pr_F A h0 h) {x0 : Nat} {x2 : Int32} {x3 : Int32} (Hx0 : A x0) {r : pm_H} (hf : fX1_choice_b100 h x0 x2 x3 = some r) : pr_F A h0 r := by
  unfold fX1_choice_b100 at hf
  by_cases c53 : x3 = 0
  · have hf := pm_it hf c53
    obtain ⟨k54, hf⟩ := pm_if hf
    obtain ⟨v55, e56, hf⟩ := pm_bd hf
    have K57 := rgX1_put K0 Hx0 e56
    obtain ⟨k58, hf⟩ := pm_if hf
    obtain ⟨v59, e60, hf⟩ := pm_bd hf
    have K61 := rgX1_emitPlain K57 Hx0 e60
    cases hf
    exact K61
  · have hf := pm_ie hf c53
    obtain ⟨k62, hf⟩ := pm_if hf
    obtain ⟨v63, e64, hf⟩ := pm_bd hf
    have K65 := rgX1_put K0 Hx0 e64
    obtain ⟨k66, hf⟩ := pm_if hf
    obtain ⟨v67, e68, hf⟩ := pm_bd hf
    have K69 := rgX1_emitPlain K65 Hx0 e68
    cases hf
    exact K69
set_option maxHeartbeats 4000000 in
set_option maxRecDepth 100000 in
theorem rgX1_choice {A : Nat → Prop} {h0 h : pm_H} (K0 : pr_F A h0 h) {a0 : Nat} {p1 : Int32} (Ha0 : A a0) {r : pm_H} (hf : fX1_choice h a0 p1 = some r) : pr_F A h0 r := by
  unfold fX1_choice at hf
  by_cases c1 : p1 = 26
  · have hf := pm_it hf c1
    obtain ⟨k2, hf⟩ := pm_if hf
    obtain ⟨v3, e4, hf⟩ := pm_bd hf
    have K5 := rgX1_take K0 Ha0 e4
    obtain ⟨k6, hf⟩ := pm_if hf
    obtain ⟨v7, e8, hf⟩ := pm_bd hf
    have K9 := rgX1_emitPlain K5 Ha0 e8
    cases hf
    exact K9
  · have hf := pm_ie hf c1
    by_cases c10 : p1 = 28
    · have hf := pm_it hf c10
      obtain ⟨k11, hf⟩ := pm_if hf
      obtain ⟨v12, e13, hf⟩ := pm_bd hf
      obtain ⟨k14, hf⟩ := pm_if hf
      obtain ⟨y15, e16, hf⟩ := pm_lt hf
      obtain ⟨v17, e18, hf⟩ := pm_bd hf
      have K19 := rgX1_plain K0 Ha0 e18
      cases hf
      exact K19
    · have hf := pm_ie hf c10
      obtain ⟨k20, hf⟩ := pm_if hf
      obtain ⟨v21, e22, hf⟩ := pm_bd hf
      have K23 := rgX1_take K0 Ha0 e22
      obtain ⟨k24, hf⟩ := pm_if hf
      obtain ⟨v25, e26, hf⟩ := pm_bd hf
      have K27 := rgX1_take K23 Ha0 e26
      obtain ⟨k28, hf⟩ := pm_if hf
      obtain ⟨v29, e30, hf⟩ := pm_bd hf
      have K31 := rgX1_take K27 Ha0 e30
      obtain ⟨v32, e33, hf⟩ := pm_lt hf
      by_cases c34 : v32 = 0
      · have hf := pm_it hf c34
        obtain ⟨k35, hf⟩ := pm_if hf
        obtain ⟨v36, e37, hf⟩ := pm_bd hf
        have K38 := rgX1_fail K31 Ha0 e37
        exact rgX1_choice_b100 K38 Ha0 hf
      · have hf := pm_ie hf c34
        obtain ⟨v39, e40, hf⟩ := pm_lt hf
        by_cases c41 : v39 = 0
        · have hf := pm_it hf c41
          obtain ⟨k42, hf⟩ := pm_if hf
          obtain ⟨v43, e44, hf⟩ := pm_bd hf
          have K45 := rgX1_fail K31 Ha0 e44
          exact rgX1_choice_b100 K45 Ha0 hf
        · have hf := pm_ie hf c41
          by_cases c46 : v29.1 = 0
          · have hf := pm_it hf c46
            exact rgX1_choice_b100 K31 Ha0 hf
          · have hf := pm_ie hf c46
            by_cases c47 : v25.1 = 0
            · have hf := pm_it hf c47
              exact rgX1_choice_b100 K31 Ha0 hf
            · have hf := pm_ie hf c47
              by_cases c48 : v29.1 = v25.1
              · have hf := pm_it hf c48
                exact rgX1_choice_b100 K31 Ha0 hf
              · have hf := pm_ie hf c48
                obtain ⟨k49, hf⟩ := pm_if hf
                obtain ⟨v50, e51, hf⟩ := pm_bd hf
                have K52 := rgX1_fail K31 Ha0 e51
                exact rgX1_choice_b100 K52 Ha0 hf
set_option maxHeartbeats 4000000 in
set_option maxRecDepth 100000 in
theorem rgX1_constantIn {A : Nat → Prop} {h0 h : pm_H} (K0 : pr_F A h0 h) {a0 : Nat} {p1 : Int32} {p2 : Int64} (Ha0 : A a0) {r : pm_H} (hf : fX1_constantIn h a0 p1 p2 = some r) : pr_F A h0 r := by
  unfold fX1_constantIn at hf
  obtain ⟨k1, hf⟩ := pm_if hf
  obtain ⟨v2, e3, hf⟩ := pm_bd hf
  have K4 := rgX1_put K0 Ha0 e3
  obtain ⟨k5, hf⟩ := pm_if hf
  obtain ⟨v6, e7, hf⟩ := pm_bd hf
  have K8 := rgX1_emit K4 Ha0 e7
  cases hf
  exact K8
set_option maxHeartbeats 4000000 in
set_option maxRecDepth 100000 in
theorem rgX1_reference_b60 {A : Nat → Prop} {h0 h : pm_H} (K0 : pr_F A h0 h) {x0 : Nat} (Hx0 : A x0) {r : pm_H} (hf : fX1_reference_b60 h x0 = some r) : pr_F A h0 r := by
  unfold fX1_reference_b60 at hf
  obtain ⟨k50, hf⟩ := pm_if hf
  obtain ⟨v51, e52, hf⟩ := pm_bd hf
  have K53 := rgX1_put K0 Hx0 e52
  obtain ⟨k54, hf⟩ := pm_if hf
  obtain ⟨v55, e56, hf⟩ := pm_bd hf
  have K57 := rgX1_emitPlain K53 Hx0 e56
  cases hf
  exact K57
set_option maxHeartbeats 4000000 in
set_option maxRecDepth 100000 in
theorem rgX1_reference {A : Nat → Prop} {h0 h : pm_H} (K0 : pr_F A h0 h) {a0 : Nat} {p1 : Int32} (Ha0 : A a0) {r : pm_H} (hf : fX1_reference h a0 p1 = some r) : pr_F A h0 r := by
  unfold fX1_reference at hf
  by_cases c1 : p1 = 208
  · have hf := pm_it hf c1
    obtain ⟨k2, hf⟩ := pm_if hf
    obtain ⟨v3, e4, hf⟩ := pm_bd hf
    obtain ⟨k5, hf⟩ := pm_if hf
    obtain ⟨v6, e7, hf⟩ := pm_bd hf
    have K8 := rgX1_constantIn K0 Ha0 e7
    cases hf
    exact K8
  · have hf := pm_ie hf c1
    by_cases c9 : p1 = 209
    · have hf := pm_it hf c9
      obtain ⟨k10, hf⟩ := pm_if hf
      obtain ⟨v11, e12, hf⟩ := pm_bd hf
      have K13 := rgX1_take K0 Ha0 e12
      by_cases c14 : v11.1 = 0
      · have hf := pm_it hf c14
        exact rgX1_reference_b60 K13 Ha0 hf
      · have hf := pm_ie hf c14
        by_cases c15 : v11.1 = 112
        · have hf := pm_it hf c15
          exact rgX1_reference_b60 K13 Ha0 hf
        · have hf := pm_ie hf c15
          by_cases c16 : v11.1 = 111
          · have hf := pm_it hf c16
            exact rgX1_reference_b60 K13 Ha0 hf
          · have hf := pm_ie hf c16
            obtain ⟨k17, hf⟩ := pm_if hf
            obtain ⟨v18, e19, hf⟩ := pm_bd hf
            have K20 := rgX1_fail K13 Ha0 e19
            exact rgX1_reference_b60 K20 Ha0 hf
    · have hf := pm_ie hf c9
      obtain ⟨k21, hf⟩ := pm_if hf
      obtain ⟨v22, e23, hf⟩ := pm_bd hf
      obtain ⟨k24, hf⟩ := pm_if hf
      obtain ⟨v25, e26, hf⟩ := pm_lt hf
      obtain ⟨v27, e28, hf⟩ := pm_bd hf
      obtain ⟨k29, hf⟩ := pm_if hf
      by_cases c30 : (Int32.ofNat (pm_ln h v27)) ≤ v25
      · have hf := pm_it hf c30
        obtain ⟨v31, e32, hf⟩ := pm_bd hf
        have K33 := rgX1_fail K0 Ha0 e32
        obtain ⟨k34, hf⟩ := pm_if hf
        obtain ⟨v35, e36, hf⟩ := pm_bd hf
        have K37 := rgX1_plain K33 Ha0 e36
        cases hf
        exact K37
      · have hf := pm_ie hf c30
        obtain ⟨u38, hf⟩ := pm_if hf
        by_cases c39 : (pm_I h v27 v25.toNatClampNeg) = 0
        · have hf := pm_it hf c39
          obtain ⟨v40, e41, hf⟩ := pm_bd hf
          have K42 := rgX1_fail K0 Ha0 e41
          obtain ⟨k43, hf⟩ := pm_if hf
          obtain ⟨v44, e45, hf⟩ := pm_bd hf
          have K46 := rgX1_plain K42 Ha0 e45
          cases hf
          exact K46
        · have hf := pm_ie hf c39
          obtain ⟨v47, e48, hf⟩ := pm_bd hf
          have K49 := rgX1_plain K0 Ha0 e48
          cases hf
          exact K49
