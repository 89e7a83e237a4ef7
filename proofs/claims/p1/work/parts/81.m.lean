set_option maxHeartbeats 4000000 in
set_option maxRecDepth 100000 in
theorem klX16_declaresIn {r : pm_H} : ∀ n : Nat, (∀ (x0 : Nat) (x2 : Int32) (h : pm_H), pm_iter sX16_declaresIn n (.inl (x0, x2, h)) = some r → pm_S3 r h) ∧ (∀ (x0 : Nat) (x2 : Int32) (h : pm_H), pm_iter sX16_declaresIn n (.inr (.inl (x0, x2, h))) = some r → pm_S3 r h) ∧ (∀ (x0 : Nat) (x2 : Int32) (x3 : Int32) (s0 : Int32) (s1 : Nat) (h : pm_H), pm_iter sX16_declaresIn n (.inr (.inr (.inl (x0, x2, x3, s0, s1, h)))) = some r → pm_S3 r h) ∧ (∀ (x0 : Nat) (x2 : Int32) (x3 : Int32) (s0 : Int32) (s1 : Int32) (s2 : Nat) (h : pm_H), pm_iter sX16_declaresIn n (.inr (.inr (.inr (x0, x2, x3, s0, s1, s2, h)))) = some r → pm_S3 r h) := by
  intro n
  induction n with
  | zero => exact ⟨fun _ _ _ hf => (by cases hf), fun _ _ _ hf => (by cases hf), fun _ _ _ _ _ _ hf => (by cases hf), fun _ _ _ _ _ _ _ hf => (by cases hf)⟩
  | succ n ih =>
    refine ⟨fun x0 x2 h hf => ?_, ?_⟩
    · obtain ⟨y, hf, hi⟩ := pm_iter_s hf
      have hf : tX16_declaresIn_2 x0 x2 h = some y := hf
      unfold tX16_declaresIn_2 at hf
      have K0 := pm_S3.rf h
      obtain ⟨k1, hf⟩ := pm_if hf
      obtain ⟨v2, e3, hf⟩ := pm_bd hf
      obtain ⟨k4, hf⟩ := pm_if hf
      obtain ⟨v5, e6, hf⟩ := pm_bd hf
      by_cases c7 : v5 = 11
      · have hf := pm_it hf c7
        by_cases c8 : (pm_I h x0 21) ≤ 0
        · have hf := pm_it hf c8
          obtain ⟨y9, e10, hf⟩ := pm_lt hf
          cases hf
          cases hi
          exact K0
        · have hf := pm_ie hf c8
          cases hf
          exact pm_S3.trans (ih.2.1 x0 x2 h hi) K0
      · have hf := pm_ie hf c7
        cases hf
        exact pm_S3.trans (ih.2.1 x0 x2 h hi) K0
    refine ⟨fun x0 x2 h hf => ?_, ?_⟩
    · obtain ⟨y, hf, hi⟩ := pm_iter_s hf
      have hf : tX16_declaresIn_22 x0 x2 h = some y := hf
      unfold tX16_declaresIn_22 at hf
      have K0 := pm_S3.rf h
      obtain ⟨k11, hf⟩ := pm_if hf
      obtain ⟨v12, e13, hf⟩ := pm_bd hf
      obtain ⟨k14, hf⟩ := pm_if hf
      obtain ⟨v15, e16, hf⟩ := pm_bd hf
      by_cases c17 : v15 < 2
      · have hf := pm_it hf c17
        cases hf
        exact pm_S3.trans (ih.2.2.1 x0 x2 v15 (pm_I h x0 21) x0 h hi) K0
      · have hf := pm_ie hf c17
        by_cases c18 : 4 < v15
        · have hf := pm_it hf c18
          cases hf
          exact pm_S3.trans (ih.2.2.1 x0 x2 v15 (pm_I h x0 21) x0 h hi) K0
        · have hf := pm_ie hf c18
          cases hf
          exact pm_S3.trans (ih.2.2.2 x0 x2 v15 1 (pm_I h x0 21) x0 h hi) K0
    refine ⟨fun x0 x2 x3 s0 s1 h hf => ?_, ?_⟩
    · obtain ⟨y, hf, hi⟩ := pm_iter_s hf
      have hf : tX16_declaresIn_50 x0 x2 x3 s0 s1 h = some y := hf
      unfold tX16_declaresIn_50 at hf
      have K0 := pm_S3.rf h
      by_cases c19 : x3 = 11
      · have hf := pm_it hf c19
        cases hf
        exact pm_S3.trans (ih.2.2.2 x0 x2 x3 (-1) s0 s1 h hi) K0
      · have hf := pm_ie hf c19
        cases hf
        exact pm_S3.trans (ih.2.2.2 x0 x2 x3 0 s0 s1 h hi) K0
    refine fun x0 x2 x3 s0 s1 s2 h hf => ?_
    obtain ⟨y, hf, hi⟩ := pm_iter_s hf
    have hf : tX16_declaresIn_61 x0 x2 x3 s0 s1 s2 h = some y := hf
    unfold tX16_declaresIn_61 at hf
    have K0 := pm_S3.rf h
    obtain ⟨y20, e21, hf⟩ := pm_lt hf
    obtain ⟨k22, hf⟩ := pm_if hf
    obtain ⟨y23, e24, hf⟩ := pm_lt hf
    obtain ⟨k25, hf⟩ := pm_if hf
    by_cases c26 : x3 = 210
    · have hf := pm_it hf c26
      obtain ⟨v27, e28, hf⟩ := pm_bd hf
      have K29 := pm_S3.trans (kpX16_word e28) K0
      obtain ⟨k30, hf⟩ := pm_if hf
      obtain ⟨v31, e32, hf⟩ := pm_bd hf
      have K33 := pm_S3.trans (kpX16_declare e32) K29
      obtain ⟨k34, hf⟩ := pm_if hf
      obtain ⟨v35, e36, hf⟩ := pm_bd hf
      have K37 := pm_S3.trans (kpX16_behind e36) K33
      cases hf
      exact pm_S3.trans (ih.1 x0 v35.1 v35.2 hi) K37
    · have hf := pm_ie hf c26
      obtain ⟨v38, e39, hf⟩ := pm_bd hf
      have K40 := pm_S3.trans (kpX16_behind e39) K0
      cases hf
      exact pm_S3.trans (ih.1 x0 v38.1 v38.2 hi) K40
set_option maxHeartbeats 4000000 in
set_option maxRecDepth 100000 in
theorem kpX16_declaresIn {h : pm_H} {a0 : Nat} {p1 : Int32} {r : pm_H} (hf : fX16_declaresIn h a0 p1 = some r) : pm_S3 r h := by
  unfold fX16_declaresIn at hf
  have K0 := pm_S3.rf h
  obtain ⟨n, hn⟩ := pm_lim_iter hf
  exact pm_S3.trans ((klX16_declaresIn n).1 a0 p1 h hn) K0
set_option maxHeartbeats 4000000 in
set_option maxRecDepth 100000 in
theorem klX16_enters {r : pm_H} : ∀ n : Nat, (∀ (x0 : Nat) (x1 : Int32) (x2 : Nat) (x3 : Int32) (x4 : Int32) (x5 : Int32) (s0 : Int32) (h : pm_H), pm_iter sX16_enters n (.inl (x0, x1, x2, x3, x4, x5, s0, h)) = some r → pm_S3 r h) ∧ (∀ (x0 : Nat) (x1 : Int32) (x2 : Nat) (x3 : Int32) (x4 : Int32) (x6 : Int32) (x7 : Int32) (h : pm_H), pm_iter sX16_enters n (.inr (.inl (x0, x1, x2, x3, x4, x6, x7, h))) = some r → pm_S3 r h) ∧ (∀ (x0 : Nat) (x1 : Int32) (x2 : Nat) (x3 : Int32) (x7 : Int64) (h : pm_H), pm_iter sX16_enters n (.inr (.inr (.inl (x0, x1, x2, x3, x7, h)))) = some r → pm_S3 r h) ∧ (∀ (x0 : Nat) (x1 : Int32) (x2 : Nat) (x3 : Int32) (x7 : Int64) (x9 : Int64) (x11 : Int64) (h : pm_H), pm_iter sX16_enters n (.inr (.inr (.inr (x0, x1, x2, x3, x7, x9, x11, h)))) = some r → pm_S3 r h) := by
  intro n
  induction n with
  | zero => exact ⟨fun _ _ _ _ _ _ _ _ hf => (by cases hf), fun _ _ _ _ _ _ _ _ hf => (by cases hf), fun _ _ _ _ _ _ hf => (by cases hf), fun _ _ _ _ _ _ _ _ hf => (by cases hf)⟩
  | succ n ih =>
    refine ⟨fun x0 x1 x2 x3 x4 x5 s0 h hf => ?_, ?_⟩
    · obtain ⟨y, hf, hi⟩ := pm_iter_s hf
      have hf : tX16_enters_111 x0 x1 x2 x3 x4 x5 s0 h = some y := hf
      unfold tX16_enters_111 at hf
      have K0 := pm_S3.rf h
      obtain ⟨k52, hf⟩ := pm_if hf
      by_cases c53 : (pm_I h x0 85) = 200
      · have hf := pm_it hf c53
        cases hf
        cases hi
        exact K0
      · have hf := pm_ie hf c53
        obtain ⟨k54, hf⟩ := pm_if hf
        obtain ⟨v55, e56, hf⟩ := pm_bd hf
        obtain ⟨k57, hf⟩ := pm_if hf
        obtain ⟨u58, hf⟩ := pm_if hf
        by_cases c59 : ((s0 + x5) + (pm_I h v55 x3.toNatClampNeg)) ≤ 4096
        · have hf := pm_it hf c59
          obtain ⟨v60, e61, hf⟩ := pm_bd hf
          have K62 := pm_S3.trans (kpX16_counts e61) K0
          obtain ⟨k63, hf⟩ := pm_if hf
          by_cases c64 : (pm_I v60 x0 85) ≤ 0
          · have hf := pm_it hf c64
            obtain ⟨v65, e66, hf⟩ := pm_bd hf
            obtain ⟨k67, hf⟩ := pm_if hf
            obtain ⟨u68, hf⟩ := pm_if hf
            obtain ⟨v69, e70, hf⟩ := pm_bd hf
            obtain ⟨y71, e72, hf⟩ := pm_lt hf
            obtain ⟨k73, hf⟩ := pm_if hf
            obtain ⟨u74, hf⟩ := pm_if hf
            obtain ⟨v75, e76, hf⟩ := pm_bd hf
            obtain ⟨k77, hf⟩ := pm_if hf
            obtain ⟨u78, hf⟩ := pm_if hf
            obtain ⟨v79, e80, hf⟩ := pm_bd hf
            obtain ⟨k81, hf⟩ := pm_if hf
            obtain ⟨v82, e83, hf⟩ := pm_bd hf
            obtain ⟨k84, hf⟩ := pm_if hf
            obtain ⟨u85, hf⟩ := pm_if hf
            obtain ⟨y86, e87, hf⟩ := pm_lt hf
            obtain ⟨k88, hf⟩ := pm_if hf
            obtain ⟨u89, hf⟩ := pm_if hf
            obtain ⟨v90, e91, hf⟩ := pm_bd hf
            obtain ⟨y92, e93, hf⟩ := pm_lt hf
            obtain ⟨k94, hf⟩ := pm_if hf
            obtain ⟨u95, hf⟩ := pm_if hf
            obtain ⟨y96, e97, hf⟩ := pm_lt hf
            obtain ⟨v98, e99, hf⟩ := pm_bd hf
            obtain ⟨k100, hf⟩ := pm_if hf
            obtain ⟨u101, hf⟩ := pm_if hf
            obtain ⟨y102, e103, hf⟩ := pm_lt hf
            cases hf
            exact pm_S3.trans (ih.2.1 x0 x1 x2 x3 x4 s0 0 (pm_setI (pm_setR (pm_setI (pm_setI (pm_setI (pm_setI (pm_setI (pm_setI v60 v65 ((pm_I v60 x0 85).toNatClampNeg) x1) v69 ((pm_I (pm_setI v60 v65 ((pm_I v60 x0 85).toNatClampNeg) x1) x0 85).toNatClampNeg) y71) v75 ((pm_I (pm_setI (pm_setI v60 v65 ((pm_I v60 x0 85).toNatClampNeg) x1) v69 ((pm_I (pm_setI v60 v65 ((pm_I v60 x0 85).toNatClampNeg) x1) x0 85).toNatClampNeg) y71) x0 85).toNatClampNeg) s0) v79 ((pm_I (pm_setI (pm_setI (pm_setI v60 v65 ((pm_I v60 x0 85).toNatClampNeg) x1) v69 ((pm_I (pm_setI v60 v65 ((pm_I v60 x0 85).toNatClampNeg) x1) x0 85).toNatClampNeg) y71) v75 ((pm_I (pm_setI (pm_setI v60 v65 ((pm_I v60 x0 85).toNatClampNeg) x1) v69 ((pm_I (pm_setI v60 v65 ((pm_I v60 x0 85).toNatClampNeg) x1) x0 85).toNatClampNeg) y71) x0 85).toNatClampNeg) s0) x0 85).toNatClampNeg) y86) v90 ((pm_I (pm_setI (pm_setI (pm_setI (pm_setI v60 v65 ((pm_I v60 x0 85).toNatClampNeg) x1) v69 ((pm_I (pm_setI v60 v65 ((pm_I v60 x0 85).toNatClampNeg) x1) x0 85).toNatClampNeg) y71) v75 ((pm_I (pm_setI (pm_setI v60 v65 ((pm_I v60 x0 85).toNatClampNeg) x1) v69 ((pm_I (pm_setI v60 v65 ((pm_I v60 x0 85).toNatClampNeg) x1) x0 85).toNatClampNeg) y71) x0 85).toNatClampNeg) s0) v79 ((pm_I (pm_setI (pm_setI (pm_setI v60 v65 ((pm_I v60 x0 85).toNatClampNeg) x1) v69 ((pm_I (pm_setI v60 v65 ((pm_I v60 x0 85).toNatClampNeg) x1) x0 85).toNatClampNeg) y71) v75 ((pm_I (pm_setI (pm_setI v60 v65 ((pm_I v60 x0 85).toNatClampNeg) x1) v69 ((pm_I (pm_setI v60 v65 ((pm_I v60 x0 85).toNatClampNeg) x1) x0 85).toNatClampNeg) y71) x0 85).toNatClampNeg) s0) x0 85).toNatClampNeg) y86) x0 85).toNatClampNeg) y92) x0 85 y96) x0 10 (some x2)) x0 95 y102) hi) K62
          · have hf := pm_ie hf c64
            obtain ⟨v104, e105, hf⟩ := pm_bd hf
            obtain ⟨y106, e107, hf⟩ := pm_lt hf
            obtain ⟨k108, hf⟩ := pm_if hf
            obtain ⟨u109, hf⟩ := pm_if hf
            obtain ⟨v110, e111, hf⟩ := pm_bd hf
            obtain ⟨k112, hf⟩ := pm_if hf
            obtain ⟨u113, hf⟩ := pm_if hf
            obtain ⟨v114, e115, hf⟩ := pm_bd hf
            obtain ⟨y116, e117, hf⟩ := pm_lt hf
            obtain ⟨k118, hf⟩ := pm_if hf
            obtain ⟨u119, hf⟩ := pm_if hf
            obtain ⟨v120, e121, hf⟩ := pm_bd hf
            obtain ⟨k122, hf⟩ := pm_if hf
            obtain ⟨u123, hf⟩ := pm_if hf
            obtain ⟨v124, e125, hf⟩ := pm_bd hf
            obtain ⟨k126, hf⟩ := pm_if hf
            obtain ⟨v127, e128, hf⟩ := pm_bd hf
            obtain ⟨k129, hf⟩ := pm_if hf
            obtain ⟨u130, hf⟩ := pm_if hf
            obtain ⟨y131, e132, hf⟩ := pm_lt hf
            obtain ⟨k133, hf⟩ := pm_if hf
            obtain ⟨u134, hf⟩ := pm_if hf
            obtain ⟨v135, e136, hf⟩ := pm_bd hf
            obtain ⟨y137, e138, hf⟩ := pm_lt hf
            obtain ⟨k139, hf⟩ := pm_if hf
            obtain ⟨u140, hf⟩ := pm_if hf
            obtain ⟨y141, e142, hf⟩ := pm_lt hf
            obtain ⟨v143, e144, hf⟩ := pm_bd hf
            obtain ⟨k145, hf⟩ := pm_if hf
            obtain ⟨u146, hf⟩ := pm_if hf
            obtain ⟨y147, e148, hf⟩ := pm_lt hf
            cases hf
            exact pm_S3.trans (ih.2.1 x0 x1 x2 x3 x4 s0 0 (pm_setI (pm_setR (pm_setI (pm_setI (pm_setI (pm_setI (pm_setI (pm_setI (pm_setI v60 v104 (((pm_I v60 x0 85) - 1).toNatClampNeg) y106) v110 ((pm_I (pm_setI v60 v104 (((pm_I v60 x0 85) - 1).toNatClampNeg) y106) x0 85).toNatClampNeg) x1) v114 ((pm_I (pm_setI (pm_setI v60 v104 (((pm_I v60 x0 85) - 1).toNatClampNeg) y106) v110 ((pm_I (pm_setI v60 v104 (((pm_I v60 x0 85) - 1).toNatClampNeg) y106) x0 85).toNatClampNeg) x1) x0 85).toNatClampNeg) y116) v120 ((pm_I (pm_setI (pm_setI (pm_setI v60 v104 (((pm_I v60 x0 85) - 1).toNatClampNeg) y106) v110 ((pm_I (pm_setI v60 v104 (((pm_I v60 x0 85) - 1).toNatClampNeg) y106) x0 85).toNatClampNeg) x1) v114 ((pm_I (pm_setI (pm_setI v60 v104 (((pm_I v60 x0 85) - 1).toNatClampNeg) y106) v110 ((pm_I (pm_setI v60 v104 (((pm_I v60 x0 85) - 1).toNatClampNeg) y106) x0 85).toNatClampNeg) x1) x0 85).toNatClampNeg) y116) x0 85).toNatClampNeg) s0) v124 ((pm_I (pm_setI (pm_setI (pm_setI (pm_setI v60 v104 (((pm_I v60 x0 85) - 1).toNatClampNeg) y106) v110 ((pm_I (pm_setI v60 v104 (((pm_I v60 x0 85) - 1).toNatClampNeg) y106) x0 85).toNatClampNeg) x1) v114 ((pm_I (pm_setI (pm_setI v60 v104 (((pm_I v60 x0 85) - 1).toNatClampNeg) y106) v110 ((pm_I (pm_setI v60 v104 (((pm_I v60 x0 85) - 1).toNatClampNeg) y106) x0 85).toNatClampNeg) x1) x0 85).toNatClampNeg) y116) v120 ((pm_I (pm_setI (pm_setI (pm_setI v60 v104 (((pm_I v60 x0 85) - 1).toNatClampNeg) y106) v110 ((pm_I (pm_setI v60 v104 (((pm_I v60 x0 85) - 1).toNatClampNeg) y106) x0 85).toNatClampNeg) x1) v114 ((pm_I (pm_setI (pm_setI v60 v104 (((pm_I v60 x0 85) - 1).toNatClampNeg) y106) v110 ((pm_I (pm_setI v60 v104 (((pm_I v60 x0 85) - 1).toNatClampNeg) y106) x0 85).toNatClampNeg) x1) x0 85).toNatClampNeg) y116) x0 85).toNatClampNeg) s0) x0 85).toNatClampNeg) y131) v135 ((pm_I (pm_setI (pm_setI (pm_setI (pm_setI (pm_setI v60 v104 (((pm_I v60 x0 85) - 1).toNatClampNeg) y106) v110 ((pm_I (pm_setI v60 v104 (((pm_I v60 x0 85) - 1).toNatClampNeg) y106) x0 85).toNatClampNeg) x1) v114 ((pm_I (pm_setI (pm_setI v60 v104 (((pm_I v60 x0 85) - 1).toNatClampNeg) y106) v110 ((pm_I (pm_setI v60 v104 (((pm_I v60 x0 85) - 1).toNatClampNeg) y106) x0 85).toNatClampNeg) x1) x0 85).toNatClampNeg) y116) v120 ((pm_I (pm_setI (pm_setI (pm_setI v60 v104 (((pm_I v60 x0 85) - 1).toNatClampNeg) y106) v110 ((pm_I (pm_setI v60 v104 (((pm_I v60 x0 85) - 1).toNatClampNeg) y106) x0 85).toNatClampNeg) x1) v114 ((pm_I (pm_setI (pm_setI v60 v104 (((pm_I v60 x0 85) - 1).toNatClampNeg) y106) v110 ((pm_I (pm_setI v60 v104 (((pm_I v60 x0 85) - 1).toNatClampNeg) y106) x0 85).toNatClampNeg) x1) x0 85).toNatClampNeg) y116) x0 85).toNatClampNeg) s0) v124 ((pm_I (pm_setI (pm_setI (pm_setI (pm_setI v60 v104 (((pm_I v60 x0 85) - 1).toNatClampNeg) y106) v110 ((pm_I (pm_setI v60 v104 (((pm_I v60 x0 85) - 1).toNatClampNeg) y106) x0 85).toNatClampNeg) x1) v114 ((pm_I (pm_setI (pm_setI v60 v104 (((pm_I v60 x0 85) - 1).toNatClampNeg) y106) v110 ((pm_I (pm_setI v60 v104 (((pm_I v60 x0 85) - 1).toNatClampNeg) y106) x0 85).toNatClampNeg) x1) x0 85).toNatClampNeg) y116) v120 ((pm_I (pm_setI (pm_setI (pm_setI v60 v104 (((pm_I v60 x0 85) - 1).toNatClampNeg) y106) v110 ((pm_I (pm_setI v60 v104 (((pm_I v60 x0 85) - 1).toNatClampNeg) y106) x0 85).toNatClampNeg) x1) v114 ((pm_I (pm_setI (pm_setI v60 v104 (((pm_I v60 x0 85) - 1).toNatClampNeg) y106) v110 ((pm_I (pm_setI v60 v104 (((pm_I v60 x0 85) - 1).toNatClampNeg) y106) x0 85).toNatClampNeg) x1) x0 85).toNatClampNeg) y116) x0 85).toNatClampNeg) s0) x0 85).toNatClampNeg) y131) x0 85).toNatClampNeg) y137) x0 85 y141) x0 10 (some x2)) x0 95 y147) hi) K62
        · have hf := pm_ie hf c59
          cases hf
          cases hi
          exact K0
    refine ⟨fun x0 x1 x2 x3 x4 x6 x7 h hf => ?_, ?_⟩
    · obtain ⟨y, hf, hi⟩ := pm_iter_s hf
      have hf : tX16_enters_267 x0 x1 x2 x3 x4 x6 x7 h = some y := hf
      unfold tX16_enters_267 at hf
      have K0 := pm_S3.rf h
      by_cases c149 : x4 ≤ x7
      · have hf := pm_it hf c149
        obtain ⟨y150, e151, hf⟩ := pm_lt hf
        obtain ⟨k152, hf⟩ := pm_if hf
        obtain ⟨k153, hf⟩ := pm_if hf
        obtain ⟨v154, e155, hf⟩ := pm_bd hf
        obtain ⟨k156, hf⟩ := pm_if hf
        obtain ⟨u157, hf⟩ := pm_if hf
        obtain ⟨y158, e159, hf⟩ := pm_lt hf
        obtain ⟨v160, e161, hf⟩ := pm_bd hf
        have K162 := pm_S3.trans (kpX16_word e161) K0
        cases hf
        exact pm_S3.trans (ih.2.2.1 x0 x1 x2 x3 v160.1 v160.2 hi) K162
      · have hf := pm_ie hf c149
        obtain ⟨k163, hf⟩ := pm_if hf
        obtain ⟨v164, e165, hf⟩ := pm_bd hf
        obtain ⟨v166, e167, hf⟩ := pm_bd hf
        obtain ⟨k168, hf⟩ := pm_if hf
        obtain ⟨u169, hf⟩ := pm_if hf
        obtain ⟨y170, e171, hf⟩ := pm_lt hf
        obtain ⟨k172, hf⟩ := pm_if hf
        obtain ⟨u173, hf⟩ := pm_if hf
        obtain ⟨y174, e175, hf⟩ := pm_lt hf
        cases hf
        exact pm_S3.trans (ih.2.1 x0 x1 x2 x3 x4 x6 y174 (pm_setL h v164 ((x6 + x7).toNatClampNeg) y170) hi) K0
    refine ⟨fun x0 x1 x2 x3 x7 h hf => ?_, ?_⟩
    · obtain ⟨y, hf, hi⟩ := pm_iter_s hf
      have hf : tX16_enters_322 x0 x1 x2 x3 x7 h = some y := hf
      unfold tX16_enters_322 at hf
      have K0 := pm_S3.rf h
      by_cases c176 : x7 ≤ 0
      · have hf := pm_it hf c176
        obtain ⟨k177, hf⟩ := pm_if hf
        obtain ⟨v178, e179, hf⟩ := pm_bd hf
        obtain ⟨k180, hf⟩ := pm_if hf
        obtain ⟨u181, hf⟩ := pm_if hf
        obtain ⟨y182, e183, hf⟩ := pm_lt hf
        obtain ⟨k184, hf⟩ := pm_if hf
        obtain ⟨v185, e186, hf⟩ := pm_bd hf
        obtain ⟨k187, hf⟩ := pm_if hf
        obtain ⟨u188, hf⟩ := pm_if hf
        obtain ⟨v189, e190, hf⟩ := pm_bd hf
        obtain ⟨v191, e192, hf⟩ := pm_bd hf
        obtain ⟨k193, hf⟩ := pm_if hf
        obtain ⟨u194, hf⟩ := pm_if hf
        obtain ⟨y195, e196, hf⟩ := pm_lt hf
        obtain ⟨k197, hf⟩ := pm_if hf
        obtain ⟨u198, hf⟩ := pm_if hf
        obtain ⟨v199, e200, hf⟩ := pm_bd hf
        have K201 := pm_S3.trans (kpX16_opens e200) K0
        cases hf
        cases hi
        exact K201
      · have hf := pm_ie hf c176
        obtain ⟨k202, hf⟩ := pm_if hf
        obtain ⟨v203, e204, hf⟩ := pm_bd hf
        have K205 := pm_S3.trans (kpX16_word e204) K0
        obtain ⟨k206, hf⟩ := pm_if hf
        obtain ⟨k207, hf⟩ := pm_if hf
        obtain ⟨v208, e209, hf⟩ := pm_bd hf
        obtain ⟨v210, e211, hf⟩ := pm_lt hf
        by_cases c212 : v210 = 0
        · have hf := pm_it hf c212
          obtain ⟨y213, e214, hf⟩ := pm_lt hf
          cases hf
          exact pm_S3.trans (ih.2.2.2 x0 x1 x2 x3 x7 v203.1 0 (pm_setI v203.2 x0 19 y213) hi) K205
        · have hf := pm_ie hf c212
          obtain ⟨y215, e216, hf⟩ := pm_lt hf
          cases hf
          exact pm_S3.trans (ih.2.2.2 x0 x1 x2 x3 x7 v203.1 (-1) (pm_setI v203.2 x0 19 y215) hi) K205
    refine fun x0 x1 x2 x3 x7 x9 x11 h hf => ?_
    obtain ⟨y, hf, hi⟩ := pm_iter_s hf
    have hf : tX16_enters_368 x0 x1 x2 x3 x7 x9 x11 h = some y := hf
    unfold tX16_enters_368 at hf
    have K0 := pm_S3.rf h
    by_cases c217 : x9 ≤ 0
    · have hf := pm_it hf c217
      obtain ⟨y218, e219, hf⟩ := pm_lt hf
      cases hf
      exact pm_S3.trans (ih.2.2.1 x0 x1 x2 x3 y218 h hi) K0
    · have hf := pm_ie hf c217
      obtain ⟨k220, hf⟩ := pm_if hf
      obtain ⟨v221, e222, hf⟩ := pm_bd hf
      obtain ⟨k223, hf⟩ := pm_if hf
      obtain ⟨u224, hf⟩ := pm_if hf
      obtain ⟨y225, e226, hf⟩ := pm_lt hf
      obtain ⟨y227, e228, hf⟩ := pm_lt hf
      cases hf
      exact pm_S3.trans (ih.2.2.2 x0 x1 x2 x3 x7 y227 x11 (pm_setI (pm_setL h v221 ((pm_I h x0 93).toNatClampNeg) x11) x0 93 y225) hi) K0
set_option maxHeartbeats 4000000 in
set_option maxRecDepth 100000 in
theorem kpX16_enters {h : pm_H} {a0 : Nat} {p1 : Int32} {r : pm_H} (hf : fX16_enters h a0 p1 = some r) : pm_S3 r h := by
  unfold fX16_enters at hf
  have K0 := pm_S3.rf h
  obtain ⟨k1, hf⟩ := pm_if hf
  obtain ⟨v2, e3, hf⟩ := pm_bd hf
  obtain ⟨k4, hf⟩ := pm_if hf
  obtain ⟨u5, hf⟩ := pm_if hf
  by_cases c6 : (pm_I h v2 p1.toNatClampNeg) < 0
  · have hf := pm_it hf c6
    obtain ⟨v7, e8, hf⟩ := pm_bd hf
    obtain ⟨v9, e10, hf⟩ := pm_bd hf
    obtain ⟨k11, hf⟩ := pm_if hf
    obtain ⟨u12, hf⟩ := pm_if hf
    obtain ⟨y13, e14, hf⟩ := pm_lt hf
    obtain ⟨k15, hf⟩ := pm_if hf
    obtain ⟨v16, e17, hf⟩ := pm_bd hf
    obtain ⟨v18, e19, hf⟩ := pm_bd hf
    obtain ⟨k20, hf⟩ := pm_if hf
    obtain ⟨u21, hf⟩ := pm_if hf
    obtain ⟨y22, e23, hf⟩ := pm_lt hf
    obtain ⟨k24, hf⟩ := pm_if hf
    obtain ⟨u25, hf⟩ := pm_if hf
    obtain ⟨y26, e27, hf⟩ := pm_lt hf
    obtain ⟨v28, e29, hf⟩ := pm_bd hf
    obtain ⟨k30, hf⟩ := pm_if hf
    obtain ⟨u31, hf⟩ := pm_if hf
    obtain ⟨y32, e33, hf⟩ := pm_lt hf
    by_cases c34 : (pm_I h a0 85) = 0
    · have hf := pm_it hf c34
      obtain ⟨n, hn⟩ := pm_lim_iter hf
      exact pm_S3.trans ((klX16_enters n).1 a0 p1 v7 y13 y26 y32 0 h hn) K0
    · have hf := pm_ie hf c34
      obtain ⟨v35, e36, hf⟩ := pm_bd hf
      obtain ⟨y37, e38, hf⟩ := pm_lt hf
      obtain ⟨k39, hf⟩ := pm_if hf
      obtain ⟨u40, hf⟩ := pm_if hf
      obtain ⟨v41, e42, hf⟩ := pm_bd hf
      obtain ⟨y43, e44, hf⟩ := pm_lt hf
      obtain ⟨k45, hf⟩ := pm_if hf
      obtain ⟨u46, hf⟩ := pm_if hf
      obtain ⟨n, hn⟩ := pm_lim_iter hf
      exact pm_S3.trans ((klX16_enters n).1 a0 p1 v7 y13 y26 y32 ((pm_I h v35 y37.toNatClampNeg) + (pm_I h v41 y43.toNatClampNeg)) h hn) K0
  · have hf := pm_ie hf c6
    obtain ⟨u47, hf⟩ := pm_if hf
    obtain ⟨y48, e49, hf⟩ := pm_lt hf
    obtain ⟨v50, e51, hf⟩ := pm_bd hf
    cases hf
    exact K0
set_option maxHeartbeats 4000000 in
set_option maxRecDepth 100000 in
theorem kpX16_extreme_b132 {h : pm_H} {x1 : Int32} {x2 : Int64} {x4 : Int64} {x6 : Int32} {r : (Int64 × pm_H)} (hf : fX16_extreme_b132 h x1 x2 x4 x6 = some r) : pm_S3 r.2 h := by
  unfold fX16_extreme_b132 at hf
  have K0 := pm_S3.rf h
  obtain ⟨v47, e48, hf⟩ := pm_lt hf
  obtain ⟨v49, e50, hf⟩ := pm_lt hf
  by_cases c51 : v49 ≤ v47
  · have hf := pm_it hf c51
    by_cases c52 : 0 = x6
    · have hf := pm_it hf c52
      cases hf
      exact K0
    · have hf := pm_ie hf c52
      cases hf
      exact K0
  · have hf := pm_ie hf c51
    by_cases c53 : 1 = x6
    · have hf := pm_it hf c53
      cases hf
      exact K0
    · have hf := pm_ie hf c53
      cases hf
      exact K0
set_option maxHeartbeats 4000000 in
set_option maxRecDepth 100000 in
theorem kpX16_extreme {h : pm_H} {a0 : Nat} {p1 : Int32} {p2 : Int64} {p3 : Int64} {p4 : Int32} {r : (Int64 × pm_H)} (hf : fX16_extreme h a0 p1 p2 p3 p4 = some r) : pm_S3 r.2 h := by
  unfold fX16_extreme at hf
  have K0 := pm_S3.rf h
  obtain ⟨k1, hf⟩ := pm_if hf
  obtain ⟨v2, e3, hf⟩ := pm_bd hf
  obtain ⟨k4, hf⟩ := pm_if hf
  obtain ⟨v5, e6, hf⟩ := pm_bd hf
  have K7 := pm_S3.trans (kpX15_read e6) K0
  obtain ⟨k8, hf⟩ := pm_if hf
  obtain ⟨v9, e10, hf⟩ := pm_bd hf
  obtain ⟨k11, hf⟩ := pm_if hf
  obtain ⟨v12, e13, hf⟩ := pm_bd hf
  have K14 := pm_S3.trans (kpX15_read e13) K7
  obtain ⟨k15, hf⟩ := pm_if hf
  obtain ⟨v16, e17, hf⟩ := pm_bd hf
  obtain ⟨k18, hf⟩ := pm_if hf
  by_cases c19 : (pm_I v12 v16 1) = 3
  · have hf := pm_it hf c19
    obtain ⟨v20, e21, hf⟩ := pm_lt hf
    cases hf
    exact K14
  · have hf := pm_ie hf c19
    obtain ⟨v22, e23, hf⟩ := pm_bd hf
    obtain ⟨k24, hf⟩ := pm_if hf
    by_cases c25 : (pm_I v12 v22 1) = 3
    · have hf := pm_it hf c25
      obtain ⟨v26, e27, hf⟩ := pm_lt hf
      cases hf
      exact K14
    · have hf := pm_ie hf c25
      by_cases c28 : (pm_I v12 v16 1) = 1
      · have hf := pm_it hf c28
        by_cases c29 : (pm_I v12 v22 1) = 1
        · have hf := pm_it hf c29
          by_cases c30 : p4 = 0
          · have hf := pm_it hf c30
            by_cases c31 : (pm_I v12 v16 0) = 0
            · have hf := pm_it hf c31
              obtain ⟨v32, e33, hf⟩ := pm_lt hf
              cases hf
              exact K14
            · have hf := pm_ie hf c31
              by_cases c34 : (pm_I v12 v22 0) = 0
              · have hf := pm_it hf c34
                obtain ⟨v35, e36, hf⟩ := pm_lt hf
                cases hf
                exact K14
              · have hf := pm_ie hf c34
                obtain ⟨v37, e38, hf⟩ := pm_lt hf
                cases hf
                exact K14
          · have hf := pm_ie hf c30
            by_cases c39 : (pm_I v12 v16 0) = 0
            · have hf := pm_it hf c39
              by_cases c40 : (pm_I v12 v22 0) = 0
              · have hf := pm_it hf c40
                obtain ⟨v41, e42, hf⟩ := pm_lt hf
                cases hf
                exact K14
              · have hf := pm_ie hf c40
                obtain ⟨v43, e44, hf⟩ := pm_lt hf
                cases hf
                exact K14
            · have hf := pm_ie hf c39
              obtain ⟨v45, e46, hf⟩ := pm_lt hf
              cases hf
              exact K14
        · have hf := pm_ie hf c29
          exact pm_S3.trans (kpX16_extreme_b132 hf) K14
      · have hf := pm_ie hf c28
        exact pm_S3.trans (kpX16_extreme_b132 hf) K14
set_option maxHeartbeats 4000000 in
set_option maxRecDepth 100000 in
theorem klX16_goesOn {r : pm_H} : ∀ n : Nat, (∀ (x0 : Nat) (h : pm_H), pm_iter sX16_goesOn n (x0, h) = some r → pm_S3 r h) := by
  intro n
  induction n with
  | zero => exact fun _ _ hf => (by cases hf)
  | succ n ih =>
    refine fun x0 h hf => ?_
    obtain ⟨y, hf, hi⟩ := pm_iter_s hf
    have hf : tX16_goesOn_0 x0 h = some y := hf
    unfold tX16_goesOn_0 at hf
    have K0 := pm_S3.rf h
    obtain ⟨k1, hf⟩ := pm_if hf
    by_cases c2 : (pm_I h x0 76) = 1
    · have hf := pm_it hf c2
      obtain ⟨v3, e4, hf⟩ := pm_bd hf
      obtain ⟨k5, hf⟩ := pm_if hf
      obtain ⟨v6, e7, hf⟩ := pm_bd hf
      by_cases c8 : v6 = 2
      · have hf := pm_it hf c8
        obtain ⟨v9, e10, hf⟩ := pm_bd hf
        have K11 := pm_S3.trans (kpX16_opensBlock e10) K0
        cases hf
        exact pm_S3.trans (ih x0 v9 hi) K11
      · have hf := pm_ie hf c8
        by_cases c12 : v6 = 3
        · have hf := pm_it hf c12
          obtain ⟨v13, e14, hf⟩ := pm_bd hf
          have K15 := pm_S3.trans (kpX16_opensBlock e14) K0
          cases hf
          exact pm_S3.trans (ih x0 v13 hi) K15
        · have hf := pm_ie hf c12
          by_cases c16 : v6 = 5
          · have hf := pm_it hf c16
            obtain ⟨v17, e18, hf⟩ := pm_bd hf
            obtain ⟨y19, e20, hf⟩ := pm_lt hf
            obtain ⟨k21, hf⟩ := pm_if hf
            obtain ⟨u22, hf⟩ := pm_if hf
            obtain ⟨y23, e24, hf⟩ := pm_lt hf
            cases hf
            exact pm_S3.trans (ih x0 (pm_setI h x0 94 y23) hi) K0
          · have hf := pm_ie hf c16
            by_cases c25 : v6 = 11
            · have hf := pm_it hf c25
              obtain ⟨v26, e27, hf⟩ := pm_bd hf
              have K28 := pm_S3.trans (kpX16_closes e27) K0
              cases hf
              exact pm_S3.trans (ih x0 v26 hi) K28
            · have hf := pm_ie hf c25
              cases hf
              cases hi
              exact K0
    · have hf := pm_ie hf c2
      cases hf
      cases hi
      exact K0
set_option maxHeartbeats 4000000 in
set_option maxRecDepth 100000 in
theorem kpX16_goesOn {h : pm_H} {a0 : Nat} {r : pm_H} (hf : fX16_goesOn h a0 = some r) : pm_S3 r h := by
  unfold fX16_goesOn at hf
  have K0 := pm_S3.rf h
  obtain ⟨n, hn⟩ := pm_lim_iter hf
  exact pm_S3.trans ((klX16_goesOn n) a0 h hn) K0
set_option maxHeartbeats 4000000 in
set_option maxRecDepth 100000 in
theorem klX16_invokes {r : pm_H} : ∀ n : Nat, (∀ (x0 : Nat) (x1 : Int32) (x2 : Int32) (x3 : Int32) (h : pm_H), pm_iter sX16_invokes n (x0, x1, x2, x3, h) = some r → pm_S3 r h) := by
  intro n
  induction n with
  | zero => exact fun _ _ _ _ _ hf => (by cases hf)
  | succ n ih =>
    refine fun x0 x1 x2 x3 h hf => ?_
    obtain ⟨y, hf, hi⟩ := pm_iter_s hf
    have hf : tX16_invokes_18 x0 x1 x2 x3 h = some y := hf
    unfold tX16_invokes_18 at hf
    have K0 := pm_S3.rf h
    by_cases c6 : x2 ≤ x3
    · have hf := pm_it hf c6
      obtain ⟨k7, hf⟩ := pm_if hf
      obtain ⟨v8, e9, hf⟩ := pm_bd hf
      have K10 := pm_S3.trans (kpX16_enters e9) K0
      cases hf
      cases hi
      exact K10
    · have hf := pm_ie hf c6
      obtain ⟨k11, hf⟩ := pm_if hf
      obtain ⟨v12, e13, hf⟩ := pm_bd hf
      obtain ⟨v14, e15, hf⟩ := pm_bd hf
      obtain ⟨y16, e17, hf⟩ := pm_lt hf
      obtain ⟨k18, hf⟩ := pm_if hf
      obtain ⟨u19, hf⟩ := pm_if hf
      obtain ⟨y20, e21, hf⟩ := pm_lt hf
      obtain ⟨k22, hf⟩ := pm_if hf
      obtain ⟨u23, hf⟩ := pm_if hf
      obtain ⟨y24, e25, hf⟩ := pm_lt hf
      cases hf
      exact pm_S3.trans (ih x0 x1 x2 y24 (pm_setL h v12 x3.toNatClampNeg y20) hi) K0
set_option maxHeartbeats 4000000 in
set_option maxRecDepth 100000 in
theorem kpX16_invokes {h : pm_H} {a0 : Nat} {p1 : Int32} {r : pm_H} (hf : fX16_invokes h a0 p1 = some r) : pm_S3 r h := by
  unfold fX16_invokes at hf
  have K0 := pm_S3.rf h
  obtain ⟨k1, hf⟩ := pm_if hf
  obtain ⟨v2, e3, hf⟩ := pm_bd hf
  obtain ⟨y4, e5, hf⟩ := pm_lt hf
  obtain ⟨n, hn⟩ := pm_lim_iter hf
  exact pm_S3.trans ((klX16_invokes n) a0 p1 v2 0 (pm_setI h a0 93 y4) hn) K0
set_option maxHeartbeats 4000000 in
set_option maxRecDepth 100000 in
theorem kpX16_invokesEntry {h : pm_H} {a0 : Nat} {r : pm_H} (hf : fX16_invokesEntry h a0 = some r) : pm_S3 r h := by
  unfold fX16_invokesEntry at hf
  have K0 := pm_S3.rf h
  obtain ⟨k1, hf⟩ := pm_if hf
  obtain ⟨v2, e3, hf⟩ := pm_bd hf
  have K4 := pm_S3.trans (kpX16_word e3) K0
  obtain ⟨k5, hf⟩ := pm_if hf
  obtain ⟨v6, e7, hf⟩ := pm_bd hf
  obtain ⟨v8, e9, hf⟩ := pm_bd hf
  have K10 := pm_S3.trans (kpX16_word e9) K4
  obtain ⟨y11, e12, hf⟩ := pm_lt hf
  obtain ⟨k13, hf⟩ := pm_if hf
  obtain ⟨u14, hf⟩ := pm_if hf
  obtain ⟨y15, e16, hf⟩ := pm_lt hf
  obtain ⟨k17, hf⟩ := pm_if hf
  obtain ⟨v18, e19, hf⟩ := pm_bd hf
  have K20 := pm_S3.trans (kpX16_pop e19) K10
  obtain ⟨k21, hf⟩ := pm_if hf
  obtain ⟨v22, e23, hf⟩ := pm_bd hf
  obtain ⟨k24, hf⟩ := pm_if hf
  obtain ⟨u25, hf⟩ := pm_if hf
  by_cases c26 : v18.1 < ((pm_I v18.2 v22 y15.toNatClampNeg).toInt64)
  · have hf := pm_it hf c26
    obtain ⟨v27, e28, hf⟩ := pm_bd hf
    obtain ⟨y29, e30, hf⟩ := pm_lt hf
    obtain ⟨k31, hf⟩ := pm_if hf
    obtain ⟨u32, hf⟩ := pm_if hf
    obtain ⟨y33, e34, hf⟩ := pm_lt hf
    by_cases c35 : 0 ≤ y33
    · have hf := pm_it hf c35
      obtain ⟨v36, e37, hf⟩ := pm_bd hf
      obtain ⟨k38, hf⟩ := pm_if hf
      obtain ⟨u39, hf⟩ := pm_if hf
      obtain ⟨v40, e41, hf⟩ := pm_bd hf
      obtain ⟨k42, hf⟩ := pm_if hf
      obtain ⟨u43, hf⟩ := pm_if hf
      obtain ⟨v44, e45, hf⟩ := pm_bd hf
      obtain ⟨y46, e47, hf⟩ := pm_lt hf
      obtain ⟨k48, hf⟩ := pm_if hf
      obtain ⟨u49, hf⟩ := pm_if hf
      obtain ⟨v50, e51, hf⟩ := pm_bd hf
      by_cases c52 : v50 = 0
      · have hf := pm_it hf c52
        obtain ⟨v53, e54, hf⟩ := pm_bd hf
        have K55 := pm_S3.trans (kpX16_endsBy e54) K20
        cases hf
        exact K55
      · have hf := pm_ie hf c52
        obtain ⟨v56, e57, hf⟩ := pm_bd hf
        have K58 := pm_S3.trans (kpX16_invokes e57) K20
        cases hf
        exact K58
    · have hf := pm_ie hf c35
      obtain ⟨v59, e60, hf⟩ := pm_bd hf
      have K61 := pm_S3.trans (kpX16_endsBy e60) K20
      cases hf
      exact K61
  · have hf := pm_ie hf c26
    obtain ⟨v62, e63, hf⟩ := pm_bd hf
    have K64 := pm_S3.trans (kpX16_endsBy e63) K20
    cases hf
    exact K64
set_option maxHeartbeats 4000000 in
set_option maxRecDepth 100000 in
theorem klX16_isNamed {r : (Int32 × pm_H)} : ∀ n : Nat, (∀ (x0 : Nat) (x2 : Int32) (h : pm_H), pm_iter sX16_isNamed n (.inl (x0, x2, h)) = some r → pm_S3 r.2 h) ∧ (∀ (x0 : Nat) (x2 : Int32) (h : pm_H), pm_iter sX16_isNamed n (.inr (.inl (x0, x2, h))) = some r → pm_S3 r.2 h) ∧ (∀ (x0 : Nat) (x3 : Int64) (x5 : Int32) (x6 : Int64) (h : pm_H), pm_iter sX16_isNamed n (.inr (.inr (x0, x3, x5, x6, h))) = some r → pm_S3 r.2 h) := by
  intro n
  induction n with
  | zero => exact ⟨fun _ _ _ hf => (by cases hf), fun _ _ _ hf => (by cases hf), fun _ _ _ _ _ hf => (by cases hf)⟩
  | succ n ih =>
    refine ⟨fun x0 x2 h hf => ?_, ?_⟩
    · obtain ⟨y, hf, hi⟩ := pm_iter_s hf
      have hf : tX16_isNamed_39 x0 x2 h = some y := hf
      unfold tX16_isNamed_39 at hf
      have K0 := pm_S3.rf h
      by_cases c14 : x2 = 12
      · have hf := pm_it hf c14
        obtain ⟨k15, hf⟩ := pm_if hf
        obtain ⟨v16, e17, hf⟩ := pm_bd hf
        have K18 := pm_S3.trans (kpX16_word e17) K0
        obtain ⟨k19, hf⟩ := pm_if hf
        by_cases c20 : ((pm_I v16.2 x0 24).toInt64) ≤ v16.1
        · have hf := pm_it hf c20
          cases hf
          cases hi
          exact K18
        · have hf := pm_ie hf c20
          cases hf
          cases hi
          exact K18
      · have hf := pm_ie hf c14
        by_cases c21 : x2 = 13
        · have hf := pm_it hf c21
          obtain ⟨k22, hf⟩ := pm_if hf
          obtain ⟨v23, e24, hf⟩ := pm_bd hf
          have K25 := pm_S3.trans (kpX16_word e24) K0
          obtain ⟨k26, hf⟩ := pm_if hf
          by_cases c27 : ((pm_I v23.2 x0 24).toInt64) ≤ v23.1
          · have hf := pm_it hf c27
            cases hf
            cases hi
            exact K25
          · have hf := pm_ie hf c27
            cases hf
            cases hi
            exact K25
        · have hf := pm_ie hf c21
          by_cases c28 : x2 = 14
          · have hf := pm_it hf c28
            obtain ⟨k29, hf⟩ := pm_if hf
            obtain ⟨v30, e31, hf⟩ := pm_bd hf
            have K32 := pm_S3.trans (kpX16_word e31) K0
            cases hf
            exact pm_S3.trans (ih.2.2 x0 v30.1 1 0 v30.2 hi) K32
          · have hf := pm_ie hf c28
            by_cases c33 : x2 = 16
            · have hf := pm_it hf c33
              obtain ⟨k34, hf⟩ := pm_if hf
              obtain ⟨v35, e36, hf⟩ := pm_bd hf
              have K37 := pm_S3.trans (kpX16_word e36) K0
              obtain ⟨k38, hf⟩ := pm_if hf
              obtain ⟨v39, e40, hf⟩ := pm_bd hf
              obtain ⟨k41, hf⟩ := pm_if hf
              obtain ⟨v42, e43, hf⟩ := pm_bd hf
              by_cases c44 : v42.toInt64 ≤ v35.1
              · have hf := pm_it hf c44
                cases hf
                cases hi
                exact K37
              · have hf := pm_ie hf c44
                cases hf
                cases hi
                exact K37
            · have hf := pm_ie hf c33
              by_cases c45 : x2 = 17
              · have hf := pm_it hf c45
                obtain ⟨k46, hf⟩ := pm_if hf
                obtain ⟨v47, e48, hf⟩ := pm_bd hf
                have K49 := pm_S3.trans (kpX16_word e48) K0
                obtain ⟨k50, hf⟩ := pm_if hf
                obtain ⟨v51, e52, hf⟩ := pm_bd hf
                have K53 := pm_S3.trans (kpX16_word e52) K49
                obtain ⟨k54, hf⟩ := pm_if hf
                obtain ⟨v55, e56, hf⟩ := pm_bd hf
                obtain ⟨k57, hf⟩ := pm_if hf
                by_cases c58 : ((pm_I v51.2 v55 4).toInt64) ≤ v47.1
                · have hf := pm_it hf c58
                  cases hf
                  cases hi
                  exact K53
                · have hf := pm_ie hf c58
                  obtain ⟨v59, e60, hf⟩ := pm_bd hf
                  by_cases c61 : v59.toInt64 ≤ v51.1
                  · have hf := pm_it hf c61
                    cases hf
                    cases hi
                    exact K53
                  · have hf := pm_ie hf c61
                    obtain ⟨v62, e63, hf⟩ := pm_bd hf
                    by_cases c64 : v62 = 112
                    · have hf := pm_it hf c64
                      cases hf
                      cases hi
                      exact K53
                    · have hf := pm_ie hf c64
                      cases hf
                      cases hi
                      exact K53
              · have hf := pm_ie hf c45
                by_cases c65 : x2 < 32
                · have hf := pm_it hf c65
                  cases hf
                  exact pm_S3.trans (ih.2.1 x0 x2 h hi) K0
                · have hf := pm_ie hf c65
                  by_cases c66 : 34 < x2
                  · have hf := pm_it hf c66
                    cases hf
                    exact pm_S3.trans (ih.2.1 x0 x2 h hi) K0
                  · have hf := pm_ie hf c66
                    obtain ⟨k67, hf⟩ := pm_if hf
                    obtain ⟨v68, e69, hf⟩ := pm_bd hf
                    have K70 := pm_S3.trans (kpX16_word e69) K0
                    obtain ⟨k71, hf⟩ := pm_if hf
                    obtain ⟨v72, e73, hf⟩ := pm_bd hf
                    obtain ⟨k74, hf⟩ := pm_if hf
                    obtain ⟨v75, e76, hf⟩ := pm_bd hf
                    obtain ⟨y77, e78, hf⟩ := pm_lt hf
                    obtain ⟨k79, hf⟩ := pm_if hf
                    obtain ⟨u80, hf⟩ := pm_if hf
                    obtain ⟨v81, e82, hf⟩ := pm_bd hf
                    obtain ⟨y83, e84, hf⟩ := pm_lt hf
                    obtain ⟨k85, hf⟩ := pm_if hf
                    obtain ⟨u86, hf⟩ := pm_if hf
                    by_cases c87 : (((pm_I v68.2 v75 y77.toNatClampNeg).toInt64) + (pm_L v68.2 v81 y83.toNatClampNeg)) ≤ v68.1
                    · have hf := pm_it hf c87
                      cases hf
                      cases hi
                      exact K70
                    · have hf := pm_ie hf c87
                      cases hf
                      cases hi
                      exact K70
    refine ⟨fun x0 x2 h hf => ?_, ?_⟩
    · obtain ⟨y, hf, hi⟩ := pm_iter_s hf
      have hf : tX16_isNamed_290 x0 x2 h = some y := hf
      unfold tX16_isNamed_290 at hf
      have K0 := pm_S3.rf h
      by_cases c112 : x2 = 35
      · have hf := pm_it hf c112
        obtain ⟨k113, hf⟩ := pm_if hf
        obtain ⟨v114, e115, hf⟩ := pm_bd hf
        have K116 := pm_S3.trans (kpX16_word e115) K0
        obtain ⟨k117, hf⟩ := pm_if hf
        obtain ⟨v118, e119, hf⟩ := pm_bd hf
        obtain ⟨k120, hf⟩ := pm_if hf
        obtain ⟨v121, e122, hf⟩ := pm_bd hf
        by_cases c123 : v121.toInt64 ≤ v114.1
        · have hf := pm_it hf c123
          cases hf
          cases hi
          exact K116
        · have hf := pm_ie hf c123
          by_cases c124 : x2 = 35
          · have hf := pm_it hf c124
            cases hf
            cases hi
            exact K116
          · have hf := pm_ie hf c124
            obtain ⟨v125, e126, hf⟩ := pm_bd hf
            by_cases c127 : v125 = 0
            · have hf := pm_it hf c127
              cases hf
              cases hi
              exact K116
            · have hf := pm_ie hf c127
              cases hf
              cases hi
              exact K116
      · have hf := pm_ie hf c112
        by_cases c128 : x2 = 36
        · have hf := pm_it hf c128
          obtain ⟨k129, hf⟩ := pm_if hf
          obtain ⟨v130, e131, hf⟩ := pm_bd hf
          have K132 := pm_S3.trans (kpX16_word e131) K0
          obtain ⟨k133, hf⟩ := pm_if hf
          obtain ⟨v134, e135, hf⟩ := pm_bd hf
          obtain ⟨k136, hf⟩ := pm_if hf
          obtain ⟨v137, e138, hf⟩ := pm_bd hf
          by_cases c139 : v137.toInt64 ≤ v130.1
          · have hf := pm_it hf c139
            cases hf
            cases hi
            exact K132
          · have hf := pm_ie hf c139
            by_cases c140 : x2 = 35
            · have hf := pm_it hf c140
              cases hf
              cases hi
              exact K132
            · have hf := pm_ie hf c140
              obtain ⟨v141, e142, hf⟩ := pm_bd hf
              by_cases c143 : v141 = 0
              · have hf := pm_it hf c143
                cases hf
                cases hi
                exact K132
              · have hf := pm_ie hf c143
                cases hf
                cases hi
                exact K132
        · have hf := pm_ie hf c128
          by_cases c144 : x2 = 37
          · have hf := pm_it hf c144
            obtain ⟨k145, hf⟩ := pm_if hf
            obtain ⟨v146, e147, hf⟩ := pm_bd hf
            have K148 := pm_S3.trans (kpX16_word e147) K0
            obtain ⟨k149, hf⟩ := pm_if hf
            obtain ⟨v150, e151, hf⟩ := pm_bd hf
            obtain ⟨k152, hf⟩ := pm_if hf
            obtain ⟨v153, e154, hf⟩ := pm_bd hf
            by_cases c155 : v153.toInt64 ≤ v146.1
            · have hf := pm_it hf c155
              cases hf
              cases hi
              exact K148
            · have hf := pm_ie hf c155
              cases hf
              cases hi
              exact K148
          · have hf := pm_ie hf c144
            by_cases c156 : x2 = 38
            · have hf := pm_it hf c156
              obtain ⟨k157, hf⟩ := pm_if hf
              obtain ⟨v158, e159, hf⟩ := pm_bd hf
              have K160 := pm_S3.trans (kpX16_word e159) K0
              obtain ⟨k161, hf⟩ := pm_if hf
              obtain ⟨v162, e163, hf⟩ := pm_bd hf
              obtain ⟨k164, hf⟩ := pm_if hf
              obtain ⟨v165, e166, hf⟩ := pm_bd hf
              by_cases c167 : v165.toInt64 ≤ v158.1
              · have hf := pm_it hf c167
                cases hf
                cases hi
                exact K160
              · have hf := pm_ie hf c167
                cases hf
                cases hi
                exact K160
            · have hf := pm_ie hf c156
              obtain ⟨v168, e169, hf⟩ := pm_lt hf
              by_cases c170 : v168 = 0
              · have hf := pm_it hf c170
                by_cases c171 : x2 = 63
                · have hf := pm_it hf c171
                  obtain ⟨k172, hf⟩ := pm_if hf
                  obtain ⟨v173, e174, hf⟩ := pm_bd hf
                  obtain ⟨k175, hf⟩ := pm_if hf
                  obtain ⟨v176, e177, hf⟩ := pm_bd hf
                  by_cases c178 : v176 ≤ 0
                  · have hf := pm_it hf c178
                    cases hf
                    cases hi
                    exact K0
                  · have hf := pm_ie hf c178
                    cases hf
                    cases hi
                    exact K0
                · have hf := pm_ie hf c171
                  by_cases c179 : x2 = 64
                  · have hf := pm_it hf c179
                    obtain ⟨k180, hf⟩ := pm_if hf
                    obtain ⟨v181, e182, hf⟩ := pm_bd hf
                    obtain ⟨k183, hf⟩ := pm_if hf
                    obtain ⟨v184, e185, hf⟩ := pm_bd hf
                    by_cases c186 : v184 ≤ 0
                    · have hf := pm_it hf c186
                      cases hf
                      cases hi
                      exact K0
                    · have hf := pm_ie hf c186
                      cases hf
                      cases hi
                      exact K0
                  · have hf := pm_ie hf c179
                    by_cases c187 : x2 = 210
                    · have hf := pm_it hf c187
                      obtain ⟨k188, hf⟩ := pm_if hf
                      obtain ⟨v189, e190, hf⟩ := pm_bd hf
                      have K191 := pm_S3.trans (kpX16_word e190) K0
                      obtain ⟨k192, hf⟩ := pm_if hf
                      obtain ⟨v193, e194, hf⟩ := pm_bd hf
                      obtain ⟨k195, hf⟩ := pm_if hf
                      obtain ⟨v196, e197, hf⟩ := pm_bd hf
                      by_cases c198 : v196.toInt64 ≤ v189.1
                      · have hf := pm_it hf c198
                        cases hf
                        cases hi
                        exact K191
                      · have hf := pm_ie hf c198
                        obtain ⟨v199, e200, hf⟩ := pm_bd hf
                        obtain ⟨k201, hf⟩ := pm_if hf
                        obtain ⟨u202, hf⟩ := pm_if hf
                        by_cases c203 : (pm_I v189.2 v199 v189.1.toInt32.toNatClampNeg) = 0
                        · have hf := pm_it hf c203
                          cases hf
                          cases hi
                          exact K191
                        · have hf := pm_ie hf c203
                          cases hf
                          cases hi
                          exact K191
                    · have hf := pm_ie hf c187
                      by_cases c204 : x2 = 252
                      · have hf := pm_it hf c204
                        obtain ⟨k205, hf⟩ := pm_if hf
                        obtain ⟨v206, e207, hf⟩ := pm_bd hf
                        have K208 := pm_S3.trans (kpX16_isNamedFurther e207) K0
                        by_cases c209 : v206.1 = 0
                        · have hf := pm_it hf c209
                          cases hf
                          cases hi
                          exact K208
                        · have hf := pm_ie hf c209
                          cases hf
                          cases hi
                          exact K208
                      · have hf := pm_ie hf c204
                        cases hf
                        cases hi
                        exact K0
              · have hf := pm_ie hf c170
                obtain ⟨k210, hf⟩ := pm_if hf
                obtain ⟨v211, e212, hf⟩ := pm_bd hf
                have K213 := pm_S3.trans (kpX16_word e212) K0
                obtain ⟨v214, e215, hf⟩ := pm_lt hf
                by_cases c216 : v214.toInt64 < v211.1
                · have hf := pm_it hf c216
                  cases hf
                  cases hi
                  exact K213
                · have hf := pm_ie hf c216
                  obtain ⟨k217, hf⟩ := pm_if hf
                  obtain ⟨v218, e219, hf⟩ := pm_bd hf
                  obtain ⟨k220, hf⟩ := pm_if hf
                  obtain ⟨v221, e222, hf⟩ := pm_bd hf
                  by_cases c223 : v221 ≤ 0
                  · have hf := pm_it hf c223
                    cases hf
                    cases hi
                    exact K213
                  · have hf := pm_ie hf c223
                    cases hf
                    cases hi
                    exact K213
    refine fun x0 x3 x5 x6 h hf => ?_
    obtain ⟨y, hf, hi⟩ := pm_iter_s hf
    have hf : tX16_isNamed_87 x0 x3 x5 x6 h = some y := hf
    unfold tX16_isNamed_87 at hf
    have K0 := pm_S3.rf h
    by_cases c88 : x3 < x6
    · have hf := pm_it hf c88
      obtain ⟨u89, hf⟩ := pm_if hf
      cases hf
      cases hi
      exact K0
    · have hf := pm_ie hf c88
      obtain ⟨k90, hf⟩ := pm_if hf
      obtain ⟨v91, e92, hf⟩ := pm_bd hf
      have K93 := pm_S3.trans (kpX16_word e92) K0
      obtain ⟨k94, hf⟩ := pm_if hf
      by_cases c95 : ((pm_I v91.2 x0 24).toInt64) ≤ v91.1
      · have hf := pm_it hf c95
        by_cases c96 : x5 = 0
        · have hf := pm_it hf c96
          obtain ⟨y97, e98, hf⟩ := pm_lt hf
          cases hf
          exact pm_S3.trans (ih.2.2 x0 x3 0 y97 v91.2 hi) K93
        · have hf := pm_ie hf c96
          by_cases c99 : (0 : Int32) = (0 : Int32)
          · have hf := pm_it hf c99
            obtain ⟨y100, e101, hf⟩ := pm_lt hf
            cases hf
            exact pm_S3.trans (ih.2.2 x0 x3 0 y100 v91.2 hi) K93
          · have hf := pm_ie hf c99
            obtain ⟨y102, e103, hf⟩ := pm_lt hf
            cases hf
            exact pm_S3.trans (ih.2.2 x0 x3 1 y102 v91.2 hi) K93
      · have hf := pm_ie hf c95
        by_cases c104 : x5 = 0
        · have hf := pm_it hf c104
          obtain ⟨y105, e106, hf⟩ := pm_lt hf
          cases hf
          exact pm_S3.trans (ih.2.2 x0 x3 0 y105 v91.2 hi) K93
        · have hf := pm_ie hf c104
          by_cases c107 : (1 : Int32) = (0 : Int32)
          · have hf := pm_it hf c107
            obtain ⟨y108, e109, hf⟩ := pm_lt hf
            cases hf
            exact pm_S3.trans (ih.2.2 x0 x3 0 y108 v91.2 hi) K93
          · have hf := pm_ie hf c107
            obtain ⟨y110, e111, hf⟩ := pm_lt hf
            cases hf
            exact pm_S3.trans (ih.2.2 x0 x3 1 y110 v91.2 hi) K93
set_option maxHeartbeats 4000000 in
set_option maxRecDepth 100000 in
theorem kpX16_isNamed {h : pm_H} {a0 : Nat} {p1 : Int32} {p2 : Int32} {r : (Int32 × pm_H)} (hf : fX16_isNamed h a0 p1 p2 = some r) : pm_S3 r.2 h := by
  unfold fX16_isNamed at hf
  have K0 := pm_S3.rf h
  obtain ⟨y1, e2, hf⟩ := pm_lt hf
  obtain ⟨k3, hf⟩ := pm_if hf
  by_cases c4 : p2 < 2
  · have hf := pm_it hf c4
    obtain ⟨n, hn⟩ := pm_lim_iter hf
    exact pm_S3.trans ((klX16_isNamed n).1 a0 p2 (pm_setI h a0 19 y1) hn) K0
  · have hf := pm_ie hf c4
    by_cases c5 : 4 < p2
    · have hf := pm_it hf c5
      obtain ⟨n, hn⟩ := pm_lim_iter hf
      exact pm_S3.trans ((klX16_isNamed n).1 a0 p2 (pm_setI h a0 19 y1) hn) K0
    · have hf := pm_ie hf c5
      obtain ⟨v6, e7, hf⟩ := pm_bd hf
      have K8 := pm_S3.trans (kpX16_blockWord e7) K0
      obtain ⟨k9, hf⟩ := pm_if hf
      obtain ⟨v10, e11, hf⟩ := pm_bd hf
      obtain ⟨k12, hf⟩ := pm_if hf
      by_cases c13 : ((pm_I v6.2 v10 4).toInt64) ≤ v6.1
      · have hf := pm_it hf c13
        cases hf
        exact K8
      · have hf := pm_ie hf c13
        cases hf
        exact K8
set_option maxHeartbeats 4000000 in
set_option maxRecDepth 100000 in
theorem kpX16_isReal {h : pm_H} {a0 : Nat} {p1 : Int32} {p2 : Int32} {p3 : Int64} {p4 : Int64} {r : (Int32 × pm_H)} (hf : fX16_isReal h a0 p1 p2 p3 p4 = some r) : pm_S3 r.2 h := by
  unfold fX16_isReal at hf
  have K0 := pm_S3.rf h
  obtain ⟨k1, hf⟩ := pm_if hf
  obtain ⟨v2, e3, hf⟩ := pm_bd hf
  obtain ⟨k4, hf⟩ := pm_if hf
  obtain ⟨v5, e6, hf⟩ := pm_bd hf
  have K7 := pm_S3.trans (kpX15_read e6) K0
  obtain ⟨k8, hf⟩ := pm_if hf
  obtain ⟨v9, e10, hf⟩ := pm_bd hf
  obtain ⟨k11, hf⟩ := pm_if hf
  obtain ⟨v12, e13, hf⟩ := pm_bd hf
  have K14 := pm_S3.trans (kpX15_read e13) K7
  obtain ⟨k15, hf⟩ := pm_if hf
  obtain ⟨v16, e17, hf⟩ := pm_bd hf
  obtain ⟨k18, hf⟩ := pm_if hf
  by_cases c19 : (pm_I v12 v16 1) = 3
  · have hf := pm_it hf c19
    by_cases c20 : p1 = 1
    · have hf := pm_it hf c20
      cases hf
      exact K14
    · have hf := pm_ie hf c20
      cases hf
      exact K14
  · have hf := pm_ie hf c19
    obtain ⟨v21, e22, hf⟩ := pm_bd hf
    obtain ⟨k23, hf⟩ := pm_if hf
    by_cases c24 : (pm_I v12 v21 1) = 3
    · have hf := pm_it hf c24
      by_cases c25 : p1 = 1
      · have hf := pm_it hf c25
        cases hf
        exact K14
      · have hf := pm_ie hf c25
        cases hf
        exact K14
    · have hf := pm_ie hf c24
      obtain ⟨v26, e27, hf⟩ := pm_lt hf
      obtain ⟨v28, e29, hf⟩ := pm_lt hf
      by_cases c30 : p1 = 0
      · have hf := pm_it hf c30
        by_cases c31 : v26 = v28
        · have hf := pm_it hf c31
          cases hf
          exact K14
        · have hf := pm_ie hf c31
          cases hf
          exact K14
      · have hf := pm_ie hf c30
        by_cases c32 : p1 = 1
        · have hf := pm_it hf c32
          by_cases c33 : v26 = v28
          · have hf := pm_it hf c33
            cases hf
            exact K14
          · have hf := pm_ie hf c33
            cases hf
            exact K14
        · have hf := pm_ie hf c32
          by_cases c34 : p1 = 2
          · have hf := pm_it hf c34
            by_cases c35 : v28 ≤ v26
            · have hf := pm_it hf c35
              cases hf
              exact K14
            · have hf := pm_ie hf c35
              cases hf
              exact K14
          · have hf := pm_ie hf c34
            by_cases c36 : p1 = 3
            · have hf := pm_it hf c36
              by_cases c37 : v26 ≤ v28
              · have hf := pm_it hf c37
                cases hf
                exact K14
              · have hf := pm_ie hf c37
                cases hf
                exact K14
            · have hf := pm_ie hf c36
              by_cases c38 : p1 = 4
              · have hf := pm_it hf c38
                by_cases c39 : v28 < v26
                · have hf := pm_it hf c39
                  cases hf
                  exact K14
                · have hf := pm_ie hf c39
                  cases hf
                  exact K14
              · have hf := pm_ie hf c38
                by_cases c40 : v26 < v28
                · have hf := pm_it hf c40
                  cases hf
                  exact K14
                · have hf := pm_ie hf c40
                  cases hf
                  exact K14
set_option maxHeartbeats 4000000 in
set_option maxRecDepth 100000 in
theorem kpX16_moved {h : pm_H} {a0 : Nat} {p1 : Int32} {p2 : Int32} {p3 : Int64} {r : (Int64 × pm_H)} (hf : fX16_moved h a0 p1 p2 p3 = some r) : pm_S3 r.2 h := by
  unfold fX16_moved at hf
  have K0 := pm_S3.rf h
  obtain ⟨k1, hf⟩ := pm_if hf
  obtain ⟨v2, e3, hf⟩ := pm_bd hf
  obtain ⟨k4, hf⟩ := pm_if hf
  obtain ⟨v5, e6, hf⟩ := pm_bd hf
  have K7 := pm_S3.trans (kpX15_read e6) K0
  obtain ⟨k8, hf⟩ := pm_if hf
  obtain ⟨v9, e10, hf⟩ := pm_bd hf
  obtain ⟨k11, hf⟩ := pm_if hf
  by_cases c12 : (pm_I v5 v9 1) = 3
  · have hf := pm_it hf c12
    obtain ⟨v13, e14, hf⟩ := pm_lt hf
    cases hf
    exact K7
  · have hf := pm_ie hf c12
    by_cases c15 : (pm_I v5 v9 1) ≤ 0
    · have hf := pm_it hf c15
      obtain ⟨v16, e17, hf⟩ := pm_bd hf
      cases hf
      exact K7
    · have hf := pm_ie hf c15
      by_cases c18 : (pm_I v5 v9 1) = 2
      · have hf := pm_it hf c18
        obtain ⟨v19, e20, hf⟩ := pm_lt hf
        obtain ⟨v21, e22, hf⟩ := pm_lt hf
        cases hf
        exact K7
      · have hf := pm_ie hf c18
        obtain ⟨v23, e24, hf⟩ := pm_lt hf
        cases hf
        exact K7
set_option maxHeartbeats 4000000 in
set_option maxRecDepth 100000 in
theorem kpX16_poke_b18 {h : pm_H} {x0 : Nat} {x3 : Int32} {x4 : Int32} {s0 : Int32} {r : (Int32 × pm_H)} (hf : fX16_poke_b18 h x0 x3 x4 s0 = some r) : pm_S3 r.2 h := by
  unfold fX16_poke_b18 at hf
  have K0 := pm_S3.rf h
  obtain ⟨y7, e8, hf⟩ := pm_lt hf
  by_cases c9 : s0 < 0
  · have hf := pm_it hf c9
    cases hf
    exact K0
  · have hf := pm_ie hf c9
    obtain ⟨k10, hf⟩ := pm_if hf
    obtain ⟨v11, e12, hf⟩ := pm_bd hf
    obtain ⟨k13, hf⟩ := pm_if hf
    obtain ⟨u14, hf⟩ := pm_if hf
    by_cases c15 : y7 < (65536 * ((pm_I h v11 s0.toNatClampNeg).toInt64))
    · have hf := pm_it hf c15
      obtain ⟨v16, e17, hf⟩ := pm_bd hf
      have K18 := pm_S3.trans (kpX16_sets e17) K0
      cases hf
      exact K18
    · have hf := pm_ie hf c15
      cases hf
      exact K0
set_option maxHeartbeats 4000000 in
set_option maxRecDepth 100000 in
theorem kpX16_poke {h : pm_H} {a0 : Nat} {p1 : Int32} {p2 : Int32} {p3 : Int32} {p4 : Int32} {r : (Int32 × pm_H)} (hf : fX16_poke h a0 p1 p2 p3 p4 = some r) : pm_S3 r.2 h := by
  unfold fX16_poke at hf
  have K0 := pm_S3.rf h
  obtain ⟨k1, hf⟩ := pm_if hf
  obtain ⟨v2, e3, hf⟩ := pm_bd hf
  by_cases c4 : v2 = 0
  · have hf := pm_it hf c4
    obtain ⟨v5, e6, hf⟩ := pm_bd hf
    exact pm_S3.trans (kpX16_poke_b18 hf) K0
  · have hf := pm_ie hf c4
    exact pm_S3.trans (kpX16_poke_b18 hf) K0
set_option maxHeartbeats 4000000 in
set_option maxRecDepth 100000 in
theorem kpX16_product_b41 {h : pm_H} {x0 : Nat} {x1 : Int32} {s0 : Int32} {r : (Int64 × pm_H)} (hf : fX16_product_b41 h x0 x1 s0 = some r) : pm_S3 r.2 h := by
  unfold fX16_product_b41 at hf
  have K0 := pm_S3.rf h
  obtain ⟨k23, hf⟩ := pm_if hf
  obtain ⟨v24, e25, hf⟩ := pm_bd hf
  obtain ⟨k26, hf⟩ := pm_if hf
  by_cases c27 : (pm_I h v24 1) = 3
  · have hf := pm_it hf c27
    obtain ⟨v28, e29, hf⟩ := pm_lt hf
    cases hf
    exact K0
  · have hf := pm_ie hf c27
    obtain ⟨v30, e31, hf⟩ := pm_bd hf
    obtain ⟨k32, hf⟩ := pm_if hf
    by_cases c33 : (pm_I h v30 1) = 3
    · have hf := pm_it hf c33
      obtain ⟨v34, e35, hf⟩ := pm_lt hf
      cases hf
      exact K0
    · have hf := pm_ie hf c33
      by_cases c36 : ((pm_I h v24 1) + (pm_I h v30 1)) = 3
      · have hf := pm_it hf c36
        obtain ⟨v37, e38, hf⟩ := pm_lt hf
        cases hf
        exact K0
      · have hf := pm_ie hf c36
        by_cases c39 : (pm_I h v24 1) = 2
        · have hf := pm_it hf c39
          obtain ⟨v40, e41, hf⟩ := pm_lt hf
          obtain ⟨v42, e43, hf⟩ := pm_lt hf
          cases hf
          exact K0
        · have hf := pm_ie hf c39
          by_cases c44 : (pm_I h v30 1) = 2
          · have hf := pm_it hf c44
            obtain ⟨v45, e46, hf⟩ := pm_lt hf
            obtain ⟨v47, e48, hf⟩ := pm_lt hf
            cases hf
            exact K0
          · have hf := pm_ie hf c44
            by_cases c49 : (pm_I h v24 1) = 1
            · have hf := pm_it hf c49
              obtain ⟨v50, e51, hf⟩ := pm_lt hf
              cases hf
              exact K0
            · have hf := pm_ie hf c49
              by_cases c52 : (pm_I h v30 1) = 1
              · have hf := pm_it hf c52
                obtain ⟨v53, e54, hf⟩ := pm_lt hf
                cases hf
                exact K0
              · have hf := pm_ie hf c52
                obtain ⟨y55, e56, hf⟩ := pm_lt hf
                obtain ⟨y57, e58, hf⟩ := pm_lt hf
                obtain ⟨y59, e60, hf⟩ := pm_lt hf
                obtain ⟨y61, e62, hf⟩ := pm_lt hf
                obtain ⟨y63, e64, hf⟩ := pm_lt hf
                obtain ⟨y65, e66, hf⟩ := pm_lt hf
                obtain ⟨y67, e68, hf⟩ := pm_lt hf
                obtain ⟨v69, e70, hf⟩ := pm_lt hf
                by_cases c71 : v69 = 0
                · have hf := pm_it hf c71
                  obtain ⟨y72, e73, hf⟩ := pm_lt hf
                  obtain ⟨y74, e75, hf⟩ := pm_lt hf
                  obtain ⟨v76, e77, hf⟩ := pm_lt hf
                  by_cases c78 : v76 = 0
                  · have hf := pm_it hf c78
                    obtain ⟨v79, e80, hf⟩ := pm_bd hf
                    cases hf
                    exact K0
                  · have hf := pm_ie hf c78
                    obtain ⟨y81, e82, hf⟩ := pm_lt hf
                    obtain ⟨v83, e84, hf⟩ := pm_bd hf
                    cases hf
                    exact K0
                · have hf := pm_ie hf c71
                  obtain ⟨y85, e86, hf⟩ := pm_lt hf
                  obtain ⟨y87, e88, hf⟩ := pm_lt hf
                  obtain ⟨y89, e90, hf⟩ := pm_lt hf
                  obtain ⟨v91, e92, hf⟩ := pm_lt hf
                  by_cases c93 : v91 = 0
                  · have hf := pm_it hf c93
                    obtain ⟨v94, e95, hf⟩ := pm_bd hf
                    cases hf
                    exact K0
                  · have hf := pm_ie hf c93
                    obtain ⟨y96, e97, hf⟩ := pm_lt hf
                    obtain ⟨v98, e99, hf⟩ := pm_bd hf
                    cases hf
                    exact K0
set_option maxHeartbeats 4000000 in
set_option maxRecDepth 100000 in
theorem kpX16_product {h : pm_H} {a0 : Nat} {p1 : Int32} {p2 : Int64} {p3 : Int64} {r : (Int64 × pm_H)} (hf : fX16_product h a0 p1 p2 p3 = some r) : pm_S3 r.2 h := by
  unfold fX16_product at hf
  have K0 := pm_S3.rf h
  obtain ⟨k1, hf⟩ := pm_if hf
  obtain ⟨v2, e3, hf⟩ := pm_bd hf
  obtain ⟨k4, hf⟩ := pm_if hf
  obtain ⟨v5, e6, hf⟩ := pm_bd hf
  have K7 := pm_S3.trans (kpX15_read e6) K0
  obtain ⟨k8, hf⟩ := pm_if hf
  obtain ⟨v9, e10, hf⟩ := pm_bd hf
  obtain ⟨k11, hf⟩ := pm_if hf
  obtain ⟨v12, e13, hf⟩ := pm_bd hf
  have K14 := pm_S3.trans (kpX15_read e13) K7
  obtain ⟨k15, hf⟩ := pm_if hf
  obtain ⟨v16, e17, hf⟩ := pm_bd hf
  obtain ⟨k18, hf⟩ := pm_if hf
  obtain ⟨v19, e20, hf⟩ := pm_bd hf
  obtain ⟨k21, hf⟩ := pm_if hf
  by_cases c22 : (pm_I v12 v16 0) = (pm_I v12 v19 0)
  · have hf := pm_it hf c22
    exact pm_S3.trans (kpX16_product_b41 hf) K14
  · have hf := pm_ie hf c22
    exact pm_S3.trans (kpX16_product_b41 hf) K14
set_option maxHeartbeats 4000000 in
set_option maxRecDepth 100000 in
theorem klX16_quotient {r : (Int64 × pm_H)} : ∀ n : Nat, (∀ (x0 : Nat) (x1 : Int32) (s0 : Int32) (h : pm_H), pm_iter sX16_quotient n (.inl (x0, x1, s0, h)) = some r → pm_S3 r.2 h) ∧ (∀ (x1 : Int32) (x6 : Int32) (x7 : Int64) (x9 : Int64) (x11 : Int32) (h : pm_H), pm_iter sX16_quotient n (.inr (.inl (x1, x6, x7, x9, x11, h))) = some r → pm_S3 r.2 h) ∧ (∀ (x1 : Int32) (x6 : Int32) (x7 : Int64) (x9 : Int64) (x11 : Int32) (h : pm_H), pm_iter sX16_quotient n (.inr (.inr (.inl (x1, x6, x7, x9, x11, h)))) = some r → pm_S3 r.2 h) ∧ (∀ (x1 : Int32) (x6 : Int32) (x7 : Int64) (x9 : Int64) (x11 : Int32) (x12 : Int64) (x14 : Int32) (h : pm_H), pm_iter sX16_quotient n (.inr (.inr (.inr (x1, x6, x7, x9, x11, x12, x14, h)))) = some r → pm_S3 r.2 h) := by
  intro n
  induction n with
  | zero => exact ⟨fun _ _ _ _ hf => (by cases hf), fun _ _ _ _ _ _ hf => (by cases hf), fun _ _ _ _ _ _ hf => (by cases hf), fun _ _ _ _ _ _ _ _ hf => (by cases hf)⟩
  | succ n ih =>
    refine ⟨fun x0 x1 s0 h hf => ?_, ?_⟩
    · obtain ⟨y, hf, hi⟩ := pm_iter_s hf
      have hf : tX16_quotient_41 x0 x1 s0 h = some y := hf
      unfold tX16_quotient_41 at hf
      have K0 := pm_S3.rf h
      obtain ⟨k23, hf⟩ := pm_if hf
      obtain ⟨v24, e25, hf⟩ := pm_bd hf
      obtain ⟨k26, hf⟩ := pm_if hf
      by_cases c27 : (pm_I h v24 1) = 3
      · have hf := pm_it hf c27
        obtain ⟨v28, e29, hf⟩ := pm_lt hf
        cases hf
        cases hi
        exact K0
      · have hf := pm_ie hf c27
        obtain ⟨v30, e31, hf⟩ := pm_bd hf
        obtain ⟨k32, hf⟩ := pm_if hf
        by_cases c33 : (pm_I h v30 1) = 3
        · have hf := pm_it hf c33
          obtain ⟨v34, e35, hf⟩ := pm_lt hf
          cases hf
          cases hi
          exact K0
        · have hf := pm_ie hf c33
          by_cases c36 : (pm_I h v24 1) = (pm_I h v30 1)
          · have hf := pm_it hf c36
            by_cases c37 : (pm_I h v24 1) ≤ 0
            · have hf := pm_it hf c37
              by_cases c38 : (pm_I h v24 1) = 2
              · have hf := pm_it hf c38
                obtain ⟨v39, e40, hf⟩ := pm_lt hf
                obtain ⟨v41, e42, hf⟩ := pm_lt hf
                cases hf
                cases hi
                exact K0
              · have hf := pm_ie hf c38
                by_cases c43 : (pm_I h v30 1) = 1
                · have hf := pm_it hf c43
                  obtain ⟨v44, e45, hf⟩ := pm_lt hf
                  obtain ⟨v46, e47, hf⟩ := pm_lt hf
                  cases hf
                  cases hi
                  exact K0
                · have hf := pm_ie hf c43
                  by_cases c48 : (pm_I h v24 1) = 1
                  · have hf := pm_it hf c48
                    obtain ⟨v49, e50, hf⟩ := pm_lt hf
                    cases hf
                    cases hi
                    exact K0
                  · have hf := pm_ie hf c48
                    by_cases c51 : (pm_I h v30 1) = 2
                    · have hf := pm_it hf c51
                      obtain ⟨v52, e53, hf⟩ := pm_lt hf
                      cases hf
                      cases hi
                      exact K0
                    · have hf := pm_ie hf c51
                      obtain ⟨y54, e55, hf⟩ := pm_lt hf
                      obtain ⟨y56, e57, hf⟩ := pm_lt hf
                      obtain ⟨y58, e59, hf⟩ := pm_lt hf
                      cases hf
                      exact pm_S3.trans (ih.2.1 x1 s0 y54 y56 y58 h hi) K0
            · have hf := pm_ie hf c37
              obtain ⟨v60, e61, hf⟩ := pm_lt hf
              cases hf
              cases hi
              exact K0
          · have hf := pm_ie hf c36
            by_cases c62 : (pm_I h v24 1) = 2
            · have hf := pm_it hf c62
              obtain ⟨v63, e64, hf⟩ := pm_lt hf
              obtain ⟨v65, e66, hf⟩ := pm_lt hf
              cases hf
              cases hi
              exact K0
            · have hf := pm_ie hf c62
              by_cases c67 : (pm_I h v30 1) = 1
              · have hf := pm_it hf c67
                obtain ⟨v68, e69, hf⟩ := pm_lt hf
                obtain ⟨v70, e71, hf⟩ := pm_lt hf
                cases hf
                cases hi
                exact K0
              · have hf := pm_ie hf c67
                by_cases c72 : (pm_I h v24 1) = 1
                · have hf := pm_it hf c72
                  obtain ⟨v73, e74, hf⟩ := pm_lt hf
                  cases hf
                  cases hi
                  exact K0
                · have hf := pm_ie hf c72
                  by_cases c75 : (pm_I h v30 1) = 2
                  · have hf := pm_it hf c75
                    obtain ⟨v76, e77, hf⟩ := pm_lt hf
                    cases hf
                    cases hi
                    exact K0
                  · have hf := pm_ie hf c75
                    obtain ⟨y78, e79, hf⟩ := pm_lt hf
                    obtain ⟨y80, e81, hf⟩ := pm_lt hf
                    obtain ⟨y82, e83, hf⟩ := pm_lt hf
                    cases hf
                    exact pm_S3.trans (ih.2.1 x1 s0 y78 y80 y82 h hi) K0
    refine ⟨fun x1 x6 x7 x9 x11 h hf => ?_, ?_⟩
    · obtain ⟨y, hf, hi⟩ := pm_iter_s hf
      have hf : tX16_quotient_195 x1 x6 x7 x9 x11 h = some y := hf
      unfold tX16_quotient_195 at hf
      have K0 := pm_S3.rf h
      by_cases c84 : 4503599627370496 ≤ x7
      · have hf := pm_it hf c84
        cases hf
        exact pm_S3.trans (ih.2.2.1 x1 x6 x7 x9 x11 h hi) K0
      · have hf := pm_ie hf c84
        obtain ⟨y85, e86, hf⟩ := pm_lt hf
        obtain ⟨y87, e88, hf⟩ := pm_lt hf
        cases hf
        exact pm_S3.trans (ih.2.1 x1 x6 y87 x9 y85 h hi) K0
    refine ⟨fun x1 x6 x7 x9 x11 h hf => ?_, ?_⟩
    · obtain ⟨y, hf, hi⟩ := pm_iter_s hf
      have hf : tX16_quotient_216 x1 x6 x7 x9 x11 h = some y := hf
      unfold tX16_quotient_216 at hf
      have K0 := pm_S3.rf h
      by_cases c89 : 4503599627370496 ≤ x9
      · have hf := pm_it hf c89
        cases hf
        exact pm_S3.trans (ih.2.2.2 x1 x6 x7 x9 x11 0 0 h hi) K0
      · have hf := pm_ie hf c89
        obtain ⟨y90, e91, hf⟩ := pm_lt hf
        obtain ⟨y92, e93, hf⟩ := pm_lt hf
        cases hf
        exact pm_S3.trans (ih.2.2.1 x1 x6 x7 y92 y90 h hi) K0
    refine fun x1 x6 x7 x9 x11 x12 x14 h hf => ?_
    obtain ⟨y, hf, hi⟩ := pm_iter_s hf
    have hf : tX16_quotient_243 x1 x6 x7 x9 x11 x12 x14 h = some y := hf
    unfold tX16_quotient_243 at hf
    have K0 := pm_S3.rf h
    by_cases c94 : 57 ≤ x14
    · have hf := pm_it hf c94
      by_cases c95 : x7 = 0
      · have hf := pm_it hf c95
        obtain ⟨v96, e97, hf⟩ := pm_bd hf
        cases hf
        cases hi
        exact K0
      · have hf := pm_ie hf c95
        obtain ⟨v98, e99, hf⟩ := pm_bd hf
        cases hf
        cases hi
        exact K0
    · have hf := pm_ie hf c94
      obtain ⟨y100, e101, hf⟩ := pm_lt hf
      by_cases c102 : x7 < x9
      · have hf := pm_it hf c102
        obtain ⟨y103, e104, hf⟩ := pm_lt hf
        obtain ⟨y105, e106, hf⟩ := pm_lt hf
        cases hf
        exact pm_S3.trans (ih.2.2.2 x1 x6 y103 x9 x11 y100 y105 h hi) K0
      · have hf := pm_ie hf c102
        obtain ⟨y107, e108, hf⟩ := pm_lt hf
        obtain ⟨y109, e110, hf⟩ := pm_lt hf
        obtain ⟨y111, e112, hf⟩ := pm_lt hf
        obtain ⟨y113, e114, hf⟩ := pm_lt hf
        cases hf
        exact pm_S3.trans (ih.2.2.2 x1 x6 y111 x9 x11 y109 y113 h hi) K0
set_option maxHeartbeats 4000000 in
set_option maxRecDepth 100000 in
theorem kpX16_quotient {h : pm_H} {a0 : Nat} {p1 : Int32} {p2 : Int64} {p3 : Int64} {r : (Int64 × pm_H)} (hf : fX16_quotient h a0 p1 p2 p3 = some r) : pm_S3 r.2 h := by
  unfold fX16_quotient at hf
  have K0 := pm_S3.rf h
  obtain ⟨k1, hf⟩ := pm_if hf
  obtain ⟨v2, e3, hf⟩ := pm_bd hf
  obtain ⟨k4, hf⟩ := pm_if hf
  obtain ⟨v5, e6, hf⟩ := pm_bd hf
  have K7 := pm_S3.trans (kpX15_read e6) K0
  obtain ⟨k8, hf⟩ := pm_if hf
  obtain ⟨v9, e10, hf⟩ := pm_bd hf
  obtain ⟨k11, hf⟩ := pm_if hf
  obtain ⟨v12, e13, hf⟩ := pm_bd hf
  have K14 := pm_S3.trans (kpX15_read e13) K7
  obtain ⟨k15, hf⟩ := pm_if hf
  obtain ⟨v16, e17, hf⟩ := pm_bd hf
  obtain ⟨k18, hf⟩ := pm_if hf
  obtain ⟨v19, e20, hf⟩ := pm_bd hf
  obtain ⟨k21, hf⟩ := pm_if hf
  by_cases c22 : (pm_I v12 v16 0) = (pm_I v12 v19 0)
  · have hf := pm_it hf c22
    obtain ⟨n, hn⟩ := pm_lim_iter hf
    exact pm_S3.trans ((klX16_quotient n).1 a0 p1 0 v12 hn) K14
  · have hf := pm_ie hf c22
    obtain ⟨n, hn⟩ := pm_lim_iter hf
    exact pm_S3.trans ((klX16_quotient n).1 a0 p1 1 v12 hn) K14
