abbrev WX16_enters : List Nat := [2058, 2067, 2093, 2124, 2127, 2128, 2131, 2133, 2141, 2142, 2143, 2144, 4096, 4352, 4480]
set_option maxHeartbeats 4000000 in
set_option maxRecDepth 100000 in
theorem wlX16_enters {h0 : pm_H} {r : pm_H} : ∀ n : Nat, (∀ (x0 : Nat) (x1 : Int32) (x2 : Nat) (x3 : Int32) (x4 : Int32) (x5 : Int32) (s0 : Int32) (h : pm_H), pw_F WX16_enters h0 h → pm_iter sX16_enters n (.inl (x0, x1, x2, x3, x4, x5, s0, h)) = some r → pw_F WX16_enters h0 r) ∧ (∀ (x0 : Nat) (x1 : Int32) (x2 : Nat) (x3 : Int32) (x4 : Int32) (x6 : Int32) (x7 : Int32) (h : pm_H), pw_F WX16_enters h0 h → pm_iter sX16_enters n (.inr (.inl (x0, x1, x2, x3, x4, x6, x7, h))) = some r → pw_F WX16_enters h0 r) ∧ (∀ (x0 : Nat) (x1 : Int32) (x2 : Nat) (x3 : Int32) (x7 : Int64) (h : pm_H), pw_F WX16_enters h0 h → pm_iter sX16_enters n (.inr (.inr (.inl (x0, x1, x2, x3, x7, h)))) = some r → pw_F WX16_enters h0 r) ∧ (∀ (x0 : Nat) (x1 : Int32) (x2 : Nat) (x3 : Int32) (x7 : Int64) (x9 : Int64) (x11 : Int64) (h : pm_H), pw_F WX16_enters h0 h → pm_iter sX16_enters n (.inr (.inr (.inr (x0, x1, x2, x3, x7, x9, x11, h)))) = some r → pw_F WX16_enters h0 r) := by
  intro n
  induction n with
  | zero => exact ⟨fun _ _ _ _ _ _ _ _ _ hf => (by cases hf), fun _ _ _ _ _ _ _ _ _ hf => (by cases hf), fun _ _ _ _ _ _ _ hf => (by cases hf), fun _ _ _ _ _ _ _ _ _ hf => (by cases hf)⟩
  | succ n ih =>
    refine ⟨fun x0 x1 x2 x3 x4 x5 s0 h K0 hf => ?_, ?_⟩
    · obtain ⟨y, hf, hi⟩ := pm_iter_s hf
      have hf : tX16_enters_111 x0 x1 x2 x3 x4 x5 s0 h = some y := hf
      unfold tX16_enters_111 at hf
      obtain ⟨k52, hf⟩ := pm_if hf
      by_cases c53 : (pm_I h x0 85) = 200
      · have hf := pm_it hf c53
        cases hf
        cases hi
        exact (pw_sI K0 rfl k52 (by decide))
      · have hf := pm_ie hf c53
        obtain ⟨k54, hf⟩ := pm_if hf
        obtain ⟨v55, e56, hf⟩ := pm_bd hf
        obtain ⟨k57, hf⟩ := pm_if hf
        obtain ⟨u58, hf⟩ := pm_if hf
        by_cases c59 : ((s0 + x5) + (pm_I h v55 x3.toNatClampNeg)) ≤ 4096
        · have hf := pm_it hf c59
          obtain ⟨v60, e61, hf⟩ := pm_bd hf
          have K62 := pw_t (by decide) K0 (wfX16_counts (pw_rf _) e61)
          obtain ⟨k63, hf⟩ := pm_if hf
          by_cases c64 : (pm_I v60 x0 85) ≤ 0
          · have hf := pm_it hf c64
            obtain ⟨v65, e66, hf⟩ := pm_bd hf
            obtain ⟨k67, hf⟩ := pm_if hf
            obtain ⟨u68, hf⟩ := pm_if hf
            obtain ⟨v69, e70, hf⟩ := pm_bd hf
            obtain ⟨y71, e72, hf⟩ := pm_lt hf
            obtain ⟨k73, hf⟩ := pm_if hf
            have k73b := (congrFun (pkI rfl) v69).symm.trans k73
            obtain ⟨u74, hf⟩ := pm_if hf
            obtain ⟨v75, e76, hf⟩ := pm_bd hf
            obtain ⟨k77, hf⟩ := pm_if hf
            have k77b := (congrFun (pkI (pkI rfl)) v75).symm.trans k77
            obtain ⟨u78, hf⟩ := pm_if hf
            obtain ⟨v79, e80, hf⟩ := pm_bd hf
            obtain ⟨k81, hf⟩ := pm_if hf
            have k81b := (congrFun (pkI (pkI (pkI rfl))) x2).symm.trans k81
            obtain ⟨v82, e83, hf⟩ := pm_bd hf
            obtain ⟨k84, hf⟩ := pm_if hf
            have k84b := (congrFun (pkI (pkI (pkI rfl))) v82).symm.trans k84
            obtain ⟨u85, hf⟩ := pm_if hf
            obtain ⟨y86, e87, hf⟩ := pm_lt hf
            obtain ⟨k88, hf⟩ := pm_if hf
            have k88b := (congrFun (pkI (pkI (pkI rfl))) v79).symm.trans k88
            obtain ⟨u89, hf⟩ := pm_if hf
            obtain ⟨v90, e91, hf⟩ := pm_bd hf
            obtain ⟨y92, e93, hf⟩ := pm_lt hf
            obtain ⟨k94, hf⟩ := pm_if hf
            have k94b := (congrFun (pkI (pkI (pkI (pkI rfl)))) v90).symm.trans k94
            obtain ⟨u95, hf⟩ := pm_if hf
            obtain ⟨y96, e97, hf⟩ := pm_lt hf
            obtain ⟨v98, e99, hf⟩ := pm_bd hf
            obtain ⟨k100, hf⟩ := pm_if hf
            have k100b := (congrFun (pkR (pkI (pkI (pkI (pkI (pkI (pkI rfl))))))) v98).symm.trans k100
            obtain ⟨u101, hf⟩ := pm_if hf
            obtain ⟨y102, e103, hf⟩ := pm_lt hf
            cases hf
            exact ih.2.1 x0 x1 x2 x3 x4 s0 0 (pm_setI (pm_setR (pm_setI (pm_setI (pm_setI (pm_setI (pm_setI (pm_setI v60 v65 ((pm_I v60 x0 85).toNatClampNeg) x1) v69 ((pm_I (pm_setI v60 v65 ((pm_I v60 x0 85).toNatClampNeg) x1) x0 85).toNatClampNeg) y71) v75 ((pm_I (pm_setI (pm_setI v60 v65 ((pm_I v60 x0 85).toNatClampNeg) x1) v69 ((pm_I (pm_setI v60 v65 ((pm_I v60 x0 85).toNatClampNeg) x1) x0 85).toNatClampNeg) y71) x0 85).toNatClampNeg) s0) v79 ((pm_I (pm_setI (pm_setI (pm_setI v60 v65 ((pm_I v60 x0 85).toNatClampNeg) x1) v69 ((pm_I (pm_setI v60 v65 ((pm_I v60 x0 85).toNatClampNeg) x1) x0 85).toNatClampNeg) y71) v75 ((pm_I (pm_setI (pm_setI v60 v65 ((pm_I v60 x0 85).toNatClampNeg) x1) v69 ((pm_I (pm_setI v60 v65 ((pm_I v60 x0 85).toNatClampNeg) x1) x0 85).toNatClampNeg) y71) x0 85).toNatClampNeg) s0) x0 85).toNatClampNeg) y86) v90 ((pm_I (pm_setI (pm_setI (pm_setI (pm_setI v60 v65 ((pm_I v60 x0 85).toNatClampNeg) x1) v69 ((pm_I (pm_setI v60 v65 ((pm_I v60 x0 85).toNatClampNeg) x1) x0 85).toNatClampNeg) y71) v75 ((pm_I (pm_setI (pm_setI v60 v65 ((pm_I v60 x0 85).toNatClampNeg) x1) v69 ((pm_I (pm_setI v60 v65 ((pm_I v60 x0 85).toNatClampNeg) x1) x0 85).toNatClampNeg) y71) x0 85).toNatClampNeg) s0) v79 ((pm_I (pm_setI (pm_setI (pm_setI v60 v65 ((pm_I v60 x0 85).toNatClampNeg) x1) v69 ((pm_I (pm_setI v60 v65 ((pm_I v60 x0 85).toNatClampNeg) x1) x0 85).toNatClampNeg) y71) v75 ((pm_I (pm_setI (pm_setI v60 v65 ((pm_I v60 x0 85).toNatClampNeg) x1) v69 ((pm_I (pm_setI v60 v65 ((pm_I v60 x0 85).toNatClampNeg) x1) x0 85).toNatClampNeg) y71) x0 85).toNatClampNeg) s0) x0 85).toNatClampNeg) y86) x0 85).toNatClampNeg) y92) x0 85 y96) x0 10 (some x2)) x0 95 y102) (pw_sI (pw_sR (pw_sI (pw_aI (pw_aI (pw_aI (pw_aI (pw_aI K62 rfl k67 (by decide) (by decide)) (pkI rfl) k73b (by decide) (by decide)) (pkI (pkI rfl)) k77b (by decide) (by decide)) (pkI (pkI (pkI rfl))) k88b (by decide) (by decide)) (pkI (pkI (pkI (pkI rfl)))) k94b (by decide) (by decide)) (pkI (pkI (pkI (pkI (pkI rfl))))) k63 (by decide)) (pkI (pkI (pkI (pkI (pkI (pkI rfl)))))) k63 (by decide)) (pkR (pkI (pkI (pkI (pkI (pkI (pkI rfl))))))) k63 (by decide))  hi
          · have hf := pm_ie hf c64
            obtain ⟨v104, e105, hf⟩ := pm_bd hf
            obtain ⟨y106, e107, hf⟩ := pm_lt hf
            obtain ⟨k108, hf⟩ := pm_if hf
            obtain ⟨u109, hf⟩ := pm_if hf
            obtain ⟨v110, e111, hf⟩ := pm_bd hf
            obtain ⟨k112, hf⟩ := pm_if hf
            have k112b := (congrFun (pkI rfl) v110).symm.trans k112
            obtain ⟨u113, hf⟩ := pm_if hf
            obtain ⟨v114, e115, hf⟩ := pm_bd hf
            obtain ⟨y116, e117, hf⟩ := pm_lt hf
            obtain ⟨k118, hf⟩ := pm_if hf
            have k118b := (congrFun (pkI (pkI rfl)) v114).symm.trans k118
            obtain ⟨u119, hf⟩ := pm_if hf
            obtain ⟨v120, e121, hf⟩ := pm_bd hf
            obtain ⟨k122, hf⟩ := pm_if hf
            have k122b := (congrFun (pkI (pkI (pkI rfl))) v120).symm.trans k122
            obtain ⟨u123, hf⟩ := pm_if hf
            obtain ⟨v124, e125, hf⟩ := pm_bd hf
            obtain ⟨k126, hf⟩ := pm_if hf
            have k126b := (congrFun (pkI (pkI (pkI (pkI rfl)))) x2).symm.trans k126
            obtain ⟨v127, e128, hf⟩ := pm_bd hf
            obtain ⟨k129, hf⟩ := pm_if hf
            have k129b := (congrFun (pkI (pkI (pkI (pkI rfl)))) v127).symm.trans k129
            obtain ⟨u130, hf⟩ := pm_if hf
            obtain ⟨y131, e132, hf⟩ := pm_lt hf
            obtain ⟨k133, hf⟩ := pm_if hf
            have k133b := (congrFun (pkI (pkI (pkI (pkI rfl)))) v124).symm.trans k133
            obtain ⟨u134, hf⟩ := pm_if hf
            obtain ⟨v135, e136, hf⟩ := pm_bd hf
            obtain ⟨y137, e138, hf⟩ := pm_lt hf
            obtain ⟨k139, hf⟩ := pm_if hf
            have k139b := (congrFun (pkI (pkI (pkI (pkI (pkI rfl))))) v135).symm.trans k139
            obtain ⟨u140, hf⟩ := pm_if hf
            obtain ⟨y141, e142, hf⟩ := pm_lt hf
            obtain ⟨v143, e144, hf⟩ := pm_bd hf
            obtain ⟨k145, hf⟩ := pm_if hf
            have k145b := (congrFun (pkR (pkI (pkI (pkI (pkI (pkI (pkI (pkI rfl)))))))) v143).symm.trans k145
            obtain ⟨u146, hf⟩ := pm_if hf
            obtain ⟨y147, e148, hf⟩ := pm_lt hf
            cases hf
            exact ih.2.1 x0 x1 x2 x3 x4 s0 0 (pm_setI (pm_setR (pm_setI (pm_setI (pm_setI (pm_setI (pm_setI (pm_setI (pm_setI v60 v104 (((pm_I v60 x0 85) - 1).toNatClampNeg) y106) v110 ((pm_I (pm_setI v60 v104 (((pm_I v60 x0 85) - 1).toNatClampNeg) y106) x0 85).toNatClampNeg) x1) v114 ((pm_I (pm_setI (pm_setI v60 v104 (((pm_I v60 x0 85) - 1).toNatClampNeg) y106) v110 ((pm_I (pm_setI v60 v104 (((pm_I v60 x0 85) - 1).toNatClampNeg) y106) x0 85).toNatClampNeg) x1) x0 85).toNatClampNeg) y116) v120 ((pm_I (pm_setI (pm_setI (pm_setI v60 v104 (((pm_I v60 x0 85) - 1).toNatClampNeg) y106) v110 ((pm_I (pm_setI v60 v104 (((pm_I v60 x0 85) - 1).toNatClampNeg) y106) x0 85).toNatClampNeg) x1) v114 ((pm_I (pm_setI (pm_setI v60 v104 (((pm_I v60 x0 85) - 1).toNatClampNeg) y106) v110 ((pm_I (pm_setI v60 v104 (((pm_I v60 x0 85) - 1).toNatClampNeg) y106) x0 85).toNatClampNeg) x1) x0 85).toNatClampNeg) y116) x0 85).toNatClampNeg) s0) v124 ((pm_I (pm_setI (pm_setI (pm_setI (pm_setI v60 v104 (((pm_I v60 x0 85) - 1).toNatClampNeg) y106) v110 ((pm_I (pm_setI v60 v104 (((pm_I v60 x0 85) - 1).toNatClampNeg) y106) x0 85).toNatClampNeg) x1) v114 ((pm_I (pm_setI (pm_setI v60 v104 (((pm_I v60 x0 85) - 1).toNatClampNeg) y106) v110 ((pm_I (pm_setI v60 v104 (((pm_I v60 x0 85) - 1).toNatClampNeg) y106) x0 85).toNatClampNeg) x1) x0 85).toNatClampNeg) y116) v120 ((pm_I (pm_setI (pm_setI (pm_setI v60 v104 (((pm_I v60 x0 85) - 1).toNatClampNeg) y106) v110 ((pm_I (pm_setI v60 v104 (((pm_I v60 x0 85) - 1).toNatClampNeg) y106) x0 85).toNatClampNeg) x1) v114 ((pm_I (pm_setI (pm_setI v60 v104 (((pm_I v60 x0 85) - 1).toNatClampNeg) y106) v110 ((pm_I (pm_setI v60 v104 (((pm_I v60 x0 85) - 1).toNatClampNeg) y106) x0 85).toNatClampNeg) x1) x0 85).toNatClampNeg) y116) x0 85).toNatClampNeg) s0) x0 85).toNatClampNeg) y131) v135 ((pm_I (pm_setI (pm_setI (pm_setI (pm_setI (pm_setI v60 v104 (((pm_I v60 x0 85) - 1).toNatClampNeg) y106) v110 ((pm_I (pm_setI v60 v104 (((pm_I v60 x0 85) - 1).toNatClampNeg) y106) x0 85).toNatClampNeg) x1) v114 ((pm_I (pm_setI (pm_setI v60 v104 (((pm_I v60 x0 85) - 1).toNatClampNeg) y106) v110 ((pm_I (pm_setI v60 v104 (((pm_I v60 x0 85) - 1).toNatClampNeg) y106) x0 85).toNatClampNeg) x1) x0 85).toNatClampNeg) y116) v120 ((pm_I (pm_setI (pm_setI (pm_setI v60 v104 (((pm_I v60 x0 85) - 1).toNatClampNeg) y106) v110 ((pm_I (pm_setI v60 v104 (((pm_I v60 x0 85) - 1).toNatClampNeg) y106) x0 85).toNatClampNeg) x1) v114 ((pm_I (pm_setI (pm_setI v60 v104 (((pm_I v60 x0 85) - 1).toNatClampNeg) y106) v110 ((pm_I (pm_setI v60 v104 (((pm_I v60 x0 85) - 1).toNatClampNeg) y106) x0 85).toNatClampNeg) x1) x0 85).toNatClampNeg) y116) x0 85).toNatClampNeg) s0) v124 ((pm_I (pm_setI (pm_setI (pm_setI (pm_setI v60 v104 (((pm_I v60 x0 85) - 1).toNatClampNeg) y106) v110 ((pm_I (pm_setI v60 v104 (((pm_I v60 x0 85) - 1).toNatClampNeg) y106) x0 85).toNatClampNeg) x1) v114 ((pm_I (pm_setI (pm_setI v60 v104 (((pm_I v60 x0 85) - 1).toNatClampNeg) y106) v110 ((pm_I (pm_setI v60 v104 (((pm_I v60 x0 85) - 1).toNatClampNeg) y106) x0 85).toNatClampNeg) x1) x0 85).toNatClampNeg) y116) v120 ((pm_I (pm_setI (pm_setI (pm_setI v60 v104 (((pm_I v60 x0 85) - 1).toNatClampNeg) y106) v110 ((pm_I (pm_setI v60 v104 (((pm_I v60 x0 85) - 1).toNatClampNeg) y106) x0 85).toNatClampNeg) x1) v114 ((pm_I (pm_setI (pm_setI v60 v104 (((pm_I v60 x0 85) - 1).toNatClampNeg) y106) v110 ((pm_I (pm_setI v60 v104 (((pm_I v60 x0 85) - 1).toNatClampNeg) y106) x0 85).toNatClampNeg) x1) x0 85).toNatClampNeg) y116) x0 85).toNatClampNeg) s0) x0 85).toNatClampNeg) y131) x0 85).toNatClampNeg) y137) x0 85 y141) x0 10 (some x2)) x0 95 y147) (pw_sI (pw_sR (pw_sI (pw_aI (pw_aI (pw_aI (pw_aI (pw_aI (pw_aI K62 rfl k108 (by decide) (by decide)) (pkI rfl) k112b (by decide) (by decide)) (pkI (pkI rfl)) k118b (by decide) (by decide)) (pkI (pkI (pkI rfl))) k122b (by decide) (by decide)) (pkI (pkI (pkI (pkI rfl)))) k133b (by decide) (by decide)) (pkI (pkI (pkI (pkI (pkI rfl))))) k139b (by decide) (by decide)) (pkI (pkI (pkI (pkI (pkI (pkI rfl)))))) k63 (by decide)) (pkI (pkI (pkI (pkI (pkI (pkI (pkI rfl))))))) k63 (by decide)) (pkR (pkI (pkI (pkI (pkI (pkI (pkI (pkI rfl)))))))) k63 (by decide))  hi
        · have hf := pm_ie hf c59
          cases hf
          cases hi
          exact (pw_sI K0 rfl k52 (by decide))
    refine ⟨fun x0 x1 x2 x3 x4 x6 x7 h K0 hf => ?_, ?_⟩
    · obtain ⟨y, hf, hi⟩ := pm_iter_s hf
      have hf : tX16_enters_267 x0 x1 x2 x3 x4 x6 x7 h = some y := hf
      unfold tX16_enters_267 at hf
      by_cases c149 : x4 ≤ x7
      · have hf := pm_it hf c149
        obtain ⟨y150, e151, hf⟩ := pm_lt hf
        obtain ⟨k152, hf⟩ := pm_if hf
        obtain ⟨k153, hf⟩ := pm_if hf
        have k153b := (congrFun (pkI rfl) x2).symm.trans k153
        obtain ⟨v154, e155, hf⟩ := pm_bd hf
        obtain ⟨k156, hf⟩ := pm_if hf
        have k156b := (congrFun (pkI rfl) v154).symm.trans k156
        obtain ⟨u157, hf⟩ := pm_if hf
        obtain ⟨y158, e159, hf⟩ := pm_lt hf
        obtain ⟨v160, e161, hf⟩ := pm_bd hf
        have K162 := pw_t (by decide) (pw_sI (pw_sI K0 rfl k152 (by decide)) (pkI rfl) k152 (by decide)) (wfX16_word (pw_rf _) e161)
        cases hf
        exact ih.2.2.1 x0 x1 x2 x3 v160.1 v160.2 K162  hi
      · have hf := pm_ie hf c149
        obtain ⟨k163, hf⟩ := pm_if hf
        obtain ⟨v164, e165, hf⟩ := pm_bd hf
        obtain ⟨v166, e167, hf⟩ := pm_bd hf
        obtain ⟨k168, hf⟩ := pm_if hf
        obtain ⟨u169, hf⟩ := pm_if hf
        obtain ⟨y170, e171, hf⟩ := pm_lt hf
        obtain ⟨k172, hf⟩ := pm_if hf
        obtain ⟨u173, hf⟩ := pm_if hf
        obtain ⟨y174, e175, hf⟩ := pm_lt hf
        cases hf
        exact ih.2.1 x0 x1 x2 x3 x4 x6 y174 (pm_setL h v164 ((x6 + x7).toNatClampNeg) y170) (pw_aL K0 rfl k172 (by decide) (by decide))  hi
    refine ⟨fun x0 x1 x2 x3 x7 h K0 hf => ?_, ?_⟩
    · obtain ⟨y, hf, hi⟩ := pm_iter_s hf
      have hf : tX16_enters_322 x0 x1 x2 x3 x7 h = some y := hf
      unfold tX16_enters_322 at hf
      by_cases c176 : x7 ≤ 0
      · have hf := pm_it hf c176
        obtain ⟨k177, hf⟩ := pm_if hf
        obtain ⟨v178, e179, hf⟩ := pm_bd hf
        obtain ⟨k180, hf⟩ := pm_if hf
        obtain ⟨u181, hf⟩ := pm_if hf
        obtain ⟨y182, e183, hf⟩ := pm_lt hf
        obtain ⟨k184, hf⟩ := pm_if hf
        obtain ⟨v185, e186, hf⟩ := pm_bd hf
        obtain ⟨k187, hf⟩ := pm_if hf
        have k187b := (congrFun (pkI rfl) v185).symm.trans k187
        obtain ⟨u188, hf⟩ := pm_if hf
        obtain ⟨v189, e190, hf⟩ := pm_bd hf
        obtain ⟨v191, e192, hf⟩ := pm_bd hf
        obtain ⟨k193, hf⟩ := pm_if hf
        have k193b := (congrFun (pkI rfl) v191).symm.trans k193
        obtain ⟨u194, hf⟩ := pm_if hf
        obtain ⟨y195, e196, hf⟩ := pm_lt hf
        obtain ⟨k197, hf⟩ := pm_if hf
        have k197b := (congrFun (pkI rfl) v189).symm.trans k197
        obtain ⟨u198, hf⟩ := pm_if hf
        obtain ⟨v199, e200, hf⟩ := pm_bd hf
        have K201 := pw_t (by decide) (pw_sI K0 rfl k184 (by decide)) (wfX16_opens (pw_rf _) e200)
        cases hf
        cases hi
        exact K201
      · have hf := pm_ie hf c176
        obtain ⟨k202, hf⟩ := pm_if hf
        obtain ⟨v203, e204, hf⟩ := pm_bd hf
        have K205 := pw_t (by decide) K0 (wfX16_word (pw_rf _) e204)
        obtain ⟨k206, hf⟩ := pm_if hf
        obtain ⟨k207, hf⟩ := pm_if hf
        obtain ⟨v208, e209, hf⟩ := pm_bd hf
        obtain ⟨v210, e211, hf⟩ := pm_lt hf
        by_cases c212 : v210 = 0
        · have hf := pm_it hf c212
          obtain ⟨y213, e214, hf⟩ := pm_lt hf
          cases hf
          exact ih.2.2.2 x0 x1 x2 x3 x7 v203.1 0 (pm_setI v203.2 x0 19 y213) (pw_sI K205 rfl k206 (by decide))  hi
        · have hf := pm_ie hf c212
          obtain ⟨y215, e216, hf⟩ := pm_lt hf
          cases hf
          exact ih.2.2.2 x0 x1 x2 x3 x7 v203.1 (-1) (pm_setI v203.2 x0 19 y215) (pw_sI K205 rfl k206 (by decide))  hi
    refine fun x0 x1 x2 x3 x7 x9 x11 h K0 hf => ?_
    obtain ⟨y, hf, hi⟩ := pm_iter_s hf
    have hf : tX16_enters_368 x0 x1 x2 x3 x7 x9 x11 h = some y := hf
    unfold tX16_enters_368 at hf
    by_cases c217 : x9 ≤ 0
    · have hf := pm_it hf c217
      obtain ⟨y218, e219, hf⟩ := pm_lt hf
      cases hf
      exact ih.2.2.1 x0 x1 x2 x3 y218 h K0  hi
    · have hf := pm_ie hf c217
      obtain ⟨k220, hf⟩ := pm_if hf
      obtain ⟨v221, e222, hf⟩ := pm_bd hf
      obtain ⟨k223, hf⟩ := pm_if hf
      obtain ⟨u224, hf⟩ := pm_if hf
      obtain ⟨y225, e226, hf⟩ := pm_lt hf
      obtain ⟨y227, e228, hf⟩ := pm_lt hf
      cases hf
      exact ih.2.2.2 x0 x1 x2 x3 x7 y227 x11 (pm_setI (pm_setL h v221 ((pm_I h x0 93).toNatClampNeg) x11) x0 93 y225) (pw_sI (pw_aL K0 rfl k223 (by decide) (by decide)) (pkL rfl) k220 (by decide))  hi
set_option maxHeartbeats 4000000 in
set_option maxRecDepth 100000 in
theorem wfX16_enters {h0 h : pm_H} (K0 : pw_F WX16_enters h0 h) {a0 : Nat} {p1 : Int32}  {r : pm_H} (hf : fX16_enters h a0 p1 = some r) : pw_F WX16_enters h0 r := by
  unfold fX16_enters at hf
  obtain ⟨k1, hf⟩ := pm_if hf
  obtain ⟨v2, e3, hf⟩ := pm_bd hf
  obtain ⟨k4, hf⟩ := pm_if hf
  obtain ⟨u5, hf⟩ := pm_if hf
  by_cases c6 : (pm_I h v2 p1.toNatClampNeg) < 0
  · have hf := pm_it hf c6
    obtain ⟨v7, e8, hf⟩ := pm_bd hf
    obtain ⟨v9, e10, hf⟩ := pm_bd hf
    obtain ⟨k11, hf⟩ := pm_if hf
    obtain ⟨u12, hf⟩ := pm_if hf
    obtain ⟨y13, e14, hf⟩ := pm_lt hf
    obtain ⟨k15, hf⟩ := pm_if hf
    obtain ⟨v16, e17, hf⟩ := pm_bd hf
    obtain ⟨v18, e19, hf⟩ := pm_bd hf
    obtain ⟨k20, hf⟩ := pm_if hf
    obtain ⟨u21, hf⟩ := pm_if hf
    obtain ⟨y22, e23, hf⟩ := pm_lt hf
    obtain ⟨k24, hf⟩ := pm_if hf
    obtain ⟨u25, hf⟩ := pm_if hf
    obtain ⟨y26, e27, hf⟩ := pm_lt hf
    obtain ⟨v28, e29, hf⟩ := pm_bd hf
    obtain ⟨k30, hf⟩ := pm_if hf
    obtain ⟨u31, hf⟩ := pm_if hf
    obtain ⟨y32, e33, hf⟩ := pm_lt hf
    by_cases c34 : (pm_I h a0 85) = 0
    · have hf := pm_it hf c34
      obtain ⟨n, hn⟩ := pm_lim_iter hf
      exact (wlX16_enters n).1 a0 p1 v7 y13 y26 y32 0 h K0  hn
    · have hf := pm_ie hf c34
      obtain ⟨v35, e36, hf⟩ := pm_bd hf
      obtain ⟨y37, e38, hf⟩ := pm_lt hf
      obtain ⟨k39, hf⟩ := pm_if hf
      obtain ⟨u40, hf⟩ := pm_if hf
      obtain ⟨v41, e42, hf⟩ := pm_bd hf
      obtain ⟨y43, e44, hf⟩ := pm_lt hf
      obtain ⟨k45, hf⟩ := pm_if hf
      obtain ⟨u46, hf⟩ := pm_if hf
      obtain ⟨n, hn⟩ := pm_lim_iter hf
      exact (wlX16_enters n).1 a0 p1 v7 y13 y26 y32 ((pm_I h v35 y37.toNatClampNeg) + (pm_I h v41 y43.toNatClampNeg)) h K0  hn
  · have hf := pm_ie hf c6
    obtain ⟨u47, hf⟩ := pm_if hf
    obtain ⟨y48, e49, hf⟩ := pm_lt hf
    obtain ⟨v50, e51, hf⟩ := pm_bd hf
    cases hf
    exact (pw_sI (pw_sI (pw_sI (pw_sI K0 rfl k1 (by decide)) (pkI rfl) k1 (by decide)) (pkI (pkI rfl)) k1 (by decide)) (pkI (pkI (pkI rfl))) k1 (by decide))
abbrev WX16_extreme : List Nat := [1920, 1921, 1922, 1923]
set_option maxHeartbeats 4000000 in
set_option maxRecDepth 100000 in
theorem wfX16_extreme_b132 {h0 h : pm_H} (K0 : pw_F WX16_extreme h0 h) {x1 : Int32} {x2 : Int64} {x4 : Int64} {x6 : Int32}  {r : (Int64 × pm_H)} (hf : fX16_extreme_b132 h x1 x2 x4 x6 = some r) : pw_F WX16_extreme h0 r.2 := by
  unfold fX16_extreme_b132 at hf
  obtain ⟨v47, e48, hf⟩ := pm_lt hf
  obtain ⟨v49, e50, hf⟩ := pm_lt hf
  by_cases c51 : v49 ≤ v47
  · have hf := pm_it hf c51
    by_cases c52 : 0 = x6
    · have hf := pm_it hf c52
      cases hf
      exact K0
    · have hf := pm_ie hf c52
      cases hf
      exact K0
  · have hf := pm_ie hf c51
    by_cases c53 : 1 = x6
    · have hf := pm_it hf c53
      cases hf
      exact K0
    · have hf := pm_ie hf c53
      cases hf
      exact K0
set_option maxHeartbeats 4000000 in
set_option maxRecDepth 100000 in
theorem wfX16_extreme {h0 h : pm_H} (K0 : pw_F WX16_extreme h0 h) {a0 : Nat} {p1 : Int32} {p2 : Int64} {p3 : Int64} {p4 : Int32}  {r : (Int64 × pm_H)} (hf : fX16_extreme h a0 p1 p2 p3 p4 = some r) : pw_F WX16_extreme h0 r.2 := by
  unfold fX16_extreme at hf
  obtain ⟨k1, hf⟩ := pm_if hf
  obtain ⟨v2, e3, hf⟩ := pm_bd hf
  obtain ⟨k4, hf⟩ := pm_if hf
  obtain ⟨v5, e6, hf⟩ := pm_bd hf
  have K7 := pw_t (by decide) K0 (wfX15_read (pw_rf _) e6)
  obtain ⟨k8, hf⟩ := pm_if hf
  obtain ⟨v9, e10, hf⟩ := pm_bd hf
  obtain ⟨k11, hf⟩ := pm_if hf
  obtain ⟨v12, e13, hf⟩ := pm_bd hf
  have K14 := pw_t (by decide) K7 (wfX15_read (pw_rf _) e13)
  obtain ⟨k15, hf⟩ := pm_if hf
  obtain ⟨v16, e17, hf⟩ := pm_bd hf
  obtain ⟨k18, hf⟩ := pm_if hf
  by_cases c19 : (pm_I v12 v16 1) = 3
  · have hf := pm_it hf c19
    obtain ⟨v20, e21, hf⟩ := pm_lt hf
    cases hf
    exact K14
  · have hf := pm_ie hf c19
    obtain ⟨v22, e23, hf⟩ := pm_bd hf
    obtain ⟨k24, hf⟩ := pm_if hf
    by_cases c25 : (pm_I v12 v22 1) = 3
    · have hf := pm_it hf c25
      obtain ⟨v26, e27, hf⟩ := pm_lt hf
      cases hf
      exact K14
    · have hf := pm_ie hf c25
      by_cases c28 : (pm_I v12 v16 1) = 1
      · have hf := pm_it hf c28
        by_cases c29 : (pm_I v12 v22 1) = 1
        · have hf := pm_it hf c29
          by_cases c30 : p4 = 0
          · have hf := pm_it hf c30
            by_cases c31 : (pm_I v12 v16 0) = 0
            · have hf := pm_it hf c31
              obtain ⟨v32, e33, hf⟩ := pm_lt hf
              cases hf
              exact K14
            · have hf := pm_ie hf c31
              by_cases c34 : (pm_I v12 v22 0) = 0
              · have hf := pm_it hf c34
                obtain ⟨v35, e36, hf⟩ := pm_lt hf
                cases hf
                exact K14
              · have hf := pm_ie hf c34
                obtain ⟨v37, e38, hf⟩ := pm_lt hf
                cases hf
                exact K14
          · have hf := pm_ie hf c30
            by_cases c39 : (pm_I v12 v16 0) = 0
            · have hf := pm_it hf c39
              by_cases c40 : (pm_I v12 v22 0) = 0
              · have hf := pm_it hf c40
                obtain ⟨v41, e42, hf⟩ := pm_lt hf
                cases hf
                exact K14
              · have hf := pm_ie hf c40
                obtain ⟨v43, e44, hf⟩ := pm_lt hf
                cases hf
                exact K14
            · have hf := pm_ie hf c39
              obtain ⟨v45, e46, hf⟩ := pm_lt hf
              cases hf
              exact K14
        · have hf := pm_ie hf c29
          exact wfX16_extreme_b132 K14  hf
      · have hf := pm_ie hf c28
        exact wfX16_extreme_b132 K14  hf
abbrev WX16_goesOn : List Nat := [2058, 2067, 2124, 2131, 2133, 2141, 2142, 2143, 2144, 4096, 4352, 4480]
set_option maxHeartbeats 4000000 in
set_option maxRecDepth 100000 in
theorem wlX16_goesOn {h0 : pm_H} {r : pm_H} : ∀ n : Nat, (∀ (x0 : Nat) (h : pm_H), pw_F WX16_goesOn h0 h → pm_iter sX16_goesOn n (x0, h) = some r → pw_F WX16_goesOn h0 r) := by
  intro n
  induction n with
  | zero => exact fun _ _ _ hf => (by cases hf)
  | succ n ih =>
    refine fun x0 h K0 hf => ?_
    obtain ⟨y, hf, hi⟩ := pm_iter_s hf
    have hf : tX16_goesOn_0 x0 h = some y := hf
    unfold tX16_goesOn_0 at hf
    obtain ⟨k1, hf⟩ := pm_if hf
    by_cases c2 : (pm_I h x0 76) = 1
    · have hf := pm_it hf c2
      obtain ⟨v3, e4, hf⟩ := pm_bd hf
      obtain ⟨k5, hf⟩ := pm_if hf
      obtain ⟨v6, e7, hf⟩ := pm_bd hf
      by_cases c8 : v6 = 2
      · have hf := pm_it hf c8
        obtain ⟨v9, e10, hf⟩ := pm_bd hf
        have K11 := pw_t (by decide) K0 (wfX16_opensBlock (pw_rf _) e10)
        cases hf
        exact ih x0 v9 K11  hi
      · have hf := pm_ie hf c8
        by_cases c12 : v6 = 3
        · have hf := pm_it hf c12
          obtain ⟨v13, e14, hf⟩ := pm_bd hf
          have K15 := pw_t (by decide) K0 (wfX16_opensBlock (pw_rf _) e14)
          cases hf
          exact ih x0 v13 K15  hi
        · have hf := pm_ie hf c12
          by_cases c16 : v6 = 5
          · have hf := pm_it hf c16
            obtain ⟨v17, e18, hf⟩ := pm_bd hf
            obtain ⟨y19, e20, hf⟩ := pm_lt hf
            obtain ⟨k21, hf⟩ := pm_if hf
            obtain ⟨u22, hf⟩ := pm_if hf
            obtain ⟨y23, e24, hf⟩ := pm_lt hf
            cases hf
            exact ih x0 (pm_setI h x0 94 y23) (pw_sI K0 rfl k1 (by decide))  hi
          · have hf := pm_ie hf c16
            by_cases c25 : v6 = 11
            · have hf := pm_it hf c25
              obtain ⟨v26, e27, hf⟩ := pm_bd hf
              have K28 := pw_t (by decide) K0 (wfX16_closes (pw_rf _) e27)
              cases hf
              exact ih x0 v26 K28  hi
            · have hf := pm_ie hf c25
              cases hf
              cases hi
              exact K0
    · have hf := pm_ie hf c2
      cases hf
      cases hi
      exact K0
set_option maxHeartbeats 4000000 in
set_option maxRecDepth 100000 in
theorem wfX16_goesOn {h0 h : pm_H} (K0 : pw_F WX16_goesOn h0 h) {a0 : Nat}  {r : pm_H} (hf : fX16_goesOn h a0 = some r) : pw_F WX16_goesOn h0 r := by
  unfold fX16_goesOn at hf
  obtain ⟨n, hn⟩ := pm_lim_iter hf
  exact (wlX16_goesOn n) a0 h K0  hn
abbrev WX16_invokes : List Nat := [2058, 2067, 2093, 2124, 2127, 2128, 2131, 2133, 2141, 2142, 2143, 2144, 4096, 4352, 4480]
set_option maxHeartbeats 4000000 in
set_option maxRecDepth 100000 in
theorem wlX16_invokes {h0 : pm_H} {r : pm_H} : ∀ n : Nat, (∀ (x0 : Nat) (x1 : Int32) (x2 : Int32) (x3 : Int32) (h : pm_H), pw_F WX16_invokes h0 h → pm_iter sX16_invokes n (x0, x1, x2, x3, h) = some r → pw_F WX16_invokes h0 r) := by
  intro n
  induction n with
  | zero => exact fun _ _ _ _ _ _ hf => (by cases hf)
  | succ n ih =>
    refine fun x0 x1 x2 x3 h K0 hf => ?_
    obtain ⟨y, hf, hi⟩ := pm_iter_s hf
    have hf : tX16_invokes_18 x0 x1 x2 x3 h = some y := hf
    unfold tX16_invokes_18 at hf
    by_cases c6 : x2 ≤ x3
    · have hf := pm_it hf c6
      obtain ⟨k7, hf⟩ := pm_if hf
      obtain ⟨v8, e9, hf⟩ := pm_bd hf
      have K10 := pw_t (by decide) K0 (wfX16_enters (pw_rf _) e9)
      cases hf
      cases hi
      exact K10
    · have hf := pm_ie hf c6
      obtain ⟨k11, hf⟩ := pm_if hf
      obtain ⟨v12, e13, hf⟩ := pm_bd hf
      obtain ⟨v14, e15, hf⟩ := pm_bd hf
      obtain ⟨y16, e17, hf⟩ := pm_lt hf
      obtain ⟨k18, hf⟩ := pm_if hf
      obtain ⟨u19, hf⟩ := pm_if hf
      obtain ⟨y20, e21, hf⟩ := pm_lt hf
      obtain ⟨k22, hf⟩ := pm_if hf
      obtain ⟨u23, hf⟩ := pm_if hf
      obtain ⟨y24, e25, hf⟩ := pm_lt hf
      cases hf
      exact ih x0 x1 x2 y24 (pm_setL h v12 x3.toNatClampNeg y20) (pw_aL K0 rfl k22 (by decide) (by decide))  hi
set_option maxHeartbeats 4000000 in
set_option maxRecDepth 100000 in
theorem wfX16_invokes {h0 h : pm_H} (K0 : pw_F WX16_invokes h0 h) {a0 : Nat} {p1 : Int32}  {r : pm_H} (hf : fX16_invokes h a0 p1 = some r) : pw_F WX16_invokes h0 r := by
  unfold fX16_invokes at hf
  obtain ⟨k1, hf⟩ := pm_if hf
  obtain ⟨v2, e3, hf⟩ := pm_bd hf
  obtain ⟨y4, e5, hf⟩ := pm_lt hf
  obtain ⟨n, hn⟩ := pm_lim_iter hf
  exact (wlX16_invokes n) a0 p1 v2 0 (pm_setI h a0 93 y4) (pw_sI K0 rfl k1 (by decide))  hn
abbrev WX16_invokesEntry : List Nat := [2058, 2067, 2093, 2124, 2125, 2127, 2128, 2131, 2133, 2141, 2142, 2143, 2144, 4096, 4352, 4480]
set_option maxHeartbeats 4000000 in
set_option maxRecDepth 100000 in
theorem wfX16_invokesEntry {h0 h : pm_H} (K0 : pw_F WX16_invokesEntry h0 h) {a0 : Nat}  {r : pm_H} (hf : fX16_invokesEntry h a0 = some r) : pw_F WX16_invokesEntry h0 r := by
  unfold fX16_invokesEntry at hf
  obtain ⟨k1, hf⟩ := pm_if hf
  obtain ⟨v2, e3, hf⟩ := pm_bd hf
  have K4 := pw_t (by decide) K0 (wfX16_word (pw_rf _) e3)
  obtain ⟨k5, hf⟩ := pm_if hf
  obtain ⟨v6, e7, hf⟩ := pm_bd hf
  obtain ⟨v8, e9, hf⟩ := pm_bd hf
  have K10 := pw_t (by decide) K4 (wfX16_word (pw_rf _) e9)
  obtain ⟨y11, e12, hf⟩ := pm_lt hf
  obtain ⟨k13, hf⟩ := pm_if hf
  obtain ⟨u14, hf⟩ := pm_if hf
  obtain ⟨y15, e16, hf⟩ := pm_lt hf
  obtain ⟨k17, hf⟩ := pm_if hf
  obtain ⟨v18, e19, hf⟩ := pm_bd hf
  have K20 := pw_t (by decide) K10 (wfX16_pop (pw_rf _) e19)
  obtain ⟨k21, hf⟩ := pm_if hf
  obtain ⟨v22, e23, hf⟩ := pm_bd hf
  obtain ⟨k24, hf⟩ := pm_if hf
  obtain ⟨u25, hf⟩ := pm_if hf
  by_cases c26 : v18.1 < ((pm_I v18.2 v22 y15.toNatClampNeg).toInt64)
  · have hf := pm_it hf c26
    obtain ⟨v27, e28, hf⟩ := pm_bd hf
    obtain ⟨y29, e30, hf⟩ := pm_lt hf
    obtain ⟨k31, hf⟩ := pm_if hf
    obtain ⟨u32, hf⟩ := pm_if hf
    obtain ⟨y33, e34, hf⟩ := pm_lt hf
    by_cases c35 : 0 ≤ y33
    · have hf := pm_it hf c35
      obtain ⟨v36, e37, hf⟩ := pm_bd hf
      obtain ⟨k38, hf⟩ := pm_if hf
      obtain ⟨u39, hf⟩ := pm_if hf
      obtain ⟨v40, e41, hf⟩ := pm_bd hf
      obtain ⟨k42, hf⟩ := pm_if hf
      obtain ⟨u43, hf⟩ := pm_if hf
      obtain ⟨v44, e45, hf⟩ := pm_bd hf
      obtain ⟨y46, e47, hf⟩ := pm_lt hf
      obtain ⟨k48, hf⟩ := pm_if hf
      obtain ⟨u49, hf⟩ := pm_if hf
      obtain ⟨v50, e51, hf⟩ := pm_bd hf
      by_cases c52 : v50 = 0
      · have hf := pm_it hf c52
        obtain ⟨v53, e54, hf⟩ := pm_bd hf
        have K55 := pw_t (by decide) K20 (wfX16_endsBy (pw_rf _) e54)
        cases hf
        exact K55
      · have hf := pm_ie hf c52
        obtain ⟨v56, e57, hf⟩ := pm_bd hf
        have K58 := pw_t (by decide) K20 (wfX16_invokes (pw_rf _) e57)
        cases hf
        exact K58
    · have hf := pm_ie hf c35
      obtain ⟨v59, e60, hf⟩ := pm_bd hf
      have K61 := pw_t (by decide) K20 (wfX16_endsBy (pw_rf _) e60)
      cases hf
      exact K61
  · have hf := pm_ie hf c26
    obtain ⟨v62, e63, hf⟩ := pm_bd hf
    have K64 := pw_t (by decide) K20 (wfX16_endsBy (pw_rf _) e63)
    cases hf
    exact K64
abbrev WX16_isNamed : List Nat := [2067]
set_option maxHeartbeats 4000000 in
set_option maxRecDepth 100000 in
theorem wlX16_isNamed {h0 : pm_H} {r : (Int32 × pm_H)} : ∀ n : Nat, (∀ (x0 : Nat) (x2 : Int32) (h : pm_H), pw_F WX16_isNamed h0 h → pm_iter sX16_isNamed n (.inl (x0, x2, h)) = some r → pw_F WX16_isNamed h0 r.2) ∧ (∀ (x0 : Nat) (x2 : Int32) (h : pm_H), pw_F WX16_isNamed h0 h → pm_iter sX16_isNamed n (.inr (.inl (x0, x2, h))) = some r → pw_F WX16_isNamed h0 r.2) ∧ (∀ (x0 : Nat) (x3 : Int64) (x5 : Int32) (x6 : Int64) (h : pm_H), pw_F WX16_isNamed h0 h → pm_iter sX16_isNamed n (.inr (.inr (x0, x3, x5, x6, h))) = some r → pw_F WX16_isNamed h0 r.2) := by
  intro n
  induction n with
  | zero => exact ⟨fun _ _ _ _ hf => (by cases hf), fun _ _ _ _ hf => (by cases hf), fun _ _ _ _ _ _ hf => (by cases hf)⟩
  | succ n ih =>
    refine ⟨fun x0 x2 h K0 hf => ?_, ?_⟩
    · obtain ⟨y, hf, hi⟩ := pm_iter_s hf
      have hf : tX16_isNamed_39 x0 x2 h = some y := hf
      unfold tX16_isNamed_39 at hf
      by_cases c14 : x2 = 12
      · have hf := pm_it hf c14
        obtain ⟨k15, hf⟩ := pm_if hf
        obtain ⟨v16, e17, hf⟩ := pm_bd hf
        have K18 := pw_t (by decide) K0 (wfX16_word (pw_rf _) e17)
        obtain ⟨k19, hf⟩ := pm_if hf
        by_cases c20 : ((pm_I v16.2 x0 24).toInt64) ≤ v16.1
        · have hf := pm_it hf c20
          cases hf
          cases hi
          exact K18
        · have hf := pm_ie hf c20
          cases hf
          cases hi
          exact K18
      · have hf := pm_ie hf c14
        by_cases c21 : x2 = 13
        · have hf := pm_it hf c21
          obtain ⟨k22, hf⟩ := pm_if hf
          obtain ⟨v23, e24, hf⟩ := pm_bd hf
          have K25 := pw_t (by decide) K0 (wfX16_word (pw_rf _) e24)
          obtain ⟨k26, hf⟩ := pm_if hf
          by_cases c27 : ((pm_I v23.2 x0 24).toInt64) ≤ v23.1
          · have hf := pm_it hf c27
            cases hf
            cases hi
            exact K25
          · have hf := pm_ie hf c27
            cases hf
            cases hi
            exact K25
        · have hf := pm_ie hf c21
          by_cases c28 : x2 = 14
          · have hf := pm_it hf c28
            obtain ⟨k29, hf⟩ := pm_if hf
            obtain ⟨v30, e31, hf⟩ := pm_bd hf
            have K32 := pw_t (by decide) K0 (wfX16_word (pw_rf _) e31)
            cases hf
            exact ih.2.2 x0 v30.1 1 0 v30.2 K32  hi
          · have hf := pm_ie hf c28
            by_cases c33 : x2 = 16
            · have hf := pm_it hf c33
              obtain ⟨k34, hf⟩ := pm_if hf
              obtain ⟨v35, e36, hf⟩ := pm_bd hf
              have K37 := pw_t (by decide) K0 (wfX16_word (pw_rf _) e36)
              obtain ⟨k38, hf⟩ := pm_if hf
              obtain ⟨v39, e40, hf⟩ := pm_bd hf
              obtain ⟨k41, hf⟩ := pm_if hf
              obtain ⟨v42, e43, hf⟩ := pm_bd hf
              by_cases c44 : v42.toInt64 ≤ v35.1
              · have hf := pm_it hf c44
                cases hf
                cases hi
                exact K37
              · have hf := pm_ie hf c44
                cases hf
                cases hi
                exact K37
            · have hf := pm_ie hf c33
              by_cases c45 : x2 = 17
              · have hf := pm_it hf c45
                obtain ⟨k46, hf⟩ := pm_if hf
                obtain ⟨v47, e48, hf⟩ := pm_bd hf
                have K49 := pw_t (by decide) K0 (wfX16_word (pw_rf _) e48)
                obtain ⟨k50, hf⟩ := pm_if hf
                obtain ⟨v51, e52, hf⟩ := pm_bd hf
                have K53 := pw_t (by decide) K49 (wfX16_word (pw_rf _) e52)
                obtain ⟨k54, hf⟩ := pm_if hf
                obtain ⟨v55, e56, hf⟩ := pm_bd hf
                obtain ⟨k57, hf⟩ := pm_if hf
                by_cases c58 : ((pm_I v51.2 v55 4).toInt64) ≤ v47.1
                · have hf := pm_it hf c58
                  cases hf
                  cases hi
                  exact K53
                · have hf := pm_ie hf c58
                  obtain ⟨v59, e60, hf⟩ := pm_bd hf
                  by_cases c61 : v59.toInt64 ≤ v51.1
                  · have hf := pm_it hf c61
                    cases hf
                    cases hi
                    exact K53
                  · have hf := pm_ie hf c61
                    obtain ⟨v62, e63, hf⟩ := pm_bd hf
                    by_cases c64 : v62 = 112
                    · have hf := pm_it hf c64
                      cases hf
                      cases hi
                      exact K53
                    · have hf := pm_ie hf c64
                      cases hf
                      cases hi
                      exact K53
              · have hf := pm_ie hf c45
                by_cases c65 : x2 < 32
                · have hf := pm_it hf c65
                  cases hf
                  exact ih.2.1 x0 x2 h K0  hi
                · have hf := pm_ie hf c65
                  by_cases c66 : 34 < x2
                  · have hf := pm_it hf c66
                    cases hf
                    exact ih.2.1 x0 x2 h K0  hi
                  · have hf := pm_ie hf c66
                    obtain ⟨k67, hf⟩ := pm_if hf
                    obtain ⟨v68, e69, hf⟩ := pm_bd hf
                    have K70 := pw_t (by decide) K0 (wfX16_word (pw_rf _) e69)
                    obtain ⟨k71, hf⟩ := pm_if hf
                    obtain ⟨v72, e73, hf⟩ := pm_bd hf
                    obtain ⟨k74, hf⟩ := pm_if hf
                    obtain ⟨v75, e76, hf⟩ := pm_bd hf
                    obtain ⟨y77, e78, hf⟩ := pm_lt hf
                    obtain ⟨k79, hf⟩ := pm_if hf
                    obtain ⟨u80, hf⟩ := pm_if hf
                    obtain ⟨v81, e82, hf⟩ := pm_bd hf
                    obtain ⟨y83, e84, hf⟩ := pm_lt hf
                    obtain ⟨k85, hf⟩ := pm_if hf
                    obtain ⟨u86, hf⟩ := pm_if hf
                    by_cases c87 : (((pm_I v68.2 v75 y77.toNatClampNeg).toInt64) + (pm_L v68.2 v81 y83.toNatClampNeg)) ≤ v68.1
                    · have hf := pm_it hf c87
                      cases hf
                      cases hi
                      exact K70
                    · have hf := pm_ie hf c87
                      cases hf
                      cases hi
                      exact K70
    refine ⟨fun x0 x2 h K0 hf => ?_, ?_⟩
    · obtain ⟨y, hf, hi⟩ := pm_iter_s hf
      have hf : tX16_isNamed_290 x0 x2 h = some y := hf
      unfold tX16_isNamed_290 at hf
      by_cases c112 : x2 = 35
      · have hf := pm_it hf c112
        obtain ⟨k113, hf⟩ := pm_if hf
        obtain ⟨v114, e115, hf⟩ := pm_bd hf
        have K116 := pw_t (by decide) K0 (wfX16_word (pw_rf _) e115)
        obtain ⟨k117, hf⟩ := pm_if hf
        obtain ⟨v118, e119, hf⟩ := pm_bd hf
        obtain ⟨k120, hf⟩ := pm_if hf
        obtain ⟨v121, e122, hf⟩ := pm_bd hf
        by_cases c123 : v121.toInt64 ≤ v114.1
        · have hf := pm_it hf c123
          cases hf
          cases hi
          exact K116
        · have hf := pm_ie hf c123
          by_cases c124 : x2 = 35
          · have hf := pm_it hf c124
            cases hf
            cases hi
            exact K116
          · have hf := pm_ie hf c124
            obtain ⟨v125, e126, hf⟩ := pm_bd hf
            by_cases c127 : v125 = 0
            · have hf := pm_it hf c127
              cases hf
              cases hi
              exact K116
            · have hf := pm_ie hf c127
              cases hf
              cases hi
              exact K116
      · have hf := pm_ie hf c112
        by_cases c128 : x2 = 36
        · have hf := pm_it hf c128
          obtain ⟨k129, hf⟩ := pm_if hf
          obtain ⟨v130, e131, hf⟩ := pm_bd hf
          have K132 := pw_t (by decide) K0 (wfX16_word (pw_rf _) e131)
          obtain ⟨k133, hf⟩ := pm_if hf
          obtain ⟨v134, e135, hf⟩ := pm_bd hf
          obtain ⟨k136, hf⟩ := pm_if hf
          obtain ⟨v137, e138, hf⟩ := pm_bd hf
          by_cases c139 : v137.toInt64 ≤ v130.1
          · have hf := pm_it hf c139
            cases hf
            cases hi
            exact K132
          · have hf := pm_ie hf c139
            by_cases c140 : x2 = 35
            · have hf := pm_it hf c140
              cases hf
              cases hi
              exact K132
            · have hf := pm_ie hf c140
              obtain ⟨v141, e142, hf⟩ := pm_bd hf
              by_cases c143 : v141 = 0
              · have hf := pm_it hf c143
                cases hf
                cases hi
                exact K132
              · have hf := pm_ie hf c143
                cases hf
                cases hi
                exact K132
        · have hf := pm_ie hf c128
          by_cases c144 : x2 = 37
          · have hf := pm_it hf c144
            obtain ⟨k145, hf⟩ := pm_if hf
            obtain ⟨v146, e147, hf⟩ := pm_bd hf
            have K148 := pw_t (by decide) K0 (wfX16_word (pw_rf _) e147)
            obtain ⟨k149, hf⟩ := pm_if hf
            obtain ⟨v150, e151, hf⟩ := pm_bd hf
            obtain ⟨k152, hf⟩ := pm_if hf
            obtain ⟨v153, e154, hf⟩ := pm_bd hf
            by_cases c155 : v153.toInt64 ≤ v146.1
            · have hf := pm_it hf c155
              cases hf
              cases hi
              exact K148
            · have hf := pm_ie hf c155
              cases hf
              cases hi
              exact K148
          · have hf := pm_ie hf c144
            by_cases c156 : x2 = 38
            · have hf := pm_it hf c156
              obtain ⟨k157, hf⟩ := pm_if hf
              obtain ⟨v158, e159, hf⟩ := pm_bd hf
              have K160 := pw_t (by decide) K0 (wfX16_word (pw_rf _) e159)
              obtain ⟨k161, hf⟩ := pm_if hf
              obtain ⟨v162, e163, hf⟩ := pm_bd hf
              obtain ⟨k164, hf⟩ := pm_if hf
              obtain ⟨v165, e166, hf⟩ := pm_bd hf
              by_cases c167 : v165.toInt64 ≤ v158.1
              · have hf := pm_it hf c167
                cases hf
                cases hi
                exact K160
              · have hf := pm_ie hf c167
                cases hf
                cases hi
                exact K160
            · have hf := pm_ie hf c156
              obtain ⟨v168, e169, hf⟩ := pm_lt hf
              by_cases c170 : v168 = 0
              · have hf := pm_it hf c170
                by_cases c171 : x2 = 63
                · have hf := pm_it hf c171
                  obtain ⟨k172, hf⟩ := pm_if hf
                  obtain ⟨v173, e174, hf⟩ := pm_bd hf
                  obtain ⟨k175, hf⟩ := pm_if hf
                  obtain ⟨v176, e177, hf⟩ := pm_bd hf
                  by_cases c178 : v176 ≤ 0
                  · have hf := pm_it hf c178
                    cases hf
                    cases hi
                    exact K0
                  · have hf := pm_ie hf c178
                    cases hf
                    cases hi
                    exact K0
                · have hf := pm_ie hf c171
                  by_cases c179 : x2 = 64
                  · have hf := pm_it hf c179
                    obtain ⟨k180, hf⟩ := pm_if hf
                    obtain ⟨v181, e182, hf⟩ := pm_bd hf
                    obtain ⟨k183, hf⟩ := pm_if hf
                    obtain ⟨v184, e185, hf⟩ := pm_bd hf
                    by_cases c186 : v184 ≤ 0
                    · have hf := pm_it hf c186
                      cases hf
                      cases hi
                      exact K0
                    · have hf := pm_ie hf c186
                      cases hf
                      cases hi
                      exact K0
                  · have hf := pm_ie hf c179
                    by_cases c187 : x2 = 210
                    · have hf := pm_it hf c187
                      obtain ⟨k188, hf⟩ := pm_if hf
                      obtain ⟨v189, e190, hf⟩ := pm_bd hf
                      have K191 := pw_t (by decide) K0 (wfX16_word (pw_rf _) e190)
                      obtain ⟨k192, hf⟩ := pm_if hf
                      obtain ⟨v193, e194, hf⟩ := pm_bd hf
                      obtain ⟨k195, hf⟩ := pm_if hf
                      obtain ⟨v196, e197, hf⟩ := pm_bd hf
                      by_cases c198 : v196.toInt64 ≤ v189.1
                      · have hf := pm_it hf c198
                        cases hf
                        cases hi
                        exact K191
                      · have hf := pm_ie hf c198
                        obtain ⟨v199, e200, hf⟩ := pm_bd hf
                        obtain ⟨k201, hf⟩ := pm_if hf
                        obtain ⟨u202, hf⟩ := pm_if hf
                        by_cases c203 : (pm_I v189.2 v199 v189.1.toInt32.toNatClampNeg) = 0
                        · have hf := pm_it hf c203
                          cases hf
                          cases hi
                          exact K191
                        · have hf := pm_ie hf c203
                          cases hf
                          cases hi
                          exact K191
                    · have hf := pm_ie hf c187
                      by_cases c204 : x2 = 252
                      · have hf := pm_it hf c204
                        obtain ⟨k205, hf⟩ := pm_if hf
                        obtain ⟨v206, e207, hf⟩ := pm_bd hf
                        have K208 := pw_t (by decide) K0 (wfX16_isNamedFurther (pw_rf _) e207)
                        by_cases c209 : v206.1 = 0
                        · have hf := pm_it hf c209
                          cases hf
                          cases hi
                          exact K208
                        · have hf := pm_ie hf c209
                          cases hf
                          cases hi
                          exact K208
                      · have hf := pm_ie hf c204
                        cases hf
                        cases hi
                        exact K0
              · have hf := pm_ie hf c170
                obtain ⟨k210, hf⟩ := pm_if hf
                obtain ⟨v211, e212, hf⟩ := pm_bd hf
                have K213 := pw_t (by decide) K0 (wfX16_word (pw_rf _) e212)
                obtain ⟨v214, e215, hf⟩ := pm_lt hf
                by_cases c216 : v214.toInt64 < v211.1
                · have hf := pm_it hf c216
                  cases hf
                  cases hi
                  exact K213
                · have hf := pm_ie hf c216
                  obtain ⟨k217, hf⟩ := pm_if hf
                  obtain ⟨v218, e219, hf⟩ := pm_bd hf
                  obtain ⟨k220, hf⟩ := pm_if hf
                  obtain ⟨v221, e222, hf⟩ := pm_bd hf
                  by_cases c223 : v221 ≤ 0
                  · have hf := pm_it hf c223
                    cases hf
                    cases hi
                    exact K213
                  · have hf := pm_ie hf c223
                    cases hf
                    cases hi
                    exact K213
    refine fun x0 x3 x5 x6 h K0 hf => ?_
    obtain ⟨y, hf, hi⟩ := pm_iter_s hf
    have hf : tX16_isNamed_87 x0 x3 x5 x6 h = some y := hf
    unfold tX16_isNamed_87 at hf
    by_cases c88 : x3 < x6
    · have hf := pm_it hf c88
      obtain ⟨u89, hf⟩ := pm_if hf
      cases hf
      cases hi
      exact K0
    · have hf := pm_ie hf c88
      obtain ⟨k90, hf⟩ := pm_if hf
      obtain ⟨v91, e92, hf⟩ := pm_bd hf
      have K93 := pw_t (by decide) K0 (wfX16_word (pw_rf _) e92)
      obtain ⟨k94, hf⟩ := pm_if hf
      by_cases c95 : ((pm_I v91.2 x0 24).toInt64) ≤ v91.1
      · have hf := pm_it hf c95
        by_cases c96 : x5 = 0
        · have hf := pm_it hf c96
          obtain ⟨y97, e98, hf⟩ := pm_lt hf
          cases hf
          exact ih.2.2 x0 x3 0 y97 v91.2 K93  hi
        · have hf := pm_ie hf c96
          by_cases c99 : (0 : Int32) = (0 : Int32)
          · have hf := pm_it hf c99
            obtain ⟨y100, e101, hf⟩ := pm_lt hf
            cases hf
            exact ih.2.2 x0 x3 0 y100 v91.2 K93  hi
          · have hf := pm_ie hf c99
            obtain ⟨y102, e103, hf⟩ := pm_lt hf
            cases hf
            exact ih.2.2 x0 x3 1 y102 v91.2 K93  hi
      · have hf := pm_ie hf c95
        by_cases c104 : x5 = 0
        · have hf := pm_it hf c104
          obtain ⟨y105, e106, hf⟩ := pm_lt hf
          cases hf
          exact ih.2.2 x0 x3 0 y105 v91.2 K93  hi
        · have hf := pm_ie hf c104
          by_cases c107 : (1 : Int32) = (0 : Int32)
          · have hf := pm_it hf c107
            obtain ⟨y108, e109, hf⟩ := pm_lt hf
            cases hf
            exact ih.2.2 x0 x3 0 y108 v91.2 K93  hi
          · have hf := pm_ie hf c107
            obtain ⟨y110, e111, hf⟩ := pm_lt hf
            cases hf
            exact ih.2.2 x0 x3 1 y110 v91.2 K93  hi
set_option maxHeartbeats 4000000 in
set_option maxRecDepth 100000 in
theorem wfX16_isNamed {h0 h : pm_H} (K0 : pw_F WX16_isNamed h0 h) {a0 : Nat} {p1 : Int32} {p2 : Int32}  {r : (Int32 × pm_H)} (hf : fX16_isNamed h a0 p1 p2 = some r) : pw_F WX16_isNamed h0 r.2 := by
  unfold fX16_isNamed at hf
  obtain ⟨y1, e2, hf⟩ := pm_lt hf
  obtain ⟨k3, hf⟩ := pm_if hf
  by_cases c4 : p2 < 2
  · have hf := pm_it hf c4
    obtain ⟨n, hn⟩ := pm_lim_iter hf
    exact (wlX16_isNamed n).1 a0 p2 (pm_setI h a0 19 y1) (pw_sI K0 rfl k3 (by decide))  hn
  · have hf := pm_ie hf c4
    by_cases c5 : 4 < p2
    · have hf := pm_it hf c5
      obtain ⟨n, hn⟩ := pm_lim_iter hf
      exact (wlX16_isNamed n).1 a0 p2 (pm_setI h a0 19 y1) (pw_sI K0 rfl k3 (by decide))  hn
    · have hf := pm_ie hf c5
      obtain ⟨v6, e7, hf⟩ := pm_bd hf
      have K8 := pw_t (by decide) (pw_sI K0 rfl k3 (by decide)) (wfX16_blockWord (pw_rf _) e7)
      obtain ⟨k9, hf⟩ := pm_if hf
      obtain ⟨v10, e11, hf⟩ := pm_bd hf
      obtain ⟨k12, hf⟩ := pm_if hf
      by_cases c13 : ((pm_I v6.2 v10 4).toInt64) ≤ v6.1
      · have hf := pm_it hf c13
        cases hf
        exact K8
      · have hf := pm_ie hf c13
        cases hf
        exact K8
abbrev WX16_isReal : List Nat := [1920, 1921, 1922, 1923]
set_option maxHeartbeats 4000000 in
set_option maxRecDepth 100000 in
theorem wfX16_isReal {h0 h : pm_H} (K0 : pw_F WX16_isReal h0 h) {a0 : Nat} {p1 : Int32} {p2 : Int32} {p3 : Int64} {p4 : Int64}  {r : (Int32 × pm_H)} (hf : fX16_isReal h a0 p1 p2 p3 p4 = some r) : pw_F WX16_isReal h0 r.2 := by
  unfold fX16_isReal at hf
  obtain ⟨k1, hf⟩ := pm_if hf
  obtain ⟨v2, e3, hf⟩ := pm_bd hf
  obtain ⟨k4, hf⟩ := pm_if hf
  obtain ⟨v5, e6, hf⟩ := pm_bd hf
  have K7 := pw_t (by decide) K0 (wfX15_read (pw_rf _) e6)
  obtain ⟨k8, hf⟩ := pm_if hf
  obtain ⟨v9, e10, hf⟩ := pm_bd hf
  obtain ⟨k11, hf⟩ := pm_if hf
  obtain ⟨v12, e13, hf⟩ := pm_bd hf
  have K14 := pw_t (by decide) K7 (wfX15_read (pw_rf _) e13)
  obtain ⟨k15, hf⟩ := pm_if hf
  obtain ⟨v16, e17, hf⟩ := pm_bd hf
  obtain ⟨k18, hf⟩ := pm_if hf
  by_cases c19 : (pm_I v12 v16 1) = 3
  · have hf := pm_it hf c19
    by_cases c20 : p1 = 1
    · have hf := pm_it hf c20
      cases hf
      exact K14
    · have hf := pm_ie hf c20
      cases hf
      exact K14
  · have hf := pm_ie hf c19
    obtain ⟨v21, e22, hf⟩ := pm_bd hf
    obtain ⟨k23, hf⟩ := pm_if hf
    by_cases c24 : (pm_I v12 v21 1) = 3
    · have hf := pm_it hf c24
      by_cases c25 : p1 = 1
      · have hf := pm_it hf c25
        cases hf
        exact K14
      · have hf := pm_ie hf c25
        cases hf
        exact K14
    · have hf := pm_ie hf c24
      obtain ⟨v26, e27, hf⟩ := pm_lt hf
      obtain ⟨v28, e29, hf⟩ := pm_lt hf
      by_cases c30 : p1 = 0
      · have hf := pm_it hf c30
        by_cases c31 : v26 = v28
        · have hf := pm_it hf c31
          cases hf
          exact K14
        · have hf := pm_ie hf c31
          cases hf
          exact K14
      · have hf := pm_ie hf c30
        by_cases c32 : p1 = 1
        · have hf := pm_it hf c32
          by_cases c33 : v26 = v28
          · have hf := pm_it hf c33
            cases hf
            exact K14
          · have hf := pm_ie hf c33
            cases hf
            exact K14
        · have hf := pm_ie hf c32
          by_cases c34 : p1 = 2
          · have hf := pm_it hf c34
            by_cases c35 : v28 ≤ v26
            · have hf := pm_it hf c35
              cases hf
              exact K14
            · have hf := pm_ie hf c35
              cases hf
              exact K14
          · have hf := pm_ie hf c34
            by_cases c36 : p1 = 3
            · have hf := pm_it hf c36
              by_cases c37 : v26 ≤ v28
              · have hf := pm_it hf c37
                cases hf
                exact K14
              · have hf := pm_ie hf c37
                cases hf
                exact K14
            · have hf := pm_ie hf c36
              by_cases c38 : p1 = 4
              · have hf := pm_it hf c38
                by_cases c39 : v28 < v26
                · have hf := pm_it hf c39
                  cases hf
                  exact K14
                · have hf := pm_ie hf c39
                  cases hf
                  exact K14
              · have hf := pm_ie hf c38
                by_cases c40 : v26 < v28
                · have hf := pm_it hf c40
                  cases hf
                  exact K14
                · have hf := pm_ie hf c40
                  cases hf
                  exact K14
abbrev WX16_moved : List Nat := [1920, 1921, 1922, 1923]
set_option maxHeartbeats 4000000 in
set_option maxRecDepth 100000 in
theorem wfX16_moved {h0 h : pm_H} (K0 : pw_F WX16_moved h0 h) {a0 : Nat} {p1 : Int32} {p2 : Int32} {p3 : Int64}  {r : (Int64 × pm_H)} (hf : fX16_moved h a0 p1 p2 p3 = some r) : pw_F WX16_moved h0 r.2 := by
  unfold fX16_moved at hf
  obtain ⟨k1, hf⟩ := pm_if hf
  obtain ⟨v2, e3, hf⟩ := pm_bd hf
  obtain ⟨k4, hf⟩ := pm_if hf
  obtain ⟨v5, e6, hf⟩ := pm_bd hf
  have K7 := pw_t (by decide) K0 (wfX15_read (pw_rf _) e6)
  obtain ⟨k8, hf⟩ := pm_if hf
  obtain ⟨v9, e10, hf⟩ := pm_bd hf
  obtain ⟨k11, hf⟩ := pm_if hf
  by_cases c12 : (pm_I v5 v9 1) = 3
  · have hf := pm_it hf c12
    obtain ⟨v13, e14, hf⟩ := pm_lt hf
    cases hf
    exact K7
  · have hf := pm_ie hf c12
    by_cases c15 : (pm_I v5 v9 1) ≤ 0
    · have hf := pm_it hf c15
      obtain ⟨v16, e17, hf⟩ := pm_bd hf
      cases hf
      exact K7
    · have hf := pm_ie hf c15
      by_cases c18 : (pm_I v5 v9 1) = 2
      · have hf := pm_it hf c18
        obtain ⟨v19, e20, hf⟩ := pm_lt hf
        obtain ⟨v21, e22, hf⟩ := pm_lt hf
        cases hf
        exact K7
      · have hf := pm_ie hf c18
        obtain ⟨v23, e24, hf⟩ := pm_lt hf
        cases hf
        exact K7
abbrev WX16_poke : List Nat := [4224]
set_option maxHeartbeats 4000000 in
set_option maxRecDepth 100000 in
theorem wfX16_poke_b18 {h0 h : pm_H} (K0 : pw_F WX16_poke h0 h) {x0 : Nat} {x3 : Int32} {x4 : Int32} {s0 : Int32}  {r : (Int32 × pm_H)} (hf : fX16_poke_b18 h x0 x3 x4 s0 = some r) : pw_F WX16_poke h0 r.2 := by
  unfold fX16_poke_b18 at hf
  obtain ⟨y7, e8, hf⟩ := pm_lt hf
  by_cases c9 : s0 < 0
  · have hf := pm_it hf c9
    cases hf
    exact K0
  · have hf := pm_ie hf c9
    obtain ⟨k10, hf⟩ := pm_if hf
    obtain ⟨v11, e12, hf⟩ := pm_bd hf
    obtain ⟨k13, hf⟩ := pm_if hf
    obtain ⟨u14, hf⟩ := pm_if hf
    by_cases c15 : y7 < (65536 * ((pm_I h v11 s0.toNatClampNeg).toInt64))
    · have hf := pm_it hf c15
      obtain ⟨v16, e17, hf⟩ := pm_bd hf
      have K18 := pw_t (by decide) K0 (wfX16_sets (pw_rf _) e17)
      cases hf
      exact K18
    · have hf := pm_ie hf c15
      cases hf
      exact K0
set_option maxHeartbeats 4000000 in
set_option maxRecDepth 100000 in
theorem wfX16_poke {h0 h : pm_H} (K0 : pw_F WX16_poke h0 h) {a0 : Nat} {p1 : Int32} {p2 : Int32} {p3 : Int32} {p4 : Int32}  {r : (Int32 × pm_H)} (hf : fX16_poke h a0 p1 p2 p3 p4 = some r) : pw_F WX16_poke h0 r.2 := by
  unfold fX16_poke at hf
  obtain ⟨k1, hf⟩ := pm_if hf
  obtain ⟨v2, e3, hf⟩ := pm_bd hf
  by_cases c4 : v2 = 0
  · have hf := pm_it hf c4
    obtain ⟨v5, e6, hf⟩ := pm_bd hf
    exact wfX16_poke_b18 K0  hf
  · have hf := pm_ie hf c4
    exact wfX16_poke_b18 K0  hf
abbrev WX16_product : List Nat := [1920, 1921, 1922, 1923]
set_option maxHeartbeats 4000000 in
set_option maxRecDepth 100000 in
theorem wfX16_product_b41 {h0 h : pm_H} (K0 : pw_F WX16_product h0 h) {x0 : Nat} {x1 : Int32} {s0 : Int32}  {r : (Int64 × pm_H)} (hf : fX16_product_b41 h x0 x1 s0 = some r) : pw_F WX16_product h0 r.2 := by
  unfold fX16_product_b41 at hf
  obtain ⟨k23, hf⟩ := pm_if hf
  obtain ⟨v24, e25, hf⟩ := pm_bd hf
  obtain ⟨k26, hf⟩ := pm_if hf
  by_cases c27 : (pm_I h v24 1) = 3
  · have hf := pm_it hf c27
    obtain ⟨v28, e29, hf⟩ := pm_lt hf
    cases hf
    exact K0
  · have hf := pm_ie hf c27
    obtain ⟨v30, e31, hf⟩ := pm_bd hf
    obtain ⟨k32, hf⟩ := pm_if hf
    by_cases c33 : (pm_I h v30 1) = 3
    · have hf := pm_it hf c33
      obtain ⟨v34, e35, hf⟩ := pm_lt hf
      cases hf
      exact K0
    · have hf := pm_ie hf c33
      by_cases c36 : ((pm_I h v24 1) + (pm_I h v30 1)) = 3
      · have hf := pm_it hf c36
        obtain ⟨v37, e38, hf⟩ := pm_lt hf
        cases hf
        exact K0
      · have hf := pm_ie hf c36
        by_cases c39 : (pm_I h v24 1) = 2
        · have hf := pm_it hf c39
          obtain ⟨v40, e41, hf⟩ := pm_lt hf
          obtain ⟨v42, e43, hf⟩ := pm_lt hf
          cases hf
          exact K0
        · have hf := pm_ie hf c39
          by_cases c44 : (pm_I h v30 1) = 2
          · have hf := pm_it hf c44
            obtain ⟨v45, e46, hf⟩ := pm_lt hf
            obtain ⟨v47, e48, hf⟩ := pm_lt hf
            cases hf
            exact K0
          · have hf := pm_ie hf c44
            by_cases c49 : (pm_I h v24 1) = 1
            · have hf := pm_it hf c49
              obtain ⟨v50, e51, hf⟩ := pm_lt hf
              cases hf
              exact K0
            · have hf := pm_ie hf c49
              by_cases c52 : (pm_I h v30 1) = 1
              · have hf := pm_it hf c52
                obtain ⟨v53, e54, hf⟩ := pm_lt hf
                cases hf
                exact K0
              · have hf := pm_ie hf c52
                obtain ⟨y55, e56, hf⟩ := pm_lt hf
                obtain ⟨y57, e58, hf⟩ := pm_lt hf
                obtain ⟨y59, e60, hf⟩ := pm_lt hf
                obtain ⟨y61, e62, hf⟩ := pm_lt hf
                obtain ⟨y63, e64, hf⟩ := pm_lt hf
                obtain ⟨y65, e66, hf⟩ := pm_lt hf
                obtain ⟨y67, e68, hf⟩ := pm_lt hf
                obtain ⟨v69, e70, hf⟩ := pm_lt hf
                by_cases c71 : v69 = 0
                · have hf := pm_it hf c71
                  obtain ⟨y72, e73, hf⟩ := pm_lt hf
                  obtain ⟨y74, e75, hf⟩ := pm_lt hf
                  obtain ⟨v76, e77, hf⟩ := pm_lt hf
                  by_cases c78 : v76 = 0
                  · have hf := pm_it hf c78
                    obtain ⟨v79, e80, hf⟩ := pm_bd hf
                    cases hf
                    exact K0
                  · have hf := pm_ie hf c78
                    obtain ⟨y81, e82, hf⟩ := pm_lt hf
                    obtain ⟨v83, e84, hf⟩ := pm_bd hf
                    cases hf
                    exact K0
                · have hf := pm_ie hf c71
                  obtain ⟨y85, e86, hf⟩ := pm_lt hf
                  obtain ⟨y87, e88, hf⟩ := pm_lt hf
                  obtain ⟨y89, e90, hf⟩ := pm_lt hf
                  obtain ⟨v91, e92, hf⟩ := pm_lt hf
                  by_cases c93 : v91 = 0
                  · have hf := pm_it hf c93
                    obtain ⟨v94, e95, hf⟩ := pm_bd hf
                    cases hf
                    exact K0
                  · have hf := pm_ie hf c93
                    obtain ⟨y96, e97, hf⟩ := pm_lt hf
                    obtain ⟨v98, e99, hf⟩ := pm_bd hf
                    cases hf
                    exact K0
set_option maxHeartbeats 4000000 in
set_option maxRecDepth 100000 in
theorem wfX16_product {h0 h : pm_H} (K0 : pw_F WX16_product h0 h) {a0 : Nat} {p1 : Int32} {p2 : Int64} {p3 : Int64}  {r : (Int64 × pm_H)} (hf : fX16_product h a0 p1 p2 p3 = some r) : pw_F WX16_product h0 r.2 := by
  unfold fX16_product at hf
  obtain ⟨k1, hf⟩ := pm_if hf
  obtain ⟨v2, e3, hf⟩ := pm_bd hf
  obtain ⟨k4, hf⟩ := pm_if hf
  obtain ⟨v5, e6, hf⟩ := pm_bd hf
  have K7 := pw_t (by decide) K0 (wfX15_read (pw_rf _) e6)
  obtain ⟨k8, hf⟩ := pm_if hf
  obtain ⟨v9, e10, hf⟩ := pm_bd hf
  obtain ⟨k11, hf⟩ := pm_if hf
  obtain ⟨v12, e13, hf⟩ := pm_bd hf
  have K14 := pw_t (by decide) K7 (wfX15_read (pw_rf _) e13)
  obtain ⟨k15, hf⟩ := pm_if hf
  obtain ⟨v16, e17, hf⟩ := pm_bd hf
  obtain ⟨k18, hf⟩ := pm_if hf
  obtain ⟨v19, e20, hf⟩ := pm_bd hf
  obtain ⟨k21, hf⟩ := pm_if hf
  by_cases c22 : (pm_I v12 v16 0) = (pm_I v12 v19 0)
  · have hf := pm_it hf c22
    exact wfX16_product_b41 K14  hf
  · have hf := pm_ie hf c22
    exact wfX16_product_b41 K14  hf
abbrev WX16_quotient : List Nat := [1920, 1921, 1922, 1923]
set_option maxHeartbeats 4000000 in
set_option maxRecDepth 100000 in
theorem wlX16_quotient {h0 : pm_H} {r : (Int64 × pm_H)} : ∀ n : Nat, (∀ (x0 : Nat) (x1 : Int32) (s0 : Int32) (h : pm_H), pw_F WX16_quotient h0 h → pm_iter sX16_quotient n (.inl (x0, x1, s0, h)) = some r → pw_F WX16_quotient h0 r.2) ∧ (∀ (x1 : Int32) (x6 : Int32) (x7 : Int64) (x9 : Int64) (x11 : Int32) (h : pm_H), pw_F WX16_quotient h0 h → pm_iter sX16_quotient n (.inr (.inl (x1, x6, x7, x9, x11, h))) = some r → pw_F WX16_quotient h0 r.2) ∧ (∀ (x1 : Int32) (x6 : Int32) (x7 : Int64) (x9 : Int64) (x11 : Int32) (h : pm_H), pw_F WX16_quotient h0 h → pm_iter sX16_quotient n (.inr (.inr (.inl (x1, x6, x7, x9, x11, h)))) = some r → pw_F WX16_quotient h0 r.2) ∧ (∀ (x1 : Int32) (x6 : Int32) (x7 : Int64) (x9 : Int64) (x11 : Int32) (x12 : Int64) (x14 : Int32) (h : pm_H), pw_F WX16_quotient h0 h → pm_iter sX16_quotient n (.inr (.inr (.inr (x1, x6, x7, x9, x11, x12, x14, h)))) = some r → pw_F WX16_quotient h0 r.2) := by
  intro n
  induction n with
  | zero => exact ⟨fun _ _ _ _ _ hf => (by cases hf), fun _ _ _ _ _ _ _ hf => (by cases hf), fun _ _ _ _ _ _ _ hf => (by cases hf), fun _ _ _ _ _ _ _ _ _ hf => (by cases hf)⟩
  | succ n ih =>
    refine ⟨fun x0 x1 s0 h K0 hf => ?_, ?_⟩
    · obtain ⟨y, hf, hi⟩ := pm_iter_s hf
      have hf : tX16_quotient_41 x0 x1 s0 h = some y := hf
      unfold tX16_quotient_41 at hf
      obtain ⟨k23, hf⟩ := pm_if hf
      obtain ⟨v24, e25, hf⟩ := pm_bd hf
      obtain ⟨k26, hf⟩ := pm_if hf
      by_cases c27 : (pm_I h v24 1) = 3
      · have hf := pm_it hf c27
        obtain ⟨v28, e29, hf⟩ := pm_lt hf
        cases hf
        cases hi
        exact K0
      · have hf := pm_ie hf c27
        obtain ⟨v30, e31, hf⟩ := pm_bd hf
        obtain ⟨k32, hf⟩ := pm_if hf
        by_cases c33 : (pm_I h v30 1) = 3
        · have hf := pm_it hf c33
          obtain ⟨v34, e35, hf⟩ := pm_lt hf
          cases hf
          cases hi
          exact K0
        · have hf := pm_ie hf c33
          by_cases c36 : (pm_I h v24 1) = (pm_I h v30 1)
          · have hf := pm_it hf c36
            by_cases c37 : (pm_I h v24 1) ≤ 0
            · have hf := pm_it hf c37
              by_cases c38 : (pm_I h v24 1) = 2
              · have hf := pm_it hf c38
                obtain ⟨v39, e40, hf⟩ := pm_lt hf
                obtain ⟨v41, e42, hf⟩ := pm_lt hf
                cases hf
                cases hi
                exact K0
              · have hf := pm_ie hf c38
                by_cases c43 : (pm_I h v30 1) = 1
                · have hf := pm_it hf c43
                  obtain ⟨v44, e45, hf⟩ := pm_lt hf
                  obtain ⟨v46, e47, hf⟩ := pm_lt hf
                  cases hf
                  cases hi
                  exact K0
                · have hf := pm_ie hf c43
                  by_cases c48 : (pm_I h v24 1) = 1
                  · have hf := pm_it hf c48
                    obtain ⟨v49, e50, hf⟩ := pm_lt hf
                    cases hf
                    cases hi
                    exact K0
                  · have hf := pm_ie hf c48
                    by_cases c51 : (pm_I h v30 1) = 2
                    · have hf := pm_it hf c51
                      obtain ⟨v52, e53, hf⟩ := pm_lt hf
                      cases hf
                      cases hi
                      exact K0
                    · have hf := pm_ie hf c51
                      obtain ⟨y54, e55, hf⟩ := pm_lt hf
                      obtain ⟨y56, e57, hf⟩ := pm_lt hf
                      obtain ⟨y58, e59, hf⟩ := pm_lt hf
                      cases hf
                      exact ih.2.1 x1 s0 y54 y56 y58 h K0  hi
            · have hf := pm_ie hf c37
              obtain ⟨v60, e61, hf⟩ := pm_lt hf
              cases hf
              cases hi
              exact K0
          · have hf := pm_ie hf c36
            by_cases c62 : (pm_I h v24 1) = 2
            · have hf := pm_it hf c62
              obtain ⟨v63, e64, hf⟩ := pm_lt hf
              obtain ⟨v65, e66, hf⟩ := pm_lt hf
              cases hf
              cases hi
              exact K0
            · have hf := pm_ie hf c62
              by_cases c67 : (pm_I h v30 1) = 1
              · have hf := pm_it hf c67
                obtain ⟨v68, e69, hf⟩ := pm_lt hf
                obtain ⟨v70, e71, hf⟩ := pm_lt hf
                cases hf
                cases hi
                exact K0
              · have hf := pm_ie hf c67
                by_cases c72 : (pm_I h v24 1) = 1
                · have hf := pm_it hf c72
                  obtain ⟨v73, e74, hf⟩ := pm_lt hf
                  cases hf
                  cases hi
                  exact K0
                · have hf := pm_ie hf c72
                  by_cases c75 : (pm_I h v30 1) = 2
                  · have hf := pm_it hf c75
                    obtain ⟨v76, e77, hf⟩ := pm_lt hf
                    cases hf
                    cases hi
                    exact K0
                  · have hf := pm_ie hf c75
                    obtain ⟨y78, e79, hf⟩ := pm_lt hf
                    obtain ⟨y80, e81, hf⟩ := pm_lt hf
                    obtain ⟨y82, e83, hf⟩ := pm_lt hf
                    cases hf
                    exact ih.2.1 x1 s0 y78 y80 y82 h K0  hi
    refine ⟨fun x1 x6 x7 x9 x11 h K0 hf => ?_, ?_⟩
    · obtain ⟨y, hf, hi⟩ := pm_iter_s hf
      have hf : tX16_quotient_195 x1 x6 x7 x9 x11 h = some y := hf
      unfold tX16_quotient_195 at hf
      by_cases c84 : 4503599627370496 ≤ x7
      · have hf := pm_it hf c84
        cases hf
        exact ih.2.2.1 x1 x6 x7 x9 x11 h K0  hi
      · have hf := pm_ie hf c84
        obtain ⟨y85, e86, hf⟩ := pm_lt hf
        obtain ⟨y87, e88, hf⟩ := pm_lt hf
        cases hf
        exact ih.2.1 x1 x6 y87 x9 y85 h K0  hi
    refine ⟨fun x1 x6 x7 x9 x11 h K0 hf => ?_, ?_⟩
    · obtain ⟨y, hf, hi⟩ := pm_iter_s hf
      have hf : tX16_quotient_216 x1 x6 x7 x9 x11 h = some y := hf
      unfold tX16_quotient_216 at hf
      by_cases c89 : 4503599627370496 ≤ x9
      · have hf := pm_it hf c89
        cases hf
        exact ih.2.2.2 x1 x6 x7 x9 x11 0 0 h K0  hi
      · have hf := pm_ie hf c89
        obtain ⟨y90, e91, hf⟩ := pm_lt hf
        obtain ⟨y92, e93, hf⟩ := pm_lt hf
        cases hf
        exact ih.2.2.1 x1 x6 x7 y92 y90 h K0  hi
    refine fun x1 x6 x7 x9 x11 x12 x14 h K0 hf => ?_
    obtain ⟨y, hf, hi⟩ := pm_iter_s hf
    have hf : tX16_quotient_243 x1 x6 x7 x9 x11 x12 x14 h = some y := hf
    unfold tX16_quotient_243 at hf
    by_cases c94 : 57 ≤ x14
    · have hf := pm_it hf c94
      by_cases c95 : x7 = 0
      · have hf := pm_it hf c95
        obtain ⟨v96, e97, hf⟩ := pm_bd hf
        cases hf
        cases hi
        exact K0
      · have hf := pm_ie hf c95
        obtain ⟨v98, e99, hf⟩ := pm_bd hf
        cases hf
        cases hi
        exact K0
    · have hf := pm_ie hf c94
      obtain ⟨y100, e101, hf⟩ := pm_lt hf
      by_cases c102 : x7 < x9
      · have hf := pm_it hf c102
        obtain ⟨y103, e104, hf⟩ := pm_lt hf
        obtain ⟨y105, e106, hf⟩ := pm_lt hf
        cases hf
        exact ih.2.2.2 x1 x6 y103 x9 x11 y100 y105 h K0  hi
      · have hf := pm_ie hf c102
        obtain ⟨y107, e108, hf⟩ := pm_lt hf
        obtain ⟨y109, e110, hf⟩ := pm_lt hf
        obtain ⟨y111, e112, hf⟩ := pm_lt hf
        obtain ⟨y113, e114, hf⟩ := pm_lt hf
        cases hf
        exact ih.2.2.2 x1 x6 y111 x9 x11 y109 y113 h K0  hi
set_option maxHeartbeats 4000000 in
set_option maxRecDepth 100000 in
theorem wfX16_quotient {h0 h : pm_H} (K0 : pw_F WX16_quotient h0 h) {a0 : Nat} {p1 : Int32} {p2 : Int64} {p3 : Int64}  {r : (Int64 × pm_H)} (hf : fX16_quotient h a0 p1 p2 p3 = some r) : pw_F WX16_quotient h0 r.2 := by
  unfold fX16_quotient at hf
  obtain ⟨k1, hf⟩ := pm_if hf
  obtain ⟨v2, e3, hf⟩ := pm_bd hf
  obtain ⟨k4, hf⟩ := pm_if hf
  obtain ⟨v5, e6, hf⟩ := pm_bd hf
  have K7 := pw_t (by decide) K0 (wfX15_read (pw_rf _) e6)
  obtain ⟨k8, hf⟩ := pm_if hf
  obtain ⟨v9, e10, hf⟩ := pm_bd hf
  obtain ⟨k11, hf⟩ := pm_if hf
  obtain ⟨v12, e13, hf⟩ := pm_bd hf
  have K14 := pw_t (by decide) K7 (wfX15_read (pw_rf _) e13)
  obtain ⟨k15, hf⟩ := pm_if hf
  obtain ⟨v16, e17, hf⟩ := pm_bd hf
  obtain ⟨k18, hf⟩ := pm_if hf
  obtain ⟨v19, e20, hf⟩ := pm_bd hf
  obtain ⟨k21, hf⟩ := pm_if hf
  by_cases c22 : (pm_I v12 v16 0) = (pm_I v12 v19 0)
  · have hf := pm_it hf c22
    obtain ⟨n, hn⟩ := pm_lim_iter hf
    exact (wlX16_quotient n).1 a0 p1 0 v12 K14  hn
  · have hf := pm_ie hf c22
    obtain ⟨n, hn⟩ := pm_lim_iter hf
    exact (wlX16_quotient n).1 a0 p1 1 v12 K14  hn
abbrev WX16_root : List Nat := [1920, 1921, 1922, 1923]
set_option maxHeartbeats 4000000 in
set_option maxRecDepth 100000 in
theorem wlX16_root {h0 : pm_H} {r : (Int64 × pm_H)} : ∀ n : Nat, (∀ (x1 : Int32) (x4 : Int64) (x6 : Int32) (h : pm_H), pw_F WX16_root h0 h → pm_iter sX16_root n (.inl (x1, x4, x6, h)) = some r → pw_F WX16_root h0 r.2) ∧ (∀ (x1 : Int32) (x4 : Int64) (x6 : Int32) (x7 : Int64) (x9 : Int64) (x11 : Int32) (h : pm_H), pw_F WX16_root h0 h → pm_iter sX16_root n (.inr (x1, x4, x6, x7, x9, x11, h)) = some r → pw_F WX16_root h0 r.2) := by
  intro n
  induction n with
  | zero => exact ⟨fun _ _ _ _ _ hf => (by cases hf), fun _ _ _ _ _ _ _ _ hf => (by cases hf)⟩
  | succ n ih =>
    refine ⟨fun x1 x4 x6 h K0 hf => ?_, ?_⟩
    · obtain ⟨y, hf, hi⟩ := pm_iter_s hf
      have hf : tX16_root_79 x1 x4 x6 h = some y := hf
      unfold tX16_root_79 at hf
      by_cases c24 : x4 < 4503599627370496
      · have hf := pm_it hf c24
        obtain ⟨y25, e26, hf⟩ := pm_lt hf
        obtain ⟨y27, e28, hf⟩ := pm_lt hf
        cases hf
        exact ih.1 x1 y25 y27 h K0  hi
      · have hf := pm_ie hf c24
        by_cases c29 : (x6 - x6 / 2 * 2) = 0
        · have hf := pm_it hf c29
          cases hf
          exact ih.2 x1 x4 x6 0 0 28 h K0  hi
        · have hf := pm_ie hf c29
          obtain ⟨y30, e31, hf⟩ := pm_lt hf
          obtain ⟨y32, e33, hf⟩ := pm_lt hf
          cases hf
          exact ih.1 x1 y30 y32 h K0  hi
    refine fun x1 x4 x6 x7 x9 x11 h K0 hf => ?_
    obtain ⟨y, hf, hi⟩ := pm_iter_s hf
    have hf : tX16_root_117 x1 x4 x6 x7 x9 x11 h = some y := hf
    unfold tX16_root_117 at hf
    by_cases c34 : x11 ≤ (-30)
    · have hf := pm_it hf c34
      by_cases c35 : x7 = 0
      · have hf := pm_it hf c35
        obtain ⟨v36, e37, hf⟩ := pm_bd hf
        cases hf
        cases hi
        exact K0
      · have hf := pm_ie hf c35
        obtain ⟨v38, e39, hf⟩ := pm_bd hf
        cases hf
        cases hi
        exact K0
    · have hf := pm_ie hf c34
      by_cases c40 : 0 ≤ x11
      · have hf := pm_it hf c40
        obtain ⟨y41, e42, hf⟩ := pm_lt hf
        obtain ⟨y43, e44, hf⟩ := pm_lt hf
        obtain ⟨y45, e46, hf⟩ := pm_lt hf
        by_cases c47 : y41 < y43
        · have hf := pm_it hf c47
          obtain ⟨y48, e49, hf⟩ := pm_lt hf
          cases hf
          exact ih.2 x1 x4 x6 y41 y45 y48 h K0  hi
        · have hf := pm_ie hf c47
          obtain ⟨y50, e51, hf⟩ := pm_lt hf
          obtain ⟨y52, e53, hf⟩ := pm_lt hf
          obtain ⟨y54, e55, hf⟩ := pm_lt hf
          cases hf
          exact ih.2 x1 x4 x6 y50 y52 y54 h K0  hi
      · have hf := pm_ie hf c40
        obtain ⟨y56, e57, hf⟩ := pm_lt hf
        obtain ⟨y58, e59, hf⟩ := pm_lt hf
        obtain ⟨y60, e61, hf⟩ := pm_lt hf
        by_cases c62 : y56 < y58
        · have hf := pm_it hf c62
          obtain ⟨y63, e64, hf⟩ := pm_lt hf
          cases hf
          exact ih.2 x1 x4 x6 y56 y60 y63 h K0  hi
        · have hf := pm_ie hf c62
          obtain ⟨y65, e66, hf⟩ := pm_lt hf
          obtain ⟨y67, e68, hf⟩ := pm_lt hf
          obtain ⟨y69, e70, hf⟩ := pm_lt hf
          cases hf
          exact ih.2 x1 x4 x6 y65 y67 y69 h K0  hi
set_option maxHeartbeats 4000000 in
set_option maxRecDepth 100000 in
theorem wfX16_root {h0 h : pm_H} (K0 : pw_F WX16_root h0 h) {a0 : Nat} {p1 : Int32} {p2 : Int64}  {r : (Int64 × pm_H)} (hf : fX16_root h a0 p1 p2 = some r) : pw_F WX16_root h0 r.2 := by
  unfold fX16_root at hf
  obtain ⟨k1, hf⟩ := pm_if hf
  obtain ⟨v2, e3, hf⟩ := pm_bd hf
  obtain ⟨k4, hf⟩ := pm_if hf
  obtain ⟨v5, e6, hf⟩ := pm_bd hf
  have K7 := pw_t (by decide) K0 (wfX15_read (pw_rf _) e6)
  obtain ⟨k8, hf⟩ := pm_if hf
  obtain ⟨v9, e10, hf⟩ := pm_bd hf
  obtain ⟨k11, hf⟩ := pm_if hf
  by_cases c12 : (pm_I v5 v9 1) = 1
  · have hf := pm_it hf c12
    cases hf
    exact K7
  · have hf := pm_ie hf c12
    by_cases c13 : (pm_I v5 v9 1) = 3
    · have hf := pm_it hf c13
      obtain ⟨v14, e15, hf⟩ := pm_lt hf
      cases hf
      exact K7
    · have hf := pm_ie hf c13
      by_cases c16 : (pm_I v5 v9 0) = 0
      · have hf := pm_it hf c16
        by_cases c17 : (pm_I v5 v9 1) = 2
        · have hf := pm_it hf c17
          cases hf
          exact K7
        · have hf := pm_ie hf c17
          obtain ⟨y18, e19, hf⟩ := pm_lt hf
          obtain ⟨y20, e21, hf⟩ := pm_lt hf
          obtain ⟨n, hn⟩ := pm_lim_iter hf
          exact (wlX16_root n).1 p1 y18 y20 v5 K7  hn
      · have hf := pm_ie hf c16
        obtain ⟨v22, e23, hf⟩ := pm_lt hf
        cases hf
        exact K7
abbrev WX16_sum : List Nat := [1920, 1921, 1922, 1923]
set_option maxHeartbeats 4000000 in
set_option maxRecDepth 100000 in
theorem wfX16_sum_b207 {h0 h : pm_H} (K0 : pw_F WX16_sum h0 h) {x0 : Nat} {x1 : Int32} {x2 : Int64} {x4 : Int64}  {r : (Int64 × pm_H)} (hf : fX16_sum_b207 h x0 x1 x2 x4 = some r) : pw_F WX16_sum h0 r.2 := by
  unfold fX16_sum_b207 at hf
  obtain ⟨k63, hf⟩ := pm_if hf
  obtain ⟨v64, e65, hf⟩ := pm_bd hf
  obtain ⟨k66, hf⟩ := pm_if hf
  by_cases c67 : (pm_I h v64 1) = 1
  · have hf := pm_it hf c67
    obtain ⟨v68, e69, hf⟩ := pm_bd hf
    obtain ⟨k70, hf⟩ := pm_if hf
    obtain ⟨v71, e72, hf⟩ := pm_lt hf
    obtain ⟨v73, e74, hf⟩ := pm_lt hf
    cases hf
    exact K0
  · have hf := pm_ie hf c67
    obtain ⟨v75, e76, hf⟩ := pm_bd hf
    obtain ⟨k77, hf⟩ := pm_if hf
    by_cases c78 : (pm_I h v75 1) = 1
    · have hf := pm_it hf c78
      cases hf
      exact K0
    · have hf := pm_ie hf c78
      by_cases c79 : (pm_I h v64 3) < (pm_I h v75 3)
      · have hf := pm_it hf c79
        by_cases c80 : (pm_I h v64 3) < (pm_I h v75 3)
        · have hf := pm_it hf c80
          obtain ⟨v81, e82, hf⟩ := pm_bd hf
          cases hf
          exact K0
        · have hf := pm_ie hf c80
          obtain ⟨v83, e84, hf⟩ := pm_bd hf
          cases hf
          exact K0
      · have hf := pm_ie hf c79
        by_cases c85 : (pm_I h v64 3) < (pm_I h v75 3)
        · have hf := pm_it hf c85
          obtain ⟨v86, e87, hf⟩ := pm_bd hf
          cases hf
          exact K0
        · have hf := pm_ie hf c85
          obtain ⟨v88, e89, hf⟩ := pm_bd hf
          cases hf
          exact K0
set_option maxHeartbeats 4000000 in
set_option maxRecDepth 100000 in
theorem wfX16_sum_b114 {h0 h : pm_H} (K0 : pw_F WX16_sum h0 h) {x0 : Nat} {x1 : Int32} {x2 : Int64} {x4 : Int64}  {r : (Int64 × pm_H)} (hf : fX16_sum_b114 h x0 x1 x2 x4 = some r) : pw_F WX16_sum h0 r.2 := by
  unfold fX16_sum_b114 at hf
  obtain ⟨k40, hf⟩ := pm_if hf
  obtain ⟨v41, e42, hf⟩ := pm_bd hf
  obtain ⟨k43, hf⟩ := pm_if hf
  by_cases c44 : (pm_I h v41 1) = 2
  · have hf := pm_it hf c44
    cases hf
    exact K0
  · have hf := pm_ie hf c44
    obtain ⟨v45, e46, hf⟩ := pm_bd hf
    obtain ⟨k47, hf⟩ := pm_if hf
    by_cases c48 : (pm_I h v45 1) = 2
    · have hf := pm_it hf c48
      obtain ⟨v49, e50, hf⟩ := pm_lt hf
      obtain ⟨v51, e52, hf⟩ := pm_lt hf
      cases hf
      exact K0
    · have hf := pm_ie hf c48
      by_cases c53 : (pm_I h v41 1) = 1
      · have hf := pm_it hf c53
        by_cases c54 : (pm_I h v45 1) = 1
        · have hf := pm_it hf c54
          by_cases c55 : (pm_I h v41 0) = 0
          · have hf := pm_it hf c55
            obtain ⟨v56, e57, hf⟩ := pm_lt hf
            cases hf
            exact K0
          · have hf := pm_ie hf c55
            by_cases c58 : (pm_I h v45 0) = 0
            · have hf := pm_it hf c58
              obtain ⟨v59, e60, hf⟩ := pm_lt hf
              cases hf
              exact K0
            · have hf := pm_ie hf c58
              obtain ⟨v61, e62, hf⟩ := pm_lt hf
              cases hf
              exact K0
        · have hf := pm_ie hf c54
          exact wfX16_sum_b207 K0  hf
      · have hf := pm_ie hf c53
        exact wfX16_sum_b207 K0  hf
set_option maxHeartbeats 4000000 in
set_option maxRecDepth 100000 in
theorem wfX16_sum_b40 {h0 h : pm_H} (K0 : pw_F WX16_sum h0 h) {x0 : Nat} {x1 : Int32} {x2 : Int64} {x4 : Int64} {s0 : Int32} {s1 : Nat}  {r : (Int64 × pm_H)} (hf : fX16_sum_b40 h x0 x1 x2 x4 s0 s1 = some r) : pw_F WX16_sum h0 r.2 := by
  unfold fX16_sum_b40 at hf
  obtain ⟨k20, hf⟩ := pm_if hf
  obtain ⟨u21, hf⟩ := pm_if hf
  obtain ⟨k22, hf⟩ := pm_if hf
  have k22b := (congrFun (pkI rfl) x0).symm.trans k22
  obtain ⟨v23, e24, hf⟩ := pm_bd hf
  obtain ⟨k25, hf⟩ := pm_if hf
  have k25b := (congrFun (pkI rfl) v23).symm.trans k25
  by_cases c26 : (pm_I (pm_setI h s1 0 s0) v23 1) = 3
  · have hf := pm_it hf c26
    obtain ⟨v27, e28, hf⟩ := pm_lt hf
    cases hf
    exact (pw_sI K0 rfl k20 (by decide))
  · have hf := pm_ie hf c26
    obtain ⟨v29, e30, hf⟩ := pm_bd hf
    obtain ⟨k31, hf⟩ := pm_if hf
    have k31b := (congrFun (pkI rfl) v29).symm.trans k31
    by_cases c32 : (pm_I (pm_setI h s1 0 s0) v29 1) = 3
    · have hf := pm_it hf c32
      obtain ⟨v33, e34, hf⟩ := pm_lt hf
      cases hf
      exact (pw_sI K0 rfl k20 (by decide))
    · have hf := pm_ie hf c32
      by_cases c35 : (pm_I (pm_setI h s1 0 s0) v23 1) = 2
      · have hf := pm_it hf c35
        by_cases c36 : (pm_I (pm_setI h s1 0 s0) v29 1) = 2
        · have hf := pm_it hf c36
          by_cases c37 : (pm_I (pm_setI h s1 0 s0) v23 0) = (pm_I (pm_setI h s1 0 s0) v29 0)
          · have hf := pm_it hf c37
            exact wfX16_sum_b114 (pw_sI K0 rfl k20 (by decide))  hf
          · have hf := pm_ie hf c37
            obtain ⟨v38, e39, hf⟩ := pm_lt hf
            cases hf
            exact (pw_sI K0 rfl k20 (by decide))
        · have hf := pm_ie hf c36
          exact wfX16_sum_b114 (pw_sI K0 rfl k20 (by decide))  hf
      · have hf := pm_ie hf c35
        exact wfX16_sum_b114 (pw_sI K0 rfl k20 (by decide))  hf
set_option maxHeartbeats 4000000 in
set_option maxRecDepth 100000 in
theorem wfX16_sum {h0 h : pm_H} (K0 : pw_F WX16_sum h0 h) {a0 : Nat} {p1 : Int32} {p2 : Int64} {p3 : Int64} {p4 : Int32}  {r : (Int64 × pm_H)} (hf : fX16_sum h a0 p1 p2 p3 p4 = some r) : pw_F WX16_sum h0 r.2 := by
  unfold fX16_sum at hf
  obtain ⟨k1, hf⟩ := pm_if hf
  obtain ⟨v2, e3, hf⟩ := pm_bd hf
  obtain ⟨k4, hf⟩ := pm_if hf
  obtain ⟨v5, e6, hf⟩ := pm_bd hf
  have K7 := pw_t (by decide) K0 (wfX15_read (pw_rf _) e6)
  obtain ⟨k8, hf⟩ := pm_if hf
  obtain ⟨v9, e10, hf⟩ := pm_bd hf
  obtain ⟨k11, hf⟩ := pm_if hf
  obtain ⟨v12, e13, hf⟩ := pm_bd hf
  have K14 := pw_t (by decide) K7 (wfX15_read (pw_rf _) e13)
  obtain ⟨k15, hf⟩ := pm_if hf
  obtain ⟨v16, e17, hf⟩ := pm_bd hf
  obtain ⟨k18, hf⟩ := pm_if hf
  by_cases c19 : (pm_I v12 v16 0) = p4
  · have hf := pm_it hf c19
    exact wfX16_sum_b40 K14  hf
  · have hf := pm_ie hf c19
    exact wfX16_sum_b40 K14  hf
abbrev WX16_turned : List Nat := [1920, 1921, 1922, 1923, 2081]
set_option maxHeartbeats 4000000 in
set_option maxRecDepth 100000 in
theorem wfX16_turned_b101 {h0 h : pm_H} (K0 : pw_F WX16_turned h0 h) {x0 : Nat} {x1 : Int32} {x2 : Int32} {x3 : Int64}  {r : (Int64 × pm_H)} (hf : fX16_turned_b101 h x0 x1 x2 x3 = some r) : pw_F WX16_turned h0 r.2 := by
  unfold fX16_turned_b101 at hf
  by_cases c44 : x1 = 167
  · have hf := pm_it hf c44
    cases hf
    exact K0
  have hf := pm_ie hf c44
  by_cases c45 : x1 = 168
  · have hf := pm_it hf c45
    cases hf
    exact K0
  have hf := pm_ie hf c45
  by_cases c46 : x1 = 169
  · have hf := pm_it hf c46
    cases hf
    exact K0
  have hf := pm_ie hf c46
  by_cases c47 : x1 = 170
  · have hf := pm_it hf c47
    cases hf
    exact K0
  have hf := pm_ie hf c47
  by_cases c48 : x1 = 171
  · have hf := pm_it hf c48
    cases hf
    exact K0
  have hf := pm_ie hf c48
  by_cases c49 : x1 = 172
  · have hf := pm_it hf c49
    cases hf
    exact K0
  have hf := pm_ie hf c49
  by_cases c50 : x1 = 173
  · have hf := pm_it hf c50
    cases hf
    exact K0
  have hf := pm_ie hf c50
  by_cases c51 : x1 = 174
  · have hf := pm_it hf c51
    cases hf
    exact K0
  have hf := pm_ie hf c51
  by_cases c52 : x1 = 175
  · have hf := pm_it hf c52
    cases hf
    exact K0
  have hf := pm_ie hf c52
  by_cases c53 : x1 = 176
  · have hf := pm_it hf c53
    cases hf
    exact K0
  have hf := pm_ie hf c53
  by_cases c54 : x1 = 177
  · have hf := pm_it hf c54
    cases hf
    exact K0
  have hf := pm_ie hf c54
  by_cases c55 : x1 = 178
  · have hf := pm_it hf c55
    obtain ⟨v56, e57, hf⟩ := pm_lt hf
    by_cases c58 : 0 ≤ x3.toInt32
    · have hf := pm_it hf c58
      by_cases c59 : 0 ≤ x3.toInt32
      · have hf := pm_it hf c59
        obtain ⟨v60, e61, hf⟩ := pm_bd hf
        cases hf
        exact K0
      · have hf := pm_ie hf c59
        obtain ⟨v62, e63, hf⟩ := pm_bd hf
        cases hf
        exact K0
    · have hf := pm_ie hf c58
      by_cases c64 : 0 ≤ x3.toInt32
      · have hf := pm_it hf c64
        obtain ⟨v65, e66, hf⟩ := pm_bd hf
        cases hf
        exact K0
      · have hf := pm_ie hf c64
        obtain ⟨v67, e68, hf⟩ := pm_bd hf
        cases hf
        exact K0
  have hf := pm_ie hf c55
  by_cases c69 : x1 = 179
  · have hf := pm_it hf c69
    obtain ⟨v70, e71, hf⟩ := pm_lt hf
    obtain ⟨v72, e73, hf⟩ := pm_bd hf
    cases hf
    exact K0
  have hf := pm_ie hf c69
  by_cases c74 : x1 = 180
  · have hf := pm_it hf c74
    obtain ⟨v75, e76, hf⟩ := pm_lt hf
    by_cases c77 : 0 ≤ x3
    · have hf := pm_it hf c77
      by_cases c78 : 0 ≤ x3
      · have hf := pm_it hf c78
        obtain ⟨v79, e80, hf⟩ := pm_bd hf
        cases hf
        exact K0
      · have hf := pm_ie hf c78
        obtain ⟨v81, e82, hf⟩ := pm_bd hf
        cases hf
        exact K0
    · have hf := pm_ie hf c77
      by_cases c83 : 0 ≤ x3
      · have hf := pm_it hf c83
        obtain ⟨v84, e85, hf⟩ := pm_bd hf
        cases hf
        exact K0
      · have hf := pm_ie hf c83
        obtain ⟨v86, e87, hf⟩ := pm_bd hf
        cases hf
        exact K0
  have hf := pm_ie hf c74
  by_cases c88 : x1 = 181
  · have hf := pm_it hf c88
    obtain ⟨v89, e90, hf⟩ := pm_lt hf
    obtain ⟨v91, e92, hf⟩ := pm_bd hf
    cases hf
    exact K0
  have hf := pm_ie hf c88
  by_cases c93 : x1 = 182
  · have hf := pm_it hf c93
    obtain ⟨v94, e95, hf⟩ := pm_lt hf
    obtain ⟨k96, hf⟩ := pm_if hf
    obtain ⟨v97, e98, hf⟩ := pm_bd hf
    have K99 := pw_t (by decide) K0 (wfX16_moved (pw_rf _) e98)
    cases hf
    exact K99
  have hf := pm_ie hf c93
  by_cases c100 : x1 = 183
  · have hf := pm_it hf c100
    obtain ⟨v101, e102, hf⟩ := pm_lt hf
    by_cases c103 : 0 ≤ x3.toInt32
    · have hf := pm_it hf c103
      by_cases c104 : 0 ≤ x3.toInt32
      · have hf := pm_it hf c104
        obtain ⟨v105, e106, hf⟩ := pm_bd hf
        cases hf
        exact K0
      · have hf := pm_ie hf c104
        obtain ⟨v107, e108, hf⟩ := pm_bd hf
        cases hf
        exact K0
    · have hf := pm_ie hf c103
      by_cases c109 : 0 ≤ x3.toInt32
      · have hf := pm_it hf c109
        obtain ⟨v110, e111, hf⟩ := pm_bd hf
        cases hf
        exact K0
      · have hf := pm_ie hf c109
        obtain ⟨v112, e113, hf⟩ := pm_bd hf
        cases hf
        exact K0
  have hf := pm_ie hf c100
  by_cases c114 : x1 = 184
  · have hf := pm_it hf c114
    obtain ⟨v115, e116, hf⟩ := pm_lt hf
    obtain ⟨v117, e118, hf⟩ := pm_bd hf
    cases hf
    exact K0
  have hf := pm_ie hf c114
  by_cases c119 : x1 = 185
  · have hf := pm_it hf c119
    obtain ⟨v120, e121, hf⟩ := pm_lt hf
    by_cases c122 : 0 ≤ x3
    · have hf := pm_it hf c122
      by_cases c123 : 0 ≤ x3
      · have hf := pm_it hf c123
        obtain ⟨v124, e125, hf⟩ := pm_bd hf
        cases hf
        exact K0
      · have hf := pm_ie hf c123
        obtain ⟨v126, e127, hf⟩ := pm_bd hf
        cases hf
        exact K0
    · have hf := pm_ie hf c122
      by_cases c128 : 0 ≤ x3
      · have hf := pm_it hf c128
        obtain ⟨v129, e130, hf⟩ := pm_bd hf
        cases hf
        exact K0
      · have hf := pm_ie hf c128
        obtain ⟨v131, e132, hf⟩ := pm_bd hf
        cases hf
        exact K0
  have hf := pm_ie hf c119
  by_cases c133 : x1 = 186
  · have hf := pm_it hf c133
    obtain ⟨v134, e135, hf⟩ := pm_lt hf
    obtain ⟨v136, e137, hf⟩ := pm_bd hf
    cases hf
    exact K0
  have hf := pm_ie hf c133
  by_cases c138 : x1 = 187
  · have hf := pm_it hf c138
    obtain ⟨v139, e140, hf⟩ := pm_lt hf
    obtain ⟨k141, hf⟩ := pm_if hf
    obtain ⟨v142, e143, hf⟩ := pm_bd hf
    have K144 := pw_t (by decide) K0 (wfX16_moved (pw_rf _) e143)
    cases hf
    exact K144
  have hf := pm_ie hf c138
  by_cases c145 : x1 = 188
  · have hf := pm_it hf c145
    cases hf
    exact K0
  have hf := pm_ie hf c145
  by_cases c146 : x1 = 189
  · have hf := pm_it hf c146
    cases hf
    exact K0
  have hf := pm_ie hf c146
  by_cases c147 : x1 = 190
  · have hf := pm_it hf c147
    cases hf
    exact K0
  have hf := pm_ie hf c147
  by_cases c148 : x1 = 191
  · have hf := pm_it hf c148
    cases hf
    exact K0
  have hf := pm_ie hf c148
  by_cases c149 : x1 = 192
  · have hf := pm_it hf c149
    by_cases c150 : x1 = 192
    · have hf := pm_it hf c150
      cases hf
      exact K0
    · have hf := pm_ie hf c150
      cases hf
      exact K0
  have hf := pm_ie hf c149
  by_cases c151 : x1 = 193
  · have hf := pm_it hf c151
    by_cases c152 : x1 = 193
    · have hf := pm_it hf c152
      cases hf
      exact K0
    · have hf := pm_ie hf c152
      cases hf
      exact K0
  have hf := pm_ie hf c151
  by_cases c153 : x1 = 194
  · have hf := pm_it hf c153
    by_cases c154 : x1 = 192
    · have hf := pm_it hf c154
      cases hf
      exact K0
    · have hf := pm_ie hf c154
      cases hf
      exact K0
  have hf := pm_ie hf c153
  by_cases c155 : x1 = 195
  · have hf := pm_it hf c155
    by_cases c156 : x1 = 193
    · have hf := pm_it hf c156
      cases hf
      exact K0
    · have hf := pm_ie hf c156
      cases hf
      exact K0
  have hf := pm_ie hf c155
  by_cases c157 : x1 = 196
  · have hf := pm_it hf c157
    cases hf
    exact K0
  have hf := pm_ie hf c157
  cases hf
  exact K0
set_option maxHeartbeats 4000000 in
set_option maxRecDepth 100000 in
theorem wfX16_turned_b68 {h0 h : pm_H} (K0 : pw_F WX16_turned h0 h) {x0 : Nat} {x1 : Int32} {x2 : Int32} {x3 : Int64}  {r : (Int64 × pm_H)} (hf : fX16_turned_b68 h x0 x1 x2 x3 = some r) : pw_F WX16_turned h0 r.2 := by
  unfold fX16_turned_b68 at hf
  by_cases c25 : 172 ≤ x1
  · have hf := pm_it hf c25
    by_cases c26 : (x1 - x1 / 2 * 2) = 0
    · have hf := pm_it hf c26
      obtain ⟨k27, hf⟩ := pm_if hf
      obtain ⟨v28, e29, hf⟩ := pm_bd hf
      have K30 := pw_t (by decide) K0 (wfX16_towards (pw_rf _) e29)
      cases hf
      exact K30
    · have hf := pm_ie hf c26
      obtain ⟨k31, hf⟩ := pm_if hf
      obtain ⟨v32, e33, hf⟩ := pm_bd hf
      have K34 := pw_t (by decide) K0 (wfX16_towards (pw_rf _) e33)
      cases hf
      exact K34
  · have hf := pm_ie hf c25
    by_cases c35 : (x1 - x1 / 2 * 2) = 0
    · have hf := pm_it hf c35
      obtain ⟨k36, hf⟩ := pm_if hf
      obtain ⟨v37, e38, hf⟩ := pm_bd hf
      have K39 := pw_t (by decide) K0 (wfX16_towards (pw_rf _) e38)
      cases hf
      exact K39
    · have hf := pm_ie hf c35
      obtain ⟨k40, hf⟩ := pm_if hf
      obtain ⟨v41, e42, hf⟩ := pm_bd hf
      have K43 := pw_t (by decide) K0 (wfX16_towards (pw_rf _) e42)
      cases hf
      exact K43
set_option maxHeartbeats 4000000 in
set_option maxRecDepth 100000 in
theorem wfX16_turned_b54 {h0 h : pm_H} (K0 : pw_F WX16_turned h0 h) {x0 : Nat} {x1 : Int32} {x2 : Int32} {x3 : Int64}  {r : (Int64 × pm_H)} (hf : fX16_turned_b54 h x0 x1 x2 x3 = some r) : pw_F WX16_turned h0 r.2 := by
  unfold fX16_turned_b54 at hf
  by_cases c23 : x1 < 174
  · have hf := pm_it hf c23
    exact wfX16_turned_b101 K0  hf
  · have hf := pm_ie hf c23
    by_cases c24 : 178 ≤ x1
    · have hf := pm_it hf c24
      exact wfX16_turned_b101 K0  hf
    · have hf := pm_ie hf c24
      exact wfX16_turned_b68 K0  hf
set_option maxHeartbeats 4000000 in
set_option maxRecDepth 100000 in
theorem wfX16_turned {h0 h : pm_H} (K0 : pw_F WX16_turned h0 h) {a0 : Nat} {p1 : Int32} {p2 : Int32} {p3 : Int64}  {r : (Int64 × pm_H)} (hf : fX16_turned h a0 p1 p2 p3 = some r) : pw_F WX16_turned h0 r.2 := by
  unfold fX16_turned at hf
  by_cases c1 : p1 < 200
  · have hf := pm_it hf c1
    by_cases c2 : p1 < 168
    · have hf := pm_it hf c2
      exact wfX16_turned_b54 K0  hf
    · have hf := pm_ie hf c2
      by_cases c3 : p1 < 172
      · have hf := pm_it hf c3
        exact wfX16_turned_b68 K0  hf
      · have hf := pm_ie hf c3
        exact wfX16_turned_b54 K0  hf
  · have hf := pm_ie hf c1
    by_cases c4 : 204 ≤ p1
    · have hf := pm_it hf c4
      by_cases c5 : (p1 - p1 / 2 * 2) = 0
      · have hf := pm_it hf c5
        obtain ⟨k6, hf⟩ := pm_if hf
        obtain ⟨v7, e8, hf⟩ := pm_bd hf
        have K9 := pw_t (by decide) K0 (wfX16_towards (pw_rf _) e8)
        cases hf
        exact K9
      · have hf := pm_ie hf c5
        obtain ⟨k10, hf⟩ := pm_if hf
        obtain ⟨v11, e12, hf⟩ := pm_bd hf
        have K13 := pw_t (by decide) K0 (wfX16_towards (pw_rf _) e12)
        cases hf
        exact K13
    · have hf := pm_ie hf c4
      by_cases c14 : (p1 - p1 / 2 * 2) = 0
      · have hf := pm_it hf c14
        obtain ⟨k15, hf⟩ := pm_if hf
        obtain ⟨v16, e17, hf⟩ := pm_bd hf
        have K18 := pw_t (by decide) K0 (wfX16_towards (pw_rf _) e17)
        cases hf
        exact K18
      · have hf := pm_ie hf c14
        obtain ⟨k19, hf⟩ := pm_if hf
        obtain ⟨v20, e21, hf⟩ := pm_bd hf
        have K22 := pw_t (by decide) K0 (wfX16_towards (pw_rf _) e21)
        cases hf
        exact K22
abbrev WX16_turns : List Nat := [2058, 2067, 2093, 2124, 2125, 2127, 2128, 2131, 2133, 2141, 2142, 2143, 2144, 4096, 4352, 4480]
set_option maxHeartbeats 4000000 in
set_option maxRecDepth 100000 in
theorem wlX16_turns {h0 : pm_H} {r : pm_H} : ∀ n : Nat, (∀ (x0 : Nat) (x8 : Int64) (x10 : Int64) (x12 : Int64) (h : pm_H), pw_F WX16_turns h0 h → pm_iter sX16_turns n (x0, x8, x10, x12, h) = some r → pw_F WX16_turns h0 r) := by
  intro n
  induction n with
  | zero => exact fun _ _ _ _ _ _ hf => (by cases hf)
  | succ n ih =>
    refine fun x0 x8 x10 x12 h K0 hf => ?_
    obtain ⟨y, hf, hi⟩ := pm_iter_s hf
    have hf : tX16_turns_222 x0 x8 x10 x12 h = some y := hf
    unfold tX16_turns_222 at hf
    by_cases c150 : x8 ≤ x12
    · have hf := pm_it hf c150
      obtain ⟨k151, hf⟩ := pm_if hf
      obtain ⟨v152, e153, hf⟩ := pm_bd hf
      have K154 := pw_t (by decide) K0 (wfX16_branches (pw_rf _) e153)
      cases hf
      cases hi
      exact K154
    · have hf := pm_ie hf c150
      obtain ⟨k155, hf⟩ := pm_if hf
      obtain ⟨v156, e157, hf⟩ := pm_bd hf
      have K158 := pw_t (by decide) K0 (wfX16_word (pw_rf _) e157)
      obtain ⟨y159, e160, hf⟩ := pm_lt hf
      cases hf
      exact ih x0 x8 v156.1 y159 v156.2 K158  hi
set_option maxHeartbeats 4000000 in
set_option maxRecDepth 100000 in
theorem wfX16_turns {h0 h : pm_H} (K0 : pw_F WX16_turns h0 h) {a0 : Nat} {p1 : Int32} {p2 : Int32}  {r : pm_H} (hf : fX16_turns h a0 p1 p2 = some r) : pw_F WX16_turns h0 r := by
  unfold fX16_turns at hf
  by_cases c1 : p1 = 0
  · have hf := pm_it hf c1
    obtain ⟨k2, hf⟩ := pm_if hf
    obtain ⟨v3, e4, hf⟩ := pm_bd hf
    have K5 := pw_t (by decide) K0 (wfX16_endsBy (pw_rf _) e4)
    cases hf
    exact K5
  have hf := pm_ie hf c1
  by_cases c6 : p1 = 1
  · have hf := pm_it hf c6
    cases hf
    exact K0
  have hf := pm_ie hf c6
  by_cases c7 : p1 = 2
  · have hf := pm_it hf c7
    cases hf
    exact K0
  have hf := pm_ie hf c7
  by_cases c8 : p1 = 3
  · have hf := pm_it hf c8
    cases hf
    exact K0
  have hf := pm_ie hf c8
  by_cases c9 : p1 = 4
  · have hf := pm_it hf c9
    obtain ⟨k10, hf⟩ := pm_if hf
    obtain ⟨v11, e12, hf⟩ := pm_bd hf
    have K13 := pw_t (by decide) K0 (wfX16_opensIf (pw_rf _) e12)
    cases hf
    exact K13
  have hf := pm_ie hf c9
  by_cases c14 : p1 = 5
  · have hf := pm_it hf c14
    cases hf
    exact K0
  have hf := pm_ie hf c14
  by_cases c15 : p1 = 6
  · have hf := pm_it hf c15
    cases hf
    exact K0
  have hf := pm_ie hf c15
  by_cases c16 : p1 = 7
  · have hf := pm_it hf c16
    cases hf
    exact K0
  have hf := pm_ie hf c16
  by_cases c17 : p1 = 8
  · have hf := pm_it hf c17
    cases hf
    exact K0
  have hf := pm_ie hf c17
  by_cases c18 : p1 = 9
  · have hf := pm_it hf c18
    cases hf
    exact K0
  have hf := pm_ie hf c18
  by_cases c19 : p1 = 10
  · have hf := pm_it hf c19
    cases hf
    exact K0
  have hf := pm_ie hf c19
  by_cases c20 : p1 = 11
  · have hf := pm_it hf c20
    cases hf
    exact K0
  have hf := pm_ie hf c20
  by_cases c21 : p1 = 12
  · have hf := pm_it hf c21
    obtain ⟨k22, hf⟩ := pm_if hf
    obtain ⟨v23, e24, hf⟩ := pm_bd hf
    have K25 := pw_t (by decide) K0 (wfX16_word (pw_rf _) e24)
    obtain ⟨k26, hf⟩ := pm_if hf
    obtain ⟨v27, e28, hf⟩ := pm_bd hf
    have K29 := pw_t (by decide) K25 (wfX16_branches (pw_rf _) e28)
    cases hf
    exact K29
  have hf := pm_ie hf c21
  by_cases c30 : p1 = 13
  · have hf := pm_it hf c30
    obtain ⟨k31, hf⟩ := pm_if hf
    obtain ⟨v32, e33, hf⟩ := pm_bd hf
    have K34 := pw_t (by decide) K0 (wfX16_word (pw_rf _) e33)
    obtain ⟨k35, hf⟩ := pm_if hf
    obtain ⟨v36, e37, hf⟩ := pm_bd hf
    have K38 := pw_t (by decide) K34 (wfX16_pop (pw_rf _) e37)
    by_cases c39 : v36.1 = 0
    · have hf := pm_it hf c39
      cases hf
      exact K38
    · have hf := pm_ie hf c39
      obtain ⟨k40, hf⟩ := pm_if hf
      obtain ⟨v41, e42, hf⟩ := pm_bd hf
      have K43 := pw_t (by decide) K38 (wfX16_branches (pw_rf _) e42)
      cases hf
      exact K43
  have hf := pm_ie hf c30
  by_cases c44 : p1 = 14
  · have hf := pm_it hf c44
    obtain ⟨k45, hf⟩ := pm_if hf
    obtain ⟨v46, e47, hf⟩ := pm_bd hf
    have K48 := pw_t (by decide) K0 (wfX16_word (pw_rf _) e47)
    obtain ⟨k49, hf⟩ := pm_if hf
    obtain ⟨v50, e51, hf⟩ := pm_bd hf
    have K52 := pw_t (by decide) K48 (wfX16_pop (pw_rf _) e51)
    by_cases c53 : v46.1 ≤ v50.1
    · have hf := pm_it hf c53
      obtain ⟨k54, hf⟩ := pm_if hf
      obtain ⟨v55, e56, hf⟩ := pm_bd hf
      have K57 := pw_t (by decide) K52 (wfX16_word (pw_rf _) e56)
      obtain ⟨n, hn⟩ := pm_lim_iter hf
      exact (wlX16_turns n) a0 v46.1 v55.1 0 v55.2 K57  hn
    · have hf := pm_ie hf c53
      obtain ⟨k58, hf⟩ := pm_if hf
      obtain ⟨v59, e60, hf⟩ := pm_bd hf
      have K61 := pw_t (by decide) K52 (wfX16_word (pw_rf _) e60)
      obtain ⟨n, hn⟩ := pm_lim_iter hf
      exact (wlX16_turns n) a0 v50.1 v59.1 0 v59.2 K61  hn
  have hf := pm_ie hf c44
  by_cases c62 : p1 = 15
  · have hf := pm_it hf c62
    obtain ⟨k63, hf⟩ := pm_if hf
    obtain ⟨v64, e65, hf⟩ := pm_bd hf
    obtain ⟨y66, e67, hf⟩ := pm_lt hf
    obtain ⟨k68, hf⟩ := pm_if hf
    obtain ⟨u69, hf⟩ := pm_if hf
    obtain ⟨v70, e71, hf⟩ := pm_bd hf
    have K72 := pw_t (by decide) K0 (wfX16_branches (pw_rf _) e71)
    cases hf
    exact K72
  have hf := pm_ie hf c62
  by_cases c73 : p1 = 16
  · have hf := pm_it hf c73
    obtain ⟨k74, hf⟩ := pm_if hf
    obtain ⟨v75, e76, hf⟩ := pm_bd hf
    obtain ⟨v77, e78, hf⟩ := pm_bd hf
    have K79 := pw_t (by decide) K0 (wfX16_word (pw_rf _) e78)
    obtain ⟨y80, e81, hf⟩ := pm_lt hf
    obtain ⟨k82, hf⟩ := pm_if hf
    obtain ⟨u83, hf⟩ := pm_if hf
    obtain ⟨k84, hf⟩ := pm_if hf
    obtain ⟨v85, e86, hf⟩ := pm_bd hf
    have K87 := pw_t (by decide) K79 (wfX16_invokes (pw_rf _) e86)
    cases hf
    exact K87
  have hf := pm_ie hf c73
  by_cases c88 : p1 = 17
  · have hf := pm_it hf c88
    obtain ⟨k89, hf⟩ := pm_if hf
    obtain ⟨v90, e91, hf⟩ := pm_bd hf
    have K92 := pw_t (by decide) K0 (wfX16_invokesEntry (pw_rf _) e91)
    cases hf
    exact K92
  have hf := pm_ie hf c88
  by_cases c93 : p1 = 18
  · have hf := pm_it hf c93
    cases hf
    exact K0
  have hf := pm_ie hf c93
  by_cases c94 : p1 = 19
  · have hf := pm_it hf c94
    cases hf
    exact K0
  have hf := pm_ie hf c94
  by_cases c95 : p1 = 20
  · have hf := pm_it hf c95
    cases hf
    exact K0
  have hf := pm_ie hf c95
  by_cases c96 : p1 = 21
  · have hf := pm_it hf c96
    cases hf
    exact K0
  have hf := pm_ie hf c96
  by_cases c97 : p1 = 22
  · have hf := pm_it hf c97
    cases hf
    exact K0
  have hf := pm_ie hf c97
  by_cases c98 : p1 = 23
  · have hf := pm_it hf c98
    cases hf
    exact K0
  have hf := pm_ie hf c98
  by_cases c99 : p1 = 24
  · have hf := pm_it hf c99
    cases hf
    exact K0
  have hf := pm_ie hf c99
  by_cases c100 : p1 = 25
  · have hf := pm_it hf c100
    cases hf
    exact K0
  have hf := pm_ie hf c100
  by_cases c101 : p1 = 26
  · have hf := pm_it hf c101
    obtain ⟨k102, hf⟩ := pm_if hf
    obtain ⟨v103, e104, hf⟩ := pm_bd hf
    have K105 := pw_t (by decide) K0 (wfX16_pop (pw_rf _) e104)
    cases hf
    exact K105
  have hf := pm_ie hf c101
  by_cases c106 : p1 = 27
  · have hf := pm_it hf c106
    obtain ⟨k107, hf⟩ := pm_if hf
    obtain ⟨v108, e109, hf⟩ := pm_bd hf
    have K110 := pw_t (by decide) K0 (wfX16_pop (pw_rf _) e109)
    obtain ⟨k111, hf⟩ := pm_if hf
    obtain ⟨v112, e113, hf⟩ := pm_bd hf
    have K114 := pw_t (by decide) K110 (wfX16_pop (pw_rf _) e113)
    obtain ⟨k115, hf⟩ := pm_if hf
    obtain ⟨v116, e117, hf⟩ := pm_bd hf
    have K118 := pw_t (by decide) K114 (wfX16_pop (pw_rf _) e117)
    by_cases c119 : v108.1 = 0
    · have hf := pm_it hf c119
      obtain ⟨k120, hf⟩ := pm_if hf
      obtain ⟨v121, e122, hf⟩ := pm_bd hf
      have K123 := pw_t (by decide) K118 (wfX16_push (pw_rf _) e122)
      cases hf
      exact K123
    · have hf := pm_ie hf c119
      obtain ⟨k124, hf⟩ := pm_if hf
      obtain ⟨v125, e126, hf⟩ := pm_bd hf
      have K127 := pw_t (by decide) K118 (wfX16_push (pw_rf _) e126)
      cases hf
      exact K127
  have hf := pm_ie hf c106
  by_cases c128 : p1 = 28
  · have hf := pm_it hf c128
    obtain ⟨k129, hf⟩ := pm_if hf
    obtain ⟨v130, e131, hf⟩ := pm_bd hf
    have K132 := pw_t (by decide) K0 (wfX16_pop (pw_rf _) e131)
    obtain ⟨k133, hf⟩ := pm_if hf
    obtain ⟨v134, e135, hf⟩ := pm_bd hf
    have K136 := pw_t (by decide) K132 (wfX16_pop (pw_rf _) e135)
    obtain ⟨k137, hf⟩ := pm_if hf
    obtain ⟨v138, e139, hf⟩ := pm_bd hf
    have K140 := pw_t (by decide) K136 (wfX16_pop (pw_rf _) e139)
    by_cases c141 : v130.1 = 0
    · have hf := pm_it hf c141
      obtain ⟨k142, hf⟩ := pm_if hf
      obtain ⟨v143, e144, hf⟩ := pm_bd hf
      have K145 := pw_t (by decide) K140 (wfX16_push (pw_rf _) e144)
      cases hf
      exact K145
    · have hf := pm_ie hf c141
      obtain ⟨k146, hf⟩ := pm_if hf
      obtain ⟨v147, e148, hf⟩ := pm_bd hf
      have K149 := pw_t (by decide) K140 (wfX16_push (pw_rf _) e148)
      cases hf
      exact K149
  have hf := pm_ie hf c128
  cases hf
  exact K0
abbrev WX1_choice : List Nat := [2, 128, 129, 134, 4352]
set_option maxHeartbeats 4000000 in
set_option maxRecDepth 100000 in
theorem wfX1_choice_b100 {h0 h : pm_H} (K0 : pw_F WX1_choice h0 h) {x0 : Nat} {x2 : Int32} {x3 : Int32}  {r : pm_H} (hf : fX1_choice_b100 h x0 x2 x3 = some r) : pw_F WX1_choice h0 r := by
  unfold fX1_choice_b100 at hf
  by_cases c53 : x3 = 0
  · have hf := pm_it hf c53
    obtain ⟨k54, hf⟩ := pm_if hf
    obtain ⟨v55, e56, hf⟩ := pm_bd hf
    have K57 := pw_t (by decide) K0 (wfX1_put (pw_rf _) e56)
    obtain ⟨k58, hf⟩ := pm_if hf
    obtain ⟨v59, e60, hf⟩ := pm_bd hf
    have K61 := pw_t (by decide) K57 (wfX1_emitPlain (pw_rf _) e60)
    cases hf
    exact K61
  · have hf := pm_ie hf c53
    obtain ⟨k62, hf⟩ := pm_if hf
    obtain ⟨v63, e64, hf⟩ := pm_bd hf
    have K65 := pw_t (by decide) K0 (wfX1_put (pw_rf _) e64)
    obtain ⟨k66, hf⟩ := pm_if hf
    obtain ⟨v67, e68, hf⟩ := pm_bd hf
    have K69 := pw_t (by decide) K65 (wfX1_emitPlain (pw_rf _) e68)
    cases hf
    exact K69
set_option maxHeartbeats 4000000 in
set_option maxRecDepth 100000 in
theorem wfX1_choice {h0 h : pm_H} (K0 : pw_F WX1_choice h0 h) {a0 : Nat} {p1 : Int32}  {r : pm_H} (hf : fX1_choice h a0 p1 = some r) : pw_F WX1_choice h0 r := by
  unfold fX1_choice at hf
  by_cases c1 : p1 = 26
  · have hf := pm_it hf c1
    obtain ⟨k2, hf⟩ := pm_if hf
    obtain ⟨v3, e4, hf⟩ := pm_bd hf
    have K5 := pw_t (by decide) K0 (wfX1_take (pw_rf _) e4)
    obtain ⟨k6, hf⟩ := pm_if hf
    obtain ⟨v7, e8, hf⟩ := pm_bd hf
    have K9 := pw_t (by decide) K5 (wfX1_emitPlain (pw_rf _) e8)
    cases hf
    exact K9
  · have hf := pm_ie hf c1
    by_cases c10 : p1 = 28
    · have hf := pm_it hf c10
      obtain ⟨k11, hf⟩ := pm_if hf
      obtain ⟨v12, e13, hf⟩ := pm_bd hf
      obtain ⟨k14, hf⟩ := pm_if hf
      obtain ⟨y15, e16, hf⟩ := pm_lt hf
      obtain ⟨v17, e18, hf⟩ := pm_bd hf
      have K19 := pw_t (by decide) K0 (wfX1_plain (pw_rf _) e18)
      cases hf
      exact K19
    · have hf := pm_ie hf c10
      obtain ⟨k20, hf⟩ := pm_if hf
      obtain ⟨v21, e22, hf⟩ := pm_bd hf
      have K23 := pw_t (by decide) K0 (wfX1_take (pw_rf _) e22)
      obtain ⟨k24, hf⟩ := pm_if hf
      obtain ⟨v25, e26, hf⟩ := pm_bd hf
      have K27 := pw_t (by decide) K23 (wfX1_take (pw_rf _) e26)
      obtain ⟨k28, hf⟩ := pm_if hf
      obtain ⟨v29, e30, hf⟩ := pm_bd hf
      have K31 := pw_t (by decide) K27 (wfX1_take (pw_rf _) e30)
      obtain ⟨v32, e33, hf⟩ := pm_lt hf
      by_cases c34 : v32 = 0
      · have hf := pm_it hf c34
        obtain ⟨k35, hf⟩ := pm_if hf
        obtain ⟨v36, e37, hf⟩ := pm_bd hf
        have K38 := pw_t (by decide) K31 (wfX1_fail (pw_rf _) e37)
        exact wfX1_choice_b100 K38  hf
      · have hf := pm_ie hf c34
        obtain ⟨v39, e40, hf⟩ := pm_lt hf
        by_cases c41 : v39 = 0
        · have hf := pm_it hf c41
          obtain ⟨k42, hf⟩ := pm_if hf
          obtain ⟨v43, e44, hf⟩ := pm_bd hf
          have K45 := pw_t (by decide) K31 (wfX1_fail (pw_rf _) e44)
          exact wfX1_choice_b100 K45  hf
        · have hf := pm_ie hf c41
          by_cases c46 : v29.1 = 0
          · have hf := pm_it hf c46
            exact wfX1_choice_b100 K31  hf
          · have hf := pm_ie hf c46
            by_cases c47 : v25.1 = 0
            · have hf := pm_it hf c47
              exact wfX1_choice_b100 K31  hf
            · have hf := pm_ie hf c47
              by_cases c48 : v29.1 = v25.1
              · have hf := pm_it hf c48
                exact wfX1_choice_b100 K31  hf
              · have hf := pm_ie hf c48
                obtain ⟨k49, hf⟩ := pm_if hf
                obtain ⟨v50, e51, hf⟩ := pm_bd hf
                have K52 := pw_t (by decide) K31 (wfX1_fail (pw_rf _) e51)
                exact wfX1_choice_b100 K52  hf
abbrev WX1_constantIn : List Nat := [2, 128, 129, 134, 4352]
set_option maxHeartbeats 4000000 in
set_option maxRecDepth 100000 in
theorem wfX1_constantIn {h0 h : pm_H} (K0 : pw_F WX1_constantIn h0 h) {a0 : Nat} {p1 : Int32} {p2 : Int64}  {r : pm_H} (hf : fX1_constantIn h a0 p1 p2 = some r) : pw_F WX1_constantIn h0 r := by
  unfold fX1_constantIn at hf
  obtain ⟨k1, hf⟩ := pm_if hf
  obtain ⟨v2, e3, hf⟩ := pm_bd hf
  have K4 := pw_t (by decide) K0 (wfX1_put (pw_rf _) e3)
  obtain ⟨k5, hf⟩ := pm_if hf
  obtain ⟨v6, e7, hf⟩ := pm_bd hf
  have K8 := pw_t (by decide) K4 (wfX1_emit (pw_rf _) e7)
  cases hf
  exact K8
abbrev WX1_reference : List Nat := [2, 128, 129, 134, 4352]
set_option maxHeartbeats 4000000 in
set_option maxRecDepth 100000 in
theorem wfX1_reference_b60 {h0 h : pm_H} (K0 : pw_F WX1_reference h0 h) {x0 : Nat}  {r : pm_H} (hf : fX1_reference_b60 h x0 = some r) : pw_F WX1_reference h0 r := by
  unfold fX1_reference_b60 at hf
  obtain ⟨k50, hf⟩ := pm_if hf
  obtain ⟨v51, e52, hf⟩ := pm_bd hf
  have K53 := pw_t (by decide) K0 (wfX1_put (pw_rf _) e52)
  obtain ⟨k54, hf⟩ := pm_if hf
  obtain ⟨v55, e56, hf⟩ := pm_bd hf
  have K57 := pw_t (by decide) K53 (wfX1_emitPlain (pw_rf _) e56)
  cases hf
  exact K57
set_option maxHeartbeats 4000000 in
set_option maxRecDepth 100000 in
theorem wfX1_reference {h0 h : pm_H} (K0 : pw_F WX1_reference h0 h) {a0 : Nat} {p1 : Int32}  {r : pm_H} (hf : fX1_reference h a0 p1 = some r) : pw_F WX1_reference h0 r := by
  unfold fX1_reference at hf
  by_cases c1 : p1 = 208
  · have hf := pm_it hf c1
    obtain ⟨k2, hf⟩ := pm_if hf
    obtain ⟨v3, e4, hf⟩ := pm_bd hf
    obtain ⟨k5, hf⟩ := pm_if hf
    obtain ⟨v6, e7, hf⟩ := pm_bd hf
    have K8 := pw_t (by decide) K0 (wfX1_constantIn (pw_rf _) e7)
    cases hf
    exact K8
  · have hf := pm_ie hf c1
    by_cases c9 : p1 = 209
    · have hf := pm_it hf c9
      obtain ⟨k10, hf⟩ := pm_if hf
      obtain ⟨v11, e12, hf⟩ := pm_bd hf
      have K13 := pw_t (by decide) K0 (wfX1_take (pw_rf _) e12)
      by_cases c14 : v11.1 = 0
      · have hf := pm_it hf c14
        exact wfX1_reference_b60 K13  hf
      · have hf := pm_ie hf c14
        by_cases c15 : v11.1 = 112
        · have hf := pm_it hf c15
          exact wfX1_reference_b60 K13  hf
        · have hf := pm_ie hf c15
          by_cases c16 : v11.1 = 111
          · have hf := pm_it hf c16
            exact wfX1_reference_b60 K13  hf
          · have hf := pm_ie hf c16
            obtain ⟨k17, hf⟩ := pm_if hf
            obtain ⟨v18, e19, hf⟩ := pm_bd hf
            have K20 := pw_t (by decide) K13 (wfX1_fail (pw_rf _) e19)
            exact wfX1_reference_b60 K20  hf
    · have hf := pm_ie hf c9
      obtain ⟨k21, hf⟩ := pm_if hf
      obtain ⟨v22, e23, hf⟩ := pm_bd hf
      obtain ⟨k24, hf⟩ := pm_if hf
      obtain ⟨v25, e26, hf⟩ := pm_lt hf
      obtain ⟨v27, e28, hf⟩ := pm_bd hf
      obtain ⟨k29, hf⟩ := pm_if hf
      by_cases c30 : (Int32.ofNat (pm_ln h v27)) ≤ v25
      · have hf := pm_it hf c30
        obtain ⟨v31, e32, hf⟩ := pm_bd hf
        have K33 := pw_t (by decide) K0 (wfX1_fail (pw_rf _) e32)
        obtain ⟨k34, hf⟩ := pm_if hf
        obtain ⟨v35, e36, hf⟩ := pm_bd hf
        have K37 := pw_t (by decide) K33 (wfX1_plain (pw_rf _) e36)
        cases hf
        exact K37
      · have hf := pm_ie hf c30
        obtain ⟨u38, hf⟩ := pm_if hf
        by_cases c39 : (pm_I h v27 v25.toNatClampNeg) = 0
        · have hf := pm_it hf c39
          obtain ⟨v40, e41, hf⟩ := pm_bd hf
          have K42 := pw_t (by decide) K0 (wfX1_fail (pw_rf _) e41)
          obtain ⟨k43, hf⟩ := pm_if hf
          obtain ⟨v44, e45, hf⟩ := pm_bd hf
          have K46 := pw_t (by decide) K42 (wfX1_plain (pw_rf _) e45)
          cases hf
          exact K46
        · have hf := pm_ie hf c39
          obtain ⟨v47, e48, hf⟩ := pm_bd hf
          have K49 := pw_t (by decide) K0 (wfX1_plain (pw_rf _) e48)
          cases hf
          exact K49
