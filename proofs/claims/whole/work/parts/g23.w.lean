abbrev WX16_takesElement : List Nat := [2067, 2119, 4352]
set_option maxHeartbeats 4000000 in
set_option maxRecDepth 100000 in
theorem wlX16_takesElement {h0 : pm_H} {r : pm_H} : ∀ n : Nat, (∀ (x0 : Nat) (x1 : Int32) (x2 : Int32) (x3 : Int32) (h : pm_H), pw_F WX16_takesElement h0 h → pm_iter sX16_takesElement n (x0, x1, x2, x3, h) = some r → pw_F WX16_takesElement h0 r) := by
  intro n
  induction n with
  | zero => exact fun _ _ _ _ _ _ hf => (by cases hf)
  | succ n ih =>
    refine fun x0 x1 x2 x3 h K0 hf => ?_
    obtain ⟨y, hf, hi⟩ := pm_iter_s hf
    have hf : tX16_takesElement_50 x0 x1 x2 x3 h = some y := hf
    unfold tX16_takesElement_50 at hf
    obtain ⟨k27, hf⟩ := pm_if hf
    obtain ⟨v28, e29, hf⟩ := pm_bd hf
    obtain ⟨k30, hf⟩ := pm_if hf
    obtain ⟨v31, e32, hf⟩ := pm_bd hf
    obtain ⟨k33, hf⟩ := pm_if hf
    obtain ⟨u34, hf⟩ := pm_if hf
    by_cases c35 : (pm_I h v31 x2.toNatClampNeg) ≤ x3
    · have hf := pm_it hf c35
      cases hf
      cases hi
      exact K0
    · have hf := pm_ie hf c35
      obtain ⟨v36, e37, hf⟩ := pm_bd hf
      obtain ⟨v38, e39, hf⟩ := pm_bd hf
      obtain ⟨k40, hf⟩ := pm_if hf
      obtain ⟨u41, hf⟩ := pm_if hf
      by_cases c42 : (pm_I h v38 x2.toNatClampNeg) = 0
      · have hf := pm_it hf c42
        obtain ⟨v43, e44, hf⟩ := pm_bd hf
        obtain ⟨v45, e46, hf⟩ := pm_bd hf
        have K47 := pw_t (by decide) K0 (wfX16_word (pw_rf _) e46)
        obtain ⟨y48, e49, hf⟩ := pm_lt hf
        obtain ⟨k50, hf⟩ := pm_if hf
        obtain ⟨u51, hf⟩ := pm_if hf
        obtain ⟨y52, e53, hf⟩ := pm_lt hf
        obtain ⟨k54, hf⟩ := pm_if hf
        obtain ⟨u55, hf⟩ := pm_if hf
        obtain ⟨k56, hf⟩ := pm_if hf
        have k56b := (congrFun (pkI rfl) x0).symm.trans k56
        obtain ⟨y57, e58, hf⟩ := pm_lt hf
        obtain ⟨y59, e60, hf⟩ := pm_lt hf
        cases hf
        exact ih x0 x1 x2 y59 (pm_setI (pm_setI v45.2 v36 ((pm_I h x0 71).toNatClampNeg) y52) x0 71 y57) (pw_sI (pw_aI K47 rfl k54 (by decide) (by decide)) (pkI rfl) k56b (by decide))  hi
      · have hf := pm_ie hf c42
        obtain ⟨v61, e62, hf⟩ := pm_bd hf
        have K63 := pw_t (by decide) K0 (wfX16_constant (pw_rf _) e62)
        obtain ⟨k64, hf⟩ := pm_if hf
        obtain ⟨u65, hf⟩ := pm_if hf
        obtain ⟨k66, hf⟩ := pm_if hf
        have k66b := (congrFun (pkI rfl) x0).symm.trans k66
        obtain ⟨y67, e68, hf⟩ := pm_lt hf
        obtain ⟨y69, e70, hf⟩ := pm_lt hf
        cases hf
        exact ih x0 x1 x2 y69 (pm_setI (pm_setI v61.2 v36 ((pm_I h x0 71).toNatClampNeg) v61.1.toInt32) x0 71 y67) (pw_sI (pw_aI K63 rfl k64 (by decide) (by decide)) (pkI rfl) k66b (by decide))  hi
set_option maxHeartbeats 4000000 in
set_option maxRecDepth 100000 in
theorem wfX16_takesElement {h0 h : pm_H} (K0 : pw_F WX16_takesElement h0 h) {a0 : Nat} {p1 : Int32} {p2 : Int32}  {r : pm_H} (hf : fX16_takesElement h a0 p1 p2 = some r) : pw_F WX16_takesElement h0 r := by
  unfold fX16_takesElement at hf
  obtain ⟨k1, hf⟩ := pm_if hf
  obtain ⟨v2, e3, hf⟩ := pm_bd hf
  obtain ⟨y4, e5, hf⟩ := pm_lt hf
  obtain ⟨k6, hf⟩ := pm_if hf
  obtain ⟨u7, hf⟩ := pm_if hf
  obtain ⟨v8, e9, hf⟩ := pm_bd hf
  obtain ⟨v10, e11, hf⟩ := pm_bd hf
  obtain ⟨k12, hf⟩ := pm_if hf
  have k12b := (congrFun (pkI rfl) v10).symm.trans k12
  obtain ⟨v13, e14, hf⟩ := pm_bd hf
  obtain ⟨k15, hf⟩ := pm_if hf
  have k15b := (congrFun (pkI rfl) v13).symm.trans k15
  obtain ⟨u16, hf⟩ := pm_if hf
  obtain ⟨y17, e18, hf⟩ := pm_lt hf
  obtain ⟨k19, hf⟩ := pm_if hf
  have k19b := (congrFun (pkI rfl) v8).symm.trans k19
  obtain ⟨u20, hf⟩ := pm_if hf
  obtain ⟨v21, e22, hf⟩ := pm_bd hf
  obtain ⟨k23, hf⟩ := pm_if hf
  have k23b := (congrFun (pkI (pkI rfl)) v21).symm.trans k23
  obtain ⟨u24, hf⟩ := pm_if hf
  obtain ⟨y25, e26, hf⟩ := pm_lt hf
  obtain ⟨n, hn⟩ := pm_lim_iter hf
  exact (wlX16_takesElement n) a0 p1 p2 0 (pm_setI (pm_setI (pm_setI h v2 (((64 * p1) + p2).toNatClampNeg) y4) v8 (((64 * p1) + p2).toNatClampNeg) y17) a0 19 y25) (pw_sI (pw_aI (pw_aI K0 rfl k6 (by decide) (by decide)) (pkI rfl) k19b (by decide) (by decide)) (pkI (pkI rfl)) k1 (by decide))  hn
abbrev WX16_takesOwn : List Nat := [2067, 2084, 2094, 2095, 2100, 2101, 2106, 2119, 4096, 4352, 4480]
set_option maxHeartbeats 4000000 in
set_option maxRecDepth 100000 in
theorem wlX16_takesOwn {h0 : pm_H} {r : pm_H} : ∀ n : Nat, (∀ (x0 : Nat) (x1 : Int32) (x2 : Int32) (x3 : Int32) (h : pm_H), pw_F WX16_takesOwn h0 h → pm_iter sX16_takesOwn n (.inl (x0, x1, x2, x3, h)) = some r → pw_F WX16_takesOwn h0 r) ∧ (∀ (x0 : Nat) (x1 : Int32) (x3 : Int32) (h : pm_H), pw_F WX16_takesOwn h0 h → pm_iter sX16_takesOwn n (.inr (.inl (x0, x1, x3, h))) = some r → pw_F WX16_takesOwn h0 r) ∧ (∀ (x0 : Nat) (x1 : Int32) (x3 : Int32) (h : pm_H), pw_F WX16_takesOwn h0 h → pm_iter sX16_takesOwn n (.inr (.inr (.inl (x0, x1, x3, h)))) = some r → pw_F WX16_takesOwn h0 r) ∧ (∀ (x0 : Nat) (x1 : Int32) (x3 : Int32) (h : pm_H), pw_F WX16_takesOwn h0 h → pm_iter sX16_takesOwn n (.inr (.inr (.inr (.inl (x0, x1, x3, h))))) = some r → pw_F WX16_takesOwn h0 r) ∧ (∀ (x0 : Nat) (x1 : Int32) (x3 : Int32) (h : pm_H), pw_F WX16_takesOwn h0 h → pm_iter sX16_takesOwn n (.inr (.inr (.inr (.inr (.inl (x0, x1, x3, h)))))) = some r → pw_F WX16_takesOwn h0 r) ∧ (∀ (x0 : Nat) (x1 : Int32) (x3 : Int32) (h : pm_H), pw_F WX16_takesOwn h0 h → pm_iter sX16_takesOwn n (.inr (.inr (.inr (.inr (.inr (x0, x1, x3, h)))))) = some r → pw_F WX16_takesOwn h0 r) := by
  intro n
  induction n with
  | zero => exact ⟨fun _ _ _ _ _ _ hf => (by cases hf), fun _ _ _ _ _ hf => (by cases hf), fun _ _ _ _ _ hf => (by cases hf), fun _ _ _ _ _ hf => (by cases hf), fun _ _ _ _ _ hf => (by cases hf), fun _ _ _ _ _ hf => (by cases hf)⟩
  | succ n ih =>
    refine ⟨fun x0 x1 x2 x3 h K0 hf => ?_, ?_⟩
    · obtain ⟨y, hf, hi⟩ := pm_iter_s hf
      have hf : tX16_takesOwn_2 x0 x1 x2 x3 h = some y := hf
      unfold tX16_takesOwn_2 at hf
      obtain ⟨k1, hf⟩ := pm_if hf
      obtain ⟨v2, e3, hf⟩ := pm_bd hf
      obtain ⟨k4, hf⟩ := pm_if hf
      by_cases c5 : (pm_I h v2 15) ≤ x3
      · have hf := pm_it hf c5
        cases hf
        exact ih.2.1 x0 x1 0 h K0  hi
      · have hf := pm_ie hf c5
        obtain ⟨v6, e7, hf⟩ := pm_bd hf
        obtain ⟨v8, e9, hf⟩ := pm_bd hf
        obtain ⟨k10, hf⟩ := pm_if hf
        obtain ⟨u11, hf⟩ := pm_if hf
        obtain ⟨v12, e13, hf⟩ := pm_bd hf
        have K14 := pw_t (by decide) K0 (wfX16_newFunction (pw_rf _) e13)
        obtain ⟨k15, hf⟩ := pm_if hf
        obtain ⟨v16, e17, hf⟩ := pm_bd hf
        have K18 := pw_t (by decide) K14 (wfX16_has (pw_rf _) e17)
        obtain ⟨y19, e20, hf⟩ := pm_lt hf
        cases hf
        exact ih.1 x0 x1 x2 y19 v16 K18  hi
    refine ⟨fun x0 x1 x3 h K0 hf => ?_, ?_⟩
    · obtain ⟨y, hf, hi⟩ := pm_iter_s hf
      have hf : tX16_takesOwn_55 x0 x1 x3 h = some y := hf
      unfold tX16_takesOwn_55 at hf
      obtain ⟨k21, hf⟩ := pm_if hf
      obtain ⟨v22, e23, hf⟩ := pm_bd hf
      obtain ⟨k24, hf⟩ := pm_if hf
      by_cases c25 : (pm_I h v22 17) ≤ x3
      · have hf := pm_it hf c25
        cases hf
        exact ih.2.2.1 x0 x1 0 h K0  hi
      · have hf := pm_ie hf c25
        obtain ⟨v26, e27, hf⟩ := pm_bd hf
        obtain ⟨v28, e29, hf⟩ := pm_bd hf
        obtain ⟨k30, hf⟩ := pm_if hf
        obtain ⟨u31, hf⟩ := pm_if hf
        obtain ⟨y32, e33, hf⟩ := pm_lt hf
        obtain ⟨k34, hf⟩ := pm_if hf
        obtain ⟨u35, hf⟩ := pm_if hf
        obtain ⟨v36, e37, hf⟩ := pm_bd hf
        obtain ⟨v38, e39, hf⟩ := pm_bd hf
        obtain ⟨k40, hf⟩ := pm_if hf
        have k40b := (congrFun (pkI rfl) v38).symm.trans k40
        obtain ⟨u41, hf⟩ := pm_if hf
        obtain ⟨y42, e43, hf⟩ := pm_lt hf
        obtain ⟨k44, hf⟩ := pm_if hf
        have k44b := (congrFun (pkI rfl) v36).symm.trans k44
        obtain ⟨u45, hf⟩ := pm_if hf
        obtain ⟨v46, e47, hf⟩ := pm_bd hf
        obtain ⟨k48, hf⟩ := pm_if hf
        have k48b := (congrFun (pkL (pkI rfl)) v46).symm.trans k48
        obtain ⟨u49, hf⟩ := pm_if hf
        obtain ⟨v50, e51, hf⟩ := pm_bd hf
        obtain ⟨k52, hf⟩ := pm_if hf
        have k52b := (congrFun (pkI (pkL (pkI rfl))) v50).symm.trans k52
        obtain ⟨u53, hf⟩ := pm_if hf
        obtain ⟨v54, e55, hf⟩ := pm_bd hf
        have K56 := pw_t (by decide) (pw_aI (pw_aL (pw_aI K0 rfl k34 (by decide) (by decide)) (pkI rfl) k44b (by decide) (by decide)) (pkL (pkI rfl)) k48b (by decide) (by decide)) (wfX16_grows (pw_rf _) e55)
        obtain ⟨k57, hf⟩ := pm_if hf
        obtain ⟨v58, e59, hf⟩ := pm_bd hf
        obtain ⟨k60, hf⟩ := pm_if hf
        obtain ⟨v61, e62, hf⟩ := pm_bd hf
        obtain ⟨v63, e64, hf⟩ := pm_bd hf
        have K65 := pw_t (by decide) K56 (wfX16_has (pw_rf _) e64)
        obtain ⟨k66, hf⟩ := pm_if hf
        obtain ⟨y67, e68, hf⟩ := pm_lt hf
        obtain ⟨y69, e70, hf⟩ := pm_lt hf
        cases hf
        exact ih.2.1 x0 x1 y69 (pm_setI v63 x0 46 y67) (pw_sI K65 rfl k66 (by decide))  hi
    refine ⟨fun x0 x1 x3 h K0 hf => ?_, ?_⟩
    · obtain ⟨y, hf, hi⟩ := pm_iter_s hf
      have hf : tX16_takesOwn_169 x0 x1 x3 h = some y := hf
      unfold tX16_takesOwn_169 at hf
      obtain ⟨k71, hf⟩ := pm_if hf
      obtain ⟨v72, e73, hf⟩ := pm_bd hf
      obtain ⟨k74, hf⟩ := pm_if hf
      by_cases c75 : (pm_I h v72 21) ≤ x3
      · have hf := pm_it hf c75
        cases hf
        exact ih.2.2.2.1 x0 x1 0 h K0  hi
      · have hf := pm_ie hf c75
        obtain ⟨v76, e77, hf⟩ := pm_bd hf
        obtain ⟨v78, e79, hf⟩ := pm_bd hf
        obtain ⟨k80, hf⟩ := pm_if hf
        obtain ⟨u81, hf⟩ := pm_if hf
        obtain ⟨y82, e83, hf⟩ := pm_lt hf
        obtain ⟨k84, hf⟩ := pm_if hf
        obtain ⟨u85, hf⟩ := pm_if hf
        obtain ⟨v86, e87, hf⟩ := pm_bd hf
        obtain ⟨k88, hf⟩ := pm_if hf
        have k88b := (congrFun (pkL rfl) v86).symm.trans k88
        obtain ⟨u89, hf⟩ := pm_if hf
        obtain ⟨v90, e91, hf⟩ := pm_bd hf
        obtain ⟨k92, hf⟩ := pm_if hf
        have k92b := (congrFun (pkI (pkL rfl)) v90).symm.trans k92
        obtain ⟨u93, hf⟩ := pm_if hf
        obtain ⟨v94, e95, hf⟩ := pm_bd hf
        have K96 := pw_t (by decide) (pw_aI (pw_aL K0 rfl k84 (by decide) (by decide)) (pkL rfl) k88b (by decide) (by decide)) (wfX16_growsPages (pw_rf _) e95)
        obtain ⟨k97, hf⟩ := pm_if hf
        obtain ⟨v98, e99, hf⟩ := pm_bd hf
        obtain ⟨k100, hf⟩ := pm_if hf
        obtain ⟨v101, e102, hf⟩ := pm_bd hf
        obtain ⟨v103, e104, hf⟩ := pm_bd hf
        have K105 := pw_t (by decide) K96 (wfX16_has (pw_rf _) e104)
        obtain ⟨k106, hf⟩ := pm_if hf
        obtain ⟨y107, e108, hf⟩ := pm_lt hf
        obtain ⟨y109, e110, hf⟩ := pm_lt hf
        cases hf
        exact ih.2.2.1 x0 x1 y109 (pm_setI v103 x0 52 y107) (pw_sI K105 rfl k106 (by decide))  hi
    refine ⟨fun x0 x1 x3 h K0 hf => ?_, ?_⟩
    · obtain ⟨y, hf, hi⟩ := pm_iter_s hf
      have hf : tX16_takesOwn_264 x0 x1 x3 h = some y := hf
      unfold tX16_takesOwn_264 at hf
      obtain ⟨k111, hf⟩ := pm_if hf
      obtain ⟨v112, e113, hf⟩ := pm_bd hf
      obtain ⟨k114, hf⟩ := pm_if hf
      by_cases c115 : (pm_I h v112 24) ≤ x3
      · have hf := pm_it hf c115
        cases hf
        exact ih.2.2.2.2.1 x0 x1 0 h K0  hi
      · have hf := pm_ie hf c115
        obtain ⟨v116, e117, hf⟩ := pm_bd hf
        obtain ⟨v118, e119, hf⟩ := pm_bd hf
        obtain ⟨k120, hf⟩ := pm_if hf
        obtain ⟨u121, hf⟩ := pm_if hf
        obtain ⟨y122, e123, hf⟩ := pm_lt hf
        obtain ⟨k124, hf⟩ := pm_if hf
        obtain ⟨u125, hf⟩ := pm_if hf
        obtain ⟨v126, e127, hf⟩ := pm_bd hf
        obtain ⟨v128, e129, hf⟩ := pm_bd hf
        obtain ⟨k130, hf⟩ := pm_if hf
        have k130b := (congrFun (pkI rfl) v128).symm.trans k130
        obtain ⟨u131, hf⟩ := pm_if hf
        obtain ⟨y132, e133, hf⟩ := pm_lt hf
        obtain ⟨k134, hf⟩ := pm_if hf
        have k134b := (congrFun (pkI rfl) v126).symm.trans k134
        obtain ⟨u135, hf⟩ := pm_if hf
        obtain ⟨v136, e137, hf⟩ := pm_bd hf
        obtain ⟨v138, e139, hf⟩ := pm_bd hf
        obtain ⟨k140, hf⟩ := pm_if hf
        have k140b := (congrFun (pkI (pkI rfl)) v138).symm.trans k140
        obtain ⟨u141, hf⟩ := pm_if hf
        obtain ⟨v142, e143, hf⟩ := pm_bd hf
        have K144 := pw_t (by decide) (pw_aI (pw_aI K0 rfl k124 (by decide) (by decide)) (pkI rfl) k134b (by decide) (by decide)) (wfX16_constant (pw_rf _) e143)
        obtain ⟨k145, hf⟩ := pm_if hf
        obtain ⟨u146, hf⟩ := pm_if hf
        obtain ⟨k147, hf⟩ := pm_if hf
        have k147b := (congrFun (pkL rfl) x0).symm.trans k147
        obtain ⟨v148, e149, hf⟩ := pm_bd hf
        obtain ⟨k150, hf⟩ := pm_if hf
        have k150b := (congrFun (pkL rfl) v148).symm.trans k150
        obtain ⟨v151, e152, hf⟩ := pm_bd hf
        obtain ⟨v153, e154, hf⟩ := pm_bd hf
        have K155 := pw_t (by decide) (pw_aL K144 rfl k145 (by decide) (by decide)) (wfX16_has (pw_rf _) e154)
        obtain ⟨k156, hf⟩ := pm_if hf
        obtain ⟨y157, e158, hf⟩ := pm_lt hf
        obtain ⟨y159, e160, hf⟩ := pm_lt hf
        cases hf
        exact ih.2.2.2.1 x0 x1 y159 (pm_setI v153 x0 58 y157) (pw_sI K155 rfl k156 (by decide))  hi
    refine ⟨fun x0 x1 x3 h K0 hf => ?_, ?_⟩
    · obtain ⟨y, hf, hi⟩ := pm_iter_s hf
      have hf : tX16_takesOwn_372 x0 x1 x3 h = some y := hf
      unfold tX16_takesOwn_372 at hf
      obtain ⟨k161, hf⟩ := pm_if hf
      obtain ⟨v162, e163, hf⟩ := pm_bd hf
      obtain ⟨k164, hf⟩ := pm_if hf
      by_cases c165 : (pm_I h v162 34) ≤ x3
      · have hf := pm_it hf c165
        cases hf
        exact ih.2.2.2.2.2 x0 x1 0 h K0  hi
      · have hf := pm_ie hf c165
        obtain ⟨v166, e167, hf⟩ := pm_bd hf
        have K168 := pw_t (by decide) K0 (wfX16_takesElement (pw_rf _) e167)
        obtain ⟨y169, e170, hf⟩ := pm_lt hf
        cases hf
        exact ih.2.2.2.2.1 x0 x1 y169 v166 K168  hi
    refine fun x0 x1 x3 h K0 hf => ?_
    obtain ⟨y, hf, hi⟩ := pm_iter_s hf
    have hf : tX16_takesOwn_397 x0 x1 x3 h = some y := hf
    unfold tX16_takesOwn_397 at hf
    obtain ⟨k171, hf⟩ := pm_if hf
    obtain ⟨v172, e173, hf⟩ := pm_bd hf
    obtain ⟨k174, hf⟩ := pm_if hf
    by_cases c175 : (pm_I h v172 44) ≤ x3
    · have hf := pm_it hf c175
      cases hf
      cases hi
      exact K0
    · have hf := pm_ie hf c175
      obtain ⟨v176, e177, hf⟩ := pm_bd hf
      obtain ⟨k178, hf⟩ := pm_if hf
      obtain ⟨u179, hf⟩ := pm_if hf
      obtain ⟨y180, e181, hf⟩ := pm_lt hf
      cases hf
      exact ih.2.2.2.2.2 x0 x1 y180 (pm_setI h v176 (((64 * x1) + x3).toNatClampNeg) (vp_nar .boolean 1)) (pw_aI K0 rfl k178 (by decide) (by decide))  hi
set_option maxHeartbeats 4000000 in
set_option maxRecDepth 100000 in
theorem wfX16_takesOwn {h0 h : pm_H} (K0 : pw_F WX16_takesOwn h0 h) {a0 : Nat} {p1 : Int32} {p2 : Int32}  {r : pm_H} (hf : fX16_takesOwn h a0 p1 p2 = some r) : pw_F WX16_takesOwn h0 r := by
  unfold fX16_takesOwn at hf
  obtain ⟨n, hn⟩ := pm_lim_iter hf
  exact (wlX16_takesOwn n).1 a0 p1 p2 0 h K0  hn
abbrev WX16_towards : List Nat := [1920, 1921, 1922, 1923, 2081]
set_option maxHeartbeats 4000000 in
set_option maxRecDepth 100000 in
theorem wfX16_towards_b276 {h0 h : pm_H} (K0 : pw_F WX16_towards h0 h) {x0 : Nat} {x4 : Int32} {x5 : Int32} {x11 : Int64} {x13 : Int32} {s0 : Int64}  {r : (Int64 × pm_H)} (hf : fX16_towards_b276 h x0 x4 x5 x11 x13 s0 = some r) : pw_F WX16_towards h0 r.2 := by
  unfold fX16_towards_b276 at hf
  by_cases c63 : x13 = 0
  · have hf := pm_it hf c63
    by_cases c64 : x4 = 32
    · have hf := pm_it hf c64
      cases hf
      exact K0
    · have hf := pm_ie hf c64
      cases hf
      exact K0
  · have hf := pm_ie hf c63
    obtain ⟨k65, hf⟩ := pm_if hf
    obtain ⟨v66, e67, hf⟩ := pm_bd hf
    obtain ⟨k68, hf⟩ := pm_if hf
    by_cases c69 : (pm_I h v66 0) = 0
    · have hf := pm_it hf c69
      by_cases c70 : x5 = 0
      · have hf := pm_it hf c70
        by_cases c71 : x4 = 32
        · have hf := pm_it hf c71
          cases hf
          exact K0
        · have hf := pm_ie hf c71
          cases hf
          exact K0
      · have hf := pm_ie hf c70
        obtain ⟨y72, e73, hf⟩ := pm_lt hf
        by_cases c74 : x4 = 32
        · have hf := pm_it hf c74
          cases hf
          exact K0
        · have hf := pm_ie hf c74
          cases hf
          exact K0
    · have hf := pm_ie hf c69
      by_cases c75 : x5 = 0
      · have hf := pm_it hf c75
        by_cases c76 : x4 = 32
        · have hf := pm_it hf c76
          cases hf
          exact K0
        · have hf := pm_ie hf c76
          cases hf
          exact K0
      · have hf := pm_ie hf c75
        obtain ⟨y77, e78, hf⟩ := pm_lt hf
        by_cases c79 : x4 = 32
        · have hf := pm_it hf c79
          cases hf
          exact K0
        · have hf := pm_ie hf c79
          cases hf
          exact K0
set_option maxHeartbeats 4000000 in
set_option maxRecDepth 100000 in
theorem wfX16_towards_b258 {h0 h : pm_H} (K0 : pw_F WX16_towards h0 h) {x0 : Nat} {x4 : Int32} {x5 : Int32} {x9 : Int64} {x11 : Int64} {x13 : Int32}  {r : (Int64 × pm_H)} (hf : fX16_towards_b258 h x0 x4 x5 x9 x11 x13 = some r) : pw_F WX16_towards h0 r.2 := by
  unfold fX16_towards_b258 at hf
  obtain ⟨k58, hf⟩ := pm_if hf
  obtain ⟨v59, e60, hf⟩ := pm_bd hf
  obtain ⟨k61, hf⟩ := pm_if hf
  by_cases c62 : (pm_I h v59 0) = 0
  · have hf := pm_it hf c62
    exact wfX16_towards_b276 K0  hf
  · have hf := pm_ie hf c62
    exact wfX16_towards_b276 K0  hf
set_option maxHeartbeats 4000000 in
set_option maxRecDepth 100000 in
theorem wfX16_towards_b241 {h0 h : pm_H} (K0 : pw_F WX16_towards h0 h) {x0 : Nat} {x4 : Int32} {x5 : Int32} {x6 : Int32} {x9 : Int64} {x11 : Int64} {s0 : Int32}  {r : (Int64 × pm_H)} (hf : fX16_towards_b241 h x0 x4 x5 x6 x9 x11 s0 = some r) : pw_F WX16_towards h0 r.2 := by
  unfold fX16_towards_b241 at hf
  by_cases c52 : s0 = 0
  · have hf := pm_it hf c52
    exact wfX16_towards_b258 K0  hf
  · have hf := pm_ie hf c52
    by_cases c53 : x6 = 0
    · have hf := pm_it hf c53
      obtain ⟨k54, hf⟩ := pm_if hf
      obtain ⟨v55, e56, hf⟩ := pm_bd hf
      have K57 := pw_t (by decide) K0 (wfX16_traps (pw_rf _) e56)
      exact wfX16_towards_b258 K57  hf
    · have hf := pm_ie hf c53
      exact wfX16_towards_b258 K0  hf
set_option maxHeartbeats 4000000 in
set_option maxRecDepth 100000 in
theorem wfX16_towards_b240 {h0 h : pm_H} (K0 : pw_F WX16_towards h0 h) {x0 : Nat} {x4 : Int32} {x5 : Int32} {x6 : Int32} {x9 : Int64} {x11 : Int64}  {r : (Int64 × pm_H)} (hf : fX16_towards_b240 h x0 x4 x5 x6 x9 x11 = some r) : pw_F WX16_towards h0 r.2 := by
  unfold fX16_towards_b240 at hf
  exact wfX16_towards_b241 K0  hf
set_option maxHeartbeats 4000000 in
set_option maxRecDepth 100000 in
theorem wfX16_towards_b236 {h0 h : pm_H} (K0 : pw_F WX16_towards h0 h) {x0 : Nat} {x4 : Int32} {x5 : Int32} {x6 : Int32} {x9 : Int64} {x11 : Int64}  {r : (Int64 × pm_H)} (hf : fX16_towards_b236 h x0 x4 x5 x6 x9 x11 = some r) : pw_F WX16_towards h0 r.2 := by
  unfold fX16_towards_b236 at hf
  exact wfX16_towards_b241 K0  hf
set_option maxHeartbeats 4000000 in
set_option maxRecDepth 100000 in
theorem wfX16_towards_b148 {h0 h : pm_H} (K0 : pw_F WX16_towards h0 h) {x0 : Nat} {x4 : Int32} {x5 : Int32} {x6 : Int32} {x8 : Int32} {s0 : Int64}  {r : (Int64 × pm_H)} (hf : fX16_towards_b148 h x0 x4 x5 x6 x8 s0 = some r) : pw_F WX16_towards h0 r.2 := by
  unfold fX16_towards_b148 at hf
  obtain ⟨y33, e34, hf⟩ := pm_lt hf
  by_cases c35 : x8 = 0
  · have hf := pm_it hf c35
    obtain ⟨k36, hf⟩ := pm_if hf
    obtain ⟨v37, e38, hf⟩ := pm_bd hf
    obtain ⟨k39, hf⟩ := pm_if hf
    by_cases c40 : (pm_I h v37 0) = 0
    · have hf := pm_it hf c40
      by_cases c41 : x5 = 0
      · have hf := pm_it hf c41
        by_cases c42 : x4 = 32
        · have hf := pm_it hf c42
          by_cases c43 : ((s0.toUInt64 >>> ((32 : Int32).toInt64.toUInt64 &&& Int64.toUInt64 63)).toInt64) = 0
          · have hf := pm_it hf c43
            exact wfX16_towards_b240 K0  hf
          · have hf := pm_ie hf c43
            exact wfX16_towards_b236 K0  hf
        · have hf := pm_ie hf c42
          exact wfX16_towards_b240 K0  hf
      · have hf := pm_ie hf c41
        obtain ⟨v44, e45, hf⟩ := pm_lt hf
        by_cases c46 : v44 = 0
        · have hf := pm_it hf c46
          exact wfX16_towards_b236 K0  hf
        · have hf := pm_ie hf c46
          exact wfX16_towards_b240 K0  hf
    · have hf := pm_ie hf c40
      by_cases c47 : x5 = 0
      · have hf := pm_it hf c47
        by_cases c48 : s0 = 0
        · have hf := pm_it hf c48
          exact wfX16_towards_b240 K0  hf
        · have hf := pm_ie hf c48
          exact wfX16_towards_b236 K0  hf
      · have hf := pm_ie hf c47
        obtain ⟨v49, e50, hf⟩ := pm_lt hf
        by_cases c51 : v49 = 0
        · have hf := pm_it hf c51
          exact wfX16_towards_b240 K0  hf
        · have hf := pm_ie hf c51
          exact wfX16_towards_b236 K0  hf
  · have hf := pm_ie hf c35
    exact wfX16_towards_b236 K0  hf
set_option maxHeartbeats 4000000 in
set_option maxRecDepth 100000 in
theorem wfX16_towards_b115 {h0 h : pm_H} (K0 : pw_F WX16_towards h0 h) {x0 : Nat} {x4 : Int32} {x5 : Int32} {x6 : Int32} {x8 : Int32}  {r : (Int64 × pm_H)} (hf : fX16_towards_b115 h x0 x4 x5 x6 x8 = some r) : pw_F WX16_towards h0 r.2 := by
  unfold fX16_towards_b115 at hf
  exact wfX16_towards_b148 K0  hf
set_option maxHeartbeats 4000000 in
set_option maxRecDepth 100000 in
theorem wfX16_towards_b91 {h0 h : pm_H} (K0 : pw_F WX16_towards h0 h) {x0 : Nat} {x4 : Int32} {x5 : Int32} {x6 : Int32} {x7 : Int32} {s0 : Int32}  {r : (Int64 × pm_H)} (hf : fX16_towards_b91 h x0 x4 x5 x6 x7 s0 = some r) : pw_F WX16_towards h0 r.2 := by
  unfold fX16_towards_b91 at hf
  obtain ⟨k25, hf⟩ := pm_if hf
  obtain ⟨v26, e27, hf⟩ := pm_bd hf
  obtain ⟨k28, hf⟩ := pm_if hf
  by_cases c29 : (pm_I h v26 1) = 0
  · have hf := pm_it hf c29
    by_cases c30 : s0 = 0
    · have hf := pm_it hf c30
      by_cases c31 : (-63) ≤ x7
      · have hf := pm_it hf c31
        by_cases c32 : 0 ≤ x7
        · have hf := pm_it hf c32
          exact wfX16_towards_b148 K0  hf
        · have hf := pm_ie hf c32
          exact wfX16_towards_b148 K0  hf
      · have hf := pm_ie hf c31
        exact wfX16_towards_b115 K0  hf
    · have hf := pm_ie hf c30
      exact wfX16_towards_b115 K0  hf
  · have hf := pm_ie hf c29
    exact wfX16_towards_b115 K0  hf
set_option maxHeartbeats 4000000 in
set_option maxRecDepth 100000 in
theorem wfX16_towards_b90 {h0 h : pm_H} (K0 : pw_F WX16_towards h0 h) {x0 : Nat} {x4 : Int32} {x5 : Int32} {x6 : Int32} {x7 : Int32}  {r : (Int64 × pm_H)} (hf : fX16_towards_b90 h x0 x4 x5 x6 x7 = some r) : pw_F WX16_towards h0 r.2 := by
  unfold fX16_towards_b90 at hf
  exact wfX16_towards_b91 K0  hf
set_option maxHeartbeats 4000000 in
set_option maxRecDepth 100000 in
theorem wfX16_towards_b86 {h0 h : pm_H} (K0 : pw_F WX16_towards h0 h) {x0 : Nat} {x4 : Int32} {x5 : Int32} {x6 : Int32} {x7 : Int32}  {r : (Int64 × pm_H)} (hf : fX16_towards_b86 h x0 x4 x5 x6 x7 = some r) : pw_F WX16_towards h0 r.2 := by
  unfold fX16_towards_b86 at hf
  exact wfX16_towards_b91 K0  hf
set_option maxHeartbeats 4000000 in
set_option maxRecDepth 100000 in
theorem wfX16_towards {h0 h : pm_H} (K0 : pw_F WX16_towards h0 h) {a0 : Nat} {p1 : Int32} {p2 : Int64} {p3 : Int32} {p4 : Int32} {p5 : Int32}  {r : (Int64 × pm_H)} (hf : fX16_towards h a0 p1 p2 p3 p4 p5 = some r) : pw_F WX16_towards h0 r.2 := by
  unfold fX16_towards at hf
  obtain ⟨k1, hf⟩ := pm_if hf
  obtain ⟨v2, e3, hf⟩ := pm_bd hf
  obtain ⟨k4, hf⟩ := pm_if hf
  obtain ⟨v5, e6, hf⟩ := pm_bd hf
  have K7 := pw_t (by decide) K0 (wfX15_read (pw_rf _) e6)
  obtain ⟨k8, hf⟩ := pm_if hf
  obtain ⟨v9, e10, hf⟩ := pm_bd hf
  obtain ⟨k11, hf⟩ := pm_if hf
  by_cases c12 : (pm_I v5 v9 1) = 3
  · have hf := pm_it hf c12
    by_cases c13 : p5 = 0
    · have hf := pm_it hf c13
      obtain ⟨v14, e15, hf⟩ := pm_bd hf
      have K16 := pw_t (by decide) K7 (wfX16_traps (pw_rf _) e15)
      cases hf
      exact K16
    · have hf := pm_ie hf c13
      cases hf
      exact K7
  · have hf := pm_ie hf c12
    obtain ⟨y17, e18, hf⟩ := pm_lt hf
    by_cases c19 : (pm_I v5 v9 1) = 2
    · have hf := pm_it hf c19
      exact wfX16_towards_b86 K7  hf
    · have hf := pm_ie hf c19
      by_cases c20 : (pm_I v5 v9 1) = 0
      · have hf := pm_it hf c20
        by_cases c21 : y17 ≤ 0
        · have hf := pm_it hf c21
          exact wfX16_towards_b90 K7  hf
        · have hf := pm_ie hf c21
          obtain ⟨v22, e23, hf⟩ := pm_bd hf
          by_cases c24 : (v22 + y17) ≤ 64
          · have hf := pm_it hf c24
            exact wfX16_towards_b90 K7  hf
          · have hf := pm_ie hf c24
            exact wfX16_towards_b86 K7  hf
      · have hf := pm_ie hf c20
        exact wfX16_towards_b90 K7  hf
abbrev WX16_wholeOf : List Nat := [1920, 1921, 1922, 1923]
set_option maxHeartbeats 4000000 in
set_option maxRecDepth 100000 in
theorem wfX16_wholeOf_b204 {h0 h : pm_H} (K0 : pw_F WX16_wholeOf h0 h) {x0 : Nat} {x2 : Int32} {x6 : Int64} {s0 : Int32}  {r : (Int64 × pm_H)} (hf : fX16_wholeOf_b204 h x0 x2 x6 s0 = some r) : pw_F WX16_wholeOf h0 r.2 := by
  unfold fX16_wholeOf_b204 at hf
  by_cases c43 : s0 = 0
  · have hf := pm_it hf c43
    by_cases c44 : x6 = 0
    · have hf := pm_it hf c44
      obtain ⟨k45, hf⟩ := pm_if hf
      obtain ⟨v46, e47, hf⟩ := pm_bd hf
      obtain ⟨k48, hf⟩ := pm_if hf
      obtain ⟨v49, e50, hf⟩ := pm_lt hf
      cases hf
      exact K0
    · have hf := pm_ie hf c44
      obtain ⟨k51, hf⟩ := pm_if hf
      obtain ⟨v52, e53, hf⟩ := pm_bd hf
      obtain ⟨k54, hf⟩ := pm_if hf
      obtain ⟨v55, e56, hf⟩ := pm_bd hf
      cases hf
      exact K0
  · have hf := pm_ie hf c43
    obtain ⟨y57, e58, hf⟩ := pm_lt hf
    by_cases c59 : y57 = 0
    · have hf := pm_it hf c59
      obtain ⟨k60, hf⟩ := pm_if hf
      obtain ⟨v61, e62, hf⟩ := pm_bd hf
      obtain ⟨k63, hf⟩ := pm_if hf
      obtain ⟨v64, e65, hf⟩ := pm_lt hf
      cases hf
      exact K0
    · have hf := pm_ie hf c59
      obtain ⟨k66, hf⟩ := pm_if hf
      obtain ⟨v67, e68, hf⟩ := pm_bd hf
      obtain ⟨k69, hf⟩ := pm_if hf
      obtain ⟨v70, e71, hf⟩ := pm_bd hf
      cases hf
      exact K0
set_option maxHeartbeats 4000000 in
set_option maxRecDepth 100000 in
theorem wfX16_wholeOf_b203 {h0 h : pm_H} (K0 : pw_F WX16_wholeOf h0 h) {x0 : Nat} {x2 : Int32} {x6 : Int64}  {r : (Int64 × pm_H)} (hf : fX16_wholeOf_b203 h x0 x2 x6 = some r) : pw_F WX16_wholeOf h0 r.2 := by
  unfold fX16_wholeOf_b203 at hf
  exact wfX16_wholeOf_b204 K0  hf
set_option maxHeartbeats 4000000 in
set_option maxRecDepth 100000 in
theorem wfX16_wholeOf_b199 {h0 h : pm_H} (K0 : pw_F WX16_wholeOf h0 h) {x0 : Nat} {x2 : Int32} {x6 : Int64}  {r : (Int64 × pm_H)} (hf : fX16_wholeOf_b199 h x0 x2 x6 = some r) : pw_F WX16_wholeOf h0 r.2 := by
  unfold fX16_wholeOf_b199 at hf
  exact wfX16_wholeOf_b204 K0  hf
set_option maxHeartbeats 4000000 in
set_option maxRecDepth 100000 in
theorem wfX16_wholeOf_b169 {h0 h : pm_H} (K0 : pw_F WX16_wholeOf h0 h) {x0 : Nat} {x1 : Int32} {x2 : Int32} {x6 : Int64} {x8 : Int64} {x10 : Int64}  {r : (Int64 × pm_H)} (hf : fX16_wholeOf_b169 h x0 x1 x2 x6 x8 x10 = some r) : pw_F WX16_wholeOf h0 r.2 := by
  unfold fX16_wholeOf_b169 at hf
  by_cases c72 : x1 = 3
  · have hf := pm_it hf c72
    by_cases c73 : x10 < x8
    · have hf := pm_it hf c73
      exact wfX16_wholeOf_b199 K0  hf
    · have hf := pm_ie hf c73
      by_cases c74 : x8 = x10
      · have hf := pm_it hf c74
        by_cases c75 : (x6 &&& 1) = 1
        · have hf := pm_it hf c75
          exact wfX16_wholeOf_b199 K0  hf
        · have hf := pm_ie hf c75
          exact wfX16_wholeOf_b203 K0  hf
      · have hf := pm_ie hf c74
        exact wfX16_wholeOf_b203 K0  hf
  · have hf := pm_ie hf c72
    exact wfX16_wholeOf_b203 K0  hf
set_option maxHeartbeats 4000000 in
set_option maxRecDepth 100000 in
theorem wfX16_wholeOf_b154 {h0 h : pm_H} (K0 : pw_F WX16_wholeOf h0 h) {x0 : Nat} {x1 : Int32} {x2 : Int32} {x6 : Int64} {x8 : Int64} {x10 : Int64}  {r : (Int64 × pm_H)} (hf : fX16_wholeOf_b154 h x0 x1 x2 x6 x8 x10 = some r) : pw_F WX16_wholeOf h0 r.2 := by
  unfold fX16_wholeOf_b154 at hf
  by_cases c37 : x1 = 1
  · have hf := pm_it hf c37
    obtain ⟨k38, hf⟩ := pm_if hf
    obtain ⟨v39, e40, hf⟩ := pm_bd hf
    obtain ⟨k41, hf⟩ := pm_if hf
    by_cases c42 : (pm_I h v39 0) = 0
    · have hf := pm_it hf c42
      exact wfX16_wholeOf_b169 K0  hf
    · have hf := pm_ie hf c42
      exact wfX16_wholeOf_b199 K0  hf
  · have hf := pm_ie hf c37
    exact wfX16_wholeOf_b169 K0  hf
set_option maxHeartbeats 4000000 in
set_option maxRecDepth 100000 in
theorem wfX16_wholeOf_b131 {h0 h : pm_H} (K0 : pw_F WX16_wholeOf h0 h) {x0 : Nat} {x1 : Int32} {x2 : Int32} {x6 : Int64} {x8 : Int64} {s0 : Int64}  {r : (Int64 × pm_H)} (hf : fX16_wholeOf_b131 h x0 x1 x2 x6 x8 s0 = some r) : pw_F WX16_wholeOf h0 r.2 := by
  unfold fX16_wholeOf_b131 at hf
  by_cases c30 : x8 = 0
  · have hf := pm_it hf c30
    exact wfX16_wholeOf_b203 K0  hf
  · have hf := pm_ie hf c30
    by_cases c31 : x1 = 0
    · have hf := pm_it hf c31
      obtain ⟨k32, hf⟩ := pm_if hf
      obtain ⟨v33, e34, hf⟩ := pm_bd hf
      obtain ⟨k35, hf⟩ := pm_if hf
      by_cases c36 : (pm_I h v33 0) = 0
      · have hf := pm_it hf c36
        exact wfX16_wholeOf_b199 K0  hf
      · have hf := pm_ie hf c36
        exact wfX16_wholeOf_b154 K0  hf
    · have hf := pm_ie hf c31
      exact wfX16_wholeOf_b154 K0  hf
set_option maxHeartbeats 4000000 in
set_option maxRecDepth 100000 in
theorem wfX16_wholeOf_b110 {h0 h : pm_H} (K0 : pw_F WX16_wholeOf h0 h) {x0 : Nat} {x1 : Int32} {x2 : Int32} {x5 : Int32} {x6 : Int64} {s0 : Int64}  {r : (Int64 × pm_H)} (hf : fX16_wholeOf_b110 h x0 x1 x2 x5 x6 s0 = some r) : pw_F WX16_wholeOf h0 r.2 := by
  unfold fX16_wholeOf_b110 at hf
  by_cases c29 : x5 ≤ 62
  · have hf := pm_it hf c29
    exact wfX16_wholeOf_b131 K0  hf
  · have hf := pm_ie hf c29
    exact wfX16_wholeOf_b131 K0  hf
set_option maxHeartbeats 4000000 in
set_option maxRecDepth 100000 in
theorem wfX16_wholeOf_b78 {h0 h : pm_H} (K0 : pw_F WX16_wholeOf h0 h) {x0 : Nat} {x1 : Int32} {x2 : Int32} {x5 : Int32} {s0 : Int64}  {r : (Int64 × pm_H)} (hf : fX16_wholeOf_b78 h x0 x1 x2 x5 s0 = some r) : pw_F WX16_wholeOf h0 r.2 := by
  unfold fX16_wholeOf_b78 at hf
  by_cases c20 : x5 ≤ 62
  · have hf := pm_it hf c20
    obtain ⟨k21, hf⟩ := pm_if hf
    obtain ⟨v22, e23, hf⟩ := pm_bd hf
    obtain ⟨k24, hf⟩ := pm_if hf
    exact wfX16_wholeOf_b110 K0  hf
  · have hf := pm_ie hf c20
    obtain ⟨k25, hf⟩ := pm_if hf
    obtain ⟨v26, e27, hf⟩ := pm_bd hf
    obtain ⟨k28, hf⟩ := pm_if hf
    exact wfX16_wholeOf_b110 K0  hf
set_option maxHeartbeats 4000000 in
set_option maxRecDepth 100000 in
theorem wfX16_wholeOf {h0 h : pm_H} (K0 : pw_F WX16_wholeOf h0 h) {a0 : Nat} {p1 : Int32} {p2 : Int32} {p3 : Int64}  {r : (Int64 × pm_H)} (hf : fX16_wholeOf h a0 p1 p2 p3 = some r) : pw_F WX16_wholeOf h0 r.2 := by
  unfold fX16_wholeOf at hf
  obtain ⟨k1, hf⟩ := pm_if hf
  obtain ⟨v2, e3, hf⟩ := pm_bd hf
  obtain ⟨k4, hf⟩ := pm_if hf
  obtain ⟨v5, e6, hf⟩ := pm_bd hf
  have K7 := pw_t (by decide) K0 (wfX15_read (pw_rf _) e6)
  obtain ⟨k8, hf⟩ := pm_if hf
  obtain ⟨v9, e10, hf⟩ := pm_bd hf
  obtain ⟨k11, hf⟩ := pm_if hf
  by_cases c12 : (pm_I v5 v9 1) = 3
  · have hf := pm_it hf c12
    obtain ⟨v13, e14, hf⟩ := pm_lt hf
    cases hf
    exact K7
  · have hf := pm_ie hf c12
    by_cases c15 : (pm_I v5 v9 1) = 0
    · have hf := pm_it hf c15
      by_cases c16 : (pm_I v5 v9 3) < 0
      · have hf := pm_it hf c16
        obtain ⟨y17, e18, hf⟩ := pm_lt hf
        by_cases c19 : y17 ≤ 62
        · have hf := pm_it hf c19
          exact wfX16_wholeOf_b78 K7  hf
        · have hf := pm_ie hf c19
          exact wfX16_wholeOf_b78 K7  hf
      · have hf := pm_ie hf c16
        cases hf
        exact K7
    · have hf := pm_ie hf c15
      cases hf
      exact K7
abbrev WX1_die : List Nat := [134, 4352]
set_option maxHeartbeats 4000000 in
set_option maxRecDepth 100000 in
theorem wfX1_die {h0 h : pm_H} (K0 : pw_F WX1_die h0 h) {a0 : Nat}  {r : pm_H} (hf : fX1_die h a0 = some r) : pw_F WX1_die h0 r := by
  unfold fX1_die at hf
  obtain ⟨k1, hf⟩ := pm_if hf
  obtain ⟨y2, e3, hf⟩ := pm_lt hf
  obtain ⟨v4, e5, hf⟩ := pm_bd hf
  obtain ⟨v6, e7, hf⟩ := pm_bd hf
  have K8 := pw_t (by decide) (pw_sI K0 rfl k1 (by decide)) (wfX1_setLabel (pw_rf _) e7)
  cases hf
  exact K8
abbrev WX1_emit : List Nat := [2, 4352]
set_option maxHeartbeats 4000000 in
set_option maxRecDepth 100000 in
theorem wfX1_emit {h0 h : pm_H} (K0 : pw_F WX1_emit h0 h) {a0 : Nat} {p1 : Int32} {p2 : Int32} {p3 : Int32} {p4 : Int32}  {r : (Int32 × pm_H)} (hf : fX1_emit h a0 p1 p2 p3 p4 = some r) : pw_F WX1_emit h0 r.2 := by
  unfold fX1_emit at hf
  obtain ⟨k1, hf⟩ := pm_if hf
  obtain ⟨v2, e3, hf⟩ := pm_bd hf
  by_cases c4 : v2 = 0
  · have hf := pm_it hf c4
    cases hf
    exact K0
  · have hf := pm_ie hf c4
    obtain ⟨v5, e6, hf⟩ := pm_bd hf
    obtain ⟨k7, hf⟩ := pm_if hf
    obtain ⟨v8, e9, hf⟩ := pm_bd hf
    have K10 := pw_t (by decide) K0 (wfX0_emit (pw_rf _) e9)
    cases hf
    exact K10
abbrev WX1_emitPlain : List Nat := [2, 4352]
set_option maxHeartbeats 4000000 in
set_option maxRecDepth 100000 in
theorem wfX1_emitPlain {h0 h : pm_H} (K0 : pw_F WX1_emitPlain h0 h) {a0 : Nat} {p1 : Int32} {p2 : Int32}  {r : pm_H} (hf : fX1_emitPlain h a0 p1 p2 = some r) : pw_F WX1_emitPlain h0 r := by
  unfold fX1_emitPlain at hf
  obtain ⟨k1, hf⟩ := pm_if hf
  obtain ⟨v2, e3, hf⟩ := pm_bd hf
  obtain ⟨k4, hf⟩ := pm_if hf
  by_cases c5 : p2 = 0
  · have hf := pm_it hf c5
    obtain ⟨v6, e7, hf⟩ := pm_bd hf
    have K8 := pw_t (by decide) K0 (wfX1_emit (pw_rf _) e7)
    cases hf
    exact K8
  · have hf := pm_ie hf c5
    obtain ⟨v9, e10, hf⟩ := pm_bd hf
    have K11 := pw_t (by decide) K0 (wfX1_emit (pw_rf _) e10)
    cases hf
    exact K11
abbrev WX1_exportsAreRight : List Nat := [128, 129, 4096]
set_option maxHeartbeats 4000000 in
set_option maxRecDepth 100000 in
theorem wlX1_exportsAreRight {h0 : pm_H} {r : pm_H} : ∀ n : Nat, (∀ (x0 : Nat) (x1 : Int32) (h : pm_H), pw_F WX1_exportsAreRight h0 h → pm_iter sX1_exportsAreRight n (.inl (x0, x1, h)) = some r → pw_F WX1_exportsAreRight h0 r) ∧ (∀ (x0 : Nat) (x1 : Int32) (x4 : Int32) (h : pm_H), pw_F WX1_exportsAreRight h0 h → pm_iter sX1_exportsAreRight n (.inr (x0, x1, x4, h)) = some r → pw_F WX1_exportsAreRight h0 r) := by
  intro n
  induction n with
  | zero => exact ⟨fun _ _ _ _ hf => (by cases hf), fun _ _ _ _ _ hf => (by cases hf)⟩
  | succ n ih =>
    refine ⟨fun x0 x1 h K0 hf => ?_, ?_⟩
    · obtain ⟨y, hf, hi⟩ := pm_iter_s hf
      have hf : tX1_exportsAreRight_2 x0 x1 h = some y := hf
      unfold tX1_exportsAreRight_2 at hf
      obtain ⟨k1, hf⟩ := pm_if hf
      obtain ⟨v2, e3, hf⟩ := pm_bd hf
      obtain ⟨k4, hf⟩ := pm_if hf
      obtain ⟨v5, e6, hf⟩ := pm_bd hf
      obtain ⟨k7, hf⟩ := pm_if hf
      by_cases c8 : (Int32.ofNat (pm_ln h v5)) ≤ x1
      · have hf := pm_it hf c8
        cases hf
        cases hi
        exact K0
      · have hf := pm_ie hf c8
        obtain ⟨v9, e10, hf⟩ := pm_bd hf
        obtain ⟨v11, e12, hf⟩ := pm_bd hf
        obtain ⟨v13, e14, hf⟩ := pm_bd hf
        by_cases c15 : v13 = 0
        · have hf := pm_it hf c15
          obtain ⟨v16, e17, hf⟩ := pm_bd hf
          have K18 := pw_t (by decide) K0 (wfX1_failSection (pw_rf _) e17)
          by_cases c19 : v9 = 0
          · have hf := pm_it hf c19
            obtain ⟨k20, hf⟩ := pm_if hf
            obtain ⟨v21, e22, hf⟩ := pm_bd hf
            have K23 := pw_t (by decide) K18 (wfX1_declare (pw_rf _) e22)
            cases hf
            exact ih.2 x0 x1 0 v21 K23  hi
          · have hf := pm_ie hf c19
            cases hf
            exact ih.2 x0 x1 0 v16 K18  hi
        · have hf := pm_ie hf c15
          by_cases c24 : v9 = 0
          · have hf := pm_it hf c24
            obtain ⟨v25, e26, hf⟩ := pm_bd hf
            have K27 := pw_t (by decide) K0 (wfX1_declare (pw_rf _) e26)
            cases hf
            exact ih.2 x0 x1 0 v25 K27  hi
          · have hf := pm_ie hf c24
            cases hf
            exact ih.2 x0 x1 0 h K0  hi
    refine fun x0 x1 x4 h K0 hf => ?_
    obtain ⟨y, hf, hi⟩ := pm_iter_s hf
    have hf : tX1_exportsAreRight_76 x0 x1 x4 h = some y := hf
    unfold tX1_exportsAreRight_76 at hf
    by_cases c28 : x1 ≤ x4
    · have hf := pm_it hf c28
      obtain ⟨y29, e30, hf⟩ := pm_lt hf
      cases hf
      exact ih.1 x0 y29 h K0  hi
    · have hf := pm_ie hf c28
      obtain ⟨k31, hf⟩ := pm_if hf
      obtain ⟨v32, e33, hf⟩ := pm_bd hf
      by_cases c34 : v32 = 0
      · have hf := pm_it hf c34
        obtain ⟨y35, e36, hf⟩ := pm_lt hf
        cases hf
        exact ih.2 x0 x1 y35 h K0  hi
      · have hf := pm_ie hf c34
        obtain ⟨v37, e38, hf⟩ := pm_bd hf
        have K39 := pw_t (by decide) K0 (wfX1_failSection (pw_rf _) e38)
        obtain ⟨y40, e41, hf⟩ := pm_lt hf
        cases hf
        exact ih.2 x0 x1 y40 v37 K39  hi
set_option maxHeartbeats 4000000 in
set_option maxRecDepth 100000 in
theorem wfX1_exportsAreRight {h0 h : pm_H} (K0 : pw_F WX1_exportsAreRight h0 h) {a0 : Nat}  {r : pm_H} (hf : fX1_exportsAreRight h a0 = some r) : pw_F WX1_exportsAreRight h0 r := by
  unfold fX1_exportsAreRight at hf
  obtain ⟨n, hn⟩ := pm_lim_iter hf
  exact (wlX1_exportsAreRight n).1 a0 0 h K0  hn
abbrev WX1_limitsAreRight : List Nat := [128, 129]
set_option maxHeartbeats 4000000 in
set_option maxRecDepth 100000 in
theorem wlX1_limitsAreRight {h0 : pm_H} {r : pm_H} : ∀ n : Nat, (∀ (x0 : Nat) (x1 : Int32) (h : pm_H), pw_F WX1_limitsAreRight h0 h → pm_iter sX1_limitsAreRight n (.inl (x0, x1, h)) = some r → pw_F WX1_limitsAreRight h0 r) ∧ (∀ (x0 : Nat) (x1 : Int32) (h : pm_H), pw_F WX1_limitsAreRight h0 h → pm_iter sX1_limitsAreRight n (.inr (.inl (x0, x1, h))) = some r → pw_F WX1_limitsAreRight h0 r) ∧ (∀ (x0 : Nat) (x1 : Int32) (h : pm_H), pw_F WX1_limitsAreRight h0 h → pm_iter sX1_limitsAreRight n (.inr (.inr (x0, x1, h))) = some r → pw_F WX1_limitsAreRight h0 r) := by
  intro n
  induction n with
  | zero => exact ⟨fun _ _ _ _ hf => (by cases hf), fun _ _ _ _ hf => (by cases hf), fun _ _ _ _ hf => (by cases hf)⟩
  | succ n ih =>
    refine ⟨fun x0 x1 h K0 hf => ?_, ?_⟩
    · obtain ⟨y, hf, hi⟩ := pm_iter_s hf
      have hf : tX1_limitsAreRight_2 x0 x1 h = some y := hf
      unfold tX1_limitsAreRight_2 at hf
      obtain ⟨k1, hf⟩ := pm_if hf
      obtain ⟨v2, e3, hf⟩ := pm_bd hf
      obtain ⟨k4, hf⟩ := pm_if hf
      obtain ⟨v5, e6, hf⟩ := pm_bd hf
      obtain ⟨k7, hf⟩ := pm_if hf
      by_cases c8 : (Int32.ofNat (pm_ln h v5)) ≤ x1
      · have hf := pm_it hf c8
        obtain ⟨v9, e10, hf⟩ := pm_bd hf
        cases hf
        exact ih.2.1 x0 v9 h K0  hi
      · have hf := pm_ie hf c8
        obtain ⟨v11, e12, hf⟩ := pm_bd hf
        by_cases c13 : v11 = 0
        · have hf := pm_it hf c13
          obtain ⟨v14, e15, hf⟩ := pm_bd hf
          have K16 := pw_t (by decide) K0 (wfX1_failSection (pw_rf _) e15)
          obtain ⟨y17, e18, hf⟩ := pm_lt hf
          cases hf
          exact ih.1 x0 y17 v14 K16  hi
        · have hf := pm_ie hf c13
          obtain ⟨y19, e20, hf⟩ := pm_lt hf
          cases hf
          exact ih.1 x0 y19 h K0  hi
    refine ⟨fun x0 x1 h K0 hf => ?_, ?_⟩
    · obtain ⟨y, hf, hi⟩ := pm_iter_s hf
      have hf : tX1_limitsAreRight_50 x0 x1 h = some y := hf
      unfold tX1_limitsAreRight_50 at hf
      obtain ⟨k21, hf⟩ := pm_if hf
      obtain ⟨v22, e23, hf⟩ := pm_bd hf
      obtain ⟨k24, hf⟩ := pm_if hf
      obtain ⟨v25, e26, hf⟩ := pm_bd hf
      by_cases c27 : v25 ≤ x1
      · have hf := pm_it hf c27
        obtain ⟨v28, e29, hf⟩ := pm_bd hf
        cases hf
        exact ih.2.2 x0 v28 h K0  hi
      · have hf := pm_ie hf c27
        obtain ⟨v30, e31, hf⟩ := pm_bd hf
        obtain ⟨v32, e33, hf⟩ := pm_bd hf
        by_cases c34 : v32 = 0
        · have hf := pm_it hf c34
          obtain ⟨v35, e36, hf⟩ := pm_bd hf
          have K37 := pw_t (by decide) K0 (wfX1_failSection (pw_rf _) e36)
          obtain ⟨y38, e39, hf⟩ := pm_lt hf
          cases hf
          exact ih.2.1 x0 y38 v35 K37  hi
        · have hf := pm_ie hf c34
          obtain ⟨y40, e41, hf⟩ := pm_lt hf
          cases hf
          exact ih.2.1 x0 y40 h K0  hi
    refine fun x0 x1 h K0 hf => ?_
    obtain ⟨y, hf, hi⟩ := pm_iter_s hf
    have hf : tX1_limitsAreRight_101 x0 x1 h = some y := hf
    unfold tX1_limitsAreRight_101 at hf
    obtain ⟨k42, hf⟩ := pm_if hf
    obtain ⟨v43, e44, hf⟩ := pm_bd hf
    obtain ⟨k45, hf⟩ := pm_if hf
    obtain ⟨v46, e47, hf⟩ := pm_bd hf
    by_cases c48 : v46 ≤ x1
    · have hf := pm_it hf c48
      cases hf
      cases hi
      exact K0
    · have hf := pm_ie hf c48
      obtain ⟨v49, e50, hf⟩ := pm_bd hf
      obtain ⟨v51, e52, hf⟩ := pm_bd hf
      by_cases c53 : v51 = 0
      · have hf := pm_it hf c53
        obtain ⟨v54, e55, hf⟩ := pm_bd hf
        have K56 := pw_t (by decide) K0 (wfX1_failSection (pw_rf _) e55)
        obtain ⟨y57, e58, hf⟩ := pm_lt hf
        cases hf
        exact ih.2.2 x0 y57 v54 K56  hi
      · have hf := pm_ie hf c53
        obtain ⟨y59, e60, hf⟩ := pm_lt hf
        cases hf
        exact ih.2.2 x0 y59 h K0  hi
set_option maxHeartbeats 4000000 in
set_option maxRecDepth 100000 in
theorem wfX1_limitsAreRight {h0 h : pm_H} (K0 : pw_F WX1_limitsAreRight h0 h) {a0 : Nat}  {r : pm_H} (hf : fX1_limitsAreRight h a0 = some r) : pw_F WX1_limitsAreRight h0 r := by
  unfold fX1_limitsAreRight at hf
  obtain ⟨n, hn⟩ := pm_lim_iter hf
  exact (wlX1_limitsAreRight n).1 a0 0 h K0  hn
abbrev WX1_memoryIsOne : List Nat := [128, 129]
set_option maxHeartbeats 4000000 in
set_option maxRecDepth 100000 in
theorem wfX1_memoryIsOne {h0 h : pm_H} (K0 : pw_F WX1_memoryIsOne h0 h) {a0 : Nat}  {r : pm_H} (hf : fX1_memoryIsOne h a0 = some r) : pw_F WX1_memoryIsOne h0 r := by
  unfold fX1_memoryIsOne at hf
  obtain ⟨k1, hf⟩ := pm_if hf
  obtain ⟨v2, e3, hf⟩ := pm_bd hf
  obtain ⟨k4, hf⟩ := pm_if hf
  obtain ⟨v5, e6, hf⟩ := pm_bd hf
  by_cases c7 : 1 < v5
  · have hf := pm_it hf c7
    obtain ⟨v8, e9, hf⟩ := pm_bd hf
    obtain ⟨v10, e11, hf⟩ := pm_bd hf
    by_cases c12 : v10 < 0
    · have hf := pm_it hf c12
      obtain ⟨v13, e14, hf⟩ := pm_bd hf
      have K15 := pw_t (by decide) K0 (wfX1_failSection (pw_rf _) e14)
      cases hf
      exact K15
    · have hf := pm_ie hf c12
      obtain ⟨v16, e17, hf⟩ := pm_bd hf
      have K18 := pw_t (by decide) K0 (wfX1_failSection (pw_rf _) e17)
      cases hf
      exact K18
  · have hf := pm_ie hf c7
    cases hf
    exact K0
abbrev WX1_openLabel : List Nat := [138, 4352]
set_option maxHeartbeats 4000000 in
set_option maxRecDepth 100000 in
theorem wfX1_openLabel {h0 h : pm_H} (K0 : pw_F WX1_openLabel h0 h) {a0 : Nat} {p1 : Int32} {p2 : Int32} {p3 : Int32} {p4 : Int32}  {r : pm_H} (hf : fX1_openLabel h a0 p1 p2 p3 p4 = some r) : pw_F WX1_openLabel h0 r := by
  unfold fX1_openLabel at hf
  obtain ⟨k1, hf⟩ := pm_if hf
  obtain ⟨y2, e3, hf⟩ := pm_lt hf
  obtain ⟨y4, e5, hf⟩ := pm_lt hf
  obtain ⟨v6, e7, hf⟩ := pm_bd hf
  have K8 := pw_t (by decide) (pw_sI K0 rfl k1 (by decide)) (wfX1_setLabel (pw_rf _) e7)
  obtain ⟨k9, hf⟩ := pm_if hf
  obtain ⟨v10, e11, hf⟩ := pm_bd hf
  have K12 := pw_t (by decide) K8 (wfX1_setLabel (pw_rf _) e11)
  obtain ⟨k13, hf⟩ := pm_if hf
  obtain ⟨v14, e15, hf⟩ := pm_bd hf
  have K16 := pw_t (by decide) K12 (wfX1_setLabel (pw_rf _) e15)
  obtain ⟨k17, hf⟩ := pm_if hf
  obtain ⟨v18, e19, hf⟩ := pm_bd hf
  have K20 := pw_t (by decide) K16 (wfX1_setLabel (pw_rf _) e19)
  by_cases c21 : p3 = 0
  · have hf := pm_it hf c21
    obtain ⟨k22, hf⟩ := pm_if hf
    obtain ⟨v23, e24, hf⟩ := pm_bd hf
    have K25 := pw_t (by decide) K20 (wfX1_setLabel (pw_rf _) e24)
    obtain ⟨k26, hf⟩ := pm_if hf
    obtain ⟨v27, e28, hf⟩ := pm_bd hf
    have K29 := pw_t (by decide) K25 (wfX1_setLabel (pw_rf _) e28)
    obtain ⟨k30, hf⟩ := pm_if hf
    obtain ⟨v31, e32, hf⟩ := pm_bd hf
    have K33 := pw_t (by decide) K29 (wfX1_setLabel (pw_rf _) e32)
    cases hf
    exact K33
  · have hf := pm_ie hf c21
    obtain ⟨k34, hf⟩ := pm_if hf
    obtain ⟨v35, e36, hf⟩ := pm_bd hf
    have K37 := pw_t (by decide) K20 (wfX1_setLabel (pw_rf _) e36)
    obtain ⟨k38, hf⟩ := pm_if hf
    obtain ⟨v39, e40, hf⟩ := pm_bd hf
    have K41 := pw_t (by decide) K37 (wfX1_setLabel (pw_rf _) e40)
    obtain ⟨k42, hf⟩ := pm_if hf
    obtain ⟨v43, e44, hf⟩ := pm_bd hf
    have K45 := pw_t (by decide) K41 (wfX1_setLabel (pw_rf _) e44)
    cases hf
    exact K45
abbrev WX1_plain : List Nat := [2, 128, 129, 134, 4352]
set_option maxHeartbeats 4000000 in
set_option maxRecDepth 100000 in
theorem wfX1_plain_b69 {h0 h : pm_H} (K0 : pw_F WX1_plain h0 h) {x0 : Nat} {x4 : Int32} {s0 : Int32} {s1 : Int32}  {r : pm_H} (hf : fX1_plain_b69 h x0 x4 s0 s1 = some r) : pw_F WX1_plain h0 r := by
  unfold fX1_plain_b69 at hf
  obtain ⟨y24, e25, hf⟩ := pm_lt hf
  obtain ⟨k26, hf⟩ := pm_if hf
  obtain ⟨v27, e28, hf⟩ := pm_bd hf
  obtain ⟨k29, hf⟩ := pm_if hf
  by_cases c30 : x4 = 0
  · have hf := pm_it hf c30
    obtain ⟨v31, e32, hf⟩ := pm_bd hf
    have K33 := pw_t (by decide) K0 (wfX1_emit (pw_rf _) e32)
    cases hf
    exact K33
  · have hf := pm_ie hf c30
    obtain ⟨v34, e35, hf⟩ := pm_bd hf
    have K36 := pw_t (by decide) K0 (wfX1_emit (pw_rf _) e35)
    cases hf
    exact K36
set_option maxHeartbeats 4000000 in
set_option maxRecDepth 100000 in
theorem wfX1_plain_b59 {h0 h : pm_H} (K0 : pw_F WX1_plain h0 h) {x0 : Nat} {x3 : Int32} {x4 : Int32} {s0 : Int32} {s1 : Int32}  {r : pm_H} (hf : fX1_plain_b59 h x0 x3 x4 s0 s1 = some r) : pw_F WX1_plain h0 r := by
  unfold fX1_plain_b59 at hf
  by_cases c23 : x3 = 0
  · have hf := pm_it hf c23
    exact wfX1_plain_b69 K0  hf
  · have hf := pm_ie hf c23
    exact wfX1_plain_b69 K0  hf
set_option maxHeartbeats 4000000 in
set_option maxRecDepth 100000 in
theorem wfX1_plain_b50 {h0 h : pm_H} (K0 : pw_F WX1_plain h0 h) {x0 : Nat} {x2 : Int32} {x3 : Int32} {x4 : Int32} {s0 : Int32}  {r : pm_H} (hf : fX1_plain_b50 h x0 x2 x3 x4 s0 = some r) : pw_F WX1_plain h0 r := by
  unfold fX1_plain_b50 at hf
  by_cases c22 : x2 = 0
  · have hf := pm_it hf c22
    exact wfX1_plain_b59 K0  hf
  · have hf := pm_ie hf c22
    exact wfX1_plain_b59 K0  hf
set_option maxHeartbeats 4000000 in
set_option maxRecDepth 100000 in
theorem wfX1_plain_b41 {h0 h : pm_H} (K0 : pw_F WX1_plain h0 h) {x0 : Nat} {x1 : Int32} {x2 : Int32} {x3 : Int32} {x4 : Int32}  {r : pm_H} (hf : fX1_plain_b41 h x0 x1 x2 x3 x4 = some r) : pw_F WX1_plain h0 r := by
  unfold fX1_plain_b41 at hf
  by_cases c21 : x1 = 0
  · have hf := pm_it hf c21
    exact wfX1_plain_b50 K0  hf
  · have hf := pm_ie hf c21
    exact wfX1_plain_b50 K0  hf
set_option maxHeartbeats 4000000 in
set_option maxRecDepth 100000 in
theorem wfX1_plain_b30 {h0 h : pm_H} (K0 : pw_F WX1_plain h0 h) {x0 : Nat} {x1 : Int32} {x2 : Int32} {x3 : Int32} {x4 : Int32}  {r : pm_H} (hf : fX1_plain_b30 h x0 x1 x2 x3 x4 = some r) : pw_F WX1_plain h0 r := by
  unfold fX1_plain_b30 at hf
  by_cases c16 : x4 = 0
  · have hf := pm_it hf c16
    exact wfX1_plain_b41 K0  hf
  · have hf := pm_ie hf c16
    obtain ⟨k17, hf⟩ := pm_if hf
    obtain ⟨v18, e19, hf⟩ := pm_bd hf
    have K20 := pw_t (by decide) K0 (wfX1_put (pw_rf _) e19)
    exact wfX1_plain_b41 K20  hf
set_option maxHeartbeats 4000000 in
set_option maxRecDepth 100000 in
theorem wfX1_plain_b20 {h0 h : pm_H} (K0 : pw_F WX1_plain h0 h) {x0 : Nat} {x1 : Int32} {x2 : Int32} {x3 : Int32} {x4 : Int32}  {r : pm_H} (hf : fX1_plain_b20 h x0 x1 x2 x3 x4 = some r) : pw_F WX1_plain h0 r := by
  unfold fX1_plain_b20 at hf
  by_cases c11 : x3 = 0
  · have hf := pm_it hf c11
    exact wfX1_plain_b30 K0  hf
  · have hf := pm_ie hf c11
    obtain ⟨k12, hf⟩ := pm_if hf
    obtain ⟨v13, e14, hf⟩ := pm_bd hf
    have K15 := pw_t (by decide) K0 (wfX1_take (pw_rf _) e14)
    exact wfX1_plain_b30 K15  hf
set_option maxHeartbeats 4000000 in
set_option maxRecDepth 100000 in
theorem wfX1_plain_b10 {h0 h : pm_H} (K0 : pw_F WX1_plain h0 h) {x0 : Nat} {x1 : Int32} {x2 : Int32} {x3 : Int32} {x4 : Int32}  {r : pm_H} (hf : fX1_plain_b10 h x0 x1 x2 x3 x4 = some r) : pw_F WX1_plain h0 r := by
  unfold fX1_plain_b10 at hf
  by_cases c6 : x2 = 0
  · have hf := pm_it hf c6
    exact wfX1_plain_b20 K0  hf
  · have hf := pm_ie hf c6
    obtain ⟨k7, hf⟩ := pm_if hf
    obtain ⟨v8, e9, hf⟩ := pm_bd hf
    have K10 := pw_t (by decide) K0 (wfX1_take (pw_rf _) e9)
    exact wfX1_plain_b20 K10  hf
set_option maxHeartbeats 4000000 in
set_option maxRecDepth 100000 in
theorem wfX1_plain {h0 h : pm_H} (K0 : pw_F WX1_plain h0 h) {a0 : Nat} {p1 : Int32} {p2 : Int32} {p3 : Int32} {p4 : Int32}  {r : pm_H} (hf : fX1_plain h a0 p1 p2 p3 p4 = some r) : pw_F WX1_plain h0 r := by
  unfold fX1_plain at hf
  by_cases c1 : p1 = 0
  · have hf := pm_it hf c1
    exact wfX1_plain_b10 K0  hf
  · have hf := pm_ie hf c1
    obtain ⟨k2, hf⟩ := pm_if hf
    obtain ⟨v3, e4, hf⟩ := pm_bd hf
    have K5 := pw_t (by decide) K0 (wfX1_take (pw_rf _) e4)
    exact wfX1_plain_b10 K5  hf
abbrev WX1_putParameters : List Nat := [128, 129, 134, 4352]
set_option maxHeartbeats 4000000 in
set_option maxRecDepth 100000 in
theorem wfX1_putParameters {h0 h : pm_H} (K0 : pw_F WX1_putParameters h0 h) {a0 : Nat} {p1 : Nat}  {r : pm_H} (hf : fX1_putParameters h a0 p1 = some r) : pw_F WX1_putParameters h0 r := by
  unfold fX1_putParameters at hf
  obtain ⟨v1, e2, hf⟩ := pm_bd hf
  obtain ⟨k3, hf⟩ := pm_if hf
  obtain ⟨v4, e5, hf⟩ := pm_bd hf
  have K6 := pw_t (by decide) K0 (wfX1_putTypes (pw_rf _) e5)
  cases hf
  exact K6
abbrev WX1_putResults : List Nat := [128, 129, 134, 4352]
set_option maxHeartbeats 4000000 in
set_option maxRecDepth 100000 in
theorem wfX1_putResults {h0 h : pm_H} (K0 : pw_F WX1_putResults h0 h) {a0 : Nat} {p1 : Nat}  {r : pm_H} (hf : fX1_putResults h a0 p1 = some r) : pw_F WX1_putResults h0 r := by
  unfold fX1_putResults at hf
  obtain ⟨v1, e2, hf⟩ := pm_bd hf
  obtain ⟨v3, e4, hf⟩ := pm_bd hf
  obtain ⟨k5, hf⟩ := pm_if hf
  obtain ⟨v6, e7, hf⟩ := pm_bd hf
  have K8 := pw_t (by decide) K0 (wfX1_putTypes (pw_rf _) e7)
  cases hf
  exact K8
abbrev WX1_stretch : List Nat := [2, 128, 129, 134, 4352]
set_option maxHeartbeats 4000000 in
set_option maxRecDepth 100000 in
theorem wfX1_stretch_b64 {h0 h : pm_H} (K0 : pw_F WX1_stretch h0 h) {x0 : Nat} {x1 : Int32} {x2 : Int32}  {r : pm_H} (hf : fX1_stretch_b64 h x0 x1 x2 = some r) : pw_F WX1_stretch h0 r := by
  unfold fX1_stretch_b64 at hf
  by_cases c22 : x2 = 0
  · have hf := pm_it hf c22
    obtain ⟨k23, hf⟩ := pm_if hf
    obtain ⟨v24, e25, hf⟩ := pm_bd hf
    have K26 := pw_t (by decide) K0 (wfX1_fail (pw_rf _) e25)
    cases hf
    exact K26
  · have hf := pm_ie hf c22
    by_cases c27 : x1 = 309
    · have hf := pm_it hf c27
      obtain ⟨k28, hf⟩ := pm_if hf
      obtain ⟨v29, e30, hf⟩ := pm_bd hf
      have K31 := pw_t (by decide) K0 (wfX1_plain (pw_rf _) e30)
      cases hf
      exact K31
    · have hf := pm_ie hf c27
      obtain ⟨k32, hf⟩ := pm_if hf
      obtain ⟨v33, e34, hf⟩ := pm_bd hf
      have K35 := pw_t (by decide) K0 (wfX1_plain (pw_rf _) e34)
      cases hf
      exact K35
set_option maxHeartbeats 4000000 in
set_option maxRecDepth 100000 in
theorem wfX1_stretch_b63 {h0 h : pm_H} (K0 : pw_F WX1_stretch h0 h) {x0 : Nat} {x1 : Int32} {s0 : Int32}  {r : pm_H} (hf : fX1_stretch_b63 h x0 x1 s0 = some r) : pw_F WX1_stretch h0 r := by
  unfold fX1_stretch_b63 at hf
  exact wfX1_stretch_b64 K0  hf
set_option maxHeartbeats 4000000 in
set_option maxRecDepth 100000 in
theorem wfX1_stretch_b62 {h0 h : pm_H} (K0 : pw_F WX1_stretch h0 h) {x0 : Nat} {x1 : Int32}  {r : pm_H} (hf : fX1_stretch_b62 h x0 x1 = some r) : pw_F WX1_stretch h0 r := by
  unfold fX1_stretch_b62 at hf
  exact wfX1_stretch_b63 K0  hf
set_option maxHeartbeats 4000000 in
set_option maxRecDepth 100000 in
theorem wfX1_stretch_b23 {h0 h : pm_H} (K0 : pw_F WX1_stretch h0 h) {x0 : Nat} {x1 : Int32} {s0 : Int32}  {r : pm_H} (hf : fX1_stretch_b23 h x0 x1 s0 = some r) : pw_F WX1_stretch h0 r := by
  unfold fX1_stretch_b23 at hf
  by_cases c9 : 309 < x1
  · have hf := pm_it hf c9
    exact wfX1_stretch_b64 K0  hf
  · have hf := pm_ie hf c9
    by_cases c10 : s0 = 0
    · have hf := pm_it hf c10
      exact wfX1_stretch_b62 K0  hf
    · have hf := pm_ie hf c10
      obtain ⟨k11, hf⟩ := pm_if hf
      obtain ⟨v12, e13, hf⟩ := pm_bd hf
      obtain ⟨k14, hf⟩ := pm_if hf
      obtain ⟨v15, e16, hf⟩ := pm_bd hf
      obtain ⟨k17, hf⟩ := pm_if hf
      obtain ⟨v18, e19, hf⟩ := pm_bd hf
      obtain ⟨k20, hf⟩ := pm_if hf
      by_cases c21 : (((Int32.ofNat (pm_ln h v18)) / 7).toInt64) ≤ (pm_L h v12 8)
      · have hf := pm_it hf c21
        exact wfX1_stretch_b62 K0  hf
      · have hf := pm_ie hf c21
        exact wfX1_stretch_b63 K0  hf
set_option maxHeartbeats 4000000 in
set_option maxRecDepth 100000 in
theorem wfX1_stretch_b18 {h0 h : pm_H} (K0 : pw_F WX1_stretch h0 h) {x0 : Nat} {x1 : Int32}  {r : pm_H} (hf : fX1_stretch_b18 h x0 x1 = some r) : pw_F WX1_stretch h0 r := by
  unfold fX1_stretch_b18 at hf
  exact wfX1_stretch_b23 K0  hf
set_option maxHeartbeats 4000000 in
set_option maxRecDepth 100000 in
theorem wfX1_stretch {h0 h : pm_H} (K0 : pw_F WX1_stretch h0 h) {a0 : Nat} {p1 : Int32}  {r : pm_H} (hf : fX1_stretch h a0 p1 = some r) : pw_F WX1_stretch h0 r := by
  unfold fX1_stretch at hf
  by_cases c1 : p1 = 309
  · have hf := pm_it hf c1
    exact wfX1_stretch_b18 K0  hf
  · have hf := pm_ie hf c1
    obtain ⟨k2, hf⟩ := pm_if hf
    obtain ⟨v3, e4, hf⟩ := pm_bd hf
    obtain ⟨k5, hf⟩ := pm_if hf
    obtain ⟨v6, e7, hf⟩ := pm_bd hf
    by_cases c8 : v6 ≤ 0
    · have hf := pm_it hf c8
      exact wfX1_stretch_b23 K0  hf
    · have hf := pm_ie hf c8
      exact wfX1_stretch_b18 K0  hf
abbrev WX1_tableAccess : List Nat := [2, 128, 129, 134, 4352]
set_option maxHeartbeats 4000000 in
set_option maxRecDepth 100000 in
theorem wfX1_tableAccess_b195 {h0 h : pm_H} (K0 : pw_F WX1_tableAccess h0 h) {x0 : Nat} {x1 : Int32} {x5 : Int32} {x6 : Int32} {s0 : Int32}  {r : pm_H} (hf : fX1_tableAccess_b195 h x0 x1 x5 x6 s0 = some r) : pw_F WX1_tableAccess h0 r := by
  unfold fX1_tableAccess_b195 at hf
  by_cases c60 : x5 = 0
  · have hf := pm_it hf c60
    obtain ⟨k61, hf⟩ := pm_if hf
    obtain ⟨v62, e63, hf⟩ := pm_bd hf
    have K64 := pw_t (by decide) K0 (wfX1_fail (pw_rf _) e63)
    cases hf
    exact K64
  · have hf := pm_ie hf c60
    by_cases c65 : s0 = 0
    · have hf := pm_it hf c65
      obtain ⟨k66, hf⟩ := pm_if hf
      obtain ⟨v67, e68, hf⟩ := pm_bd hf
      have K69 := pw_t (by decide) K0 (wfX1_fail (pw_rf _) e68)
      cases hf
      exact K69
    · have hf := pm_ie hf c65
      by_cases c70 : x1 = 37
      · have hf := pm_it hf c70
        obtain ⟨k71, hf⟩ := pm_if hf
        obtain ⟨v72, e73, hf⟩ := pm_bd hf
        have K74 := pw_t (by decide) K0 (wfX1_plain (pw_rf _) e73)
        cases hf
        exact K74
      have hf := pm_ie hf c70
      by_cases c75 : x1 = 38
      · have hf := pm_it hf c75
        obtain ⟨k76, hf⟩ := pm_if hf
        obtain ⟨v77, e78, hf⟩ := pm_bd hf
        have K79 := pw_t (by decide) K0 (wfX1_plain (pw_rf _) e78)
        cases hf
        exact K79
      have hf := pm_ie hf c75
      by_cases c80 : x1 = 313
      · have hf := pm_it hf c80
        obtain ⟨k81, hf⟩ := pm_if hf
        obtain ⟨v82, e83, hf⟩ := pm_bd hf
        have K84 := pw_t (by decide) K0 (wfX1_plain (pw_rf _) e83)
        cases hf
        exact K84
      have hf := pm_ie hf c80
      by_cases c85 : x1 = 315
      · have hf := pm_it hf c85
        obtain ⟨k86, hf⟩ := pm_if hf
        obtain ⟨v87, e88, hf⟩ := pm_bd hf
        have K89 := pw_t (by decide) K0 (wfX1_plain (pw_rf _) e88)
        cases hf
        exact K89
      have hf := pm_ie hf c85
      by_cases c90 : x1 = 316
      · have hf := pm_it hf c90
        obtain ⟨k91, hf⟩ := pm_if hf
        obtain ⟨v92, e93, hf⟩ := pm_bd hf
        have K94 := pw_t (by decide) K0 (wfX1_plain (pw_rf _) e93)
        cases hf
        exact K94
      have hf := pm_ie hf c90
      by_cases c95 : x1 = 317
      · have hf := pm_it hf c95
        obtain ⟨k96, hf⟩ := pm_if hf
        obtain ⟨v97, e98, hf⟩ := pm_bd hf
        have K99 := pw_t (by decide) K0 (wfX1_plain (pw_rf _) e98)
        cases hf
        exact K99
      have hf := pm_ie hf c95
      obtain ⟨k100, hf⟩ := pm_if hf
      obtain ⟨v101, e102, hf⟩ := pm_bd hf
      have K103 := pw_t (by decide) K0 (wfX1_plain (pw_rf _) e102)
      cases hf
      exact K103
set_option maxHeartbeats 4000000 in
set_option maxRecDepth 100000 in
theorem wfX1_tableAccess_b190 {h0 h : pm_H} (K0 : pw_F WX1_tableAccess h0 h) {x0 : Nat} {x1 : Int32} {x5 : Int32} {x6 : Int32}  {r : pm_H} (hf : fX1_tableAccess_b190 h x0 x1 x5 x6 = some r) : pw_F WX1_tableAccess h0 r := by
  unfold fX1_tableAccess_b190 at hf
  exact wfX1_tableAccess_b195 K0  hf
set_option maxHeartbeats 4000000 in
set_option maxRecDepth 100000 in
theorem wfX1_tableAccess_b173 {h0 h : pm_H} (K0 : pw_F WX1_tableAccess h0 h) {x0 : Nat} {x1 : Int32} {x3 : Int32} {x5 : Int32} {x6 : Int32}  {r : pm_H} (hf : fX1_tableAccess_b173 h x0 x1 x3 x5 x6 = some r) : pw_F WX1_tableAccess h0 r := by
  unfold fX1_tableAccess_b173 at hf
  obtain ⟨k53, hf⟩ := pm_if hf
  obtain ⟨v54, e55, hf⟩ := pm_bd hf
  obtain ⟨k56, hf⟩ := pm_if hf
  obtain ⟨v57, e58, hf⟩ := pm_bd hf
  by_cases c59 : v57 = x6.toInt64
  · have hf := pm_it hf c59
    exact wfX1_tableAccess_b190 K0  hf
  · have hf := pm_ie hf c59
    exact wfX1_tableAccess_b195 K0  hf
set_option maxHeartbeats 4000000 in
set_option maxRecDepth 100000 in
theorem wfX1_tableAccess_b157 {h0 h : pm_H} (K0 : pw_F WX1_tableAccess h0 h) {x0 : Nat} {x1 : Int32} {x3 : Int32} {x5 : Int32} {s0 : Int32}  {r : pm_H} (hf : fX1_tableAccess_b157 h x0 x1 x3 x5 s0 = some r) : pw_F WX1_tableAccess h0 r := by
  unfold fX1_tableAccess_b157 at hf
  by_cases c51 : x1 = 312
  · have hf := pm_it hf c51
    exact wfX1_tableAccess_b173 K0  hf
  · have hf := pm_ie hf c51
    by_cases c52 : x1 = 314
    · have hf := pm_it hf c52
      exact wfX1_tableAccess_b173 K0  hf
    · have hf := pm_ie hf c52
      exact wfX1_tableAccess_b190 K0  hf
set_option maxHeartbeats 4000000 in
set_option maxRecDepth 100000 in
theorem wfX1_tableAccess_b122 {h0 h : pm_H} (K0 : pw_F WX1_tableAccess h0 h) {x0 : Nat} {x1 : Int32} {x2 : Int32} {x3 : Int32} {x4 : Int32} {x5 : Int32}  {r : pm_H} (hf : fX1_tableAccess_b122 h x0 x1 x2 x3 x4 x5 = some r) : pw_F WX1_tableAccess h0 r := by
  unfold fX1_tableAccess_b122 at hf
  by_cases c36 : x4 = 0
  · have hf := pm_it hf c36
    obtain ⟨k37, hf⟩ := pm_if hf
    obtain ⟨v38, e39, hf⟩ := pm_bd hf
    obtain ⟨k40, hf⟩ := pm_if hf
    obtain ⟨v41, e42, hf⟩ := pm_bd hf
    exact wfX1_tableAccess_b157 K0  hf
  · have hf := pm_ie hf c36
    obtain ⟨k43, hf⟩ := pm_if hf
    obtain ⟨v44, e45, hf⟩ := pm_bd hf
    obtain ⟨k46, hf⟩ := pm_if hf
    obtain ⟨v47, e48, hf⟩ := pm_bd hf
    obtain ⟨v49, e50, hf⟩ := pm_bd hf
    exact wfX1_tableAccess_b157 K0  hf
set_option maxHeartbeats 4000000 in
set_option maxRecDepth 100000 in
theorem wfX1_tableAccess_b120 {h0 h : pm_H} (K0 : pw_F WX1_tableAccess h0 h) {x0 : Nat} {x1 : Int32} {x2 : Int32} {x3 : Int32} {x4 : Int32} {s0 : Int32}  {r : pm_H} (hf : fX1_tableAccess_b120 h x0 x1 x2 x3 x4 s0 = some r) : pw_F WX1_tableAccess h0 r := by
  unfold fX1_tableAccess_b120 at hf
  exact wfX1_tableAccess_b122 K0  hf
set_option maxHeartbeats 4000000 in
set_option maxRecDepth 100000 in
theorem wfX1_tableAccess_b119 {h0 h : pm_H} (K0 : pw_F WX1_tableAccess h0 h) {x0 : Nat} {x1 : Int32} {x2 : Int32} {x3 : Int32} {x4 : Int32}  {r : pm_H} (hf : fX1_tableAccess_b119 h x0 x1 x2 x3 x4 = some r) : pw_F WX1_tableAccess h0 r := by
  unfold fX1_tableAccess_b119 at hf
  exact wfX1_tableAccess_b120 K0  hf
set_option maxHeartbeats 4000000 in
set_option maxRecDepth 100000 in
theorem wfX1_tableAccess_b97 {h0 h : pm_H} (K0 : pw_F WX1_tableAccess h0 h) {x0 : Nat} {x1 : Int32} {x2 : Int32} {x3 : Int32} {x4 : Int32} {x5 : Int32}  {r : pm_H} (hf : fX1_tableAccess_b97 h x0 x1 x2 x3 x4 x5 = some r) : pw_F WX1_tableAccess h0 r := by
  unfold fX1_tableAccess_b97 at hf
  by_cases c28 : x5 = 0
  · have hf := pm_it hf c28
    exact wfX1_tableAccess_b119 K0  hf
  · have hf := pm_ie hf c28
    obtain ⟨k29, hf⟩ := pm_if hf
    obtain ⟨v30, e31, hf⟩ := pm_bd hf
    obtain ⟨k32, hf⟩ := pm_if hf
    obtain ⟨v33, e34, hf⟩ := pm_bd hf
    by_cases c35 : v33 = 0
    · have hf := pm_it hf c35
      exact wfX1_tableAccess_b119 K0  hf
    · have hf := pm_ie hf c35
      exact wfX1_tableAccess_b120 K0  hf
set_option maxHeartbeats 4000000 in
set_option maxRecDepth 100000 in
theorem wfX1_tableAccess_b81 {h0 h : pm_H} (K0 : pw_F WX1_tableAccess h0 h) {x0 : Nat} {x1 : Int32} {x2 : Int32} {x3 : Int32} {x4 : Int32} {s0 : Int32}  {r : pm_H} (hf : fX1_tableAccess_b81 h x0 x1 x2 x3 x4 s0 = some r) : pw_F WX1_tableAccess h0 r := by
  unfold fX1_tableAccess_b81 at hf
  by_cases c26 : x1 = 312
  · have hf := pm_it hf c26
    exact wfX1_tableAccess_b97 K0  hf
  · have hf := pm_ie hf c26
    by_cases c27 : x1 = 314
    · have hf := pm_it hf c27
      exact wfX1_tableAccess_b97 K0  hf
    · have hf := pm_ie hf c27
      exact wfX1_tableAccess_b122 K0  hf
set_option maxHeartbeats 4000000 in
set_option maxRecDepth 100000 in
theorem wfX1_tableAccess_b41 {h0 h : pm_H} (K0 : pw_F WX1_tableAccess h0 h) {x0 : Nat} {x1 : Int32} {x2 : Int32} {x3 : Int32} {s0 : Int32}  {r : pm_H} (hf : fX1_tableAccess_b41 h x0 x1 x2 x3 s0 = some r) : pw_F WX1_tableAccess h0 r := by
  unfold fX1_tableAccess_b41 at hf
  by_cases c11 : s0 = 0
  · have hf := pm_it hf c11
    obtain ⟨k12, hf⟩ := pm_if hf
    obtain ⟨v13, e14, hf⟩ := pm_bd hf
    obtain ⟨k15, hf⟩ := pm_if hf
    obtain ⟨v16, e17, hf⟩ := pm_bd hf
    exact wfX1_tableAccess_b81 K0  hf
  · have hf := pm_ie hf c11
    obtain ⟨k18, hf⟩ := pm_if hf
    obtain ⟨v19, e20, hf⟩ := pm_bd hf
    obtain ⟨k21, hf⟩ := pm_if hf
    obtain ⟨v22, e23, hf⟩ := pm_bd hf
    obtain ⟨k24, hf⟩ := pm_if hf
    by_cases c25 : ((Int32.ofNat (pm_ln h v22)) / 7) ≤ x2
    · have hf := pm_it hf c25
      exact wfX1_tableAccess_b81 K0  hf
    · have hf := pm_ie hf c25
      exact wfX1_tableAccess_b81 K0  hf
set_option maxHeartbeats 4000000 in
set_option maxRecDepth 100000 in
theorem wfX1_tableAccess_b36 {h0 h : pm_H} (K0 : pw_F WX1_tableAccess h0 h) {x0 : Nat} {x1 : Int32} {x2 : Int32} {x3 : Int32}  {r : pm_H} (hf : fX1_tableAccess_b36 h x0 x1 x2 x3 = some r) : pw_F WX1_tableAccess h0 r := by
  unfold fX1_tableAccess_b36 at hf
  exact wfX1_tableAccess_b41 K0  hf
set_option maxHeartbeats 4000000 in
set_option maxRecDepth 100000 in
theorem wfX1_tableAccess {h0 h : pm_H} (K0 : pw_F WX1_tableAccess h0 h) {a0 : Nat} {p1 : Int32}  {r : pm_H} (hf : fX1_tableAccess h a0 p1 = some r) : pw_F WX1_tableAccess h0 r := by
  unfold fX1_tableAccess at hf
  obtain ⟨k1, hf⟩ := pm_if hf
  obtain ⟨v2, e3, hf⟩ := pm_bd hf
  obtain ⟨k4, hf⟩ := pm_if hf
  obtain ⟨v5, e6, hf⟩ := pm_lt hf
  obtain ⟨v7, e8, hf⟩ := pm_lt hf
  by_cases c9 : p1 = 312
  · have hf := pm_it hf c9
    exact wfX1_tableAccess_b36 K0  hf
  · have hf := pm_ie hf c9
    by_cases c10 : p1 = 313
    · have hf := pm_it hf c10
      exact wfX1_tableAccess_b36 K0  hf
    · have hf := pm_ie hf c10
      exact wfX1_tableAccess_b41 K0  hf
abbrev WX1_takeParameters : List Nat := [128, 129, 134]
set_option maxHeartbeats 4000000 in
set_option maxRecDepth 100000 in
theorem wfX1_takeParameters {h0 h : pm_H} (K0 : pw_F WX1_takeParameters h0 h) {a0 : Nat} {p1 : Nat}  {r : pm_H} (hf : fX1_takeParameters h a0 p1 = some r) : pw_F WX1_takeParameters h0 r := by
  unfold fX1_takeParameters at hf
  obtain ⟨v1, e2, hf⟩ := pm_bd hf
  obtain ⟨k3, hf⟩ := pm_if hf
  obtain ⟨v4, e5, hf⟩ := pm_bd hf
  have K6 := pw_t (by decide) K0 (wfX1_takeTypes (pw_rf _) e5)
  cases hf
  exact K6
abbrev WX1_typesAreThere : List Nat := [128, 129]
set_option maxHeartbeats 4000000 in
set_option maxRecDepth 100000 in
theorem wlX1_typesAreThere {h0 : pm_H} {r : pm_H} : ∀ n : Nat, (∀ (x0 : Nat) (x1 : Int32) (x2 : Int32) (h : pm_H), pw_F WX1_typesAreThere h0 h → pm_iter sX1_typesAreThere n (.inl (x0, x1, x2, h)) = some r → pw_F WX1_typesAreThere h0 r) ∧ (∀ (x0 : Nat) (x2 : Int32) (h : pm_H), pw_F WX1_typesAreThere h0 h → pm_iter sX1_typesAreThere n (.inr (x0, x2, h)) = some r → pw_F WX1_typesAreThere h0 r) := by
  intro n
  induction n with
  | zero => exact ⟨fun _ _ _ _ _ hf => (by cases hf), fun _ _ _ _ hf => (by cases hf)⟩
  | succ n ih =>
    refine ⟨fun x0 x1 x2 h K0 hf => ?_, ?_⟩
    · obtain ⟨y, hf, hi⟩ := pm_iter_s hf
      have hf : tX1_typesAreThere_4 x0 x1 x2 h = some y := hf
      unfold tX1_typesAreThere_4 at hf
      obtain ⟨k1, hf⟩ := pm_if hf
      obtain ⟨v2, e3, hf⟩ := pm_bd hf
      obtain ⟨k4, hf⟩ := pm_if hf
      obtain ⟨v5, e6, hf⟩ := pm_bd hf
      obtain ⟨k7, hf⟩ := pm_if hf
      by_cases c8 : (Int32.ofNat (pm_ln h v5)) ≤ x2
      · have hf := pm_it hf c8
        cases hf
        exact ih.2 x0 x1 h K0  hi
      · have hf := pm_ie hf c8
        obtain ⟨v9, e10, hf⟩ := pm_bd hf
        by_cases c11 : v9 = 0
        · have hf := pm_it hf c11
          obtain ⟨y12, e13, hf⟩ := pm_lt hf
          obtain ⟨v14, e15, hf⟩ := pm_bd hf
          obtain ⟨v16, e17, hf⟩ := pm_bd hf
          obtain ⟨k18, hf⟩ := pm_if hf
          by_cases c19 : v14 < ((Int32.ofNat (pm_ln h v16)).toInt64)
          · have hf := pm_it hf c19
            obtain ⟨y20, e21, hf⟩ := pm_lt hf
            cases hf
            exact ih.1 x0 y12 y20 h K0  hi
          · have hf := pm_ie hf c19
            obtain ⟨v22, e23, hf⟩ := pm_bd hf
            have K24 := pw_t (by decide) K0 (wfX1_failSection (pw_rf _) e23)
            obtain ⟨y25, e26, hf⟩ := pm_lt hf
            cases hf
            exact ih.1 x0 y12 y25 v22 K24  hi
        · have hf := pm_ie hf c11
          obtain ⟨y27, e28, hf⟩ := pm_lt hf
          cases hf
          exact ih.1 x0 x1 y27 h K0  hi
    refine fun x0 x2 h K0 hf => ?_
    obtain ⟨y, hf, hi⟩ := pm_iter_s hf
    have hf : tX1_typesAreThere_81 x0 x2 h = some y := hf
    unfold tX1_typesAreThere_81 at hf
    obtain ⟨k29, hf⟩ := pm_if hf
    obtain ⟨v30, e31, hf⟩ := pm_bd hf
    obtain ⟨k32, hf⟩ := pm_if hf
    obtain ⟨v33, e34, hf⟩ := pm_bd hf
    by_cases c35 : v33 ≤ x2
    · have hf := pm_it hf c35
      cases hf
      cases hi
      exact K0
    · have hf := pm_ie hf c35
      obtain ⟨v36, e37, hf⟩ := pm_bd hf
      obtain ⟨v38, e39, hf⟩ := pm_bd hf
      obtain ⟨k40, hf⟩ := pm_if hf
      by_cases c41 : v36 < ((Int32.ofNat (pm_ln h v38)).toInt64)
      · have hf := pm_it hf c41
        obtain ⟨y42, e43, hf⟩ := pm_lt hf
        cases hf
        exact ih.2 x0 y42 h K0  hi
      · have hf := pm_ie hf c41
        obtain ⟨v44, e45, hf⟩ := pm_bd hf
        have K46 := pw_t (by decide) K0 (wfX1_failSection (pw_rf _) e45)
        obtain ⟨y47, e48, hf⟩ := pm_lt hf
        cases hf
        exact ih.2 x0 y47 v44 K46  hi
set_option maxHeartbeats 4000000 in
set_option maxRecDepth 100000 in
theorem wfX1_typesAreThere {h0 h : pm_H} (K0 : pw_F WX1_typesAreThere h0 h) {a0 : Nat}  {r : pm_H} (hf : fX1_typesAreThere h a0 = some r) : pw_F WX1_typesAreThere h0 r := by
  unfold fX1_typesAreThere at hf
  obtain ⟨n, hn⟩ := pm_lim_iter hf
  exact (wlX1_typesAreThere n).1 a0 0 0 h K0  hn
abbrev WX1_variable : List Nat := [2, 128, 129, 134, 4352]
set_option maxHeartbeats 4000000 in
set_option maxRecDepth 100000 in
theorem wfX1_variable_b189 {h0 h : pm_H} (K0 : pw_F WX1_variable h0 h) {x0 : Nat} {x1 : Int32}  {r : pm_H} (hf : fX1_variable_b189 h x0 x1 = some r) : pw_F WX1_variable h0 r := by
  unfold fX1_variable_b189 at hf
  by_cases c81 : x1 = 32
  · have hf := pm_it hf c81
    obtain ⟨k82, hf⟩ := pm_if hf
    obtain ⟨v83, e84, hf⟩ := pm_bd hf
    have K85 := pw_t (by decide) K0 (wfX1_emitPlain (pw_rf _) e84)
    cases hf
    exact K85
  · have hf := pm_ie hf c81
    by_cases c86 : x1 = 34
    · have hf := pm_it hf c86
      obtain ⟨k87, hf⟩ := pm_if hf
      obtain ⟨v88, e89, hf⟩ := pm_bd hf
      have K90 := pw_t (by decide) K0 (wfX1_emitPlain (pw_rf _) e89)
      cases hf
      exact K90
    · have hf := pm_ie hf c86
      by_cases c91 : x1 = 35
      · have hf := pm_it hf c91
        obtain ⟨k92, hf⟩ := pm_if hf
        obtain ⟨v93, e94, hf⟩ := pm_bd hf
        have K95 := pw_t (by decide) K0 (wfX1_emitPlain (pw_rf _) e94)
        cases hf
        exact K95
      · have hf := pm_ie hf c91
        obtain ⟨k96, hf⟩ := pm_if hf
        obtain ⟨v97, e98, hf⟩ := pm_bd hf
        have K99 := pw_t (by decide) K0 (wfX1_emitPlain (pw_rf _) e98)
        cases hf
        exact K99
set_option maxHeartbeats 4000000 in
set_option maxRecDepth 100000 in
theorem wfX1_variable_b171 {h0 h : pm_H} (K0 : pw_F WX1_variable h0 h) {x0 : Nat} {x1 : Int32}  {r : pm_H} (hf : fX1_variable_b171 h x0 x1 = some r) : pw_F WX1_variable h0 r := by
  unfold fX1_variable_b171 at hf
  by_cases c59 : x1 = 33
  · have hf := pm_it hf c59
    exact wfX1_variable_b189 K0  hf
  · have hf := pm_ie hf c59
    by_cases c60 : x1 = 34
    · have hf := pm_it hf c60
      exact wfX1_variable_b189 K0  hf
    · have hf := pm_ie hf c60
      by_cases c61 : x1 = 36
      · have hf := pm_it hf c61
        exact wfX1_variable_b189 K0  hf
      · have hf := pm_ie hf c61
        by_cases c62 : x1 = 32
        · have hf := pm_it hf c62
          obtain ⟨k63, hf⟩ := pm_if hf
          obtain ⟨v64, e65, hf⟩ := pm_bd hf
          have K66 := pw_t (by decide) K0 (wfX1_emitPlain (pw_rf _) e65)
          cases hf
          exact K66
        · have hf := pm_ie hf c62
          by_cases c67 : x1 = 34
          · have hf := pm_it hf c67
            obtain ⟨k68, hf⟩ := pm_if hf
            obtain ⟨v69, e70, hf⟩ := pm_bd hf
            have K71 := pw_t (by decide) K0 (wfX1_emitPlain (pw_rf _) e70)
            cases hf
            exact K71
          · have hf := pm_ie hf c67
            by_cases c72 : x1 = 35
            · have hf := pm_it hf c72
              obtain ⟨k73, hf⟩ := pm_if hf
              obtain ⟨v74, e75, hf⟩ := pm_bd hf
              have K76 := pw_t (by decide) K0 (wfX1_emitPlain (pw_rf _) e75)
              cases hf
              exact K76
            · have hf := pm_ie hf c72
              obtain ⟨k77, hf⟩ := pm_if hf
              obtain ⟨v78, e79, hf⟩ := pm_bd hf
              have K80 := pw_t (by decide) K0 (wfX1_emitPlain (pw_rf _) e79)
              cases hf
              exact K80
set_option maxHeartbeats 4000000 in
set_option maxRecDepth 100000 in
theorem wfX1_variable_b165 {h0 h : pm_H} (K0 : pw_F WX1_variable h0 h) {x0 : Nat} {x1 : Int32} {x5 : Int32}  {r : pm_H} (hf : fX1_variable_b165 h x0 x1 x5 = some r) : pw_F WX1_variable h0 r := by
  unfold fX1_variable_b165 at hf
  obtain ⟨k55, hf⟩ := pm_if hf
  obtain ⟨v56, e57, hf⟩ := pm_bd hf
  have K58 := pw_t (by decide) K0 (wfX1_put (pw_rf _) e57)
  exact wfX1_variable_b171 K58  hf
set_option maxHeartbeats 4000000 in
set_option maxRecDepth 100000 in
theorem wfX1_variable_b147 {h0 h : pm_H} (K0 : pw_F WX1_variable h0 h) {x0 : Nat} {x1 : Int32} {x5 : Int32}  {r : pm_H} (hf : fX1_variable_b147 h x0 x1 x5 = some r) : pw_F WX1_variable h0 r := by
  unfold fX1_variable_b147 at hf
  by_cases c52 : x1 = 32
  · have hf := pm_it hf c52
    exact wfX1_variable_b165 K0  hf
  · have hf := pm_ie hf c52
    by_cases c53 : x1 = 34
    · have hf := pm_it hf c53
      exact wfX1_variable_b165 K0  hf
    · have hf := pm_ie hf c53
      by_cases c54 : x1 = 35
      · have hf := pm_it hf c54
        exact wfX1_variable_b165 K0  hf
      · have hf := pm_ie hf c54
        exact wfX1_variable_b171 K0  hf
set_option maxHeartbeats 4000000 in
set_option maxRecDepth 100000 in
theorem wfX1_variable_b140 {h0 h : pm_H} (K0 : pw_F WX1_variable h0 h) {x0 : Nat} {x1 : Int32} {x5 : Int32}  {r : pm_H} (hf : fX1_variable_b140 h x0 x1 x5 = some r) : pw_F WX1_variable h0 r := by
  unfold fX1_variable_b140 at hf
  obtain ⟨k48, hf⟩ := pm_if hf
  obtain ⟨v49, e50, hf⟩ := pm_bd hf
  have K51 := pw_t (by decide) K0 (wfX1_take (pw_rf _) e50)
  exact wfX1_variable_b147 K51  hf
set_option maxHeartbeats 4000000 in
set_option maxRecDepth 100000 in
theorem wfX1_variable_b120 {h0 h : pm_H} (K0 : pw_F WX1_variable h0 h) {x0 : Nat} {x1 : Int32} {s0 : Int32}  {r : pm_H} (hf : fX1_variable_b120 h x0 x1 s0 = some r) : pw_F WX1_variable h0 r := by
  unfold fX1_variable_b120 at hf
  by_cases c45 : x1 = 33
  · have hf := pm_it hf c45
    exact wfX1_variable_b140 K0  hf
  · have hf := pm_ie hf c45
    by_cases c46 : x1 = 34
    · have hf := pm_it hf c46
      exact wfX1_variable_b140 K0  hf
    · have hf := pm_ie hf c46
      by_cases c47 : x1 = 36
      · have hf := pm_it hf c47
        exact wfX1_variable_b140 K0  hf
      · have hf := pm_ie hf c47
        exact wfX1_variable_b147 K0  hf
set_option maxHeartbeats 4000000 in
set_option maxRecDepth 100000 in
theorem wfX1_variable_b74 {h0 h : pm_H} (K0 : pw_F WX1_variable h0 h) {x0 : Nat} {x1 : Int32} {x2 : Int32} {x3 : Int32} {s0 : Int32}  {r : pm_H} (hf : fX1_variable_b74 h x0 x1 x2 x3 s0 = some r) : pw_F WX1_variable h0 r := by
  unfold fX1_variable_b74 at hf
  by_cases c23 : x3 = 0
  · have hf := pm_it hf c23
    obtain ⟨k24, hf⟩ := pm_if hf
    obtain ⟨v25, e26, hf⟩ := pm_bd hf
    have K27 := pw_t (by decide) K0 (wfX1_fail (pw_rf _) e26)
    cases hf
    exact K27
  · have hf := pm_ie hf c23
    by_cases c28 : s0 = 0
    · have hf := pm_it hf c28
      by_cases c29 : 34 < x1
      · have hf := pm_it hf c29
        obtain ⟨k30, hf⟩ := pm_if hf
        obtain ⟨v31, e32, hf⟩ := pm_bd hf
        obtain ⟨k33, hf⟩ := pm_if hf
        obtain ⟨v34, e35, hf⟩ := pm_bd hf
        exact wfX1_variable_b120 K0  hf
      · have hf := pm_ie hf c29
        obtain ⟨k36, hf⟩ := pm_if hf
        obtain ⟨v37, e38, hf⟩ := pm_bd hf
        obtain ⟨v39, e40, hf⟩ := pm_bd hf
        exact wfX1_variable_b120 K0  hf
    · have hf := pm_ie hf c28
      obtain ⟨k41, hf⟩ := pm_if hf
      obtain ⟨v42, e43, hf⟩ := pm_bd hf
      have K44 := pw_t (by decide) K0 (wfX1_fail (pw_rf _) e43)
      cases hf
      exact K44
set_option maxHeartbeats 4000000 in
set_option maxRecDepth 100000 in
theorem wfX1_variable_b73 {h0 h : pm_H} (K0 : pw_F WX1_variable h0 h) {x0 : Nat} {x1 : Int32} {x2 : Int32} {x3 : Int32}  {r : pm_H} (hf : fX1_variable_b73 h x0 x1 x2 x3 = some r) : pw_F WX1_variable h0 r := by
  unfold fX1_variable_b73 at hf
  exact wfX1_variable_b74 K0  hf
set_option maxHeartbeats 4000000 in
set_option maxRecDepth 100000 in
theorem wfX1_variable_b43 {h0 h : pm_H} (K0 : pw_F WX1_variable h0 h) {x0 : Nat} {x1 : Int32} {x2 : Int32} {s0 : Int32}  {r : pm_H} (hf : fX1_variable_b43 h x0 x1 x2 s0 = some r) : pw_F WX1_variable h0 r := by
  unfold fX1_variable_b43 at hf
  by_cases c14 : x1 = 36
  · have hf := pm_it hf c14
    by_cases c15 : s0 = 0
    · have hf := pm_it hf c15
      exact wfX1_variable_b73 K0  hf
    · have hf := pm_ie hf c15
      obtain ⟨k16, hf⟩ := pm_if hf
      obtain ⟨v17, e18, hf⟩ := pm_bd hf
      obtain ⟨k19, hf⟩ := pm_if hf
      obtain ⟨v20, e21, hf⟩ := pm_bd hf
      by_cases c22 : v20 = 0
      · have hf := pm_it hf c22
        exact wfX1_variable_b74 K0  hf
      · have hf := pm_ie hf c22
        exact wfX1_variable_b73 K0  hf
  · have hf := pm_ie hf c14
    exact wfX1_variable_b73 K0  hf
set_option maxHeartbeats 4000000 in
set_option maxRecDepth 100000 in
theorem wfX1_variable {h0 h : pm_H} (K0 : pw_F WX1_variable h0 h) {a0 : Nat} {p1 : Int32}  {r : pm_H} (hf : fX1_variable h a0 p1 = some r) : pw_F WX1_variable h0 r := by
  unfold fX1_variable at hf
  obtain ⟨k1, hf⟩ := pm_if hf
  obtain ⟨v2, e3, hf⟩ := pm_bd hf
  obtain ⟨k4, hf⟩ := pm_if hf
  obtain ⟨v5, e6, hf⟩ := pm_lt hf
  by_cases c7 : 34 < p1
  · have hf := pm_it hf c7
    obtain ⟨v8, e9, hf⟩ := pm_bd hf
    obtain ⟨k10, hf⟩ := pm_if hf
    obtain ⟨v11, e12, hf⟩ := pm_bd hf
    exact wfX1_variable_b43 K0  hf
  · have hf := pm_ie hf c7
    by_cases c13 : (pm_I h a0 12) ≤ v5
    · have hf := pm_it hf c13
      exact wfX1_variable_b43 K0  hf
    · have hf := pm_ie hf c13
      exact wfX1_variable_b43 K0  hf
abbrev WX2_branchByTable : List Nat := [260, 261, 267, 268, 4352]
set_option maxHeartbeats 4000000 in
set_option maxRecDepth 100000 in
theorem wlX2_branchByTable {h0 : pm_H} {r : pm_H} : ∀ n : Nat, (∀ (x0 : Nat) (x1 : Int32) (x2 : Int32) (x3 : Int32) (x5 : Int32) (h : pm_H), pw_F WX2_branchByTable h0 h → pm_iter sX2_branchByTable n (x0, x1, x2, x3, x5, h) = some r → pw_F WX2_branchByTable h0 r) := by
  intro n
  induction n with
  | zero => exact fun _ _ _ _ _ _ _ hf => (by cases hf)
  | succ n ih =>
    refine fun x0 x1 x2 x3 x5 h K0 hf => ?_
    obtain ⟨y, hf, hi⟩ := pm_iter_s hf
    have hf : tX2_branchByTable_43 x0 x1 x2 x3 x5 h = some y := hf
    unfold tX2_branchByTable_43 at hf
    by_cases c19 : x2 < x5
    · have hf := pm_it hf c19
      obtain ⟨k20, hf⟩ := pm_if hf
      cases hf
      cases hi
      exact (pw_sI K0 rfl k20 (by decide))
    · have hf := pm_ie hf c19
      obtain ⟨k21, hf⟩ := pm_if hf
      obtain ⟨v22, e23, hf⟩ := pm_bd hf
      have K24 := pw_t (by decide) K0 (wfX2_branch (pw_rf _) e23)
      obtain ⟨y25, e26, hf⟩ := pm_lt hf
      cases hf
      exact ih x0 x1 x2 x3 y25 v22.2 K24  hi
set_option maxHeartbeats 4000000 in
set_option maxRecDepth 100000 in
theorem wfX2_branchByTable {h0 h : pm_H} (K0 : pw_F WX2_branchByTable h0 h) {a0 : Nat} {p1 : Int32} {p2 : Int32} {p3 : Int32}  {r : pm_H} (hf : fX2_branchByTable h a0 p1 p2 p3 = some r) : pw_F WX2_branchByTable h0 r := by
  unfold fX2_branchByTable at hf
  obtain ⟨k1, hf⟩ := pm_if hf
  obtain ⟨v2, e3, hf⟩ := pm_bd hf
  have K4 := pw_t (by decide) K0 (wfX2_emit (pw_rf _) e3)
  obtain ⟨k5, hf⟩ := pm_if hf
  obtain ⟨v6, e7, hf⟩ := pm_bd hf
  obtain ⟨v8, e9, hf⟩ := pm_bd hf
  obtain ⟨v10, e11, hf⟩ := pm_bd hf
  have K12 := pw_t (by decide) K4 (wfX12_setItem (pw_rf _) e11)
  obtain ⟨k13, hf⟩ := pm_if hf
  obtain ⟨v14, e15, hf⟩ := pm_bd hf
  obtain ⟨v16, e17, hf⟩ := pm_bd hf
  have K18 := pw_t (by decide) K12 (wfX12_setItem (pw_rf _) e17)
  obtain ⟨n, hn⟩ := pm_lim_iter hf
  exact (wlX2_branchByTable n) a0 p1 p2 p3 0 v16 K18  hn
abbrev WX2_calling : List Nat := [260, 261, 267, 4352]
set_option maxHeartbeats 4000000 in
set_option maxRecDepth 100000 in
theorem wlX2_calling {h0 : pm_H} {r : pm_H} : ∀ n : Nat, (∀ (x0 : Nat) (x1 : Int32) (x2 : Int32) (x3 : Int32) (s0 : Int32) (h : pm_H), pw_F WX2_calling h0 h → pm_iter sX2_calling n (.inl (x0, x1, x2, x3, s0, h)) = some r → pw_F WX2_calling h0 r) ∧ (∀ (x0 : Nat) (x7 : Int32) (x8 : Int32) (h : pm_H), pw_F WX2_calling h0 h → pm_iter sX2_calling n (.inr (x0, x7, x8, h)) = some r → pw_F WX2_calling h0 r) := by
  intro n
  induction n with
  | zero => exact ⟨fun _ _ _ _ _ _ _ hf => (by cases hf), fun _ _ _ _ _ hf => (by cases hf)⟩
  | succ n ih =>
    refine ⟨fun x0 x1 x2 x3 s0 h K0 hf => ?_, ?_⟩
    · obtain ⟨y, hf, hi⟩ := pm_iter_s hf
      have hf : tX2_calling_13 x0 x1 x2 x3 s0 h = some y := hf
      unfold tX2_calling_13 at hf
      obtain ⟨k2, hf⟩ := pm_if hf
      obtain ⟨v3, e4, hf⟩ := pm_bd hf
      obtain ⟨k5, hf⟩ := pm_if hf
      obtain ⟨v6, e7, hf⟩ := pm_bd hf
      obtain ⟨y8, e9, hf⟩ := pm_lt hf
      obtain ⟨v10, e11, hf⟩ := pm_bd hf
      have K12 := pw_t (by decide) K0 (wfX2_emit (pw_rf _) e11)
      obtain ⟨k13, hf⟩ := pm_if hf
      obtain ⟨v14, e15, hf⟩ := pm_bd hf
      obtain ⟨v16, e17, hf⟩ := pm_bd hf
      have K18 := pw_t (by decide) K12 (wfX12_setItem (pw_rf _) e17)
      obtain ⟨k19, hf⟩ := pm_if hf
      obtain ⟨v20, e21, hf⟩ := pm_bd hf
      obtain ⟨v22, e23, hf⟩ := pm_bd hf
      obtain ⟨v24, e25, hf⟩ := pm_bd hf
      have K26 := pw_t (by decide) K18 (wfX12_setItem (pw_rf _) e25)
      obtain ⟨k27, hf⟩ := pm_if hf
      obtain ⟨v28, e29, hf⟩ := pm_bd hf
      obtain ⟨v30, e31, hf⟩ := pm_bd hf
      obtain ⟨k32, hf⟩ := pm_if hf
      obtain ⟨v33, e34, hf⟩ := pm_bd hf
      obtain ⟨v35, e36, hf⟩ := pm_bd hf
      have K37 := pw_t (by decide) K26 (wfX12_setItem (pw_rf _) e36)
      obtain ⟨k38, hf⟩ := pm_if hf
      obtain ⟨v39, e40, hf⟩ := pm_bd hf
      obtain ⟨v41, e42, hf⟩ := pm_bd hf
      obtain ⟨k43, hf⟩ := pm_if hf
      obtain ⟨v44, e45, hf⟩ := pm_bd hf
      obtain ⟨v46, e47, hf⟩ := pm_bd hf
      have K48 := pw_t (by decide) K37 (wfX12_setItem (pw_rf _) e47)
      obtain ⟨k49, hf⟩ := pm_if hf
      obtain ⟨v50, e51, hf⟩ := pm_bd hf
      obtain ⟨k52, hf⟩ := pm_if hf
      obtain ⟨v53, e54, hf⟩ := pm_bd hf
      cases hf
      exact ih.2 x0 v53 y8 v46 K48  hi
    refine fun x0 x7 x8 h K0 hf => ?_
    obtain ⟨y, hf, hi⟩ := pm_iter_s hf
    have hf : tX2_calling_132 x0 x7 x8 h = some y := hf
    unfold tX2_calling_132 at hf
    by_cases c55 : x7 ≤ x8
    · have hf := pm_it hf c55
      cases hf
      cases hi
      exact K0
    · have hf := pm_ie hf c55
      obtain ⟨k56, hf⟩ := pm_if hf
      obtain ⟨v57, e58, hf⟩ := pm_bd hf
      obtain ⟨v59, e60, hf⟩ := pm_bd hf
      have K61 := pw_t (by decide) K0 (wfX12_setItem (pw_rf _) e60)
      obtain ⟨y62, e63, hf⟩ := pm_lt hf
      cases hf
      exact ih.2 x0 x7 y62 v59 K61  hi
set_option maxHeartbeats 4000000 in
set_option maxRecDepth 100000 in
theorem wfX2_calling {h0 h : pm_H} (K0 : pw_F WX2_calling h0 h) {a0 : Nat} {p1 : Int32} {p2 : Int32} {p3 : Int32}  {r : pm_H} (hf : fX2_calling h a0 p1 p2 p3 = some r) : pw_F WX2_calling h0 r := by
  unfold fX2_calling at hf
  by_cases c1 : p2 = 17
  · have hf := pm_it hf c1
    obtain ⟨n, hn⟩ := pm_lim_iter hf
    exact (wlX2_calling n).1 a0 p1 p2 p3 (p3 - 1) h K0  hn
  · have hf := pm_ie hf c1
    obtain ⟨n, hn⟩ := pm_lim_iter hf
    exact (wlX2_calling n).1 a0 p1 p2 p3 p3 h K0  hn
abbrev WX2_condition : List Nat := [260, 261, 267, 4352]
set_option maxHeartbeats 4000000 in
set_option maxRecDepth 100000 in
theorem wfX2_condition {h0 h : pm_H} (K0 : pw_F WX2_condition h0 h) {a0 : Nat} {p1 : Int32} {p2 : Int32}  {r : pm_H} (hf : fX2_condition h a0 p1 p2 = some r) : pw_F WX2_condition h0 r := by
  unfold fX2_condition at hf
  obtain ⟨k1, hf⟩ := pm_if hf
  obtain ⟨v2, e3, hf⟩ := pm_bd hf
  have K4 := pw_t (by decide) K0 (wfX2_emit (pw_rf _) e3)
  obtain ⟨k5, hf⟩ := pm_if hf
  obtain ⟨v6, e7, hf⟩ := pm_bd hf
  obtain ⟨v8, e9, hf⟩ := pm_bd hf
  obtain ⟨v10, e11, hf⟩ := pm_bd hf
  have K12 := pw_t (by decide) K4 (wfX12_setItem (pw_rf _) e11)
  obtain ⟨k13, hf⟩ := pm_if hf
  obtain ⟨v14, e15, hf⟩ := pm_bd hf
  obtain ⟨v16, e17, hf⟩ := pm_bd hf
  have K18 := pw_t (by decide) K12 (wfX12_setItem (pw_rf _) e17)
  cases hf
  exact K18
abbrev WX2_translate : List Nat := [260, 261, 263, 267, 268, 4352, 4480]
set_option maxHeartbeats 4000000 in
set_option maxRecDepth 100000 in
theorem wfX2_translate_b85 {h0 h : pm_H} (K0 : pw_F WX2_translate h0 h) {x0 : Nat} {x1 : Int32} {x2 : Int32} {x3 : Int32} {x4 : Int32}  {r : (Int32 × pm_H)} (hf : fX2_translate_b85 h x0 x1 x2 x3 x4 = some r) : pw_F WX2_translate h0 r.2 := by
  unfold fX2_translate_b85 at hf
  obtain ⟨k29, hf⟩ := pm_if hf
  obtain ⟨v30, e31, hf⟩ := pm_bd hf
  obtain ⟨v32, e33, hf⟩ := pm_bd hf
  have K34 := pw_t (by decide) K0 (wfX12_setItem (pw_rf _) e33)
  obtain ⟨v35, e36, hf⟩ := pm_lt hf
  obtain ⟨k37, hf⟩ := pm_if hf
  obtain ⟨v38, e39, hf⟩ := pm_bd hf
  have K40 := pw_t (by decide) K34 (wfX2_own (pw_rf _) e39)
  by_cases c41 : x2 = 1
  · have hf := pm_it hf c41
    obtain ⟨k42, hf⟩ := pm_if hf
    obtain ⟨y43, e44, hf⟩ := pm_lt hf
    cases hf
    exact (pw_sI K40 rfl k42 (by decide))
  have hf := pm_ie hf c41
  by_cases c45 : x2 = 4
  · have hf := pm_it hf c45
    obtain ⟨k46, hf⟩ := pm_if hf
    obtain ⟨v47, e48, hf⟩ := pm_bd hf
    have K49 := pw_t (by decide) K40 (wfX2_condition (pw_rf _) e48)
    cases hf
    exact K49
  have hf := pm_ie hf c45
  by_cases c50 : x2 = 5
  · have hf := pm_it hf c50
    obtain ⟨k51, hf⟩ := pm_if hf
    obtain ⟨v52, e53, hf⟩ := pm_bd hf
    obtain ⟨v54, e55, hf⟩ := pm_bd hf
    have K56 := pw_t (by decide) K40 (wfX2_emit (pw_rf _) e55)
    obtain ⟨v57, e58, hf⟩ := pm_bd hf
    have K59 := pw_t (by decide) K56 (wfX12_setItem (pw_rf _) e58)
    obtain ⟨k60, hf⟩ := pm_if hf
    cases hf
    exact (pw_sI K59 rfl k60 (by decide))
  have hf := pm_ie hf c50
  by_cases c61 : x2 = 11
  · have hf := pm_it hf c61
    obtain ⟨k62, hf⟩ := pm_if hf
    obtain ⟨v63, e64, hf⟩ := pm_bd hf
    obtain ⟨v65, e66, hf⟩ := pm_bd hf
    have K67 := pw_t (by decide) K40 (wfX2_emit (pw_rf _) e66)
    obtain ⟨v68, e69, hf⟩ := pm_bd hf
    have K70 := pw_t (by decide) K67 (wfX12_setItem (pw_rf _) e69)
    obtain ⟨k71, hf⟩ := pm_if hf
    cases hf
    exact (pw_sI K70 rfl k71 (by decide))
  have hf := pm_ie hf c61
  by_cases c72 : x2 = 12
  · have hf := pm_it hf c72
    obtain ⟨k73, hf⟩ := pm_if hf
    obtain ⟨v74, e75, hf⟩ := pm_bd hf
    have K76 := pw_t (by decide) K40 (wfX2_branch (pw_rf _) e75)
    obtain ⟨k77, hf⟩ := pm_if hf
    cases hf
    exact (pw_sI K76 rfl k77 (by decide))
  have hf := pm_ie hf c72
  by_cases c78 : x2 = 13
  · have hf := pm_it hf c78
    obtain ⟨k79, hf⟩ := pm_if hf
    obtain ⟨v80, e81, hf⟩ := pm_bd hf
    obtain ⟨v82, e83, hf⟩ := pm_bd hf
    have K84 := pw_t (by decide) K40 (wfX2_branch (pw_rf _) e83)
    obtain ⟨k85, hf⟩ := pm_if hf
    obtain ⟨v86, e87, hf⟩ := pm_bd hf
    obtain ⟨v88, e89, hf⟩ := pm_bd hf
    have K90 := pw_t (by decide) K84 (wfX12_setItem (pw_rf _) e89)
    cases hf
    exact K90
  have hf := pm_ie hf c78
  by_cases c91 : x2 = 14
  · have hf := pm_it hf c91
    obtain ⟨k92, hf⟩ := pm_if hf
    obtain ⟨v93, e94, hf⟩ := pm_bd hf
    have K95 := pw_t (by decide) K40 (wfX2_branchByTable (pw_rf _) e94)
    cases hf
    exact K95
  have hf := pm_ie hf c91
  by_cases c96 : x2 = 16
  · have hf := pm_it hf c96
    obtain ⟨k97, hf⟩ := pm_if hf
    obtain ⟨v98, e99, hf⟩ := pm_bd hf
    have K100 := pw_t (by decide) K40 (wfX2_calling (pw_rf _) e99)
    cases hf
    exact K100
  have hf := pm_ie hf c96
  by_cases c101 : x2 = 17
  · have hf := pm_it hf c101
    obtain ⟨k102, hf⟩ := pm_if hf
    obtain ⟨v103, e104, hf⟩ := pm_bd hf
    have K105 := pw_t (by decide) K40 (wfX2_calling (pw_rf _) e104)
    cases hf
    exact K105
  have hf := pm_ie hf c101
  by_cases c106 : x2 = 26
  · have hf := pm_it hf c106
    obtain ⟨k107, hf⟩ := pm_if hf
    obtain ⟨y108, e109, hf⟩ := pm_lt hf
    cases hf
    exact (pw_sI K40 rfl k107 (by decide))
  have hf := pm_ie hf c106
  by_cases c110 : x2 = 32
  · have hf := pm_it hf c110
    obtain ⟨k111, hf⟩ := pm_if hf
    obtain ⟨v112, e113, hf⟩ := pm_bd hf
    have K114 := pw_t (by decide) K40 (wfX2_hold (pw_rf _) e113)
    cases hf
    exact K114
  have hf := pm_ie hf c110
  by_cases c115 : x2 = 33
  · have hf := pm_it hf c115
    obtain ⟨k116, hf⟩ := pm_if hf
    obtain ⟨v117, e118, hf⟩ := pm_bd hf
    have K119 := pw_t (by decide) K40 (wfX2_setLocal (pw_rf _) e118)
    cases hf
    exact K119
  have hf := pm_ie hf c115
  by_cases c120 : x2 = 34
  · have hf := pm_it hf c120
    obtain ⟨k121, hf⟩ := pm_if hf
    obtain ⟨v122, e123, hf⟩ := pm_bd hf
    have K124 := pw_t (by decide) K40 (wfX2_setLocal (pw_rf _) e123)
    cases hf
    exact K124
  have hf := pm_ie hf c120
  by_cases c125 : x2 = 65
  · have hf := pm_it hf c125
    obtain ⟨k126, hf⟩ := pm_if hf
    obtain ⟨v127, e128, hf⟩ := pm_bd hf
    have K129 := pw_t (by decide) K40 (wfX2_holdConstant (pw_rf _) e128)
    cases hf
    exact K129
  have hf := pm_ie hf c125
  obtain ⟨k130, hf⟩ := pm_if hf
  obtain ⟨v131, e132, hf⟩ := pm_bd hf
  have K133 := pw_t (by decide) K40 (wfX2_plain (pw_rf _) e132)
  cases hf
  exact K133
set_option maxHeartbeats 4000000 in
set_option maxRecDepth 100000 in
theorem wfX2_translate {h0 h : pm_H} (K0 : pw_F WX2_translate h0 h) {a0 : Nat} {p1 : Int32}  {r : (Int32 × pm_H)} (hf : fX2_translate h a0 p1 = some r) : pw_F WX2_translate h0 r.2 := by
  unfold fX2_translate at hf
  obtain ⟨k1, hf⟩ := pm_if hf
  obtain ⟨v2, e3, hf⟩ := pm_bd hf
  obtain ⟨k4, hf⟩ := pm_if hf
  obtain ⟨v5, e6, hf⟩ := pm_bd hf
  obtain ⟨v7, e8, hf⟩ := pm_bd hf
  obtain ⟨v9, e10, hf⟩ := pm_bd hf
  by_cases c11 : (pm_I h a0 12) = 0
  · have hf := pm_it hf c11
    obtain ⟨v12, e13, hf⟩ := pm_bd hf
    have K14 := pw_t (by decide) K0 (wfX2_ownUnseen (pw_rf _) e13)
    exact wfX2_translate_b85 K14  hf
  · have hf := pm_ie hf c11
    obtain ⟨v15, e16, hf⟩ := pm_bd hf
    obtain ⟨k17, hf⟩ := pm_if hf
    by_cases c18 : (Int32.ofNat (pm_ln h v15)) ≤ p1
    · have hf := pm_it hf c18
      exact wfX2_translate_b85 K0  hf
    · have hf := pm_ie hf c18
      obtain ⟨u19, hf⟩ := pm_if hf
      by_cases c20 : (pm_I h v15 p1.toNatClampNeg) = 0
      · have hf := pm_it hf c20
        exact wfX2_translate_b85 K0  hf
      · have hf := pm_ie hf c20
        obtain ⟨v21, e22, hf⟩ := pm_bd hf
        have K23 := pw_t (by decide) K0 (wfX2_own (pw_rf _) e22)
        obtain ⟨k24, hf⟩ := pm_if hf
        by_cases c25 : (pm_I v21 a0 11) ≤ 0
        · have hf := pm_it hf c25
          exact wfX2_translate_b85 K23  hf
        · have hf := pm_ie hf c25
          obtain ⟨v26, e27, hf⟩ := pm_bd hf
          have K28 := pw_t (by decide) K23 (wfX2_emit (pw_rf _) e27)
          exact wfX2_translate_b85 K28  hf
abbrev WX10_atTable : List Nat := [1280, 4352]
set_option maxHeartbeats 4000000 in
set_option maxRecDepth 100000 in
theorem wfX10_atTable {h0 h : pm_H} (K0 : pw_F WX10_atTable h0 h) {a0 : Nat} {p1 : Int32} {p2 : Int32} {p3 : Int64} {p4 : Int64}  {r : (Int64 × pm_H)} (hf : fX10_atTable h a0 p1 p2 p3 p4 = some r) : pw_F WX10_atTable h0 r.2 := by
  unfold fX10_atTable at hf
  obtain ⟨k1, hf⟩ := pm_if hf
  obtain ⟨v2, e3, hf⟩ := pm_bd hf
  obtain ⟨k4, hf⟩ := pm_if hf
  obtain ⟨v5, e6, hf⟩ := pm_bd hf
  by_cases c7 : v5 = 0
  · have hf := pm_it hf c7
    cases hf
    exact (pw_sI K0 rfl k1 (by decide))
  · have hf := pm_ie hf c7
    by_cases c8 : p2 = 37
    · have hf := pm_it hf c8
      obtain ⟨v9, e10, hf⟩ := pm_bd hf
      cases hf
      exact K0
    · have hf := pm_ie hf c8
      obtain ⟨v11, e12, hf⟩ := pm_bd hf
      have K13 := pw_t (by decide) K0 (wfX11_setEntry (pw_rf _) e12)
      cases hf
      exact K13
abbrev WX12_offer : List Nat := [1549, 4352]
set_option maxHeartbeats 4000000 in
set_option maxRecDepth 100000 in
theorem wfX12_offer {h0 h : pm_H} (K0 : pw_F WX12_offer h0 h) {a0 : Nat} {p1 : Int32} {p2 : Int32}  {r : (Int32 × pm_H)} (hf : fX12_offer h a0 p1 p2 = some r) : pw_F WX12_offer h0 r.2 := by
  unfold fX12_offer at hf
  obtain ⟨k1, hf⟩ := pm_if hf
  by_cases c2 : (pm_I h a0 13) < 64
  · have hf := pm_it hf c2
    by_cases c3 : p1 = (-1)
    · have hf := pm_it hf c3
      by_cases c4 : p2 < 0
      · have hf := pm_it hf c4
        cases hf
        exact K0
      · have hf := pm_ie hf c4
        by_cases c5 : p2 ≤ 63
        · have hf := pm_it hf c5
          obtain ⟨v6, e7, hf⟩ := pm_bd hf
          have K8 := pw_t (by decide) K0 (wfX12_offerOf (pw_rf _) e7)
          cases hf
          exact K8
        · have hf := pm_ie hf c5
          cases hf
          exact K0
    · have hf := pm_ie hf c3
      obtain ⟨v9, e10, hf⟩ := pm_bd hf
      obtain ⟨k11, hf⟩ := pm_if hf
      obtain ⟨v12, e13, hf⟩ := pm_bd hf
      obtain ⟨k14, hf⟩ := pm_if hf
      obtain ⟨v15, e16, hf⟩ := pm_bd hf
      by_cases c17 : 0 ≤ v15
      · have hf := pm_it hf c17
        obtain ⟨v18, e19, hf⟩ := pm_bd hf
        obtain ⟨v20, e21, hf⟩ := pm_bd hf
        have K22 := pw_t (by decide) K0 (wfX12_offerOf (pw_rf _) e21)
        cases hf
        exact K22
      · have hf := pm_ie hf c17
        cases hf
        exact K0
  · have hf := pm_ie hf c2
    cases hf
    exact K0
abbrev WX16_accesses1 : List Nat := [2067, 2124, 2125, 2141, 4224, 4480]
set_option maxHeartbeats 4000000 in
set_option maxRecDepth 100000 in
theorem wlX16_accesses1 {h0 : pm_H} {r : pm_H} : ∀ n : Nat, (∀ (x0 : Nat) (x1 : Int32) (x6 : Int32) (x7 : Int32) (x8 : Int64) (x10 : Int64) (x12 : Int32) (h : pm_H), pw_F WX16_accesses1 h0 h → pm_iter sX16_accesses1 n (.inl (x0, x1, x6, x7, x8, x10, x12, h)) = some r → pw_F WX16_accesses1 h0 r) ∧ (∀ (x0 : Nat) (x6 : Int32) (x7 : Int32) (x8 : Int64) (x10 : Int64) (x12 : Int32) (h : pm_H), pw_F WX16_accesses1 h0 h → pm_iter sX16_accesses1 n (.inr (x0, x6, x7, x8, x10, x12, h)) = some r → pw_F WX16_accesses1 h0 r) := by
  intro n
  induction n with
  | zero => exact ⟨fun _ _ _ _ _ _ _ _ _ hf => (by cases hf), fun _ _ _ _ _ _ _ _ hf => (by cases hf)⟩
  | succ n ih =>
    refine ⟨fun x0 x1 x6 x7 x8 x10 x12 h K0 hf => ?_, ?_⟩
    · obtain ⟨y, hf, hi⟩ := pm_iter_s hf
      have hf : tX16_accesses1_136 x0 x1 x6 x7 x8 x10 x12 h = some y := hf
      unfold tX16_accesses1_136 at hf
      by_cases c57 : x6 ≤ x12
      · have hf := pm_it hf c57
        obtain ⟨y58, e59, hf⟩ := pm_lt hf
        by_cases c60 : x1 ≤ 43
        · have hf := pm_it hf c60
          obtain ⟨v61, e62, hf⟩ := pm_lt hf
          obtain ⟨v63, e64, hf⟩ := pm_lt hf
          obtain ⟨k65, hf⟩ := pm_if hf
          obtain ⟨v66, e67, hf⟩ := pm_bd hf
          have K68 := pw_t (by decide) K0 (wfX16_push (pw_rf _) e67)
          cases hf
          cases hi
          exact K68
        · have hf := pm_ie hf c60
          by_cases c69 : (x1 - x1 / 2 * 2) = 0
          · have hf := pm_it hf c69
            obtain ⟨y70, e71, hf⟩ := pm_lt hf
            obtain ⟨v72, e73, hf⟩ := pm_lt hf
            obtain ⟨v74, e75, hf⟩ := pm_lt hf
            obtain ⟨k76, hf⟩ := pm_if hf
            obtain ⟨v77, e78, hf⟩ := pm_bd hf
            have K79 := pw_t (by decide) K0 (wfX16_push (pw_rf _) e78)
            cases hf
            cases hi
            exact K79
          · have hf := pm_ie hf c69
            obtain ⟨v80, e81, hf⟩ := pm_lt hf
            obtain ⟨v82, e83, hf⟩ := pm_lt hf
            obtain ⟨k84, hf⟩ := pm_if hf
            obtain ⟨v85, e86, hf⟩ := pm_bd hf
            have K87 := pw_t (by decide) K0 (wfX16_push (pw_rf _) e86)
            cases hf
            cases hi
            exact K87
      · have hf := pm_ie hf c57
        obtain ⟨k88, hf⟩ := pm_if hf
        obtain ⟨v89, e90, hf⟩ := pm_bd hf
        obtain ⟨y91, e92, hf⟩ := pm_lt hf
        obtain ⟨y93, e94, hf⟩ := pm_lt hf
        cases hf
        exact ih.1 x0 x1 x6 x7 y91 x10 y93 h K0  hi
    refine fun x0 x6 x7 x8 x10 x12 h K0 hf => ?_
    obtain ⟨y, hf, hi⟩ := pm_iter_s hf
    have hf : tX16_accesses1_97 x0 x6 x7 x8 x10 x12 h = some y := hf
    unfold tX16_accesses1_97 at hf
    by_cases c95 : x6 ≤ x12
    · have hf := pm_it hf c95
      cases hf
      cases hi
      exact K0
    · have hf := pm_ie hf c95
      obtain ⟨k96, hf⟩ := pm_if hf
      obtain ⟨v97, e98, hf⟩ := pm_bd hf
      have K99 := pw_t (by decide) K0 (wfX16_sets (pw_rf _) e98)
      obtain ⟨y100, e101, hf⟩ := pm_lt hf
      cases hf
      exact ih.2 x0 x6 x7 x8 x10 y100 v97 K99  hi
set_option maxHeartbeats 4000000 in
set_option maxRecDepth 100000 in
theorem wfX16_accesses1 {h0 h : pm_H} (K0 : pw_F WX16_accesses1 h0 h) {a0 : Nat} {p1 : Int32}  {r : pm_H} (hf : fX16_accesses1 h a0 p1 = some r) : pw_F WX16_accesses1 h0 r := by
  unfold fX16_accesses1 at hf
  obtain ⟨k1, hf⟩ := pm_if hf
  obtain ⟨v2, e3, hf⟩ := pm_bd hf
  have K4 := pw_t (by decide) K0 (wfX16_word (pw_rf _) e3)
  obtain ⟨k5, hf⟩ := pm_if hf
  obtain ⟨v6, e7, hf⟩ := pm_bd hf
  have K8 := pw_t (by decide) K4 (wfX16_word (pw_rf _) e7)
  obtain ⟨v9, e10, hf⟩ := pm_lt hf
  obtain ⟨y11, e12, hf⟩ := pm_lt hf
  obtain ⟨k13, hf⟩ := pm_if hf
  obtain ⟨v14, e15, hf⟩ := pm_bd hf
  obtain ⟨y16, e17, hf⟩ := pm_lt hf
  obtain ⟨k18, hf⟩ := pm_if hf
  obtain ⟨u19, hf⟩ := pm_if hf
  obtain ⟨y20, e21, hf⟩ := pm_lt hf
  by_cases c22 : p1 ≤ 53
  · have hf := pm_it hf c22
    obtain ⟨v23, e24, hf⟩ := pm_bd hf
    have K25 := pw_t (by decide) K8 (wfX16_pop (pw_rf _) e24)
    obtain ⟨y26, e27, hf⟩ := pm_lt hf
    obtain ⟨k28, hf⟩ := pm_if hf
    obtain ⟨v29, e30, hf⟩ := pm_bd hf
    obtain ⟨k31, hf⟩ := pm_if hf
    obtain ⟨u32, hf⟩ := pm_if hf
    by_cases c33 : (y26 + y11.toInt64) ≤ (65536 * ((pm_I v23.2 v29 y20.toNatClampNeg).toInt64))
    · have hf := pm_it hf c33
      by_cases c34 : p1 ≤ 53
      · have hf := pm_it hf c34
        obtain ⟨n, hn⟩ := pm_lim_iter hf
        exact (wlX16_accesses1 n).1 a0 p1 y11 y20 0 y26 0 v23.2 K25  hn
      · have hf := pm_ie hf c34
        obtain ⟨n, hn⟩ := pm_lim_iter hf
        exact (wlX16_accesses1 n).2 a0 y11 y20 0 y26 0 v23.2 K25  hn
    · have hf := pm_ie hf c33
      obtain ⟨v35, e36, hf⟩ := pm_bd hf
      have K37 := pw_t (by decide) K25 (wfX16_endsBy (pw_rf _) e36)
      cases hf
      exact K37
  · have hf := pm_ie hf c22
    obtain ⟨v38, e39, hf⟩ := pm_bd hf
    have K40 := pw_t (by decide) K8 (wfX16_pop (pw_rf _) e39)
    obtain ⟨k41, hf⟩ := pm_if hf
    obtain ⟨v42, e43, hf⟩ := pm_bd hf
    have K44 := pw_t (by decide) K40 (wfX16_pop (pw_rf _) e43)
    obtain ⟨y45, e46, hf⟩ := pm_lt hf
    obtain ⟨k47, hf⟩ := pm_if hf
    obtain ⟨v48, e49, hf⟩ := pm_bd hf
    obtain ⟨k50, hf⟩ := pm_if hf
    obtain ⟨u51, hf⟩ := pm_if hf
    by_cases c52 : (y45 + y11.toInt64) ≤ (65536 * ((pm_I v42.2 v48 y20.toNatClampNeg).toInt64))
    · have hf := pm_it hf c52
      by_cases c53 : p1 ≤ 53
      · have hf := pm_it hf c53
        obtain ⟨n, hn⟩ := pm_lim_iter hf
        exact (wlX16_accesses1 n).1 a0 p1 y11 y20 v38.1 y45 0 v42.2 K44  hn
      · have hf := pm_ie hf c53
        obtain ⟨n, hn⟩ := pm_lim_iter hf
        exact (wlX16_accesses1 n).2 a0 y11 y20 v38.1 y45 0 v42.2 K44  hn
    · have hf := pm_ie hf c52
      obtain ⟨v54, e55, hf⟩ := pm_bd hf
      have K56 := pw_t (by decide) K44 (wfX16_endsBy (pw_rf _) e55)
      cases hf
      exact K56
abbrev WX16_behind : List Nat := [2067]
set_option maxHeartbeats 4000000 in
set_option maxRecDepth 100000 in
theorem wlX16_behind {h0 : pm_H} {r : (Int32 × pm_H)} : ∀ n : Nat, (∀ (x0 : Nat) (x2 : Int32) (h : pm_H), pw_F WX16_behind h0 h → pm_iter sX16_behind n (.inl (x0, x2, h)) = some r → pw_F WX16_behind h0 r.2) ∧ (∀ (x0 : Nat) (x2 : Int32) (h : pm_H), pw_F WX16_behind h0 h → pm_iter sX16_behind n (.inr (.inl (x0, x2, h))) = some r → pw_F WX16_behind h0 r.2) ∧ (∀ (x0 : Nat) (x3 : Int64) (x5 : Int64) (h : pm_H), pw_F WX16_behind h0 h → pm_iter sX16_behind n (.inr (.inr (x0, x3, x5, h))) = some r → pw_F WX16_behind h0 r.2) := by
  intro n
  induction n with
  | zero => exact ⟨fun _ _ _ _ hf => (by cases hf), fun _ _ _ _ hf => (by cases hf), fun _ _ _ _ _ hf => (by cases hf)⟩
  | succ n ih =>
    refine ⟨fun x0 x2 h K0 hf => ?_, ?_⟩
    · obtain ⟨y, hf, hi⟩ := pm_iter_s hf
      have hf : tX16_behind_34 x0 x2 h = some y := hf
      unfold tX16_behind_34 at hf
      obtain ⟨v15, e16, hf⟩ := pm_lt hf
      by_cases c17 : v15 = 0
      · have hf := pm_it hf c17
        obtain ⟨v18, e19, hf⟩ := pm_lt hf
        by_cases c20 : v18 = 0
        · have hf := pm_it hf c20
          by_cases c21 : x2 = 17
          · have hf := pm_it hf c21
            obtain ⟨k22, hf⟩ := pm_if hf
            obtain ⟨v23, e24, hf⟩ := pm_bd hf
            have K25 := pw_t (by decide) K0 (wfX16_word (pw_rf _) e24)
            obtain ⟨k26, hf⟩ := pm_if hf
            obtain ⟨v27, e28, hf⟩ := pm_bd hf
            have K29 := pw_t (by decide) K25 (wfX16_word (pw_rf _) e28)
            obtain ⟨k30, hf⟩ := pm_if hf
            cases hf
            cases hi
            exact K29
          · have hf := pm_ie hf c21
            by_cases c31 : x2 = 14
            · have hf := pm_it hf c31
              obtain ⟨k32, hf⟩ := pm_if hf
              obtain ⟨v33, e34, hf⟩ := pm_bd hf
              have K35 := pw_t (by decide) K0 (wfX16_word (pw_rf _) e34)
              cases hf
              exact ih.2.2 x0 v33.1 0 v33.2 K35  hi
            · have hf := pm_ie hf c31
              by_cases c36 : x2 = 28
              · have hf := pm_it hf c36
                obtain ⟨k37, hf⟩ := pm_if hf
                obtain ⟨v38, e39, hf⟩ := pm_bd hf
                have K40 := pw_t (by decide) K0 (wfX16_word (pw_rf _) e39)
                obtain ⟨k41, hf⟩ := pm_if hf
                obtain ⟨y42, e43, hf⟩ := pm_lt hf
                cases hf
                cases hi
                exact (pw_sI K40 rfl k41 (by decide))
              · have hf := pm_ie hf c36
                by_cases c44 : x2 = 63
                · have hf := pm_it hf c44
                  obtain ⟨k45, hf⟩ := pm_if hf
                  obtain ⟨y46, e47, hf⟩ := pm_lt hf
                  cases hf
                  cases hi
                  exact (pw_sI K0 rfl k45 (by decide))
                · have hf := pm_ie hf c44
                  by_cases c48 : x2 = 64
                  · have hf := pm_it hf c48
                    obtain ⟨k49, hf⟩ := pm_if hf
                    obtain ⟨y50, e51, hf⟩ := pm_lt hf
                    cases hf
                    cases hi
                    exact (pw_sI K0 rfl k49 (by decide))
                  · have hf := pm_ie hf c48
                    by_cases c52 : x2 = 208
                    · have hf := pm_it hf c52
                      obtain ⟨k53, hf⟩ := pm_if hf
                      obtain ⟨y54, e55, hf⟩ := pm_lt hf
                      cases hf
                      cases hi
                      exact (pw_sI K0 rfl k53 (by decide))
                    · have hf := pm_ie hf c52
                      by_cases c56 : x2 = 65
                      · have hf := pm_it hf c56
                        obtain ⟨k57, hf⟩ := pm_if hf
                        obtain ⟨v58, e59, hf⟩ := pm_bd hf
                        have K60 := pw_t (by decide) K0 (wfX16_signedWord (pw_rf _) e59)
                        obtain ⟨k61, hf⟩ := pm_if hf
                        cases hf
                        cases hi
                        exact K60
                      · have hf := pm_ie hf c56
                        by_cases c62 : x2 = 66
                        · have hf := pm_it hf c62
                          obtain ⟨k63, hf⟩ := pm_if hf
                          obtain ⟨v64, e65, hf⟩ := pm_bd hf
                          have K66 := pw_t (by decide) K0 (wfX16_signedWord (pw_rf _) e65)
                          obtain ⟨k67, hf⟩ := pm_if hf
                          cases hf
                          cases hi
                          exact K66
                        · have hf := pm_ie hf c62
                          by_cases c68 : x2 = 67
                          · have hf := pm_it hf c68
                            cases hf
                            exact ih.2.1 x0 x2 h K0  hi
                          · have hf := pm_ie hf c68
                            by_cases c69 : x2 = 68
                            · have hf := pm_it hf c69
                              cases hf
                              exact ih.2.1 x0 x2 h K0  hi
                            · have hf := pm_ie hf c69
                              by_cases c70 : x2 = 252
                              · have hf := pm_it hf c70
                                obtain ⟨k71, hf⟩ := pm_if hf
                                obtain ⟨v72, e73, hf⟩ := pm_bd hf
                                have K74 := pw_t (by decide) K0 (wfX16_passesFurther (pw_rf _) e73)
                                obtain ⟨k75, hf⟩ := pm_if hf
                                cases hf
                                cases hi
                                exact K74
                              · have hf := pm_ie hf c70
                                obtain ⟨k76, hf⟩ := pm_if hf
                                cases hf
                                cases hi
                                exact K0
        · have hf := pm_ie hf c20
          obtain ⟨k77, hf⟩ := pm_if hf
          obtain ⟨v78, e79, hf⟩ := pm_bd hf
          have K80 := pw_t (by decide) K0 (wfX16_word (pw_rf _) e79)
          obtain ⟨k81, hf⟩ := pm_if hf
          obtain ⟨v82, e83, hf⟩ := pm_bd hf
          have K84 := pw_t (by decide) K80 (wfX16_word (pw_rf _) e83)
          obtain ⟨k85, hf⟩ := pm_if hf
          cases hf
          cases hi
          exact K84
      · have hf := pm_ie hf c17
        obtain ⟨k86, hf⟩ := pm_if hf
        obtain ⟨v87, e88, hf⟩ := pm_bd hf
        have K89 := pw_t (by decide) K0 (wfX16_word (pw_rf _) e88)
        obtain ⟨k90, hf⟩ := pm_if hf
        cases hf
        cases hi
        exact K89
    refine ⟨fun x0 x2 h K0 hf => ?_, ?_⟩
    · obtain ⟨y, hf, hi⟩ := pm_iter_s hf
      have hf : tX16_behind_204 x0 x2 h = some y := hf
      unfold tX16_behind_204 at hf
      obtain ⟨k99, hf⟩ := pm_if hf
      by_cases c100 : x2 = 67
      · have hf := pm_it hf c100
        obtain ⟨y101, e102, hf⟩ := pm_lt hf
        cases hf
        cases hi
        exact (pw_sI K0 rfl k99 (by decide))
      · have hf := pm_ie hf c100
        obtain ⟨y103, e104, hf⟩ := pm_lt hf
        cases hf
        cases hi
        exact (pw_sI K0 rfl k99 (by decide))
    refine fun x0 x3 x5 h K0 hf => ?_
    obtain ⟨y, hf, hi⟩ := pm_iter_s hf
    have hf : tX16_behind_90 x0 x3 x5 h = some y := hf
    unfold tX16_behind_90 at hf
    by_cases c91 : x3 < x5
    · have hf := pm_it hf c91
      obtain ⟨k92, hf⟩ := pm_if hf
      cases hf
      cases hi
      exact K0
    · have hf := pm_ie hf c91
      obtain ⟨k93, hf⟩ := pm_if hf
      obtain ⟨v94, e95, hf⟩ := pm_bd hf
      have K96 := pw_t (by decide) K0 (wfX16_word (pw_rf _) e95)
      obtain ⟨y97, e98, hf⟩ := pm_lt hf
      cases hf
      exact ih.2.2 x0 x3 y97 v94.2 K96  hi
set_option maxHeartbeats 4000000 in
set_option maxRecDepth 100000 in
theorem wfX16_behind {h0 h : pm_H} (K0 : pw_F WX16_behind h0 h) {a0 : Nat} {p1 : Int32}  {r : (Int32 × pm_H)} (hf : fX16_behind h a0 p1 = some r) : pw_F WX16_behind h0 r.2 := by
  unfold fX16_behind at hf
  obtain ⟨k1, hf⟩ := pm_if hf
  obtain ⟨v2, e3, hf⟩ := pm_bd hf
  obtain ⟨k4, hf⟩ := pm_if hf
  obtain ⟨v5, e6, hf⟩ := pm_bd hf
  obtain ⟨y7, e8, hf⟩ := pm_lt hf
  by_cases c9 : v5 < 2
  · have hf := pm_it hf c9
    obtain ⟨n, hn⟩ := pm_lim_iter hf
    exact (wlX16_behind n).1 a0 v5 (pm_setI h a0 19 y7) (pw_sI K0 rfl k1 (by decide))  hn
  · have hf := pm_ie hf c9
    by_cases c10 : 4 < v5
    · have hf := pm_it hf c10
      obtain ⟨n, hn⟩ := pm_lim_iter hf
      exact (wlX16_behind n).1 a0 v5 (pm_setI h a0 19 y7) (pw_sI K0 rfl k1 (by decide))  hn
    · have hf := pm_ie hf c10
      obtain ⟨v11, e12, hf⟩ := pm_bd hf
      have K13 := pw_t (by decide) (pw_sI K0 rfl k1 (by decide)) (wfX16_blockWord (pw_rf _) e12)
      obtain ⟨k14, hf⟩ := pm_if hf
      cases hf
      exact K13
abbrev WX16_declaresIn : List Nat := [2067, 2069, 4096]
set_option maxHeartbeats 4000000 in
set_option maxRecDepth 100000 in
theorem wlX16_declaresIn {h0 : pm_H} {r : pm_H} : ∀ n : Nat, (∀ (x0 : Nat) (x2 : Int32) (h : pm_H), pw_F WX16_declaresIn h0 h → pm_iter sX16_declaresIn n (.inl (x0, x2, h)) = some r → pw_F WX16_declaresIn h0 r) ∧ (∀ (x0 : Nat) (x2 : Int32) (h : pm_H), pw_F WX16_declaresIn h0 h → pm_iter sX16_declaresIn n (.inr (.inl (x0, x2, h))) = some r → pw_F WX16_declaresIn h0 r) ∧ (∀ (x0 : Nat) (x2 : Int32) (x3 : Int32) (s0 : Int32) (s1 : Nat) (h : pm_H), pw_F WX16_declaresIn h0 h → pm_iter sX16_declaresIn n (.inr (.inr (.inl (x0, x2, x3, s0, s1, h)))) = some r → pw_F WX16_declaresIn h0 r) ∧ (∀ (x0 : Nat) (x2 : Int32) (x3 : Int32) (s0 : Int32) (s1 : Int32) (s2 : Nat) (h : pm_H), pw_F WX16_declaresIn h0 h → pm_iter sX16_declaresIn n (.inr (.inr (.inr (x0, x2, x3, s0, s1, s2, h)))) = some r → pw_F WX16_declaresIn h0 r) := by
  intro n
  induction n with
  | zero => exact ⟨fun _ _ _ _ hf => (by cases hf), fun _ _ _ _ hf => (by cases hf), fun _ _ _ _ _ _ _ hf => (by cases hf), fun _ _ _ _ _ _ _ _ hf => (by cases hf)⟩
  | succ n ih =>
    refine ⟨fun x0 x2 h K0 hf => ?_, ?_⟩
    · obtain ⟨y, hf, hi⟩ := pm_iter_s hf
      have hf : tX16_declaresIn_2 x0 x2 h = some y := hf
      unfold tX16_declaresIn_2 at hf
      obtain ⟨k1, hf⟩ := pm_if hf
      obtain ⟨v2, e3, hf⟩ := pm_bd hf
      obtain ⟨k4, hf⟩ := pm_if hf
      obtain ⟨v5, e6, hf⟩ := pm_bd hf
      by_cases c7 : v5 = 11
      · have hf := pm_it hf c7
        by_cases c8 : (pm_I h x0 21) ≤ 0
        · have hf := pm_it hf c8
          obtain ⟨y9, e10, hf⟩ := pm_lt hf
          cases hf
          cases hi
          exact (pw_sI K0 rfl k1 (by decide))
        · have hf := pm_ie hf c8
          cases hf
          exact ih.2.1 x0 x2 h K0  hi
      · have hf := pm_ie hf c7
        cases hf
        exact ih.2.1 x0 x2 h K0  hi
    refine ⟨fun x0 x2 h K0 hf => ?_, ?_⟩
    · obtain ⟨y, hf, hi⟩ := pm_iter_s hf
      have hf : tX16_declaresIn_22 x0 x2 h = some y := hf
      unfold tX16_declaresIn_22 at hf
      obtain ⟨k11, hf⟩ := pm_if hf
      obtain ⟨v12, e13, hf⟩ := pm_bd hf
      obtain ⟨k14, hf⟩ := pm_if hf
      obtain ⟨v15, e16, hf⟩ := pm_bd hf
      by_cases c17 : v15 < 2
      · have hf := pm_it hf c17
        cases hf
        exact ih.2.2.1 x0 x2 v15 (pm_I h x0 21) x0 h K0  hi
      · have hf := pm_ie hf c17
        by_cases c18 : 4 < v15
        · have hf := pm_it hf c18
          cases hf
          exact ih.2.2.1 x0 x2 v15 (pm_I h x0 21) x0 h K0  hi
        · have hf := pm_ie hf c18
          cases hf
          exact ih.2.2.2 x0 x2 v15 1 (pm_I h x0 21) x0 h K0  hi
    refine ⟨fun x0 x2 x3 s0 s1 h K0 hf => ?_, ?_⟩
    · obtain ⟨y, hf, hi⟩ := pm_iter_s hf
      have hf : tX16_declaresIn_50 x0 x2 x3 s0 s1 h = some y := hf
      unfold tX16_declaresIn_50 at hf
      by_cases c19 : x3 = 11
      · have hf := pm_it hf c19
        cases hf
        exact ih.2.2.2 x0 x2 x3 (-1) s0 s1 h K0  hi
      · have hf := pm_ie hf c19
        cases hf
        exact ih.2.2.2 x0 x2 x3 0 s0 s1 h K0  hi
    refine fun x0 x2 x3 s0 s1 s2 h K0 hf => ?_
    obtain ⟨y, hf, hi⟩ := pm_iter_s hf
    have hf : tX16_declaresIn_61 x0 x2 x3 s0 s1 s2 h = some y := hf
    unfold tX16_declaresIn_61 at hf
    obtain ⟨y20, e21, hf⟩ := pm_lt hf
    obtain ⟨k22, hf⟩ := pm_if hf
    obtain ⟨y23, e24, hf⟩ := pm_lt hf
    obtain ⟨k25, hf⟩ := pm_if hf
    have k25b := (congrFun (pkI rfl) x0).symm.trans k25
    by_cases c26 : x3 = 210
    · have hf := pm_it hf c26
      obtain ⟨v27, e28, hf⟩ := pm_bd hf
      have K29 := pw_t (by decide) (pw_sI (pw_sI K0 rfl k22 (by decide)) (pkI rfl) k25b (by decide)) (wfX16_word (pw_rf _) e28)
      obtain ⟨k30, hf⟩ := pm_if hf
      obtain ⟨v31, e32, hf⟩ := pm_bd hf
      have K33 := pw_t (by decide) K29 (wfX16_declare (pw_rf _) e32)
      obtain ⟨k34, hf⟩ := pm_if hf
      obtain ⟨v35, e36, hf⟩ := pm_bd hf
      have K37 := pw_t (by decide) K33 (wfX16_behind (pw_rf _) e36)
      cases hf
      exact ih.1 x0 v35.1 v35.2 K37  hi
    · have hf := pm_ie hf c26
      obtain ⟨v38, e39, hf⟩ := pm_bd hf
      have K40 := pw_t (by decide) (pw_sI (pw_sI K0 rfl k22 (by decide)) (pkI rfl) k25b (by decide)) (wfX16_behind (pw_rf _) e39)
      cases hf
      exact ih.1 x0 v38.1 v38.2 K40  hi
set_option maxHeartbeats 4000000 in
set_option maxRecDepth 100000 in
theorem wfX16_declaresIn {h0 h : pm_H} (K0 : pw_F WX16_declaresIn h0 h) {a0 : Nat} {p1 : Int32}  {r : pm_H} (hf : fX16_declaresIn h a0 p1 = some r) : pw_F WX16_declaresIn h0 r := by
  unfold fX16_declaresIn at hf
  obtain ⟨n, hn⟩ := pm_lim_iter hf
  exact (wlX16_declaresIn n).1 a0 p1 h K0  hn
