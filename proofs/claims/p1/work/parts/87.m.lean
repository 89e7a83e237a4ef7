set_option maxHeartbeats 4000000 in
set_option maxRecDepth 100000 in
theorem klX16_readsDatas {r : ((Nat × pm_H) ⊕ pm_H)} : ∀ n : Nat, (∀ (x0 : Nat) (x1 : Int64) (x3 : Int64) (h : pm_H), pm_iter sX16_readsDatas n (.inl (x0, x1, x3, h)) = some r → pt_SV r h) ∧ (∀ (x0 : Nat) (x1 : Int64) (x3 : Int64) (x6 : Int64) (h : pm_H), pm_iter sX16_readsDatas n (.inr (.inl (x0, x1, x3, x6, h))) = some r → pt_SV r h) ∧ (∀ (x0 : Nat) (x1 : Int64) (x3 : Int64) (x6 : Int64) (s0 : Int32) (h : pm_H), pm_iter sX16_readsDatas n (.inr (.inr (.inl (x0, x1, x3, x6, s0, h)))) = some r → pt_SV r h) ∧ (∀ (x0 : Nat) (x1 : Int64) (x3 : Int64) (x6 : Int64) (x8 : Int32) (s0 : Int32) (s1 : Int32) (s2 : Nat) (h : pm_H), pm_iter sX16_readsDatas n (.inr (.inr (.inr (.inl (x0, x1, x3, x6, x8, s0, s1, s2, h))))) = some r → pt_SV r h) ∧ (∀ (x0 : Nat) (x1 : Int64) (x3 : Int64) (x8 : Int32) (x9 : Int64) (x11 : Int64) (h : pm_H), pm_iter sX16_readsDatas n (.inr (.inr (.inr (.inr (x0, x1, x3, x8, x9, x11, h))))) = some r → pt_SV r h) := by
  intro n
  induction n with
  | zero => exact ⟨fun _ _ _ _ hf => (by cases hf), fun _ _ _ _ _ hf => (by cases hf), fun _ _ _ _ _ _ hf => (by cases hf), fun _ _ _ _ _ _ _ _ _ hf => (by cases hf), fun _ _ _ _ _ _ _ hf => (by cases hf)⟩
  | succ n ih =>
    refine ⟨fun x0 x1 x3 h hf => ?_, ?_⟩
    · obtain ⟨y, hf, hi⟩ := pm_iter_s hf
      have hf : tX16_readsDatas_27 x0 x1 x3 h = some y := hf
      unfold tX16_readsDatas_27 at hf
      have K0 := pm_S3.rf h
      by_cases c15 : x1 ≤ x3
      · have hf := pm_it hf c15
        cases hf
        cases hi
        exact K0
      · have hf := pm_ie hf c15
        obtain ⟨k16, hf⟩ := pm_if hf
        obtain ⟨y17, e18, hf⟩ := pm_lt hf
        obtain ⟨v19, e20, hf⟩ := pm_bd hf
        rcases v19 with z22 | w21
        · have hf := pt_sl hf
          cases hf
          cases hi
          exact pm_S3.trans (show pm_S3 z22.2 _ from kpX16_number e20) K0
        have K23 := pm_S3.trans (show pm_S3 w21.2 _ from kpX16_number e20) K0
        have hf := pt_sr hf
        by_cases c24 : w21.1 ≤ 2
        · have hf := pm_it hf c24
          cases hf
          exact pt_SV.trans (ih.2.1 x0 x1 x3 w21.1 w21.2 hi) K23
        · have hf := pm_ie hf c24
          obtain ⟨k25, hf⟩ := pm_if hf
          obtain ⟨v26, e27, hf⟩ := pm_bd hf
          rcases v26 with z29 | w28
          · have hf := pt_sl hf
            cases hf
            cases hi
            exact pm_S3.trans (show pm_S3 z29.2 _ from kpX16_stops e27) K23
          have K30 := pm_S3.trans (show pm_S3 w28 _ from kpX16_stops e27) K23
          have hf := pt_sr hf
          cases hf
          exact pt_SV.trans (ih.2.1 x0 x1 x3 w21.1 w28 hi) K30
    refine ⟨fun x0 x1 x3 x6 h hf => ?_, ?_⟩
    · obtain ⟨y, hf, hi⟩ := pm_iter_s hf
      have hf : tX16_readsDatas_62 x0 x1 x3 x6 h = some y := hf
      unfold tX16_readsDatas_62 at hf
      have K0 := pm_S3.rf h
      by_cases c31 : 64 ≤ x3
      · have hf := pm_it hf c31
        cases hf
        exact pt_SV.trans (ih.2.2.1 x0 x1 x3 x6 63 h hi) K0
      · have hf := pm_ie hf c31
        cases hf
        exact pt_SV.trans (ih.2.2.1 x0 x1 x3 x6 x3.toInt32 h hi) K0
    refine ⟨fun x0 x1 x3 x6 s0 h hf => ?_, ?_⟩
    · obtain ⟨y, hf, hi⟩ := pm_iter_s hf
      have hf : tX16_readsDatas_77 x0 x1 x3 x6 s0 h = some y := hf
      unfold tX16_readsDatas_77 at hf
      have K0 := pm_S3.rf h
      obtain ⟨k32, hf⟩ := pm_if hf
      obtain ⟨v33, e34, hf⟩ := pm_bd hf
      obtain ⟨k35, hf⟩ := pm_if hf
      obtain ⟨v36, e37, hf⟩ := pm_bd hf
      by_cases c38 : x6 = 1
      · have hf := pm_it hf c38
        cases hf
        exact pt_SV.trans (ih.2.2.2.1 x0 x1 x3 x6 s0 0 s0 v36 h hi) K0
      · have hf := pm_ie hf c38
        cases hf
        exact pt_SV.trans (ih.2.2.2.1 x0 x1 x3 x6 s0 1 s0 v36 h hi) K0
    refine ⟨fun x0 x1 x3 x6 x8 s0 s1 s2 h hf => ?_, ?_⟩
    · obtain ⟨y, hf, hi⟩ := pm_iter_s hf
      have hf : tX16_readsDatas_100 x0 x1 x3 x6 x8 s0 s1 s2 h = some y := hf
      unfold tX16_readsDatas_100 at hf
      have K0 := pm_S3.rf h
      obtain ⟨k39, hf⟩ := pm_if hf
      obtain ⟨u40, hf⟩ := pm_if hf
      obtain ⟨k41, hf⟩ := pm_if hf
      obtain ⟨v42, e43, hf⟩ := pm_bd hf
      obtain ⟨k44, hf⟩ := pm_if hf
      obtain ⟨v45, e46, hf⟩ := pm_bd hf
      by_cases c47 : x6 = 2
      · have hf := pm_it hf c47
        obtain ⟨v48, e49, hf⟩ := pm_bd hf
        rcases v48 with z51 | w50
        · have hf := pt_sl hf
          cases hf
          cases hi
          exact pm_S3.trans (show pm_S3 z51.2 _ from kpX16_number e49) K0
        have K52 := pm_S3.trans (show pm_S3 w50.2 _ from kpX16_number e49) K0
        have hf := pt_sr hf
        obtain ⟨k53, hf⟩ := pm_if hf
        obtain ⟨u54, hf⟩ := pm_if hf
        obtain ⟨k55, hf⟩ := pm_if hf
        obtain ⟨v56, e57, hf⟩ := pm_bd hf
        obtain ⟨k58, hf⟩ := pm_if hf
        obtain ⟨v59, e60, hf⟩ := pm_bd hf
        obtain ⟨y61, e62, hf⟩ := pm_lt hf
        obtain ⟨k63, hf⟩ := pm_if hf
        obtain ⟨u64, hf⟩ := pm_if hf
        by_cases c65 : x6 = 1
        · have hf := pm_it hf c65
          obtain ⟨v66, e67, hf⟩ := pm_bd hf
          rcases v66 with z69 | w68
          · have hf := pt_sl hf
            cases hf
            cases hi
            exact pm_S3.trans (show pm_S3 z69.2 _ from kpX16_number e67) K52
          have K70 := pm_S3.trans (show pm_S3 w68.2 _ from kpX16_number e67) K52
          have hf := pt_sr hf
          obtain ⟨k71, hf⟩ := pm_if hf
          obtain ⟨v72, e73, hf⟩ := pm_bd hf
          obtain ⟨k74, hf⟩ := pm_if hf
          obtain ⟨v75, e76, hf⟩ := pm_bd hf
          obtain ⟨y77, e78, hf⟩ := pm_lt hf
          obtain ⟨k79, hf⟩ := pm_if hf
          obtain ⟨u80, hf⟩ := pm_if hf
          cases hf
          exact pt_SV.trans (ih.2.2.2.2 x0 x1 x3 x8 w68.1 0 (pm_setI w68.2 v75 x8.toNatClampNeg y77) hi) K70
        · have hf := pm_ie hf c65
          obtain ⟨v81, e82, hf⟩ := pm_bd hf
          rcases v81 with z84 | w83
          · have hf := pt_sl hf
            cases hf
            cases hi
            exact pm_S3.trans (show pm_S3 z84.2 _ from kpX16_expression e82) K52
          have K85 := pm_S3.trans (show pm_S3 w83 _ from kpX16_expression e82) K52
          have hf := pt_sr hf
          obtain ⟨k86, hf⟩ := pm_if hf
          obtain ⟨v87, e88, hf⟩ := pm_bd hf
          rcases v87 with z90 | w89
          · have hf := pt_sl hf
            cases hf
            cases hi
            exact pm_S3.trans (show pm_S3 z90.2 _ from kpX16_number e88) K85
          have K91 := pm_S3.trans (show pm_S3 w89.2 _ from kpX16_number e88) K85
          have hf := pt_sr hf
          obtain ⟨k92, hf⟩ := pm_if hf
          obtain ⟨v93, e94, hf⟩ := pm_bd hf
          obtain ⟨k95, hf⟩ := pm_if hf
          obtain ⟨v96, e97, hf⟩ := pm_bd hf
          obtain ⟨y98, e99, hf⟩ := pm_lt hf
          obtain ⟨k100, hf⟩ := pm_if hf
          obtain ⟨u101, hf⟩ := pm_if hf
          cases hf
          exact pt_SV.trans (ih.2.2.2.2 x0 x1 x3 x8 w89.1 0 (pm_setI w89.2 v96 x8.toNatClampNeg y98) hi) K91
      · have hf := pm_ie hf c47
        obtain ⟨k102, hf⟩ := pm_if hf
        obtain ⟨u103, hf⟩ := pm_if hf
        obtain ⟨v104, e105, hf⟩ := pm_bd hf
        obtain ⟨y106, e107, hf⟩ := pm_lt hf
        obtain ⟨k108, hf⟩ := pm_if hf
        obtain ⟨u109, hf⟩ := pm_if hf
        by_cases c110 : x6 = 1
        · have hf := pm_it hf c110
          obtain ⟨v111, e112, hf⟩ := pm_bd hf
          rcases v111 with z114 | w113
          · have hf := pt_sl hf
            cases hf
            cases hi
            exact pm_S3.trans (show pm_S3 z114.2 _ from kpX16_number e112) K0
          have K115 := pm_S3.trans (show pm_S3 w113.2 _ from kpX16_number e112) K0
          have hf := pt_sr hf
          obtain ⟨k116, hf⟩ := pm_if hf
          obtain ⟨v117, e118, hf⟩ := pm_bd hf
          obtain ⟨k119, hf⟩ := pm_if hf
          obtain ⟨v120, e121, hf⟩ := pm_bd hf
          obtain ⟨y122, e123, hf⟩ := pm_lt hf
          obtain ⟨k124, hf⟩ := pm_if hf
          obtain ⟨u125, hf⟩ := pm_if hf
          cases hf
          exact pt_SV.trans (ih.2.2.2.2 x0 x1 x3 x8 w113.1 0 (pm_setI w113.2 v120 x8.toNatClampNeg y122) hi) K115
        · have hf := pm_ie hf c110
          obtain ⟨v126, e127, hf⟩ := pm_bd hf
          rcases v126 with z129 | w128
          · have hf := pt_sl hf
            cases hf
            cases hi
            exact pm_S3.trans (show pm_S3 z129.2 _ from kpX16_expression e127) K0
          have K130 := pm_S3.trans (show pm_S3 w128 _ from kpX16_expression e127) K0
          have hf := pt_sr hf
          obtain ⟨k131, hf⟩ := pm_if hf
          obtain ⟨v132, e133, hf⟩ := pm_bd hf
          rcases v132 with z135 | w134
          · have hf := pt_sl hf
            cases hf
            cases hi
            exact pm_S3.trans (show pm_S3 z135.2 _ from kpX16_number e133) K130
          have K136 := pm_S3.trans (show pm_S3 w134.2 _ from kpX16_number e133) K130
          have hf := pt_sr hf
          obtain ⟨k137, hf⟩ := pm_if hf
          obtain ⟨v138, e139, hf⟩ := pm_bd hf
          obtain ⟨k140, hf⟩ := pm_if hf
          obtain ⟨v141, e142, hf⟩ := pm_bd hf
          obtain ⟨y143, e144, hf⟩ := pm_lt hf
          obtain ⟨k145, hf⟩ := pm_if hf
          obtain ⟨u146, hf⟩ := pm_if hf
          cases hf
          exact pt_SV.trans (ih.2.2.2.2 x0 x1 x3 x8 w134.1 0 (pm_setI w134.2 v141 x8.toNatClampNeg y143) hi) K136
    refine fun x0 x1 x3 x8 x9 x11 h hf => ?_
    obtain ⟨y, hf, hi⟩ := pm_iter_s hf
    have hf : tX16_readsDatas_177 x0 x1 x3 x8 x9 x11 h = some y := hf
    unfold tX16_readsDatas_177 at hf
    have K0 := pm_S3.rf h
    by_cases c147 : x9 ≤ x11
    · have hf := pm_it hf c147
      obtain ⟨k148, hf⟩ := pm_if hf
      obtain ⟨v149, e150, hf⟩ := pm_bd hf
      obtain ⟨k151, hf⟩ := pm_if hf
      obtain ⟨v152, e153, hf⟩ := pm_bd hf
      obtain ⟨k154, hf⟩ := pm_if hf
      obtain ⟨u155, hf⟩ := pm_if hf
      obtain ⟨y156, e157, hf⟩ := pm_lt hf
      cases hf
      exact pt_SV.trans (ih.1 x0 x1 y156 (pm_setI h v152 x8.toNatClampNeg x9.toInt32) hi) K0
    · have hf := pm_ie hf c147
      obtain ⟨k158, hf⟩ := pm_if hf
      obtain ⟨v159, e160, hf⟩ := pm_bd hf
      rcases v159 with z162 | w161
      · have hf := pt_sl hf
        cases hf
        cases hi
        exact pm_S3.trans (show pm_S3 z162.2 _ from kpX16_next e160) K0
      have K163 := pm_S3.trans (show pm_S3 w161.2 _ from kpX16_next e160) K0
      have hf := pt_sr hf
      obtain ⟨y164, e165, hf⟩ := pm_lt hf
      cases hf
      exact pt_SV.trans (ih.2.2.2.2 x0 x1 x3 x8 x9 y164 w161.2 hi) K163
set_option maxHeartbeats 4000000 in
set_option maxRecDepth 100000 in
theorem kpX16_readsDatas {h : pm_H} {a0 : Nat} {r : ((Nat × pm_H) ⊕ pm_H)} (hf : fX16_readsDatas h a0 = some r) : pt_SV r h := by
  unfold fX16_readsDatas at hf
  have K0 := pm_S3.rf h
  obtain ⟨k1, hf⟩ := pm_if hf
  obtain ⟨v2, e3, hf⟩ := pm_bd hf
  rcases v2 with z5 | w4
  · have hf := pt_kl hf
    cases hf
    exact pm_S3.trans (show pm_S3 z5.2 _ from kpX16_number e3) K0
  have K6 := pm_S3.trans (show pm_S3 w4.2 _ from kpX16_number e3) K0
  have hf := pt_kr hf
  obtain ⟨k7, hf⟩ := pm_if hf
  obtain ⟨v8, e9, hf⟩ := pm_bd hf
  obtain ⟨k10, hf⟩ := pm_if hf
  obtain ⟨v11, e12, hf⟩ := pm_bd hf
  have K13 := pm_S3.trans (kpX16_kept e12) K6
  obtain ⟨k14, hf⟩ := pm_if hf
  obtain ⟨n, hn⟩ := pm_lim_iter hf
  exact pt_SV.trans ((klX16_readsDatas n).1 a0 w4.1 0 (pm_setI v11.2 v8 44 v11.1) hn) K13
set_option maxHeartbeats 4000000 in
set_option maxRecDepth 100000 in
theorem klX16_readsElement {r : ((Nat × pm_H) ⊕ pm_H)} : ∀ n : Nat, (∀ (x0 : Nat) (x1 : Int32) (x2 : Int32) (s0 : Int32) (h : pm_H), pm_iter sX16_readsElement n (.inl (x0, x1, x2, s0, h)) = some r → pt_SV r h) ∧ (∀ (x0 : Nat) (x1 : Int32) (x2 : Int32) (x3 : Int32) (s0 : Int32) (s1 : Int32) (s2 : Nat) (h : pm_H), pm_iter sX16_readsElement n (.inr (.inl (x0, x1, x2, x3, s0, s1, s2, h))) = some r → pt_SV r h) ∧ (∀ (x0 : Nat) (x1 : Int32) (x2 : Int32) (x3 : Int32) (s0 : Int32) (s1 : Nat) (h : pm_H), pm_iter sX16_readsElement n (.inr (.inr (.inl (x0, x1, x2, x3, s0, s1, h)))) = some r → pt_SV r h) ∧ (∀ (x0 : Nat) (x1 : Int32) (x2 : Int32) (x3 : Int32) (s0 : Int64) (s1 : Int32) (s2 : Nat) (h : pm_H), pm_iter sX16_readsElement n (.inr (.inr (.inr (.inl (x0, x1, x2, x3, s0, s1, s2, h))))) = some r → pt_SV r h) ∧ (∀ (x0 : Nat) (x1 : Int32) (x2 : Int32) (h : pm_H), pm_iter sX16_readsElement n (.inr (.inr (.inr (.inr (.inl (x0, x1, x2, h)))))) = some r → pt_SV r h) ∧ (∀ (x0 : Nat) (x1 : Int32) (x2 : Int32) (s0 : Int32) (s1 : Int32) (s2 : Nat) (h : pm_H), pm_iter sX16_readsElement n (.inr (.inr (.inr (.inr (.inr (.inl (x0, x1, x2, s0, s1, s2, h))))))) = some r → pt_SV r h) ∧ (∀ (x0 : Nat) (x1 : Int32) (x2 : Int32) (x4 : Int64) (x6 : Int64) (h : pm_H), pm_iter sX16_readsElement n (.inr (.inr (.inr (.inr (.inr (.inr (x0, x1, x2, x4, x6, h))))))) = some r → pt_SV r h) := by
  intro n
  induction n with
  | zero => exact ⟨fun _ _ _ _ _ hf => (by cases hf), fun _ _ _ _ _ _ _ _ hf => (by cases hf), fun _ _ _ _ _ _ _ hf => (by cases hf), fun _ _ _ _ _ _ _ _ hf => (by cases hf), fun _ _ _ _ hf => (by cases hf), fun _ _ _ _ _ _ _ hf => (by cases hf), fun _ _ _ _ _ _ hf => (by cases hf)⟩
  | succ n ih =>
    refine ⟨fun x0 x1 x2 s0 h hf => ?_, ?_⟩
    · obtain ⟨y, hf, hi⟩ := pm_iter_s hf
      have hf : tX16_readsElement_11 x0 x1 x2 s0 h = some y := hf
      unfold tX16_readsElement_11 at hf
      have K0 := pm_S3.rf h
      obtain ⟨k2, hf⟩ := pm_if hf
      obtain ⟨v3, e4, hf⟩ := pm_bd hf
      obtain ⟨k5, hf⟩ := pm_if hf
      obtain ⟨v6, e7, hf⟩ := pm_bd hf
      by_cases c8 : s0 = 0
      · have hf := pm_it hf c8
        by_cases c9 : (x1 &&& 2) = 0
        · have hf := pm_it hf c9
          cases hf
          exact pt_SV.trans (ih.2.1 x0 x1 x2 s0 1 x2 v6 h hi) K0
        · have hf := pm_ie hf c9
          cases hf
          exact pt_SV.trans (ih.2.1 x0 x1 x2 s0 2 x2 v6 h hi) K0
      · have hf := pm_ie hf c8
        cases hf
        exact pt_SV.trans (ih.2.1 x0 x1 x2 s0 0 x2 v6 h hi) K0
    refine ⟨fun x0 x1 x2 x3 s0 s1 s2 h hf => ?_, ?_⟩
    · obtain ⟨y, hf, hi⟩ := pm_iter_s hf
      have hf : tX16_readsElement_39 x0 x1 x2 x3 s0 s1 s2 h = some y := hf
      unfold tX16_readsElement_39 at hf
      have K0 := pm_S3.rf h
      obtain ⟨k10, hf⟩ := pm_if hf
      obtain ⟨u11, hf⟩ := pm_if hf
      obtain ⟨k12, hf⟩ := pm_if hf
      obtain ⟨v13, e14, hf⟩ := pm_bd hf
      obtain ⟨k15, hf⟩ := pm_if hf
      obtain ⟨v16, e17, hf⟩ := pm_bd hf
      by_cases c18 : x3 = 0
      · have hf := pm_it hf c18
        cases hf
        exact pt_SV.trans (ih.2.2.1 x0 x1 x2 x3 x2 v16 (pm_setI h s2 s1.toNatClampNeg s0) hi) K0
      · have hf := pm_ie hf c18
        by_cases c19 : (x1 &&& 2) = 0
        · have hf := pm_it hf c19
          cases hf
          exact pt_SV.trans (ih.2.2.1 x0 x1 x2 x3 x2 v16 (pm_setI h s2 s1.toNatClampNeg s0) hi) K0
        · have hf := pm_ie hf c19
          obtain ⟨v20, e21, hf⟩ := pm_bd hf
          rcases v20 with z23 | w22
          · have hf := pt_sl hf
            cases hf
            cases hi
            exact pm_S3.trans (show pm_S3 z23.2 _ from kpX16_number e21) K0
          have K24 := pm_S3.trans (show pm_S3 w22.2 _ from kpX16_number e21) K0
          have hf := pt_sr hf
          cases hf
          exact pt_SV.trans (ih.2.2.2.1 x0 x1 x2 x3 w22.1 x2 v16 w22.2 hi) K24
    refine ⟨fun x0 x1 x2 x3 s0 s1 h hf => ?_, ?_⟩
    · obtain ⟨y, hf, hi⟩ := pm_iter_s hf
      have hf : tX16_readsElement_65 x0 x1 x2 x3 s0 s1 h = some y := hf
      unfold tX16_readsElement_65 at hf
      have K0 := pm_S3.rf h
      cases hf
      exact pt_SV.trans (ih.2.2.2.1 x0 x1 x2 x3 0 s0 s1 h hi) K0
    refine ⟨fun x0 x1 x2 x3 s0 s1 s2 h hf => ?_, ?_⟩
    · obtain ⟨y, hf, hi⟩ := pm_iter_s hf
      have hf : tX16_readsElement_66 x0 x1 x2 x3 s0 s1 s2 h = some y := hf
      unfold tX16_readsElement_66 at hf
      have K0 := pm_S3.rf h
      obtain ⟨k25, hf⟩ := pm_if hf
      obtain ⟨u26, hf⟩ := pm_if hf
      obtain ⟨k27, hf⟩ := pm_if hf
      obtain ⟨v28, e29, hf⟩ := pm_bd hf
      obtain ⟨k30, hf⟩ := pm_if hf
      obtain ⟨v31, e32, hf⟩ := pm_bd hf
      obtain ⟨y33, e34, hf⟩ := pm_lt hf
      obtain ⟨k35, hf⟩ := pm_if hf
      obtain ⟨u36, hf⟩ := pm_if hf
      by_cases c37 : x3 = 0
      · have hf := pm_it hf c37
        cases hf
        exact pt_SV.trans (ih.2.2.2.2.1 x0 x1 x2 (pm_setI (pm_setL h s2 s1.toNatClampNeg s0) v31 x2.toNatClampNeg y33) hi) K0
      · have hf := pm_ie hf c37
        obtain ⟨v38, e39, hf⟩ := pm_bd hf
        rcases v38 with z41 | w40
        · have hf := pt_sl hf
          cases hf
          cases hi
          exact pm_S3.trans (show pm_S3 z41.2 _ from kpX16_expression e39) K0
        have K42 := pm_S3.trans (show pm_S3 w40 _ from kpX16_expression e39) K0
        have hf := pt_sr hf
        cases hf
        exact pt_SV.trans (ih.2.2.2.2.1 x0 x1 x2 w40 hi) K42
    refine ⟨fun x0 x1 x2 h hf => ?_, ?_⟩
    · obtain ⟨y, hf, hi⟩ := pm_iter_s hf
      have hf : tX16_readsElement_89 x0 x1 x2 h = some y := hf
      unfold tX16_readsElement_89 at hf
      have K0 := pm_S3.rf h
      obtain ⟨k43, hf⟩ := pm_if hf
      obtain ⟨v44, e45, hf⟩ := pm_bd hf
      obtain ⟨k46, hf⟩ := pm_if hf
      obtain ⟨v47, e48, hf⟩ := pm_bd hf
      by_cases c49 : (x1 &&& 4) = 0
      · have hf := pm_it hf c49
        cases hf
        exact pt_SV.trans (ih.2.2.2.2.2.1 x0 x1 x2 0 x2 v47 h hi) K0
      · have hf := pm_ie hf c49
        cases hf
        exact pt_SV.trans (ih.2.2.2.2.2.1 x0 x1 x2 1 x2 v47 h hi) K0
    refine ⟨fun x0 x1 x2 s0 s1 s2 h hf => ?_, ?_⟩
    · obtain ⟨y, hf, hi⟩ := pm_iter_s hf
      have hf : tX16_readsElement_108 x0 x1 x2 s0 s1 s2 h = some y := hf
      unfold tX16_readsElement_108 at hf
      have K0 := pm_S3.rf h
      obtain ⟨k50, hf⟩ := pm_if hf
      obtain ⟨u51, hf⟩ := pm_if hf
      obtain ⟨k52, hf⟩ := pm_if hf
      obtain ⟨v53, e54, hf⟩ := pm_bd hf
      obtain ⟨k55, hf⟩ := pm_if hf
      obtain ⟨v56, e57, hf⟩ := pm_bd hf
      obtain ⟨k58, hf⟩ := pm_if hf
      obtain ⟨u59, hf⟩ := pm_if hf
      by_cases c60 : x1 = 0
      · have hf := pm_it hf c60
        obtain ⟨v61, e62, hf⟩ := pm_bd hf
        rcases v61 with z64 | w63
        · have hf := pt_sl hf
          cases hf
          cases hi
          exact pm_S3.trans (show pm_S3 z64.2 _ from kpX16_number e62) K0
        have K65 := pm_S3.trans (show pm_S3 w63.2 _ from kpX16_number e62) K0
        have hf := pt_sr hf
        obtain ⟨k66, hf⟩ := pm_if hf
        obtain ⟨v67, e68, hf⟩ := pm_bd hf
        obtain ⟨k69, hf⟩ := pm_if hf
        obtain ⟨v70, e71, hf⟩ := pm_bd hf
        obtain ⟨y72, e73, hf⟩ := pm_lt hf
        obtain ⟨k74, hf⟩ := pm_if hf
        obtain ⟨u75, hf⟩ := pm_if hf
        cases hf
        exact pt_SV.trans (ih.2.2.2.2.2.2 x0 x1 x2 w63.1 0 (pm_setI w63.2 v70 x2.toNatClampNeg y72) hi) K65
      · have hf := pm_ie hf c60
        by_cases c76 : x1 = 4
        · have hf := pm_it hf c76
          obtain ⟨v77, e78, hf⟩ := pm_bd hf
          rcases v77 with z80 | w79
          · have hf := pt_sl hf
            cases hf
            cases hi
            exact pm_S3.trans (show pm_S3 z80.2 _ from kpX16_number e78) K0
          have K81 := pm_S3.trans (show pm_S3 w79.2 _ from kpX16_number e78) K0
          have hf := pt_sr hf
          obtain ⟨k82, hf⟩ := pm_if hf
          obtain ⟨v83, e84, hf⟩ := pm_bd hf
          obtain ⟨k85, hf⟩ := pm_if hf
          obtain ⟨v86, e87, hf⟩ := pm_bd hf
          obtain ⟨y88, e89, hf⟩ := pm_lt hf
          obtain ⟨k90, hf⟩ := pm_if hf
          obtain ⟨u91, hf⟩ := pm_if hf
          cases hf
          exact pt_SV.trans (ih.2.2.2.2.2.2 x0 x1 x2 w79.1 0 (pm_setI w79.2 v86 x2.toNatClampNeg y88) hi) K81
        · have hf := pm_ie hf c76
          by_cases c92 : (x1 &&& 4) = 0
          · have hf := pm_it hf c92
            obtain ⟨v93, e94, hf⟩ := pm_bd hf
            rcases v93 with z96 | w95
            · have hf := pt_sl hf
              cases hf
              cases hi
              exact pm_S3.trans (show pm_S3 z96.2 _ from kpX16_small e94) K0
            have K97 := pm_S3.trans (show pm_S3 w95.2 _ from kpX16_small e94) K0
            have hf := pt_sr hf
            obtain ⟨k98, hf⟩ := pm_if hf
            obtain ⟨v99, e100, hf⟩ := pm_bd hf
            rcases v99 with z102 | w101
            · have hf := pt_sl hf
              cases hf
              cases hi
              exact pm_S3.trans (show pm_S3 z102.2 _ from kpX16_number e100) K97
            have K103 := pm_S3.trans (show pm_S3 w101.2 _ from kpX16_number e100) K97
            have hf := pt_sr hf
            obtain ⟨k104, hf⟩ := pm_if hf
            obtain ⟨v105, e106, hf⟩ := pm_bd hf
            obtain ⟨k107, hf⟩ := pm_if hf
            obtain ⟨v108, e109, hf⟩ := pm_bd hf
            obtain ⟨y110, e111, hf⟩ := pm_lt hf
            obtain ⟨k112, hf⟩ := pm_if hf
            obtain ⟨u113, hf⟩ := pm_if hf
            cases hf
            exact pt_SV.trans (ih.2.2.2.2.2.2 x0 x1 x2 w101.1 0 (pm_setI w101.2 v108 x2.toNatClampNeg y110) hi) K103
          · have hf := pm_ie hf c92
            obtain ⟨v114, e115, hf⟩ := pm_bd hf
            rcases v114 with z117 | w116
            · have hf := pt_sl hf
              cases hf
              cases hi
              exact pm_S3.trans (show pm_S3 z117.2 _ from kpX16_referenceType e115) K0
            have K118 := pm_S3.trans (show pm_S3 w116.2 _ from kpX16_referenceType e115) K0
            have hf := pt_sr hf
            obtain ⟨k119, hf⟩ := pm_if hf
            obtain ⟨u120, hf⟩ := pm_if hf
            obtain ⟨k121, hf⟩ := pm_if hf
            obtain ⟨v122, e123, hf⟩ := pm_bd hf
            rcases v122 with z125 | w124
            · have hf := pt_sl hf
              cases hf
              cases hi
              exact pm_S3.trans (show pm_S3 z125.2 _ from kpX16_number e123) K118
            have K126 := pm_S3.trans (show pm_S3 w124.2 _ from kpX16_number e123) K118
            have hf := pt_sr hf
            obtain ⟨k127, hf⟩ := pm_if hf
            obtain ⟨v128, e129, hf⟩ := pm_bd hf
            obtain ⟨k130, hf⟩ := pm_if hf
            obtain ⟨v131, e132, hf⟩ := pm_bd hf
            obtain ⟨y133, e134, hf⟩ := pm_lt hf
            obtain ⟨k135, hf⟩ := pm_if hf
            obtain ⟨u136, hf⟩ := pm_if hf
            cases hf
            exact pt_SV.trans (ih.2.2.2.2.2.2 x0 x1 x2 w124.1 0 (pm_setI w124.2 v131 x2.toNatClampNeg y133) hi) K126
    refine fun x0 x1 x2 x4 x6 h hf => ?_
    obtain ⟨y, hf, hi⟩ := pm_iter_s hf
    have hf : tX16_readsElement_180 x0 x1 x2 x4 x6 h = some y := hf
    unfold tX16_readsElement_180 at hf
    have K0 := pm_S3.rf h
    by_cases c137 : x4 ≤ x6
    · have hf := pm_it hf c137
      obtain ⟨k138, hf⟩ := pm_if hf
      obtain ⟨v139, e140, hf⟩ := pm_bd hf
      obtain ⟨k141, hf⟩ := pm_if hf
      obtain ⟨v142, e143, hf⟩ := pm_bd hf
      obtain ⟨k144, hf⟩ := pm_if hf
      obtain ⟨u145, hf⟩ := pm_if hf
      cases hf
      cases hi
      exact K0
    · have hf := pm_ie hf c137
      by_cases c146 : (x1 &&& 4) = 0
      · have hf := pm_it hf c146
        obtain ⟨k147, hf⟩ := pm_if hf
        obtain ⟨v148, e149, hf⟩ := pm_bd hf
        rcases v148 with z151 | w150
        · have hf := pt_sl hf
          cases hf
          cases hi
          exact pm_S3.trans (show pm_S3 z151.2 _ from kpX16_number e149) K0
        have K152 := pm_S3.trans (show pm_S3 w150.2 _ from kpX16_number e149) K0
        have hf := pt_sr hf
        obtain ⟨y153, e154, hf⟩ := pm_lt hf
        cases hf
        exact pt_SV.trans (ih.2.2.2.2.2.2 x0 x1 x2 x4 y153 w150.2 hi) K152
      · have hf := pm_ie hf c146
        obtain ⟨k155, hf⟩ := pm_if hf
        obtain ⟨v156, e157, hf⟩ := pm_bd hf
        rcases v156 with z159 | w158
        · have hf := pt_sl hf
          cases hf
          cases hi
          exact pm_S3.trans (show pm_S3 z159.2 _ from kpX16_expression e157) K0
        have K160 := pm_S3.trans (show pm_S3 w158 _ from kpX16_expression e157) K0
        have hf := pt_sr hf
        obtain ⟨y161, e162, hf⟩ := pm_lt hf
        cases hf
        exact pt_SV.trans (ih.2.2.2.2.2.2 x0 x1 x2 x4 y161 w158 hi) K160
set_option maxHeartbeats 4000000 in
set_option maxRecDepth 100000 in
theorem kpX16_readsElement {h : pm_H} {a0 : Nat} {p1 : Int32} {p2 : Int32} {r : ((Nat × pm_H) ⊕ pm_H)} (hf : fX16_readsElement h a0 p1 p2 = some r) : pt_SV r h := by
  unfold fX16_readsElement at hf
  have K0 := pm_S3.rf h
  by_cases c1 : (p1 &&& 1) = 0
  · have hf := pm_it hf c1
    obtain ⟨n, hn⟩ := pm_lim_iter hf
    exact pt_SV.trans ((klX16_readsElement n).1 a0 p1 p2 1 h hn) K0
  · have hf := pm_ie hf c1
    obtain ⟨n, hn⟩ := pm_lim_iter hf
    exact pt_SV.trans ((klX16_readsElement n).1 a0 p1 p2 0 h hn) K0
set_option maxHeartbeats 4000000 in
set_option maxRecDepth 100000 in
theorem klX16_readsElements {r : ((Nat × pm_H) ⊕ pm_H)} : ∀ n : Nat, (∀ (x0 : Nat) (x1 : Int64) (x3 : Int64) (h : pm_H), pm_iter sX16_readsElements n (.inl (x0, x1, x3, h)) = some r → pt_SV r h) ∧ (∀ (x0 : Nat) (x1 : Int64) (x3 : Int64) (x6 : Int64) (h : pm_H), pm_iter sX16_readsElements n (.inr (x0, x1, x3, x6, h)) = some r → pt_SV r h) := by
  intro n
  induction n with
  | zero => exact ⟨fun _ _ _ _ hf => (by cases hf), fun _ _ _ _ _ hf => (by cases hf)⟩
  | succ n ih =>
    refine ⟨fun x0 x1 x3 h hf => ?_, ?_⟩
    · obtain ⟨y, hf, hi⟩ := pm_iter_s hf
      have hf : tX16_readsElements_19 x0 x1 x3 h = some y := hf
      unfold tX16_readsElements_19 at hf
      have K0 := pm_S3.rf h
      by_cases c14 : x1 ≤ x3
      · have hf := pm_it hf c14
        cases hf
        cases hi
        exact K0
      · have hf := pm_ie hf c14
        obtain ⟨k15, hf⟩ := pm_if hf
        obtain ⟨y16, e17, hf⟩ := pm_lt hf
        obtain ⟨v18, e19, hf⟩ := pm_bd hf
        rcases v18 with z21 | w20
        · have hf := pt_sl hf
          cases hf
          cases hi
          exact pm_S3.trans (show pm_S3 z21.2 _ from kpX16_number e19) K0
        have K22 := pm_S3.trans (show pm_S3 w20.2 _ from kpX16_number e19) K0
        have hf := pt_sr hf
        by_cases c23 : w20.1 ≤ 7
        · have hf := pm_it hf c23
          cases hf
          exact pt_SV.trans (ih.2 x0 x1 x3 w20.1 w20.2 hi) K22
        · have hf := pm_ie hf c23
          obtain ⟨k24, hf⟩ := pm_if hf
          obtain ⟨v25, e26, hf⟩ := pm_bd hf
          rcases v25 with z28 | w27
          · have hf := pt_sl hf
            cases hf
            cases hi
            exact pm_S3.trans (show pm_S3 z28.2 _ from kpX16_stops e26) K22
          have K29 := pm_S3.trans (show pm_S3 w27 _ from kpX16_stops e26) K22
          have hf := pt_sr hf
          cases hf
          exact pt_SV.trans (ih.2 x0 x1 x3 w20.1 w27 hi) K29
    refine fun x0 x1 x3 x6 h hf => ?_
    obtain ⟨y, hf, hi⟩ := pm_iter_s hf
    have hf : tX16_readsElements_54 x0 x1 x3 x6 h = some y := hf
    unfold tX16_readsElements_54 at hf
    have K0 := pm_S3.rf h
    by_cases c30 : 64 ≤ x3
    · have hf := pm_it hf c30
      obtain ⟨k31, hf⟩ := pm_if hf
      obtain ⟨v32, e33, hf⟩ := pm_bd hf
      rcases v32 with z35 | w34
      · have hf := pt_sl hf
        cases hf
        cases hi
        exact pm_S3.trans (show pm_S3 z35.2 _ from kpX16_readsElement e33) K0
      have K36 := pm_S3.trans (show pm_S3 w34 _ from kpX16_readsElement e33) K0
      have hf := pt_sr hf
      obtain ⟨y37, e38, hf⟩ := pm_lt hf
      cases hf
      exact pt_SV.trans (ih.1 x0 x1 y37 w34 hi) K36
    · have hf := pm_ie hf c30
      obtain ⟨k39, hf⟩ := pm_if hf
      obtain ⟨v40, e41, hf⟩ := pm_bd hf
      rcases v40 with z43 | w42
      · have hf := pt_sl hf
        cases hf
        cases hi
        exact pm_S3.trans (show pm_S3 z43.2 _ from kpX16_readsElement e41) K0
      have K44 := pm_S3.trans (show pm_S3 w42 _ from kpX16_readsElement e41) K0
      have hf := pt_sr hf
      obtain ⟨y45, e46, hf⟩ := pm_lt hf
      cases hf
      exact pt_SV.trans (ih.1 x0 x1 y45 w42 hi) K44
set_option maxHeartbeats 4000000 in
set_option maxRecDepth 100000 in
theorem kpX16_readsElements {h : pm_H} {a0 : Nat} {r : ((Nat × pm_H) ⊕ pm_H)} (hf : fX16_readsElements h a0 = some r) : pt_SV r h := by
  unfold fX16_readsElements at hf
  have K0 := pm_S3.rf h
  obtain ⟨k1, hf⟩ := pm_if hf
  obtain ⟨v2, e3, hf⟩ := pm_bd hf
  rcases v2 with z5 | w4
  · have hf := pt_kl hf
    cases hf
    exact pm_S3.trans (show pm_S3 z5.2 _ from kpX16_number e3) K0
  have K6 := pm_S3.trans (show pm_S3 w4.2 _ from kpX16_number e3) K0
  have hf := pt_kr hf
  obtain ⟨k7, hf⟩ := pm_if hf
  obtain ⟨v8, e9, hf⟩ := pm_bd hf
  obtain ⟨v10, e11, hf⟩ := pm_bd hf
  have K12 := pm_S3.trans (kpX16_kept e11) K6
  obtain ⟨k13, hf⟩ := pm_if hf
  obtain ⟨n, hn⟩ := pm_lim_iter hf
  exact pt_SV.trans ((klX16_readsElements n).1 a0 w4.1 0 (pm_setI v10.2 v8 34 v10.1) hn) K12
set_option maxHeartbeats 4000000 in
set_option maxRecDepth 100000 in
theorem klX16_readsGlobals {r : ((Nat × pm_H) ⊕ pm_H)} : ∀ n : Nat, (∀ (x0 : Nat) (x1 : Int64) (x3 : Int64) (h : pm_H), pm_iter sX16_readsGlobals n (.inl (x0, x1, x3, h)) = some r → pt_SV r h) ∧ (∀ (x0 : Nat) (x1 : Int64) (x3 : Int64) (x5 : Int32) (s0 : Int32) (h : pm_H), pm_iter sX16_readsGlobals n (.inr (x0, x1, x3, x5, s0, h)) = some r → pt_SV r h) := by
  intro n
  induction n with
  | zero => exact ⟨fun _ _ _ _ hf => (by cases hf), fun _ _ _ _ _ _ hf => (by cases hf)⟩
  | succ n ih =>
    refine ⟨fun x0 x1 x3 h hf => ?_, ?_⟩
    · obtain ⟨y, hf, hi⟩ := pm_iter_s hf
      have hf : tX16_readsGlobals_19 x0 x1 x3 h = some y := hf
      unfold tX16_readsGlobals_19 at hf
      have K0 := pm_S3.rf h
      by_cases c14 : x1 ≤ x3
      · have hf := pm_it hf c14
        cases hf
        cases hi
        exact K0
      · have hf := pm_ie hf c14
        obtain ⟨k15, hf⟩ := pm_if hf
        obtain ⟨v16, e17, hf⟩ := pm_bd hf
        rcases v16 with z19 | w18
        · have hf := pt_sl hf
          cases hf
          cases hi
          exact pm_S3.trans (show pm_S3 z19.2 _ from kpX16_type e17) K0
        have K20 := pm_S3.trans (show pm_S3 w18.2 _ from kpX16_type e17) K0
        have hf := pt_sr hf
        obtain ⟨k21, hf⟩ := pm_if hf
        obtain ⟨v22, e23, hf⟩ := pm_bd hf
        rcases v22 with z25 | w24
        · have hf := pt_sl hf
          cases hf
          cases hi
          exact pm_S3.trans (show pm_S3 z25.2 _ from kpX16_small e23) K20
        have K26 := pm_S3.trans (show pm_S3 w24.2 _ from kpX16_small e23) K20
        have hf := pt_sr hf
        by_cases c27 : w24.1 = 1
        · have hf := pm_it hf c27
          cases hf
          exact pt_SV.trans (ih.2 x0 x1 x3 w18.1 1 w24.2 hi) K26
        · have hf := pm_ie hf c27
          cases hf
          exact pt_SV.trans (ih.2 x0 x1 x3 w18.1 0 w24.2 hi) K26
    refine fun x0 x1 x3 x5 s0 h hf => ?_
    obtain ⟨y, hf, hi⟩ := pm_iter_s hf
    have hf : tX16_readsGlobals_45 x0 x1 x3 x5 s0 h = some y := hf
    unfold tX16_readsGlobals_45 at hf
    have K0 := pm_S3.rf h
    obtain ⟨k28, hf⟩ := pm_if hf
    obtain ⟨y29, e30, hf⟩ := pm_lt hf
    obtain ⟨v31, e32, hf⟩ := pm_bd hf
    rcases v31 with z34 | w33
    · have hf := pt_sl hf
      cases hf
      cases hi
      exact pm_S3.trans (show pm_S3 z34.2 _ from kpX16_expression e32) K0
    have K35 := pm_S3.trans (show pm_S3 w33 _ from kpX16_expression e32) K0
    have hf := pt_sr hf
    by_cases c36 : 64 ≤ x3
    · have hf := pm_it hf c36
      obtain ⟨y37, e38, hf⟩ := pm_lt hf
      cases hf
      exact pt_SV.trans (ih.1 x0 x1 y37 w33 hi) K35
    · have hf := pm_ie hf c36
      obtain ⟨k39, hf⟩ := pm_if hf
      obtain ⟨v40, e41, hf⟩ := pm_bd hf
      obtain ⟨k42, hf⟩ := pm_if hf
      obtain ⟨v43, e44, hf⟩ := pm_bd hf
      obtain ⟨k45, hf⟩ := pm_if hf
      obtain ⟨u46, hf⟩ := pm_if hf
      obtain ⟨v47, e48, hf⟩ := pm_bd hf
      obtain ⟨k49, hf⟩ := pm_if hf
      obtain ⟨u50, hf⟩ := pm_if hf
      obtain ⟨v51, e52, hf⟩ := pm_bd hf
      obtain ⟨k53, hf⟩ := pm_if hf
      obtain ⟨u54, hf⟩ := pm_if hf
      obtain ⟨y55, e56, hf⟩ := pm_lt hf
      cases hf
      exact pt_SV.trans (ih.1 x0 x1 y55 (pm_setI (pm_setI (pm_setI w33 v43 x3.toInt32.toNatClampNeg x5) v47 x3.toInt32.toNatClampNeg (vp_nar .boolean s0)) v51 x3.toInt32.toNatClampNeg y29) hi) K35
set_option maxHeartbeats 4000000 in
set_option maxRecDepth 100000 in
theorem kpX16_readsGlobals {h : pm_H} {a0 : Nat} {r : ((Nat × pm_H) ⊕ pm_H)} (hf : fX16_readsGlobals h a0 = some r) : pt_SV r h := by
  unfold fX16_readsGlobals at hf
  have K0 := pm_S3.rf h
  obtain ⟨k1, hf⟩ := pm_if hf
  obtain ⟨v2, e3, hf⟩ := pm_bd hf
  rcases v2 with z5 | w4
  · have hf := pt_kl hf
    cases hf
    exact pm_S3.trans (show pm_S3 z5.2 _ from kpX16_number e3) K0
  have K6 := pm_S3.trans (show pm_S3 w4.2 _ from kpX16_number e3) K0
  have hf := pt_kr hf
  obtain ⟨k7, hf⟩ := pm_if hf
  obtain ⟨v8, e9, hf⟩ := pm_bd hf
  obtain ⟨v10, e11, hf⟩ := pm_bd hf
  have K12 := pm_S3.trans (kpX16_kept e11) K6
  obtain ⟨k13, hf⟩ := pm_if hf
  obtain ⟨n, hn⟩ := pm_lim_iter hf
  exact pt_SV.trans ((klX16_readsGlobals n).1 a0 w4.1 0 (pm_setI v10.2 v8 24 v10.1) hn) K12
set_option maxHeartbeats 4000000 in
set_option maxRecDepth 100000 in
theorem klX16_checksBody {r : ((Nat × pm_H) ⊕ pm_H)} : ∀ n : Nat, (∀ (x0 : Nat) (x1 : Int32) (x2 : Int32) (x3 : Int32) (h : pm_H), pm_iter sX16_checksBody n (x0, x1, x2, x3, h) = some r → pt_SV r h) := by
  intro n
  induction n with
  | zero => exact fun _ _ _ _ _ hf => (by cases hf)
  | succ n ih =>
    refine fun x0 x1 x2 x3 h hf => ?_
    obtain ⟨y, hf, hi⟩ := pm_iter_s hf
    have hf : tX16_checksBody_58 x0 x1 x2 x3 h = some y := hf
    unfold tX16_checksBody_58 at hf
    have K0 := pm_S3.rf h
    obtain ⟨k24, hf⟩ := pm_if hf
    by_cases c25 : (pm_I h x0 24) ≤ 0
    · have hf := pm_it hf c25
      obtain ⟨v26, e27, hf⟩ := pm_bd hf
      obtain ⟨k28, hf⟩ := pm_if hf
      obtain ⟨v29, e30, hf⟩ := pm_bd hf
      obtain ⟨k31, hf⟩ := pm_if hf
      obtain ⟨u32, hf⟩ := pm_if hf
      cases hf
      cases hi
      exact K0
    · have hf := pm_ie hf c25
      obtain ⟨v33, e34, hf⟩ := pm_bd hf
      obtain ⟨k35, hf⟩ := pm_if hf
      obtain ⟨v36, e37, hf⟩ := pm_bd hf
      obtain ⟨v38, e39, hf⟩ := pm_bd hf
      have K40 := pm_S3.trans (kpX16_isNamed e39) K0
      by_cases c41 : v38.1 = 0
      · have hf := pm_it hf c41
        obtain ⟨k42, hf⟩ := pm_if hf
        obtain ⟨v43, e44, hf⟩ := pm_bd hf
        rcases v43 with z46 | w45
        · have hf := pt_sl hf
          cases hf
          cases hi
          exact pm_S3.trans (show pm_S3 z46.2 _ from kpX16_stops e44) K40
        have K47 := pm_S3.trans (show pm_S3 w45 _ from kpX16_stops e44) K40
        have hf := pt_sr hf
        obtain ⟨y48, e49, hf⟩ := pm_lt hf
        obtain ⟨k50, hf⟩ := pm_if hf
        obtain ⟨v51, e52, hf⟩ := pm_bd hf
        rcases v51 with z54 | w53
        · have hf := pt_sl hf
          cases hf
          cases hi
          exact pm_S3.trans (show pm_S3 z54.2 _ from kpX16_goesTogether e52) K47
        have K55 := pm_S3.trans (show pm_S3 w53 _ from kpX16_goesTogether e52) K47
        have hf := pt_sr hf
        obtain ⟨k56, hf⟩ := pm_if hf
        obtain ⟨v57, e58, hf⟩ := pm_bd hf
        have K59 := pm_S3.trans (kpX16_behind e58) K55
        obtain ⟨k60, hf⟩ := pm_if hf
        by_cases c61 : (pm_I v57.2 x0 24) ≤ 0
        · have hf := pm_it hf c61
          cases hf
          exact pt_SV.trans (ih x0 x1 x2 v57.1 v57.2 hi) K59
        · have hf := pm_ie hf c61
          by_cases c62 : (pm_I v57.2 x0 23) ≤ x2
          · have hf := pm_it hf c62
            cases hf
            exact pt_SV.trans (ih x0 x1 x2 v57.1 v57.2 hi) K59
          · have hf := pm_ie hf c62
            obtain ⟨y63, e64, hf⟩ := pm_lt hf
            cases hf
            exact pt_SV.trans (ih x0 x1 y63 v57.1 v57.2 hi) K59
      · have hf := pm_ie hf c41
        obtain ⟨y65, e66, hf⟩ := pm_lt hf
        obtain ⟨k67, hf⟩ := pm_if hf
        obtain ⟨v68, e69, hf⟩ := pm_bd hf
        rcases v68 with z71 | w70
        · have hf := pt_sl hf
          cases hf
          cases hi
          exact pm_S3.trans (show pm_S3 z71.2 _ from kpX16_goesTogether e69) K40
        have K72 := pm_S3.trans (show pm_S3 w70 _ from kpX16_goesTogether e69) K40
        have hf := pt_sr hf
        obtain ⟨k73, hf⟩ := pm_if hf
        obtain ⟨v74, e75, hf⟩ := pm_bd hf
        have K76 := pm_S3.trans (kpX16_behind e75) K72
        obtain ⟨k77, hf⟩ := pm_if hf
        by_cases c78 : (pm_I v74.2 x0 24) ≤ 0
        · have hf := pm_it hf c78
          cases hf
          exact pt_SV.trans (ih x0 x1 x2 v74.1 v74.2 hi) K76
        · have hf := pm_ie hf c78
          by_cases c79 : (pm_I v74.2 x0 23) ≤ x2
          · have hf := pm_it hf c79
            cases hf
            exact pt_SV.trans (ih x0 x1 x2 v74.1 v74.2 hi) K76
          · have hf := pm_ie hf c79
            obtain ⟨y80, e81, hf⟩ := pm_lt hf
            cases hf
            exact pt_SV.trans (ih x0 x1 y80 v74.1 v74.2 hi) K76
set_option maxHeartbeats 4000000 in
set_option maxRecDepth 100000 in
theorem kpX16_checksBody {h : pm_H} {a0 : Nat} {p1 : Int32} {r : ((Nat × pm_H) ⊕ pm_H)} (hf : fX16_checksBody h a0 p1 = some r) : pt_SV r h := by
  unfold fX16_checksBody at hf
  have K0 := pm_S3.rf h
  obtain ⟨k1, hf⟩ := pm_if hf
  obtain ⟨v2, e3, hf⟩ := pm_bd hf
  obtain ⟨k4, hf⟩ := pm_if hf
  obtain ⟨v5, e6, hf⟩ := pm_bd hf
  obtain ⟨v7, e8, hf⟩ := pm_bd hf
  obtain ⟨v9, e10, hf⟩ := pm_bd hf
  rcases v9 with z12 | w11
  · have hf := pt_kl hf
    cases hf
    exact pm_S3.trans (show pm_S3 z12.2 _ from kpX16_begins e10) K0
  have K13 := pm_S3.trans (show pm_S3 w11 _ from kpX16_begins e10) K0
  have hf := pt_kr hf
  obtain ⟨k14, hf⟩ := pm_if hf
  obtain ⟨v15, e16, hf⟩ := pm_bd hf
  obtain ⟨k17, hf⟩ := pm_if hf
  obtain ⟨v18, e19, hf⟩ := pm_bd hf
  obtain ⟨k20, hf⟩ := pm_if hf
  obtain ⟨u21, hf⟩ := pm_if hf
  obtain ⟨y22, e23, hf⟩ := pm_lt hf
  obtain ⟨n, hn⟩ := pm_lim_iter hf
  exact pt_SV.trans ((klX16_checksBody n) a0 p1 0 y22 w11 hn) K13
set_option maxHeartbeats 4000000 in
set_option maxRecDepth 100000 in
theorem klX16_readsBodies {r : ((Nat × pm_H) ⊕ pm_H)} : ∀ n : Nat, (∀ (x0 : Nat) (x1 : Int64) (x3 : Int64) (h : pm_H), pm_iter sX16_readsBodies n (.inl (x0, x1, x3, h)) = some r → pt_SV r h) ∧ (∀ (x0 : Nat) (x1 : Int64) (x3 : Int64) (x6 : Int64) (h : pm_H), pm_iter sX16_readsBodies n (.inr (x0, x1, x3, x6, h)) = some r → pt_SV r h) := by
  intro n
  induction n with
  | zero => exact ⟨fun _ _ _ _ hf => (by cases hf), fun _ _ _ _ _ hf => (by cases hf)⟩
  | succ n ih =>
    refine ⟨fun x0 x1 x3 h hf => ?_, ?_⟩
    · obtain ⟨y, hf, hi⟩ := pm_iter_s hf
      have hf : tX16_readsBodies_15 x0 x1 x3 h = some y := hf
      unfold tX16_readsBodies_15 at hf
      have K0 := pm_S3.rf h
      by_cases c11 : x1 ≤ x3
      · have hf := pm_it hf c11
        cases hf
        cases hi
        exact K0
      · have hf := pm_ie hf c11
        obtain ⟨k12, hf⟩ := pm_if hf
        obtain ⟨y13, e14, hf⟩ := pm_lt hf
        obtain ⟨v15, e16, hf⟩ := pm_bd hf
        rcases v15 with z18 | w17
        · have hf := pt_sl hf
          cases hf
          cases hi
          exact pm_S3.trans (show pm_S3 z18.2 _ from kpX16_number e16) K0
        have K19 := pm_S3.trans (show pm_S3 w17.2 _ from kpX16_number e16) K0
        have hf := pt_sr hf
        obtain ⟨k20, hf⟩ := pm_if hf
        by_cases c21 : w17.1 ≤ (((pm_I w17.2 x0 12) - (pm_I w17.2 x0 11)).toInt64)
        · have hf := pm_it hf c21
          cases hf
          exact pt_SV.trans (ih.2 x0 x1 x3 w17.1 w17.2 hi) K19
        · have hf := pm_ie hf c21
          obtain ⟨v22, e23, hf⟩ := pm_bd hf
          rcases v22 with z25 | w24
          · have hf := pt_sl hf
            cases hf
            cases hi
            exact pm_S3.trans (show pm_S3 z25.2 _ from kpX16_stops e23) K19
          have K26 := pm_S3.trans (show pm_S3 w24 _ from kpX16_stops e23) K19
          have hf := pt_sr hf
          cases hf
          exact pt_SV.trans (ih.2 x0 x1 x3 w17.1 w24 hi) K26
    refine fun x0 x1 x3 x6 h hf => ?_
    obtain ⟨y, hf, hi⟩ := pm_iter_s hf
    have hf : tX16_readsBodies_56 x0 x1 x3 x6 h = some y := hf
    unfold tX16_readsBodies_56 at hf
    have K0 := pm_S3.rf h
    obtain ⟨k27, hf⟩ := pm_if hf
    obtain ⟨y28, e29, hf⟩ := pm_lt hf
    obtain ⟨y30, e31, hf⟩ := pm_lt hf
    by_cases c32 : 64 ≤ x3
    · have hf := pm_it hf c32
      obtain ⟨v33, e34, hf⟩ := pm_bd hf
      rcases v33 with z36 | w35
      · have hf := pt_sl hf
        cases hf
        cases hi
        exact pm_S3.trans (show pm_S3 z36.2 _ from kpX16_readsBody e34) K0
      have K37 := pm_S3.trans (show pm_S3 w35 _ from kpX16_readsBody e34) K0
      have hf := pt_sr hf
      obtain ⟨k38, hf⟩ := pm_if hf
      by_cases c39 : (pm_I w35 x0 12) ≤ (pm_I w35 x0 11)
      · have hf := pm_it hf c39
        obtain ⟨y40, e41, hf⟩ := pm_lt hf
        cases hf
        exact pt_SV.trans (ih.1 x0 x1 y40 (pm_setI w35 x0 12 y28) hi) K37
      · have hf := pm_ie hf c39
        obtain ⟨v42, e43, hf⟩ := pm_bd hf
        rcases v42 with z45 | w44
        · have hf := pt_sl hf
          cases hf
          cases hi
          exact pm_S3.trans (show pm_S3 z45.2 _ from kpX16_stops e43) K37
        have K46 := pm_S3.trans (show pm_S3 w44 _ from kpX16_stops e43) K37
        have hf := pt_sr hf
        obtain ⟨k47, hf⟩ := pm_if hf
        obtain ⟨y48, e49, hf⟩ := pm_lt hf
        cases hf
        exact pt_SV.trans (ih.1 x0 x1 y48 (pm_setI w44 x0 12 y28) hi) K46
    · have hf := pm_ie hf c32
      obtain ⟨v50, e51, hf⟩ := pm_bd hf
      rcases v50 with z53 | w52
      · have hf := pt_sl hf
        cases hf
        cases hi
        exact pm_S3.trans (show pm_S3 z53.2 _ from kpX16_readsBody e51) K0
      have K54 := pm_S3.trans (show pm_S3 w52 _ from kpX16_readsBody e51) K0
      have hf := pt_sr hf
      obtain ⟨k55, hf⟩ := pm_if hf
      by_cases c56 : (pm_I w52 x0 12) ≤ (pm_I w52 x0 11)
      · have hf := pm_it hf c56
        obtain ⟨y57, e58, hf⟩ := pm_lt hf
        cases hf
        exact pt_SV.trans (ih.1 x0 x1 y57 (pm_setI w52 x0 12 y28) hi) K54
      · have hf := pm_ie hf c56
        obtain ⟨v59, e60, hf⟩ := pm_bd hf
        rcases v59 with z62 | w61
        · have hf := pt_sl hf
          cases hf
          cases hi
          exact pm_S3.trans (show pm_S3 z62.2 _ from kpX16_stops e60) K54
        have K63 := pm_S3.trans (show pm_S3 w61 _ from kpX16_stops e60) K54
        have hf := pt_sr hf
        obtain ⟨k64, hf⟩ := pm_if hf
        obtain ⟨y65, e66, hf⟩ := pm_lt hf
        cases hf
        exact pt_SV.trans (ih.1 x0 x1 y65 (pm_setI w61 x0 12 y28) hi) K63
set_option maxHeartbeats 4000000 in
set_option maxRecDepth 100000 in
theorem kpX16_readsBodies {h : pm_H} {a0 : Nat} {r : ((Nat × pm_H) ⊕ pm_H)} (hf : fX16_readsBodies h a0 = some r) : pt_SV r h := by
  unfold fX16_readsBodies at hf
  have K0 := pm_S3.rf h
  obtain ⟨k1, hf⟩ := pm_if hf
  obtain ⟨v2, e3, hf⟩ := pm_bd hf
  rcases v2 with z5 | w4
  · have hf := pt_kl hf
    cases hf
    exact pm_S3.trans (show pm_S3 z5.2 _ from kpX16_number e3) K0
  have K6 := pm_S3.trans (show pm_S3 w4.2 _ from kpX16_number e3) K0
  have hf := pt_kr hf
  obtain ⟨k7, hf⟩ := pm_if hf
  obtain ⟨v8, e9, hf⟩ := pm_bd hf
  obtain ⟨k10, hf⟩ := pm_if hf
  obtain ⟨n, hn⟩ := pm_lim_iter hf
  exact pt_SV.trans ((klX16_readsBodies n).1 a0 w4.1 0 (pm_setL w4.2 v8 50 w4.1) hn) K6
set_option maxHeartbeats 4000000 in
set_option maxRecDepth 100000 in
theorem kpX16_readsSection {h : pm_H} {a0 : Nat} {p1 : Int32} {r : ((Nat × pm_H) ⊕ pm_H)} (hf : fX16_readsSection h a0 p1 = some r) : pt_SV r h := by
  unfold fX16_readsSection at hf
  have K0 := pm_S3.rf h
  by_cases c1 : p1 = 0
  · have hf := pm_it hf c1
    obtain ⟨k2, hf⟩ := pm_if hf
    obtain ⟨v3, e4, hf⟩ := pm_bd hf
    rcases v3 with z6 | w5
    · have hf := pt_kl hf
      cases hf
      exact pm_S3.trans (show pm_S3 z6.2 _ from kpX16_name e4) K0
    have K7 := pm_S3.trans (show pm_S3 w5 _ from kpX16_name e4) K0
    have hf := pt_kr hf
    obtain ⟨k8, hf⟩ := pm_if hf
    obtain ⟨y9, e10, hf⟩ := pm_lt hf
    cases hf
    exact K7
  have hf := pm_ie hf c1
  by_cases c11 : p1 = 1
  · have hf := pm_it hf c11
    obtain ⟨k12, hf⟩ := pm_if hf
    obtain ⟨v13, e14, hf⟩ := pm_bd hf
    rcases v13 with z16 | w15
    · have hf := pt_kl hf
      cases hf
      exact pm_S3.trans (show pm_S3 z16.2 _ from kpX16_readsTypes e14) K0
    have K17 := pm_S3.trans (show pm_S3 w15 _ from kpX16_readsTypes e14) K0
    have hf := pt_kr hf
    cases hf
    exact K17
  have hf := pm_ie hf c11
  by_cases c18 : p1 = 2
  · have hf := pm_it hf c18
    obtain ⟨k19, hf⟩ := pm_if hf
    obtain ⟨v20, e21, hf⟩ := pm_bd hf
    rcases v20 with z23 | w22
    · have hf := pt_kl hf
      cases hf
      exact pm_S3.trans (show pm_S3 z23.2 _ from kpX16_readsImports e21) K0
    have K24 := pm_S3.trans (show pm_S3 w22 _ from kpX16_readsImports e21) K0
    have hf := pt_kr hf
    cases hf
    exact K24
  have hf := pm_ie hf c18
  by_cases c25 : p1 = 3
  · have hf := pm_it hf c25
    obtain ⟨k26, hf⟩ := pm_if hf
    obtain ⟨v27, e28, hf⟩ := pm_bd hf
    rcases v27 with z30 | w29
    · have hf := pt_kl hf
      cases hf
      exact pm_S3.trans (show pm_S3 z30.2 _ from kpX16_readsFunctions e28) K0
    have K31 := pm_S3.trans (show pm_S3 w29 _ from kpX16_readsFunctions e28) K0
    have hf := pt_kr hf
    cases hf
    exact K31
  have hf := pm_ie hf c25
  by_cases c32 : p1 = 4
  · have hf := pm_it hf c32
    obtain ⟨k33, hf⟩ := pm_if hf
    obtain ⟨v34, e35, hf⟩ := pm_bd hf
    rcases v34 with z37 | w36
    · have hf := pt_kl hf
      cases hf
      exact pm_S3.trans (show pm_S3 z37.2 _ from kpX16_readsTables e35) K0
    have K38 := pm_S3.trans (show pm_S3 w36 _ from kpX16_readsTables e35) K0
    have hf := pt_kr hf
    cases hf
    exact K38
  have hf := pm_ie hf c32
  by_cases c39 : p1 = 5
  · have hf := pm_it hf c39
    obtain ⟨k40, hf⟩ := pm_if hf
    obtain ⟨v41, e42, hf⟩ := pm_bd hf
    rcases v41 with z44 | w43
    · have hf := pt_kl hf
      cases hf
      exact pm_S3.trans (show pm_S3 z44.2 _ from kpX16_readsMemories e42) K0
    have K45 := pm_S3.trans (show pm_S3 w43 _ from kpX16_readsMemories e42) K0
    have hf := pt_kr hf
    cases hf
    exact K45
  have hf := pm_ie hf c39
  by_cases c46 : p1 = 6
  · have hf := pm_it hf c46
    obtain ⟨k47, hf⟩ := pm_if hf
    obtain ⟨v48, e49, hf⟩ := pm_bd hf
    rcases v48 with z51 | w50
    · have hf := pt_kl hf
      cases hf
      exact pm_S3.trans (show pm_S3 z51.2 _ from kpX16_readsGlobals e49) K0
    have K52 := pm_S3.trans (show pm_S3 w50 _ from kpX16_readsGlobals e49) K0
    have hf := pt_kr hf
    cases hf
    exact K52
  have hf := pm_ie hf c46
  by_cases c53 : p1 = 7
  · have hf := pm_it hf c53
    obtain ⟨k54, hf⟩ := pm_if hf
    obtain ⟨v55, e56, hf⟩ := pm_bd hf
    rcases v55 with z58 | w57
    · have hf := pt_kl hf
      cases hf
      exact pm_S3.trans (show pm_S3 z58.2 _ from kpX16_readsExports e56) K0
    have K59 := pm_S3.trans (show pm_S3 w57 _ from kpX16_readsExports e56) K0
    have hf := pt_kr hf
    cases hf
    exact K59
  have hf := pm_ie hf c53
  by_cases c60 : p1 = 8
  · have hf := pm_it hf c60
    obtain ⟨k61, hf⟩ := pm_if hf
    obtain ⟨v62, e63, hf⟩ := pm_bd hf
    obtain ⟨v64, e65, hf⟩ := pm_bd hf
    rcases v64 with z67 | w66
    · have hf := pt_kl hf
      cases hf
      exact pm_S3.trans (show pm_S3 z67.2 _ from kpX16_number e65) K0
    have K68 := pm_S3.trans (show pm_S3 w66.2 _ from kpX16_number e65) K0
    have hf := pt_kr hf
    obtain ⟨k69, hf⟩ := pm_if hf
    cases hf
    exact K68
  have hf := pm_ie hf c60
  by_cases c70 : p1 = 9
  · have hf := pm_it hf c70
    obtain ⟨k71, hf⟩ := pm_if hf
    obtain ⟨v72, e73, hf⟩ := pm_bd hf
    rcases v72 with z75 | w74
    · have hf := pt_kl hf
      cases hf
      exact pm_S3.trans (show pm_S3 z75.2 _ from kpX16_readsElements e73) K0
    have K76 := pm_S3.trans (show pm_S3 w74 _ from kpX16_readsElements e73) K0
    have hf := pt_kr hf
    cases hf
    exact K76
  have hf := pm_ie hf c70
  by_cases c77 : p1 = 10
  · have hf := pm_it hf c77
    obtain ⟨k78, hf⟩ := pm_if hf
    obtain ⟨v79, e80, hf⟩ := pm_bd hf
    rcases v79 with z82 | w81
    · have hf := pt_kl hf
      cases hf
      exact pm_S3.trans (show pm_S3 z82.2 _ from kpX16_readsBodies e80) K0
    have K83 := pm_S3.trans (show pm_S3 w81 _ from kpX16_readsBodies e80) K0
    have hf := pt_kr hf
    cases hf
    exact K83
  have hf := pm_ie hf c77
  by_cases c84 : p1 = 11
  · have hf := pm_it hf c84
    obtain ⟨k85, hf⟩ := pm_if hf
    obtain ⟨v86, e87, hf⟩ := pm_bd hf
    rcases v86 with z89 | w88
    · have hf := pt_kl hf
      cases hf
      exact pm_S3.trans (show pm_S3 z89.2 _ from kpX16_readsDatas e87) K0
    have K90 := pm_S3.trans (show pm_S3 w88 _ from kpX16_readsDatas e87) K0
    have hf := pt_kr hf
    cases hf
    exact K90
  have hf := pm_ie hf c84
  obtain ⟨k91, hf⟩ := pm_if hf
  obtain ⟨v92, e93, hf⟩ := pm_bd hf
  obtain ⟨v94, e95, hf⟩ := pm_bd hf
  rcases v94 with z97 | w96
  · have hf := pt_kl hf
    cases hf
    exact pm_S3.trans (show pm_S3 z97.2 _ from kpX16_number e95) K0
  have K98 := pm_S3.trans (show pm_S3 w96.2 _ from kpX16_number e95) K0
  have hf := pt_kr hf
  obtain ⟨k99, hf⟩ := pm_if hf
  cases hf
  exact K98
