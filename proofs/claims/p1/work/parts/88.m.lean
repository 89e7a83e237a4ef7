set_option maxHeartbeats 4000000 in
set_option maxRecDepth 100000 in
theorem klX16_checksAll {r : ((Nat × pm_H) ⊕ pm_H)} : ∀ n : Nat, (∀ (x0 : Nat) (h : pm_H), pm_iter sX16_checksAll n (.inl (x0, h)) = some r → pt_SV r h) ∧ (∀ (x0 : Nat) (h : pm_H), pm_iter sX16_checksAll n (.inr (.inl (x0, h))) = some r → pt_SV r h) ∧ (∀ (x0 : Nat) (s0 : Int32) (s1 : Int32) (s2 : Nat) (h : pm_H), pm_iter sX16_checksAll n (.inr (.inr (.inl (x0, s0, s1, s2, h)))) = some r → pt_SV r h) ∧ (∀ (x0 : Nat) (x1 : Int32) (h : pm_H), pm_iter sX16_checksAll n (.inr (.inr (.inr (.inl (x0, x1, h))))) = some r → pt_SV r h) ∧ (∀ (x0 : Nat) (s0 : Int32) (h : pm_H), pm_iter sX16_checksAll n (.inr (.inr (.inr (.inr (.inl (x0, s0, h)))))) = some r → pt_SV r h) ∧ (∀ (x0 : Nat) (x1 : Int32) (h : pm_H), pm_iter sX16_checksAll n (.inr (.inr (.inr (.inr (.inr (.inl (x0, x1, h))))))) = some r → pt_SV r h) ∧ (∀ (x0 : Nat) (x1 : Int32) (s0 : Int32) (h : pm_H), pm_iter sX16_checksAll n (.inr (.inr (.inr (.inr (.inr (.inr (.inl (x0, x1, s0, h)))))))) = some r → pt_SV r h) ∧ (∀ (x0 : Nat) (x1 : Int32) (h : pm_H), pm_iter sX16_checksAll n (.inr (.inr (.inr (.inr (.inr (.inr (.inr (.inl (x0, x1, h))))))))) = some r → pt_SV r h) ∧ (∀ (x0 : Nat) (x1 : Int32) (h : pm_H), pm_iter sX16_checksAll n (.inr (.inr (.inr (.inr (.inr (.inr (.inr (.inr (x0, x1, h))))))))) = some r → pt_SV r h) := by
  intro n
  induction n with
  | zero => exact ⟨fun _ _ hf => (by cases hf), fun _ _ hf => (by cases hf), fun _ _ _ _ _ hf => (by cases hf), fun _ _ _ hf => (by cases hf), fun _ _ _ hf => (by cases hf), fun _ _ _ hf => (by cases hf), fun _ _ _ _ hf => (by cases hf), fun _ _ _ hf => (by cases hf), fun _ _ _ hf => (by cases hf)⟩
  | succ n ih =>
    refine ⟨fun x0 h hf => ?_, ?_⟩
    · obtain ⟨y, hf, hi⟩ := pm_iter_s hf
      have hf : tX16_checksAll_23 x0 h = some y := hf
      unfold tX16_checksAll_23 at hf
      have K0 := pm_S3.rf h
      obtain ⟨k11, hf⟩ := pm_if hf
      obtain ⟨v12, e13, hf⟩ := pm_bd hf
      rcases v12 with z15 | w14
      · have hf := pt_sl hf
        cases hf
        cases hi
        exact pm_S3.trans (show pm_S3 z15.2 _ from kpX16_checksTypes e13) K0
      have K16 := pm_S3.trans (show pm_S3 w14 _ from kpX16_checksTypes e13) K0
      have hf := pt_sr hf
      obtain ⟨k17, hf⟩ := pm_if hf
      obtain ⟨v18, e19, hf⟩ := pm_bd hf
      rcases v18 with z21 | w20
      · have hf := pt_sl hf
        cases hf
        cases hi
        exact pm_S3.trans (show pm_S3 z21.2 _ from kpX16_checksLimits e19) K16
      have K22 := pm_S3.trans (show pm_S3 w20 _ from kpX16_checksLimits e19) K16
      have hf := pt_sr hf
      obtain ⟨k23, hf⟩ := pm_if hf
      obtain ⟨v24, e25, hf⟩ := pm_bd hf
      obtain ⟨k26, hf⟩ := pm_if hf
      obtain ⟨v27, e28, hf⟩ := pm_bd hf
      by_cases c29 : v27 ≤ 1
      · have hf := pm_it hf c29
        cases hf
        exact pt_SV.trans (ih.2.1 x0 w20 hi) K22
      · have hf := pm_ie hf c29
        obtain ⟨v30, e31, hf⟩ := pm_bd hf
        obtain ⟨k32, hf⟩ := pm_if hf
        obtain ⟨u33, hf⟩ := pm_if hf
        by_cases c34 : (pm_I w20 v30 (5 : Int32).toNatClampNeg) < 0
        · have hf := pm_it hf c34
          obtain ⟨u35, hf⟩ := pm_if hf
          cases hf
          exact pt_SV.trans (ih.2.2.1 x0 (pm_I w20 v30 (2 : Int32).toNatClampNeg) 22 x0 w20 hi) K22
        · have hf := pm_ie hf c34
          obtain ⟨u36, hf⟩ := pm_if hf
          cases hf
          exact pt_SV.trans (ih.2.2.1 x0 (pm_I w20 v30 (5 : Int32).toNatClampNeg) 22 x0 w20 hi) K22
    refine ⟨fun x0 h hf => ?_, ?_⟩
    · obtain ⟨y, hf, hi⟩ := pm_iter_s hf
      have hf : tX16_checksAll_82 x0 h = some y := hf
      unfold tX16_checksAll_82 at hf
      have K0 := pm_S3.rf h
      obtain ⟨k37, hf⟩ := pm_if hf
      obtain ⟨v38, e39, hf⟩ := pm_bd hf
      rcases v38 with z41 | w40
      · have hf := pt_sl hf
        cases hf
        cases hi
        exact pm_S3.trans (show pm_S3 z41.2 _ from kpX16_checksExports e39) K0
      have K42 := pm_S3.trans (show pm_S3 w40 _ from kpX16_checksExports e39) K0
      have hf := pt_sr hf
      obtain ⟨k43, hf⟩ := pm_if hf
      obtain ⟨v44, e45, hf⟩ := pm_bd hf
      obtain ⟨k46, hf⟩ := pm_if hf
      by_cases c47 : (pm_L w40 v44 33) < 0
      · have hf := pm_it hf c47
        obtain ⟨v48, e49, hf⟩ := pm_bd hf
        have K50 := pm_S3.trans (kpX16_declares e49) K42
        cases hf
        exact pt_SV.trans (ih.2.2.2.1 x0 0 v48 hi) K50
      · have hf := pm_ie hf c47
        obtain ⟨v51, e52, hf⟩ := pm_bd hf
        by_cases c53 : v51.toInt64 ≤ (pm_L w40 v44 33)
        · have hf := pm_it hf c53
          cases hf
          exact pt_SV.trans (ih.2.2.2.2.1 x0 0 w40 hi) K42
        · have hf := pm_ie hf c53
          cases hf
          exact pt_SV.trans (ih.2.2.2.2.1 x0 1 w40 hi) K42
    refine ⟨fun x0 s0 s1 s2 h hf => ?_, ?_⟩
    · obtain ⟨y, hf, hi⟩ := pm_iter_s hf
      have hf : tX16_checksAll_79 x0 s0 s1 s2 h = some y := hf
      unfold tX16_checksAll_79 at hf
      have K0 := pm_S3.rf h
      obtain ⟨k54, hf⟩ := pm_if hf
      obtain ⟨v55, e56, hf⟩ := pm_bd hf
      rcases v55 with z58 | w57
      · have hf := pt_sl hf
        cases hf
        cases hi
        exact pm_S3.trans (show pm_S3 z58.2 _ from kpX16_stops e56) K0
      have K59 := pm_S3.trans (show pm_S3 w57 _ from kpX16_stops e56) K0
      have hf := pt_sr hf
      cases hf
      exact pt_SV.trans (ih.2.1 x0 w57 hi) K59
    refine ⟨fun x0 x1 h hf => ?_, ?_⟩
    · obtain ⟨y, hf, hi⟩ := pm_iter_s hf
      have hf : tX16_checksAll_196 x0 x1 h = some y := hf
      unfold tX16_checksAll_196 at hf
      have K0 := pm_S3.rf h
      obtain ⟨k60, hf⟩ := pm_if hf
      obtain ⟨v61, e62, hf⟩ := pm_bd hf
      obtain ⟨k63, hf⟩ := pm_if hf
      by_cases c64 : (pm_I h v61 24) ≤ x1
      · have hf := pm_it hf c64
        cases hf
        exact pt_SV.trans (ih.2.2.2.2.2.1 x0 0 h hi) K0
      · have hf := pm_ie hf c64
        obtain ⟨v65, e66, hf⟩ := pm_bd hf
        obtain ⟨k67, hf⟩ := pm_if hf
        obtain ⟨u68, hf⟩ := pm_if hf
        obtain ⟨v69, e70, hf⟩ := pm_bd hf
        obtain ⟨k71, hf⟩ := pm_if hf
        obtain ⟨u72, hf⟩ := pm_if hf
        obtain ⟨v73, e74, hf⟩ := pm_bd hf
        rcases v73 with z76 | w75
        · have hf := pt_sl hf
          cases hf
          cases hi
          exact pm_S3.trans (show pm_S3 z76.2 _ from kpX16_constantly e74) K0
        have K77 := pm_S3.trans (show pm_S3 w75 _ from kpX16_constantly e74) K0
        have hf := pt_sr hf
        obtain ⟨y78, e79, hf⟩ := pm_lt hf
        cases hf
        exact pt_SV.trans (ih.2.2.2.1 x0 y78 w75 hi) K77
    refine ⟨fun x0 s0 h hf => ?_, ?_⟩
    · obtain ⟨y, hf, hi⟩ := pm_iter_s hf
      have hf : tX16_checksAll_123 x0 s0 h = some y := hf
      unfold tX16_checksAll_123 at hf
      have K0 := pm_S3.rf h
      by_cases c80 : s0 = 0
      · have hf := pm_it hf c80
        cases hf
        exact pt_SV.trans (ih.2.2.2.2.2.2.1 x0 s0 0 h hi) K0
      · have hf := pm_ie hf c80
        obtain ⟨k81, hf⟩ := pm_if hf
        obtain ⟨v82, e83, hf⟩ := pm_bd hf
        obtain ⟨k84, hf⟩ := pm_if hf
        obtain ⟨v85, e86, hf⟩ := pm_bd hf
        cases hf
        exact pt_SV.trans (ih.2.2.2.2.2.2.1 x0 s0 v85 h hi) K0
    refine ⟨fun x0 x1 h hf => ?_, ?_⟩
    · obtain ⟨y, hf, hi⟩ := pm_iter_s hf
      have hf : tX16_checksAll_237 x0 x1 h = some y := hf
      unfold tX16_checksAll_237 at hf
      have K0 := pm_S3.rf h
      obtain ⟨k87, hf⟩ := pm_if hf
      obtain ⟨v88, e89, hf⟩ := pm_bd hf
      obtain ⟨k90, hf⟩ := pm_if hf
      by_cases c91 : (pm_I h v88 34) ≤ x1
      · have hf := pm_it hf c91
        cases hf
        exact pt_SV.trans (ih.2.2.2.2.2.2.2.1 x0 0 h hi) K0
      · have hf := pm_ie hf c91
        obtain ⟨v92, e93, hf⟩ := pm_bd hf
        rcases v92 with z95 | w94
        · have hf := pt_sl hf
          cases hf
          cases hi
          exact pm_S3.trans (show pm_S3 z95.2 _ from kpX16_checksElement e93) K0
        have K96 := pm_S3.trans (show pm_S3 w94 _ from kpX16_checksElement e93) K0
        have hf := pt_sr hf
        obtain ⟨y97, e98, hf⟩ := pm_lt hf
        cases hf
        exact pt_SV.trans (ih.2.2.2.2.2.1 x0 y97 w94 hi) K96
    refine ⟨fun x0 x1 s0 h hf => ?_, ?_⟩
    · obtain ⟨y, hf, hi⟩ := pm_iter_s hf
      have hf : tX16_checksAll_147 x0 x1 s0 h = some y := hf
      unfold tX16_checksAll_147 at hf
      have K0 := pm_S3.rf h
      by_cases c99 : x1 = 0
      · have hf := pm_it hf c99
        obtain ⟨k100, hf⟩ := pm_if hf
        obtain ⟨v101, e102, hf⟩ := pm_bd hf
        obtain ⟨k103, hf⟩ := pm_if hf
        obtain ⟨v104, e105, hf⟩ := pm_bd hf
        obtain ⟨k106, hf⟩ := pm_if hf
        obtain ⟨u107, hf⟩ := pm_if hf
        obtain ⟨v108, e109, hf⟩ := pm_bd hf
        rcases v108 with z111 | w110
        · have hf := pt_sl hf
          cases hf
          cases hi
          exact pm_S3.trans (show pm_S3 z111.2 _ from kpX16_stops e109) K0
        have K112 := pm_S3.trans (show pm_S3 w110 _ from kpX16_stops e109) K0
        have hf := pt_sr hf
        obtain ⟨k113, hf⟩ := pm_if hf
        obtain ⟨v114, e115, hf⟩ := pm_bd hf
        have K116 := pm_S3.trans (kpX16_declares e115) K112
        cases hf
        exact pt_SV.trans (ih.2.2.2.1 x0 0 v114 hi) K116
      · have hf := pm_ie hf c99
        obtain ⟨k117, hf⟩ := pm_if hf
        obtain ⟨v118, e119, hf⟩ := pm_bd hf
        obtain ⟨k120, hf⟩ := pm_if hf
        obtain ⟨v121, e122, hf⟩ := pm_bd hf
        obtain ⟨k123, hf⟩ := pm_if hf
        obtain ⟨u124, hf⟩ := pm_if hf
        obtain ⟨v125, e126, hf⟩ := pm_bd hf
        obtain ⟨k127, hf⟩ := pm_if hf
        obtain ⟨u128, hf⟩ := pm_if hf
        by_cases c129 : ((pm_I h v121 s0.toNatClampNeg) + (pm_I h v125 s0.toNatClampNeg)) ≤ 0
        · have hf := pm_it hf c129
          obtain ⟨v130, e131, hf⟩ := pm_bd hf
          have K132 := pm_S3.trans (kpX16_declares e131) K0
          cases hf
          exact pt_SV.trans (ih.2.2.2.1 x0 0 v130 hi) K132
        · have hf := pm_ie hf c129
          obtain ⟨v133, e134, hf⟩ := pm_bd hf
          obtain ⟨k135, hf⟩ := pm_if hf
          obtain ⟨u136, hf⟩ := pm_if hf
          obtain ⟨v137, e138, hf⟩ := pm_bd hf
          rcases v137 with z140 | w139
          · have hf := pt_sl hf
            cases hf
            cases hi
            exact pm_S3.trans (show pm_S3 z140.2 _ from kpX16_stops e138) K0
          have K141 := pm_S3.trans (show pm_S3 w139 _ from kpX16_stops e138) K0
          have hf := pt_sr hf
          obtain ⟨k142, hf⟩ := pm_if hf
          obtain ⟨v143, e144, hf⟩ := pm_bd hf
          have K145 := pm_S3.trans (kpX16_declares e144) K141
          cases hf
          exact pt_SV.trans (ih.2.2.2.1 x0 0 v143 hi) K145
    refine ⟨fun x0 x1 h hf => ?_, ?_⟩
    · obtain ⟨y, hf, hi⟩ := pm_iter_s hf
      have hf : tX16_checksAll_261 x0 x1 h = some y := hf
      unfold tX16_checksAll_261 at hf
      have K0 := pm_S3.rf h
      obtain ⟨k146, hf⟩ := pm_if hf
      obtain ⟨v147, e148, hf⟩ := pm_bd hf
      obtain ⟨k149, hf⟩ := pm_if hf
      by_cases c150 : (pm_I h v147 44) ≤ x1
      · have hf := pm_it hf c150
        cases hf
        exact pt_SV.trans (ih.2.2.2.2.2.2.2.2 x0 0 h hi) K0
      · have hf := pm_ie hf c150
        obtain ⟨v151, e152, hf⟩ := pm_bd hf
        obtain ⟨k153, hf⟩ := pm_if hf
        obtain ⟨u154, hf⟩ := pm_if hf
        by_cases c155 : (pm_I h v151 x1.toNatClampNeg) = 0
        · have hf := pm_it hf c155
          obtain ⟨u156, hf⟩ := pm_if hf
          by_cases c157 : (pm_I h v151 x1.toNatClampNeg) = 0
          · have hf := pm_it hf c157
            obtain ⟨y158, e159, hf⟩ := pm_lt hf
            cases hf
            exact pt_SV.trans (ih.2.2.2.2.2.2.2.1 x0 y158 h hi) K0
          · have hf := pm_ie hf c157
            obtain ⟨v160, e161, hf⟩ := pm_bd hf
            obtain ⟨k162, hf⟩ := pm_if hf
            obtain ⟨u163, hf⟩ := pm_if hf
            obtain ⟨v164, e165, hf⟩ := pm_bd hf
            rcases v164 with z167 | w166
            · have hf := pt_sl hf
              cases hf
              cases hi
              exact pm_S3.trans (show pm_S3 z167.2 _ from kpX16_constantly e165) K0
            have K168 := pm_S3.trans (show pm_S3 w166 _ from kpX16_constantly e165) K0
            have hf := pt_sr hf
            obtain ⟨y169, e170, hf⟩ := pm_lt hf
            cases hf
            exact pt_SV.trans (ih.2.2.2.2.2.2.2.1 x0 y169 w166 hi) K168
        · have hf := pm_ie hf c155
          obtain ⟨v171, e172, hf⟩ := pm_bd hf
          obtain ⟨k173, hf⟩ := pm_if hf
          obtain ⟨u174, hf⟩ := pm_if hf
          obtain ⟨v175, e176, hf⟩ := pm_bd hf
          by_cases c177 : (pm_L h v171 x1.toNatClampNeg) < v175.toInt64
          · have hf := pm_it hf c177
            obtain ⟨u178, hf⟩ := pm_if hf
            by_cases c179 : (pm_I h v151 x1.toNatClampNeg) = 0
            · have hf := pm_it hf c179
              obtain ⟨y180, e181, hf⟩ := pm_lt hf
              cases hf
              exact pt_SV.trans (ih.2.2.2.2.2.2.2.1 x0 y180 h hi) K0
            · have hf := pm_ie hf c179
              obtain ⟨v182, e183, hf⟩ := pm_bd hf
              obtain ⟨k184, hf⟩ := pm_if hf
              obtain ⟨u185, hf⟩ := pm_if hf
              obtain ⟨v186, e187, hf⟩ := pm_bd hf
              rcases v186 with z189 | w188
              · have hf := pt_sl hf
                cases hf
                cases hi
                exact pm_S3.trans (show pm_S3 z189.2 _ from kpX16_constantly e187) K0
              have K190 := pm_S3.trans (show pm_S3 w188 _ from kpX16_constantly e187) K0
              have hf := pt_sr hf
              obtain ⟨y191, e192, hf⟩ := pm_lt hf
              cases hf
              exact pt_SV.trans (ih.2.2.2.2.2.2.2.1 x0 y191 w188 hi) K190
          · have hf := pm_ie hf c177
            obtain ⟨v193, e194, hf⟩ := pm_bd hf
            obtain ⟨k195, hf⟩ := pm_if hf
            obtain ⟨u196, hf⟩ := pm_if hf
            obtain ⟨v197, e198, hf⟩ := pm_bd hf
            rcases v197 with z200 | w199
            · have hf := pt_sl hf
              cases hf
              cases hi
              exact pm_S3.trans (show pm_S3 z200.2 _ from kpX16_stops e198) K0
            have K201 := pm_S3.trans (show pm_S3 w199 _ from kpX16_stops e198) K0
            have hf := pt_sr hf
            obtain ⟨k202, hf⟩ := pm_if hf
            obtain ⟨v203, e204, hf⟩ := pm_bd hf
            obtain ⟨k205, hf⟩ := pm_if hf
            obtain ⟨v206, e207, hf⟩ := pm_bd hf
            obtain ⟨k208, hf⟩ := pm_if hf
            obtain ⟨u209, hf⟩ := pm_if hf
            by_cases c210 : (pm_I w199 v206 x1.toNatClampNeg) = 0
            · have hf := pm_it hf c210
              obtain ⟨y211, e212, hf⟩ := pm_lt hf
              cases hf
              exact pt_SV.trans (ih.2.2.2.2.2.2.2.1 x0 y211 w199 hi) K201
            · have hf := pm_ie hf c210
              obtain ⟨v213, e214, hf⟩ := pm_bd hf
              obtain ⟨k215, hf⟩ := pm_if hf
              obtain ⟨u216, hf⟩ := pm_if hf
              obtain ⟨v217, e218, hf⟩ := pm_bd hf
              rcases v217 with z220 | w219
              · have hf := pt_sl hf
                cases hf
                cases hi
                exact pm_S3.trans (show pm_S3 z220.2 _ from kpX16_constantly e218) K201
              have K221 := pm_S3.trans (show pm_S3 w219 _ from kpX16_constantly e218) K201
              have hf := pt_sr hf
              obtain ⟨y222, e223, hf⟩ := pm_lt hf
              cases hf
              exact pt_SV.trans (ih.2.2.2.2.2.2.2.1 x0 y222 w219 hi) K221
    refine fun x0 x1 h hf => ?_
    obtain ⟨y, hf, hi⟩ := pm_iter_s hf
    have hf : tX16_checksAll_357 x0 x1 h = some y := hf
    unfold tX16_checksAll_357 at hf
    have K0 := pm_S3.rf h
    obtain ⟨k224, hf⟩ := pm_if hf
    obtain ⟨v225, e226, hf⟩ := pm_bd hf
    obtain ⟨k227, hf⟩ := pm_if hf
    by_cases c228 : (pm_I h v225 15) ≤ x1
    · have hf := pm_it hf c228
      cases hf
      cases hi
      exact K0
    · have hf := pm_ie hf c228
      obtain ⟨v229, e230, hf⟩ := pm_bd hf
      rcases v229 with z232 | w231
      · have hf := pt_sl hf
        cases hf
        cases hi
        exact pm_S3.trans (show pm_S3 z232.2 _ from kpX16_checksBody e230) K0
      have K233 := pm_S3.trans (show pm_S3 w231 _ from kpX16_checksBody e230) K0
      have hf := pt_sr hf
      obtain ⟨y234, e235, hf⟩ := pm_lt hf
      cases hf
      exact pt_SV.trans (ih.2.2.2.2.2.2.2.2 x0 y234 w231 hi) K233
set_option maxHeartbeats 4000000 in
set_option maxRecDepth 100000 in
theorem kpX16_checksAll {h : pm_H} {a0 : Nat} {r : ((Nat × pm_H) ⊕ pm_H)} (hf : fX16_checksAll h a0 = some r) : pt_SV r h := by
  unfold fX16_checksAll at hf
  have K0 := pm_S3.rf h
  obtain ⟨k1, hf⟩ := pm_if hf
  obtain ⟨v2, e3, hf⟩ := pm_bd hf
  obtain ⟨k4, hf⟩ := pm_if hf
  by_cases c5 : (pm_I h v2 3) < 0
  · have hf := pm_it hf c5
    obtain ⟨n, hn⟩ := pm_lim_iter hf
    exact pt_SV.trans ((klX16_checksAll n).1 a0 h hn) K0
  · have hf := pm_ie hf c5
    obtain ⟨v6, e7, hf⟩ := pm_bd hf
    rcases v6 with z9 | w8
    · have hf := pt_kl hf
      cases hf
      exact pm_S3.trans (show pm_S3 z9.2 _ from kpX16_stops e7) K0
    have K10 := pm_S3.trans (show pm_S3 w8 _ from kpX16_stops e7) K0
    have hf := pt_kr hf
    obtain ⟨n, hn⟩ := pm_lim_iter hf
    exact pt_SV.trans ((klX16_checksAll n).1 a0 w8 hn) K10
set_option maxHeartbeats 4000000 in
set_option maxRecDepth 100000 in
theorem klX16_readsAll {r : ((Nat × pm_H) ⊕ pm_H)} : ∀ n : Nat, (∀ (x0 : Nat) (x1 : Int32) (h : pm_H), pm_iter sX16_readsAll n (.inl (x0, x1, h)) = some r → pt_SV r h) ∧ (∀ (x0 : Nat) (x1 : Int32) (h : pm_H), pm_iter sX16_readsAll n (.inr (.inl (x0, x1, h))) = some r → pt_SV r h) ∧ (∀ (x0 : Nat) (x1 : Int32) (x2 : Int32) (x3 : Int32) (h : pm_H), pm_iter sX16_readsAll n (.inr (.inr (.inl (x0, x1, x2, x3, h)))) = some r → pt_SV r h) ∧ (∀ (x0 : Nat) (x1 : Int32) (x2 : Int32) (x3 : Int32) (h : pm_H), pm_iter sX16_readsAll n (.inr (.inr (.inr (x0, x1, x2, x3, h)))) = some r → pt_SV r h) := by
  intro n
  induction n with
  | zero => exact ⟨fun _ _ _ hf => (by cases hf), fun _ _ _ hf => (by cases hf), fun _ _ _ _ _ hf => (by cases hf), fun _ _ _ _ _ hf => (by cases hf)⟩
  | succ n ih =>
    refine ⟨fun x0 x1 h hf => ?_, ?_⟩
    · obtain ⟨y, hf, hi⟩ := pm_iter_s hf
      have hf : tX16_readsAll_19 x0 x1 h = some y := hf
      unfold tX16_readsAll_19 at hf
      have K0 := pm_S3.rf h
      by_cases c7 : x1 < 0
      · have hf := pm_it hf c7
        cases hf
        exact pt_SV.trans (ih.2.1 x0 0 h hi) K0
      · have hf := pm_ie hf c7
        obtain ⟨k8, hf⟩ := pm_if hf
        obtain ⟨v9, e10, hf⟩ := pm_bd hf
        rcases v9 with z12 | w11
        · have hf := pt_sl hf
          cases hf
          cases hi
          exact pm_S3.trans (show pm_S3 z12.2 _ from kpX16_next e10) K0
        have K13 := pm_S3.trans (show pm_S3 w11.2 _ from kpX16_next e10) K0
        have hf := pt_sr hf
        by_cases c14 : w11.1 = ((((27429984746340352 : Int64) >>> (x1.toInt64 &&& 63)) &&& 255).toInt32)
        · have hf := pm_it hf c14
          obtain ⟨y15, e16, hf⟩ := pm_lt hf
          cases hf
          exact pt_SV.trans (ih.1 x0 y15 w11.2 hi) K13
        · have hf := pm_ie hf c14
          obtain ⟨k17, hf⟩ := pm_if hf
          obtain ⟨v18, e19, hf⟩ := pm_bd hf
          rcases v18 with z21 | w20
          · have hf := pt_sl hf
            cases hf
            cases hi
            exact pm_S3.trans (show pm_S3 z21.2 _ from kpX16_stops e19) K13
          have K22 := pm_S3.trans (show pm_S3 w20 _ from kpX16_stops e19) K13
          have hf := pt_sr hf
          obtain ⟨y23, e24, hf⟩ := pm_lt hf
          cases hf
          exact pt_SV.trans (ih.1 x0 y23 w20 hi) K22
    refine ⟨fun x0 x1 h hf => ?_, ?_⟩
    · obtain ⟨y, hf, hi⟩ := pm_iter_s hf
      have hf : tX16_readsAll_61 x0 x1 h = some y := hf
      unfold tX16_readsAll_61 at hf
      have K0 := pm_S3.rf h
      obtain ⟨k25, hf⟩ := pm_if hf
      obtain ⟨v26, e27, hf⟩ := pm_bd hf
      obtain ⟨k28, hf⟩ := pm_if hf
      by_cases c29 : (pm_I h v26 1) ≤ (pm_I h x0 11)
      · have hf := pm_it hf c29
        by_cases c30 : (pm_L h v26 14) = (pm_L h v26 50)
        · have hf := pm_it hf c30
          by_cases c31 : (pm_L h v26 42) < 0
          · have hf := pm_it hf c31
            cases hf
            cases hi
            exact K0
          · have hf := pm_ie hf c31
            by_cases c32 : (pm_L h v26 42) = (pm_L h v26 43)
            · have hf := pm_it hf c32
              cases hf
              cases hi
              exact K0
            · have hf := pm_ie hf c32
              obtain ⟨v33, e34, hf⟩ := pm_bd hf
              rcases v33 with z36 | w35
              · have hf := pt_sl hf
                cases hf
                cases hi
                exact pm_S3.trans (show pm_S3 z36.2 _ from kpX16_stops e34) K0
              have K37 := pm_S3.trans (show pm_S3 w35 _ from kpX16_stops e34) K0
              have hf := pt_sr hf
              cases hf
              cases hi
              exact K37
        · have hf := pm_ie hf c30
          obtain ⟨v38, e39, hf⟩ := pm_bd hf
          rcases v38 with z41 | w40
          · have hf := pt_sl hf
            cases hf
            cases hi
            exact pm_S3.trans (show pm_S3 z41.2 _ from kpX16_stops e39) K0
          have K42 := pm_S3.trans (show pm_S3 w40 _ from kpX16_stops e39) K0
          have hf := pt_sr hf
          obtain ⟨k43, hf⟩ := pm_if hf
          obtain ⟨v44, e45, hf⟩ := pm_bd hf
          obtain ⟨k46, hf⟩ := pm_if hf
          by_cases c47 : (pm_L w40 v44 42) < 0
          · have hf := pm_it hf c47
            cases hf
            cases hi
            exact K42
          · have hf := pm_ie hf c47
            by_cases c48 : (pm_L w40 v44 42) = (pm_L w40 v44 43)
            · have hf := pm_it hf c48
              cases hf
              cases hi
              exact K42
            · have hf := pm_ie hf c48
              obtain ⟨v49, e50, hf⟩ := pm_bd hf
              rcases v49 with z52 | w51
              · have hf := pt_sl hf
                cases hf
                cases hi
                exact pm_S3.trans (show pm_S3 z52.2 _ from kpX16_stops e50) K42
              have K53 := pm_S3.trans (show pm_S3 w51 _ from kpX16_stops e50) K42
              have hf := pt_sr hf
              cases hf
              cases hi
              exact K53
      · have hf := pm_ie hf c29
        obtain ⟨y54, e55, hf⟩ := pm_lt hf
        obtain ⟨v56, e57, hf⟩ := pm_bd hf
        rcases v56 with z59 | w58
        · have hf := pt_sl hf
          cases hf
          cases hi
          exact pm_S3.trans (show pm_S3 z59.2 _ from kpX16_next e57) K0
        have K60 := pm_S3.trans (show pm_S3 w58.2 _ from kpX16_next e57) K0
        have hf := pt_sr hf
        by_cases c61 : 12 < w58.1
        · have hf := pm_it hf c61
          obtain ⟨k62, hf⟩ := pm_if hf
          obtain ⟨v63, e64, hf⟩ := pm_bd hf
          rcases v63 with z66 | w65
          · have hf := pt_sl hf
            cases hf
            cases hi
            exact pm_S3.trans (show pm_S3 z66.2 _ from kpX16_stops e64) K60
          have K67 := pm_S3.trans (show pm_S3 w65 _ from kpX16_stops e64) K60
          have hf := pt_sr hf
          cases hf
          exact pt_SV.trans (ih.2.2.1 x0 x1 y54 w58.1 w65 hi) K67
        · have hf := pm_ie hf c61
          by_cases c68 : w58.1 ≤ 0
          · have hf := pm_it hf c68
            cases hf
            exact pt_SV.trans (ih.2.2.1 x0 x1 y54 w58.1 w58.2 hi) K60
          · have hf := pm_ie hf c68
            obtain ⟨v69, e70, hf⟩ := pm_lt hf
            by_cases c71 : x1 < v69
            · have hf := pm_it hf c71
              cases hf
              exact pt_SV.trans (ih.2.2.1 x0 x1 y54 w58.1 w58.2 hi) K60
            · have hf := pm_ie hf c71
              obtain ⟨k72, hf⟩ := pm_if hf
              obtain ⟨v73, e74, hf⟩ := pm_bd hf
              rcases v73 with z76 | w75
              · have hf := pt_sl hf
                cases hf
                cases hi
                exact pm_S3.trans (show pm_S3 z76.2 _ from kpX16_stops e74) K60
              have K77 := pm_S3.trans (show pm_S3 w75 _ from kpX16_stops e74) K60
              have hf := pt_sr hf
              cases hf
              exact pt_SV.trans (ih.2.2.1 x0 x1 y54 w58.1 w75 hi) K77
    refine ⟨fun x0 x1 x2 x3 h hf => ?_, ?_⟩
    · obtain ⟨y, hf, hi⟩ := pm_iter_s hf
      have hf : tX16_readsAll_110 x0 x1 x2 x3 h = some y := hf
      unfold tX16_readsAll_110 at hf
      have K0 := pm_S3.rf h
      by_cases c78 : x3 ≤ 0
      · have hf := pm_it hf c78
        cases hf
        exact pt_SV.trans (ih.2.2.2 x0 x1 x2 x3 h hi) K0
      · have hf := pm_ie hf c78
        obtain ⟨v79, e80, hf⟩ := pm_lt hf
        obtain ⟨k81, hf⟩ := pm_if hf
        obtain ⟨v82, e83, hf⟩ := pm_bd hf
        obtain ⟨k84, hf⟩ := pm_if hf
        obtain ⟨v85, e86, hf⟩ := pm_bd hf
        obtain ⟨k87, hf⟩ := pm_if hf
        obtain ⟨u88, hf⟩ := pm_if hf
        cases hf
        exact pt_SV.trans (ih.2.2.2 x0 v79 x2 x3 (pm_setI h v85 x3.toNatClampNeg x2) hi) K0
    refine fun x0 x1 x2 x3 h hf => ?_
    obtain ⟨y, hf, hi⟩ := pm_iter_s hf
    have hf : tX16_readsAll_129 x0 x1 x2 x3 h = some y := hf
    unfold tX16_readsAll_129 at hf
    have K0 := pm_S3.rf h
    obtain ⟨k89, hf⟩ := pm_if hf
    obtain ⟨y90, e91, hf⟩ := pm_lt hf
    obtain ⟨v92, e93, hf⟩ := pm_bd hf
    rcases v92 with z95 | w94
    · have hf := pt_sl hf
      cases hf
      cases hi
      exact pm_S3.trans (show pm_S3 z95.2 _ from kpX16_number e93) K0
    have K96 := pm_S3.trans (show pm_S3 w94.2 _ from kpX16_number e93) K0
    have hf := pt_sr hf
    obtain ⟨k97, hf⟩ := pm_if hf
    obtain ⟨v98, e99, hf⟩ := pm_bd hf
    obtain ⟨k100, hf⟩ := pm_if hf
    by_cases c101 : w94.1 ≤ (((pm_I w94.2 v98 1) - (pm_I w94.2 x0 11)).toInt64)
    · have hf := pm_it hf c101
      obtain ⟨y102, e103, hf⟩ := pm_lt hf
      obtain ⟨v104, e105, hf⟩ := pm_bd hf
      rcases v104 with z107 | w106
      · have hf := pt_sl hf
        cases hf
        cases hi
        exact pm_S3.trans (show pm_S3 z107.2 _ from kpX16_readsSection e105) K96
      have K108 := pm_S3.trans (show pm_S3 w106 _ from kpX16_readsSection e105) K96
      have hf := pt_sr hf
      obtain ⟨k109, hf⟩ := pm_if hf
      by_cases c110 : (pm_I w106 x0 12) ≤ (pm_I w106 x0 11)
      · have hf := pm_it hf c110
        obtain ⟨v111, e112, hf⟩ := pm_bd hf
        obtain ⟨k113, hf⟩ := pm_if hf
        obtain ⟨y114, e115, hf⟩ := pm_lt hf
        cases hf
        exact pt_SV.trans (ih.2.1 x0 x1 (pm_setI w106 x0 12 y114) hi) K108
      · have hf := pm_ie hf c110
        obtain ⟨v116, e117, hf⟩ := pm_bd hf
        rcases v116 with z119 | w118
        · have hf := pt_sl hf
          cases hf
          cases hi
          exact pm_S3.trans (show pm_S3 z119.2 _ from kpX16_stops e117) K108
        have K120 := pm_S3.trans (show pm_S3 w118 _ from kpX16_stops e117) K108
        have hf := pt_sr hf
        obtain ⟨k121, hf⟩ := pm_if hf
        obtain ⟨v122, e123, hf⟩ := pm_bd hf
        obtain ⟨k124, hf⟩ := pm_if hf
        obtain ⟨y125, e126, hf⟩ := pm_lt hf
        cases hf
        exact pt_SV.trans (ih.2.1 x0 x1 (pm_setI w118 x0 12 y125) hi) K120
    · have hf := pm_ie hf c101
      obtain ⟨v127, e128, hf⟩ := pm_bd hf
      rcases v127 with z130 | w129
      · have hf := pt_sl hf
        cases hf
        cases hi
        exact pm_S3.trans (show pm_S3 z130.2 _ from kpX16_stops e128) K96
      have K131 := pm_S3.trans (show pm_S3 w129 _ from kpX16_stops e128) K96
      have hf := pt_sr hf
      obtain ⟨k132, hf⟩ := pm_if hf
      obtain ⟨y133, e134, hf⟩ := pm_lt hf
      obtain ⟨v135, e136, hf⟩ := pm_bd hf
      rcases v135 with z138 | w137
      · have hf := pt_sl hf
        cases hf
        cases hi
        exact pm_S3.trans (show pm_S3 z138.2 _ from kpX16_readsSection e136) K131
      have K139 := pm_S3.trans (show pm_S3 w137 _ from kpX16_readsSection e136) K131
      have hf := pt_sr hf
      obtain ⟨k140, hf⟩ := pm_if hf
      by_cases c141 : (pm_I w137 x0 12) ≤ (pm_I w137 x0 11)
      · have hf := pm_it hf c141
        obtain ⟨v142, e143, hf⟩ := pm_bd hf
        obtain ⟨k144, hf⟩ := pm_if hf
        obtain ⟨y145, e146, hf⟩ := pm_lt hf
        cases hf
        exact pt_SV.trans (ih.2.1 x0 x1 (pm_setI w137 x0 12 y145) hi) K139
      · have hf := pm_ie hf c141
        obtain ⟨v147, e148, hf⟩ := pm_bd hf
        rcases v147 with z150 | w149
        · have hf := pt_sl hf
          cases hf
          cases hi
          exact pm_S3.trans (show pm_S3 z150.2 _ from kpX16_stops e148) K139
        have K151 := pm_S3.trans (show pm_S3 w149 _ from kpX16_stops e148) K139
        have hf := pt_sr hf
        obtain ⟨k152, hf⟩ := pm_if hf
        obtain ⟨v153, e154, hf⟩ := pm_bd hf
        obtain ⟨k155, hf⟩ := pm_if hf
        obtain ⟨y156, e157, hf⟩ := pm_lt hf
        cases hf
        exact pt_SV.trans (ih.2.1 x0 x1 (pm_setI w149 x0 12 y156) hi) K151
set_option maxHeartbeats 4000000 in
set_option maxRecDepth 100000 in
theorem kpX16_readsAll {h : pm_H} {a0 : Nat} {r : ((Nat × pm_H) ⊕ pm_H)} (hf : fX16_readsAll h a0 = some r) : pt_SV r h := by
  unfold fX16_readsAll at hf
  have K0 := pm_S3.rf h
  obtain ⟨k1, hf⟩ := pm_if hf
  obtain ⟨v2, e3, hf⟩ := pm_bd hf
  obtain ⟨k4, hf⟩ := pm_if hf
  obtain ⟨y5, e6, hf⟩ := pm_lt hf
  obtain ⟨n, hn⟩ := pm_lim_iter hf
  exact pt_SV.trans ((klX16_readsAll n).1 a0 56 (pm_setI (pm_setI h a0 11 0) a0 12 y5) hn) K0
set_option maxHeartbeats 4000000 in
set_option maxRecDepth 100000 in
theorem klX6_copy {r : pm_H} : ∀ n : Nat, (∀ (x0 : Nat) (x1 : Int32) (x2 : Int64) (x4 : Int64) (x6 : Int64) (x8 : Int64) (x10 : Int32) (h : pm_H), pm_iter sX6_copy n (.inl (x0, x1, x2, x4, x6, x8, x10, h)) = some r → pm_S3 r h) ∧ (∀ (x0 : Nat) (x1 : Int32) (x2 : Int64) (x4 : Int64) (x6 : Int64) (x8 : Int64) (x10 : Int32) (x11 : Int64) (s0 : Int32) (h : pm_H), pm_iter sX6_copy n (.inr (.inl (x0, x1, x2, x4, x6, x8, x10, x11, s0, h))) = some r → pm_S3 r h) ∧ (∀ (x0 : Nat) (x1 : Int32) (x2 : Int64) (x4 : Int64) (x6 : Int64) (x8 : Int64) (x10 : Int32) (x11 : Int64) (x13 : Int32) (s0 : Int64) (h : pm_H), pm_iter sX6_copy n (.inr (.inr (.inl (x0, x1, x2, x4, x6, x8, x10, x11, x13, s0, h)))) = some r → pm_S3 r h) ∧ (∀ (x0 : Nat) (x1 : Int32) (x2 : Int64) (x4 : Int64) (x6 : Int64) (x8 : Int64) (x10 : Int32) (x11 : Int64) (x13 : Int32) (x14 : Int64) (s0 : Int64) (h : pm_H), pm_iter sX6_copy n (.inr (.inr (.inr (.inl (x0, x1, x2, x4, x6, x8, x10, x11, x13, x14, s0, h))))) = some r → pm_S3 r h) ∧ (∀ (x0 : Nat) (x1 : Int32) (x2 : Int64) (x4 : Int64) (x6 : Int64) (x8 : Int64) (x10 : Int32) (x11 : Int64) (x13 : Int32) (x14 : Int64) (x16 : Int64) (s0 : Int32) (h : pm_H), pm_iter sX6_copy n (.inr (.inr (.inr (.inr (.inl (x0, x1, x2, x4, x6, x8, x10, x11, x13, x14, x16, s0, h)))))) = some r → pm_S3 r h) ∧ (∀ (x0 : Nat) (x1 : Int32) (x2 : Int64) (x4 : Int64) (x6 : Int64) (x8 : Int64) (x10 : Int32) (x11 : Int64) (x13 : Int32) (x14 : Int64) (x16 : Int64) (x18 : Int32) (s0 : Int32) (h : pm_H), pm_iter sX6_copy n (.inr (.inr (.inr (.inr (.inr (x0, x1, x2, x4, x6, x8, x10, x11, x13, x14, x16, x18, s0, h)))))) = some r → pm_S3 r h) := by
  intro n
  induction n with
  | zero => exact ⟨fun _ _ _ _ _ _ _ _ hf => (by cases hf), fun _ _ _ _ _ _ _ _ _ _ hf => (by cases hf), fun _ _ _ _ _ _ _ _ _ _ _ hf => (by cases hf), fun _ _ _ _ _ _ _ _ _ _ _ _ hf => (by cases hf), fun _ _ _ _ _ _ _ _ _ _ _ _ _ hf => (by cases hf), fun _ _ _ _ _ _ _ _ _ _ _ _ _ _ hf => (by cases hf)⟩
  | succ n ih =>
    refine ⟨fun x0 x1 x2 x4 x6 x8 x10 h hf => ?_, ?_⟩
    · obtain ⟨y, hf, hi⟩ := pm_iter_s hf
      have hf : tX6_copy_6 x0 x1 x2 x4 x6 x8 x10 h = some y := hf
      unfold tX6_copy_6 at hf
      have K0 := pm_S3.rf h
      by_cases c1 : 32 ≤ x10
      · have hf := pm_it hf c1
        cases hf
        cases hi
        exact K0
      · have hf := pm_ie hf c1
        by_cases c2 : x6 ≤ x8
        · have hf := pm_it hf c2
          cases hf
          cases hi
          exact K0
        · have hf := pm_ie hf c2
          obtain ⟨y3, e4, hf⟩ := pm_lt hf
          by_cases c5 : x2 ≤ x4
          · have hf := pm_it hf c5
            cases hf
            exact pm_S3.trans (ih.2.1 x0 x1 x2 x4 x6 x8 x10 y3 0 h hi) K0
          · have hf := pm_ie hf c5
            cases hf
            exact pm_S3.trans (ih.2.1 x0 x1 x2 x4 x6 x8 x10 y3 1 h hi) K0
    refine ⟨fun x0 x1 x2 x4 x6 x8 x10 x11 s0 h hf => ?_, ?_⟩
    · obtain ⟨y, hf, hi⟩ := pm_iter_s hf
      have hf : tX6_copy_40 x0 x1 x2 x4 x6 x8 x10 x11 s0 h = some y := hf
      unfold tX6_copy_40 at hf
      have K0 := pm_S3.rf h
      by_cases c6 : s0 = 0
      · have hf := pm_it hf c6
        cases hf
        exact pm_S3.trans (ih.2.2.1 x0 x1 x2 x4 x6 x8 x10 x11 s0 (x2 + x8) h hi) K0
      · have hf := pm_ie hf c6
        cases hf
        exact pm_S3.trans (ih.2.2.1 x0 x1 x2 x4 x6 x8 x10 x11 s0 ((x2 + x11) - 1) h hi) K0
    refine ⟨fun x0 x1 x2 x4 x6 x8 x10 x11 x13 s0 h hf => ?_, ?_⟩
    · obtain ⟨y, hf, hi⟩ := pm_iter_s hf
      have hf : tX6_copy_60 x0 x1 x2 x4 x6 x8 x10 x11 x13 s0 h = some y := hf
      unfold tX6_copy_60 at hf
      have K0 := pm_S3.rf h
      by_cases c7 : x13 = 0
      · have hf := pm_it hf c7
        cases hf
        exact pm_S3.trans (ih.2.2.2.1 x0 x1 x2 x4 x6 x8 x10 x11 x13 s0 (x4 + x8) h hi) K0
      · have hf := pm_ie hf c7
        cases hf
        exact pm_S3.trans (ih.2.2.2.1 x0 x1 x2 x4 x6 x8 x10 x11 x13 s0 ((x4 + x11) - 1) h hi) K0
    refine ⟨fun x0 x1 x2 x4 x6 x8 x10 x11 x13 x14 s0 h hf => ?_, ?_⟩
    · obtain ⟨y, hf, hi⟩ := pm_iter_s hf
      have hf : tX6_copy_82 x0 x1 x2 x4 x6 x8 x10 x11 x13 x14 s0 h = some y := hf
      unfold tX6_copy_82 at hf
      have K0 := pm_S3.rf h
      by_cases c8 : x13 = 0
      · have hf := pm_it hf c8
        obtain ⟨k9, hf⟩ := pm_if hf
        obtain ⟨v10, e11, hf⟩ := pm_bd hf
        cases hf
        exact pm_S3.trans (ih.2.2.2.2.1 x0 x1 x2 x4 x6 x8 x10 x11 x13 x14 s0 v10 h hi) K0
      · have hf := pm_ie hf c8
        cases hf
        exact pm_S3.trans (ih.2.2.2.2.1 x0 x1 x2 x4 x6 x8 x10 x11 x13 x14 s0 (((x14 &&& 65535).toInt32) + 1) h hi) K0
    refine ⟨fun x0 x1 x2 x4 x6 x8 x10 x11 x13 x14 x16 s0 h hf => ?_, ?_⟩
    · obtain ⟨y, hf, hi⟩ := pm_iter_s hf
      have hf : tX6_copy_108 x0 x1 x2 x4 x6 x8 x10 x11 x13 x14 x16 s0 h = some y := hf
      unfold tX6_copy_108 at hf
      have K0 := pm_S3.rf h
      by_cases c12 : x13 = 0
      · have hf := pm_it hf c12
        obtain ⟨k13, hf⟩ := pm_if hf
        obtain ⟨v14, e15, hf⟩ := pm_bd hf
        cases hf
        exact pm_S3.trans (ih.2.2.2.2.2 x0 x1 x2 x4 x6 x8 x10 x11 x13 x14 x16 s0 v14 h hi) K0
      · have hf := pm_ie hf c12
        cases hf
        exact pm_S3.trans (ih.2.2.2.2.2 x0 x1 x2 x4 x6 x8 x10 x11 x13 x14 x16 s0 (((x16 &&& 65535).toInt32) + 1) h hi) K0
    refine fun x0 x1 x2 x4 x6 x8 x10 x11 x13 x14 x16 x18 s0 h hf => ?_
    obtain ⟨y, hf, hi⟩ := pm_iter_s hf
    have hf : tX6_copy_134 x0 x1 x2 x4 x6 x8 x10 x11 x13 x14 x16 x18 s0 h = some y := hf
    unfold tX6_copy_134 at hf
    have K0 := pm_S3.rf h
    obtain ⟨y16, e17, hf⟩ := pm_lt hf
    obtain ⟨y18, e19, hf⟩ := pm_lt hf
    by_cases c20 : y18 ≤ 0
    · have hf := pm_it hf c20
      cases hf
      cases hi
      exact K0
    · have hf := pm_ie hf c20
      obtain ⟨k21, hf⟩ := pm_if hf
      obtain ⟨v22, e23, hf⟩ := pm_bd hf
      by_cases c24 : v22 = 0
      · have hf := pm_it hf c24
        cases hf
        cases hi
        exact K0
      · have hf := pm_ie hf c24
        obtain ⟨v25, e26, hf⟩ := pm_bd hf
        by_cases c27 : v25 = 0
        · have hf := pm_it hf c27
          cases hf
          cases hi
          exact K0
        · have hf := pm_ie hf c27
          by_cases c28 : x13 = 0
          · have hf := pm_it hf c28
            obtain ⟨v29, e30, hf⟩ := pm_bd hf
            obtain ⟨v31, e32, hf⟩ := pm_bd hf
            obtain ⟨k33, hf⟩ := pm_if hf
            obtain ⟨u34, hf⟩ := pm_if hf
            obtain ⟨v35, e36, hf⟩ := pm_bd hf
            obtain ⟨v37, e38, hf⟩ := pm_bd hf
            obtain ⟨u39, hf⟩ := pm_if hf
            obtain ⟨v40, e41, hf⟩ := pm_bd hf
            obtain ⟨k42, hf⟩ := pm_if hf
            obtain ⟨k43, hf⟩ := pm_if hf
            obtain ⟨u44, hf⟩ := pm_if hf
            obtain ⟨u45, hf⟩ := pm_if hf
            obtain ⟨y46, e47, hf⟩ := pm_lt hf
            obtain ⟨y48, e49, hf⟩ := pm_lt hf
            cases hf
            exact pm_S3.trans (ih.1 x0 x1 x2 x4 x6 y46 y48 (pm_cpI h v35 ((((x16 &&& 65535).toInt32) - 0).toNatClampNeg) v40 ((((x14 &&& 65535).toInt32) - 0).toNatClampNeg) y18.toNatClampNeg) hi) K0
          · have hf := pm_ie hf c28
            obtain ⟨y50, e51, hf⟩ := pm_lt hf
            obtain ⟨v52, e53, hf⟩ := pm_bd hf
            obtain ⟨v54, e55, hf⟩ := pm_bd hf
            obtain ⟨k56, hf⟩ := pm_if hf
            obtain ⟨u57, hf⟩ := pm_if hf
            obtain ⟨v58, e59, hf⟩ := pm_bd hf
            obtain ⟨v60, e61, hf⟩ := pm_bd hf
            obtain ⟨u62, hf⟩ := pm_if hf
            obtain ⟨v63, e64, hf⟩ := pm_bd hf
            obtain ⟨k65, hf⟩ := pm_if hf
            obtain ⟨k66, hf⟩ := pm_if hf
            obtain ⟨u67, hf⟩ := pm_if hf
            obtain ⟨u68, hf⟩ := pm_if hf
            obtain ⟨y69, e70, hf⟩ := pm_lt hf
            obtain ⟨y71, e72, hf⟩ := pm_lt hf
            cases hf
            exact pm_S3.trans (ih.1 x0 x1 x2 x4 x6 y69 y71 (pm_cpI h v58 ((((x16 &&& 65535).toInt32) - y50).toNatClampNeg) v63 ((((x14 &&& 65535).toInt32) - y50).toNatClampNeg) y18.toNatClampNeg) hi) K0
set_option maxHeartbeats 4000000 in
set_option maxRecDepth 100000 in
theorem kpX6_copy {h : pm_H} {a0 : Nat} {p1 : Int32} {p2 : Int64} {p3 : Int64} {p4 : Int64} {r : pm_H} (hf : fX6_copy h a0 p1 p2 p3 p4 = some r) : pm_S3 r h := by
  unfold fX6_copy at hf
  have K0 := pm_S3.rf h
  obtain ⟨n, hn⟩ := pm_lim_iter hf
  exact pm_S3.trans ((klX6_copy n).1 a0 p1 p2 p3 p4 0 0 h hn) K0
set_option maxHeartbeats 4000000 in
set_option maxRecDepth 100000 in
theorem kpX8_truncated_b215 {h : pm_H} {x2 : Int32} {x6 : Int32} {x7 : Int32} {x12 : Int64} {r : (Int64 × pm_H)} (hf : fX8_truncated_b215 h x2 x6 x7 x12 = some r) : pm_S3 r.2 h := by
  unfold fX8_truncated_b215 at hf
  have K0 := pm_S3.rf h
  by_cases c39 : x6 = 0
  · have hf := pm_it hf c39
    by_cases c40 : x7 = 0
    · have hf := pm_it hf c40
      cases hf
      exact K0
    · have hf := pm_ie hf c40
      cases hf
      exact K0
  · have hf := pm_ie hf c39
    by_cases c41 : x7 = 0
    · have hf := pm_it hf c41
      cases hf
      exact K0
    · have hf := pm_ie hf c41
      cases hf
      exact K0
set_option maxHeartbeats 4000000 in
set_option maxRecDepth 100000 in
theorem kpX8_truncated_b205 {h : pm_H} {x0 : Nat} {x2 : Int32} {x6 : Int32} {x7 : Int32} {x12 : Int64} {r : (Int64 × pm_H)} (hf : fX8_truncated_b205 h x0 x2 x6 x7 x12 = some r) : pm_S3 r.2 h := by
  unfold fX8_truncated_b205 at hf
  have K0 := pm_S3.rf h
  by_cases c37 : x6 = 0
  · have hf := pm_it hf c37
    obtain ⟨k38, hf⟩ := pm_if hf
    exact pm_S3.trans (kpX8_truncated_b215 hf) K0
  · have hf := pm_ie hf c37
    exact pm_S3.trans (kpX8_truncated_b215 hf) K0
set_option maxHeartbeats 4000000 in
set_option maxRecDepth 100000 in
theorem kpX8_truncated_b188 {h : pm_H} {x0 : Nat} {x2 : Int32} {x6 : Int32} {x7 : Int32} {x9 : Int64} {x11 : Int32} {s0 : Int64} {r : (Int64 × pm_H)} (hf : fX8_truncated_b188 h x0 x2 x6 x7 x9 x11 s0 = some r) : pm_S3 r.2 h := by
  unfold fX8_truncated_b188 at hf
  have K0 := pm_S3.rf h
  by_cases c32 : x11 = 0
  · have hf := pm_it hf c32
    obtain ⟨v33, e34, hf⟩ := pm_lt hf
    by_cases c35 : v33 ≤ 0
    · have hf := pm_it hf c35
      by_cases c36 : x7 = 0
      · have hf := pm_it hf c36
        cases hf
        exact K0
      · have hf := pm_ie hf c36
        cases hf
        exact K0
    · have hf := pm_ie hf c35
      exact pm_S3.trans (kpX8_truncated_b205 hf) K0
  · have hf := pm_ie hf c32
    exact pm_S3.trans (kpX8_truncated_b205 hf) K0
set_option maxHeartbeats 4000000 in
set_option maxRecDepth 100000 in
theorem kpX8_truncated_b146 {h : pm_H} {x0 : Nat} {x2 : Int32} {x6 : Int32} {x7 : Int32} {x8 : Int32} {x9 : Int64} {x11 : Int32} {r : (Int64 × pm_H)} (hf : fX8_truncated_b146 h x0 x2 x6 x7 x8 x9 x11 = some r) : pm_S3 r.2 h := by
  unfold fX8_truncated_b146 at hf
  have K0 := pm_S3.rf h
  by_cases c29 : x8 = 0
  · have hf := pm_it hf c29
    by_cases c30 : x7 = 0
    · have hf := pm_it hf c30
      exact pm_S3.trans (kpX8_truncated_b188 hf) K0
    · have hf := pm_ie hf c30
      exact pm_S3.trans (kpX8_truncated_b188 hf) K0
  · have hf := pm_ie hf c29
    by_cases c31 : x7 = 0
    · have hf := pm_it hf c31
      exact pm_S3.trans (kpX8_truncated_b188 hf) K0
    · have hf := pm_ie hf c31
      exact pm_S3.trans (kpX8_truncated_b188 hf) K0
set_option maxHeartbeats 4000000 in
set_option maxRecDepth 100000 in
theorem kpX8_truncated_b101 {h : pm_H} {x0 : Nat} {x1 : Int32} {x2 : Int32} {x4 : Int64} {x6 : Int32} {x7 : Int32} {x8 : Int32} {x9 : Int64} {x12 : Int32} {s0 : Int32} {r : (Int64 × pm_H)} (hf : fX8_truncated_b101 h x0 x1 x2 x4 x6 x7 x8 x9 x12 s0 = some r) : pm_S3 r.2 h := by
  unfold fX8_truncated_b101 at hf
  have K0 := pm_S3.rf h
  by_cases c19 : x12 < 0
  · have hf := pm_it hf c19
    by_cases c20 : x12 ≤ (-64)
    · have hf := pm_it hf c20
      exact pm_S3.trans (kpX8_truncated_b146 hf) K0
    · have hf := pm_ie hf c20
      obtain ⟨v21, e22, hf⟩ := pm_lt hf
      obtain ⟨y23, e24, hf⟩ := pm_lt hf
      exact pm_S3.trans (kpX8_truncated_b146 hf) K0
  · have hf := pm_ie hf c19
    obtain ⟨v25, e26, hf⟩ := pm_lt hf
    obtain ⟨y27, e28, hf⟩ := pm_lt hf
    exact pm_S3.trans (kpX8_truncated_b146 hf) K0
set_option maxHeartbeats 4000000 in
set_option maxRecDepth 100000 in
theorem kpX8_truncated_b54 {h : pm_H} {x0 : Nat} {x1 : Int32} {x2 : Int32} {x4 : Int64} {x6 : Int32} {x7 : Int32} {s0 : Int32} {r : (Int64 × pm_H)} (hf : fX8_truncated_b54 h x0 x1 x2 x4 x6 x7 s0 = some r) : pm_S3 r.2 h := by
  unfold fX8_truncated_b54 at hf
  have K0 := pm_S3.rf h
  obtain ⟨v10, e11, hf⟩ := pm_lt hf
  by_cases c12 : v10 = 0
  · have hf := pm_it hf c12
    obtain ⟨v13, e14, hf⟩ := pm_lt hf
    by_cases c15 : v13 = 0
    · have hf := pm_it hf c15
      obtain ⟨v16, e17, hf⟩ := pm_lt hf
      by_cases c18 : v16 ≤ 11
      · have hf := pm_it hf c18
        exact pm_S3.trans (kpX8_truncated_b101 hf) K0
      · have hf := pm_ie hf c18
        exact pm_S3.trans (kpX8_truncated_b101 hf) K0
    · have hf := pm_ie hf c15
      exact pm_S3.trans (kpX8_truncated_b146 hf) K0
  · have hf := pm_ie hf c12
    exact pm_S3.trans (kpX8_truncated_b146 hf) K0
set_option maxHeartbeats 4000000 in
set_option maxRecDepth 100000 in
theorem kpX8_truncated_b12 {h : pm_H} {x0 : Nat} {x1 : Int32} {x2 : Int32} {x3 : Int32} {x4 : Int64} {s0 : Int32} {r : (Int64 × pm_H)} (hf : fX8_truncated_b12 h x0 x1 x2 x3 x4 s0 = some r) : pm_S3 r.2 h := by
  unfold fX8_truncated_b12 at hf
  have K0 := pm_S3.rf h
  obtain ⟨v2, e3, hf⟩ := pm_lt hf
  by_cases c4 : v2 = 0
  · have hf := pm_it hf c4
    obtain ⟨v5, e6, hf⟩ := pm_lt hf
    by_cases c7 : (x3 &&& 1) = 0
    · have hf := pm_it hf c7
      exact pm_S3.trans (kpX8_truncated_b54 hf) K0
    · have hf := pm_ie hf c7
      exact pm_S3.trans (kpX8_truncated_b54 hf) K0
  · have hf := pm_ie hf c4
    by_cases c8 : s0 = 0
    · have hf := pm_it hf c8
      obtain ⟨k9, hf⟩ := pm_if hf
      cases hf
      exact K0
    · have hf := pm_ie hf c8
      cases hf
      exact K0
set_option maxHeartbeats 4000000 in
set_option maxRecDepth 100000 in
theorem kpX8_truncated {h : pm_H} {a0 : Nat} {p1 : Int32} {p2 : Int32} {p3 : Int32} {p4 : Int64} {r : (Int64 × pm_H)} (hf : fX8_truncated h a0 p1 p2 p3 p4 = some r) : pm_S3 r.2 h := by
  unfold fX8_truncated at hf
  have K0 := pm_S3.rf h
  by_cases c1 : p3 < 200
  · have hf := pm_it hf c1
    exact pm_S3.trans (kpX8_truncated_b12 hf) K0
  · have hf := pm_ie hf c1
    exact pm_S3.trans (kpX8_truncated_b12 hf) K0
set_option maxHeartbeats 4000000 in
set_option maxRecDepth 100000 in
theorem klX9_number {r : (Int64 × pm_H)} : ∀ n : Nat, (∀ (x0 : Nat) (x1 : Int32) (x2 : Int32) (x3 : Int64) (x5 : Int32) (h : pm_H), pm_iter sX9_number n (.inl (x0, x1, x2, x3, x5, h)) = some r → pm_S3 r.2 h) ∧ (∀ (x0 : Nat) (x1 : Int32) (x2 : Int32) (x3 : Int64) (x5 : Int32) (x7 : Int32) (h : pm_H), pm_iter sX9_number n (.inr (.inl (x0, x1, x2, x3, x5, x7, h))) = some r → pm_S3 r.2 h) ∧ (∀ (x0 : Nat) (x1 : Int32) (x2 : Int32) (x3 : Int64) (x5 : Int32) (x6 : Int32) (x7 : Int32) (s0 : Int32) (s1 : Int32) (s2 : Int32) (h : pm_H), pm_iter sX9_number n (.inr (.inr (x0, x1, x2, x3, x5, x6, x7, s0, s1, s2, h))) = some r → pm_S3 r.2 h) := by
  intro n
  induction n with
  | zero => exact ⟨fun _ _ _ _ _ _ hf => (by cases hf), fun _ _ _ _ _ _ _ hf => (by cases hf), fun _ _ _ _ _ _ _ _ _ _ _ hf => (by cases hf)⟩
  | succ n ih =>
    refine ⟨fun x0 x1 x2 x3 x5 h hf => ?_, ?_⟩
    · obtain ⟨y, hf, hi⟩ := pm_iter_s hf
      have hf : tX9_number_10 x0 x1 x2 x3 x5 h = some y := hf
      unfold tX9_number_10 at hf
      have K0 := pm_S3.rf h
      by_cases c3 : x2 ≤ x5
      · have hf := pm_it hf c3
        cases hf
        cases hi
        exact K0
      · have hf := pm_ie hf c3
        obtain ⟨k4, hf⟩ := pm_if hf
        by_cases c5 : (pm_I h x0 3) = 0
        · have hf := pm_it hf c5
          obtain ⟨y6, e7, hf⟩ := pm_lt hf
          obtain ⟨v8, e9, hf⟩ := pm_bd hf
          have K10 := pm_S3.trans (kpX9_next e9) K0
          obtain ⟨k11, hf⟩ := pm_if hf
          by_cases c12 : (pm_I v8.2 x0 3) = 0
          · have hf := pm_it hf c12
            by_cases c13 : (x5 + 7) < x2
            · have hf := pm_it hf c13
              cases hf
              exact pm_S3.trans (ih.2.1 x0 x1 x2 x3 x5 v8.1 v8.2 hi) K10
            · have hf := pm_ie hf c13
              by_cases c14 : 0 ≤ x1
              · have hf := pm_it hf c14
                cases hf
                exact pm_S3.trans (ih.2.2 x0 x1 x2 x3 x5 y6 v8.1 0 (x2 - x5) v8.1 v8.2 hi) K10
              · have hf := pm_ie hf c14
                cases hf
                exact pm_S3.trans (ih.2.2 x0 x1 x2 x3 x5 y6 v8.1 1 (x2 - x5) v8.1 v8.2 hi) K10
          · have hf := pm_ie hf c12
            cases hf
            cases hi
            exact K10
        · have hf := pm_ie hf c5
          cases hf
          cases hi
          exact K0
    refine ⟨fun x0 x1 x2 x3 x5 x7 h hf => ?_, ?_⟩
    · obtain ⟨y, hf, hi⟩ := pm_iter_s hf
      have hf : tX9_number_83 x0 x1 x2 x3 x5 x7 h = some y := hf
      unfold tX9_number_83 at hf
      have K0 := pm_S3.rf h
      obtain ⟨y15, e16, hf⟩ := pm_lt hf
      by_cases c17 : 128 ≤ x7
      · have hf := pm_it hf c17
        obtain ⟨y18, e19, hf⟩ := pm_lt hf
        cases hf
        exact pm_S3.trans (ih.1 x0 x1 x2 y15 y18 h hi) K0
      · have hf := pm_ie hf c17
        by_cases c20 : 0 ≤ x1
        · have hf := pm_it hf c20
          cases hf
          cases hi
          exact K0
        · have hf := pm_ie hf c20
          by_cases c21 : (x7 &&& 64) = 0
          · have hf := pm_it hf c21
            cases hf
            cases hi
            exact K0
          · have hf := pm_ie hf c21
            by_cases c22 : 57 ≤ x5
            · have hf := pm_it hf c22
              cases hf
              cases hi
              exact K0
            · have hf := pm_ie hf c22
              cases hf
              cases hi
              exact K0
    refine fun x0 x1 x2 x3 x5 x6 x7 s0 s1 s2 h hf => ?_
    obtain ⟨y, hf, hi⟩ := pm_iter_s hf
    have hf : tX9_number_68 x0 x1 x2 x3 x5 x6 x7 s0 s1 s2 h = some y := hf
    unfold tX9_number_68 at hf
    have K0 := pm_S3.rf h
    obtain ⟨v23, e24, hf⟩ := pm_lt hf
    by_cases c25 : v23 = 0
    · have hf := pm_it hf c25
      obtain ⟨k26, hf⟩ := pm_if hf
      obtain ⟨v27, e28, hf⟩ := pm_bd hf
      have K29 := pm_S3.trans (kpX9_fail e28) K0
      cases hf
      cases hi
      exact K29
    · have hf := pm_ie hf c25
      cases hf
      exact pm_S3.trans (ih.2.1 x0 x1 x2 x3 x5 x7 h hi) K0
set_option maxHeartbeats 4000000 in
set_option maxRecDepth 100000 in
theorem kpX9_number {h : pm_H} {a0 : Nat} {p1 : Int32} {r : (Int64 × pm_H)} (hf : fX9_number h a0 p1 = some r) : pm_S3 r.2 h := by
  unfold fX9_number at hf
  have K0 := pm_S3.rf h
  obtain ⟨y1, e2, hf⟩ := pm_lt hf
  obtain ⟨n, hn⟩ := pm_lim_iter hf
  exact pm_S3.trans ((klX9_number n).1 a0 p1 y1 0 0 h hn) K0
set_option maxHeartbeats 4000000 in
set_option maxRecDepth 100000 in
theorem klX9_selected {r : pm_H} : ∀ n : Nat, (∀ (x0 : Nat) (x1 : Int64) (h : pm_H), pm_iter sX9_selected n (x0, x1, h) = some r → pm_S3 r h) := by
  intro n
  induction n with
  | zero => exact fun _ _ _ hf => (by cases hf)
  | succ n ih =>
    refine fun x0 x1 h hf => ?_
    obtain ⟨y, hf, hi⟩ := pm_iter_s hf
    have hf : tX9_selected_32 x0 x1 h = some y := hf
    unfold tX9_selected_32 at hf
    have K0 := pm_S3.rf h
    obtain ⟨k11, hf⟩ := pm_if hf
    by_cases c12 : (pm_L h x0 8) ≤ x1
    · have hf := pm_it hf c12
      cases hf
      cases hi
      exact K0
    · have hf := pm_ie hf c12
      by_cases c13 : (pm_I h x0 3) = 0
      · have hf := pm_it hf c13
        obtain ⟨v14, e15, hf⟩ := pm_bd hf
        have K16 := pm_S3.trans (kpX9_valueType e15) K0
        obtain ⟨k17, hf⟩ := pm_if hf
        obtain ⟨y18, e19, hf⟩ := pm_lt hf
        cases hf
        exact pm_S3.trans (ih x0 y18 (pm_setL v14.2 x0 9 v14.1.toInt64) hi) K16
      · have hf := pm_ie hf c13
        cases hf
        cases hi
        exact K0
set_option maxHeartbeats 4000000 in
set_option maxRecDepth 100000 in
theorem kpX9_selected {h : pm_H} {a0 : Nat} {r : pm_H} (hf : fX9_selected h a0 = some r) : pm_S3 r h := by
  unfold fX9_selected at hf
  have K0 := pm_S3.rf h
  obtain ⟨k1, hf⟩ := pm_if hf
  obtain ⟨v2, e3, hf⟩ := pm_bd hf
  have K4 := pm_S3.trans (kpX9_number e3) K0
  obtain ⟨k5, hf⟩ := pm_if hf
  by_cases c6 : (pm_I (pm_setL v2.2 a0 8 v2.1) a0 16) = 0
  · have hf := pm_it hf c6
    obtain ⟨n, hn⟩ := pm_lim_iter hf
    exact pm_S3.trans ((klX9_selected n) a0 0 (pm_setL v2.2 a0 8 v2.1) hn) K4
  · have hf := pm_ie hf c6
    by_cases c7 : (pm_L (pm_setL v2.2 a0 8 v2.1) a0 8) = 1
    · have hf := pm_it hf c7
      obtain ⟨n, hn⟩ := pm_lim_iter hf
      exact pm_S3.trans ((klX9_selected n) a0 0 (pm_setL v2.2 a0 8 v2.1) hn) K4
    · have hf := pm_ie hf c7
      obtain ⟨v8, e9, hf⟩ := pm_bd hf
      have K10 := pm_S3.trans (kpX9_exceedLimit e9) K4
      obtain ⟨n, hn⟩ := pm_lim_iter hf
      exact pm_S3.trans ((klX9_selected n) a0 0 v8 hn) K10
set_option maxHeartbeats 4000000 in
set_option maxRecDepth 100000 in
theorem kpX10_addFunction {h : pm_H} {a0 : Nat} {p1 : Nat} {p2 : Nat} {p3 : Int32} {r : (Int32 × pm_H)} (hf : fX10_addFunction h a0 p1 p2 p3 = some r) : pm_S3 r.2 h := by
  unfold fX10_addFunction at hf
  have K0 := pm_S3.rf h
  obtain ⟨k1, hf⟩ := pm_if hf
  obtain ⟨y2, e3, hf⟩ := pm_lt hf
  by_cases c4 : y2 < 512
  · have hf := pm_it hf c4
    obtain ⟨v5, e6, hf⟩ := pm_bd hf
    obtain ⟨k7, hf⟩ := pm_if hf
    obtain ⟨k8, hf⟩ := pm_if hf
    obtain ⟨u9, hf⟩ := pm_if hf
    obtain ⟨v10, e11, hf⟩ := pm_bd hf
    obtain ⟨k12, hf⟩ := pm_if hf
    obtain ⟨k13, hf⟩ := pm_if hf
    obtain ⟨u14, hf⟩ := pm_if hf
    obtain ⟨v15, e16, hf⟩ := pm_bd hf
    obtain ⟨k17, hf⟩ := pm_if hf
    obtain ⟨u18, hf⟩ := pm_if hf
    obtain ⟨y19, e20, hf⟩ := pm_lt hf
    cases hf
    exact K0
  · have hf := pm_ie hf c4
    cases hf
    exact K0
set_option maxHeartbeats 4000000 in
set_option maxRecDepth 100000 in
theorem kpX12_move {h : pm_H} {p1 : Nat} {p2 : Int32} {p3 : Int32} {p4 : Int32} {r : pm_H} (hf : fX12_move h p1 p2 p3 p4 = some r) : pm_S3 r h := by
  unfold fX12_move at hf
  have K0 := pm_S3.rf h
  by_cases c1 : p4 ≤ 0
  · have hf := pm_it hf c1
    cases hf
    exact K0
  · have hf := pm_ie hf c1
    by_cases c2 : p2 < 0
    · have hf := pm_it hf c2
      cases hf
      exact K0
    · have hf := pm_ie hf c2
      by_cases c3 : p3 < 0
      · have hf := pm_it hf c3
        cases hf
        exact K0
      · have hf := pm_ie hf c3
        obtain ⟨k4, hf⟩ := pm_if hf
        by_cases c5 : ((Int32.ofNat (pm_ln h p1)) - p4) < p2
        · have hf := pm_it hf c5
          cases hf
          exact K0
        · have hf := pm_ie hf c5
          by_cases c6 : p3 ≤ ((Int32.ofNat (pm_ln h p1)) - p4)
          · have hf := pm_it hf c6
            obtain ⟨u7, hf⟩ := pm_if hf
            cases hf
            exact K0
          · have hf := pm_ie hf c6
            cases hf
            exact K0
set_option maxHeartbeats 4000000 in
set_option maxRecDepth 100000 in
theorem klJ7_fill_eb02e {r : pm_H} : ∀ n : Nat, (∀ (x0 : Nat) (x2 : Int32) (x3 : Int32) (x4 : Int32) (h : pm_H), pm_iter sJ7_fill_eb02e n (x0, x2, x3, x4, h) = some r → pm_S3 r h) := by
  intro n
  induction n with
  | zero => exact fun _ _ _ _ _ hf => (by cases hf)
  | succ n ih =>
    refine fun x0 x2 x3 x4 h hf => ?_
    obtain ⟨y, hf, hi⟩ := pm_iter_s hf
    have hf : tJ7_fill_eb02e_10 x0 x2 x3 x4 h = some y := hf
    unfold tJ7_fill_eb02e_10 at hf
    have K0 := pm_S3.rf h
    by_cases c4 : x2 ≤ x4
    · have hf := pm_it hf c4
      cases hf
      cases hi
      exact K0
    · have hf := pm_ie hf c4
      obtain ⟨k5, hf⟩ := pm_if hf
      obtain ⟨u6, hf⟩ := pm_if hf
      obtain ⟨y7, e8, hf⟩ := pm_lt hf
      cases hf
      exact pm_S3.trans (ih x0 x2 x3 y7 (pm_setI h x0 x4.toNatClampNeg (vp_nar .byte x3)) hi) K0
set_option maxHeartbeats 4000000 in
set_option maxRecDepth 100000 in
theorem kpJ7_fill_eb02e {h : pm_H} {p1 : Nat} {p2 : Int32} {p3 : Int32} {p4 : Int32} {r : pm_H} (hf : fJ7_fill_eb02e h p1 p2 p3 p4 = some r) : pm_S3 r h := by
  unfold fJ7_fill_eb02e at hf
  have K0 := pm_S3.rf h
  obtain ⟨k1, hf⟩ := pm_if hf
  obtain ⟨v2, e3, hf⟩ := pm_bd hf
  obtain ⟨n, hn⟩ := pm_lim_iter hf
  exact pm_S3.trans ((klJ7_fill_eb02e n) p1 p3 p4 p2 h hn) K0
set_option maxHeartbeats 4000000 in
set_option maxRecDepth 100000 in
theorem klJ7_fill_fda19 {r : pm_H} : ∀ n : Nat, (∀ (x0 : Nat) (x2 : Int32) (x3 : Int32) (x4 : Int32) (h : pm_H), pm_iter sJ7_fill_fda19 n (x0, x2, x3, x4, h) = some r → pm_S3 r h) := by
  intro n
  induction n with
  | zero => exact fun _ _ _ _ _ hf => (by cases hf)
  | succ n ih =>
    refine fun x0 x2 x3 x4 h hf => ?_
    obtain ⟨y, hf, hi⟩ := pm_iter_s hf
    have hf : tJ7_fill_fda19_10 x0 x2 x3 x4 h = some y := hf
    unfold tJ7_fill_fda19_10 at hf
    have K0 := pm_S3.rf h
    by_cases c4 : x2 ≤ x4
    · have hf := pm_it hf c4
      cases hf
      cases hi
      exact K0
    · have hf := pm_ie hf c4
      obtain ⟨k5, hf⟩ := pm_if hf
      obtain ⟨u6, hf⟩ := pm_if hf
      obtain ⟨y7, e8, hf⟩ := pm_lt hf
      cases hf
      exact pm_S3.trans (ih x0 x2 x3 y7 (pm_setI h x0 x4.toNatClampNeg x3) hi) K0
set_option maxHeartbeats 4000000 in
set_option maxRecDepth 100000 in
theorem kpJ7_fill_fda19 {h : pm_H} {p1 : Nat} {p2 : Int32} {p3 : Int32} {p4 : Int32} {r : pm_H} (hf : fJ7_fill_fda19 h p1 p2 p3 p4 = some r) : pm_S3 r h := by
  unfold fJ7_fill_fda19 at hf
  have K0 := pm_S3.rf h
  obtain ⟨k1, hf⟩ := pm_if hf
  obtain ⟨v2, e3, hf⟩ := pm_bd hf
  obtain ⟨n, hn⟩ := pm_lim_iter hf
  exact pm_S3.trans ((klJ7_fill_fda19 n) p1 p3 p4 p2 h hn) K0
set_option maxHeartbeats 4000000 in
set_option maxRecDepth 100000 in
theorem klX1_readLocals {r : pm_H} : ∀ n : Nat, (∀ (x0 : Nat) (x1 : Int32) (h : pm_H), pm_iter sX1_readLocals n (.inl (x0, x1, h)) = some r → pm_S3 r h) ∧ (∀ (x0 : Nat) (x1 : Int64) (x3 : Int64) (h : pm_H), pm_iter sX1_readLocals n (.inr (.inl (x0, x1, x3, h))) = some r → pm_S3 r h) ∧ (∀ (x0 : Nat) (x1 : Int64) (x3 : Int64) (x5 : Int32) (x6 : Int32) (x7 : Int32) (h : pm_H), pm_iter sX1_readLocals n (.inr (.inr (x0, x1, x3, x5, x6, x7, h))) = some r → pm_S3 r h) := by
  intro n
  induction n with
  | zero => exact ⟨fun _ _ _ hf => (by cases hf), fun _ _ _ _ hf => (by cases hf), fun _ _ _ _ _ _ _ hf => (by cases hf)⟩
  | succ n ih =>
    refine ⟨fun x0 x1 h hf => ?_, ?_⟩
    · obtain ⟨y, hf, hi⟩ := pm_iter_s hf
      have hf : tX1_readLocals_17 x0 x1 h = some y := hf
      unfold tX1_readLocals_17 at hf
      have K0 := pm_S3.rf h
      obtain ⟨k9, hf⟩ := pm_if hf
      by_cases c10 : (pm_I h x0 12) ≤ x1
      · have hf := pm_it hf c10
        obtain ⟨v11, e12, hf⟩ := pm_bd hf
        obtain ⟨k13, hf⟩ := pm_if hf
        obtain ⟨v14, e15, hf⟩ := pm_bd hf
        have K16 := pm_S3.trans (kpX9_number e15) K0
        cases hf
        exact pm_S3.trans (ih.2.1 x0 v14.1 0 v14.2 hi) K16
      · have hf := pm_ie hf c10
        obtain ⟨v17, e18, hf⟩ := pm_bd hf
        obtain ⟨v19, e20, hf⟩ := pm_bd hf
        obtain ⟨k21, hf⟩ := pm_if hf
        obtain ⟨v22, e23, hf⟩ := pm_bd hf
        obtain ⟨v24, e25, hf⟩ := pm_bd hf
        obtain ⟨v26, e27, hf⟩ := pm_bd hf
        have K28 := pm_S3.trans (kpX12_setItem e27) K0
        obtain ⟨y29, e30, hf⟩ := pm_lt hf
        cases hf
        exact pm_S3.trans (ih.1 x0 y29 v26 hi) K28
    refine ⟨fun x0 x1 x3 h hf => ?_, ?_⟩
    · obtain ⟨y, hf, hi⟩ := pm_iter_s hf
      have hf : tX1_readLocals_69 x0 x1 x3 h = some y := hf
      unfold tX1_readLocals_69 at hf
      have K0 := pm_S3.rf h
      by_cases c31 : x1 ≤ x3
      · have hf := pm_it hf c31
        cases hf
        cases hi
        exact K0
      · have hf := pm_ie hf c31
        obtain ⟨k32, hf⟩ := pm_if hf
        obtain ⟨v33, e34, hf⟩ := pm_bd hf
        obtain ⟨k35, hf⟩ := pm_if hf
        by_cases c36 : (pm_I h v33 3) = 0
        · have hf := pm_it hf c36
          obtain ⟨v37, e38, hf⟩ := pm_bd hf
          have K39 := pm_S3.trans (kpX9_number e38) K0
          obtain ⟨k40, hf⟩ := pm_if hf
          obtain ⟨v41, e42, hf⟩ := pm_bd hf
          obtain ⟨k43, hf⟩ := pm_if hf
          obtain ⟨y44, e45, hf⟩ := pm_lt hf
          obtain ⟨y46, e47, hf⟩ := pm_lt hf
          obtain ⟨v48, e49, hf⟩ := pm_bd hf
          obtain ⟨k50, hf⟩ := pm_if hf
          obtain ⟨v51, e52, hf⟩ := pm_bd hf
          have K53 := pm_S3.trans (kpX9_next e52) K39
          by_cases c54 : y46 ≤ 0
          · have hf := pm_it hf c54
            cases hf
            exact pm_S3.trans (ih.2.2 x0 x1 x3 y46 v51.1 0 v51.2 hi) K53
          · have hf := pm_ie hf c54
            by_cases c55 : v51.1 = 112
            · have hf := pm_it hf c55
              obtain ⟨k56, hf⟩ := pm_if hf
              obtain ⟨v57, e58, hf⟩ := pm_bd hf
              obtain ⟨v59, e60, hf⟩ := pm_bd hf
              have K61 := pm_S3.trans (kpX12_setItem e60) K53
              obtain ⟨k62, hf⟩ := pm_if hf
              obtain ⟨v63, e64, hf⟩ := pm_bd hf
              obtain ⟨v65, e66, hf⟩ := pm_bd hf
              have K67 := pm_S3.trans (kpX12_setItem e66) K61
              obtain ⟨k68, hf⟩ := pm_if hf
              obtain ⟨v69, e70, hf⟩ := pm_bd hf
              obtain ⟨k71, hf⟩ := pm_if hf
              obtain ⟨y72, e73, hf⟩ := pm_lt hf
              obtain ⟨y74, e75, hf⟩ := pm_lt hf
              cases hf
              exact pm_S3.trans (ih.2.2 x0 x1 x3 y46 v51.1 0 (pm_setI v65 x0 14 y74) hi) K67
            · have hf := pm_ie hf c55
              by_cases c76 : v51.1 = 111
              · have hf := pm_it hf c76
                obtain ⟨k77, hf⟩ := pm_if hf
                obtain ⟨v78, e79, hf⟩ := pm_bd hf
                obtain ⟨v80, e81, hf⟩ := pm_bd hf
                have K82 := pm_S3.trans (kpX12_setItem e81) K53
                obtain ⟨k83, hf⟩ := pm_if hf
                obtain ⟨v84, e85, hf⟩ := pm_bd hf
                obtain ⟨v86, e87, hf⟩ := pm_bd hf
                have K88 := pm_S3.trans (kpX12_setItem e87) K82
                obtain ⟨k89, hf⟩ := pm_if hf
                obtain ⟨v90, e91, hf⟩ := pm_bd hf
                obtain ⟨k92, hf⟩ := pm_if hf
                obtain ⟨y93, e94, hf⟩ := pm_lt hf
                obtain ⟨y95, e96, hf⟩ := pm_lt hf
                cases hf
                exact pm_S3.trans (ih.2.2 x0 x1 x3 y46 v51.1 0 (pm_setI v86 x0 14 y95) hi) K88
              · have hf := pm_ie hf c76
                cases hf
                exact pm_S3.trans (ih.2.2 x0 x1 x3 y46 v51.1 0 v51.2 hi) K53
        · have hf := pm_ie hf c36
          cases hf
          cases hi
          exact K0
    refine fun x0 x1 x3 x5 x6 x7 h hf => ?_
    obtain ⟨y, hf, hi⟩ := pm_iter_s hf
    have hf : tX1_readLocals_195 x0 x1 x3 x5 x6 x7 h = some y := hf
    unfold tX1_readLocals_195 at hf
    have K0 := pm_S3.rf h
    by_cases c97 : x5 ≤ x7
    · have hf := pm_it hf c97
      obtain ⟨k98, hf⟩ := pm_if hf
      obtain ⟨y99, e100, hf⟩ := pm_lt hf
      obtain ⟨y101, e102, hf⟩ := pm_lt hf
      cases hf
      exact pm_S3.trans (ih.2.1 x0 x1 y101 (pm_setI h x0 12 y99) hi) K0
    · have hf := pm_ie hf c97
      obtain ⟨k103, hf⟩ := pm_if hf
      obtain ⟨v104, e105, hf⟩ := pm_bd hf
      obtain ⟨v106, e107, hf⟩ := pm_bd hf
      have K108 := pm_S3.trans (kpX12_setItem e107) K0
      obtain ⟨y109, e110, hf⟩ := pm_lt hf
      cases hf
      exact pm_S3.trans (ih.2.2 x0 x1 x3 x5 x6 y109 v106 hi) K108
set_option maxHeartbeats 4000000 in
set_option maxRecDepth 100000 in
theorem kpX1_readLocals {h : pm_H} {a0 : Nat} {r : pm_H} (hf : fX1_readLocals h a0 = some r) : pm_S3 r h := by
  unfold fX1_readLocals at hf
  have K0 := pm_S3.rf h
  obtain ⟨k1, hf⟩ := pm_if hf
  obtain ⟨v2, e3, hf⟩ := pm_bd hf
  obtain ⟨k4, hf⟩ := pm_if hf
  obtain ⟨v5, e6, hf⟩ := pm_bd hf
  obtain ⟨v7, e8, hf⟩ := pm_bd hf
  obtain ⟨n, hn⟩ := pm_lim_iter hf
  exact pm_S3.trans ((klX1_readLocals n).1 a0 0 (pm_setI h a0 12 v7) hn) K0
set_option maxHeartbeats 4000000 in
set_option maxRecDepth 100000 in
theorem kpX5_branchOnRegisters {h : pm_H} {a0 : Nat} {p1 : Int32} {r : pm_H} (hf : fX5_branchOnRegisters h a0 p1 = some r) : pm_S3 r h := by
  unfold fX5_branchOnRegisters at hf
  have K0 := pm_S3.rf h
  obtain ⟨k1, hf⟩ := pm_if hf
  obtain ⟨v2, e3, hf⟩ := pm_bd hf
  obtain ⟨k4, hf⟩ := pm_if hf
  obtain ⟨v5, e6, hf⟩ := pm_bd hf
  obtain ⟨v7, e8, hf⟩ := pm_bd hf
  obtain ⟨y9, e10, hf⟩ := pm_lt hf
  obtain ⟨v11, e12, hf⟩ := pm_bd hf
  obtain ⟨y13, e14, hf⟩ := pm_lt hf
  obtain ⟨v15, e16, hf⟩ := pm_bd hf
  obtain ⟨v17, e18, hf⟩ := pm_bd hf
  obtain ⟨v19, e20, hf⟩ := pm_bd hf
  have K21 := pm_S3.trans (kpX12_move e20) K0
  obtain ⟨k22, hf⟩ := pm_if hf
  obtain ⟨v23, e24, hf⟩ := pm_bd hf
  obtain ⟨k25, hf⟩ := pm_if hf
  obtain ⟨v26, e27, hf⟩ := pm_bd hf
  obtain ⟨v28, e29, hf⟩ := pm_bd hf
  cases hf
  exact K21
set_option maxHeartbeats 4000000 in
set_option maxRecDepth 100000 in
theorem kpX5_branchOnStack {h : pm_H} {a0 : Nat} {p1 : Int32} {r : pm_H} (hf : fX5_branchOnStack h a0 p1 = some r) : pm_S3 r h := by
  unfold fX5_branchOnStack at hf
  have K0 := pm_S3.rf h
  obtain ⟨k1, hf⟩ := pm_if hf
  obtain ⟨v2, e3, hf⟩ := pm_bd hf
  obtain ⟨k4, hf⟩ := pm_if hf
  obtain ⟨v5, e6, hf⟩ := pm_bd hf
  obtain ⟨v7, e8, hf⟩ := pm_bd hf
  obtain ⟨v9, e10, hf⟩ := pm_bd hf
  obtain ⟨k11, hf⟩ := pm_if hf
  obtain ⟨v12, e13, hf⟩ := pm_bd hf
  obtain ⟨y14, e15, hf⟩ := pm_lt hf
  obtain ⟨v16, e17, hf⟩ := pm_bd hf
  obtain ⟨v18, e19, hf⟩ := pm_bd hf
  have K20 := pm_S3.trans (kpX12_move e19) K0
  obtain ⟨k21, hf⟩ := pm_if hf
  obtain ⟨v22, e23, hf⟩ := pm_bd hf
  obtain ⟨y24, e25, hf⟩ := pm_lt hf
  obtain ⟨k26, hf⟩ := pm_if hf
  obtain ⟨v27, e28, hf⟩ := pm_bd hf
  obtain ⟨v29, e30, hf⟩ := pm_bd hf
  cases hf
  exact K20
set_option maxHeartbeats 4000000 in
set_option maxRecDepth 100000 in
theorem kpX5_enter {h : pm_H} {a0 : Nat} {p1 : Int32} {p2 : Int32} {r : pm_H} (hf : fX5_enter h a0 p1 p2 = some r) : pm_S3 r h := by
  unfold fX5_enter at hf
  have K0 := pm_S3.rf h
  obtain ⟨k1, hf⟩ := pm_if hf
  obtain ⟨v2, e3, hf⟩ := pm_bd hf
  obtain ⟨k4, hf⟩ := pm_if hf
  obtain ⟨v5, e6, hf⟩ := pm_bd hf
  obtain ⟨k7, hf⟩ := pm_if hf
  obtain ⟨v8, e9, hf⟩ := pm_bd hf
  obtain ⟨v10, e11, hf⟩ := pm_bd hf
  obtain ⟨v12, e13, hf⟩ := pm_bd hf
  by_cases c14 : v12 < 0
  · have hf := pm_it hf c14
    obtain ⟨y15, e16, hf⟩ := pm_lt hf
    by_cases c17 : (pm_I h a0 3) < 0
    · have hf := pm_it hf c17
      obtain ⟨v18, e19, hf⟩ := pm_bd hf
      have K20 := pm_S3.trans (kpX5_stop e19) K0
      cases hf
      exact K20
    · have hf := pm_ie hf c17
      by_cases c21 : 200 ≤ (pm_I h a0 3)
      · have hf := pm_it hf c21
        obtain ⟨v22, e23, hf⟩ := pm_bd hf
        have K24 := pm_S3.trans (kpX5_stop e23) K0
        cases hf
        exact K24
      · have hf := pm_ie hf c21
        by_cases c25 : y15 ≤ 4096
        · have hf := pm_it hf c25
          obtain ⟨v26, e27, hf⟩ := pm_bd hf
          obtain ⟨y28, e29, hf⟩ := pm_lt hf
          obtain ⟨k30, hf⟩ := pm_if hf
          obtain ⟨u31, hf⟩ := pm_if hf
          obtain ⟨v32, e33, hf⟩ := pm_bd hf
          obtain ⟨y34, e35, hf⟩ := pm_lt hf
          obtain ⟨v36, e37, hf⟩ := pm_bd hf
          obtain ⟨v38, e39, hf⟩ := pm_bd hf
          obtain ⟨k40, hf⟩ := pm_if hf
          obtain ⟨v41, e42, hf⟩ := pm_bd hf
          obtain ⟨k43, hf⟩ := pm_if hf
          obtain ⟨v44, e45, hf⟩ := pm_bd hf
          obtain ⟨k46, hf⟩ := pm_if hf
          obtain ⟨v47, e48, hf⟩ := pm_bd hf
          obtain ⟨v49, e50, hf⟩ := pm_bd hf
          obtain ⟨k51, hf⟩ := pm_if hf
          obtain ⟨v52, e53, hf⟩ := pm_bd hf
          obtain ⟨k54, hf⟩ := pm_if hf
          obtain ⟨y55, e56, hf⟩ := pm_lt hf
          obtain ⟨y57, e58, hf⟩ := pm_lt hf
          obtain ⟨v59, e60, hf⟩ := pm_bd hf
          obtain ⟨k61, hf⟩ := pm_if hf
          obtain ⟨v62, e63, hf⟩ := pm_bd hf
          have K64 := pm_S3.trans (kpX10_countFrame e63) K0
          obtain ⟨k65, hf⟩ := pm_if hf
          obtain ⟨u66, hf⟩ := pm_if hf
          obtain ⟨k67, hf⟩ := pm_if hf
          obtain ⟨v68, e69, hf⟩ := pm_bd hf
          obtain ⟨v70, e71, hf⟩ := pm_bd hf
          have K72 := pm_S3.trans (kpX12_move e71) K64
          obtain ⟨k73, hf⟩ := pm_if hf
          obtain ⟨v74, e75, hf⟩ := pm_bd hf
          have K76 := pm_S3.trans (kpX5_clearLocals e75) K72
          obtain ⟨k77, hf⟩ := pm_if hf
          cases hf
          exact K76
        · have hf := pm_ie hf c25
          obtain ⟨v78, e79, hf⟩ := pm_bd hf
          have K80 := pm_S3.trans (kpX5_stop e79) K0
          cases hf
          exact K80
  · have hf := pm_ie hf c14
    obtain ⟨v81, e82, hf⟩ := pm_bd hf
    have K83 := pm_S3.trans (kpX5_tell e82) K0
    obtain ⟨k84, hf⟩ := pm_if hf
    cases hf
    exact K83
