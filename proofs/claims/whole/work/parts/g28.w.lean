abbrev WX16_checksAll : List Nat := [2055, 2056, 2067, 2069, 2071, 2072, 2077, 2078, 2079, 4096, 4352, 4480]
set_option maxHeartbeats 4000000 in
set_option maxRecDepth 100000 in
theorem wlX16_checksAll {h0 : pm_H} {r : ((Nat × pm_H) ⊕ pm_H)} : ∀ n : Nat, (∀ (x0 : Nat) (h : pm_H), pw_F WX16_checksAll h0 h → pm_iter sX16_checksAll n (.inl (x0, h)) = some r → pt_WV WX16_checksAll h0 r) ∧ (∀ (x0 : Nat) (h : pm_H), pw_F WX16_checksAll h0 h → pm_iter sX16_checksAll n (.inr (.inl (x0, h))) = some r → pt_WV WX16_checksAll h0 r) ∧ (∀ (x0 : Nat) (s0 : Int32) (s1 : Int32) (s2 : Nat) (h : pm_H), pw_F WX16_checksAll h0 h → pm_iter sX16_checksAll n (.inr (.inr (.inl (x0, s0, s1, s2, h)))) = some r → pt_WV WX16_checksAll h0 r) ∧ (∀ (x0 : Nat) (x1 : Int32) (h : pm_H), pw_F WX16_checksAll h0 h → pm_iter sX16_checksAll n (.inr (.inr (.inr (.inl (x0, x1, h))))) = some r → pt_WV WX16_checksAll h0 r) ∧ (∀ (x0 : Nat) (s0 : Int32) (h : pm_H), pw_F WX16_checksAll h0 h → pm_iter sX16_checksAll n (.inr (.inr (.inr (.inr (.inl (x0, s0, h)))))) = some r → pt_WV WX16_checksAll h0 r) ∧ (∀ (x0 : Nat) (x1 : Int32) (h : pm_H), pw_F WX16_checksAll h0 h → pm_iter sX16_checksAll n (.inr (.inr (.inr (.inr (.inr (.inl (x0, x1, h))))))) = some r → pt_WV WX16_checksAll h0 r) ∧ (∀ (x0 : Nat) (x1 : Int32) (s0 : Int32) (h : pm_H), pw_F WX16_checksAll h0 h → pm_iter sX16_checksAll n (.inr (.inr (.inr (.inr (.inr (.inr (.inl (x0, x1, s0, h)))))))) = some r → pt_WV WX16_checksAll h0 r) ∧ (∀ (x0 : Nat) (x1 : Int32) (h : pm_H), pw_F WX16_checksAll h0 h → pm_iter sX16_checksAll n (.inr (.inr (.inr (.inr (.inr (.inr (.inr (.inl (x0, x1, h))))))))) = some r → pt_WV WX16_checksAll h0 r) ∧ (∀ (x0 : Nat) (x1 : Int32) (h : pm_H), pw_F WX16_checksAll h0 h → pm_iter sX16_checksAll n (.inr (.inr (.inr (.inr (.inr (.inr (.inr (.inr (x0, x1, h))))))))) = some r → pt_WV WX16_checksAll h0 r) := by
  intro n
  induction n with
  | zero => exact ⟨fun _ _ _ hf => (by cases hf), fun _ _ _ hf => (by cases hf), fun _ _ _ _ _ _ hf => (by cases hf), fun _ _ _ _ hf => (by cases hf), fun _ _ _ _ hf => (by cases hf), fun _ _ _ _ hf => (by cases hf), fun _ _ _ _ _ hf => (by cases hf), fun _ _ _ _ hf => (by cases hf), fun _ _ _ _ hf => (by cases hf)⟩
  | succ n ih =>
    refine ⟨fun x0 h K0 hf => ?_, ?_⟩
    · obtain ⟨y, hf, hi⟩ := pm_iter_s hf
      have hf : tX16_checksAll_23 x0 h = some y := hf
      unfold tX16_checksAll_23 at hf
      obtain ⟨k11, hf⟩ := pm_if hf
      obtain ⟨v12, e13, hf⟩ := pm_bd hf
      rcases v12 with z15 | w14
      · have hf := pt_sl hf
        cases hf
        cases hi
        exact pw_t (by decide) K0 (show pw_F _ _ z15.2 from wfX16_checksTypes (pw_rf _) e13)
      have K16 := pw_t (by decide) K0 (show pw_F _ _ w14 from wfX16_checksTypes (pw_rf _) e13)
      have hf := pt_sr hf
      obtain ⟨k17, hf⟩ := pm_if hf
      obtain ⟨v18, e19, hf⟩ := pm_bd hf
      rcases v18 with z21 | w20
      · have hf := pt_sl hf
        cases hf
        cases hi
        exact pw_t (by decide) K16 (show pw_F _ _ z21.2 from wfX16_checksLimits (pw_rf _) e19)
      have K22 := pw_t (by decide) K16 (show pw_F _ _ w20 from wfX16_checksLimits (pw_rf _) e19)
      have hf := pt_sr hf
      obtain ⟨k23, hf⟩ := pm_if hf
      obtain ⟨v24, e25, hf⟩ := pm_bd hf
      obtain ⟨k26, hf⟩ := pm_if hf
      obtain ⟨v27, e28, hf⟩ := pm_bd hf
      by_cases c29 : v27 ≤ 1
      · have hf := pm_it hf c29
        cases hf
        exact ih.2.1 x0 w20 K22  hi
      · have hf := pm_ie hf c29
        obtain ⟨v30, e31, hf⟩ := pm_bd hf
        obtain ⟨k32, hf⟩ := pm_if hf
        obtain ⟨u33, hf⟩ := pm_if hf
        by_cases c34 : (pm_I w20 v30 (5 : Int32).toNatClampNeg) < 0
        · have hf := pm_it hf c34
          obtain ⟨u35, hf⟩ := pm_if hf
          cases hf
          exact ih.2.2.1 x0 (pm_I w20 v30 (2 : Int32).toNatClampNeg) 22 x0 w20 K22  hi
        · have hf := pm_ie hf c34
          obtain ⟨u36, hf⟩ := pm_if hf
          cases hf
          exact ih.2.2.1 x0 (pm_I w20 v30 (5 : Int32).toNatClampNeg) 22 x0 w20 K22  hi
    refine ⟨fun x0 h K0 hf => ?_, ?_⟩
    · obtain ⟨y, hf, hi⟩ := pm_iter_s hf
      have hf : tX16_checksAll_82 x0 h = some y := hf
      unfold tX16_checksAll_82 at hf
      obtain ⟨k37, hf⟩ := pm_if hf
      obtain ⟨v38, e39, hf⟩ := pm_bd hf
      rcases v38 with z41 | w40
      · have hf := pt_sl hf
        cases hf
        cases hi
        exact pw_t (by decide) K0 (show pw_F _ _ z41.2 from wfX16_checksExports (pw_rf _) e39)
      have K42 := pw_t (by decide) K0 (show pw_F _ _ w40 from wfX16_checksExports (pw_rf _) e39)
      have hf := pt_sr hf
      obtain ⟨k43, hf⟩ := pm_if hf
      obtain ⟨v44, e45, hf⟩ := pm_bd hf
      obtain ⟨k46, hf⟩ := pm_if hf
      by_cases c47 : (pm_L w40 v44 33) < 0
      · have hf := pm_it hf c47
        obtain ⟨v48, e49, hf⟩ := pm_bd hf
        have K50 := pw_t (by decide) K42 (wfX16_declares (pw_rf _) e49)
        cases hf
        exact ih.2.2.2.1 x0 0 v48 K50  hi
      · have hf := pm_ie hf c47
        obtain ⟨v51, e52, hf⟩ := pm_bd hf
        by_cases c53 : v51.toInt64 ≤ (pm_L w40 v44 33)
        · have hf := pm_it hf c53
          cases hf
          exact ih.2.2.2.2.1 x0 0 w40 K42  hi
        · have hf := pm_ie hf c53
          cases hf
          exact ih.2.2.2.2.1 x0 1 w40 K42  hi
    refine ⟨fun x0 s0 s1 s2 h K0 hf => ?_, ?_⟩
    · obtain ⟨y, hf, hi⟩ := pm_iter_s hf
      have hf : tX16_checksAll_79 x0 s0 s1 s2 h = some y := hf
      unfold tX16_checksAll_79 at hf
      obtain ⟨k54, hf⟩ := pm_if hf
      obtain ⟨v55, e56, hf⟩ := pm_bd hf
      rcases v55 with z58 | w57
      · have hf := pt_sl hf
        cases hf
        cases hi
        exact pw_t (by decide) K0 (show pw_F _ _ z58.2 from wfX16_stops (pw_rf _) e56)
      have K59 := pw_t (by decide) K0 (show pw_F _ _ w57 from wfX16_stops (pw_rf _) e56)
      have hf := pt_sr hf
      cases hf
      exact ih.2.1 x0 w57 K59  hi
    refine ⟨fun x0 x1 h K0 hf => ?_, ?_⟩
    · obtain ⟨y, hf, hi⟩ := pm_iter_s hf
      have hf : tX16_checksAll_196 x0 x1 h = some y := hf
      unfold tX16_checksAll_196 at hf
      obtain ⟨k60, hf⟩ := pm_if hf
      obtain ⟨v61, e62, hf⟩ := pm_bd hf
      obtain ⟨k63, hf⟩ := pm_if hf
      by_cases c64 : (pm_I h v61 24) ≤ x1
      · have hf := pm_it hf c64
        cases hf
        exact ih.2.2.2.2.2.1 x0 0 h K0  hi
      · have hf := pm_ie hf c64
        obtain ⟨v65, e66, hf⟩ := pm_bd hf
        obtain ⟨k67, hf⟩ := pm_if hf
        obtain ⟨u68, hf⟩ := pm_if hf
        obtain ⟨v69, e70, hf⟩ := pm_bd hf
        obtain ⟨k71, hf⟩ := pm_if hf
        obtain ⟨u72, hf⟩ := pm_if hf
        obtain ⟨v73, e74, hf⟩ := pm_bd hf
        rcases v73 with z76 | w75
        · have hf := pt_sl hf
          cases hf
          cases hi
          exact pw_t (by decide) K0 (show pw_F _ _ z76.2 from wfX16_constantly (pw_rf _) e74)
        have K77 := pw_t (by decide) K0 (show pw_F _ _ w75 from wfX16_constantly (pw_rf _) e74)
        have hf := pt_sr hf
        obtain ⟨y78, e79, hf⟩ := pm_lt hf
        cases hf
        exact ih.2.2.2.1 x0 y78 w75 K77  hi
    refine ⟨fun x0 s0 h K0 hf => ?_, ?_⟩
    · obtain ⟨y, hf, hi⟩ := pm_iter_s hf
      have hf : tX16_checksAll_123 x0 s0 h = some y := hf
      unfold tX16_checksAll_123 at hf
      by_cases c80 : s0 = 0
      · have hf := pm_it hf c80
        cases hf
        exact ih.2.2.2.2.2.2.1 x0 s0 0 h K0  hi
      · have hf := pm_ie hf c80
        obtain ⟨k81, hf⟩ := pm_if hf
        obtain ⟨v82, e83, hf⟩ := pm_bd hf
        obtain ⟨k84, hf⟩ := pm_if hf
        obtain ⟨v85, e86, hf⟩ := pm_bd hf
        cases hf
        exact ih.2.2.2.2.2.2.1 x0 s0 v85 h K0  hi
    refine ⟨fun x0 x1 h K0 hf => ?_, ?_⟩
    · obtain ⟨y, hf, hi⟩ := pm_iter_s hf
      have hf : tX16_checksAll_237 x0 x1 h = some y := hf
      unfold tX16_checksAll_237 at hf
      obtain ⟨k87, hf⟩ := pm_if hf
      obtain ⟨v88, e89, hf⟩ := pm_bd hf
      obtain ⟨k90, hf⟩ := pm_if hf
      by_cases c91 : (pm_I h v88 34) ≤ x1
      · have hf := pm_it hf c91
        cases hf
        exact ih.2.2.2.2.2.2.2.1 x0 0 h K0  hi
      · have hf := pm_ie hf c91
        obtain ⟨v92, e93, hf⟩ := pm_bd hf
        rcases v92 with z95 | w94
        · have hf := pt_sl hf
          cases hf
          cases hi
          exact pw_t (by decide) K0 (show pw_F _ _ z95.2 from wfX16_checksElement (pw_rf _) e93)
        have K96 := pw_t (by decide) K0 (show pw_F _ _ w94 from wfX16_checksElement (pw_rf _) e93)
        have hf := pt_sr hf
        obtain ⟨y97, e98, hf⟩ := pm_lt hf
        cases hf
        exact ih.2.2.2.2.2.1 x0 y97 w94 K96  hi
    refine ⟨fun x0 x1 s0 h K0 hf => ?_, ?_⟩
    · obtain ⟨y, hf, hi⟩ := pm_iter_s hf
      have hf : tX16_checksAll_147 x0 x1 s0 h = some y := hf
      unfold tX16_checksAll_147 at hf
      by_cases c99 : x1 = 0
      · have hf := pm_it hf c99
        obtain ⟨k100, hf⟩ := pm_if hf
        obtain ⟨v101, e102, hf⟩ := pm_bd hf
        obtain ⟨k103, hf⟩ := pm_if hf
        obtain ⟨v104, e105, hf⟩ := pm_bd hf
        obtain ⟨k106, hf⟩ := pm_if hf
        obtain ⟨u107, hf⟩ := pm_if hf
        obtain ⟨v108, e109, hf⟩ := pm_bd hf
        rcases v108 with z111 | w110
        · have hf := pt_sl hf
          cases hf
          cases hi
          exact pw_t (by decide) K0 (show pw_F _ _ z111.2 from wfX16_stops (pw_rf _) e109)
        have K112 := pw_t (by decide) K0 (show pw_F _ _ w110 from wfX16_stops (pw_rf _) e109)
        have hf := pt_sr hf
        obtain ⟨k113, hf⟩ := pm_if hf
        obtain ⟨v114, e115, hf⟩ := pm_bd hf
        have K116 := pw_t (by decide) K112 (wfX16_declares (pw_rf _) e115)
        cases hf
        exact ih.2.2.2.1 x0 0 v114 K116  hi
      · have hf := pm_ie hf c99
        obtain ⟨k117, hf⟩ := pm_if hf
        obtain ⟨v118, e119, hf⟩ := pm_bd hf
        obtain ⟨k120, hf⟩ := pm_if hf
        obtain ⟨v121, e122, hf⟩ := pm_bd hf
        obtain ⟨k123, hf⟩ := pm_if hf
        obtain ⟨u124, hf⟩ := pm_if hf
        obtain ⟨v125, e126, hf⟩ := pm_bd hf
        obtain ⟨k127, hf⟩ := pm_if hf
        obtain ⟨u128, hf⟩ := pm_if hf
        by_cases c129 : ((pm_I h v121 s0.toNatClampNeg) + (pm_I h v125 s0.toNatClampNeg)) ≤ 0
        · have hf := pm_it hf c129
          obtain ⟨v130, e131, hf⟩ := pm_bd hf
          have K132 := pw_t (by decide) K0 (wfX16_declares (pw_rf _) e131)
          cases hf
          exact ih.2.2.2.1 x0 0 v130 K132  hi
        · have hf := pm_ie hf c129
          obtain ⟨v133, e134, hf⟩ := pm_bd hf
          obtain ⟨k135, hf⟩ := pm_if hf
          obtain ⟨u136, hf⟩ := pm_if hf
          obtain ⟨v137, e138, hf⟩ := pm_bd hf
          rcases v137 with z140 | w139
          · have hf := pt_sl hf
            cases hf
            cases hi
            exact pw_t (by decide) K0 (show pw_F _ _ z140.2 from wfX16_stops (pw_rf _) e138)
          have K141 := pw_t (by decide) K0 (show pw_F _ _ w139 from wfX16_stops (pw_rf _) e138)
          have hf := pt_sr hf
          obtain ⟨k142, hf⟩ := pm_if hf
          obtain ⟨v143, e144, hf⟩ := pm_bd hf
          have K145 := pw_t (by decide) K141 (wfX16_declares (pw_rf _) e144)
          cases hf
          exact ih.2.2.2.1 x0 0 v143 K145  hi
    refine ⟨fun x0 x1 h K0 hf => ?_, ?_⟩
    · obtain ⟨y, hf, hi⟩ := pm_iter_s hf
      have hf : tX16_checksAll_261 x0 x1 h = some y := hf
      unfold tX16_checksAll_261 at hf
      obtain ⟨k146, hf⟩ := pm_if hf
      obtain ⟨v147, e148, hf⟩ := pm_bd hf
      obtain ⟨k149, hf⟩ := pm_if hf
      by_cases c150 : (pm_I h v147 44) ≤ x1
      · have hf := pm_it hf c150
        cases hf
        exact ih.2.2.2.2.2.2.2.2 x0 0 h K0  hi
      · have hf := pm_ie hf c150
        obtain ⟨v151, e152, hf⟩ := pm_bd hf
        obtain ⟨k153, hf⟩ := pm_if hf
        obtain ⟨u154, hf⟩ := pm_if hf
        by_cases c155 : (pm_I h v151 x1.toNatClampNeg) = 0
        · have hf := pm_it hf c155
          obtain ⟨u156, hf⟩ := pm_if hf
          by_cases c157 : (pm_I h v151 x1.toNatClampNeg) = 0
          · have hf := pm_it hf c157
            obtain ⟨y158, e159, hf⟩ := pm_lt hf
            cases hf
            exact ih.2.2.2.2.2.2.2.1 x0 y158 h K0  hi
          · have hf := pm_ie hf c157
            obtain ⟨v160, e161, hf⟩ := pm_bd hf
            obtain ⟨k162, hf⟩ := pm_if hf
            obtain ⟨u163, hf⟩ := pm_if hf
            obtain ⟨v164, e165, hf⟩ := pm_bd hf
            rcases v164 with z167 | w166
            · have hf := pt_sl hf
              cases hf
              cases hi
              exact pw_t (by decide) K0 (show pw_F _ _ z167.2 from wfX16_constantly (pw_rf _) e165)
            have K168 := pw_t (by decide) K0 (show pw_F _ _ w166 from wfX16_constantly (pw_rf _) e165)
            have hf := pt_sr hf
            obtain ⟨y169, e170, hf⟩ := pm_lt hf
            cases hf
            exact ih.2.2.2.2.2.2.2.1 x0 y169 w166 K168  hi
        · have hf := pm_ie hf c155
          obtain ⟨v171, e172, hf⟩ := pm_bd hf
          obtain ⟨k173, hf⟩ := pm_if hf
          obtain ⟨u174, hf⟩ := pm_if hf
          obtain ⟨v175, e176, hf⟩ := pm_bd hf
          by_cases c177 : (pm_L h v171 x1.toNatClampNeg) < v175.toInt64
          · have hf := pm_it hf c177
            obtain ⟨u178, hf⟩ := pm_if hf
            by_cases c179 : (pm_I h v151 x1.toNatClampNeg) = 0
            · have hf := pm_it hf c179
              obtain ⟨y180, e181, hf⟩ := pm_lt hf
              cases hf
              exact ih.2.2.2.2.2.2.2.1 x0 y180 h K0  hi
            · have hf := pm_ie hf c179
              obtain ⟨v182, e183, hf⟩ := pm_bd hf
              obtain ⟨k184, hf⟩ := pm_if hf
              obtain ⟨u185, hf⟩ := pm_if hf
              obtain ⟨v186, e187, hf⟩ := pm_bd hf
              rcases v186 with z189 | w188
              · have hf := pt_sl hf
                cases hf
                cases hi
                exact pw_t (by decide) K0 (show pw_F _ _ z189.2 from wfX16_constantly (pw_rf _) e187)
              have K190 := pw_t (by decide) K0 (show pw_F _ _ w188 from wfX16_constantly (pw_rf _) e187)
              have hf := pt_sr hf
              obtain ⟨y191, e192, hf⟩ := pm_lt hf
              cases hf
              exact ih.2.2.2.2.2.2.2.1 x0 y191 w188 K190  hi
          · have hf := pm_ie hf c177
            obtain ⟨v193, e194, hf⟩ := pm_bd hf
            obtain ⟨k195, hf⟩ := pm_if hf
            obtain ⟨u196, hf⟩ := pm_if hf
            obtain ⟨v197, e198, hf⟩ := pm_bd hf
            rcases v197 with z200 | w199
            · have hf := pt_sl hf
              cases hf
              cases hi
              exact pw_t (by decide) K0 (show pw_F _ _ z200.2 from wfX16_stops (pw_rf _) e198)
            have K201 := pw_t (by decide) K0 (show pw_F _ _ w199 from wfX16_stops (pw_rf _) e198)
            have hf := pt_sr hf
            obtain ⟨k202, hf⟩ := pm_if hf
            obtain ⟨v203, e204, hf⟩ := pm_bd hf
            obtain ⟨k205, hf⟩ := pm_if hf
            obtain ⟨v206, e207, hf⟩ := pm_bd hf
            obtain ⟨k208, hf⟩ := pm_if hf
            obtain ⟨u209, hf⟩ := pm_if hf
            by_cases c210 : (pm_I w199 v206 x1.toNatClampNeg) = 0
            · have hf := pm_it hf c210
              obtain ⟨y211, e212, hf⟩ := pm_lt hf
              cases hf
              exact ih.2.2.2.2.2.2.2.1 x0 y211 w199 K201  hi
            · have hf := pm_ie hf c210
              obtain ⟨v213, e214, hf⟩ := pm_bd hf
              obtain ⟨k215, hf⟩ := pm_if hf
              obtain ⟨u216, hf⟩ := pm_if hf
              obtain ⟨v217, e218, hf⟩ := pm_bd hf
              rcases v217 with z220 | w219
              · have hf := pt_sl hf
                cases hf
                cases hi
                exact pw_t (by decide) K201 (show pw_F _ _ z220.2 from wfX16_constantly (pw_rf _) e218)
              have K221 := pw_t (by decide) K201 (show pw_F _ _ w219 from wfX16_constantly (pw_rf _) e218)
              have hf := pt_sr hf
              obtain ⟨y222, e223, hf⟩ := pm_lt hf
              cases hf
              exact ih.2.2.2.2.2.2.2.1 x0 y222 w219 K221  hi
    refine fun x0 x1 h K0 hf => ?_
    obtain ⟨y, hf, hi⟩ := pm_iter_s hf
    have hf : tX16_checksAll_357 x0 x1 h = some y := hf
    unfold tX16_checksAll_357 at hf
    obtain ⟨k224, hf⟩ := pm_if hf
    obtain ⟨v225, e226, hf⟩ := pm_bd hf
    obtain ⟨k227, hf⟩ := pm_if hf
    by_cases c228 : (pm_I h v225 15) ≤ x1
    · have hf := pm_it hf c228
      cases hf
      cases hi
      exact K0
    · have hf := pm_ie hf c228
      obtain ⟨v229, e230, hf⟩ := pm_bd hf
      rcases v229 with z232 | w231
      · have hf := pt_sl hf
        cases hf
        cases hi
        exact pw_t (by decide) K0 (show pw_F _ _ z232.2 from wfX16_checksBody (pw_rf _) e230)
      have K233 := pw_t (by decide) K0 (show pw_F _ _ w231 from wfX16_checksBody (pw_rf _) e230)
      have hf := pt_sr hf
      obtain ⟨y234, e235, hf⟩ := pm_lt hf
      cases hf
      exact ih.2.2.2.2.2.2.2.2 x0 y234 w231 K233  hi
set_option maxHeartbeats 4000000 in
set_option maxRecDepth 100000 in
theorem wfX16_checksAll {h0 h : pm_H} (K0 : pw_F WX16_checksAll h0 h) {a0 : Nat}  {r : ((Nat × pm_H) ⊕ pm_H)} (hf : fX16_checksAll h a0 = some r) : pt_WV WX16_checksAll h0 r := by
  unfold fX16_checksAll at hf
  obtain ⟨k1, hf⟩ := pm_if hf
  obtain ⟨v2, e3, hf⟩ := pm_bd hf
  obtain ⟨k4, hf⟩ := pm_if hf
  by_cases c5 : (pm_I h v2 3) < 0
  · have hf := pm_it hf c5
    obtain ⟨n, hn⟩ := pm_lim_iter hf
    exact (wlX16_checksAll n).1 a0 h K0  hn
  · have hf := pm_ie hf c5
    obtain ⟨v6, e7, hf⟩ := pm_bd hf
    rcases v6 with z9 | w8
    · have hf := pt_kl hf
      cases hf
      exact pw_t (by decide) K0 (show pw_F _ _ z9.2 from wfX16_stops (pw_rf _) e7)
    have K10 := pw_t (by decide) K0 (show pw_F _ _ w8 from wfX16_stops (pw_rf _) e7)
    have hf := pt_kr hf
    obtain ⟨n, hn⟩ := pm_lim_iter hf
    exact (wlX16_checksAll n).1 a0 w8 K10  hn
abbrev WX16_readsAll : List Nat := [1795, 1796, 1800, 1806, 1807, 1809, 1813, 1816, 1820, 1825, 1826, 1834, 1835, 1836, 1842, 2055, 2056, 2059, 2060, 2061, 2064, 2065, 2066, 4096, 4352, 4480]
set_option maxHeartbeats 4000000 in
set_option maxRecDepth 100000 in
theorem wlX16_readsAll {h0 : pm_H} {r : ((Nat × pm_H) ⊕ pm_H)} : ∀ n : Nat, (∀ (x0 : Nat) (x1 : Int32) (h : pm_H), pw_F WX16_readsAll h0 h → pm_iter sX16_readsAll n (.inl (x0, x1, h)) = some r → pt_WV WX16_readsAll h0 r) ∧ (∀ (x0 : Nat) (x1 : Int32) (h : pm_H), pw_F WX16_readsAll h0 h → pm_iter sX16_readsAll n (.inr (.inl (x0, x1, h))) = some r → pt_WV WX16_readsAll h0 r) ∧ (∀ (x0 : Nat) (x1 : Int32) (x2 : Int32) (x3 : Int32) (h : pm_H), pw_F WX16_readsAll h0 h → pm_iter sX16_readsAll n (.inr (.inr (.inl (x0, x1, x2, x3, h)))) = some r → pt_WV WX16_readsAll h0 r) ∧ (∀ (x0 : Nat) (x1 : Int32) (x2 : Int32) (x3 : Int32) (h : pm_H), pw_F WX16_readsAll h0 h → pm_iter sX16_readsAll n (.inr (.inr (.inr (x0, x1, x2, x3, h)))) = some r → pt_WV WX16_readsAll h0 r) := by
  intro n
  induction n with
  | zero => exact ⟨fun _ _ _ _ hf => (by cases hf), fun _ _ _ _ hf => (by cases hf), fun _ _ _ _ _ _ hf => (by cases hf), fun _ _ _ _ _ _ hf => (by cases hf)⟩
  | succ n ih =>
    refine ⟨fun x0 x1 h K0 hf => ?_, ?_⟩
    · obtain ⟨y, hf, hi⟩ := pm_iter_s hf
      have hf : tX16_readsAll_19 x0 x1 h = some y := hf
      unfold tX16_readsAll_19 at hf
      by_cases c7 : x1 < 0
      · have hf := pm_it hf c7
        cases hf
        exact ih.2.1 x0 0 h K0  hi
      · have hf := pm_ie hf c7
        obtain ⟨k8, hf⟩ := pm_if hf
        obtain ⟨v9, e10, hf⟩ := pm_bd hf
        rcases v9 with z12 | w11
        · have hf := pt_sl hf
          cases hf
          cases hi
          exact pw_t (by decide) K0 (show pw_F _ _ z12.2 from wfX16_next (pw_rf _) e10)
        have K13 := pw_t (by decide) K0 (show pw_F _ _ w11.2 from wfX16_next (pw_rf _) e10)
        have hf := pt_sr hf
        by_cases c14 : w11.1 = ((((27429984746340352 : Int64) >>> (x1.toInt64 &&& 63)) &&& 255).toInt32)
        · have hf := pm_it hf c14
          obtain ⟨y15, e16, hf⟩ := pm_lt hf
          cases hf
          exact ih.1 x0 y15 w11.2 K13  hi
        · have hf := pm_ie hf c14
          obtain ⟨k17, hf⟩ := pm_if hf
          obtain ⟨v18, e19, hf⟩ := pm_bd hf
          rcases v18 with z21 | w20
          · have hf := pt_sl hf
            cases hf
            cases hi
            exact pw_t (by decide) K13 (show pw_F _ _ z21.2 from wfX16_stops (pw_rf _) e19)
          have K22 := pw_t (by decide) K13 (show pw_F _ _ w20 from wfX16_stops (pw_rf _) e19)
          have hf := pt_sr hf
          obtain ⟨y23, e24, hf⟩ := pm_lt hf
          cases hf
          exact ih.1 x0 y23 w20 K22  hi
    refine ⟨fun x0 x1 h K0 hf => ?_, ?_⟩
    · obtain ⟨y, hf, hi⟩ := pm_iter_s hf
      have hf : tX16_readsAll_61 x0 x1 h = some y := hf
      unfold tX16_readsAll_61 at hf
      obtain ⟨k25, hf⟩ := pm_if hf
      obtain ⟨v26, e27, hf⟩ := pm_bd hf
      obtain ⟨k28, hf⟩ := pm_if hf
      by_cases c29 : (pm_I h v26 1) ≤ (pm_I h x0 11)
      · have hf := pm_it hf c29
        by_cases c30 : (pm_L h v26 14) = (pm_L h v26 50)
        · have hf := pm_it hf c30
          by_cases c31 : (pm_L h v26 42) < 0
          · have hf := pm_it hf c31
            cases hf
            cases hi
            exact K0
          · have hf := pm_ie hf c31
            by_cases c32 : (pm_L h v26 42) = (pm_L h v26 43)
            · have hf := pm_it hf c32
              cases hf
              cases hi
              exact K0
            · have hf := pm_ie hf c32
              obtain ⟨v33, e34, hf⟩ := pm_bd hf
              rcases v33 with z36 | w35
              · have hf := pt_sl hf
                cases hf
                cases hi
                exact pw_t (by decide) K0 (show pw_F _ _ z36.2 from wfX16_stops (pw_rf _) e34)
              have K37 := pw_t (by decide) K0 (show pw_F _ _ w35 from wfX16_stops (pw_rf _) e34)
              have hf := pt_sr hf
              cases hf
              cases hi
              exact K37
        · have hf := pm_ie hf c30
          obtain ⟨v38, e39, hf⟩ := pm_bd hf
          rcases v38 with z41 | w40
          · have hf := pt_sl hf
            cases hf
            cases hi
            exact pw_t (by decide) K0 (show pw_F _ _ z41.2 from wfX16_stops (pw_rf _) e39)
          have K42 := pw_t (by decide) K0 (show pw_F _ _ w40 from wfX16_stops (pw_rf _) e39)
          have hf := pt_sr hf
          obtain ⟨k43, hf⟩ := pm_if hf
          obtain ⟨v44, e45, hf⟩ := pm_bd hf
          obtain ⟨k46, hf⟩ := pm_if hf
          by_cases c47 : (pm_L w40 v44 42) < 0
          · have hf := pm_it hf c47
            cases hf
            cases hi
            exact K42
          · have hf := pm_ie hf c47
            by_cases c48 : (pm_L w40 v44 42) = (pm_L w40 v44 43)
            · have hf := pm_it hf c48
              cases hf
              cases hi
              exact K42
            · have hf := pm_ie hf c48
              obtain ⟨v49, e50, hf⟩ := pm_bd hf
              rcases v49 with z52 | w51
              · have hf := pt_sl hf
                cases hf
                cases hi
                exact pw_t (by decide) K42 (show pw_F _ _ z52.2 from wfX16_stops (pw_rf _) e50)
              have K53 := pw_t (by decide) K42 (show pw_F _ _ w51 from wfX16_stops (pw_rf _) e50)
              have hf := pt_sr hf
              cases hf
              cases hi
              exact K53
      · have hf := pm_ie hf c29
        obtain ⟨y54, e55, hf⟩ := pm_lt hf
        obtain ⟨v56, e57, hf⟩ := pm_bd hf
        rcases v56 with z59 | w58
        · have hf := pt_sl hf
          cases hf
          cases hi
          exact pw_t (by decide) K0 (show pw_F _ _ z59.2 from wfX16_next (pw_rf _) e57)
        have K60 := pw_t (by decide) K0 (show pw_F _ _ w58.2 from wfX16_next (pw_rf _) e57)
        have hf := pt_sr hf
        by_cases c61 : 12 < w58.1
        · have hf := pm_it hf c61
          obtain ⟨k62, hf⟩ := pm_if hf
          obtain ⟨v63, e64, hf⟩ := pm_bd hf
          rcases v63 with z66 | w65
          · have hf := pt_sl hf
            cases hf
            cases hi
            exact pw_t (by decide) K60 (show pw_F _ _ z66.2 from wfX16_stops (pw_rf _) e64)
          have K67 := pw_t (by decide) K60 (show pw_F _ _ w65 from wfX16_stops (pw_rf _) e64)
          have hf := pt_sr hf
          cases hf
          exact ih.2.2.1 x0 x1 y54 w58.1 w65 K67  hi
        · have hf := pm_ie hf c61
          by_cases c68 : w58.1 ≤ 0
          · have hf := pm_it hf c68
            cases hf
            exact ih.2.2.1 x0 x1 y54 w58.1 w58.2 K60  hi
          · have hf := pm_ie hf c68
            obtain ⟨v69, e70, hf⟩ := pm_lt hf
            by_cases c71 : x1 < v69
            · have hf := pm_it hf c71
              cases hf
              exact ih.2.2.1 x0 x1 y54 w58.1 w58.2 K60  hi
            · have hf := pm_ie hf c71
              obtain ⟨k72, hf⟩ := pm_if hf
              obtain ⟨v73, e74, hf⟩ := pm_bd hf
              rcases v73 with z76 | w75
              · have hf := pt_sl hf
                cases hf
                cases hi
                exact pw_t (by decide) K60 (show pw_F _ _ z76.2 from wfX16_stops (pw_rf _) e74)
              have K77 := pw_t (by decide) K60 (show pw_F _ _ w75 from wfX16_stops (pw_rf _) e74)
              have hf := pt_sr hf
              cases hf
              exact ih.2.2.1 x0 x1 y54 w58.1 w75 K77  hi
    refine ⟨fun x0 x1 x2 x3 h K0 hf => ?_, ?_⟩
    · obtain ⟨y, hf, hi⟩ := pm_iter_s hf
      have hf : tX16_readsAll_110 x0 x1 x2 x3 h = some y := hf
      unfold tX16_readsAll_110 at hf
      by_cases c78 : x3 ≤ 0
      · have hf := pm_it hf c78
        cases hf
        exact ih.2.2.2 x0 x1 x2 x3 h K0  hi
      · have hf := pm_ie hf c78
        obtain ⟨v79, e80, hf⟩ := pm_lt hf
        obtain ⟨k81, hf⟩ := pm_if hf
        obtain ⟨v82, e83, hf⟩ := pm_bd hf
        obtain ⟨k84, hf⟩ := pm_if hf
        obtain ⟨v85, e86, hf⟩ := pm_bd hf
        obtain ⟨k87, hf⟩ := pm_if hf
        obtain ⟨u88, hf⟩ := pm_if hf
        cases hf
        exact ih.2.2.2 x0 v79 x2 x3 (pm_setI h v85 x3.toNatClampNeg x2) (pw_aI K0 rfl k87 (by decide) (by decide))  hi
    refine fun x0 x1 x2 x3 h K0 hf => ?_
    obtain ⟨y, hf, hi⟩ := pm_iter_s hf
    have hf : tX16_readsAll_129 x0 x1 x2 x3 h = some y := hf
    unfold tX16_readsAll_129 at hf
    obtain ⟨k89, hf⟩ := pm_if hf
    obtain ⟨y90, e91, hf⟩ := pm_lt hf
    obtain ⟨v92, e93, hf⟩ := pm_bd hf
    rcases v92 with z95 | w94
    · have hf := pt_sl hf
      cases hf
      cases hi
      exact pw_t (by decide) (pw_sI K0 rfl k89 (by decide)) (show pw_F _ _ z95.2 from wfX16_number (pw_rf _) e93)
    have K96 := pw_t (by decide) (pw_sI K0 rfl k89 (by decide)) (show pw_F _ _ w94.2 from wfX16_number (pw_rf _) e93)
    have hf := pt_sr hf
    obtain ⟨k97, hf⟩ := pm_if hf
    obtain ⟨v98, e99, hf⟩ := pm_bd hf
    obtain ⟨k100, hf⟩ := pm_if hf
    by_cases c101 : w94.1 ≤ (((pm_I w94.2 v98 1) - (pm_I w94.2 x0 11)).toInt64)
    · have hf := pm_it hf c101
      obtain ⟨y102, e103, hf⟩ := pm_lt hf
      obtain ⟨v104, e105, hf⟩ := pm_bd hf
      rcases v104 with z107 | w106
      · have hf := pt_sl hf
        cases hf
        cases hi
        exact pw_t (by decide) (pw_sI K96 rfl k97 (by decide)) (show pw_F _ _ z107.2 from wfX16_readsSection (pw_rf _) e105)
      have K108 := pw_t (by decide) (pw_sI K96 rfl k97 (by decide)) (show pw_F _ _ w106 from wfX16_readsSection (pw_rf _) e105)
      have hf := pt_sr hf
      obtain ⟨k109, hf⟩ := pm_if hf
      by_cases c110 : (pm_I w106 x0 12) ≤ (pm_I w106 x0 11)
      · have hf := pm_it hf c110
        obtain ⟨v111, e112, hf⟩ := pm_bd hf
        obtain ⟨k113, hf⟩ := pm_if hf
        obtain ⟨y114, e115, hf⟩ := pm_lt hf
        cases hf
        exact ih.2.1 x0 x1 (pm_setI w106 x0 12 y114) (pw_sI K108 rfl k109 (by decide))  hi
      · have hf := pm_ie hf c110
        obtain ⟨v116, e117, hf⟩ := pm_bd hf
        rcases v116 with z119 | w118
        · have hf := pt_sl hf
          cases hf
          cases hi
          exact pw_t (by decide) K108 (show pw_F _ _ z119.2 from wfX16_stops (pw_rf _) e117)
        have K120 := pw_t (by decide) K108 (show pw_F _ _ w118 from wfX16_stops (pw_rf _) e117)
        have hf := pt_sr hf
        obtain ⟨k121, hf⟩ := pm_if hf
        obtain ⟨v122, e123, hf⟩ := pm_bd hf
        obtain ⟨k124, hf⟩ := pm_if hf
        obtain ⟨y125, e126, hf⟩ := pm_lt hf
        cases hf
        exact ih.2.1 x0 x1 (pm_setI w118 x0 12 y125) (pw_sI K120 rfl k121 (by decide))  hi
    · have hf := pm_ie hf c101
      obtain ⟨v127, e128, hf⟩ := pm_bd hf
      rcases v127 with z130 | w129
      · have hf := pt_sl hf
        cases hf
        cases hi
        exact pw_t (by decide) K96 (show pw_F _ _ z130.2 from wfX16_stops (pw_rf _) e128)
      have K131 := pw_t (by decide) K96 (show pw_F _ _ w129 from wfX16_stops (pw_rf _) e128)
      have hf := pt_sr hf
      obtain ⟨k132, hf⟩ := pm_if hf
      obtain ⟨y133, e134, hf⟩ := pm_lt hf
      obtain ⟨v135, e136, hf⟩ := pm_bd hf
      rcases v135 with z138 | w137
      · have hf := pt_sl hf
        cases hf
        cases hi
        exact pw_t (by decide) (pw_sI K131 rfl k132 (by decide)) (show pw_F _ _ z138.2 from wfX16_readsSection (pw_rf _) e136)
      have K139 := pw_t (by decide) (pw_sI K131 rfl k132 (by decide)) (show pw_F _ _ w137 from wfX16_readsSection (pw_rf _) e136)
      have hf := pt_sr hf
      obtain ⟨k140, hf⟩ := pm_if hf
      by_cases c141 : (pm_I w137 x0 12) ≤ (pm_I w137 x0 11)
      · have hf := pm_it hf c141
        obtain ⟨v142, e143, hf⟩ := pm_bd hf
        obtain ⟨k144, hf⟩ := pm_if hf
        obtain ⟨y145, e146, hf⟩ := pm_lt hf
        cases hf
        exact ih.2.1 x0 x1 (pm_setI w137 x0 12 y145) (pw_sI K139 rfl k140 (by decide))  hi
      · have hf := pm_ie hf c141
        obtain ⟨v147, e148, hf⟩ := pm_bd hf
        rcases v147 with z150 | w149
        · have hf := pt_sl hf
          cases hf
          cases hi
          exact pw_t (by decide) K139 (show pw_F _ _ z150.2 from wfX16_stops (pw_rf _) e148)
        have K151 := pw_t (by decide) K139 (show pw_F _ _ w149 from wfX16_stops (pw_rf _) e148)
        have hf := pt_sr hf
        obtain ⟨k152, hf⟩ := pm_if hf
        obtain ⟨v153, e154, hf⟩ := pm_bd hf
        obtain ⟨k155, hf⟩ := pm_if hf
        obtain ⟨y156, e157, hf⟩ := pm_lt hf
        cases hf
        exact ih.2.1 x0 x1 (pm_setI w149 x0 12 y156) (pw_sI K151 rfl k152 (by decide))  hi
set_option maxHeartbeats 4000000 in
set_option maxRecDepth 100000 in
theorem wfX16_readsAll {h0 h : pm_H} (K0 : pw_F WX16_readsAll h0 h) {a0 : Nat}  {r : ((Nat × pm_H) ⊕ pm_H)} (hf : fX16_readsAll h a0 = some r) : pt_WV WX16_readsAll h0 r := by
  unfold fX16_readsAll at hf
  obtain ⟨k1, hf⟩ := pm_if hf
  obtain ⟨v2, e3, hf⟩ := pm_bd hf
  obtain ⟨k4, hf⟩ := pm_if hf
  have k4b := (congrFun (pkI rfl) v2).symm.trans k4
  obtain ⟨y5, e6, hf⟩ := pm_lt hf
  obtain ⟨n, hn⟩ := pm_lim_iter hf
  exact (wlX16_readsAll n).1 a0 56 (pm_setI (pm_setI h a0 11 0) a0 12 y5) (pw_sI (pw_sI K0 rfl k1 (by decide)) (pkI rfl) k1 (by decide))  hn
abbrev WX6_copy : List Nat := [4224]
set_option maxHeartbeats 4000000 in
set_option maxRecDepth 100000 in
theorem wlX6_copy {h0 : pm_H} {r : pm_H} : ∀ n : Nat, (∀ (x0 : Nat) (x1 : Int32) (x2 : Int64) (x4 : Int64) (x6 : Int64) (x8 : Int64) (x10 : Int32) (h : pm_H), pw_F WX6_copy h0 h → pm_iter sX6_copy n (.inl (x0, x1, x2, x4, x6, x8, x10, h)) = some r → pw_F WX6_copy h0 r) ∧ (∀ (x0 : Nat) (x1 : Int32) (x2 : Int64) (x4 : Int64) (x6 : Int64) (x8 : Int64) (x10 : Int32) (x11 : Int64) (s0 : Int32) (h : pm_H), pw_F WX6_copy h0 h → pm_iter sX6_copy n (.inr (.inl (x0, x1, x2, x4, x6, x8, x10, x11, s0, h))) = some r → pw_F WX6_copy h0 r) ∧ (∀ (x0 : Nat) (x1 : Int32) (x2 : Int64) (x4 : Int64) (x6 : Int64) (x8 : Int64) (x10 : Int32) (x11 : Int64) (x13 : Int32) (s0 : Int64) (h : pm_H), pw_F WX6_copy h0 h → pm_iter sX6_copy n (.inr (.inr (.inl (x0, x1, x2, x4, x6, x8, x10, x11, x13, s0, h)))) = some r → pw_F WX6_copy h0 r) ∧ (∀ (x0 : Nat) (x1 : Int32) (x2 : Int64) (x4 : Int64) (x6 : Int64) (x8 : Int64) (x10 : Int32) (x11 : Int64) (x13 : Int32) (x14 : Int64) (s0 : Int64) (h : pm_H), pw_F WX6_copy h0 h → pm_iter sX6_copy n (.inr (.inr (.inr (.inl (x0, x1, x2, x4, x6, x8, x10, x11, x13, x14, s0, h))))) = some r → pw_F WX6_copy h0 r) ∧ (∀ (x0 : Nat) (x1 : Int32) (x2 : Int64) (x4 : Int64) (x6 : Int64) (x8 : Int64) (x10 : Int32) (x11 : Int64) (x13 : Int32) (x14 : Int64) (x16 : Int64) (s0 : Int32) (h : pm_H), pw_F WX6_copy h0 h → pm_iter sX6_copy n (.inr (.inr (.inr (.inr (.inl (x0, x1, x2, x4, x6, x8, x10, x11, x13, x14, x16, s0, h)))))) = some r → pw_F WX6_copy h0 r) ∧ (∀ (x0 : Nat) (x1 : Int32) (x2 : Int64) (x4 : Int64) (x6 : Int64) (x8 : Int64) (x10 : Int32) (x11 : Int64) (x13 : Int32) (x14 : Int64) (x16 : Int64) (x18 : Int32) (s0 : Int32) (h : pm_H), pw_F WX6_copy h0 h → pm_iter sX6_copy n (.inr (.inr (.inr (.inr (.inr (x0, x1, x2, x4, x6, x8, x10, x11, x13, x14, x16, x18, s0, h)))))) = some r → pw_F WX6_copy h0 r) := by
  intro n
  induction n with
  | zero => exact ⟨fun _ _ _ _ _ _ _ _ _ hf => (by cases hf), fun _ _ _ _ _ _ _ _ _ _ _ hf => (by cases hf), fun _ _ _ _ _ _ _ _ _ _ _ _ hf => (by cases hf), fun _ _ _ _ _ _ _ _ _ _ _ _ _ hf => (by cases hf), fun _ _ _ _ _ _ _ _ _ _ _ _ _ _ hf => (by cases hf), fun _ _ _ _ _ _ _ _ _ _ _ _ _ _ _ hf => (by cases hf)⟩
  | succ n ih =>
    refine ⟨fun x0 x1 x2 x4 x6 x8 x10 h K0 hf => ?_, ?_⟩
    · obtain ⟨y, hf, hi⟩ := pm_iter_s hf
      have hf : tX6_copy_6 x0 x1 x2 x4 x6 x8 x10 h = some y := hf
      unfold tX6_copy_6 at hf
      by_cases c1 : 32 ≤ x10
      · have hf := pm_it hf c1
        cases hf
        cases hi
        exact K0
      · have hf := pm_ie hf c1
        by_cases c2 : x6 ≤ x8
        · have hf := pm_it hf c2
          cases hf
          cases hi
          exact K0
        · have hf := pm_ie hf c2
          obtain ⟨y3, e4, hf⟩ := pm_lt hf
          by_cases c5 : x2 ≤ x4
          · have hf := pm_it hf c5
            cases hf
            exact ih.2.1 x0 x1 x2 x4 x6 x8 x10 y3 0 h K0  hi
          · have hf := pm_ie hf c5
            cases hf
            exact ih.2.1 x0 x1 x2 x4 x6 x8 x10 y3 1 h K0  hi
    refine ⟨fun x0 x1 x2 x4 x6 x8 x10 x11 s0 h K0 hf => ?_, ?_⟩
    · obtain ⟨y, hf, hi⟩ := pm_iter_s hf
      have hf : tX6_copy_40 x0 x1 x2 x4 x6 x8 x10 x11 s0 h = some y := hf
      unfold tX6_copy_40 at hf
      by_cases c6 : s0 = 0
      · have hf := pm_it hf c6
        cases hf
        exact ih.2.2.1 x0 x1 x2 x4 x6 x8 x10 x11 s0 (x2 + x8) h K0  hi
      · have hf := pm_ie hf c6
        cases hf
        exact ih.2.2.1 x0 x1 x2 x4 x6 x8 x10 x11 s0 ((x2 + x11) - 1) h K0  hi
    refine ⟨fun x0 x1 x2 x4 x6 x8 x10 x11 x13 s0 h K0 hf => ?_, ?_⟩
    · obtain ⟨y, hf, hi⟩ := pm_iter_s hf
      have hf : tX6_copy_60 x0 x1 x2 x4 x6 x8 x10 x11 x13 s0 h = some y := hf
      unfold tX6_copy_60 at hf
      by_cases c7 : x13 = 0
      · have hf := pm_it hf c7
        cases hf
        exact ih.2.2.2.1 x0 x1 x2 x4 x6 x8 x10 x11 x13 s0 (x4 + x8) h K0  hi
      · have hf := pm_ie hf c7
        cases hf
        exact ih.2.2.2.1 x0 x1 x2 x4 x6 x8 x10 x11 x13 s0 ((x4 + x11) - 1) h K0  hi
    refine ⟨fun x0 x1 x2 x4 x6 x8 x10 x11 x13 x14 s0 h K0 hf => ?_, ?_⟩
    · obtain ⟨y, hf, hi⟩ := pm_iter_s hf
      have hf : tX6_copy_82 x0 x1 x2 x4 x6 x8 x10 x11 x13 x14 s0 h = some y := hf
      unfold tX6_copy_82 at hf
      by_cases c8 : x13 = 0
      · have hf := pm_it hf c8
        obtain ⟨k9, hf⟩ := pm_if hf
        obtain ⟨v10, e11, hf⟩ := pm_bd hf
        cases hf
        exact ih.2.2.2.2.1 x0 x1 x2 x4 x6 x8 x10 x11 x13 x14 s0 v10 h K0  hi
      · have hf := pm_ie hf c8
        cases hf
        exact ih.2.2.2.2.1 x0 x1 x2 x4 x6 x8 x10 x11 x13 x14 s0 (((x14 &&& 65535).toInt32) + 1) h K0  hi
    refine ⟨fun x0 x1 x2 x4 x6 x8 x10 x11 x13 x14 x16 s0 h K0 hf => ?_, ?_⟩
    · obtain ⟨y, hf, hi⟩ := pm_iter_s hf
      have hf : tX6_copy_108 x0 x1 x2 x4 x6 x8 x10 x11 x13 x14 x16 s0 h = some y := hf
      unfold tX6_copy_108 at hf
      by_cases c12 : x13 = 0
      · have hf := pm_it hf c12
        obtain ⟨k13, hf⟩ := pm_if hf
        obtain ⟨v14, e15, hf⟩ := pm_bd hf
        cases hf
        exact ih.2.2.2.2.2 x0 x1 x2 x4 x6 x8 x10 x11 x13 x14 x16 s0 v14 h K0  hi
      · have hf := pm_ie hf c12
        cases hf
        exact ih.2.2.2.2.2 x0 x1 x2 x4 x6 x8 x10 x11 x13 x14 x16 s0 (((x16 &&& 65535).toInt32) + 1) h K0  hi
    refine fun x0 x1 x2 x4 x6 x8 x10 x11 x13 x14 x16 x18 s0 h K0 hf => ?_
    obtain ⟨y, hf, hi⟩ := pm_iter_s hf
    have hf : tX6_copy_134 x0 x1 x2 x4 x6 x8 x10 x11 x13 x14 x16 x18 s0 h = some y := hf
    unfold tX6_copy_134 at hf
    obtain ⟨y16, e17, hf⟩ := pm_lt hf
    obtain ⟨y18, e19, hf⟩ := pm_lt hf
    by_cases c20 : y18 ≤ 0
    · have hf := pm_it hf c20
      cases hf
      cases hi
      exact K0
    · have hf := pm_ie hf c20
      obtain ⟨k21, hf⟩ := pm_if hf
      obtain ⟨v22, e23, hf⟩ := pm_bd hf
      by_cases c24 : v22 = 0
      · have hf := pm_it hf c24
        cases hf
        cases hi
        exact K0
      · have hf := pm_ie hf c24
        obtain ⟨v25, e26, hf⟩ := pm_bd hf
        by_cases c27 : v25 = 0
        · have hf := pm_it hf c27
          cases hf
          cases hi
          exact K0
        · have hf := pm_ie hf c27
          by_cases c28 : x13 = 0
          · have hf := pm_it hf c28
            obtain ⟨v29, e30, hf⟩ := pm_bd hf
            obtain ⟨v31, e32, hf⟩ := pm_bd hf
            obtain ⟨k33, hf⟩ := pm_if hf
            obtain ⟨u34, hf⟩ := pm_if hf
            obtain ⟨v35, e36, hf⟩ := pm_bd hf
            obtain ⟨v37, e38, hf⟩ := pm_bd hf
            obtain ⟨u39, hf⟩ := pm_if hf
            obtain ⟨v40, e41, hf⟩ := pm_bd hf
            obtain ⟨k42, hf⟩ := pm_if hf
            obtain ⟨k43, hf⟩ := pm_if hf
            obtain ⟨u44, hf⟩ := pm_if hf
            obtain ⟨u45, hf⟩ := pm_if hf
            obtain ⟨y46, e47, hf⟩ := pm_lt hf
            obtain ⟨y48, e49, hf⟩ := pm_lt hf
            cases hf
            exact ih.1 x0 x1 x2 x4 x6 y46 y48 (pm_cpI h v35 ((((x16 &&& 65535).toInt32) - 0).toNatClampNeg) v40 ((((x14 &&& 65535).toInt32) - 0).toNatClampNeg) y18.toNatClampNeg) (pw_cpI K0 rfl k43 (by decide) (by decide))  hi
          · have hf := pm_ie hf c28
            obtain ⟨y50, e51, hf⟩ := pm_lt hf
            obtain ⟨v52, e53, hf⟩ := pm_bd hf
            obtain ⟨v54, e55, hf⟩ := pm_bd hf
            obtain ⟨k56, hf⟩ := pm_if hf
            obtain ⟨u57, hf⟩ := pm_if hf
            obtain ⟨v58, e59, hf⟩ := pm_bd hf
            obtain ⟨v60, e61, hf⟩ := pm_bd hf
            obtain ⟨u62, hf⟩ := pm_if hf
            obtain ⟨v63, e64, hf⟩ := pm_bd hf
            obtain ⟨k65, hf⟩ := pm_if hf
            obtain ⟨k66, hf⟩ := pm_if hf
            obtain ⟨u67, hf⟩ := pm_if hf
            obtain ⟨u68, hf⟩ := pm_if hf
            obtain ⟨y69, e70, hf⟩ := pm_lt hf
            obtain ⟨y71, e72, hf⟩ := pm_lt hf
            cases hf
            exact ih.1 x0 x1 x2 x4 x6 y69 y71 (pm_cpI h v58 ((((x16 &&& 65535).toInt32) - y50).toNatClampNeg) v63 ((((x14 &&& 65535).toInt32) - y50).toNatClampNeg) y18.toNatClampNeg) (pw_cpI K0 rfl k66 (by decide) (by decide))  hi
set_option maxHeartbeats 4000000 in
set_option maxRecDepth 100000 in
theorem wfX6_copy {h0 h : pm_H} (K0 : pw_F WX6_copy h0 h) {a0 : Nat} {p1 : Int32} {p2 : Int64} {p3 : Int64} {p4 : Int64}  {r : pm_H} (hf : fX6_copy h a0 p1 p2 p3 p4 = some r) : pw_F WX6_copy h0 r := by
  unfold fX6_copy at hf
  obtain ⟨n, hn⟩ := pm_lim_iter hf
  exact (wlX6_copy n).1 a0 p1 p2 p3 p4 0 0 h K0  hn
abbrev WX8_truncated : List Nat := [1024]
set_option maxHeartbeats 4000000 in
set_option maxRecDepth 100000 in
theorem wfX8_truncated_b215 {h0 h : pm_H} (K0 : pw_F WX8_truncated h0 h) {x2 : Int32} {x6 : Int32} {x7 : Int32} {x12 : Int64}  {r : (Int64 × pm_H)} (hf : fX8_truncated_b215 h x2 x6 x7 x12 = some r) : pw_F WX8_truncated h0 r.2 := by
  unfold fX8_truncated_b215 at hf
  by_cases c39 : x6 = 0
  · have hf := pm_it hf c39
    by_cases c40 : x7 = 0
    · have hf := pm_it hf c40
      cases hf
      exact K0
    · have hf := pm_ie hf c40
      cases hf
      exact K0
  · have hf := pm_ie hf c39
    by_cases c41 : x7 = 0
    · have hf := pm_it hf c41
      cases hf
      exact K0
    · have hf := pm_ie hf c41
      cases hf
      exact K0
set_option maxHeartbeats 4000000 in
set_option maxRecDepth 100000 in
theorem wfX8_truncated_b205 {h0 h : pm_H} (K0 : pw_F WX8_truncated h0 h) {x0 : Nat} {x2 : Int32} {x6 : Int32} {x7 : Int32} {x12 : Int64}  {r : (Int64 × pm_H)} (hf : fX8_truncated_b205 h x0 x2 x6 x7 x12 = some r) : pw_F WX8_truncated h0 r.2 := by
  unfold fX8_truncated_b205 at hf
  by_cases c37 : x6 = 0
  · have hf := pm_it hf c37
    obtain ⟨k38, hf⟩ := pm_if hf
    exact wfX8_truncated_b215 (pw_sI K0 rfl k38 (by decide))  hf
  · have hf := pm_ie hf c37
    exact wfX8_truncated_b215 K0  hf
set_option maxHeartbeats 4000000 in
set_option maxRecDepth 100000 in
theorem wfX8_truncated_b188 {h0 h : pm_H} (K0 : pw_F WX8_truncated h0 h) {x0 : Nat} {x2 : Int32} {x6 : Int32} {x7 : Int32} {x9 : Int64} {x11 : Int32} {s0 : Int64}  {r : (Int64 × pm_H)} (hf : fX8_truncated_b188 h x0 x2 x6 x7 x9 x11 s0 = some r) : pw_F WX8_truncated h0 r.2 := by
  unfold fX8_truncated_b188 at hf
  by_cases c32 : x11 = 0
  · have hf := pm_it hf c32
    obtain ⟨v33, e34, hf⟩ := pm_lt hf
    by_cases c35 : v33 ≤ 0
    · have hf := pm_it hf c35
      by_cases c36 : x7 = 0
      · have hf := pm_it hf c36
        cases hf
        exact K0
      · have hf := pm_ie hf c36
        cases hf
        exact K0
    · have hf := pm_ie hf c35
      exact wfX8_truncated_b205 K0  hf
  · have hf := pm_ie hf c32
    exact wfX8_truncated_b205 K0  hf
set_option maxHeartbeats 4000000 in
set_option maxRecDepth 100000 in
theorem wfX8_truncated_b146 {h0 h : pm_H} (K0 : pw_F WX8_truncated h0 h) {x0 : Nat} {x2 : Int32} {x6 : Int32} {x7 : Int32} {x8 : Int32} {x9 : Int64} {x11 : Int32}  {r : (Int64 × pm_H)} (hf : fX8_truncated_b146 h x0 x2 x6 x7 x8 x9 x11 = some r) : pw_F WX8_truncated h0 r.2 := by
  unfold fX8_truncated_b146 at hf
  by_cases c29 : x8 = 0
  · have hf := pm_it hf c29
    by_cases c30 : x7 = 0
    · have hf := pm_it hf c30
      exact wfX8_truncated_b188 K0  hf
    · have hf := pm_ie hf c30
      exact wfX8_truncated_b188 K0  hf
  · have hf := pm_ie hf c29
    by_cases c31 : x7 = 0
    · have hf := pm_it hf c31
      exact wfX8_truncated_b188 K0  hf
    · have hf := pm_ie hf c31
      exact wfX8_truncated_b188 K0  hf
set_option maxHeartbeats 4000000 in
set_option maxRecDepth 100000 in
theorem wfX8_truncated_b101 {h0 h : pm_H} (K0 : pw_F WX8_truncated h0 h) {x0 : Nat} {x1 : Int32} {x2 : Int32} {x4 : Int64} {x6 : Int32} {x7 : Int32} {x8 : Int32} {x9 : Int64} {x12 : Int32} {s0 : Int32}  {r : (Int64 × pm_H)} (hf : fX8_truncated_b101 h x0 x1 x2 x4 x6 x7 x8 x9 x12 s0 = some r) : pw_F WX8_truncated h0 r.2 := by
  unfold fX8_truncated_b101 at hf
  by_cases c19 : x12 < 0
  · have hf := pm_it hf c19
    by_cases c20 : x12 ≤ (-64)
    · have hf := pm_it hf c20
      exact wfX8_truncated_b146 K0  hf
    · have hf := pm_ie hf c20
      obtain ⟨v21, e22, hf⟩ := pm_lt hf
      obtain ⟨y23, e24, hf⟩ := pm_lt hf
      exact wfX8_truncated_b146 K0  hf
  · have hf := pm_ie hf c19
    obtain ⟨v25, e26, hf⟩ := pm_lt hf
    obtain ⟨y27, e28, hf⟩ := pm_lt hf
    exact wfX8_truncated_b146 K0  hf
set_option maxHeartbeats 4000000 in
set_option maxRecDepth 100000 in
theorem wfX8_truncated_b54 {h0 h : pm_H} (K0 : pw_F WX8_truncated h0 h) {x0 : Nat} {x1 : Int32} {x2 : Int32} {x4 : Int64} {x6 : Int32} {x7 : Int32} {s0 : Int32}  {r : (Int64 × pm_H)} (hf : fX8_truncated_b54 h x0 x1 x2 x4 x6 x7 s0 = some r) : pw_F WX8_truncated h0 r.2 := by
  unfold fX8_truncated_b54 at hf
  obtain ⟨v10, e11, hf⟩ := pm_lt hf
  by_cases c12 : v10 = 0
  · have hf := pm_it hf c12
    obtain ⟨v13, e14, hf⟩ := pm_lt hf
    by_cases c15 : v13 = 0
    · have hf := pm_it hf c15
      obtain ⟨v16, e17, hf⟩ := pm_lt hf
      by_cases c18 : v16 ≤ 11
      · have hf := pm_it hf c18
        exact wfX8_truncated_b101 K0  hf
      · have hf := pm_ie hf c18
        exact wfX8_truncated_b101 K0  hf
    · have hf := pm_ie hf c15
      exact wfX8_truncated_b146 K0  hf
  · have hf := pm_ie hf c12
    exact wfX8_truncated_b146 K0  hf
set_option maxHeartbeats 4000000 in
set_option maxRecDepth 100000 in
theorem wfX8_truncated_b12 {h0 h : pm_H} (K0 : pw_F WX8_truncated h0 h) {x0 : Nat} {x1 : Int32} {x2 : Int32} {x3 : Int32} {x4 : Int64} {s0 : Int32}  {r : (Int64 × pm_H)} (hf : fX8_truncated_b12 h x0 x1 x2 x3 x4 s0 = some r) : pw_F WX8_truncated h0 r.2 := by
  unfold fX8_truncated_b12 at hf
  obtain ⟨v2, e3, hf⟩ := pm_lt hf
  by_cases c4 : v2 = 0
  · have hf := pm_it hf c4
    obtain ⟨v5, e6, hf⟩ := pm_lt hf
    by_cases c7 : (x3 &&& 1) = 0
    · have hf := pm_it hf c7
      exact wfX8_truncated_b54 K0  hf
    · have hf := pm_ie hf c7
      exact wfX8_truncated_b54 K0  hf
  · have hf := pm_ie hf c4
    by_cases c8 : s0 = 0
    · have hf := pm_it hf c8
      obtain ⟨k9, hf⟩ := pm_if hf
      cases hf
      exact (pw_sI K0 rfl k9 (by decide))
    · have hf := pm_ie hf c8
      cases hf
      exact K0
set_option maxHeartbeats 4000000 in
set_option maxRecDepth 100000 in
theorem wfX8_truncated {h0 h : pm_H} (K0 : pw_F WX8_truncated h0 h) {a0 : Nat} {p1 : Int32} {p2 : Int32} {p3 : Int32} {p4 : Int64}  {r : (Int64 × pm_H)} (hf : fX8_truncated h a0 p1 p2 p3 p4 = some r) : pw_F WX8_truncated h0 r.2 := by
  unfold fX8_truncated at hf
  by_cases c1 : p3 < 200
  · have hf := pm_it hf c1
    exact wfX8_truncated_b12 K0  hf
  · have hf := pm_ie hf c1
    exact wfX8_truncated_b12 K0  hf
abbrev WX9_number : List Nat := [1153, 1155, 1156]
set_option maxHeartbeats 4000000 in
set_option maxRecDepth 100000 in
theorem wlX9_number {h0 : pm_H} {r : (Int64 × pm_H)} : ∀ n : Nat, (∀ (x0 : Nat) (x1 : Int32) (x2 : Int32) (x3 : Int64) (x5 : Int32) (h : pm_H), pw_F WX9_number h0 h → pm_iter sX9_number n (.inl (x0, x1, x2, x3, x5, h)) = some r → pw_F WX9_number h0 r.2) ∧ (∀ (x0 : Nat) (x1 : Int32) (x2 : Int32) (x3 : Int64) (x5 : Int32) (x7 : Int32) (h : pm_H), pw_F WX9_number h0 h → pm_iter sX9_number n (.inr (.inl (x0, x1, x2, x3, x5, x7, h))) = some r → pw_F WX9_number h0 r.2) ∧ (∀ (x0 : Nat) (x1 : Int32) (x2 : Int32) (x3 : Int64) (x5 : Int32) (x6 : Int32) (x7 : Int32) (s0 : Int32) (s1 : Int32) (s2 : Int32) (h : pm_H), pw_F WX9_number h0 h → pm_iter sX9_number n (.inr (.inr (x0, x1, x2, x3, x5, x6, x7, s0, s1, s2, h))) = some r → pw_F WX9_number h0 r.2) := by
  intro n
  induction n with
  | zero => exact ⟨fun _ _ _ _ _ _ _ hf => (by cases hf), fun _ _ _ _ _ _ _ _ hf => (by cases hf), fun _ _ _ _ _ _ _ _ _ _ _ _ hf => (by cases hf)⟩
  | succ n ih =>
    refine ⟨fun x0 x1 x2 x3 x5 h K0 hf => ?_, ?_⟩
    · obtain ⟨y, hf, hi⟩ := pm_iter_s hf
      have hf : tX9_number_10 x0 x1 x2 x3 x5 h = some y := hf
      unfold tX9_number_10 at hf
      by_cases c3 : x2 ≤ x5
      · have hf := pm_it hf c3
        cases hf
        cases hi
        exact K0
      · have hf := pm_ie hf c3
        obtain ⟨k4, hf⟩ := pm_if hf
        by_cases c5 : (pm_I h x0 3) = 0
        · have hf := pm_it hf c5
          obtain ⟨y6, e7, hf⟩ := pm_lt hf
          obtain ⟨v8, e9, hf⟩ := pm_bd hf
          have K10 := pw_t (by decide) K0 (wfX9_next (pw_rf _) e9)
          obtain ⟨k11, hf⟩ := pm_if hf
          by_cases c12 : (pm_I v8.2 x0 3) = 0
          · have hf := pm_it hf c12
            by_cases c13 : (x5 + 7) < x2
            · have hf := pm_it hf c13
              cases hf
              exact ih.2.1 x0 x1 x2 x3 x5 v8.1 v8.2 K10  hi
            · have hf := pm_ie hf c13
              by_cases c14 : 0 ≤ x1
              · have hf := pm_it hf c14
                cases hf
                exact ih.2.2 x0 x1 x2 x3 x5 y6 v8.1 0 (x2 - x5) v8.1 v8.2 K10  hi
              · have hf := pm_ie hf c14
                cases hf
                exact ih.2.2 x0 x1 x2 x3 x5 y6 v8.1 1 (x2 - x5) v8.1 v8.2 K10  hi
          · have hf := pm_ie hf c12
            cases hf
            cases hi
            exact K10
        · have hf := pm_ie hf c5
          cases hf
          cases hi
          exact K0
    refine ⟨fun x0 x1 x2 x3 x5 x7 h K0 hf => ?_, ?_⟩
    · obtain ⟨y, hf, hi⟩ := pm_iter_s hf
      have hf : tX9_number_83 x0 x1 x2 x3 x5 x7 h = some y := hf
      unfold tX9_number_83 at hf
      obtain ⟨y15, e16, hf⟩ := pm_lt hf
      by_cases c17 : 128 ≤ x7
      · have hf := pm_it hf c17
        obtain ⟨y18, e19, hf⟩ := pm_lt hf
        cases hf
        exact ih.1 x0 x1 x2 y15 y18 h K0  hi
      · have hf := pm_ie hf c17
        by_cases c20 : 0 ≤ x1
        · have hf := pm_it hf c20
          cases hf
          cases hi
          exact K0
        · have hf := pm_ie hf c20
          by_cases c21 : (x7 &&& 64) = 0
          · have hf := pm_it hf c21
            cases hf
            cases hi
            exact K0
          · have hf := pm_ie hf c21
            by_cases c22 : 57 ≤ x5
            · have hf := pm_it hf c22
              cases hf
              cases hi
              exact K0
            · have hf := pm_ie hf c22
              cases hf
              cases hi
              exact K0
    refine fun x0 x1 x2 x3 x5 x6 x7 s0 s1 s2 h K0 hf => ?_
    obtain ⟨y, hf, hi⟩ := pm_iter_s hf
    have hf : tX9_number_68 x0 x1 x2 x3 x5 x6 x7 s0 s1 s2 h = some y := hf
    unfold tX9_number_68 at hf
    obtain ⟨v23, e24, hf⟩ := pm_lt hf
    by_cases c25 : v23 = 0
    · have hf := pm_it hf c25
      obtain ⟨k26, hf⟩ := pm_if hf
      obtain ⟨v27, e28, hf⟩ := pm_bd hf
      have K29 := pw_t (by decide) K0 (wfX9_fail (pw_rf _) e28)
      cases hf
      cases hi
      exact K29
    · have hf := pm_ie hf c25
      cases hf
      exact ih.2.1 x0 x1 x2 x3 x5 x7 h K0  hi
set_option maxHeartbeats 4000000 in
set_option maxRecDepth 100000 in
theorem wfX9_number {h0 h : pm_H} (K0 : pw_F WX9_number h0 h) {a0 : Nat} {p1 : Int32}  {r : (Int64 × pm_H)} (hf : fX9_number h a0 p1 = some r) : pw_F WX9_number h0 r.2 := by
  unfold fX9_number at hf
  obtain ⟨y1, e2, hf⟩ := pm_lt hf
  obtain ⟨n, hn⟩ := pm_lim_iter hf
  exact (wlX9_number n).1 a0 p1 y1 0 0 h K0  hn
abbrev WX9_selected : List Nat := [1153, 1155, 1156, 1157, 1160, 1161]
set_option maxHeartbeats 4000000 in
set_option maxRecDepth 100000 in
theorem wlX9_selected {h0 : pm_H} {r : pm_H} : ∀ n : Nat, (∀ (x0 : Nat) (x1 : Int64) (h : pm_H), pw_F WX9_selected h0 h → pm_iter sX9_selected n (x0, x1, h) = some r → pw_F WX9_selected h0 r) := by
  intro n
  induction n with
  | zero => exact fun _ _ _ _ hf => (by cases hf)
  | succ n ih =>
    refine fun x0 x1 h K0 hf => ?_
    obtain ⟨y, hf, hi⟩ := pm_iter_s hf
    have hf : tX9_selected_32 x0 x1 h = some y := hf
    unfold tX9_selected_32 at hf
    obtain ⟨k11, hf⟩ := pm_if hf
    by_cases c12 : (pm_L h x0 8) ≤ x1
    · have hf := pm_it hf c12
      cases hf
      cases hi
      exact K0
    · have hf := pm_ie hf c12
      by_cases c13 : (pm_I h x0 3) = 0
      · have hf := pm_it hf c13
        obtain ⟨v14, e15, hf⟩ := pm_bd hf
        have K16 := pw_t (by decide) K0 (wfX9_valueType (pw_rf _) e15)
        obtain ⟨k17, hf⟩ := pm_if hf
        obtain ⟨y18, e19, hf⟩ := pm_lt hf
        cases hf
        exact ih x0 y18 (pm_setL v14.2 x0 9 v14.1.toInt64) (pw_sL K16 rfl k17 (by decide))  hi
      · have hf := pm_ie hf c13
        cases hf
        cases hi
        exact K0
set_option maxHeartbeats 4000000 in
set_option maxRecDepth 100000 in
theorem wfX9_selected {h0 h : pm_H} (K0 : pw_F WX9_selected h0 h) {a0 : Nat}  {r : pm_H} (hf : fX9_selected h a0 = some r) : pw_F WX9_selected h0 r := by
  unfold fX9_selected at hf
  obtain ⟨k1, hf⟩ := pm_if hf
  obtain ⟨v2, e3, hf⟩ := pm_bd hf
  have K4 := pw_t (by decide) K0 (wfX9_number (pw_rf _) e3)
  obtain ⟨k5, hf⟩ := pm_if hf
  by_cases c6 : (pm_I (pm_setL v2.2 a0 8 v2.1) a0 16) = 0
  · have hf := pm_it hf c6
    obtain ⟨n, hn⟩ := pm_lim_iter hf
    exact (wlX9_selected n) a0 0 (pm_setL v2.2 a0 8 v2.1) (pw_sL K4 rfl k5 (by decide))  hn
  · have hf := pm_ie hf c6
    by_cases c7 : (pm_L (pm_setL v2.2 a0 8 v2.1) a0 8) = 1
    · have hf := pm_it hf c7
      obtain ⟨n, hn⟩ := pm_lim_iter hf
      exact (wlX9_selected n) a0 0 (pm_setL v2.2 a0 8 v2.1) (pw_sL K4 rfl k5 (by decide))  hn
    · have hf := pm_ie hf c7
      obtain ⟨v8, e9, hf⟩ := pm_bd hf
      have K10 := pw_t (by decide) (pw_sL K4 rfl k5 (by decide)) (wfX9_exceedLimit (pw_rf _) e9)
      obtain ⟨n, hn⟩ := pm_lim_iter hf
      exact (wlX9_selected n) a0 0 v8 K10  hn
abbrev WX10_addFunction : List Nat := [1281, 4352, 4864, 5120]
set_option maxHeartbeats 4000000 in
set_option maxRecDepth 100000 in
theorem wfX10_addFunction {h0 h : pm_H} (K0 : pw_F WX10_addFunction h0 h) {a0 : Nat} {p1 : Nat} {p2 : Nat} {p3 : Int32}  {r : (Int32 × pm_H)} (hf : fX10_addFunction h a0 p1 p2 p3 = some r) : pw_F WX10_addFunction h0 r.2 := by
  unfold fX10_addFunction at hf
  obtain ⟨k1, hf⟩ := pm_if hf
  obtain ⟨y2, e3, hf⟩ := pm_lt hf
  by_cases c4 : y2 < 512
  · have hf := pm_it hf c4
    obtain ⟨v5, e6, hf⟩ := pm_bd hf
    obtain ⟨k7, hf⟩ := pm_if hf
    obtain ⟨k8, hf⟩ := pm_if hf
    obtain ⟨u9, hf⟩ := pm_if hf
    obtain ⟨v10, e11, hf⟩ := pm_bd hf
    obtain ⟨k12, hf⟩ := pm_if hf
    have k12b := (congrFun (pkR rfl) v10).symm.trans k12
    obtain ⟨k13, hf⟩ := pm_if hf
    have k13b := (congrFun (pkR rfl) p1).symm.trans k13
    obtain ⟨u14, hf⟩ := pm_if hf
    obtain ⟨v15, e16, hf⟩ := pm_bd hf
    obtain ⟨k17, hf⟩ := pm_if hf
    have k17b := (congrFun (pkR (pkR rfl)) v15).symm.trans k17
    obtain ⟨u18, hf⟩ := pm_if hf
    obtain ⟨y19, e20, hf⟩ := pm_lt hf
    cases hf
    exact (pw_sI (pw_aI (pw_aR (pw_aR K0 rfl k7 (by decide) (by decide)) (pkR rfl) k12b (by decide) (by decide)) (pkR (pkR rfl)) k17b (by decide) (by decide)) (pkI (pkR (pkR rfl))) k1 (by decide))
  · have hf := pm_ie hf c4
    cases hf
    exact K0
abbrev WX12_move : List Nat := [4480]
set_option maxHeartbeats 4000000 in
set_option maxRecDepth 100000 in
theorem wfX12_move {h0 h : pm_H} (K0 : pw_F WX12_move h0 h) {p1 : Nat} {p2 : Int32} {p3 : Int32} {p4 : Int32}  {r : pm_H} (hf : fX12_move h p1 p2 p3 p4 = some r) : pw_F WX12_move h0 r := by
  unfold fX12_move at hf
  by_cases c1 : p4 ≤ 0
  · have hf := pm_it hf c1
    cases hf
    exact K0
  · have hf := pm_ie hf c1
    by_cases c2 : p2 < 0
    · have hf := pm_it hf c2
      cases hf
      exact K0
    · have hf := pm_ie hf c2
      by_cases c3 : p3 < 0
      · have hf := pm_it hf c3
        cases hf
        exact K0
      · have hf := pm_ie hf c3
        obtain ⟨k4, hf⟩ := pm_if hf
        by_cases c5 : ((Int32.ofNat (pm_ln h p1)) - p4) < p2
        · have hf := pm_it hf c5
          cases hf
          exact K0
        · have hf := pm_ie hf c5
          by_cases c6 : p3 ≤ ((Int32.ofNat (pm_ln h p1)) - p4)
          · have hf := pm_it hf c6
            obtain ⟨u7, hf⟩ := pm_if hf
            cases hf
            exact (pw_cpL K0 rfl k4 (by decide) (by decide))
          · have hf := pm_ie hf c6
            cases hf
            exact K0
abbrev WJ7_fill_eb02e : List Nat := [4224]
set_option maxHeartbeats 4000000 in
set_option maxRecDepth 100000 in
theorem wlJ7_fill_eb02e {h0 : pm_H} {r : pm_H} : ∀ n : Nat, (∀ (x0 : Nat) (x2 : Int32) (x3 : Int32) (x4 : Int32) (h : pm_H), pw_F WJ7_fill_eb02e h0 h → pm_iter sJ7_fill_eb02e n (x0, x2, x3, x4, h) = some r → pw_F WJ7_fill_eb02e h0 r) := by
  intro n
  induction n with
  | zero => exact fun _ _ _ _ _ _ hf => (by cases hf)
  | succ n ih =>
    refine fun x0 x2 x3 x4 h K0 hf => ?_
    obtain ⟨y, hf, hi⟩ := pm_iter_s hf
    have hf : tJ7_fill_eb02e_10 x0 x2 x3 x4 h = some y := hf
    unfold tJ7_fill_eb02e_10 at hf
    by_cases c4 : x2 ≤ x4
    · have hf := pm_it hf c4
      cases hf
      cases hi
      exact K0
    · have hf := pm_ie hf c4
      obtain ⟨k5, hf⟩ := pm_if hf
      obtain ⟨u6, hf⟩ := pm_if hf
      obtain ⟨y7, e8, hf⟩ := pm_lt hf
      cases hf
      exact ih x0 x2 x3 y7 (pm_setI h x0 x4.toNatClampNeg (vp_nar .byte x3)) (pw_aI K0 rfl k5 (by decide) (by decide))  hi
set_option maxHeartbeats 4000000 in
set_option maxRecDepth 100000 in
theorem wfJ7_fill_eb02e {h0 h : pm_H} (K0 : pw_F WJ7_fill_eb02e h0 h) {p1 : Nat} {p2 : Int32} {p3 : Int32} {p4 : Int32}  {r : pm_H} (hf : fJ7_fill_eb02e h p1 p2 p3 p4 = some r) : pw_F WJ7_fill_eb02e h0 r := by
  unfold fJ7_fill_eb02e at hf
  obtain ⟨k1, hf⟩ := pm_if hf
  obtain ⟨v2, e3, hf⟩ := pm_bd hf
  obtain ⟨n, hn⟩ := pm_lim_iter hf
  exact (wlJ7_fill_eb02e n) p1 p3 p4 p2 h K0  hn
abbrev WJ7_fill_fda19 : List Nat := [4352]
set_option maxHeartbeats 4000000 in
set_option maxRecDepth 100000 in
theorem wlJ7_fill_fda19 {h0 : pm_H} {r : pm_H} : ∀ n : Nat, (∀ (x0 : Nat) (x2 : Int32) (x3 : Int32) (x4 : Int32) (h : pm_H), pw_F WJ7_fill_fda19 h0 h → pm_iter sJ7_fill_fda19 n (x0, x2, x3, x4, h) = some r → pw_F WJ7_fill_fda19 h0 r) := by
  intro n
  induction n with
  | zero => exact fun _ _ _ _ _ _ hf => (by cases hf)
  | succ n ih =>
    refine fun x0 x2 x3 x4 h K0 hf => ?_
    obtain ⟨y, hf, hi⟩ := pm_iter_s hf
    have hf : tJ7_fill_fda19_10 x0 x2 x3 x4 h = some y := hf
    unfold tJ7_fill_fda19_10 at hf
    by_cases c4 : x2 ≤ x4
    · have hf := pm_it hf c4
      cases hf
      cases hi
      exact K0
    · have hf := pm_ie hf c4
      obtain ⟨k5, hf⟩ := pm_if hf
      obtain ⟨u6, hf⟩ := pm_if hf
      obtain ⟨y7, e8, hf⟩ := pm_lt hf
      cases hf
      exact ih x0 x2 x3 y7 (pm_setI h x0 x4.toNatClampNeg x3) (pw_aI K0 rfl k5 (by decide) (by decide))  hi
set_option maxHeartbeats 4000000 in
set_option maxRecDepth 100000 in
theorem wfJ7_fill_fda19 {h0 h : pm_H} (K0 : pw_F WJ7_fill_fda19 h0 h) {p1 : Nat} {p2 : Int32} {p3 : Int32} {p4 : Int32}  {r : pm_H} (hf : fJ7_fill_fda19 h p1 p2 p3 p4 = some r) : pw_F WJ7_fill_fda19 h0 r := by
  unfold fJ7_fill_fda19 at hf
  obtain ⟨k1, hf⟩ := pm_if hf
  obtain ⟨v2, e3, hf⟩ := pm_bd hf
  obtain ⟨n, hn⟩ := pm_lim_iter hf
  exact (wlJ7_fill_fda19 n) p1 p3 p4 p2 h K0  hn
abbrev WX1_readLocals : List Nat := [140, 142, 1153, 1155, 1156, 4352]
set_option maxHeartbeats 4000000 in
set_option maxRecDepth 100000 in
theorem wlX1_readLocals {h0 : pm_H} {r : pm_H} : ∀ n : Nat, (∀ (x0 : Nat) (x1 : Int32) (h : pm_H), pw_F WX1_readLocals h0 h → pm_iter sX1_readLocals n (.inl (x0, x1, h)) = some r → pw_F WX1_readLocals h0 r) ∧ (∀ (x0 : Nat) (x1 : Int64) (x3 : Int64) (h : pm_H), pw_F WX1_readLocals h0 h → pm_iter sX1_readLocals n (.inr (.inl (x0, x1, x3, h))) = some r → pw_F WX1_readLocals h0 r) ∧ (∀ (x0 : Nat) (x1 : Int64) (x3 : Int64) (x5 : Int32) (x6 : Int32) (x7 : Int32) (h : pm_H), pw_F WX1_readLocals h0 h → pm_iter sX1_readLocals n (.inr (.inr (x0, x1, x3, x5, x6, x7, h))) = some r → pw_F WX1_readLocals h0 r) := by
  intro n
  induction n with
  | zero => exact ⟨fun _ _ _ _ hf => (by cases hf), fun _ _ _ _ _ hf => (by cases hf), fun _ _ _ _ _ _ _ _ hf => (by cases hf)⟩
  | succ n ih =>
    refine ⟨fun x0 x1 h K0 hf => ?_, ?_⟩
    · obtain ⟨y, hf, hi⟩ := pm_iter_s hf
      have hf : tX1_readLocals_17 x0 x1 h = some y := hf
      unfold tX1_readLocals_17 at hf
      obtain ⟨k9, hf⟩ := pm_if hf
      by_cases c10 : (pm_I h x0 12) ≤ x1
      · have hf := pm_it hf c10
        obtain ⟨v11, e12, hf⟩ := pm_bd hf
        obtain ⟨k13, hf⟩ := pm_if hf
        have k13b := (congrFun (pkI rfl) v11).symm.trans k13
        obtain ⟨v14, e15, hf⟩ := pm_bd hf
        have K16 := pw_t (by decide) (pw_sI K0 rfl k9 (by decide)) (wfX9_number (pw_rf _) e15)
        cases hf
        exact ih.2.1 x0 v14.1 0 v14.2 K16  hi
      · have hf := pm_ie hf c10
        obtain ⟨v17, e18, hf⟩ := pm_bd hf
        obtain ⟨v19, e20, hf⟩ := pm_bd hf
        obtain ⟨k21, hf⟩ := pm_if hf
        obtain ⟨v22, e23, hf⟩ := pm_bd hf
        obtain ⟨v24, e25, hf⟩ := pm_bd hf
        obtain ⟨v26, e27, hf⟩ := pm_bd hf
        have K28 := pw_t (by decide) K0 (wfX12_setItem (pw_rf _) e27)
        obtain ⟨y29, e30, hf⟩ := pm_lt hf
        cases hf
        exact ih.1 x0 y29 v26 K28  hi
    refine ⟨fun x0 x1 x3 h K0 hf => ?_, ?_⟩
    · obtain ⟨y, hf, hi⟩ := pm_iter_s hf
      have hf : tX1_readLocals_69 x0 x1 x3 h = some y := hf
      unfold tX1_readLocals_69 at hf
      by_cases c31 : x1 ≤ x3
      · have hf := pm_it hf c31
        cases hf
        cases hi
        exact K0
      · have hf := pm_ie hf c31
        obtain ⟨k32, hf⟩ := pm_if hf
        obtain ⟨v33, e34, hf⟩ := pm_bd hf
        obtain ⟨k35, hf⟩ := pm_if hf
        by_cases c36 : (pm_I h v33 3) = 0
        · have hf := pm_it hf c36
          obtain ⟨v37, e38, hf⟩ := pm_bd hf
          have K39 := pw_t (by decide) K0 (wfX9_number (pw_rf _) e38)
          obtain ⟨k40, hf⟩ := pm_if hf
          obtain ⟨v41, e42, hf⟩ := pm_bd hf
          obtain ⟨k43, hf⟩ := pm_if hf
          obtain ⟨y44, e45, hf⟩ := pm_lt hf
          obtain ⟨y46, e47, hf⟩ := pm_lt hf
          obtain ⟨v48, e49, hf⟩ := pm_bd hf
          obtain ⟨k50, hf⟩ := pm_if hf
          obtain ⟨v51, e52, hf⟩ := pm_bd hf
          have K53 := pw_t (by decide) K39 (wfX9_next (pw_rf _) e52)
          by_cases c54 : y46 ≤ 0
          · have hf := pm_it hf c54
            cases hf
            exact ih.2.2 x0 x1 x3 y46 v51.1 0 v51.2 K53  hi
          · have hf := pm_ie hf c54
            by_cases c55 : v51.1 = 112
            · have hf := pm_it hf c55
              obtain ⟨k56, hf⟩ := pm_if hf
              obtain ⟨v57, e58, hf⟩ := pm_bd hf
              obtain ⟨v59, e60, hf⟩ := pm_bd hf
              have K61 := pw_t (by decide) K53 (wfX12_setItem (pw_rf _) e60)
              obtain ⟨k62, hf⟩ := pm_if hf
              obtain ⟨v63, e64, hf⟩ := pm_bd hf
              obtain ⟨v65, e66, hf⟩ := pm_bd hf
              have K67 := pw_t (by decide) K61 (wfX12_setItem (pw_rf _) e66)
              obtain ⟨k68, hf⟩ := pm_if hf
              obtain ⟨v69, e70, hf⟩ := pm_bd hf
              obtain ⟨k71, hf⟩ := pm_if hf
              obtain ⟨y72, e73, hf⟩ := pm_lt hf
              obtain ⟨y74, e75, hf⟩ := pm_lt hf
              cases hf
              exact ih.2.2 x0 x1 x3 y46 v51.1 0 (pm_setI v65 x0 14 y74) (pw_sI K67 rfl k68 (by decide))  hi
            · have hf := pm_ie hf c55
              by_cases c76 : v51.1 = 111
              · have hf := pm_it hf c76
                obtain ⟨k77, hf⟩ := pm_if hf
                obtain ⟨v78, e79, hf⟩ := pm_bd hf
                obtain ⟨v80, e81, hf⟩ := pm_bd hf
                have K82 := pw_t (by decide) K53 (wfX12_setItem (pw_rf _) e81)
                obtain ⟨k83, hf⟩ := pm_if hf
                obtain ⟨v84, e85, hf⟩ := pm_bd hf
                obtain ⟨v86, e87, hf⟩ := pm_bd hf
                have K88 := pw_t (by decide) K82 (wfX12_setItem (pw_rf _) e87)
                obtain ⟨k89, hf⟩ := pm_if hf
                obtain ⟨v90, e91, hf⟩ := pm_bd hf
                obtain ⟨k92, hf⟩ := pm_if hf
                obtain ⟨y93, e94, hf⟩ := pm_lt hf
                obtain ⟨y95, e96, hf⟩ := pm_lt hf
                cases hf
                exact ih.2.2 x0 x1 x3 y46 v51.1 0 (pm_setI v86 x0 14 y95) (pw_sI K88 rfl k89 (by decide))  hi
              · have hf := pm_ie hf c76
                cases hf
                exact ih.2.2 x0 x1 x3 y46 v51.1 0 v51.2 K53  hi
        · have hf := pm_ie hf c36
          cases hf
          cases hi
          exact K0
    refine fun x0 x1 x3 x5 x6 x7 h K0 hf => ?_
    obtain ⟨y, hf, hi⟩ := pm_iter_s hf
    have hf : tX1_readLocals_195 x0 x1 x3 x5 x6 x7 h = some y := hf
    unfold tX1_readLocals_195 at hf
    by_cases c97 : x5 ≤ x7
    · have hf := pm_it hf c97
      obtain ⟨k98, hf⟩ := pm_if hf
      obtain ⟨y99, e100, hf⟩ := pm_lt hf
      obtain ⟨y101, e102, hf⟩ := pm_lt hf
      cases hf
      exact ih.2.1 x0 x1 y101 (pm_setI h x0 12 y99) (pw_sI K0 rfl k98 (by decide))  hi
    · have hf := pm_ie hf c97
      obtain ⟨k103, hf⟩ := pm_if hf
      obtain ⟨v104, e105, hf⟩ := pm_bd hf
      obtain ⟨v106, e107, hf⟩ := pm_bd hf
      have K108 := pw_t (by decide) K0 (wfX12_setItem (pw_rf _) e107)
      obtain ⟨y109, e110, hf⟩ := pm_lt hf
      cases hf
      exact ih.2.2 x0 x1 x3 x5 x6 y109 v106 K108  hi
set_option maxHeartbeats 4000000 in
set_option maxRecDepth 100000 in
theorem wfX1_readLocals {h0 h : pm_H} (K0 : pw_F WX1_readLocals h0 h) {a0 : Nat}  {r : pm_H} (hf : fX1_readLocals h a0 = some r) : pw_F WX1_readLocals h0 r := by
  unfold fX1_readLocals at hf
  obtain ⟨k1, hf⟩ := pm_if hf
  obtain ⟨v2, e3, hf⟩ := pm_bd hf
  obtain ⟨k4, hf⟩ := pm_if hf
  obtain ⟨v5, e6, hf⟩ := pm_bd hf
  obtain ⟨v7, e8, hf⟩ := pm_bd hf
  obtain ⟨n, hn⟩ := pm_lim_iter hf
  exact (wlX1_readLocals n).1 a0 0 (pm_setI h a0 12 v7) (pw_sI K0 rfl k1 (by decide))  hn
abbrev WX5_branchOnRegisters : List Nat := [387, 4480]
set_option maxHeartbeats 4000000 in
set_option maxRecDepth 100000 in
theorem wfX5_branchOnRegisters {h0 h : pm_H} (K0 : pw_F WX5_branchOnRegisters h0 h) {a0 : Nat} {p1 : Int32}  {r : pm_H} (hf : fX5_branchOnRegisters h a0 p1 = some r) : pw_F WX5_branchOnRegisters h0 r := by
  unfold fX5_branchOnRegisters at hf
  obtain ⟨k1, hf⟩ := pm_if hf
  obtain ⟨v2, e3, hf⟩ := pm_bd hf
  obtain ⟨k4, hf⟩ := pm_if hf
  obtain ⟨v5, e6, hf⟩ := pm_bd hf
  obtain ⟨v7, e8, hf⟩ := pm_bd hf
  obtain ⟨y9, e10, hf⟩ := pm_lt hf
  obtain ⟨v11, e12, hf⟩ := pm_bd hf
  obtain ⟨y13, e14, hf⟩ := pm_lt hf
  obtain ⟨v15, e16, hf⟩ := pm_bd hf
  obtain ⟨v17, e18, hf⟩ := pm_bd hf
  obtain ⟨v19, e20, hf⟩ := pm_bd hf
  have K21 := pw_t (by decide) K0 (wfX12_move (pw_rf _) e20)
  obtain ⟨k22, hf⟩ := pm_if hf
  obtain ⟨v23, e24, hf⟩ := pm_bd hf
  obtain ⟨k25, hf⟩ := pm_if hf
  obtain ⟨v26, e27, hf⟩ := pm_bd hf
  obtain ⟨v28, e29, hf⟩ := pm_bd hf
  cases hf
  exact (pw_sI K21 rfl k25 (by decide))
abbrev WX5_branchOnStack : List Nat := [387, 389, 4480]
set_option maxHeartbeats 4000000 in
set_option maxRecDepth 100000 in
theorem wfX5_branchOnStack {h0 h : pm_H} (K0 : pw_F WX5_branchOnStack h0 h) {a0 : Nat} {p1 : Int32}  {r : pm_H} (hf : fX5_branchOnStack h a0 p1 = some r) : pw_F WX5_branchOnStack h0 r := by
  unfold fX5_branchOnStack at hf
  obtain ⟨k1, hf⟩ := pm_if hf
  obtain ⟨v2, e3, hf⟩ := pm_bd hf
  obtain ⟨k4, hf⟩ := pm_if hf
  obtain ⟨v5, e6, hf⟩ := pm_bd hf
  obtain ⟨v7, e8, hf⟩ := pm_bd hf
  obtain ⟨v9, e10, hf⟩ := pm_bd hf
  obtain ⟨k11, hf⟩ := pm_if hf
  obtain ⟨v12, e13, hf⟩ := pm_bd hf
  obtain ⟨y14, e15, hf⟩ := pm_lt hf
  obtain ⟨v16, e17, hf⟩ := pm_bd hf
  obtain ⟨v18, e19, hf⟩ := pm_bd hf
  have K20 := pw_t (by decide) K0 (wfX12_move (pw_rf _) e19)
  obtain ⟨k21, hf⟩ := pm_if hf
  obtain ⟨v22, e23, hf⟩ := pm_bd hf
  obtain ⟨y24, e25, hf⟩ := pm_lt hf
  obtain ⟨k26, hf⟩ := pm_if hf
  obtain ⟨v27, e28, hf⟩ := pm_bd hf
  obtain ⟨v29, e30, hf⟩ := pm_bd hf
  cases hf
  exact (pw_sI (pw_sI K20 rfl k26 (by decide)) (pkI rfl) k26 (by decide))
abbrev WX5_enter : List Nat := [384, 385, 386, 387, 388, 389, 390, 391, 640, 643, 644, 647, 652, 653, 654, 1282, 4096, 4352, 4480]
set_option maxHeartbeats 4000000 in
set_option maxRecDepth 100000 in
theorem wfX5_enter {h0 h : pm_H} (K0 : pw_F WX5_enter h0 h) {a0 : Nat} {p1 : Int32} {p2 : Int32}  {r : pm_H} (hf : fX5_enter h a0 p1 p2 = some r) : pw_F WX5_enter h0 r := by
  unfold fX5_enter at hf
  obtain ⟨k1, hf⟩ := pm_if hf
  obtain ⟨v2, e3, hf⟩ := pm_bd hf
  obtain ⟨k4, hf⟩ := pm_if hf
  obtain ⟨v5, e6, hf⟩ := pm_bd hf
  obtain ⟨k7, hf⟩ := pm_if hf
  obtain ⟨v8, e9, hf⟩ := pm_bd hf
  obtain ⟨v10, e11, hf⟩ := pm_bd hf
  obtain ⟨v12, e13, hf⟩ := pm_bd hf
  by_cases c14 : v12 < 0
  · have hf := pm_it hf c14
    obtain ⟨y15, e16, hf⟩ := pm_lt hf
    by_cases c17 : (pm_I h a0 3) < 0
    · have hf := pm_it hf c17
      obtain ⟨v18, e19, hf⟩ := pm_bd hf
      have K20 := pw_t (by decide) K0 (wfX5_stop (pw_rf _) e19)
      cases hf
      exact K20
    · have hf := pm_ie hf c17
      by_cases c21 : 200 ≤ (pm_I h a0 3)
      · have hf := pm_it hf c21
        obtain ⟨v22, e23, hf⟩ := pm_bd hf
        have K24 := pw_t (by decide) K0 (wfX5_stop (pw_rf _) e23)
        cases hf
        exact K24
      · have hf := pm_ie hf c21
        by_cases c25 : y15 ≤ 4096
        · have hf := pm_it hf c25
          obtain ⟨v26, e27, hf⟩ := pm_bd hf
          obtain ⟨y28, e29, hf⟩ := pm_lt hf
          obtain ⟨k30, hf⟩ := pm_if hf
          obtain ⟨u31, hf⟩ := pm_if hf
          obtain ⟨v32, e33, hf⟩ := pm_bd hf
          obtain ⟨y34, e35, hf⟩ := pm_lt hf
          obtain ⟨v36, e37, hf⟩ := pm_bd hf
          obtain ⟨v38, e39, hf⟩ := pm_bd hf
          obtain ⟨k40, hf⟩ := pm_if hf
          have k40b := (congrFun (pkI (pkR rfl)) v38).symm.trans k40
          obtain ⟨v41, e42, hf⟩ := pm_bd hf
          obtain ⟨k43, hf⟩ := pm_if hf
          have k43b := (congrFun (pkI (pkR rfl)) v36).symm.trans k43
          obtain ⟨v44, e45, hf⟩ := pm_bd hf
          obtain ⟨k46, hf⟩ := pm_if hf
          have k46b := (congrFun (pkR (pkI (pkR rfl))) v44).symm.trans k46
          obtain ⟨v47, e48, hf⟩ := pm_bd hf
          obtain ⟨v49, e50, hf⟩ := pm_bd hf
          obtain ⟨k51, hf⟩ := pm_if hf
          have k51b := (congrFun (pkR (pkR (pkI (pkR rfl)))) v47).symm.trans k51
          obtain ⟨v52, e53, hf⟩ := pm_bd hf
          obtain ⟨k54, hf⟩ := pm_if hf
          have k54b := (congrFun (pkR (pkR (pkR (pkI (pkR rfl))))) v52).symm.trans k54
          obtain ⟨y55, e56, hf⟩ := pm_lt hf
          obtain ⟨y57, e58, hf⟩ := pm_lt hf
          obtain ⟨v59, e60, hf⟩ := pm_bd hf
          obtain ⟨k61, hf⟩ := pm_if hf
          have k61b := (congrFun (pkI (pkI (pkI (pkI (pkR (pkR (pkR (pkI (pkR rfl))))))))) v59).symm.trans k61
          obtain ⟨v62, e63, hf⟩ := pm_bd hf
          have K64 := pw_t (by decide) (pw_sI (pw_sI (pw_sI (pw_sI (pw_sR (pw_sR (pw_sR (pw_sI (pw_sR K0 rfl k1 (by decide)) (pkR rfl) k1 (by decide)) (pkI (pkR rfl)) k43b (by decide)) (pkR (pkI (pkR rfl))) k46b (by decide)) (pkR (pkR (pkI (pkR rfl)))) k51b (by decide)) (pkR (pkR (pkR (pkI (pkR rfl))))) k54b (by decide)) (pkI (pkR (pkR (pkR (pkI (pkR rfl)))))) k54b (by decide)) (pkI (pkI (pkR (pkR (pkR (pkI (pkR rfl))))))) k54b (by decide)) (pkI (pkI (pkI (pkR (pkR (pkR (pkI (pkR rfl)))))))) k54b (by decide)) (wfX10_countFrame (pw_rf _) e63)
          obtain ⟨k65, hf⟩ := pm_if hf
          obtain ⟨u66, hf⟩ := pm_if hf
          obtain ⟨k67, hf⟩ := pm_if hf
          have k67b := (congrFun (pkI rfl) a0).symm.trans k67
          obtain ⟨v68, e69, hf⟩ := pm_bd hf
          obtain ⟨v70, e71, hf⟩ := pm_bd hf
          have K72 := pw_t (by decide) (pw_sI K64 rfl k65 (by decide)) (wfX12_move (pw_rf _) e71)
          obtain ⟨k73, hf⟩ := pm_if hf
          obtain ⟨v74, e75, hf⟩ := pm_bd hf
          have K76 := pw_t (by decide) K72 (wfX5_clearLocals (pw_rf _) e75)
          obtain ⟨k77, hf⟩ := pm_if hf
          cases hf
          exact (pw_sI K76 rfl k77 (by decide))
        · have hf := pm_ie hf c25
          obtain ⟨v78, e79, hf⟩ := pm_bd hf
          have K80 := pw_t (by decide) K0 (wfX5_stop (pw_rf _) e79)
          cases hf
          exact K80
  · have hf := pm_ie hf c14
    obtain ⟨v81, e82, hf⟩ := pm_bd hf
    have K83 := pw_t (by decide) K0 (wfX5_tell (pw_rf _) e82)
    obtain ⟨k84, hf⟩ := pm_if hf
    cases hf
    exact (pw_sI (pw_sI K83 rfl k84 (by decide)) (pkI rfl) k84 (by decide))
abbrev WX5_leave : List Nat := [389, 640, 643, 647, 652, 653, 654, 4480]
set_option maxHeartbeats 4000000 in
set_option maxRecDepth 100000 in
theorem wfX5_leave {h0 h : pm_H} (K0 : pw_F WX5_leave h0 h) {a0 : Nat}  {r : pm_H} (hf : fX5_leave h a0 = some r) : pw_F WX5_leave h0 r := by
  unfold fX5_leave at hf
  obtain ⟨k1, hf⟩ := pm_if hf
  obtain ⟨v2, e3, hf⟩ := pm_bd hf
  obtain ⟨k4, hf⟩ := pm_if hf
  obtain ⟨v5, e6, hf⟩ := pm_bd hf
  obtain ⟨k7, hf⟩ := pm_if hf
  obtain ⟨y8, e9, hf⟩ := pm_lt hf
  obtain ⟨v10, e11, hf⟩ := pm_bd hf
  obtain ⟨v12, e13, hf⟩ := pm_bd hf
  obtain ⟨y14, e15, hf⟩ := pm_lt hf
  obtain ⟨y16, e17, hf⟩ := pm_lt hf
  by_cases c18 : (pm_I (pm_setI (pm_setI h a0 3 y14) a0 13 y16) a0 3) ≤ 0
  · have hf := pm_it hf c18
    obtain ⟨v19, e20, hf⟩ := pm_bd hf
    have K21 := pw_t (by decide) (pw_sI (pw_sI K0 rfl k1 (by decide)) (pkI rfl) k1 (by decide)) (wfX5_tell (pw_rf _) e20)
    obtain ⟨k22, hf⟩ := pm_if hf
    obtain ⟨v23, e24, hf⟩ := pm_bd hf
    have K25 := pw_t (by decide) K21 (wfX5_stop (pw_rf _) e24)
    cases hf
    exact K25
  · have hf := pm_ie hf c18
    by_cases c26 : (pm_I (pm_setI (pm_setI h a0 3 y14) a0 13 y16) a0 3) ≤ 200
    · have hf := pm_it hf c26
      obtain ⟨v27, e28, hf⟩ := pm_bd hf
      obtain ⟨y29, e30, hf⟩ := pm_lt hf
      obtain ⟨k31, hf⟩ := pm_if hf
      have k31b := (congrFun (pkI (pkI rfl)) v27).symm.trans k31
      obtain ⟨u32, hf⟩ := pm_if hf
      obtain ⟨v33, e34, hf⟩ := pm_bd hf
      obtain ⟨v35, e36, hf⟩ := pm_bd hf
      obtain ⟨v37, e38, hf⟩ := pm_bd hf
      obtain ⟨k39, hf⟩ := pm_if hf
      have k39b := (congrFun (pkR (pkI (pkI rfl))) v37).symm.trans k39
      obtain ⟨v40, e41, hf⟩ := pm_bd hf
      have K42 := pw_t (by decide) (pw_sR (pw_sI (pw_sI K0 rfl k1 (by decide)) (pkI rfl) k1 (by decide)) (pkI (pkI rfl)) k1 (by decide)) (wfX12_move (pw_rf _) e41)
      obtain ⟨k43, hf⟩ := pm_if hf
      obtain ⟨v44, e45, hf⟩ := pm_bd hf
      obtain ⟨k46, hf⟩ := pm_if hf
      obtain ⟨y47, e48, hf⟩ := pm_lt hf
      cases hf
      exact (pw_sI K42 rfl k46 (by decide))
    · have hf := pm_ie hf c26
      obtain ⟨v49, e50, hf⟩ := pm_bd hf
      have K51 := pw_t (by decide) (pw_sI (pw_sI K0 rfl k1 (by decide)) (pkI rfl) k1 (by decide)) (wfX5_tell (pw_rf _) e50)
      obtain ⟨k52, hf⟩ := pm_if hf
      obtain ⟨v53, e54, hf⟩ := pm_bd hf
      have K55 := pw_t (by decide) K51 (wfX5_stop (pw_rf _) e54)
      cases hf
      exact K55
abbrev WX6_fill : List Nat := [4224]
set_option maxHeartbeats 4000000 in
set_option maxRecDepth 100000 in
theorem wlX6_fill {h0 : pm_H} {r : pm_H} : ∀ n : Nat, (∀ (x0 : Nat) (x1 : Int32) (x2 : Int64) (x4 : Int32) (x5 : Int64) (x7 : Int64) (x9 : Int32) (h : pm_H), pw_F WX6_fill h0 h → pm_iter sX6_fill n (x0, x1, x2, x4, x5, x7, x9, h) = some r → pw_F WX6_fill h0 r) := by
  intro n
  induction n with
  | zero => exact fun _ _ _ _ _ _ _ _ _ hf => (by cases hf)
  | succ n ih =>
    refine fun x0 x1 x2 x4 x5 x7 x9 h K0 hf => ?_
    obtain ⟨y, hf, hi⟩ := pm_iter_s hf
    have hf : tX6_fill_6 x0 x1 x2 x4 x5 x7 x9 h = some y := hf
    unfold tX6_fill_6 at hf
    by_cases c1 : 16 ≤ x9
    · have hf := pm_it hf c1
      cases hf
      cases hi
      exact K0
    · have hf := pm_ie hf c1
      by_cases c2 : x5 ≤ x7
      · have hf := pm_it hf c2
        cases hf
        cases hi
        exact K0
      · have hf := pm_ie hf c2
        obtain ⟨k3, hf⟩ := pm_if hf
        obtain ⟨v4, e5, hf⟩ := pm_bd hf
        obtain ⟨y6, e7, hf⟩ := pm_lt hf
        by_cases c8 : 0 < y6
        · have hf := pm_it hf c8
          obtain ⟨y9, e10, hf⟩ := pm_lt hf
          obtain ⟨v11, e12, hf⟩ := pm_bd hf
          obtain ⟨v13, e14, hf⟩ := pm_bd hf
          obtain ⟨k15, hf⟩ := pm_if hf
          obtain ⟨u16, hf⟩ := pm_if hf
          obtain ⟨v17, e18, hf⟩ := pm_bd hf
          obtain ⟨v19, e20, hf⟩ := pm_bd hf
          have K21 := pw_t (by decide) K0 (wfJ7_fill_eb02e (pw_rf _) e20)
          obtain ⟨y22, e23, hf⟩ := pm_lt hf
          obtain ⟨y24, e25, hf⟩ := pm_lt hf
          cases hf
          exact ih x0 x1 x2 x4 x5 y22 y24 v19 K21  hi
        · have hf := pm_ie hf c8
          cases hf
          cases hi
          exact K0
set_option maxHeartbeats 4000000 in
set_option maxRecDepth 100000 in
theorem wfX6_fill {h0 h : pm_H} (K0 : pw_F WX6_fill h0 h) {a0 : Nat} {p1 : Int32} {p2 : Int64} {p3 : Int32} {p4 : Int64}  {r : pm_H} (hf : fX6_fill h a0 p1 p2 p3 p4 = some r) : pw_F WX6_fill h0 r := by
  unfold fX6_fill at hf
  obtain ⟨n, hn⟩ := pm_lim_iter hf
  exact (wlX6_fill n) a0 p1 p2 p3 p4 0 0 h K0  hn
abbrev WX9_blockType : List Nat := [1153, 1155, 1156]
set_option maxHeartbeats 4000000 in
set_option maxRecDepth 100000 in
theorem wfX9_blockType_b47 {h0 h : pm_H} (K0 : pw_F WX9_blockType h0 h) {x0 : Nat} {x1 : Int32} {x2 : Int64} {s0 : Int32}  {r : (Int64 × pm_H)} (hf : fX9_blockType_b47 h x0 x1 x2 s0 = some r) : pw_F WX9_blockType h0 r.2 := by
  unfold fX9_blockType_b47 at hf
  by_cases c13 : 0 ≤ x2
  · have hf := pm_it hf c13
    cases hf
    exact K0
  · have hf := pm_ie hf c13
    by_cases c14 : s0 = 0
    · have hf := pm_it hf c14
      obtain ⟨k15, hf⟩ := pm_if hf
      obtain ⟨v16, e17, hf⟩ := pm_bd hf
      have K18 := pw_t (by decide) K0 (wfX9_fail (pw_rf _) e17)
      cases hf
      exact K18
    · have hf := pm_ie hf c14
      cases hf
      exact K0
set_option maxHeartbeats 4000000 in
set_option maxRecDepth 100000 in
theorem wfX9_blockType_b42 {h0 h : pm_H} (K0 : pw_F WX9_blockType h0 h) {x0 : Nat} {x1 : Int32} {x2 : Int64}  {r : (Int64 × pm_H)} (hf : fX9_blockType_b42 h x0 x1 x2 = some r) : pw_F WX9_blockType h0 r.2 := by
  unfold fX9_blockType_b42 at hf
  exact wfX9_blockType_b47 K0  hf
set_option maxHeartbeats 4000000 in
set_option maxRecDepth 100000 in
theorem wfX9_blockType_b46 {h0 h : pm_H} (K0 : pw_F WX9_blockType h0 h) {x0 : Nat} {x1 : Int32} {x2 : Int64}  {r : (Int64 × pm_H)} (hf : fX9_blockType_b46 h x0 x1 x2 = some r) : pw_F WX9_blockType h0 r.2 := by
  unfold fX9_blockType_b46 at hf
  exact wfX9_blockType_b47 K0  hf
set_option maxHeartbeats 4000000 in
set_option maxRecDepth 100000 in
theorem wfX9_blockType {h0 h : pm_H} (K0 : pw_F WX9_blockType h0 h) {a0 : Nat}  {r : (Int64 × pm_H)} (hf : fX9_blockType h a0 = some r) : pw_F WX9_blockType h0 r.2 := by
  unfold fX9_blockType at hf
  obtain ⟨k1, hf⟩ := pm_if hf
  obtain ⟨y2, e3, hf⟩ := pm_lt hf
  obtain ⟨v4, e5, hf⟩ := pm_bd hf
  have K6 := pw_t (by decide) K0 (wfX9_number (pw_rf _) e5)
  obtain ⟨k7, hf⟩ := pm_if hf
  by_cases c8 : ((pm_I v4.2 a0 1) - y2) = 1
  · have hf := pm_it hf c8
    by_cases c9 : v4.1 = (-64)
    · have hf := pm_it hf c9
      exact wfX9_blockType_b42 K6  hf
    · have hf := pm_ie hf c9
      obtain ⟨v10, e11, hf⟩ := pm_lt hf
      by_cases c12 : v10 = 0
      · have hf := pm_it hf c12
        exact wfX9_blockType_b46 K6  hf
      · have hf := pm_ie hf c12
        exact wfX9_blockType_b42 K6  hf
  · have hf := pm_ie hf c8
    exact wfX9_blockType_b46 K6  hf
abbrev WX9_describe : List Nat := [1153, 1155, 1156, 4480]
set_option maxHeartbeats 4000000 in
set_option maxRecDepth 100000 in
theorem wfX9_describe_b102 {h0 h : pm_H} (K0 : pw_F WX9_describe h0 h) {x0 : Nat} {x1 : Nat} {x2 : Int32} {x3 : Int32}  {r : pm_H} (hf : fX9_describe_b102 h x0 x1 x2 x3 = some r) : pw_F WX9_describe h0 r := by
  unfold fX9_describe_b102 at hf
  by_cases c44 : x3 = 3
  · have hf := pm_it hf c44
    obtain ⟨k45, hf⟩ := pm_if hf
    obtain ⟨v46, e47, hf⟩ := pm_bd hf
    have K48 := pw_t (by decide) K0 (wfX9_valueType (pw_rf _) e47)
    obtain ⟨v49, e50, hf⟩ := pm_bd hf
    have K51 := pw_t (by decide) K48 (wfX12_setItem_ (pw_rf _) e50)
    obtain ⟨k52, hf⟩ := pm_if hf
    obtain ⟨v53, e54, hf⟩ := pm_bd hf
    have K55 := pw_t (by decide) K51 (wfX9_nextUpTo (pw_rf _) e54)
    obtain ⟨v56, e57, hf⟩ := pm_bd hf
    have K58 := pw_t (by decide) K55 (wfX12_setItem_ (pw_rf _) e57)
    cases hf
    exact K58
  · have hf := pm_ie hf c44
    cases hf
    exact K0
set_option maxHeartbeats 4000000 in
set_option maxRecDepth 100000 in
theorem wfX9_describe_b63 {h0 h : pm_H} (K0 : pw_F WX9_describe h0 h) {x0 : Nat} {x1 : Nat} {x2 : Int32} {x3 : Int32}  {r : pm_H} (hf : fX9_describe_b63 h x0 x1 x2 x3 = some r) : pw_F WX9_describe h0 r := by
  unfold fX9_describe_b63 at hf
  obtain ⟨k25, hf⟩ := pm_if hf
  obtain ⟨v26, e27, hf⟩ := pm_bd hf
  have K28 := pw_t (by decide) K0 (wfX9_nextUpTo (pw_rf _) e27)
  obtain ⟨k29, hf⟩ := pm_if hf
  obtain ⟨v30, e31, hf⟩ := pm_bd hf
  have K32 := pw_t (by decide) K28 (wfX9_number (pw_rf _) e31)
  obtain ⟨v33, e34, hf⟩ := pm_bd hf
  have K35 := pw_t (by decide) K32 (wfX12_setItem_ (pw_rf _) e34)
  by_cases c36 : v26.1 = 1
  · have hf := pm_it hf c36
    obtain ⟨k37, hf⟩ := pm_if hf
    obtain ⟨v38, e39, hf⟩ := pm_bd hf
    have K40 := pw_t (by decide) K35 (wfX9_number (pw_rf _) e39)
    obtain ⟨v41, e42, hf⟩ := pm_bd hf
    have K43 := pw_t (by decide) K40 (wfX12_setItem_ (pw_rf _) e42)
    exact wfX9_describe_b102 K43  hf
  · have hf := pm_ie hf c36
    exact wfX9_describe_b102 K35  hf
set_option maxHeartbeats 4000000 in
set_option maxRecDepth 100000 in
theorem wfX9_describe_b53 {h0 h : pm_H} (K0 : pw_F WX9_describe h0 h) {x0 : Nat} {x1 : Nat} {x2 : Int32} {x3 : Int32}  {r : pm_H} (hf : fX9_describe_b53 h x0 x1 x2 x3 = some r) : pw_F WX9_describe h0 r := by
  unfold fX9_describe_b53 at hf
  by_cases c23 : x3 = 1
  · have hf := pm_it hf c23
    exact wfX9_describe_b63 K0  hf
  · have hf := pm_ie hf c23
    by_cases c24 : x3 = 2
    · have hf := pm_it hf c24
      exact wfX9_describe_b63 K0  hf
    · have hf := pm_ie hf c24
      exact wfX9_describe_b102 K0  hf
set_option maxHeartbeats 4000000 in
set_option maxRecDepth 100000 in
theorem wfX9_describe_b36 {h0 h : pm_H} (K0 : pw_F WX9_describe h0 h) {x0 : Nat} {x1 : Nat} {x2 : Int32} {x3 : Int32}  {r : pm_H} (hf : fX9_describe_b36 h x0 x1 x2 x3 = some r) : pw_F WX9_describe h0 r := by
  unfold fX9_describe_b36 at hf
  by_cases c15 : x3 = 1
  · have hf := pm_it hf c15
    obtain ⟨k16, hf⟩ := pm_if hf
    obtain ⟨v17, e18, hf⟩ := pm_bd hf
    have K19 := pw_t (by decide) K0 (wfX9_referenceType (pw_rf _) e18)
    obtain ⟨v20, e21, hf⟩ := pm_bd hf
    have K22 := pw_t (by decide) K19 (wfX12_setItem_ (pw_rf _) e21)
    exact wfX9_describe_b53 K22  hf
  · have hf := pm_ie hf c15
    exact wfX9_describe_b53 K0  hf
set_option maxHeartbeats 4000000 in
set_option maxRecDepth 100000 in
theorem wfX9_describe {h0 h : pm_H} (K0 : pw_F WX9_describe h0 h) {a0 : Nat} {p1 : Nat} {p2 : Int32} {p3 : Int32}  {r : pm_H} (hf : fX9_describe h a0 p1 p2 p3 = some r) : pw_F WX9_describe h0 r := by
  unfold fX9_describe at hf
  obtain ⟨v1, e2, hf⟩ := pm_bd hf
  have K3 := pw_t (by decide) K0 (wfX12_setItem_ (pw_rf _) e2)
  obtain ⟨v4, e5, hf⟩ := pm_bd hf
  have K6 := pw_t (by decide) K3 (wfX12_setItem_ (pw_rf _) e5)
  by_cases c7 : p3 = 0
  · have hf := pm_it hf c7
    obtain ⟨k8, hf⟩ := pm_if hf
    obtain ⟨v9, e10, hf⟩ := pm_bd hf
    have K11 := pw_t (by decide) K6 (wfX9_number (pw_rf _) e10)
    obtain ⟨v12, e13, hf⟩ := pm_bd hf
    have K14 := pw_t (by decide) K11 (wfX12_setItem_ (pw_rf _) e13)
    exact wfX9_describe_b36 K14  hf
  · have hf := pm_ie hf c7
    exact wfX9_describe_b36 K6  hf
abbrev WX9_labels : List Nat := [1153, 1155, 1156, 1157, 1160, 1161]
set_option maxHeartbeats 4000000 in
set_option maxRecDepth 100000 in
theorem wlX9_labels {h0 : pm_H} {r : pm_H} : ∀ n : Nat, (∀ (x0 : Nat) (x1 : Int64) (h : pm_H), pw_F WX9_labels h0 h → pm_iter sX9_labels n (x0, x1, h) = some r → pw_F WX9_labels h0 r) := by
  intro n
  induction n with
  | zero => exact fun _ _ _ _ hf => (by cases hf)
  | succ n ih =>
    refine fun x0 x1 h K0 hf => ?_
    obtain ⟨y, hf, hi⟩ := pm_iter_s hf
    have hf : tX9_labels_43 x0 x1 h = some y := hf
    unfold tX9_labels_43 at hf
    obtain ⟨k13, hf⟩ := pm_if hf
    by_cases c14 : (pm_L h x0 8) < x1
    · have hf := pm_it hf c14
      cases hf
      cases hi
      exact K0
    · have hf := pm_ie hf c14
      by_cases c15 : (pm_I h x0 3) = 0
      · have hf := pm_it hf c15
        obtain ⟨v16, e17, hf⟩ := pm_bd hf
        have K18 := pw_t (by decide) K0 (wfX9_number (pw_rf _) e17)
        obtain ⟨y19, e20, hf⟩ := pm_lt hf
        cases hf
        exact ih x0 y19 v16.2 K18  hi
      · have hf := pm_ie hf c15
        cases hf
        cases hi
        exact K0
set_option maxHeartbeats 4000000 in
set_option maxRecDepth 100000 in
theorem wfX9_labels {h0 h : pm_H} (K0 : pw_F WX9_labels h0 h) {a0 : Nat}  {r : pm_H} (hf : fX9_labels h a0 = some r) : pw_F WX9_labels h0 r := by
  unfold fX9_labels at hf
  obtain ⟨k1, hf⟩ := pm_if hf
  obtain ⟨v2, e3, hf⟩ := pm_bd hf
  have K4 := pw_t (by decide) K0 (wfX9_number (pw_rf _) e3)
  obtain ⟨k5, hf⟩ := pm_if hf
  obtain ⟨y6, e7, hf⟩ := pm_lt hf
  by_cases c8 : (pm_I (pm_setL (pm_setL v2.2 a0 8 v2.1) a0 9 y6) a0 16) = 0
  · have hf := pm_it hf c8
    obtain ⟨n, hn⟩ := pm_lim_iter hf
    exact (wlX9_labels n) a0 0 (pm_setL (pm_setL v2.2 a0 8 v2.1) a0 9 y6) (pw_sL (pw_sL K4 rfl k5 (by decide)) (pkL rfl) k5 (by decide))  hn
  · have hf := pm_ie hf c8
    by_cases c9 : (pm_L (pm_setL (pm_setL v2.2 a0 8 v2.1) a0 9 y6) a0 8) ≤ 200
    · have hf := pm_it hf c9
      obtain ⟨n, hn⟩ := pm_lim_iter hf
      exact (wlX9_labels n) a0 0 (pm_setL (pm_setL v2.2 a0 8 v2.1) a0 9 y6) (pw_sL (pw_sL K4 rfl k5 (by decide)) (pkL rfl) k5 (by decide))  hn
    · have hf := pm_ie hf c9
      obtain ⟨v10, e11, hf⟩ := pm_bd hf
      have K12 := pw_t (by decide) (pw_sL (pw_sL K4 rfl k5 (by decide)) (pkL rfl) k5 (by decide)) (wfX9_exceedLimit (pw_rf _) e11)
      obtain ⟨n, hn⟩ := pm_lim_iter hf
      exact (wlX9_labels n) a0 0 v10 K12  hn
abbrev WX9_longInstruction : List Nat := [1153, 1155, 1156, 1158, 1160, 1161]
set_option maxHeartbeats 4000000 in
set_option maxRecDepth 100000 in
theorem wfX9_longInstruction_b155 {h0 h : pm_H} (K0 : pw_F WX9_longInstruction h0 h) {x0 : Nat} {x1 : Int64}  {r : pm_H} (hf : fX9_longInstruction_b155 h x0 x1 = some r) : pw_F WX9_longInstruction h0 r := by
  unfold fX9_longInstruction_b155 at hf
  by_cases c41 : x1 = 8
  · have hf := pm_it hf c41
    obtain ⟨k42, hf⟩ := pm_if hf
    obtain ⟨v43, e44, hf⟩ := pm_bd hf
    have K45 := pw_t (by decide) K0 (wfX9_nextUpTo (pw_rf _) e44)
    by_cases c46 : x1 = 10
    · have hf := pm_it hf c46
      obtain ⟨k47, hf⟩ := pm_if hf
      obtain ⟨v48, e49, hf⟩ := pm_bd hf
      have K50 := pw_t (by decide) K45 (wfX9_nextUpTo (pw_rf _) e49)
      cases hf
      exact K50
    · have hf := pm_ie hf c46
      cases hf
      exact K45
  · have hf := pm_ie hf c41
    by_cases c51 : x1 = 10
    · have hf := pm_it hf c51
      obtain ⟨k52, hf⟩ := pm_if hf
      obtain ⟨v53, e54, hf⟩ := pm_bd hf
      have K55 := pw_t (by decide) K0 (wfX9_nextUpTo (pw_rf _) e54)
      by_cases c56 : x1 = 10
      · have hf := pm_it hf c56
        obtain ⟨k57, hf⟩ := pm_if hf
        obtain ⟨v58, e59, hf⟩ := pm_bd hf
        have K60 := pw_t (by decide) K55 (wfX9_nextUpTo (pw_rf _) e59)
        cases hf
        exact K60
      · have hf := pm_ie hf c56
        cases hf
        exact K55
    · have hf := pm_ie hf c51
      by_cases c61 : x1 = 11
      · have hf := pm_it hf c61
        obtain ⟨k62, hf⟩ := pm_if hf
        obtain ⟨v63, e64, hf⟩ := pm_bd hf
        have K65 := pw_t (by decide) K0 (wfX9_nextUpTo (pw_rf _) e64)
        by_cases c66 : x1 = 10
        · have hf := pm_it hf c66
          obtain ⟨k67, hf⟩ := pm_if hf
          obtain ⟨v68, e69, hf⟩ := pm_bd hf
          have K70 := pw_t (by decide) K65 (wfX9_nextUpTo (pw_rf _) e69)
          cases hf
          exact K70
        · have hf := pm_ie hf c66
          cases hf
          exact K65
      · have hf := pm_ie hf c61
        by_cases c71 : x1 = 10
        · have hf := pm_it hf c71
          obtain ⟨k72, hf⟩ := pm_if hf
          obtain ⟨v73, e74, hf⟩ := pm_bd hf
          have K75 := pw_t (by decide) K0 (wfX9_nextUpTo (pw_rf _) e74)
          cases hf
          exact K75
        · have hf := pm_ie hf c71
          cases hf
          exact K0
set_option maxHeartbeats 4000000 in
set_option maxRecDepth 100000 in
theorem wfX9_longInstruction_b145 {h0 h : pm_H} (K0 : pw_F WX9_longInstruction h0 h) {x0 : Nat} {x1 : Int64}  {r : pm_H} (hf : fX9_longInstruction_b145 h x0 x1 = some r) : pw_F WX9_longInstruction h0 r := by
  unfold fX9_longInstruction_b145 at hf
  obtain ⟨k36, hf⟩ := pm_if hf
  obtain ⟨v37, e38, hf⟩ := pm_bd hf
  have K39 := pw_t (by decide) K0 (wfX9_number (pw_rf _) e38)
  obtain ⟨k40, hf⟩ := pm_if hf
  exact wfX9_longInstruction_b155 (pw_sL K39 rfl k40 (by decide))  hf
set_option maxHeartbeats 4000000 in
set_option maxRecDepth 100000 in
theorem wfX9_longInstruction_b129 {h0 h : pm_H} (K0 : pw_F WX9_longInstruction h0 h) {x0 : Nat} {x1 : Int64}  {r : pm_H} (hf : fX9_longInstruction_b129 h x0 x1 = some r) : pw_F WX9_longInstruction h0 r := by
  unfold fX9_longInstruction_b129 at hf
  by_cases c34 : x1 = 12
  · have hf := pm_it hf c34
    exact wfX9_longInstruction_b145 K0  hf
  · have hf := pm_ie hf c34
    by_cases c35 : x1 = 14
    · have hf := pm_it hf c35
      exact wfX9_longInstruction_b145 K0  hf
    · have hf := pm_ie hf c35
      exact wfX9_longInstruction_b155 K0  hf
set_option maxHeartbeats 4000000 in
set_option maxRecDepth 100000 in
theorem wfX9_longInstruction_b91 {h0 h : pm_H} (K0 : pw_F WX9_longInstruction h0 h) {x0 : Nat} {x1 : Int64} {s0 : Int32} {s1 : Int32} {s2 : Nat}  {r : pm_H} (hf : fX9_longInstruction_b91 h x0 x1 s0 s1 s2 = some r) : pw_F WX9_longInstruction h0 r := by
  unfold fX9_longInstruction_b91 at hf
  obtain ⟨y23, e24, hf⟩ := pm_lt hf
  obtain ⟨k25, hf⟩ := pm_if hf
  by_cases c26 : x1 < 8
  · have hf := pm_it hf c26
    exact wfX9_longInstruction_b129 (pw_sI K0 rfl k25 (by decide))  hf
  · have hf := pm_ie hf c26
    by_cases c27 : x1 = 10
    · have hf := pm_it hf c27
      exact wfX9_longInstruction_b129 (pw_sI K0 rfl k25 (by decide))  hf
    · have hf := pm_ie hf c27
      by_cases c28 : x1 = 11
      · have hf := pm_it hf c28
        exact wfX9_longInstruction_b129 (pw_sI K0 rfl k25 (by decide))  hf
      · have hf := pm_ie hf c28
        obtain ⟨k29, hf⟩ := pm_if hf
        have k29b := (congrFun (pkI rfl) x0).symm.trans k29
        obtain ⟨v30, e31, hf⟩ := pm_bd hf
        have K32 := pw_t (by decide) (pw_sI K0 rfl k25 (by decide)) (wfX9_number (pw_rf _) e31)
        obtain ⟨k33, hf⟩ := pm_if hf
        exact wfX9_longInstruction_b129 (pw_sL K32 rfl k33 (by decide))  hf
set_option maxHeartbeats 4000000 in
set_option maxRecDepth 100000 in
theorem wfX9_longInstruction_b63 {h0 h : pm_H} (K0 : pw_F WX9_longInstruction h0 h) {x0 : Nat} {x1 : Int64}  {r : pm_H} (hf : fX9_longInstruction_b63 h x0 x1 = some r) : pw_F WX9_longInstruction h0 r := by
  unfold fX9_longInstruction_b63 at hf
  obtain ⟨k20, hf⟩ := pm_if hf
  by_cases c21 : (pm_I h x0 3) = 0
  · have hf := pm_it hf c21
    by_cases c22 : 8 ≤ x1
    · have hf := pm_it hf c22
      exact wfX9_longInstruction_b91 K0  hf
    · have hf := pm_ie hf c22
      exact wfX9_longInstruction_b91 K0  hf
  · have hf := pm_ie hf c21
    cases hf
    exact K0
set_option maxHeartbeats 4000000 in
set_option maxRecDepth 100000 in
theorem wfX9_longInstruction_b41 {h0 h : pm_H} (K0 : pw_F WX9_longInstruction h0 h) {x0 : Nat} {x1 : Int64}  {r : pm_H} (hf : fX9_longInstruction_b41 h x0 x1 = some r) : pw_F WX9_longInstruction h0 r := by
  unfold fX9_longInstruction_b41 at hf
  obtain ⟨k12, hf⟩ := pm_if hf
  obtain ⟨v13, e14, hf⟩ := pm_bd hf
  obtain ⟨k15, hf⟩ := pm_if hf
  by_cases c16 : 0 ≤ (pm_L h v13 14)
  · have hf := pm_it hf c16
    exact wfX9_longInstruction_b63 K0  hf
  · have hf := pm_ie hf c16
    obtain ⟨v17, e18, hf⟩ := pm_bd hf
    have K19 := pw_t (by decide) K0 (wfX9_fail (pw_rf _) e18)
    exact wfX9_longInstruction_b63 K19  hf
set_option maxHeartbeats 4000000 in
set_option maxRecDepth 100000 in
theorem wfX9_longInstruction_b25 {h0 h : pm_H} (K0 : pw_F WX9_longInstruction h0 h) {x0 : Nat} {x1 : Int64}  {r : pm_H} (hf : fX9_longInstruction_b25 h x0 x1 = some r) : pw_F WX9_longInstruction h0 r := by
  unfold fX9_longInstruction_b25 at hf
  by_cases c10 : x1 = 8
  · have hf := pm_it hf c10
    exact wfX9_longInstruction_b41 K0  hf
  · have hf := pm_ie hf c10
    by_cases c11 : x1 = 9
    · have hf := pm_it hf c11
      exact wfX9_longInstruction_b41 K0  hf
    · have hf := pm_ie hf c11
      exact wfX9_longInstruction_b63 K0  hf
set_option maxHeartbeats 4000000 in
set_option maxRecDepth 100000 in
theorem wfX9_longInstruction {h0 h : pm_H} (K0 : pw_F WX9_longInstruction h0 h) {a0 : Nat}  {r : pm_H} (hf : fX9_longInstruction h a0 = some r) : pw_F WX9_longInstruction h0 r := by
  unfold fX9_longInstruction at hf
  obtain ⟨k1, hf⟩ := pm_if hf
  obtain ⟨v2, e3, hf⟩ := pm_bd hf
  have K4 := pw_t (by decide) K0 (wfX9_number (pw_rf _) e3)
  by_cases c5 : v2.1 ≤ 17
  · have hf := pm_it hf c5
    exact wfX9_longInstruction_b25 K4  hf
  · have hf := pm_ie hf c5
    obtain ⟨k6, hf⟩ := pm_if hf
    obtain ⟨v7, e8, hf⟩ := pm_bd hf
    have K9 := pw_t (by decide) K4 (wfX9_fail (pw_rf _) e8)
    exact wfX9_longInstruction_b25 K9  hf
abbrev WX9_name : List Nat := [1153, 1155, 1156]
set_option maxHeartbeats 4000000 in
set_option maxRecDepth 100000 in
theorem wlX9_name {h0 : pm_H} {r : (Int32 × pm_H)} : ∀ n : Nat, (∀ (x0 : Nat) (x1 : Int64) (x3 : Int32) (h : pm_H), pw_F WX9_name h0 h → pm_iter sX9_name n (x0, x1, x3, h) = some r → pw_F WX9_name h0 r.2) := by
  intro n
  induction n with
  | zero => exact fun _ _ _ _ _ hf => (by cases hf)
  | succ n ih =>
    refine fun x0 x1 x3 h K0 hf => ?_
    obtain ⟨y, hf, hi⟩ := pm_iter_s hf
    have hf : tX9_name_17 x0 x1 x3 h = some y := hf
    unfold tX9_name_17 at hf
    obtain ⟨k11, hf⟩ := pm_if hf
    by_cases c12 : (pm_I h x0 1) ≤ x3
    · have hf := pm_it hf c12
      by_cases c13 : (pm_I h x0 3) = 0
      · have hf := pm_it hf c13
        cases hf
        cases hi
        exact K0
      · have hf := pm_ie hf c13
        cases hf
        cases hi
        exact K0
    · have hf := pm_ie hf c12
      by_cases c14 : (pm_I h x0 3) = 0
      · have hf := pm_it hf c14
        obtain ⟨v15, e16, hf⟩ := pm_bd hf
        by_cases c17 : v15 = 0
        · have hf := pm_it hf c17
          obtain ⟨v18, e19, hf⟩ := pm_bd hf
          have K20 := pw_t (by decide) K0 (wfX9_fail (pw_rf _) e19)
          obtain ⟨y21, e22, hf⟩ := pm_lt hf
          cases hf
          exact ih x0 x1 y21 v18 K20  hi
        · have hf := pm_ie hf c17
          obtain ⟨y23, e24, hf⟩ := pm_lt hf
          cases hf
          exact ih x0 x1 y23 h K0  hi
      · have hf := pm_ie hf c14
        by_cases c25 : (pm_I h x0 3) = 0
        · have hf := pm_it hf c25
          cases hf
          cases hi
          exact K0
        · have hf := pm_ie hf c25
          cases hf
          cases hi
          exact K0
set_option maxHeartbeats 4000000 in
set_option maxRecDepth 100000 in
theorem wfX9_name {h0 h : pm_H} (K0 : pw_F WX9_name h0 h) {a0 : Nat}  {r : (Int32 × pm_H)} (hf : fX9_name h a0 = some r) : pw_F WX9_name h0 r.2 := by
  unfold fX9_name at hf
  obtain ⟨k1, hf⟩ := pm_if hf
  obtain ⟨v2, e3, hf⟩ := pm_bd hf
  have K4 := pw_t (by decide) K0 (wfX9_number (pw_rf _) e3)
  obtain ⟨k5, hf⟩ := pm_if hf
  obtain ⟨y6, e7, hf⟩ := pm_lt hf
  obtain ⟨v8, e9, hf⟩ := pm_bd hf
  have K10 := pw_t (by decide) K4 (wfX9_skip (pw_rf _) e9)
  obtain ⟨n, hn⟩ := pm_lim_iter hf
  exact (wlX9_name n) a0 v2.1 y6 v8 K10  hn
abbrev WX10_alongMemory : List Nat := [1280, 4224, 4352]
set_option maxHeartbeats 4000000 in
set_option maxRecDepth 100000 in
theorem wlX10_alongMemory {h0 : pm_H} {r : (Int64 × pm_H)} : ∀ n : Nat, (∀ (x0 : Nat) (x1 : Nat) (x2 : Int32) (x3 : Int32) (x4 : Int64) (x6 : Int64) (x8 : Int64) (x10 : Int32) (x11 : Int32) (h : pm_H), pw_F WX10_alongMemory h0 h → pm_iter sX10_alongMemory n (.inl (x0, x1, x2, x3, x4, x6, x8, x10, x11, h)) = some r → pw_F WX10_alongMemory h0 r.2) ∧ (∀ (x0 : Nat) (x1 : Nat) (x2 : Int32) (x3 : Int32) (x4 : Int64) (x6 : Int64) (x8 : Int64) (x10 : Int32) (x11 : Int32) (h : pm_H), pw_F WX10_alongMemory h0 h → pm_iter sX10_alongMemory n (.inr (.inl (x0, x1, x2, x3, x4, x6, x8, x10, x11, h))) = some r → pw_F WX10_alongMemory h0 r.2) ∧ (∀ (x0 : Nat) (x1 : Nat) (x2 : Int32) (x3 : Int32) (x4 : Int64) (x6 : Int64) (x8 : Int64) (x10 : Int32) (h : pm_H), pw_F WX10_alongMemory h0 h → pm_iter sX10_alongMemory n (.inr (.inr (.inl (x0, x1, x2, x3, x4, x6, x8, x10, h)))) = some r → pw_F WX10_alongMemory h0 r.2) ∧ (∀ (x0 : Nat) (x4 : Int64) (x8 : Int64) (x10 : Int32) (x12 : Nat) (x13 : Int64) (x15 : Int64) (h : pm_H), pw_F WX10_alongMemory h0 h → pm_iter sX10_alongMemory n (.inr (.inr (.inr (x0, x4, x8, x10, x12, x13, x15, h)))) = some r → pw_F WX10_alongMemory h0 r.2) := by
  intro n
  induction n with
  | zero => exact ⟨fun _ _ _ _ _ _ _ _ _ _ _ hf => (by cases hf), fun _ _ _ _ _ _ _ _ _ _ _ hf => (by cases hf), fun _ _ _ _ _ _ _ _ _ _ hf => (by cases hf), fun _ _ _ _ _ _ _ _ _ hf => (by cases hf)⟩
  | succ n ih =>
    refine ⟨fun x0 x1 x2 x3 x4 x6 x8 x10 x11 h K0 hf => ?_, ?_⟩
    · obtain ⟨y, hf, hi⟩ := pm_iter_s hf
      have hf : tX10_alongMemory_71 x0 x1 x2 x3 x4 x6 x8 x10 x11 h = some y := hf
      unfold tX10_alongMemory_71 at hf
      by_cases c24 : x2 = 310
      · have hf := pm_it hf c24
        obtain ⟨k25, hf⟩ := pm_if hf
        obtain ⟨v26, e27, hf⟩ := pm_bd hf
        obtain ⟨k28, hf⟩ := pm_if hf
        obtain ⟨v29, e30, hf⟩ := pm_bd hf
        by_cases c31 : v29 = 0
        · have hf := pm_it hf c31
          cases hf
          exact ih.2.1 x0 x1 x2 x3 x4 x6 x8 x10 0 h K0  hi
        · have hf := pm_ie hf c31
          cases hf
          exact ih.2.1 x0 x1 x2 x3 x4 x6 x8 x10 x11 h K0  hi
      · have hf := pm_ie hf c24
        cases hf
        exact ih.2.1 x0 x1 x2 x3 x4 x6 x8 x10 x11 h K0  hi
    refine ⟨fun x0 x1 x2 x3 x4 x6 x8 x10 x11 h K0 hf => ?_, ?_⟩
    · obtain ⟨y, hf, hi⟩ := pm_iter_s hf
      have hf : tX10_alongMemory_97 x0 x1 x2 x3 x4 x6 x8 x10 x11 h = some y := hf
      unfold tX10_alongMemory_97 at hf
      by_cases c32 : x11 = 0
      · have hf := pm_it hf c32
        obtain ⟨k33, hf⟩ := pm_if hf
        cases hf
        cases hi
        exact (pw_sI K0 rfl k33 (by decide))
      · have hf := pm_ie hf c32
        by_cases c34 : x2 = 310
        · have hf := pm_it hf c34
          obtain ⟨k35, hf⟩ := pm_if hf
          obtain ⟨v36, e37, hf⟩ := pm_bd hf
          obtain ⟨k38, hf⟩ := pm_if hf
          obtain ⟨v39, e40, hf⟩ := pm_bd hf
          have K41 := pw_t (by decide) K0 (wfX6_copy (pw_rf _) e40)
          cases hf
          exact ih.2.2.1 x0 x1 x2 x3 x4 x6 x8 x10 v39 K41  hi
        · have hf := pm_ie hf c34
          cases hf
          exact ih.2.2.1 x0 x1 x2 x3 x4 x6 x8 x10 h K0  hi
    refine ⟨fun x0 x1 x2 x3 x4 x6 x8 x10 h K0 hf => ?_, ?_⟩
    · obtain ⟨y, hf, hi⟩ := pm_iter_s hf
      have hf : tX10_alongMemory_131 x0 x1 x2 x3 x4 x6 x8 x10 h = some y := hf
      unfold tX10_alongMemory_131 at hf
      by_cases c42 : x2 = 311
      · have hf := pm_it hf c42
        obtain ⟨k43, hf⟩ := pm_if hf
        obtain ⟨v44, e45, hf⟩ := pm_bd hf
        obtain ⟨k46, hf⟩ := pm_if hf
        obtain ⟨v47, e48, hf⟩ := pm_bd hf
        have K49 := pw_t (by decide) K0 (wfX6_fill (pw_rf _) e48)
        by_cases c50 : x2 = 308
        · have hf := pm_it hf c50
          obtain ⟨k51, hf⟩ := pm_if hf
          obtain ⟨v52, e53, hf⟩ := pm_bd hf
          obtain ⟨k54, hf⟩ := pm_if hf
          obtain ⟨v55, e56, hf⟩ := pm_bd hf
          obtain ⟨v57, e58, hf⟩ := pm_bd hf
          obtain ⟨v59, e60, hf⟩ := pm_bd hf
          obtain ⟨y61, e62, hf⟩ := pm_lt hf
          cases hf
          exact ih.2.2.2 x0 x4 x8 x10 v55 y61 0 v47 K49  hi
        · have hf := pm_ie hf c50
          cases hf
          cases hi
          exact K49
      · have hf := pm_ie hf c42
        by_cases c63 : x2 = 308
        · have hf := pm_it hf c63
          obtain ⟨k64, hf⟩ := pm_if hf
          obtain ⟨v65, e66, hf⟩ := pm_bd hf
          obtain ⟨k67, hf⟩ := pm_if hf
          obtain ⟨v68, e69, hf⟩ := pm_bd hf
          obtain ⟨v70, e71, hf⟩ := pm_bd hf
          obtain ⟨v72, e73, hf⟩ := pm_bd hf
          obtain ⟨y74, e75, hf⟩ := pm_lt hf
          cases hf
          exact ih.2.2.2 x0 x4 x8 x10 v68 y74 0 h K0  hi
        · have hf := pm_ie hf c63
          cases hf
          cases hi
          exact K0
    refine fun x0 x4 x8 x10 x12 x13 x15 h K0 hf => ?_
    obtain ⟨y, hf, hi⟩ := pm_iter_s hf
    have hf : tX10_alongMemory_195 x0 x4 x8 x10 x12 x13 x15 h = some y := hf
    unfold tX10_alongMemory_195 at hf
    by_cases c76 : x8 ≤ x15
    · have hf := pm_it hf c76
      cases hf
      cases hi
      exact K0
    · have hf := pm_ie hf c76
      by_cases c77 : x13 < 0
      · have hf := pm_it hf c77
        cases hf
        cases hi
        exact K0
      · have hf := pm_ie hf c77
        obtain ⟨k78, hf⟩ := pm_if hf
        by_cases c79 : ((Int32.ofNat (pm_ln h x12)).toInt64) ≤ (x13 + x15)
        · have hf := pm_it hf c79
          cases hf
          cases hi
          exact K0
        · have hf := pm_ie hf c79
          obtain ⟨k80, hf⟩ := pm_if hf
          obtain ⟨v81, e82, hf⟩ := pm_bd hf
          obtain ⟨y83, e84, hf⟩ := pm_lt hf
          obtain ⟨u85, hf⟩ := pm_if hf
          obtain ⟨k86, hf⟩ := pm_if hf
          obtain ⟨v87, e88, hf⟩ := pm_bd hf
          have K89 := pw_t (by decide) K0 (wfX6_setByte (pw_rf _) e88)
          obtain ⟨y90, e91, hf⟩ := pm_lt hf
          cases hf
          exact ih.2.2.2 x0 x4 x8 x10 x12 x13 y90 v87 K89  hi
set_option maxHeartbeats 4000000 in
set_option maxRecDepth 100000 in
theorem wfX10_alongMemory {h0 h : pm_H} (K0 : pw_F WX10_alongMemory h0 h) {a0 : Nat} {p1 : Nat} {p2 : Int32} {p3 : Int32} {p4 : Int64} {p5 : Int64} {p6 : Int64}  {r : (Int64 × pm_H)} (hf : fX10_alongMemory h a0 p1 p2 p3 p4 p5 p6 = some r) : pw_F WX10_alongMemory h0 r.2 := by
  unfold fX10_alongMemory at hf
  obtain ⟨k1, hf⟩ := pm_if hf
  obtain ⟨v2, e3, hf⟩ := pm_bd hf
  obtain ⟨v4, e5, hf⟩ := pm_bd hf
  by_cases c6 : p2 = 309
  · have hf := pm_it hf c6
    obtain ⟨v7, e8, hf⟩ := pm_bd hf
    obtain ⟨v9, e10, hf⟩ := pm_bd hf
    have K11 := pw_t (by decide) K0 (wfX12_setItem (pw_rf _) e10)
    cases hf
    exact K11
  · have hf := pm_ie hf c6
    obtain ⟨k12, hf⟩ := pm_if hf
    obtain ⟨v13, e14, hf⟩ := pm_bd hf
    obtain ⟨k15, hf⟩ := pm_if hf
    obtain ⟨v16, e17, hf⟩ := pm_bd hf
    by_cases c18 : p2 = 308
    · have hf := pm_it hf c18
      obtain ⟨v19, e20, hf⟩ := pm_bd hf
      obtain ⟨v21, e22, hf⟩ := pm_bd hf
      by_cases c23 : (p5 + p6) ≤ v21.toInt64
      · have hf := pm_it hf c23
        obtain ⟨n, hn⟩ := pm_lim_iter hf
        exact (wlX10_alongMemory n).1 a0 p1 p2 p3 p4 p5 p6 v4 v16 h K0  hn
      · have hf := pm_ie hf c23
        obtain ⟨n, hn⟩ := pm_lim_iter hf
        exact (wlX10_alongMemory n).1 a0 p1 p2 p3 p4 p5 p6 v4 0 h K0  hn
    · have hf := pm_ie hf c18
      obtain ⟨n, hn⟩ := pm_lim_iter hf
      exact (wlX10_alongMemory n).1 a0 p1 p2 p3 p4 p5 p6 v4 v16 h K0  hn
abbrev WX11_fill : List Nat := [4352]
set_option maxHeartbeats 4000000 in
set_option maxRecDepth 100000 in
theorem wfX11_fill_b31 {h0 h : pm_H} (K0 : pw_F WX11_fill h0 h) {x0 : Nat} {x1 : Int32} {x2 : Int64} {x4 : Int32} {x5 : Int64} {s0 : Int32}  {r : pm_H} (hf : fX11_fill_b31 h x0 x1 x2 x4 x5 s0 = some r) : pw_F WX11_fill h0 r := by
  unfold fX11_fill_b31 at hf
  by_cases c9 : s0 = 0
  · have hf := pm_it hf c9
    cases hf
    exact K0
  · have hf := pm_ie hf c9
    obtain ⟨k10, hf⟩ := pm_if hf
    obtain ⟨v11, e12, hf⟩ := pm_bd hf
    obtain ⟨k13, hf⟩ := pm_if hf
    obtain ⟨u14, hf⟩ := pm_if hf
    obtain ⟨v15, e16, hf⟩ := pm_bd hf
    obtain ⟨k17, hf⟩ := pm_if hf
    by_cases c18 : (x2 + x5) ≤ ((Int32.ofNat (pm_ln h v15)).toInt64)
    · have hf := pm_it hf c18
      obtain ⟨u19, hf⟩ := pm_if hf
      obtain ⟨v20, e21, hf⟩ := pm_bd hf
      obtain ⟨v22, e23, hf⟩ := pm_bd hf
      have K24 := pw_t (by decide) K0 (wfJ7_fill_fda19 (pw_rf _) e23)
      cases hf
      exact K24
    · have hf := pm_ie hf c18
      cases hf
      exact K0
set_option maxHeartbeats 4000000 in
set_option maxRecDepth 100000 in
theorem wfX11_fill_b30 {h0 h : pm_H} (K0 : pw_F WX11_fill h0 h) {x0 : Nat} {x1 : Int32} {x2 : Int64} {x4 : Int32} {x5 : Int64}  {r : pm_H} (hf : fX11_fill_b30 h x0 x1 x2 x4 x5 = some r) : pw_F WX11_fill h0 r := by
  unfold fX11_fill_b30 at hf
  exact wfX11_fill_b31 K0  hf
set_option maxHeartbeats 4000000 in
set_option maxRecDepth 100000 in
theorem wfX11_fill {h0 h : pm_H} (K0 : pw_F WX11_fill h0 h) {a0 : Nat} {p1 : Int32} {p2 : Int64} {p3 : Int32} {p4 : Int64}  {r : pm_H} (hf : fX11_fill h a0 p1 p2 p3 p4 = some r) : pw_F WX11_fill h0 r := by
  unfold fX11_fill at hf
  by_cases c1 : p1 < 0
  · have hf := pm_it hf c1
    exact wfX11_fill_b30 K0  hf
  · have hf := pm_ie hf c1
    obtain ⟨k2, hf⟩ := pm_if hf
    obtain ⟨v3, e4, hf⟩ := pm_bd hf
    obtain ⟨k5, hf⟩ := pm_if hf
    by_cases c6 : (Int32.ofNat (pm_ln h v3)) ≤ p1
    · have hf := pm_it hf c6
      exact wfX11_fill_b30 K0  hf
    · have hf := pm_ie hf c6
      by_cases c7 : p2 < 0
      · have hf := pm_it hf c7
        exact wfX11_fill_b30 K0  hf
      · have hf := pm_ie hf c7
        by_cases c8 : p4 < 0
        · have hf := pm_it hf c8
          exact wfX11_fill_b30 K0  hf
        · have hf := pm_ie hf c8
          exact wfX11_fill_b31 K0  hf
abbrev WX5_goFreely : List Nat := [387, 389, 640, 643, 647, 652, 653, 654, 4480]
set_option maxHeartbeats 4000000 in
set_option maxRecDepth 100000 in
theorem wfX5_goFreely {h0 h : pm_H} (K0 : pw_F WX5_goFreely h0 h) {a0 : Nat} {p1 : Int32}  {r : pm_H} (hf : fX5_goFreely h a0 p1 = some r) : pw_F WX5_goFreely h0 r := by
  unfold fX5_goFreely at hf
  obtain ⟨k1, hf⟩ := pm_if hf
  obtain ⟨v2, e3, hf⟩ := pm_bd hf
  obtain ⟨k4, hf⟩ := pm_if hf
  obtain ⟨v5, e6, hf⟩ := pm_bd hf
  obtain ⟨v7, e8, hf⟩ := pm_bd hf
  by_cases c9 : v7 = 11
  · have hf := pm_it hf c9
    obtain ⟨v10, e11, hf⟩ := pm_bd hf
    have K12 := pw_t (by decide) K0 (wfX5_leave (pw_rf _) e11)
    cases hf
    exact K12
  · have hf := pm_ie hf c9
    by_cases c13 : v7 = 5
    · have hf := pm_it hf c13
      obtain ⟨v14, e15, hf⟩ := pm_bd hf
      cases hf
      exact (pw_sI K0 rfl k4 (by decide))
    · have hf := pm_ie hf c13
      by_cases c16 : v7 = 500
      · have hf := pm_it hf c16
        obtain ⟨v17, e18, hf⟩ := pm_bd hf
        obtain ⟨y19, e20, hf⟩ := pm_lt hf
        obtain ⟨v21, e22, hf⟩ := pm_bd hf
        obtain ⟨v23, e24, hf⟩ := pm_bd hf
        obtain ⟨v25, e26, hf⟩ := pm_bd hf
        obtain ⟨v27, e28, hf⟩ := pm_bd hf
        have K29 := pw_t (by decide) K0 (wfX12_setItem_ (pw_rf _) e28)
        cases hf
        exact K29
      · have hf := pm_ie hf c16
        cases hf
        exact K0
abbrev WX9_exportOne : List Nat := [1153, 1155, 1156, 4352]
set_option maxHeartbeats 4000000 in
set_option maxRecDepth 100000 in
theorem wfX9_exportOne {h0 h : pm_H} (K0 : pw_F WX9_exportOne h0 h) {a0 : Nat}  {r : pm_H} (hf : fX9_exportOne h a0 = some r) : pw_F WX9_exportOne h0 r := by
  unfold fX9_exportOne at hf
  obtain ⟨k1, hf⟩ := pm_if hf
  obtain ⟨y2, e3, hf⟩ := pm_lt hf
  obtain ⟨v4, e5, hf⟩ := pm_bd hf
  have K6 := pw_t (by decide) K0 (wfX9_name (pw_rf _) e5)
  obtain ⟨k7, hf⟩ := pm_if hf
  obtain ⟨v8, e9, hf⟩ := pm_bd hf
  obtain ⟨k10, hf⟩ := pm_if hf
  obtain ⟨v11, e12, hf⟩ := pm_bd hf
  obtain ⟨v13, e14, hf⟩ := pm_bd hf
  have K15 := pw_t (by decide) K6 (wfX12_setItem (pw_rf _) e14)
  obtain ⟨k16, hf⟩ := pm_if hf
  obtain ⟨v17, e18, hf⟩ := pm_bd hf
  obtain ⟨k19, hf⟩ := pm_if hf
  obtain ⟨v20, e21, hf⟩ := pm_bd hf
  obtain ⟨v22, e23, hf⟩ := pm_bd hf
  have K24 := pw_t (by decide) K15 (wfX12_setItem (pw_rf _) e23)
  obtain ⟨k25, hf⟩ := pm_if hf
  obtain ⟨v26, e27, hf⟩ := pm_bd hf
  obtain ⟨k28, hf⟩ := pm_if hf
  obtain ⟨v29, e30, hf⟩ := pm_bd hf
  obtain ⟨v31, e32, hf⟩ := pm_bd hf
  have K33 := pw_t (by decide) K24 (wfX9_nextUpTo (pw_rf _) e32)
  obtain ⟨v34, e35, hf⟩ := pm_bd hf
  have K36 := pw_t (by decide) K33 (wfX12_setItem (pw_rf _) e35)
  obtain ⟨k37, hf⟩ := pm_if hf
  obtain ⟨v38, e39, hf⟩ := pm_bd hf
  obtain ⟨k40, hf⟩ := pm_if hf
  obtain ⟨v41, e42, hf⟩ := pm_bd hf
  obtain ⟨v43, e44, hf⟩ := pm_bd hf
  have K45 := pw_t (by decide) K36 (wfX9_number (pw_rf _) e44)
  obtain ⟨v46, e47, hf⟩ := pm_lt hf
  obtain ⟨v48, e49, hf⟩ := pm_bd hf
  have K50 := pw_t (by decide) K45 (wfX12_setItem (pw_rf _) e49)
  cases hf
  exact K50
abbrev WX9_importOne : List Nat := [1153, 1155, 1156, 4480]
set_option maxHeartbeats 4000000 in
set_option maxRecDepth 100000 in
theorem wfX9_importOne {h0 h : pm_H} (K0 : pw_F WX9_importOne h0 h) {a0 : Nat}  {r : pm_H} (hf : fX9_importOne h a0 = some r) : pw_F WX9_importOne h0 r := by
  unfold fX9_importOne at hf
  obtain ⟨k1, hf⟩ := pm_if hf
  obtain ⟨v2, e3, hf⟩ := pm_bd hf
  have K4 := pw_t (by decide) K0 (wfX9_name (pw_rf _) e3)
  obtain ⟨k5, hf⟩ := pm_if hf
  obtain ⟨v6, e7, hf⟩ := pm_bd hf
  have K8 := pw_t (by decide) K4 (wfX9_name (pw_rf _) e7)
  obtain ⟨k9, hf⟩ := pm_if hf
  obtain ⟨v10, e11, hf⟩ := pm_bd hf
  have K12 := pw_t (by decide) K8 (wfX9_nextUpTo (pw_rf _) e11)
  obtain ⟨k13, hf⟩ := pm_if hf
  obtain ⟨v14, e15, hf⟩ := pm_bd hf
  obtain ⟨k16, hf⟩ := pm_if hf
  obtain ⟨v17, e18, hf⟩ := pm_bd hf
  obtain ⟨v19, e20, hf⟩ := pm_bd hf
  have K21 := pw_t (by decide) K12 (wfX9_describe (pw_rf _) e20)
  cases hf
  exact K21
