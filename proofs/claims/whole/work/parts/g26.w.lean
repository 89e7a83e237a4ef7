abbrev WX16_small : List Nat := [2055, 2056, 2059]
set_option maxHeartbeats 4000000 in
set_option maxRecDepth 100000 in
theorem wfX16_small {h0 h : pm_H} (K0 : pw_F WX16_small h0 h) {a0 : Nat} {p1 : Int32}  {r : ((Nat × pm_H) ⊕ (Int32 × pm_H))} (hf : fX16_small h a0 p1 = some r) : pt_WI WX16_small h0 r := by
  unfold fX16_small at hf
  obtain ⟨k1, hf⟩ := pm_if hf
  obtain ⟨v2, e3, hf⟩ := pm_bd hf
  rcases v2 with z5 | w4
  · have hf := pt_kl hf
    cases hf
    exact pw_t (by decide) K0 (show pw_F _ _ z5.2 from wfX16_next (pw_rf _) e3)
  have K6 := pw_t (by decide) K0 (show pw_F _ _ w4.2 from wfX16_next (pw_rf _) e3)
  have hf := pt_kr hf
  by_cases c7 : w4.1 ≤ p1
  · have hf := pm_it hf c7
    cases hf
    exact K6
  · have hf := pm_ie hf c7
    obtain ⟨k8, hf⟩ := pm_if hf
    obtain ⟨v9, e10, hf⟩ := pm_bd hf
    rcases v9 with z12 | w11
    · have hf := pt_kl hf
      cases hf
      exact pw_t (by decide) K6 (show pw_F _ _ z12.2 from wfX16_stops (pw_rf _) e10)
    have K13 := pw_t (by decide) K6 (show pw_F _ _ w11 from wfX16_stops (pw_rf _) e10)
    have hf := pt_kr hf
    cases hf
    exact K13
abbrev WX16_type : List Nat := [2055, 2056, 2059]
set_option maxHeartbeats 4000000 in
set_option maxRecDepth 100000 in
theorem wfX16_type {h0 h : pm_H} (K0 : pw_F WX16_type h0 h) {a0 : Nat}  {r : ((Nat × pm_H) ⊕ (Int32 × pm_H))} (hf : fX16_type h a0 = some r) : pt_WI WX16_type h0 r := by
  unfold fX16_type at hf
  obtain ⟨k1, hf⟩ := pm_if hf
  obtain ⟨v2, e3, hf⟩ := pm_bd hf
  rcases v2 with z5 | w4
  · have hf := pt_kl hf
    cases hf
    exact pw_t (by decide) K0 (show pw_F _ _ z5.2 from wfX16_next (pw_rf _) e3)
  have K6 := pw_t (by decide) K0 (show pw_F _ _ w4.2 from wfX16_next (pw_rf _) e3)
  have hf := pt_kr hf
  obtain ⟨v7, e8, hf⟩ := pm_lt hf
  by_cases c9 : v7 = 0
  · have hf := pm_it hf c9
    obtain ⟨k10, hf⟩ := pm_if hf
    obtain ⟨v11, e12, hf⟩ := pm_bd hf
    rcases v11 with z14 | w13
    · have hf := pt_kl hf
      cases hf
      exact pw_t (by decide) K6 (show pw_F _ _ z14.2 from wfX16_stops (pw_rf _) e12)
    have K15 := pw_t (by decide) K6 (show pw_F _ _ w13 from wfX16_stops (pw_rf _) e12)
    have hf := pt_kr hf
    cases hf
    exact K15
  · have hf := pm_ie hf c9
    cases hf
    exact K6
abbrev WX16_typeRow : List Nat := [1795, 2055, 2056, 2059, 4352]
set_option maxHeartbeats 4000000 in
set_option maxRecDepth 100000 in
theorem wlX16_typeRow {h0 : pm_H} {r : ((Nat × pm_H) ⊕ (Int32 × pm_H))} : ∀ n : Nat, (∀ (x0 : Nat) (x1 : Int32) (x2 : Int64) (x4 : Int64) (h : pm_H), pw_F WX16_typeRow h0 h → pm_iter sX16_typeRow n (x0, x1, x2, x4, h) = some r → pt_WI WX16_typeRow h0 r) := by
  intro n
  induction n with
  | zero => exact fun _ _ _ _ _ _ hf => (by cases hf)
  | succ n ih =>
    refine fun x0 x1 x2 x4 h K0 hf => ?_
    obtain ⟨y, hf, hi⟩ := pm_iter_s hf
    have hf : tX16_typeRow_25 x0 x1 x2 x4 h = some y := hf
    unfold tX16_typeRow_25 at hf
    by_cases c16 : x2 ≤ x4
    · have hf := pm_it hf c16
      by_cases c17 : x2 ≤ 16
      · have hf := pm_it hf c17
        cases hf
        cases hi
        exact K0
      · have hf := pm_ie hf c17
        cases hf
        cases hi
        exact K0
    · have hf := pm_ie hf c16
      obtain ⟨k18, hf⟩ := pm_if hf
      obtain ⟨v19, e20, hf⟩ := pm_bd hf
      rcases v19 with z22 | w21
      · have hf := pt_sl hf
        cases hf
        cases hi
        exact pw_t (by decide) K0 (show pw_F _ _ z22.2 from wfX16_type (pw_rf _) e20)
      have K23 := pw_t (by decide) K0 (show pw_F _ _ w21.2 from wfX16_type (pw_rf _) e20)
      have hf := pt_sr hf
      by_cases c24 : x1 < 0
      · have hf := pm_it hf c24
        obtain ⟨y25, e26, hf⟩ := pm_lt hf
        cases hf
        exact ih x0 x1 x2 y25 w21.2 K23  hi
      · have hf := pm_ie hf c24
        by_cases c27 : 16 ≤ x4
        · have hf := pm_it hf c27
          obtain ⟨y28, e29, hf⟩ := pm_lt hf
          cases hf
          exact ih x0 x1 x2 y28 w21.2 K23  hi
        · have hf := pm_ie hf c27
          obtain ⟨k30, hf⟩ := pm_if hf
          obtain ⟨v31, e32, hf⟩ := pm_bd hf
          obtain ⟨k33, hf⟩ := pm_if hf
          obtain ⟨v34, e35, hf⟩ := pm_bd hf
          obtain ⟨k36, hf⟩ := pm_if hf
          obtain ⟨u37, hf⟩ := pm_if hf
          obtain ⟨y38, e39, hf⟩ := pm_lt hf
          cases hf
          exact ih x0 x1 x2 y38 (pm_setI w21.2 v34 ((x1 + x4.toInt32).toNatClampNeg) w21.1) (pw_aI K23 rfl k36 (by decide) (by decide))  hi
set_option maxHeartbeats 4000000 in
set_option maxRecDepth 100000 in
theorem wfX16_typeRow {h0 h : pm_H} (K0 : pw_F WX16_typeRow h0 h) {a0 : Nat} {p1 : Int32}  {r : ((Nat × pm_H) ⊕ (Int32 × pm_H))} (hf : fX16_typeRow h a0 p1 = some r) : pt_WI WX16_typeRow h0 r := by
  unfold fX16_typeRow at hf
  obtain ⟨k1, hf⟩ := pm_if hf
  obtain ⟨v2, e3, hf⟩ := pm_bd hf
  rcases v2 with z5 | w4
  · have hf := pt_kl hf
    cases hf
    exact pw_t (by decide) K0 (show pw_F _ _ z5.2 from wfX16_number (pw_rf _) e3)
  have K6 := pw_t (by decide) K0 (show pw_F _ _ w4.2 from wfX16_number (pw_rf _) e3)
  have hf := pt_kr hf
  by_cases c7 : w4.1 ≤ 16
  · have hf := pm_it hf c7
    obtain ⟨k8, hf⟩ := pm_if hf
    obtain ⟨v9, e10, hf⟩ := pm_bd hf
    have K11 := pw_t (by decide) K6 (wfX16_exceeds (pw_rf _) e10)
    obtain ⟨n, hn⟩ := pm_lim_iter hf
    exact (wlX16_typeRow n) a0 p1 w4.1 0 v9 K11  hn
  · have hf := pm_ie hf c7
    obtain ⟨k12, hf⟩ := pm_if hf
    obtain ⟨v13, e14, hf⟩ := pm_bd hf
    have K15 := pw_t (by decide) K6 (wfX16_exceeds (pw_rf _) e14)
    obtain ⟨n, hn⟩ := pm_lim_iter hf
    exact (wlX16_typeRow n) a0 p1 w4.1 0 v13 K15  hn
abbrev WX16_accesses : List Nat := [2055, 2056, 2071, 4352]
set_option maxHeartbeats 4000000 in
set_option maxRecDepth 100000 in
theorem wfX16_accesses {h0 h : pm_H} (K0 : pw_F WX16_accesses h0 h) {a0 : Nat} {p1 : Int32}  {r : ((Nat × pm_H) ⊕ pm_H)} (hf : fX16_accesses h a0 p1 = some r) : pt_WV WX16_accesses h0 r := by
  unfold fX16_accesses at hf
  obtain ⟨v1, e2, hf⟩ := pm_lt hf
  by_cases c3 : p1 ≤ 53
  · have hf := pm_it hf c3
    obtain ⟨k4, hf⟩ := pm_if hf
    obtain ⟨v5, e6, hf⟩ := pm_bd hf
    rcases v5 with z8 | w7
    · have hf := pt_kl hf
      cases hf
      exact pw_t (by decide) K0 (show pw_F _ _ z8.2 from wfX16_takes (pw_rf _) e6)
    have K9 := pw_t (by decide) K0 (show pw_F _ _ w7 from wfX16_takes (pw_rf _) e6)
    have hf := pt_kr hf
    by_cases c10 : 54 ≤ p1
    · have hf := pm_it hf c10
      cases hf
      exact K9
    · have hf := pm_ie hf c10
      obtain ⟨k11, hf⟩ := pm_if hf
      obtain ⟨v12, e13, hf⟩ := pm_bd hf
      rcases v12 with z15 | w14
      · have hf := pt_kl hf
        cases hf
        exact pw_t (by decide) K9 (show pw_F _ _ z15.2 from wfX16_put (pw_rf _) e13)
      have K16 := pw_t (by decide) K9 (show pw_F _ _ w14 from wfX16_put (pw_rf _) e13)
      have hf := pt_kr hf
      cases hf
      exact K16
  · have hf := pm_ie hf c3
    obtain ⟨k17, hf⟩ := pm_if hf
    obtain ⟨v18, e19, hf⟩ := pm_bd hf
    rcases v18 with z21 | w20
    · have hf := pt_kl hf
      cases hf
      exact pw_t (by decide) K0 (show pw_F _ _ z21.2 from wfX16_takes (pw_rf _) e19)
    have K22 := pw_t (by decide) K0 (show pw_F _ _ w20 from wfX16_takes (pw_rf _) e19)
    have hf := pt_kr hf
    obtain ⟨k23, hf⟩ := pm_if hf
    obtain ⟨v24, e25, hf⟩ := pm_bd hf
    rcases v24 with z27 | w26
    · have hf := pt_kl hf
      cases hf
      exact pw_t (by decide) K22 (show pw_F _ _ z27.2 from wfX16_takes (pw_rf _) e25)
    have K28 := pw_t (by decide) K22 (show pw_F _ _ w26 from wfX16_takes (pw_rf _) e25)
    have hf := pt_kr hf
    by_cases c29 : 54 ≤ p1
    · have hf := pm_it hf c29
      cases hf
      exact K28
    · have hf := pm_ie hf c29
      obtain ⟨k30, hf⟩ := pm_if hf
      obtain ⟨v31, e32, hf⟩ := pm_bd hf
      rcases v31 with z34 | w33
      · have hf := pt_kl hf
        cases hf
        exact pw_t (by decide) K28 (show pw_F _ _ z34.2 from wfX16_put (pw_rf _) e32)
      have K35 := pw_t (by decide) K28 (show pw_F _ _ w33 from wfX16_put (pw_rf _) e32)
      have hf := pt_kr hf
      cases hf
      exact K35
abbrev WX16_blockType : List Nat := [2055, 2056, 2059]
set_option maxHeartbeats 4000000 in
set_option maxRecDepth 100000 in
theorem wfX16_blockType {h0 h : pm_H} (K0 : pw_F WX16_blockType h0 h) {a0 : Nat}  {r : ((Nat × pm_H) ⊕ pm_H)} (hf : fX16_blockType h a0 = some r) : pt_WV WX16_blockType h0 r := by
  unfold fX16_blockType at hf
  obtain ⟨k1, hf⟩ := pm_if hf
  obtain ⟨y2, e3, hf⟩ := pm_lt hf
  obtain ⟨v4, e5, hf⟩ := pm_bd hf
  rcases v4 with z7 | w6
  · have hf := pt_kl hf
    cases hf
    exact pw_t (by decide) K0 (show pw_F _ _ z7.2 from wfX16_next (pw_rf _) e5)
  have K8 := pw_t (by decide) K0 (show pw_F _ _ w6.2 from wfX16_next (pw_rf _) e5)
  have hf := pt_kr hf
  by_cases c9 : w6.1 = 64
  · have hf := pm_it hf c9
    cases hf
    exact K8
  · have hf := pm_ie hf c9
    obtain ⟨v10, e11, hf⟩ := pm_lt hf
    by_cases c12 : v10 = 0
    · have hf := pm_it hf c12
      obtain ⟨k13, hf⟩ := pm_if hf
      obtain ⟨v14, e15, hf⟩ := pm_bd hf
      rcases v14 with z17 | w16
      · have hf := pt_kl hf
        cases hf
        exact pw_t (by decide) (pw_sI K8 rfl k13 (by decide)) (show pw_F _ _ z17.2 from wfX16_signed (pw_rf _) e15)
      have K18 := pw_t (by decide) (pw_sI K8 rfl k13 (by decide)) (show pw_F _ _ w16.2 from wfX16_signed (pw_rf _) e15)
      have hf := pt_kr hf
      by_cases c19 : 0 ≤ w16.1
      · have hf := pm_it hf c19
        cases hf
        exact K18
      · have hf := pm_ie hf c19
        obtain ⟨k20, hf⟩ := pm_if hf
        obtain ⟨v21, e22, hf⟩ := pm_bd hf
        rcases v21 with z24 | w23
        · have hf := pt_kl hf
          cases hf
          exact pw_t (by decide) K18 (show pw_F _ _ z24.2 from wfX16_stops (pw_rf _) e22)
        have K25 := pw_t (by decide) K18 (show pw_F _ _ w23 from wfX16_stops (pw_rf _) e22)
        have hf := pt_kr hf
        cases hf
        exact K25
    · have hf := pm_ie hf c12
      cases hf
      exact K8
abbrev WX16_checksElement : List Nat := [2055, 2056, 2067]
set_option maxHeartbeats 4000000 in
set_option maxRecDepth 100000 in
theorem wlX16_checksElement {h0 : pm_H} {r : ((Nat × pm_H) ⊕ pm_H)} : ∀ n : Nat, (∀ (x0 : Nat) (x1 : Int32) (x2 : Int32) (h : pm_H), pw_F WX16_checksElement h0 h → pm_iter sX16_checksElement n (.inl (x0, x1, x2, h)) = some r → pt_WV WX16_checksElement h0 r) ∧ (∀ (x0 : Nat) (x1 : Int32) (x2 : Int32) (x3 : Int32) (h : pm_H), pw_F WX16_checksElement h0 h → pm_iter sX16_checksElement n (.inr (.inl (x0, x1, x2, x3, h))) = some r → pt_WV WX16_checksElement h0 r) ∧ (∀ (x0 : Nat) (x1 : Int32) (x3 : Int32) (h : pm_H), pw_F WX16_checksElement h0 h → pm_iter sX16_checksElement n (.inr (.inr (x0, x1, x3, h))) = some r → pt_WV WX16_checksElement h0 r) := by
  intro n
  induction n with
  | zero => exact ⟨fun _ _ _ _ _ hf => (by cases hf), fun _ _ _ _ _ _ hf => (by cases hf), fun _ _ _ _ _ hf => (by cases hf)⟩
  | succ n ih =>
    refine ⟨fun x0 x1 x2 h K0 hf => ?_, ?_⟩
    · obtain ⟨y, hf, hi⟩ := pm_iter_s hf
      have hf : tX16_checksElement_81 x0 x1 x2 h = some y := hf
      unfold tX16_checksElement_81 at hf
      obtain ⟨k50, hf⟩ := pm_if hf
      obtain ⟨v51, e52, hf⟩ := pm_bd hf
      obtain ⟨k53, hf⟩ := pm_if hf
      obtain ⟨v54, e55, hf⟩ := pm_bd hf
      obtain ⟨k56, hf⟩ := pm_if hf
      obtain ⟨u57, hf⟩ := pm_if hf
      by_cases c58 : (pm_I h v54 x1.toNatClampNeg) = 0
      · have hf := pm_it hf c58
        obtain ⟨v59, e60, hf⟩ := pm_bd hf
        obtain ⟨k61, hf⟩ := pm_if hf
        obtain ⟨u62, hf⟩ := pm_if hf
        obtain ⟨y63, e64, hf⟩ := pm_lt hf
        obtain ⟨v65, e66, hf⟩ := pm_bd hf
        by_cases c67 : v65.toInt64 ≤ y63
        · have hf := pm_it hf c67
          obtain ⟨v68, e69, hf⟩ := pm_bd hf
          rcases v68 with z71 | w70
          · have hf := pt_sl hf
            cases hf
            cases hi
            exact pw_t (by decide) K0 (show pw_F _ _ z71.2 from wfX16_stops (pw_rf _) e69)
          have K72 := pw_t (by decide) K0 (show pw_F _ _ w70 from wfX16_stops (pw_rf _) e69)
          have hf := pt_sr hf
          obtain ⟨k73, hf⟩ := pm_if hf
          obtain ⟨v74, e75, hf⟩ := pm_bd hf
          obtain ⟨k76, hf⟩ := pm_if hf
          obtain ⟨v77, e78, hf⟩ := pm_bd hf
          obtain ⟨k79, hf⟩ := pm_if hf
          obtain ⟨u80, hf⟩ := pm_if hf
          obtain ⟨v81, e82, hf⟩ := pm_bd hf
          rcases v81 with z84 | w83
          · have hf := pt_sl hf
            cases hf
            cases hi
            exact pw_t (by decide) K72 (show pw_F _ _ z84.2 from wfX16_constantly (pw_rf _) e82)
          have K85 := pw_t (by decide) K72 (show pw_F _ _ w83 from wfX16_constantly (pw_rf _) e82)
          have hf := pt_sr hf
          obtain ⟨k86, hf⟩ := pm_if hf
          obtain ⟨v87, e88, hf⟩ := pm_bd hf
          obtain ⟨k89, hf⟩ := pm_if hf
          obtain ⟨v90, e91, hf⟩ := pm_bd hf
          obtain ⟨k92, hf⟩ := pm_if hf
          obtain ⟨u93, hf⟩ := pm_if hf
          obtain ⟨y94, e95, hf⟩ := pm_lt hf
          cases hf
          exact ih.2.2 x0 x1 0 (pm_setI w83 x0 19 y94) (pw_sI K85 rfl k86 (by decide))  hi
        · have hf := pm_ie hf c67
          obtain ⟨v96, e97, hf⟩ := pm_bd hf
          obtain ⟨v98, e99, hf⟩ := pm_bd hf
          obtain ⟨k100, hf⟩ := pm_if hf
          obtain ⟨u101, hf⟩ := pm_if hf
          by_cases c102 : v96 = (pm_I h v98 x1.toNatClampNeg)
          · have hf := pm_it hf c102
            obtain ⟨v103, e104, hf⟩ := pm_bd hf
            obtain ⟨k105, hf⟩ := pm_if hf
            obtain ⟨u106, hf⟩ := pm_if hf
            obtain ⟨v107, e108, hf⟩ := pm_bd hf
            rcases v107 with z110 | w109
            · have hf := pt_sl hf
              cases hf
              cases hi
              exact pw_t (by decide) K0 (show pw_F _ _ z110.2 from wfX16_constantly (pw_rf _) e108)
            have K111 := pw_t (by decide) K0 (show pw_F _ _ w109 from wfX16_constantly (pw_rf _) e108)
            have hf := pt_sr hf
            obtain ⟨k112, hf⟩ := pm_if hf
            obtain ⟨v113, e114, hf⟩ := pm_bd hf
            obtain ⟨k115, hf⟩ := pm_if hf
            obtain ⟨v116, e117, hf⟩ := pm_bd hf
            obtain ⟨k118, hf⟩ := pm_if hf
            obtain ⟨u119, hf⟩ := pm_if hf
            obtain ⟨y120, e121, hf⟩ := pm_lt hf
            cases hf
            exact ih.2.2 x0 x1 0 (pm_setI w109 x0 19 y120) (pw_sI K111 rfl k112 (by decide))  hi
          · have hf := pm_ie hf c102
            obtain ⟨v122, e123, hf⟩ := pm_bd hf
            rcases v122 with z125 | w124
            · have hf := pt_sl hf
              cases hf
              cases hi
              exact pw_t (by decide) K0 (show pw_F _ _ z125.2 from wfX16_stops (pw_rf _) e123)
            have K126 := pw_t (by decide) K0 (show pw_F _ _ w124 from wfX16_stops (pw_rf _) e123)
            have hf := pt_sr hf
            obtain ⟨k127, hf⟩ := pm_if hf
            obtain ⟨v128, e129, hf⟩ := pm_bd hf
            obtain ⟨k130, hf⟩ := pm_if hf
            obtain ⟨v131, e132, hf⟩ := pm_bd hf
            obtain ⟨k133, hf⟩ := pm_if hf
            obtain ⟨u134, hf⟩ := pm_if hf
            obtain ⟨v135, e136, hf⟩ := pm_bd hf
            rcases v135 with z138 | w137
            · have hf := pt_sl hf
              cases hf
              cases hi
              exact pw_t (by decide) K126 (show pw_F _ _ z138.2 from wfX16_constantly (pw_rf _) e136)
            have K139 := pw_t (by decide) K126 (show pw_F _ _ w137 from wfX16_constantly (pw_rf _) e136)
            have hf := pt_sr hf
            obtain ⟨k140, hf⟩ := pm_if hf
            obtain ⟨v141, e142, hf⟩ := pm_bd hf
            obtain ⟨k143, hf⟩ := pm_if hf
            obtain ⟨v144, e145, hf⟩ := pm_bd hf
            obtain ⟨k146, hf⟩ := pm_if hf
            obtain ⟨u147, hf⟩ := pm_if hf
            obtain ⟨y148, e149, hf⟩ := pm_lt hf
            cases hf
            exact ih.2.2 x0 x1 0 (pm_setI w137 x0 19 y148) (pw_sI K139 rfl k140 (by decide))  hi
      · have hf := pm_ie hf c58
        obtain ⟨v150, e151, hf⟩ := pm_bd hf
        obtain ⟨k152, hf⟩ := pm_if hf
        obtain ⟨u153, hf⟩ := pm_if hf
        obtain ⟨y154, e155, hf⟩ := pm_lt hf
        cases hf
        exact ih.2.2 x0 x1 0 (pm_setI h x0 19 y154) (pw_sI K0 rfl k50 (by decide))  hi
    refine ⟨fun x0 x1 x2 x3 h K0 hf => ?_, ?_⟩
    · obtain ⟨y, hf, hi⟩ := pm_iter_s hf
      have hf : tX16_checksElement_38 x0 x1 x2 x3 h = some y := hf
      unfold tX16_checksElement_38 at hf
      obtain ⟨k22, hf⟩ := pm_if hf
      obtain ⟨v23, e24, hf⟩ := pm_bd hf
      obtain ⟨k25, hf⟩ := pm_if hf
      obtain ⟨v26, e27, hf⟩ := pm_bd hf
      obtain ⟨k28, hf⟩ := pm_if hf
      obtain ⟨u29, hf⟩ := pm_if hf
      by_cases c30 : (pm_I h v26 x1.toNatClampNeg) ≤ x3
      · have hf := pm_it hf c30
        cases hf
        exact ih.1 x0 x1 x2 h K0  hi
      · have hf := pm_ie hf c30
        obtain ⟨v31, e32, hf⟩ := pm_bd hf
        have K33 := pw_t (by decide) K0 (wfX16_word (pw_rf _) e32)
        obtain ⟨k34, hf⟩ := pm_if hf
        obtain ⟨v35, e36, hf⟩ := pm_bd hf
        obtain ⟨k37, hf⟩ := pm_if hf
        obtain ⟨v38, e39, hf⟩ := pm_bd hf
        by_cases c40 : v31.1 < v38.toInt64
        · have hf := pm_it hf c40
          obtain ⟨y41, e42, hf⟩ := pm_lt hf
          cases hf
          exact ih.2.1 x0 x1 x2 y41 v31.2 K33  hi
        · have hf := pm_ie hf c40
          obtain ⟨v43, e44, hf⟩ := pm_bd hf
          rcases v43 with z46 | w45
          · have hf := pt_sl hf
            cases hf
            cases hi
            exact pw_t (by decide) K33 (show pw_F _ _ z46.2 from wfX16_stops (pw_rf _) e44)
          have K47 := pw_t (by decide) K33 (show pw_F _ _ w45 from wfX16_stops (pw_rf _) e44)
          have hf := pt_sr hf
          obtain ⟨y48, e49, hf⟩ := pm_lt hf
          cases hf
          exact ih.2.1 x0 x1 x2 y48 w45 K47  hi
    refine fun x0 x1 x3 h K0 hf => ?_
    obtain ⟨y, hf, hi⟩ := pm_iter_s hf
    have hf : tX16_checksElement_175 x0 x1 x3 h = some y := hf
    unfold tX16_checksElement_175 at hf
    obtain ⟨k156, hf⟩ := pm_if hf
    obtain ⟨v157, e158, hf⟩ := pm_bd hf
    obtain ⟨k159, hf⟩ := pm_if hf
    obtain ⟨v160, e161, hf⟩ := pm_bd hf
    obtain ⟨k162, hf⟩ := pm_if hf
    obtain ⟨u163, hf⟩ := pm_if hf
    by_cases c164 : (pm_I h v160 x1.toNatClampNeg) ≤ x3
    · have hf := pm_it hf c164
      cases hf
      cases hi
      exact K0
    · have hf := pm_ie hf c164
      obtain ⟨v165, e166, hf⟩ := pm_bd hf
      obtain ⟨k167, hf⟩ := pm_if hf
      obtain ⟨u168, hf⟩ := pm_if hf
      by_cases c169 : (pm_I h v165 x1.toNatClampNeg) = 0
      · have hf := pm_it hf c169
        cases hf
        cases hi
        exact K0
      · have hf := pm_ie hf c169
        obtain ⟨v170, e171, hf⟩ := pm_bd hf
        obtain ⟨k172, hf⟩ := pm_if hf
        obtain ⟨u173, hf⟩ := pm_if hf
        obtain ⟨v174, e175, hf⟩ := pm_bd hf
        rcases v174 with z177 | w176
        · have hf := pt_sl hf
          cases hf
          cases hi
          exact pw_t (by decide) K0 (show pw_F _ _ z177.2 from wfX16_constantly (pw_rf _) e175)
        have K178 := pw_t (by decide) K0 (show pw_F _ _ w176 from wfX16_constantly (pw_rf _) e175)
        have hf := pt_sr hf
        obtain ⟨y179, e180, hf⟩ := pm_lt hf
        cases hf
        exact ih.2.2 x0 x1 y179 w176 K178  hi
set_option maxHeartbeats 4000000 in
set_option maxRecDepth 100000 in
theorem wfX16_checksElement {h0 h : pm_H} (K0 : pw_F WX16_checksElement h0 h) {a0 : Nat} {p1 : Int32}  {r : ((Nat × pm_H) ⊕ pm_H)} (hf : fX16_checksElement h a0 p1 = some r) : pt_WV WX16_checksElement h0 r := by
  unfold fX16_checksElement at hf
  obtain ⟨k1, hf⟩ := pm_if hf
  obtain ⟨v2, e3, hf⟩ := pm_bd hf
  obtain ⟨k4, hf⟩ := pm_if hf
  obtain ⟨v5, e6, hf⟩ := pm_bd hf
  obtain ⟨k7, hf⟩ := pm_if hf
  obtain ⟨u8, hf⟩ := pm_if hf
  obtain ⟨y9, e10, hf⟩ := pm_lt hf
  obtain ⟨v11, e12, hf⟩ := pm_bd hf
  obtain ⟨k13, hf⟩ := pm_if hf
  obtain ⟨u14, hf⟩ := pm_if hf
  by_cases c15 : (pm_I h v11 p1.toNatClampNeg) = 0
  · have hf := pm_it hf c15
    obtain ⟨v16, e17, hf⟩ := pm_bd hf
    obtain ⟨k18, hf⟩ := pm_if hf
    obtain ⟨u19, hf⟩ := pm_if hf
    obtain ⟨y20, e21, hf⟩ := pm_lt hf
    obtain ⟨n, hn⟩ := pm_lim_iter hf
    exact (wlX16_checksElement n).2.1 a0 p1 y9 0 (pm_setI h a0 19 y20) (pw_sI K0 rfl k1 (by decide))  hn
  · have hf := pm_ie hf c15
    obtain ⟨n, hn⟩ := pm_lim_iter hf
    exact (wlX16_checksElement n).1 a0 p1 y9 h K0  hn
abbrev WX16_chooses : List Nat := [2055, 2056, 2067, 2071, 4096, 4352]
set_option maxHeartbeats 4000000 in
set_option maxRecDepth 100000 in
theorem wlX16_chooses {h0 : pm_H} {r : ((Nat × pm_H) ⊕ pm_H)} : ∀ n : Nat, (∀ (x0 : Nat) (x1 : Int32) (x2 : Int32) (x3 : Int32) (x4 : Int32) (h : pm_H), pw_F WX16_chooses h0 h → pm_iter sX16_chooses n (.inl (x0, x1, x2, x3, x4, h)) = some r → pt_WV WX16_chooses h0 r) ∧ (∀ (x0 : Nat) (x1 : Int32) (x3 : Int32) (x4 : Int32) (x5 : Int32) (h : pm_H), pw_F WX16_chooses h0 h → pm_iter sX16_chooses n (.inr (.inl (x0, x1, x3, x4, x5, h))) = some r → pt_WV WX16_chooses h0 r) ∧ (∀ (x0 : Nat) (x1 : Int32) (x3 : Int32) (x4 : Int32) (x5 : Int32) (x6 : Int32) (x7 : Int32) (h : pm_H), pw_F WX16_chooses h0 h → pm_iter sX16_chooses n (.inr (.inr (.inl (x0, x1, x3, x4, x5, x6, x7, h)))) = some r → pt_WV WX16_chooses h0 r) ∧ (∀ (x0 : Nat) (x1 : Int32) (x3 : Int32) (x4 : Int32) (x5 : Int32) (x7 : Int32) (h : pm_H), pw_F WX16_chooses h0 h → pm_iter sX16_chooses n (.inr (.inr (.inr (x0, x1, x3, x4, x5, x7, h)))) = some r → pt_WV WX16_chooses h0 r) := by
  intro n
  induction n with
  | zero => exact ⟨fun _ _ _ _ _ _ _ hf => (by cases hf), fun _ _ _ _ _ _ _ hf => (by cases hf), fun _ _ _ _ _ _ _ _ _ hf => (by cases hf), fun _ _ _ _ _ _ _ _ hf => (by cases hf)⟩
  | succ n ih =>
    refine ⟨fun x0 x1 x2 x3 x4 h K0 hf => ?_, ?_⟩
    · obtain ⟨y, hf, hi⟩ := pm_iter_s hf
      have hf : tX16_chooses_16 x0 x1 x2 x3 x4 h = some y := hf
      unfold tX16_chooses_16 at hf
      by_cases c8 : x1 < x4
      · have hf := pm_it hf c8
        obtain ⟨k9, hf⟩ := pm_if hf
        obtain ⟨v10, e11, hf⟩ := pm_bd hf
        rcases v10 with z13 | w12
        · have hf := pt_sl hf
          cases hf
          cases hi
          exact pw_t (by decide) K0 (show pw_F _ _ z13.2 from wfX16_takes (pw_rf _) e11)
        have K14 := pw_t (by decide) K0 (show pw_F _ _ w12 from wfX16_takes (pw_rf _) e11)
        have hf := pt_sr hf
        obtain ⟨k15, hf⟩ := pm_if hf
        obtain ⟨v16, e17, hf⟩ := pm_bd hf
        cases hf
        exact ih.2.1 x0 x1 x3 v16 0 (pm_setI w12 x0 19 x2) (pw_sI K14 rfl k15 (by decide))  hi
      · have hf := pm_ie hf c8
        obtain ⟨k18, hf⟩ := pm_if hf
        obtain ⟨v19, e20, hf⟩ := pm_bd hf
        have K21 := pw_t (by decide) K0 (wfX16_word (pw_rf _) e20)
        obtain ⟨y22, e23, hf⟩ := pm_lt hf
        cases hf
        exact ih.1 x0 x1 x2 v19.1.toInt32 y22 v19.2 K21  hi
    refine ⟨fun x0 x1 x3 x4 x5 h K0 hf => ?_, ?_⟩
    · obtain ⟨y, hf, hi⟩ := pm_iter_s hf
      have hf : tX16_chooses_56 x0 x1 x3 x4 x5 h = some y := hf
      unfold tX16_chooses_56 at hf
      by_cases c24 : x1 ≤ x5
      · have hf := pm_it hf c24
        obtain ⟨k25, hf⟩ := pm_if hf
        obtain ⟨v26, e27, hf⟩ := pm_bd hf
        rcases v26 with z29 | w28
        · have hf := pt_sl hf
          cases hf
          cases hi
          exact pw_t (by decide) K0 (show pw_F _ _ z29.2 from wfX16_takeWanted (pw_rf _) e27)
        have K30 := pw_t (by decide) K0 (show pw_F _ _ w28 from wfX16_takeWanted (pw_rf _) e27)
        have hf := pt_sr hf
        obtain ⟨k31, hf⟩ := pm_if hf
        obtain ⟨v32, e33, hf⟩ := pm_bd hf
        have K34 := pw_t (by decide) K30 (wfX16_dies (pw_rf _) e33)
        cases hf
        cases hi
        exact K34
      · have hf := pm_ie hf c24
        obtain ⟨k35, hf⟩ := pm_if hf
        obtain ⟨v36, e37, hf⟩ := pm_bd hf
        have K38 := pw_t (by decide) K0 (wfX16_word (pw_rf _) e37)
        obtain ⟨k39, hf⟩ := pm_if hf
        obtain ⟨v40, e41, hf⟩ := pm_bd hf
        by_cases c42 : v40 = x4
        · have hf := pm_it hf c42
          obtain ⟨y43, e44, hf⟩ := pm_lt hf
          cases hf
          exact ih.2.2.1 x0 x1 x3 x4 x5 v36.1.toInt32 y43 v36.2 K38  hi
        · have hf := pm_ie hf c42
          obtain ⟨v45, e46, hf⟩ := pm_bd hf
          rcases v45 with z48 | w47
          · have hf := pt_sl hf
            cases hf
            cases hi
            exact pw_t (by decide) K38 (show pw_F _ _ z48.2 from wfX16_stops (pw_rf _) e46)
          have K49 := pw_t (by decide) K38 (show pw_F _ _ w47 from wfX16_stops (pw_rf _) e46)
          have hf := pt_sr hf
          obtain ⟨y50, e51, hf⟩ := pm_lt hf
          cases hf
          exact ih.2.2.1 x0 x1 x3 x4 x5 v36.1.toInt32 y50 w47 K49  hi
    refine ⟨fun x0 x1 x3 x4 x5 x6 x7 h K0 hf => ?_, ?_⟩
    · obtain ⟨y, hf, hi⟩ := pm_iter_s hf
      have hf : tX16_chooses_96 x0 x1 x3 x4 x5 x6 x7 h = some y := hf
      unfold tX16_chooses_96 at hf
      by_cases c52 : x7 < 0
      · have hf := pm_it hf c52
        cases hf
        exact ih.2.2.2 x0 x1 x3 x4 x5 0 h K0  hi
      · have hf := pm_ie hf c52
        obtain ⟨k53, hf⟩ := pm_if hf
        obtain ⟨v54, e55, hf⟩ := pm_bd hf
        obtain ⟨v56, e57, hf⟩ := pm_bd hf
        obtain ⟨v58, e59, hf⟩ := pm_bd hf
        rcases v58 with z61 | w60
        · have hf := pt_sl hf
          cases hf
          cases hi
          exact pw_t (by decide) K0 (show pw_F _ _ z61.2 from wfX16_take (pw_rf _) e59)
        have K62 := pw_t (by decide) K0 (show pw_F _ _ w60.2 from wfX16_take (pw_rf _) e59)
        have hf := pt_sr hf
        obtain ⟨k63, hf⟩ := pm_if hf
        obtain ⟨u64, hf⟩ := pm_if hf
        obtain ⟨y65, e66, hf⟩ := pm_lt hf
        cases hf
        exact ih.2.2.1 x0 x1 x3 x4 x5 x6 y65 (pm_setI w60.2 v54 x7.toNatClampNeg w60.1) (pw_aI K62 rfl k63 (by decide) (by decide))  hi
    refine fun x0 x1 x3 x4 x5 x7 h K0 hf => ?_
    obtain ⟨y, hf, hi⟩ := pm_iter_s hf
    have hf : tX16_chooses_129 x0 x1 x3 x4 x5 x7 h = some y := hf
    unfold tX16_chooses_129 at hf
    by_cases c67 : x4 ≤ x7
    · have hf := pm_it hf c67
      obtain ⟨y68, e69, hf⟩ := pm_lt hf
      cases hf
      exact ih.2.1 x0 x1 x3 x4 y68 h K0  hi
    · have hf := pm_ie hf c67
      obtain ⟨k70, hf⟩ := pm_if hf
      obtain ⟨v71, e72, hf⟩ := pm_bd hf
      obtain ⟨k73, hf⟩ := pm_if hf
      obtain ⟨u74, hf⟩ := pm_if hf
      obtain ⟨v75, e76, hf⟩ := pm_bd hf
      rcases v75 with z78 | w77
      · have hf := pt_sl hf
        cases hf
        cases hi
        exact pw_t (by decide) K0 (show pw_F _ _ z78.2 from wfX16_put (pw_rf _) e76)
      have K79 := pw_t (by decide) K0 (show pw_F _ _ w77 from wfX16_put (pw_rf _) e76)
      have hf := pt_sr hf
      obtain ⟨y80, e81, hf⟩ := pm_lt hf
      cases hf
      exact ih.2.2.2 x0 x1 x3 x4 x5 y80 w77 K79  hi
set_option maxHeartbeats 4000000 in
set_option maxRecDepth 100000 in
theorem wfX16_chooses {h0 h : pm_H} (K0 : pw_F WX16_chooses h0 h) {a0 : Nat}  {r : ((Nat × pm_H) ⊕ pm_H)} (hf : fX16_chooses h a0 = some r) : pt_WV WX16_chooses h0 r := by
  unfold fX16_chooses at hf
  obtain ⟨k1, hf⟩ := pm_if hf
  obtain ⟨v2, e3, hf⟩ := pm_bd hf
  have K4 := pw_t (by decide) K0 (wfX16_word (pw_rf _) e3)
  obtain ⟨k5, hf⟩ := pm_if hf
  obtain ⟨y6, e7, hf⟩ := pm_lt hf
  obtain ⟨n, hn⟩ := pm_lim_iter hf
  exact (wlX16_chooses n).1 a0 v2.1.toInt32 y6 0 0 v2.2 K4  hn
abbrev WX16_ends : List Nat := [2055, 2056, 2071, 2072, 4096, 4352]
set_option maxHeartbeats 4000000 in
set_option maxRecDepth 100000 in
theorem wlX16_ends {h0 : pm_H} {r : ((Nat × pm_H) ⊕ pm_H)} : ∀ n : Nat, (∀ (x0 : Nat) (x1 : Int32) (x2 : Int32) (x3 : Int64) (h : pm_H), pw_F WX16_ends h0 h → pm_iter sX16_ends n (.inl (x0, x1, x2, x3, h)) = some r → pt_WV WX16_ends h0 r) ∧ (∀ (x0 : Nat) (x2 : Int32) (x3 : Int64) (x5 : Int32) (x6 : Int32) (h : pm_H), pw_F WX16_ends h0 h → pm_iter sX16_ends n (.inr (.inl (x0, x2, x3, x5, x6, h))) = some r → pt_WV WX16_ends h0 r) ∧ (∀ (x0 : Nat) (x3 : Int64) (x5 : Int32) (h : pm_H), pw_F WX16_ends h0 h → pm_iter sX16_ends n (.inr (.inr (x0, x3, x5, h))) = some r → pt_WV WX16_ends h0 r) := by
  intro n
  induction n with
  | zero => exact ⟨fun _ _ _ _ _ _ hf => (by cases hf), fun _ _ _ _ _ _ _ hf => (by cases hf), fun _ _ _ _ _ hf => (by cases hf)⟩
  | succ n ih =>
    refine ⟨fun x0 x1 x2 x3 h K0 hf => ?_, ?_⟩
    · obtain ⟨y, hf, hi⟩ := pm_iter_s hf
      have hf : tX16_ends_42 x0 x1 x2 x3 h = some y := hf
      unfold tX16_ends_42 at hf
      by_cases c26 : x1 = 5
      · have hf := pm_it hf c26
        obtain ⟨k27, hf⟩ := pm_if hf
        obtain ⟨v28, e29, hf⟩ := pm_bd hf
        obtain ⟨k30, hf⟩ := pm_if hf
        obtain ⟨u31, hf⟩ := pm_if hf
        obtain ⟨v32, e33, hf⟩ := pm_bd hf
        obtain ⟨k34, hf⟩ := pm_if hf
        have k34b := (congrFun (pkI rfl) v32).symm.trans k34
        obtain ⟨u35, hf⟩ := pm_if hf
        obtain ⟨v36, e37, hf⟩ := pm_bd hf
        rcases v36 with z39 | w38
        · have hf := pt_sl hf
          cases hf
          cases hi
          exact pw_t (by decide) (pw_aI (pw_aI K0 rfl k30 (by decide) (by decide)) (pkI rfl) k34b (by decide) (by decide)) (show pw_F _ _ z39.2 from wfX16_putParameters (pw_rf _) e37)
        have K40 := pw_t (by decide) (pw_aI (pw_aI K0 rfl k30 (by decide) (by decide)) (pkI rfl) k34b (by decide) (by decide)) (show pw_F _ _ w38 from wfX16_putParameters (pw_rf _) e37)
        have hf := pt_sr hf
        cases hf
        cases hi
        exact K40
      · have hf := pm_ie hf c26
        obtain ⟨k41, hf⟩ := pm_if hf
        obtain ⟨v42, e43, hf⟩ := pm_bd hf
        obtain ⟨k44, hf⟩ := pm_if hf
        obtain ⟨u45, hf⟩ := pm_if hf
        by_cases c46 : (pm_I h v42 x2.toNatClampNeg) = 4
        · have hf := pm_it hf c46
          obtain ⟨v47, e48, hf⟩ := pm_bd hf
          obtain ⟨v49, e50, hf⟩ := pm_bd hf
          by_cases c51 : v47 = v49
          · have hf := pm_it hf c51
            cases hf
            exact ih.2.1 x0 x2 x3 1 0 h K0  hi
          · have hf := pm_ie hf c51
            cases hf
            exact ih.2.1 x0 x2 x3 0 0 h K0  hi
        · have hf := pm_ie hf c46
          cases hf
          exact ih.2.1 x0 x2 x3 1 0 h K0  hi
    refine ⟨fun x0 x2 x3 x5 x6 h K0 hf => ?_, ?_⟩
    · obtain ⟨y, hf, hi⟩ := pm_iter_s hf
      have hf : tX16_ends_100 x0 x2 x3 x5 x6 h = some y := hf
      unfold tX16_ends_100 at hf
      obtain ⟨k52, hf⟩ := pm_if hf
      obtain ⟨v53, e54, hf⟩ := pm_bd hf
      by_cases c55 : v53 ≤ x6
      · have hf := pm_it hf c55
        cases hf
        exact ih.2.2 x0 x3 x5 h K0  hi
      · have hf := pm_ie hf c55
        by_cases c56 : x5 = 0
        · have hf := pm_it hf c56
          cases hf
          exact ih.2.2 x0 x3 x5 h K0  hi
        · have hf := pm_ie hf c56
          obtain ⟨v57, e58, hf⟩ := pm_bd hf
          obtain ⟨k59, hf⟩ := pm_if hf
          obtain ⟨u60, hf⟩ := pm_if hf
          by_cases c61 : (pm_I h v57 x2.toNatClampNeg) = 4
          · have hf := pm_it hf c61
            obtain ⟨v62, e63, hf⟩ := pm_bd hf
            obtain ⟨v64, e65, hf⟩ := pm_bd hf
            by_cases c66 : v62 = v64
            · have hf := pm_it hf c66
              obtain ⟨y67, e68, hf⟩ := pm_lt hf
              cases hf
              exact ih.2.1 x0 x2 x3 1 y67 h K0  hi
            · have hf := pm_ie hf c66
              obtain ⟨y69, e70, hf⟩ := pm_lt hf
              cases hf
              exact ih.2.1 x0 x2 x3 0 y69 h K0  hi
          · have hf := pm_ie hf c61
            cases hf
            exact ih.2.2 x0 x3 x5 h K0  hi
    refine fun x0 x3 x5 h K0 hf => ?_
    obtain ⟨y, hf, hi⟩ := pm_iter_s hf
    have hf : tX16_ends_155 x0 x3 x5 h = some y := hf
    unfold tX16_ends_155 at hf
    by_cases c71 : x5 = 0
    · have hf := pm_it hf c71
      obtain ⟨k72, hf⟩ := pm_if hf
      obtain ⟨v73, e74, hf⟩ := pm_bd hf
      rcases v73 with z76 | w75
      · have hf := pt_sl hf
        cases hf
        cases hi
        exact pw_t (by decide) K0 (show pw_F _ _ z76.2 from wfX16_stops (pw_rf _) e74)
      have K77 := pw_t (by decide) K0 (show pw_F _ _ w75 from wfX16_stops (pw_rf _) e74)
      have hf := pt_sr hf
      obtain ⟨k78, hf⟩ := pm_if hf
      obtain ⟨y79, e80, hf⟩ := pm_lt hf
      by_cases c81 : (pm_I (pm_setI w75 x0 24 y79) x0 24) ≤ 0
      · have hf := pm_it hf c81
        cases hf
        cases hi
        exact (pw_sI K77 rfl k78 (by decide))
      · have hf := pm_ie hf c81
        obtain ⟨v82, e83, hf⟩ := pm_bd hf
        rcases v82 with z85 | w84
        · have hf := pt_sl hf
          cases hf
          cases hi
          exact pw_t (by decide) (pw_sI K77 rfl k78 (by decide)) (show pw_F _ _ z85.2 from wfX16_putResults (pw_rf _) e83)
        have K86 := pw_t (by decide) (pw_sI K77 rfl k78 (by decide)) (show pw_F _ _ w84 from wfX16_putResults (pw_rf _) e83)
        have hf := pt_sr hf
        cases hf
        cases hi
        exact K86
    · have hf := pm_ie hf c71
      obtain ⟨k87, hf⟩ := pm_if hf
      obtain ⟨y88, e89, hf⟩ := pm_lt hf
      by_cases c90 : (pm_I (pm_setI h x0 24 y88) x0 24) ≤ 0
      · have hf := pm_it hf c90
        cases hf
        cases hi
        exact (pw_sI K0 rfl k87 (by decide))
      · have hf := pm_ie hf c90
        obtain ⟨v91, e92, hf⟩ := pm_bd hf
        rcases v91 with z94 | w93
        · have hf := pt_sl hf
          cases hf
          cases hi
          exact pw_t (by decide) (pw_sI K0 rfl k87 (by decide)) (show pw_F _ _ z94.2 from wfX16_putResults (pw_rf _) e92)
        have K95 := pw_t (by decide) (pw_sI K0 rfl k87 (by decide)) (show pw_F _ _ w93 from wfX16_putResults (pw_rf _) e92)
        have hf := pt_sr hf
        cases hf
        cases hi
        exact K95
set_option maxHeartbeats 4000000 in
set_option maxRecDepth 100000 in
theorem wfX16_ends {h0 h : pm_H} (K0 : pw_F WX16_ends h0 h) {a0 : Nat} {p1 : Int32}  {r : ((Nat × pm_H) ⊕ pm_H)} (hf : fX16_ends h a0 p1 = some r) : pt_WV WX16_ends h0 r := by
  unfold fX16_ends at hf
  obtain ⟨k1, hf⟩ := pm_if hf
  obtain ⟨y2, e3, hf⟩ := pm_lt hf
  obtain ⟨v4, e5, hf⟩ := pm_bd hf
  obtain ⟨k6, hf⟩ := pm_if hf
  obtain ⟨u7, hf⟩ := pm_if hf
  obtain ⟨y8, e9, hf⟩ := pm_lt hf
  obtain ⟨v10, e11, hf⟩ := pm_bd hf
  rcases v10 with z13 | w12
  · have hf := pt_kl hf
    cases hf
    exact pw_t (by decide) K0 (show pw_F _ _ z13.2 from wfX16_takeResults (pw_rf _) e11)
  have K14 := pw_t (by decide) K0 (show pw_F _ _ w12 from wfX16_takeResults (pw_rf _) e11)
  have hf := pt_kr hf
  obtain ⟨k15, hf⟩ := pm_if hf
  obtain ⟨v16, e17, hf⟩ := pm_bd hf
  obtain ⟨k18, hf⟩ := pm_if hf
  obtain ⟨u19, hf⟩ := pm_if hf
  by_cases c20 : (pm_I w12 a0 23) = (pm_I w12 v16 y2.toNatClampNeg)
  · have hf := pm_it hf c20
    obtain ⟨n, hn⟩ := pm_lim_iter hf
    exact (wlX16_ends n).1 a0 p1 y2 y8 w12 K14  hn
  · have hf := pm_ie hf c20
    obtain ⟨v21, e22, hf⟩ := pm_bd hf
    rcases v21 with z24 | w23
    · have hf := pt_kl hf
      cases hf
      exact pw_t (by decide) K14 (show pw_F _ _ z24.2 from wfX16_stops (pw_rf _) e22)
    have K25 := pw_t (by decide) K14 (show pw_F _ _ w23 from wfX16_stops (pw_rf _) e22)
    have hf := pt_kr hf
    obtain ⟨n, hn⟩ := pm_lim_iter hf
    exact (wlX16_ends n).1 a0 p1 y2 y8 w23 K25  hn
abbrev WX16_further : List Nat := [2055, 2056, 2059]
set_option maxHeartbeats 4000000 in
set_option maxRecDepth 100000 in
theorem wfX16_further_b123 {h0 h : pm_H} (K0 : pw_F WX16_further h0 h) {x0 : Nat} {x2 : Int64}  {r : ((Nat × pm_H) ⊕ pm_H)} (hf : fX16_further_b123 h x0 x2 = some r) : pt_WV WX16_further h0 r := by
  unfold fX16_further_b123 at hf
  by_cases c54 : x2 = 8
  · have hf := pm_it hf c54
    obtain ⟨k55, hf⟩ := pm_if hf
    obtain ⟨v56, e57, hf⟩ := pm_bd hf
    rcases v56 with z59 | w58
    · have hf := pt_kl hf
      cases hf
      exact pw_t (by decide) K0 (show pw_F _ _ z59.2 from wfX16_small (pw_rf _) e57)
    have K60 := pw_t (by decide) K0 (show pw_F _ _ w58.2 from wfX16_small (pw_rf _) e57)
    have hf := pt_kr hf
    cases hf
    exact K60
  · have hf := pm_ie hf c54
    by_cases c61 : x2 = 10
    · have hf := pm_it hf c61
      obtain ⟨k62, hf⟩ := pm_if hf
      obtain ⟨v63, e64, hf⟩ := pm_bd hf
      rcases v63 with z66 | w65
      · have hf := pt_kl hf
        cases hf
        exact pw_t (by decide) K0 (show pw_F _ _ z66.2 from wfX16_small (pw_rf _) e64)
      have K67 := pw_t (by decide) K0 (show pw_F _ _ w65.2 from wfX16_small (pw_rf _) e64)
      have hf := pt_kr hf
      cases hf
      exact K67
    · have hf := pm_ie hf c61
      by_cases c68 : x2 = 11
      · have hf := pm_it hf c68
        obtain ⟨k69, hf⟩ := pm_if hf
        obtain ⟨v70, e71, hf⟩ := pm_bd hf
        rcases v70 with z73 | w72
        · have hf := pt_kl hf
          cases hf
          exact pw_t (by decide) K0 (show pw_F _ _ z73.2 from wfX16_small (pw_rf _) e71)
        have K74 := pw_t (by decide) K0 (show pw_F _ _ w72.2 from wfX16_small (pw_rf _) e71)
        have hf := pt_kr hf
        cases hf
        exact K74
      · have hf := pm_ie hf c68
        cases hf
        exact K0
set_option maxHeartbeats 4000000 in
set_option maxRecDepth 100000 in
theorem wfX16_further_b117 {h0 h : pm_H} (K0 : pw_F WX16_further h0 h) {x0 : Nat} {x2 : Int64}  {r : ((Nat × pm_H) ⊕ pm_H)} (hf : fX16_further_b117 h x0 x2 = some r) : pt_WV WX16_further h0 r := by
  unfold fX16_further_b117 at hf
  obtain ⟨k48, hf⟩ := pm_if hf
  obtain ⟨v49, e50, hf⟩ := pm_bd hf
  rcases v49 with z52 | w51
  · have hf := pt_kl hf
    cases hf
    exact pw_t (by decide) K0 (show pw_F _ _ z52.2 from wfX16_number (pw_rf _) e50)
  have K53 := pw_t (by decide) K0 (show pw_F _ _ w51.2 from wfX16_number (pw_rf _) e50)
  have hf := pt_kr hf
  exact wfX16_further_b123 K53  hf
set_option maxHeartbeats 4000000 in
set_option maxRecDepth 100000 in
theorem wfX16_further_b93 {h0 h : pm_H} (K0 : pw_F WX16_further h0 h) {x0 : Nat} {x2 : Int64}  {r : ((Nat × pm_H) ⊕ pm_H)} (hf : fX16_further_b93 h x0 x2 = some r) : pt_WV WX16_further h0 r := by
  unfold fX16_further_b93 at hf
  by_cases c45 : x2 = 8
  · have hf := pm_it hf c45
    exact wfX16_further_b117 K0  hf
  · have hf := pm_ie hf c45
    by_cases c46 : x2 = 9
    · have hf := pm_it hf c46
      exact wfX16_further_b117 K0  hf
    · have hf := pm_ie hf c46
      by_cases c47 : x2 ≤ 11
      · have hf := pm_it hf c47
        exact wfX16_further_b123 K0  hf
      · have hf := pm_ie hf c47
        exact wfX16_further_b117 K0  hf
set_option maxHeartbeats 4000000 in
set_option maxRecDepth 100000 in
theorem wfX16_further_b87 {h0 h : pm_H} (K0 : pw_F WX16_further h0 h) {x0 : Nat} {x2 : Int64}  {r : ((Nat × pm_H) ⊕ pm_H)} (hf : fX16_further_b87 h x0 x2 = some r) : pt_WV WX16_further h0 r := by
  unfold fX16_further_b87 at hf
  obtain ⟨k39, hf⟩ := pm_if hf
  obtain ⟨v40, e41, hf⟩ := pm_bd hf
  rcases v40 with z43 | w42
  · have hf := pt_kl hf
    cases hf
    exact pw_t (by decide) K0 (show pw_F _ _ z43.2 from wfX16_number (pw_rf _) e41)
  have K44 := pw_t (by decide) K0 (show pw_F _ _ w42.2 from wfX16_number (pw_rf _) e41)
  have hf := pt_kr hf
  exact wfX16_further_b93 K44  hf
set_option maxHeartbeats 4000000 in
set_option maxRecDepth 100000 in
theorem wfX16_further_b71 {h0 h : pm_H} (K0 : pw_F WX16_further h0 h) {x0 : Nat} {x2 : Int64}  {r : ((Nat × pm_H) ⊕ pm_H)} (hf : fX16_further_b71 h x0 x2 = some r) : pt_WV WX16_further h0 r := by
  unfold fX16_further_b71 at hf
  by_cases c37 : x2 = 12
  · have hf := pm_it hf c37
    exact wfX16_further_b87 K0  hf
  · have hf := pm_ie hf c37
    by_cases c38 : x2 = 14
    · have hf := pm_it hf c38
      exact wfX16_further_b87 K0  hf
    · have hf := pm_ie hf c38
      exact wfX16_further_b93 K0  hf
set_option maxHeartbeats 4000000 in
set_option maxRecDepth 100000 in
theorem wfX16_further_b56 {h0 h : pm_H} (K0 : pw_F WX16_further h0 h) {x0 : Nat} {x2 : Int64}  {r : ((Nat × pm_H) ⊕ pm_H)} (hf : fX16_further_b56 h x0 x2 = some r) : pt_WV WX16_further h0 r := by
  unfold fX16_further_b56 at hf
  by_cases c30 : x2 = 10
  · have hf := pm_it hf c30
    obtain ⟨k31, hf⟩ := pm_if hf
    obtain ⟨v32, e33, hf⟩ := pm_bd hf
    rcases v32 with z35 | w34
    · have hf := pt_kl hf
      cases hf
      exact pw_t (by decide) K0 (show pw_F _ _ z35.2 from wfX16_small (pw_rf _) e33)
    have K36 := pw_t (by decide) K0 (show pw_F _ _ w34.2 from wfX16_small (pw_rf _) e33)
    have hf := pt_kr hf
    exact wfX16_further_b71 K36  hf
  · have hf := pm_ie hf c30
    exact wfX16_further_b71 K0  hf
set_option maxHeartbeats 4000000 in
set_option maxRecDepth 100000 in
theorem wfX16_further_b36 {h0 h : pm_H} (K0 : pw_F WX16_further h0 h) {x0 : Nat} {x1 : Int32} {x2 : Int64}  {r : ((Nat × pm_H) ⊕ pm_H)} (hf : fX16_further_b36 h x0 x1 x2 = some r) : pt_WV WX16_further h0 r := by
  unfold fX16_further_b36 at hf
  obtain ⟨k16, hf⟩ := pm_if hf
  obtain ⟨v17, e18, hf⟩ := pm_bd hf
  obtain ⟨k19, hf⟩ := pm_if hf
  obtain ⟨v20, e21, hf⟩ := pm_bd hf
  obtain ⟨k22, hf⟩ := pm_if hf
  obtain ⟨u23, hf⟩ := pm_if hf
  by_cases c24 : 0 ≤ (pm_I h v20 (12 : Int32).toNatClampNeg)
  · have hf := pm_it hf c24
    exact wfX16_further_b56 K0  hf
  · have hf := pm_ie hf c24
    obtain ⟨v25, e26, hf⟩ := pm_bd hf
    rcases v25 with z28 | w27
    · have hf := pt_kl hf
      cases hf
      exact pw_t (by decide) K0 (show pw_F _ _ z28.2 from wfX16_stops (pw_rf _) e26)
    have K29 := pw_t (by decide) K0 (show pw_F _ _ w27 from wfX16_stops (pw_rf _) e26)
    have hf := pt_kr hf
    exact wfX16_further_b56 K29  hf
set_option maxHeartbeats 4000000 in
set_option maxRecDepth 100000 in
theorem wfX16_further_b20 {h0 h : pm_H} (K0 : pw_F WX16_further h0 h) {x0 : Nat} {x1 : Int32} {x2 : Int64}  {r : ((Nat × pm_H) ⊕ pm_H)} (hf : fX16_further_b20 h x0 x1 x2 = some r) : pt_WV WX16_further h0 r := by
  unfold fX16_further_b20 at hf
  by_cases c14 : x2 = 8
  · have hf := pm_it hf c14
    exact wfX16_further_b36 K0  hf
  · have hf := pm_ie hf c14
    by_cases c15 : x2 = 9
    · have hf := pm_it hf c15
      exact wfX16_further_b36 K0  hf
    · have hf := pm_ie hf c15
      exact wfX16_further_b56 K0  hf
set_option maxHeartbeats 4000000 in
set_option maxRecDepth 100000 in
theorem wfX16_further {h0 h : pm_H} (K0 : pw_F WX16_further h0 h) {a0 : Nat} {p1 : Int32}  {r : ((Nat × pm_H) ⊕ pm_H)} (hf : fX16_further h a0 p1 = some r) : pt_WV WX16_further h0 r := by
  unfold fX16_further at hf
  obtain ⟨k1, hf⟩ := pm_if hf
  obtain ⟨v2, e3, hf⟩ := pm_bd hf
  rcases v2 with z5 | w4
  · have hf := pt_kl hf
    cases hf
    exact pw_t (by decide) K0 (show pw_F _ _ z5.2 from wfX16_number (pw_rf _) e3)
  have K6 := pw_t (by decide) K0 (show pw_F _ _ w4.2 from wfX16_number (pw_rf _) e3)
  have hf := pt_kr hf
  by_cases c7 : w4.1 ≤ 17
  · have hf := pm_it hf c7
    exact wfX16_further_b20 K6  hf
  · have hf := pm_ie hf c7
    obtain ⟨k8, hf⟩ := pm_if hf
    obtain ⟨v9, e10, hf⟩ := pm_bd hf
    rcases v9 with z12 | w11
    · have hf := pt_kl hf
      cases hf
      exact pw_t (by decide) K6 (show pw_F _ _ z12.2 from wfX16_stops (pw_rf _) e10)
    have K13 := pw_t (by decide) K6 (show pw_F _ _ w11 from wfX16_stops (pw_rf _) e10)
    have hf := pt_kr hf
    exact wfX16_further_b20 K13  hf
abbrev WX16_limits : List Nat := [2055, 2056, 2059, 2065, 2066]
set_option maxHeartbeats 4000000 in
set_option maxRecDepth 100000 in
theorem wfX16_limits {h0 h : pm_H} (K0 : pw_F WX16_limits h0 h) {a0 : Nat}  {r : ((Nat × pm_H) ⊕ pm_H)} (hf : fX16_limits h a0 = some r) : pt_WV WX16_limits h0 r := by
  unfold fX16_limits at hf
  obtain ⟨k1, hf⟩ := pm_if hf
  obtain ⟨v2, e3, hf⟩ := pm_bd hf
  rcases v2 with z5 | w4
  · have hf := pt_kl hf
    cases hf
    exact pw_t (by decide) K0 (show pw_F _ _ z5.2 from wfX16_small (pw_rf _) e3)
  have K6 := pw_t (by decide) K0 (show pw_F _ _ w4.2 from wfX16_small (pw_rf _) e3)
  have hf := pt_kr hf
  obtain ⟨k7, hf⟩ := pm_if hf
  obtain ⟨v8, e9, hf⟩ := pm_bd hf
  rcases v8 with z11 | w10
  · have hf := pt_kl hf
    cases hf
    exact pw_t (by decide) K6 (show pw_F _ _ z11.2 from wfX16_number (pw_rf _) e9)
  have K12 := pw_t (by decide) K6 (show pw_F _ _ w10.2 from wfX16_number (pw_rf _) e9)
  have hf := pt_kr hf
  obtain ⟨k13, hf⟩ := pm_if hf
  by_cases c14 : w4.1 = 1
  · have hf := pm_it hf c14
    obtain ⟨v15, e16, hf⟩ := pm_bd hf
    rcases v15 with z18 | w17
    · have hf := pt_kl hf
      cases hf
      exact pw_t (by decide) (pw_sL K12 rfl k13 (by decide)) (show pw_F _ _ z18.2 from wfX16_number (pw_rf _) e16)
    have K19 := pw_t (by decide) (pw_sL K12 rfl k13 (by decide)) (show pw_F _ _ w17.2 from wfX16_number (pw_rf _) e16)
    have hf := pt_kr hf
    obtain ⟨k20, hf⟩ := pm_if hf
    cases hf
    exact (pw_sL K19 rfl k20 (by decide))
  · have hf := pm_ie hf c14
    cases hf
    exact (pw_sL (pw_sL K12 rfl k13 (by decide)) (pkL rfl) k13 (by decide))
abbrev WX16_name : List Nat := [2055, 2056, 2059, 2064]
set_option maxHeartbeats 4000000 in
set_option maxRecDepth 100000 in
theorem wlX16_name {h0 : pm_H} {r : ((Nat × pm_H) ⊕ pm_H)} : ∀ n : Nat, (∀ (x0 : Nat) (x1 : Int64) (x3 : Int64) (h : pm_H), pw_F WX16_name h0 h → pm_iter sX16_name n (.inl (x0, x1, x3, h)) = some r → pt_WV WX16_name h0 r) ∧ (∀ (x0 : Nat) (x3 : Int32) (h : pm_H), pw_F WX16_name h0 h → pm_iter sX16_name n (.inr (x0, x3, h)) = some r → pt_WV WX16_name h0 r) := by
  intro n
  induction n with
  | zero => exact ⟨fun _ _ _ _ _ hf => (by cases hf), fun _ _ _ _ hf => (by cases hf)⟩
  | succ n ih =>
    refine ⟨fun x0 x1 x3 h K0 hf => ?_, ?_⟩
    · obtain ⟨y, hf, hi⟩ := pm_iter_s hf
      have hf : tX16_name_15 x0 x1 x3 h = some y := hf
      unfold tX16_name_15 at hf
      by_cases c10 : x1 ≤ x3
      · have hf := pm_it hf c10
        obtain ⟨k11, hf⟩ := pm_if hf
        obtain ⟨y12, e13, hf⟩ := pm_lt hf
        cases hf
        exact ih.2 x0 y12 h K0  hi
      · have hf := pm_ie hf c10
        obtain ⟨k14, hf⟩ := pm_if hf
        obtain ⟨v15, e16, hf⟩ := pm_bd hf
        rcases v15 with z18 | w17
        · have hf := pt_sl hf
          cases hf
          cases hi
          exact pw_t (by decide) K0 (show pw_F _ _ z18.2 from wfX16_next (pw_rf _) e16)
        have K19 := pw_t (by decide) K0 (show pw_F _ _ w17.2 from wfX16_next (pw_rf _) e16)
        have hf := pt_sr hf
        obtain ⟨y20, e21, hf⟩ := pm_lt hf
        cases hf
        exact ih.1 x0 x1 y20 w17.2 K19  hi
    refine fun x0 x3 h K0 hf => ?_
    obtain ⟨y, hf, hi⟩ := pm_iter_s hf
    have hf : tX16_name_39 x0 x3 h = some y := hf
    unfold tX16_name_39 at hf
    obtain ⟨k22, hf⟩ := pm_if hf
    by_cases c23 : (pm_I h x0 11) ≤ x3
    · have hf := pm_it hf c23
      cases hf
      cases hi
      exact K0
    · have hf := pm_ie hf c23
      obtain ⟨v24, e25, hf⟩ := pm_bd hf
      rcases v24 with z27 | w26
      · have hf := pt_sl hf
        cases hf
        cases hi
        exact pw_t (by decide) K0 (show pw_F _ _ z27.2 from wfX16_character (pw_rf _) e25)
      have K28 := pw_t (by decide) K0 (show pw_F _ _ w26.2 from wfX16_character (pw_rf _) e25)
      have hf := pt_sr hf
      obtain ⟨y29, e30, hf⟩ := pm_lt hf
      cases hf
      exact ih.2 x0 y29 w26.2 K28  hi
set_option maxHeartbeats 4000000 in
set_option maxRecDepth 100000 in
theorem wfX16_name {h0 h : pm_H} (K0 : pw_F WX16_name h0 h) {a0 : Nat}  {r : ((Nat × pm_H) ⊕ pm_H)} (hf : fX16_name h a0 = some r) : pt_WV WX16_name h0 r := by
  unfold fX16_name at hf
  obtain ⟨k1, hf⟩ := pm_if hf
  obtain ⟨v2, e3, hf⟩ := pm_bd hf
  rcases v2 with z5 | w4
  · have hf := pt_kl hf
    cases hf
    exact pw_t (by decide) K0 (show pw_F _ _ z5.2 from wfX16_number (pw_rf _) e3)
  have K6 := pw_t (by decide) K0 (show pw_F _ _ w4.2 from wfX16_number (pw_rf _) e3)
  have hf := pt_kr hf
  obtain ⟨k7, hf⟩ := pm_if hf
  obtain ⟨y8, e9, hf⟩ := pm_lt hf
  obtain ⟨n, hn⟩ := pm_lim_iter hf
  exact (wlX16_name n).1 a0 w4.1 0 (pm_setI w4.2 a0 16 y8) (pw_sI K6 rfl k7 (by decide))  hn
abbrev WX16_names : List Nat := [2055, 2056, 2067, 2071, 4352]
set_option maxHeartbeats 4000000 in
set_option maxRecDepth 100000 in
theorem wfX16_names_b113 {h0 h : pm_H} (K0 : pw_F WX16_names h0 h) {x0 : Nat} {x1 : Int32} {x4 : Int32}  {r : ((Nat × pm_H) ⊕ pm_H)} (hf : fX16_names_b113 h x0 x1 x4 = some r) : pt_WV WX16_names h0 r := by
  unfold fX16_names_b113 at hf
  by_cases c47 : x1 = 32
  · have hf := pm_it hf c47
    obtain ⟨k48, hf⟩ := pm_if hf
    obtain ⟨v49, e50, hf⟩ := pm_bd hf
    rcases v49 with z52 | w51
    · have hf := pt_kl hf
      cases hf
      exact pw_t (by decide) K0 (show pw_F _ _ z52.2 from wfX16_put (pw_rf _) e50)
    have K53 := pw_t (by decide) K0 (show pw_F _ _ w51 from wfX16_put (pw_rf _) e50)
    have hf := pt_kr hf
    cases hf
    exact K53
  · have hf := pm_ie hf c47
    by_cases c54 : x1 = 34
    · have hf := pm_it hf c54
      obtain ⟨k55, hf⟩ := pm_if hf
      obtain ⟨v56, e57, hf⟩ := pm_bd hf
      rcases v56 with z59 | w58
      · have hf := pt_kl hf
        cases hf
        exact pw_t (by decide) K0 (show pw_F _ _ z59.2 from wfX16_put (pw_rf _) e57)
      have K60 := pw_t (by decide) K0 (show pw_F _ _ w58 from wfX16_put (pw_rf _) e57)
      have hf := pt_kr hf
      cases hf
      exact K60
    · have hf := pm_ie hf c54
      by_cases c61 : x1 = 35
      · have hf := pm_it hf c61
        obtain ⟨k62, hf⟩ := pm_if hf
        obtain ⟨v63, e64, hf⟩ := pm_bd hf
        rcases v63 with z66 | w65
        · have hf := pt_kl hf
          cases hf
          exact pw_t (by decide) K0 (show pw_F _ _ z66.2 from wfX16_put (pw_rf _) e64)
        have K67 := pw_t (by decide) K0 (show pw_F _ _ w65 from wfX16_put (pw_rf _) e64)
        have hf := pt_kr hf
        cases hf
        exact K67
      · have hf := pm_ie hf c61
        by_cases c68 : x1 = 37
        · have hf := pm_it hf c68
          obtain ⟨k69, hf⟩ := pm_if hf
          obtain ⟨v70, e71, hf⟩ := pm_bd hf
          rcases v70 with z73 | w72
          · have hf := pt_kl hf
            cases hf
            exact pw_t (by decide) K0 (show pw_F _ _ z73.2 from wfX16_put (pw_rf _) e71)
          have K74 := pw_t (by decide) K0 (show pw_F _ _ w72 from wfX16_put (pw_rf _) e71)
          have hf := pt_kr hf
          cases hf
          exact K74
        · have hf := pm_ie hf c68
          cases hf
          exact K0
set_option maxHeartbeats 4000000 in
set_option maxRecDepth 100000 in
theorem wfX16_names_b100 {h0 h : pm_H} (K0 : pw_F WX16_names h0 h) {x0 : Nat} {x1 : Int32} {x4 : Int32}  {r : ((Nat × pm_H) ⊕ pm_H)} (hf : fX16_names_b100 h x0 x1 x4 = some r) : pt_WV WX16_names h0 r := by
  unfold fX16_names_b100 at hf
  by_cases c40 : x1 = 38
  · have hf := pm_it hf c40
    obtain ⟨k41, hf⟩ := pm_if hf
    obtain ⟨v42, e43, hf⟩ := pm_bd hf
    rcases v42 with z45 | w44
    · have hf := pt_kl hf
      cases hf
      exact pw_t (by decide) K0 (show pw_F _ _ z45.2 from wfX16_takes (pw_rf _) e43)
    have K46 := pw_t (by decide) K0 (show pw_F _ _ w44 from wfX16_takes (pw_rf _) e43)
    have hf := pt_kr hf
    exact wfX16_names_b113 K46  hf
  · have hf := pm_ie hf c40
    exact wfX16_names_b113 K0  hf
set_option maxHeartbeats 4000000 in
set_option maxRecDepth 100000 in
theorem wfX16_names_b93 {h0 h : pm_H} (K0 : pw_F WX16_names h0 h) {x0 : Nat} {x1 : Int32} {x4 : Int32}  {r : ((Nat × pm_H) ⊕ pm_H)} (hf : fX16_names_b93 h x0 x1 x4 = some r) : pt_WV WX16_names h0 r := by
  unfold fX16_names_b93 at hf
  obtain ⟨k34, hf⟩ := pm_if hf
  obtain ⟨v35, e36, hf⟩ := pm_bd hf
  rcases v35 with z38 | w37
  · have hf := pt_kl hf
    cases hf
    exact pw_t (by decide) K0 (show pw_F _ _ z38.2 from wfX16_takes (pw_rf _) e36)
  have K39 := pw_t (by decide) K0 (show pw_F _ _ w37 from wfX16_takes (pw_rf _) e36)
  have hf := pt_kr hf
  exact wfX16_names_b100 K39  hf
set_option maxHeartbeats 4000000 in
set_option maxRecDepth 100000 in
theorem wfX16_names_b69 {h0 h : pm_H} (K0 : pw_F WX16_names h0 h) {x0 : Nat} {x1 : Int32} {x4 : Int32}  {r : ((Nat × pm_H) ⊕ pm_H)} (hf : fX16_names_b69 h x0 x1 x4 = some r) : pt_WV WX16_names h0 r := by
  unfold fX16_names_b69 at hf
  by_cases c30 : x1 = 33
  · have hf := pm_it hf c30
    exact wfX16_names_b93 K0  hf
  · have hf := pm_ie hf c30
    by_cases c31 : x1 = 34
    · have hf := pm_it hf c31
      exact wfX16_names_b93 K0  hf
    · have hf := pm_ie hf c31
      by_cases c32 : x1 = 36
      · have hf := pm_it hf c32
        exact wfX16_names_b93 K0  hf
      · have hf := pm_ie hf c32
        by_cases c33 : x1 = 38
        · have hf := pm_it hf c33
          exact wfX16_names_b93 K0  hf
        · have hf := pm_ie hf c33
          exact wfX16_names_b100 K0  hf
set_option maxHeartbeats 4000000 in
set_option maxRecDepth 100000 in
theorem wfX16_names_b54 {h0 h : pm_H} (K0 : pw_F WX16_names h0 h) {x0 : Nat} {x1 : Int32} {s0 : Int32}  {r : ((Nat × pm_H) ⊕ pm_H)} (hf : fX16_names_b54 h x0 x1 s0 = some r) : pt_WV WX16_names h0 r := by
  unfold fX16_names_b54 at hf
  by_cases c23 : x1 = 37
  · have hf := pm_it hf c23
    obtain ⟨k24, hf⟩ := pm_if hf
    obtain ⟨v25, e26, hf⟩ := pm_bd hf
    rcases v25 with z28 | w27
    · have hf := pt_kl hf
      cases hf
      exact pw_t (by decide) K0 (show pw_F _ _ z28.2 from wfX16_takes (pw_rf _) e26)
    have K29 := pw_t (by decide) K0 (show pw_F _ _ w27 from wfX16_takes (pw_rf _) e26)
    have hf := pt_kr hf
    exact wfX16_names_b69 K29  hf
  · have hf := pm_ie hf c23
    exact wfX16_names_b69 K0  hf
set_option maxHeartbeats 4000000 in
set_option maxRecDepth 100000 in
theorem wfX16_names {h0 h : pm_H} (K0 : pw_F WX16_names h0 h) {a0 : Nat} {p1 : Int32}  {r : ((Nat × pm_H) ⊕ pm_H)} (hf : fX16_names h a0 p1 = some r) : pt_WV WX16_names h0 r := by
  unfold fX16_names at hf
  obtain ⟨k1, hf⟩ := pm_if hf
  obtain ⟨v2, e3, hf⟩ := pm_bd hf
  have K4 := pw_t (by decide) K0 (wfX16_word (pw_rf _) e3)
  by_cases c5 : 35 ≤ p1
  · have hf := pm_it hf c5
    by_cases c6 : 37 ≤ p1
    · have hf := pm_it hf c6
      obtain ⟨k7, hf⟩ := pm_if hf
      obtain ⟨v8, e9, hf⟩ := pm_bd hf
      obtain ⟨k10, hf⟩ := pm_if hf
      obtain ⟨v11, e12, hf⟩ := pm_bd hf
      exact wfX16_names_b54 K4  hf
    · have hf := pm_ie hf c6
      obtain ⟨k13, hf⟩ := pm_if hf
      obtain ⟨v14, e15, hf⟩ := pm_bd hf
      obtain ⟨k16, hf⟩ := pm_if hf
      obtain ⟨v17, e18, hf⟩ := pm_bd hf
      exact wfX16_names_b54 K4  hf
  · have hf := pm_ie hf c5
    obtain ⟨k19, hf⟩ := pm_if hf
    obtain ⟨v20, e21, hf⟩ := pm_bd hf
    have K22 := pw_t (by decide) K4 (wfX16_localType (pw_rf _) e21)
    exact wfX16_names_b54 K22  hf
abbrev WX16_operands : List Nat := [1795, 2055, 2056, 2059]
set_option maxHeartbeats 4000000 in
set_option maxRecDepth 100000 in
theorem wlX16_operands {h0 : pm_H} {r : ((Nat × pm_H) ⊕ pm_H)} : ∀ n : Nat, (∀ (x0 : Nat) (x1 : Int32) (x4 : Int32) (h : pm_H), pw_F WX16_operands h0 h → pm_iter sX16_operands n (.inl (x0, x1, x4, h)) = some r → pt_WV WX16_operands h0 r) ∧ (∀ (x0 : Nat) (x4 : Int64) (x6 : Int64) (h : pm_H), pw_F WX16_operands h0 h → pm_iter sX16_operands n (.inr (.inl (x0, x4, x6, h))) = some r → pt_WV WX16_operands h0 r) ∧ (∀ (x0 : Nat) (x4 : Int64) (x6 : Int64) (h : pm_H), pw_F WX16_operands h0 h → pm_iter sX16_operands n (.inr (.inr (x0, x4, x6, h))) = some r → pt_WV WX16_operands h0 r) := by
  intro n
  induction n with
  | zero => exact ⟨fun _ _ _ _ _ hf => (by cases hf), fun _ _ _ _ _ hf => (by cases hf), fun _ _ _ _ _ hf => (by cases hf)⟩
  | succ n ih =>
    refine ⟨fun x0 x1 x4 h K0 hf => ?_, ?_⟩
    · obtain ⟨y, hf, hi⟩ := pm_iter_s hf
      have hf : tX16_operands_247 x0 x1 x4 h = some y := hf
      unfold tX16_operands_247 at hf
      by_cases c157 : x1 = 67
      · have hf := pm_it hf c157
        by_cases c158 : 4 ≤ x4
        · have hf := pm_it hf c158
          cases hf
          cases hi
          exact K0
        · have hf := pm_ie hf c158
          obtain ⟨k159, hf⟩ := pm_if hf
          obtain ⟨v160, e161, hf⟩ := pm_bd hf
          rcases v160 with z163 | w162
          · have hf := pt_sl hf
            cases hf
            cases hi
            exact pw_t (by decide) K0 (show pw_F _ _ z163.2 from wfX16_next (pw_rf _) e161)
          have K164 := pw_t (by decide) K0 (show pw_F _ _ w162.2 from wfX16_next (pw_rf _) e161)
          have hf := pt_sr hf
          obtain ⟨y165, e166, hf⟩ := pm_lt hf
          cases hf
          exact ih.1 x0 x1 y165 w162.2 K164  hi
      · have hf := pm_ie hf c157
        by_cases c167 : 8 ≤ x4
        · have hf := pm_it hf c167
          cases hf
          cases hi
          exact K0
        · have hf := pm_ie hf c167
          obtain ⟨k168, hf⟩ := pm_if hf
          obtain ⟨v169, e170, hf⟩ := pm_bd hf
          rcases v169 with z172 | w171
          · have hf := pt_sl hf
            cases hf
            cases hi
            exact pw_t (by decide) K0 (show pw_F _ _ z172.2 from wfX16_next (pw_rf _) e170)
          have K173 := pw_t (by decide) K0 (show pw_F _ _ w171.2 from wfX16_next (pw_rf _) e170)
          have hf := pt_sr hf
          obtain ⟨y174, e175, hf⟩ := pm_lt hf
          cases hf
          exact ih.1 x0 x1 y174 w171.2 K173  hi
    refine ⟨fun x0 x4 x6 h K0 hf => ?_, ?_⟩
    · obtain ⟨y, hf, hi⟩ := pm_iter_s hf
      have hf : tX16_operands_150 x0 x4 x6 h = some y := hf
      unfold tX16_operands_150 at hf
      by_cases c148 : x4 ≤ x6
      · have hf := pm_it hf c148
        cases hf
        cases hi
        exact K0
      · have hf := pm_ie hf c148
        obtain ⟨k149, hf⟩ := pm_if hf
        obtain ⟨v150, e151, hf⟩ := pm_bd hf
        rcases v150 with z153 | w152
        · have hf := pt_sl hf
          cases hf
          cases hi
          exact pw_t (by decide) K0 (show pw_F _ _ z153.2 from wfX16_type (pw_rf _) e151)
        have K154 := pw_t (by decide) K0 (show pw_F _ _ w152.2 from wfX16_type (pw_rf _) e151)
        have hf := pt_sr hf
        obtain ⟨y155, e156, hf⟩ := pm_lt hf
        cases hf
        exact ih.2.1 x0 x4 y155 w152.2 K154  hi
    refine fun x0 x4 x6 h K0 hf => ?_
    obtain ⟨y, hf, hi⟩ := pm_iter_s hf
    have hf : tX16_operands_89 x0 x4 x6 h = some y := hf
    unfold tX16_operands_89 at hf
    by_cases c139 : x4 < x6
    · have hf := pm_it hf c139
      cases hf
      cases hi
      exact K0
    · have hf := pm_ie hf c139
      obtain ⟨k140, hf⟩ := pm_if hf
      obtain ⟨v141, e142, hf⟩ := pm_bd hf
      rcases v141 with z144 | w143
      · have hf := pt_sl hf
        cases hf
        cases hi
        exact pw_t (by decide) K0 (show pw_F _ _ z144.2 from wfX16_number (pw_rf _) e142)
      have K145 := pw_t (by decide) K0 (show pw_F _ _ w143.2 from wfX16_number (pw_rf _) e142)
      have hf := pt_sr hf
      obtain ⟨y146, e147, hf⟩ := pm_lt hf
      cases hf
      exact ih.2.2 x0 x4 y146 w143.2 K145  hi
set_option maxHeartbeats 4000000 in
set_option maxRecDepth 100000 in
theorem wfX16_operands {h0 h : pm_H} (K0 : pw_F WX16_operands h0 h) {a0 : Nat} {p1 : Int32} {p2 : Int32} {p3 : Int32}  {r : ((Nat × pm_H) ⊕ pm_H)} (hf : fX16_operands h a0 p1 p2 p3 = some r) : pt_WV WX16_operands h0 r := by
  unfold fX16_operands at hf
  obtain ⟨v1, e2, hf⟩ := pm_lt hf
  by_cases c3 : v1 = 0
  · have hf := pm_it hf c3
    obtain ⟨v4, e5, hf⟩ := pm_lt hf
    by_cases c6 : v4 = 0
    · have hf := pm_it hf c6
      obtain ⟨v7, e8, hf⟩ := pm_lt hf
      by_cases c9 : v7 = 0
      · have hf := pm_it hf c9
        by_cases c10 : p1 = 17
        · have hf := pm_it hf c10
          obtain ⟨k11, hf⟩ := pm_if hf
          obtain ⟨v12, e13, hf⟩ := pm_bd hf
          rcases v12 with z15 | w14
          · have hf := pt_kl hf
            cases hf
            exact pw_t (by decide) K0 (show pw_F _ _ z15.2 from wfX16_number (pw_rf _) e13)
          have K16 := pw_t (by decide) K0 (show pw_F _ _ w14.2 from wfX16_number (pw_rf _) e13)
          have hf := pt_kr hf
          obtain ⟨k17, hf⟩ := pm_if hf
          obtain ⟨v18, e19, hf⟩ := pm_bd hf
          rcases v18 with z21 | w20
          · have hf := pt_kl hf
            cases hf
            exact pw_t (by decide) K16 (show pw_F _ _ z21.2 from wfX16_number (pw_rf _) e19)
          have K22 := pw_t (by decide) K16 (show pw_F _ _ w20.2 from wfX16_number (pw_rf _) e19)
          have hf := pt_kr hf
          cases hf
          exact K22
        · have hf := pm_ie hf c10
          by_cases c23 : p1 = 14
          · have hf := pm_it hf c23
            obtain ⟨k24, hf⟩ := pm_if hf
            obtain ⟨v25, e26, hf⟩ := pm_bd hf
            rcases v25 with z28 | w27
            · have hf := pt_kl hf
              cases hf
              exact pw_t (by decide) K0 (show pw_F _ _ z28.2 from wfX16_number (pw_rf _) e26)
            have K29 := pw_t (by decide) K0 (show pw_F _ _ w27.2 from wfX16_number (pw_rf _) e26)
            have hf := pt_kr hf
            by_cases c30 : p3 = 0
            · have hf := pm_it hf c30
              obtain ⟨n, hn⟩ := pm_lim_iter hf
              exact (wlX16_operands n).2.2 a0 w27.1 0 w27.2 K29  hn
            · have hf := pm_ie hf c30
              by_cases c31 : w27.1 ≤ 200
              · have hf := pm_it hf c31
                obtain ⟨k32, hf⟩ := pm_if hf
                obtain ⟨v33, e34, hf⟩ := pm_bd hf
                have K35 := pw_t (by decide) K29 (wfX16_exceeds (pw_rf _) e34)
                obtain ⟨n, hn⟩ := pm_lim_iter hf
                exact (wlX16_operands n).2.2 a0 w27.1 0 v33 K35  hn
              · have hf := pm_ie hf c31
                obtain ⟨k36, hf⟩ := pm_if hf
                obtain ⟨v37, e38, hf⟩ := pm_bd hf
                have K39 := pw_t (by decide) K29 (wfX16_exceeds (pw_rf _) e38)
                obtain ⟨n, hn⟩ := pm_lim_iter hf
                exact (wlX16_operands n).2.2 a0 w27.1 0 v37 K39  hn
          · have hf := pm_ie hf c23
            by_cases c40 : p1 = 28
            · have hf := pm_it hf c40
              obtain ⟨k41, hf⟩ := pm_if hf
              obtain ⟨v42, e43, hf⟩ := pm_bd hf
              rcases v42 with z45 | w44
              · have hf := pt_kl hf
                cases hf
                exact pw_t (by decide) K0 (show pw_F _ _ z45.2 from wfX16_number (pw_rf _) e43)
              have K46 := pw_t (by decide) K0 (show pw_F _ _ w44.2 from wfX16_number (pw_rf _) e43)
              have hf := pt_kr hf
              by_cases c47 : p3 = 0
              · have hf := pm_it hf c47
                obtain ⟨n, hn⟩ := pm_lim_iter hf
                exact (wlX16_operands n).2.1 a0 w44.1 0 w44.2 K46  hn
              · have hf := pm_ie hf c47
                by_cases c48 : w44.1 = 1
                · have hf := pm_it hf c48
                  obtain ⟨k49, hf⟩ := pm_if hf
                  obtain ⟨v50, e51, hf⟩ := pm_bd hf
                  have K52 := pw_t (by decide) K46 (wfX16_exceeds (pw_rf _) e51)
                  obtain ⟨n, hn⟩ := pm_lim_iter hf
                  exact (wlX16_operands n).2.1 a0 w44.1 0 v50 K52  hn
                · have hf := pm_ie hf c48
                  obtain ⟨k53, hf⟩ := pm_if hf
                  obtain ⟨v54, e55, hf⟩ := pm_bd hf
                  have K56 := pw_t (by decide) K46 (wfX16_exceeds (pw_rf _) e55)
                  obtain ⟨n, hn⟩ := pm_lim_iter hf
                  exact (wlX16_operands n).2.1 a0 w44.1 0 v54 K56  hn
            · have hf := pm_ie hf c40
              by_cases c57 : p1 = 63
              · have hf := pm_it hf c57
                obtain ⟨k58, hf⟩ := pm_if hf
                obtain ⟨v59, e60, hf⟩ := pm_bd hf
                rcases v59 with z62 | w61
                · have hf := pt_kl hf
                  cases hf
                  exact pw_t (by decide) K0 (show pw_F _ _ z62.2 from wfX16_small (pw_rf _) e60)
                have K63 := pw_t (by decide) K0 (show pw_F _ _ w61.2 from wfX16_small (pw_rf _) e60)
                have hf := pt_kr hf
                cases hf
                exact K63
              · have hf := pm_ie hf c57
                by_cases c64 : p1 = 64
                · have hf := pm_it hf c64
                  obtain ⟨k65, hf⟩ := pm_if hf
                  obtain ⟨v66, e67, hf⟩ := pm_bd hf
                  rcases v66 with z69 | w68
                  · have hf := pt_kl hf
                    cases hf
                    exact pw_t (by decide) K0 (show pw_F _ _ z69.2 from wfX16_small (pw_rf _) e67)
                  have K70 := pw_t (by decide) K0 (show pw_F _ _ w68.2 from wfX16_small (pw_rf _) e67)
                  have hf := pt_kr hf
                  cases hf
                  exact K70
                · have hf := pm_ie hf c64
                  by_cases c71 : p1 = 65
                  · have hf := pm_it hf c71
                    by_cases c72 : p1 = 65
                    · have hf := pm_it hf c72
                      obtain ⟨k73, hf⟩ := pm_if hf
                      obtain ⟨v74, e75, hf⟩ := pm_bd hf
                      rcases v74 with z77 | w76
                      · have hf := pt_kl hf
                        cases hf
                        exact pw_t (by decide) K0 (show pw_F _ _ z77.2 from wfX16_signed (pw_rf _) e75)
                      have K78 := pw_t (by decide) K0 (show pw_F _ _ w76.2 from wfX16_signed (pw_rf _) e75)
                      have hf := pt_kr hf
                      cases hf
                      exact K78
                    · have hf := pm_ie hf c72
                      obtain ⟨k79, hf⟩ := pm_if hf
                      obtain ⟨v80, e81, hf⟩ := pm_bd hf
                      rcases v80 with z83 | w82
                      · have hf := pt_kl hf
                        cases hf
                        exact pw_t (by decide) K0 (show pw_F _ _ z83.2 from wfX16_signed (pw_rf _) e81)
                      have K84 := pw_t (by decide) K0 (show pw_F _ _ w82.2 from wfX16_signed (pw_rf _) e81)
                      have hf := pt_kr hf
                      cases hf
                      exact K84
                  · have hf := pm_ie hf c71
                    by_cases c85 : p1 = 66
                    · have hf := pm_it hf c85
                      by_cases c86 : p1 = 65
                      · have hf := pm_it hf c86
                        obtain ⟨k87, hf⟩ := pm_if hf
                        obtain ⟨v88, e89, hf⟩ := pm_bd hf
                        rcases v88 with z91 | w90
                        · have hf := pt_kl hf
                          cases hf
                          exact pw_t (by decide) K0 (show pw_F _ _ z91.2 from wfX16_signed (pw_rf _) e89)
                        have K92 := pw_t (by decide) K0 (show pw_F _ _ w90.2 from wfX16_signed (pw_rf _) e89)
                        have hf := pt_kr hf
                        cases hf
                        exact K92
                      · have hf := pm_ie hf c86
                        obtain ⟨k93, hf⟩ := pm_if hf
                        obtain ⟨v94, e95, hf⟩ := pm_bd hf
                        rcases v94 with z97 | w96
                        · have hf := pt_kl hf
                          cases hf
                          exact pw_t (by decide) K0 (show pw_F _ _ z97.2 from wfX16_signed (pw_rf _) e95)
                        have K98 := pw_t (by decide) K0 (show pw_F _ _ w96.2 from wfX16_signed (pw_rf _) e95)
                        have hf := pt_kr hf
                        cases hf
                        exact K98
                    · have hf := pm_ie hf c85
                      by_cases c99 : p1 = 67
                      · have hf := pm_it hf c99
                        obtain ⟨n, hn⟩ := pm_lim_iter hf
                        exact (wlX16_operands n).1 a0 p1 0 h K0  hn
                      · have hf := pm_ie hf c99
                        by_cases c100 : p1 = 68
                        · have hf := pm_it hf c100
                          obtain ⟨n, hn⟩ := pm_lim_iter hf
                          exact (wlX16_operands n).1 a0 p1 0 h K0  hn
                        · have hf := pm_ie hf c100
                          by_cases c101 : p1 = 208
                          · have hf := pm_it hf c101
                            obtain ⟨k102, hf⟩ := pm_if hf
                            obtain ⟨v103, e104, hf⟩ := pm_bd hf
                            rcases v103 with z106 | w105
                            · have hf := pt_kl hf
                              cases hf
                              exact pw_t (by decide) K0 (show pw_F _ _ z106.2 from wfX16_referenceType (pw_rf _) e104)
                            have K107 := pw_t (by decide) K0 (show pw_F _ _ w105.2 from wfX16_referenceType (pw_rf _) e104)
                            have hf := pt_kr hf
                            cases hf
                            exact K107
                          · have hf := pm_ie hf c101
                            by_cases c108 : p1 = 252
                            · have hf := pm_it hf c108
                              obtain ⟨k109, hf⟩ := pm_if hf
                              obtain ⟨v110, e111, hf⟩ := pm_bd hf
                              rcases v110 with z113 | w112
                              · have hf := pt_kl hf
                                cases hf
                                exact pw_t (by decide) K0 (show pw_F _ _ z113.2 from wfX16_further (pw_rf _) e111)
                              have K114 := pw_t (by decide) K0 (show pw_F _ _ w112 from wfX16_further (pw_rf _) e111)
                              have hf := pt_kr hf
                              cases hf
                              exact K114
                            · have hf := pm_ie hf c108
                              obtain ⟨k115, hf⟩ := pm_if hf
                              obtain ⟨v116, e117, hf⟩ := pm_bd hf
                              rcases v116 with z119 | w118
                              · have hf := pt_kl hf
                                cases hf
                                exact pw_t (by decide) K0 (show pw_F _ _ z119.2 from wfX16_stops (pw_rf _) e117)
                              have K120 := pw_t (by decide) K0 (show pw_F _ _ w118 from wfX16_stops (pw_rf _) e117)
                              have hf := pt_kr hf
                              cases hf
                              exact K120
      · have hf := pm_ie hf c9
        obtain ⟨k121, hf⟩ := pm_if hf
        obtain ⟨v122, e123, hf⟩ := pm_bd hf
        rcases v122 with z125 | w124
        · have hf := pt_kl hf
          cases hf
          exact pw_t (by decide) K0 (show pw_F _ _ z125.2 from wfX16_number (pw_rf _) e123)
        have K126 := pw_t (by decide) K0 (show pw_F _ _ w124.2 from wfX16_number (pw_rf _) e123)
        have hf := pt_kr hf
        obtain ⟨k127, hf⟩ := pm_if hf
        obtain ⟨v128, e129, hf⟩ := pm_bd hf
        rcases v128 with z131 | w130
        · have hf := pt_kl hf
          cases hf
          exact pw_t (by decide) K126 (show pw_F _ _ z131.2 from wfX16_number (pw_rf _) e129)
        have K132 := pw_t (by decide) K126 (show pw_F _ _ w130.2 from wfX16_number (pw_rf _) e129)
        have hf := pt_kr hf
        cases hf
        exact K132
    · have hf := pm_ie hf c6
      obtain ⟨k133, hf⟩ := pm_if hf
      obtain ⟨v134, e135, hf⟩ := pm_bd hf
      rcases v134 with z137 | w136
      · have hf := pt_kl hf
        cases hf
        exact pw_t (by decide) K0 (show pw_F _ _ z137.2 from wfX16_number (pw_rf _) e135)
      have K138 := pw_t (by decide) K0 (show pw_F _ _ w136.2 from wfX16_number (pw_rf _) e135)
      have hf := pt_kr hf
      cases hf
      exact K138
  · have hf := pm_ie hf c3
    cases hf
    exact K0
abbrev WX16_operates : List Nat := [2055, 2056, 2071, 4352]
set_option maxHeartbeats 4000000 in
set_option maxRecDepth 100000 in
theorem wfX16_operates {h0 h : pm_H} (K0 : pw_F WX16_operates h0 h) {a0 : Nat} {p1 : Int32}  {r : ((Nat × pm_H) ⊕ pm_H)} (hf : fX16_operates h a0 p1 = some r) : pt_WV WX16_operates h0 r := by
  unfold fX16_operates at hf
  obtain ⟨v1, e2, hf⟩ := pm_lt hf
  obtain ⟨v3, e4, hf⟩ := pm_lt hf
  by_cases c5 : v3 = 0
  · have hf := pm_it hf c5
    obtain ⟨k6, hf⟩ := pm_if hf
    obtain ⟨v7, e8, hf⟩ := pm_bd hf
    rcases v7 with z10 | w9
    · have hf := pt_kl hf
      cases hf
      exact pw_t (by decide) K0 (show pw_F _ _ z10.2 from wfX16_takes (pw_rf _) e8)
    have K11 := pw_t (by decide) K0 (show pw_F _ _ w9 from wfX16_takes (pw_rf _) e8)
    have hf := pt_kr hf
    obtain ⟨v12, e13, hf⟩ := pm_lt hf
    obtain ⟨k14, hf⟩ := pm_if hf
    obtain ⟨v15, e16, hf⟩ := pm_bd hf
    rcases v15 with z18 | w17
    · have hf := pt_kl hf
      cases hf
      exact pw_t (by decide) K11 (show pw_F _ _ z18.2 from wfX16_put (pw_rf _) e16)
    have K19 := pw_t (by decide) K11 (show pw_F _ _ w17 from wfX16_put (pw_rf _) e16)
    have hf := pt_kr hf
    cases hf
    exact K19
  · have hf := pm_ie hf c5
    obtain ⟨k20, hf⟩ := pm_if hf
    obtain ⟨v21, e22, hf⟩ := pm_bd hf
    rcases v21 with z24 | w23
    · have hf := pt_kl hf
      cases hf
      exact pw_t (by decide) K0 (show pw_F _ _ z24.2 from wfX16_takes (pw_rf _) e22)
    have K25 := pw_t (by decide) K0 (show pw_F _ _ w23 from wfX16_takes (pw_rf _) e22)
    have hf := pt_kr hf
    obtain ⟨v26, e27, hf⟩ := pm_lt hf
    obtain ⟨k28, hf⟩ := pm_if hf
    obtain ⟨v29, e30, hf⟩ := pm_bd hf
    rcases v29 with z32 | w31
    · have hf := pt_kl hf
      cases hf
      exact pw_t (by decide) K25 (show pw_F _ _ z32.2 from wfX16_put (pw_rf _) e30)
    have K33 := pw_t (by decide) K25 (show pw_F _ _ w31 from wfX16_put (pw_rf _) e30)
    have hf := pt_kr hf
    cases hf
    exact K33
abbrev WX16_readsExports : List Nat := [1795, 1820, 2055, 2056, 2059, 2064, 4352, 4480]
set_option maxHeartbeats 4000000 in
set_option maxRecDepth 100000 in
theorem wlX16_readsExports {h0 : pm_H} {r : ((Nat × pm_H) ⊕ pm_H)} : ∀ n : Nat, (∀ (x0 : Nat) (x1 : Int64) (x3 : Int64) (h : pm_H), pw_F WX16_readsExports h0 h → pm_iter sX16_readsExports n (x0, x1, x3, h) = some r → pt_WV WX16_readsExports h0 r) := by
  intro n
  induction n with
  | zero => exact fun _ _ _ _ _ hf => (by cases hf)
  | succ n ih =>
    refine fun x0 x1 x3 h K0 hf => ?_
    obtain ⟨y, hf, hi⟩ := pm_iter_s hf
    have hf : tX16_readsExports_19 x0 x1 x3 h = some y := hf
    unfold tX16_readsExports_19 at hf
    by_cases c14 : x1 ≤ x3
    · have hf := pm_it hf c14
      cases hf
      cases hi
      exact K0
    · have hf := pm_ie hf c14
      obtain ⟨k15, hf⟩ := pm_if hf
      obtain ⟨v16, e17, hf⟩ := pm_bd hf
      rcases v16 with z19 | w18
      · have hf := pt_sl hf
        cases hf
        cases hi
        exact pw_t (by decide) K0 (show pw_F _ _ z19.2 from wfX16_name (pw_rf _) e17)
      have K20 := pw_t (by decide) K0 (show pw_F _ _ w18 from wfX16_name (pw_rf _) e17)
      have hf := pt_sr hf
      obtain ⟨k21, hf⟩ := pm_if hf
      obtain ⟨y22, e23, hf⟩ := pm_lt hf
      obtain ⟨y24, e25, hf⟩ := pm_lt hf
      obtain ⟨v26, e27, hf⟩ := pm_bd hf
      rcases v26 with z29 | w28
      · have hf := pt_sl hf
        cases hf
        cases hi
        exact pw_t (by decide) K20 (show pw_F _ _ z29.2 from wfX16_small (pw_rf _) e27)
      have K30 := pw_t (by decide) K20 (show pw_F _ _ w28.2 from wfX16_small (pw_rf _) e27)
      have hf := pt_sr hf
      obtain ⟨k31, hf⟩ := pm_if hf
      obtain ⟨v32, e33, hf⟩ := pm_bd hf
      rcases v32 with z35 | w34
      · have hf := pt_sl hf
        cases hf
        cases hi
        exact pw_t (by decide) K30 (show pw_F _ _ z35.2 from wfX16_number (pw_rf _) e33)
      have K36 := pw_t (by decide) K30 (show pw_F _ _ w34.2 from wfX16_number (pw_rf _) e33)
      have hf := pt_sr hf
      by_cases c37 : 64 ≤ x3
      · have hf := pm_it hf c37
        obtain ⟨y38, e39, hf⟩ := pm_lt hf
        cases hf
        exact ih x0 x1 y38 w34.2 K36  hi
      · have hf := pm_ie hf c37
        obtain ⟨k40, hf⟩ := pm_if hf
        obtain ⟨v41, e42, hf⟩ := pm_bd hf
        obtain ⟨k43, hf⟩ := pm_if hf
        obtain ⟨v44, e45, hf⟩ := pm_bd hf
        obtain ⟨k46, hf⟩ := pm_if hf
        obtain ⟨u47, hf⟩ := pm_if hf
        obtain ⟨v48, e49, hf⟩ := pm_bd hf
        obtain ⟨y50, e51, hf⟩ := pm_lt hf
        obtain ⟨k52, hf⟩ := pm_if hf
        have k52b := (congrFun (pkI rfl) v48).symm.trans k52
        obtain ⟨u53, hf⟩ := pm_if hf
        obtain ⟨v54, e55, hf⟩ := pm_bd hf
        obtain ⟨k56, hf⟩ := pm_if hf
        have k56b := (congrFun (pkI (pkI rfl)) v54).symm.trans k56
        obtain ⟨u57, hf⟩ := pm_if hf
        obtain ⟨v58, e59, hf⟩ := pm_bd hf
        obtain ⟨k60, hf⟩ := pm_if hf
        have k60b := (congrFun (pkI (pkI (pkI rfl))) v58).symm.trans k60
        obtain ⟨u61, hf⟩ := pm_if hf
        obtain ⟨y62, e63, hf⟩ := pm_lt hf
        cases hf
        exact ih x0 x1 y62 (pm_setL (pm_setI (pm_setI (pm_setI w34.2 v44 x3.toInt32.toNatClampNeg y22) v48 x3.toInt32.toNatClampNeg y50) v54 x3.toInt32.toNatClampNeg w28.1) v58 x3.toInt32.toNatClampNeg w34.1) (pw_aL (pw_aI (pw_aI (pw_aI K36 rfl k46 (by decide) (by decide)) (pkI rfl) k52b (by decide) (by decide)) (pkI (pkI rfl)) k56b (by decide) (by decide)) (pkI (pkI (pkI rfl))) k60b (by decide) (by decide))  hi
set_option maxHeartbeats 4000000 in
set_option maxRecDepth 100000 in
theorem wfX16_readsExports {h0 h : pm_H} (K0 : pw_F WX16_readsExports h0 h) {a0 : Nat}  {r : ((Nat × pm_H) ⊕ pm_H)} (hf : fX16_readsExports h a0 = some r) : pt_WV WX16_readsExports h0 r := by
  unfold fX16_readsExports at hf
  obtain ⟨k1, hf⟩ := pm_if hf
  obtain ⟨v2, e3, hf⟩ := pm_bd hf
  rcases v2 with z5 | w4
  · have hf := pt_kl hf
    cases hf
    exact pw_t (by decide) K0 (show pw_F _ _ z5.2 from wfX16_number (pw_rf _) e3)
  have K6 := pw_t (by decide) K0 (show pw_F _ _ w4.2 from wfX16_number (pw_rf _) e3)
  have hf := pt_kr hf
  obtain ⟨k7, hf⟩ := pm_if hf
  obtain ⟨v8, e9, hf⟩ := pm_bd hf
  obtain ⟨v10, e11, hf⟩ := pm_bd hf
  have K12 := pw_t (by decide) K6 (wfX16_kept (pw_rf _) e11)
  obtain ⟨k13, hf⟩ := pm_if hf
  obtain ⟨n, hn⟩ := pm_lim_iter hf
  exact (wlX16_readsExports n) a0 w4.1 0 (pm_setI v10.2 v8 28 v10.1) (pw_sI K12 rfl k13 (by decide))  hn
abbrev WX16_readsImports : List Nat := [1795, 1800, 2055, 2056, 2059, 2064, 2065, 2066, 4096, 4352, 4480]
set_option maxHeartbeats 4000000 in
set_option maxRecDepth 100000 in
theorem wlX16_readsImports {h0 : pm_H} {r : ((Nat × pm_H) ⊕ pm_H)} : ∀ n : Nat, (∀ (x0 : Nat) (x1 : Int64) (x3 : Int64) (h : pm_H), pw_F WX16_readsImports h0 h → pm_iter sX16_readsImports n (.inl (x0, x1, x3, h)) = some r → pt_WV WX16_readsImports h0 r) ∧ (∀ (x0 : Nat) (x1 : Int64) (x3 : Int64) (x5 : Int32) (x6 : Int64) (x8 : Int32) (h : pm_H), pw_F WX16_readsImports h0 h → pm_iter sX16_readsImports n (.inr (x0, x1, x3, x5, x6, x8, h)) = some r → pt_WV WX16_readsImports h0 r) := by
  intro n
  induction n with
  | zero => exact ⟨fun _ _ _ _ _ hf => (by cases hf), fun _ _ _ _ _ _ _ _ hf => (by cases hf)⟩
  | succ n ih =>
    refine ⟨fun x0 x1 x3 h K0 hf => ?_, ?_⟩
    · obtain ⟨y, hf, hi⟩ := pm_iter_s hf
      have hf : tX16_readsImports_19 x0 x1 x3 h = some y := hf
      unfold tX16_readsImports_19 at hf
      by_cases c14 : x1 ≤ x3
      · have hf := pm_it hf c14
        cases hf
        cases hi
        exact K0
      · have hf := pm_ie hf c14
        obtain ⟨k15, hf⟩ := pm_if hf
        obtain ⟨v16, e17, hf⟩ := pm_bd hf
        rcases v16 with z19 | w18
        · have hf := pt_sl hf
          cases hf
          cases hi
          exact pw_t (by decide) K0 (show pw_F _ _ z19.2 from wfX16_name (pw_rf _) e17)
        have K20 := pw_t (by decide) K0 (show pw_F _ _ w18 from wfX16_name (pw_rf _) e17)
        have hf := pt_sr hf
        obtain ⟨k21, hf⟩ := pm_if hf
        obtain ⟨v22, e23, hf⟩ := pm_bd hf
        rcases v22 with z25 | w24
        · have hf := pt_sl hf
          cases hf
          cases hi
          exact pw_t (by decide) K20 (show pw_F _ _ z25.2 from wfX16_name (pw_rf _) e23)
        have K26 := pw_t (by decide) K20 (show pw_F _ _ w24 from wfX16_name (pw_rf _) e23)
        have hf := pt_sr hf
        obtain ⟨k27, hf⟩ := pm_if hf
        obtain ⟨v28, e29, hf⟩ := pm_bd hf
        rcases v28 with z31 | w30
        · have hf := pt_sl hf
          cases hf
          cases hi
          exact pw_t (by decide) K26 (show pw_F _ _ z31.2 from wfX16_small (pw_rf _) e29)
        have K32 := pw_t (by decide) K26 (show pw_F _ _ w30.2 from wfX16_small (pw_rf _) e29)
        have hf := pt_sr hf
        obtain ⟨k33, hf⟩ := pm_if hf
        by_cases c34 : w30.1 = 0
        · have hf := pm_it hf c34
          obtain ⟨v35, e36, hf⟩ := pm_bd hf
          rcases v35 with z38 | w37
          · have hf := pt_sl hf
            cases hf
            cases hi
            exact pw_t (by decide) (pw_sL (pw_sL K32 rfl k33 (by decide)) (pkL rfl) k33 (by decide)) (show pw_F _ _ z38.2 from wfX16_number (pw_rf _) e36)
          have K39 := pw_t (by decide) (pw_sL (pw_sL K32 rfl k33 (by decide)) (pkL rfl) k33 (by decide)) (show pw_F _ _ w37.2 from wfX16_number (pw_rf _) e36)
          have hf := pt_sr hf
          cases hf
          exact ih.2 x0 x1 x3 w30.1 w37.1 0 w37.2 K39  hi
        · have hf := pm_ie hf c34
          by_cases c40 : w30.1 = 3
          · have hf := pm_it hf c40
            obtain ⟨v41, e42, hf⟩ := pm_bd hf
            rcases v41 with z44 | w43
            · have hf := pt_sl hf
              cases hf
              cases hi
              exact pw_t (by decide) (pw_sL (pw_sL K32 rfl k33 (by decide)) (pkL rfl) k33 (by decide)) (show pw_F _ _ z44.2 from wfX16_type (pw_rf _) e42)
            have K45 := pw_t (by decide) (pw_sL (pw_sL K32 rfl k33 (by decide)) (pkL rfl) k33 (by decide)) (show pw_F _ _ w43.2 from wfX16_type (pw_rf _) e42)
            have hf := pt_sr hf
            obtain ⟨k46, hf⟩ := pm_if hf
            obtain ⟨v47, e48, hf⟩ := pm_bd hf
            rcases v47 with z50 | w49
            · have hf := pt_sl hf
              cases hf
              cases hi
              exact pw_t (by decide) K45 (show pw_F _ _ z50.2 from wfX16_small (pw_rf _) e48)
            have K51 := pw_t (by decide) K45 (show pw_F _ _ w49.2 from wfX16_small (pw_rf _) e48)
            have hf := pt_sr hf
            by_cases c52 : w49.1 = 1
            · have hf := pm_it hf c52
              cases hf
              exact ih.2 x0 x1 x3 w30.1 w43.1.toInt64 1 w49.2 K51  hi
            · have hf := pm_ie hf c52
              cases hf
              exact ih.2 x0 x1 x3 w30.1 w43.1.toInt64 0 w49.2 K51  hi
          · have hf := pm_ie hf c40
            by_cases c53 : w30.1 = 1
            · have hf := pm_it hf c53
              obtain ⟨v54, e55, hf⟩ := pm_bd hf
              rcases v54 with z57 | w56
              · have hf := pt_sl hf
                cases hf
                cases hi
                exact pw_t (by decide) (pw_sL (pw_sL K32 rfl k33 (by decide)) (pkL rfl) k33 (by decide)) (show pw_F _ _ z57.2 from wfX16_referenceType (pw_rf _) e55)
              have K58 := pw_t (by decide) (pw_sL (pw_sL K32 rfl k33 (by decide)) (pkL rfl) k33 (by decide)) (show pw_F _ _ w56.2 from wfX16_referenceType (pw_rf _) e55)
              have hf := pt_sr hf
              obtain ⟨k59, hf⟩ := pm_if hf
              obtain ⟨v60, e61, hf⟩ := pm_bd hf
              rcases v60 with z63 | w62
              · have hf := pt_sl hf
                cases hf
                cases hi
                exact pw_t (by decide) K58 (show pw_F _ _ z63.2 from wfX16_limits (pw_rf _) e61)
              have K64 := pw_t (by decide) K58 (show pw_F _ _ w62 from wfX16_limits (pw_rf _) e61)
              have hf := pt_sr hf
              cases hf
              exact ih.2 x0 x1 x3 w30.1 w56.1.toInt64 0 w62 K64  hi
            · have hf := pm_ie hf c53
              obtain ⟨v65, e66, hf⟩ := pm_bd hf
              rcases v65 with z68 | w67
              · have hf := pt_sl hf
                cases hf
                cases hi
                exact pw_t (by decide) (pw_sL (pw_sL K32 rfl k33 (by decide)) (pkL rfl) k33 (by decide)) (show pw_F _ _ z68.2 from wfX16_limits (pw_rf _) e66)
              have K69 := pw_t (by decide) (pw_sL (pw_sL K32 rfl k33 (by decide)) (pkL rfl) k33 (by decide)) (show pw_F _ _ w67 from wfX16_limits (pw_rf _) e66)
              have hf := pt_sr hf
              cases hf
              exact ih.2 x0 x1 x3 w30.1 0 0 w67 K69  hi
    refine fun x0 x1 x3 x5 x6 x8 h K0 hf => ?_
    obtain ⟨y, hf, hi⟩ := pm_iter_s hf
    have hf : tX16_readsImports_125 x0 x1 x3 x5 x6 x8 h = some y := hf
    unfold tX16_readsImports_125 at hf
    by_cases c70 : 64 ≤ x3
    · have hf := pm_it hf c70
      obtain ⟨y71, e72, hf⟩ := pm_lt hf
      cases hf
      exact ih.1 x0 x1 y71 h K0  hi
    · have hf := pm_ie hf c70
      obtain ⟨k73, hf⟩ := pm_if hf
      obtain ⟨v74, e75, hf⟩ := pm_bd hf
      obtain ⟨k76, hf⟩ := pm_if hf
      obtain ⟨v77, e78, hf⟩ := pm_bd hf
      obtain ⟨k79, hf⟩ := pm_if hf
      obtain ⟨u80, hf⟩ := pm_if hf
      obtain ⟨v81, e82, hf⟩ := pm_bd hf
      obtain ⟨k83, hf⟩ := pm_if hf
      have k83b := (congrFun (pkI rfl) v81).symm.trans k83
      obtain ⟨u84, hf⟩ := pm_if hf
      obtain ⟨v85, e86, hf⟩ := pm_bd hf
      obtain ⟨y87, e88, hf⟩ := pm_lt hf
      obtain ⟨k89, hf⟩ := pm_if hf
      have k89b := (congrFun (pkL (pkI rfl)) v85).symm.trans k89
      obtain ⟨u90, hf⟩ := pm_if hf
      obtain ⟨v91, e92, hf⟩ := pm_bd hf
      obtain ⟨y93, e94, hf⟩ := pm_lt hf
      obtain ⟨k95, hf⟩ := pm_if hf
      have k95b := (congrFun (pkL (pkL (pkI rfl))) v91).symm.trans k95
      obtain ⟨u96, hf⟩ := pm_if hf
      obtain ⟨v97, e98, hf⟩ := pm_bd hf
      obtain ⟨k99, hf⟩ := pm_if hf
      have k99b := (congrFun (pkL (pkL (pkL (pkI rfl)))) v97).symm.trans k99
      obtain ⟨u100, hf⟩ := pm_if hf
      obtain ⟨y101, e102, hf⟩ := pm_lt hf
      cases hf
      exact ih.1 x0 x1 y101 (pm_setI (pm_setL (pm_setL (pm_setL (pm_setI h v77 x3.toInt32.toNatClampNeg x5) v81 x3.toInt32.toNatClampNeg x6) v85 x3.toInt32.toNatClampNeg y87) v91 x3.toInt32.toNatClampNeg y93) v97 x3.toInt32.toNatClampNeg (vp_nar .boolean x8)) (pw_aI (pw_aL (pw_aL (pw_aL (pw_aI K0 rfl k79 (by decide) (by decide)) (pkI rfl) k83b (by decide) (by decide)) (pkL (pkI rfl)) k89b (by decide) (by decide)) (pkL (pkL (pkI rfl))) k95b (by decide) (by decide)) (pkL (pkL (pkL (pkI rfl)))) k99b (by decide) (by decide))  hi
set_option maxHeartbeats 4000000 in
set_option maxRecDepth 100000 in
theorem wfX16_readsImports {h0 h : pm_H} (K0 : pw_F WX16_readsImports h0 h) {a0 : Nat}  {r : ((Nat × pm_H) ⊕ pm_H)} (hf : fX16_readsImports h a0 = some r) : pt_WV WX16_readsImports h0 r := by
  unfold fX16_readsImports at hf
  obtain ⟨k1, hf⟩ := pm_if hf
  obtain ⟨v2, e3, hf⟩ := pm_bd hf
  rcases v2 with z5 | w4
  · have hf := pt_kl hf
    cases hf
    exact pw_t (by decide) K0 (show pw_F _ _ z5.2 from wfX16_number (pw_rf _) e3)
  have K6 := pw_t (by decide) K0 (show pw_F _ _ w4.2 from wfX16_number (pw_rf _) e3)
  have hf := pt_kr hf
  obtain ⟨k7, hf⟩ := pm_if hf
  obtain ⟨v8, e9, hf⟩ := pm_bd hf
  obtain ⟨v10, e11, hf⟩ := pm_bd hf
  have K12 := pw_t (by decide) K6 (wfX16_kept (pw_rf _) e11)
  obtain ⟨k13, hf⟩ := pm_if hf
  obtain ⟨n, hn⟩ := pm_lim_iter hf
  exact (wlX16_readsImports n).1 a0 w4.1 0 (pm_setI v10.2 v8 8 v10.1) (pw_sI K12 rfl k13 (by decide))  hn
abbrev WX16_readsMemories : List Nat := [1795, 1813, 2055, 2056, 2059, 2065, 2066, 4480]
set_option maxHeartbeats 4000000 in
set_option maxRecDepth 100000 in
theorem wlX16_readsMemories {h0 : pm_H} {r : ((Nat × pm_H) ⊕ pm_H)} : ∀ n : Nat, (∀ (x0 : Nat) (x1 : Int64) (x3 : Int64) (h : pm_H), pw_F WX16_readsMemories h0 h → pm_iter sX16_readsMemories n (x0, x1, x3, h) = some r → pt_WV WX16_readsMemories h0 r) := by
  intro n
  induction n with
  | zero => exact fun _ _ _ _ _ hf => (by cases hf)
  | succ n ih =>
    refine fun x0 x1 x3 h K0 hf => ?_
    obtain ⟨y, hf, hi⟩ := pm_iter_s hf
    have hf : tX16_readsMemories_19 x0 x1 x3 h = some y := hf
    unfold tX16_readsMemories_19 at hf
    by_cases c14 : x1 ≤ x3
    · have hf := pm_it hf c14
      cases hf
      cases hi
      exact K0
    · have hf := pm_ie hf c14
      obtain ⟨k15, hf⟩ := pm_if hf
      obtain ⟨v16, e17, hf⟩ := pm_bd hf
      rcases v16 with z19 | w18
      · have hf := pt_sl hf
        cases hf
        cases hi
        exact pw_t (by decide) K0 (show pw_F _ _ z19.2 from wfX16_limits (pw_rf _) e17)
      have K20 := pw_t (by decide) K0 (show pw_F _ _ w18 from wfX16_limits (pw_rf _) e17)
      have hf := pt_sr hf
      by_cases c21 : 64 ≤ x3
      · have hf := pm_it hf c21
        obtain ⟨y22, e23, hf⟩ := pm_lt hf
        cases hf
        exact ih x0 x1 y22 w18 K20  hi
      · have hf := pm_ie hf c21
        obtain ⟨k24, hf⟩ := pm_if hf
        obtain ⟨v25, e26, hf⟩ := pm_bd hf
        obtain ⟨k27, hf⟩ := pm_if hf
        obtain ⟨v28, e29, hf⟩ := pm_bd hf
        obtain ⟨y30, e31, hf⟩ := pm_lt hf
        obtain ⟨k32, hf⟩ := pm_if hf
        obtain ⟨u33, hf⟩ := pm_if hf
        obtain ⟨v34, e35, hf⟩ := pm_bd hf
        obtain ⟨y36, e37, hf⟩ := pm_lt hf
        obtain ⟨k38, hf⟩ := pm_if hf
        have k38b := (congrFun (pkL rfl) v34).symm.trans k38
        obtain ⟨u39, hf⟩ := pm_if hf
        obtain ⟨y40, e41, hf⟩ := pm_lt hf
        cases hf
        exact ih x0 x1 y40 (pm_setL (pm_setL w18 v28 x3.toInt32.toNatClampNeg y30) v34 x3.toInt32.toNatClampNeg y36) (pw_aL (pw_aL K20 rfl k32 (by decide) (by decide)) (pkL rfl) k38b (by decide) (by decide))  hi
set_option maxHeartbeats 4000000 in
set_option maxRecDepth 100000 in
theorem wfX16_readsMemories {h0 h : pm_H} (K0 : pw_F WX16_readsMemories h0 h) {a0 : Nat}  {r : ((Nat × pm_H) ⊕ pm_H)} (hf : fX16_readsMemories h a0 = some r) : pt_WV WX16_readsMemories h0 r := by
  unfold fX16_readsMemories at hf
  obtain ⟨k1, hf⟩ := pm_if hf
  obtain ⟨v2, e3, hf⟩ := pm_bd hf
  rcases v2 with z5 | w4
  · have hf := pt_kl hf
    cases hf
    exact pw_t (by decide) K0 (show pw_F _ _ z5.2 from wfX16_number (pw_rf _) e3)
  have K6 := pw_t (by decide) K0 (show pw_F _ _ w4.2 from wfX16_number (pw_rf _) e3)
  have hf := pt_kr hf
  obtain ⟨k7, hf⟩ := pm_if hf
  obtain ⟨v8, e9, hf⟩ := pm_bd hf
  obtain ⟨v10, e11, hf⟩ := pm_bd hf
  have K12 := pw_t (by decide) K6 (wfX16_kept (pw_rf _) e11)
  obtain ⟨k13, hf⟩ := pm_if hf
  obtain ⟨n, hn⟩ := pm_lim_iter hf
  exact (wlX16_readsMemories n) a0 w4.1 0 (pm_setI v10.2 v8 21 v10.1) (pw_sI K12 rfl k13 (by decide))  hn
abbrev WX16_readsTables : List Nat := [1795, 1809, 2055, 2056, 2059, 2065, 2066, 4352, 4480]
set_option maxHeartbeats 4000000 in
set_option maxRecDepth 100000 in
theorem wlX16_readsTables {h0 : pm_H} {r : ((Nat × pm_H) ⊕ pm_H)} : ∀ n : Nat, (∀ (x0 : Nat) (x1 : Int64) (x3 : Int64) (h : pm_H), pw_F WX16_readsTables h0 h → pm_iter sX16_readsTables n (x0, x1, x3, h) = some r → pt_WV WX16_readsTables h0 r) := by
  intro n
  induction n with
  | zero => exact fun _ _ _ _ _ hf => (by cases hf)
  | succ n ih =>
    refine fun x0 x1 x3 h K0 hf => ?_
    obtain ⟨y, hf, hi⟩ := pm_iter_s hf
    have hf : tX16_readsTables_19 x0 x1 x3 h = some y := hf
    unfold tX16_readsTables_19 at hf
    by_cases c14 : x1 ≤ x3
    · have hf := pm_it hf c14
      cases hf
      cases hi
      exact K0
    · have hf := pm_ie hf c14
      obtain ⟨k15, hf⟩ := pm_if hf
      obtain ⟨v16, e17, hf⟩ := pm_bd hf
      rcases v16 with z19 | w18
      · have hf := pt_sl hf
        cases hf
        cases hi
        exact pw_t (by decide) K0 (show pw_F _ _ z19.2 from wfX16_referenceType (pw_rf _) e17)
      have K20 := pw_t (by decide) K0 (show pw_F _ _ w18.2 from wfX16_referenceType (pw_rf _) e17)
      have hf := pt_sr hf
      obtain ⟨k21, hf⟩ := pm_if hf
      obtain ⟨v22, e23, hf⟩ := pm_bd hf
      rcases v22 with z25 | w24
      · have hf := pt_sl hf
        cases hf
        cases hi
        exact pw_t (by decide) K20 (show pw_F _ _ z25.2 from wfX16_limits (pw_rf _) e23)
      have K26 := pw_t (by decide) K20 (show pw_F _ _ w24 from wfX16_limits (pw_rf _) e23)
      have hf := pt_sr hf
      by_cases c27 : 64 ≤ x3
      · have hf := pm_it hf c27
        obtain ⟨y28, e29, hf⟩ := pm_lt hf
        cases hf
        exact ih x0 x1 y28 w24 K26  hi
      · have hf := pm_ie hf c27
        obtain ⟨k30, hf⟩ := pm_if hf
        obtain ⟨v31, e32, hf⟩ := pm_bd hf
        obtain ⟨k33, hf⟩ := pm_if hf
        obtain ⟨v34, e35, hf⟩ := pm_bd hf
        obtain ⟨k36, hf⟩ := pm_if hf
        obtain ⟨u37, hf⟩ := pm_if hf
        obtain ⟨v38, e39, hf⟩ := pm_bd hf
        obtain ⟨y40, e41, hf⟩ := pm_lt hf
        obtain ⟨k42, hf⟩ := pm_if hf
        have k42b := (congrFun (pkI rfl) v38).symm.trans k42
        obtain ⟨u43, hf⟩ := pm_if hf
        obtain ⟨v44, e45, hf⟩ := pm_bd hf
        obtain ⟨y46, e47, hf⟩ := pm_lt hf
        obtain ⟨k48, hf⟩ := pm_if hf
        have k48b := (congrFun (pkL (pkI rfl)) v44).symm.trans k48
        obtain ⟨u49, hf⟩ := pm_if hf
        obtain ⟨y50, e51, hf⟩ := pm_lt hf
        cases hf
        exact ih x0 x1 y50 (pm_setL (pm_setL (pm_setI w24 v34 x3.toInt32.toNatClampNeg w18.1) v38 x3.toInt32.toNatClampNeg y40) v44 x3.toInt32.toNatClampNeg y46) (pw_aL (pw_aL (pw_aI K26 rfl k36 (by decide) (by decide)) (pkI rfl) k42b (by decide) (by decide)) (pkL (pkI rfl)) k48b (by decide) (by decide))  hi
set_option maxHeartbeats 4000000 in
set_option maxRecDepth 100000 in
theorem wfX16_readsTables {h0 h : pm_H} (K0 : pw_F WX16_readsTables h0 h) {a0 : Nat}  {r : ((Nat × pm_H) ⊕ pm_H)} (hf : fX16_readsTables h a0 = some r) : pt_WV WX16_readsTables h0 r := by
  unfold fX16_readsTables at hf
  obtain ⟨k1, hf⟩ := pm_if hf
  obtain ⟨v2, e3, hf⟩ := pm_bd hf
  rcases v2 with z5 | w4
  · have hf := pt_kl hf
    cases hf
    exact pw_t (by decide) K0 (show pw_F _ _ z5.2 from wfX16_number (pw_rf _) e3)
  have K6 := pw_t (by decide) K0 (show pw_F _ _ w4.2 from wfX16_number (pw_rf _) e3)
  have hf := pt_kr hf
  obtain ⟨k7, hf⟩ := pm_if hf
  obtain ⟨v8, e9, hf⟩ := pm_bd hf
  obtain ⟨v10, e11, hf⟩ := pm_bd hf
  have K12 := pw_t (by decide) K6 (wfX16_kept (pw_rf _) e11)
  obtain ⟨k13, hf⟩ := pm_if hf
  obtain ⟨n, hn⟩ := pm_lim_iter hf
  exact (wlX16_readsTables n) a0 w4.1 0 (pm_setI v10.2 v8 17 v10.1) (pw_sI K12 rfl k13 (by decide))  hn
abbrev WX16_readsTypes : List Nat := [1795, 1796, 2055, 2056, 2059, 4352]
set_option maxHeartbeats 4000000 in
set_option maxRecDepth 100000 in
theorem wlX16_readsTypes {h0 : pm_H} {r : ((Nat × pm_H) ⊕ pm_H)} : ∀ n : Nat, (∀ (x0 : Nat) (x1 : Int64) (x3 : Int64) (h : pm_H), pw_F WX16_readsTypes h0 h → pm_iter sX16_readsTypes n (.inl (x0, x1, x3, h)) = some r → pt_WV WX16_readsTypes h0 r) ∧ (∀ (x0 : Nat) (x1 : Int64) (x3 : Int64) (h : pm_H), pw_F WX16_readsTypes h0 h → pm_iter sX16_readsTypes n (.inr (.inl (x0, x1, x3, h))) = some r → pt_WV WX16_readsTypes h0 r) ∧ (∀ (x0 : Nat) (x1 : Int64) (x3 : Int64) (s0 : Int32) (h : pm_H), pw_F WX16_readsTypes h0 h → pm_iter sX16_readsTypes n (.inr (.inr (.inl (x0, x1, x3, s0, h)))) = some r → pt_WV WX16_readsTypes h0 r) ∧ (∀ (x0 : Nat) (x1 : Int64) (x3 : Int64) (x6 : Int32) (s0 : Int32) (s1 : Nat) (h : pm_H), pw_F WX16_readsTypes h0 h → pm_iter sX16_readsTypes n (.inr (.inr (.inr (x0, x1, x3, x6, s0, s1, h)))) = some r → pt_WV WX16_readsTypes h0 r) := by
  intro n
  induction n with
  | zero => exact ⟨fun _ _ _ _ _ hf => (by cases hf), fun _ _ _ _ _ hf => (by cases hf), fun _ _ _ _ _ _ hf => (by cases hf), fun _ _ _ _ _ _ _ _ hf => (by cases hf)⟩
  | succ n ih =>
    refine ⟨fun x0 x1 x3 h K0 hf => ?_, ?_⟩
    · obtain ⟨y, hf, hi⟩ := pm_iter_s hf
      have hf : tX16_readsTypes_19 x0 x1 x3 h = some y := hf
      unfold tX16_readsTypes_19 at hf
      by_cases c14 : x1 ≤ x3
      · have hf := pm_it hf c14
        cases hf
        cases hi
        exact K0
      · have hf := pm_ie hf c14
        obtain ⟨k15, hf⟩ := pm_if hf
        obtain ⟨v16, e17, hf⟩ := pm_bd hf
        rcases v16 with z19 | w18
        · have hf := pt_sl hf
          cases hf
          cases hi
          exact pw_t (by decide) K0 (show pw_F _ _ z19.2 from wfX16_next (pw_rf _) e17)
        have K20 := pw_t (by decide) K0 (show pw_F _ _ w18.2 from wfX16_next (pw_rf _) e17)
        have hf := pt_sr hf
        by_cases c21 : w18.1 = 96
        · have hf := pm_it hf c21
          cases hf
          exact ih.2.1 x0 x1 x3 w18.2 K20  hi
        · have hf := pm_ie hf c21
          obtain ⟨k22, hf⟩ := pm_if hf
          obtain ⟨v23, e24, hf⟩ := pm_bd hf
          rcases v23 with z26 | w25
          · have hf := pt_sl hf
            cases hf
            cases hi
            exact pw_t (by decide) K20 (show pw_F _ _ z26.2 from wfX16_stops (pw_rf _) e24)
          have K27 := pw_t (by decide) K20 (show pw_F _ _ w25 from wfX16_stops (pw_rf _) e24)
          have hf := pt_sr hf
          cases hf
          exact ih.2.1 x0 x1 x3 w25 K27  hi
    refine ⟨fun x0 x1 x3 h K0 hf => ?_, ?_⟩
    · obtain ⟨y, hf, hi⟩ := pm_iter_s hf
      have hf : tX16_readsTypes_50 x0 x1 x3 h = some y := hf
      unfold tX16_readsTypes_50 at hf
      by_cases c28 : 64 ≤ x3
      · have hf := pm_it hf c28
        cases hf
        exact ih.2.2.1 x0 x1 x3 (-1) h K0  hi
      · have hf := pm_ie hf c28
        cases hf
        exact ih.2.2.1 x0 x1 x3 x3.toInt32 h K0  hi
    refine ⟨fun x0 x1 x3 s0 h K0 hf => ?_, ?_⟩
    · obtain ⟨y, hf, hi⟩ := pm_iter_s hf
      have hf : tX16_readsTypes_64 x0 x1 x3 s0 h = some y := hf
      unfold tX16_readsTypes_64 at hf
      by_cases c29 : 0 ≤ s0
      · have hf := pm_it hf c29
        cases hf
        exact ih.2.2.2 x0 x1 x3 s0 (32 * s0) x0 h K0  hi
      · have hf := pm_ie hf c29
        cases hf
        exact ih.2.2.2 x0 x1 x3 s0 (-1) x0 h K0  hi
    refine fun x0 x1 x3 x6 s0 s1 h K0 hf => ?_
    obtain ⟨y, hf, hi⟩ := pm_iter_s hf
    have hf : tX16_readsTypes_81 x0 x1 x3 x6 s0 s1 h = some y := hf
    unfold tX16_readsTypes_81 at hf
    obtain ⟨k30, hf⟩ := pm_if hf
    obtain ⟨v31, e32, hf⟩ := pm_bd hf
    rcases v31 with z34 | w33
    · have hf := pt_sl hf
      cases hf
      cases hi
      exact pw_t (by decide) K0 (show pw_F _ _ z34.2 from wfX16_typeRow (pw_rf _) e32)
    have K35 := pw_t (by decide) K0 (show pw_F _ _ w33.2 from wfX16_typeRow (pw_rf _) e32)
    have hf := pt_sr hf
    by_cases c36 : 0 ≤ x6
    · have hf := pm_it hf c36
      obtain ⟨k37, hf⟩ := pm_if hf
      obtain ⟨v38, e39, hf⟩ := pm_bd hf
      rcases v38 with z41 | w40
      · have hf := pt_sl hf
        cases hf
        cases hi
        exact pw_t (by decide) K35 (show pw_F _ _ z41.2 from wfX16_typeRow (pw_rf _) e39)
      have K42 := pw_t (by decide) K35 (show pw_F _ _ w40.2 from wfX16_typeRow (pw_rf _) e39)
      have hf := pt_sr hf
      by_cases c43 : x6 < 0
      · have hf := pm_it hf c43
        obtain ⟨y44, e45, hf⟩ := pm_lt hf
        cases hf
        exact ih.1 x0 x1 y44 w40.2 K42  hi
      · have hf := pm_ie hf c43
        obtain ⟨k46, hf⟩ := pm_if hf
        obtain ⟨v47, e48, hf⟩ := pm_bd hf
        obtain ⟨k49, hf⟩ := pm_if hf
        obtain ⟨v50, e51, hf⟩ := pm_bd hf
        obtain ⟨k52, hf⟩ := pm_if hf
        obtain ⟨u53, hf⟩ := pm_if hf
        obtain ⟨v54, e55, hf⟩ := pm_bd hf
        obtain ⟨k56, hf⟩ := pm_if hf
        have k56b := (congrFun (pkI rfl) v54).symm.trans k56
        obtain ⟨u57, hf⟩ := pm_if hf
        obtain ⟨y58, e59, hf⟩ := pm_lt hf
        cases hf
        exact ih.1 x0 x1 y58 (pm_setI (pm_setI w40.2 v50 x6.toNatClampNeg w33.1) v54 x6.toNatClampNeg w40.1) (pw_aI (pw_aI K42 rfl k52 (by decide) (by decide)) (pkI rfl) k56b (by decide) (by decide))  hi
    · have hf := pm_ie hf c36
      obtain ⟨k60, hf⟩ := pm_if hf
      obtain ⟨v61, e62, hf⟩ := pm_bd hf
      rcases v61 with z64 | w63
      · have hf := pt_sl hf
        cases hf
        cases hi
        exact pw_t (by decide) K35 (show pw_F _ _ z64.2 from wfX16_typeRow (pw_rf _) e62)
      have K65 := pw_t (by decide) K35 (show pw_F _ _ w63.2 from wfX16_typeRow (pw_rf _) e62)
      have hf := pt_sr hf
      by_cases c66 : x6 < 0
      · have hf := pm_it hf c66
        obtain ⟨y67, e68, hf⟩ := pm_lt hf
        cases hf
        exact ih.1 x0 x1 y67 w63.2 K65  hi
      · have hf := pm_ie hf c66
        obtain ⟨k69, hf⟩ := pm_if hf
        obtain ⟨v70, e71, hf⟩ := pm_bd hf
        obtain ⟨k72, hf⟩ := pm_if hf
        obtain ⟨v73, e74, hf⟩ := pm_bd hf
        obtain ⟨k75, hf⟩ := pm_if hf
        obtain ⟨u76, hf⟩ := pm_if hf
        obtain ⟨v77, e78, hf⟩ := pm_bd hf
        obtain ⟨k79, hf⟩ := pm_if hf
        have k79b := (congrFun (pkI rfl) v77).symm.trans k79
        obtain ⟨u80, hf⟩ := pm_if hf
        obtain ⟨y81, e82, hf⟩ := pm_lt hf
        cases hf
        exact ih.1 x0 x1 y81 (pm_setI (pm_setI w63.2 v73 x6.toNatClampNeg w33.1) v77 x6.toNatClampNeg w63.1) (pw_aI (pw_aI K65 rfl k75 (by decide) (by decide)) (pkI rfl) k79b (by decide) (by decide))  hi
set_option maxHeartbeats 4000000 in
set_option maxRecDepth 100000 in
theorem wfX16_readsTypes {h0 h : pm_H} (K0 : pw_F WX16_readsTypes h0 h) {a0 : Nat}  {r : ((Nat × pm_H) ⊕ pm_H)} (hf : fX16_readsTypes h a0 = some r) : pt_WV WX16_readsTypes h0 r := by
  unfold fX16_readsTypes at hf
  obtain ⟨k1, hf⟩ := pm_if hf
  obtain ⟨v2, e3, hf⟩ := pm_bd hf
  rcases v2 with z5 | w4
  · have hf := pt_kl hf
    cases hf
    exact pw_t (by decide) K0 (show pw_F _ _ z5.2 from wfX16_number (pw_rf _) e3)
  have K6 := pw_t (by decide) K0 (show pw_F _ _ w4.2 from wfX16_number (pw_rf _) e3)
  have hf := pt_kr hf
  obtain ⟨k7, hf⟩ := pm_if hf
  obtain ⟨v8, e9, hf⟩ := pm_bd hf
  obtain ⟨v10, e11, hf⟩ := pm_bd hf
  have K12 := pw_t (by decide) K6 (wfX16_kept (pw_rf _) e11)
  obtain ⟨k13, hf⟩ := pm_if hf
  obtain ⟨n, hn⟩ := pm_lim_iter hf
  exact (wlX16_readsTypes n).1 a0 w4.1 0 (pm_setI v10.2 v8 4 v10.1) (pw_sI K12 rfl k13 (by decide))  hn
