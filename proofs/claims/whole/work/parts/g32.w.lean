abbrev WX1_other : List Nat := [2, 128, 129, 134, 4352]
set_option maxHeartbeats 4000000 in
set_option maxRecDepth 100000 in
theorem wfX1_other_b124 {h0 h : pm_H} (K0 : pw_F WX1_other h0 h) {x0 : Nat} {x1 : Int32}  {r : pm_H} (hf : fX1_other_b124 h x0 x1 = some r) : pw_F WX1_other h0 r := by
  unfold fX1_other_b124 at hf
  by_cases c38 : x1 = 37
  · have hf := pm_it hf c38
    obtain ⟨k39, hf⟩ := pm_if hf
    obtain ⟨v40, e41, hf⟩ := pm_bd hf
    have K42 := pw_t (by decide) K0 (wfX1_tableAccess (pw_rf _) e41)
    cases hf
    exact K42
  · have hf := pm_ie hf c38
    by_cases c43 : x1 = 38
    · have hf := pm_it hf c43
      obtain ⟨k44, hf⟩ := pm_if hf
      obtain ⟨v45, e46, hf⟩ := pm_bd hf
      have K47 := pw_t (by decide) K0 (wfX1_tableAccess (pw_rf _) e46)
      cases hf
      exact K47
    · have hf := pm_ie hf c43
      by_cases c48 : x1 < 312
      · have hf := pm_it hf c48
        obtain ⟨k49, hf⟩ := pm_if hf
        obtain ⟨v50, e51, hf⟩ := pm_bd hf
        have K52 := pw_t (by decide) K0 (wfX1_stretch (pw_rf _) e51)
        cases hf
        exact K52
      · have hf := pm_ie hf c48
        obtain ⟨k53, hf⟩ := pm_if hf
        obtain ⟨v54, e55, hf⟩ := pm_bd hf
        have K56 := pw_t (by decide) K0 (wfX1_tableAccess (pw_rf _) e55)
        cases hf
        exact K56
set_option maxHeartbeats 4000000 in
set_option maxRecDepth 100000 in
theorem wfX1_other_b102 {h0 h : pm_H} (K0 : pw_F WX1_other h0 h) {x0 : Nat} {x1 : Int32}  {r : pm_H} (hf : fX1_other_b102 h x0 x1 = some r) : pw_F WX1_other h0 r := by
  unfold fX1_other_b102 at hf
  by_cases c32 : x1 < 208
  · have hf := pm_it hf c32
    exact wfX1_other_b124 K0  hf
  · have hf := pm_ie hf c32
    by_cases c33 : 210 < x1
    · have hf := pm_it hf c33
      exact wfX1_other_b124 K0  hf
    · have hf := pm_ie hf c33
      obtain ⟨k34, hf⟩ := pm_if hf
      obtain ⟨v35, e36, hf⟩ := pm_bd hf
      have K37 := pw_t (by decide) K0 (wfX1_reference (pw_rf _) e36)
      cases hf
      exact K37
set_option maxHeartbeats 4000000 in
set_option maxRecDepth 100000 in
theorem wfX1_other_b69 {h0 h : pm_H} (K0 : pw_F WX1_other h0 h) {x0 : Nat} {x1 : Int32}  {r : pm_H} (hf : fX1_other_b69 h x0 x1 = some r) : pw_F WX1_other h0 r := by
  unfold fX1_other_b69 at hf
  by_cases c23 : x1 < 65
  · have hf := pm_it hf c23
    exact wfX1_other_b102 K0  hf
  · have hf := pm_ie hf c23
    by_cases c24 : 68 < x1
    · have hf := pm_it hf c24
      exact wfX1_other_b102 K0  hf
    · have hf := pm_ie hf c24
      obtain ⟨k25, hf⟩ := pm_if hf
      obtain ⟨v26, e27, hf⟩ := pm_bd hf
      obtain ⟨k28, hf⟩ := pm_if hf
      obtain ⟨v29, e30, hf⟩ := pm_bd hf
      have K31 := pw_t (by decide) K0 (wfX1_constantIn (pw_rf _) e30)
      cases hf
      exact K31
set_option maxHeartbeats 4000000 in
set_option maxRecDepth 100000 in
theorem wfX1_other_b48 {h0 h : pm_H} (K0 : pw_F WX1_other h0 h) {x0 : Nat} {x1 : Int32}  {r : pm_H} (hf : fX1_other_b48 h x0 x1 = some r) : pw_F WX1_other h0 r := by
  unfold fX1_other_b48 at hf
  by_cases c17 : x1 < 69
  · have hf := pm_it hf c17
    exact wfX1_other_b69 K0  hf
  · have hf := pm_ie hf c17
    by_cases c18 : 208 ≤ x1
    · have hf := pm_it hf c18
      exact wfX1_other_b69 K0  hf
    · have hf := pm_ie hf c18
      obtain ⟨k19, hf⟩ := pm_if hf
      obtain ⟨v20, e21, hf⟩ := pm_bd hf
      have K22 := pw_t (by decide) K0 (wfX1_operator (pw_rf _) e21)
      cases hf
      exact K22
set_option maxHeartbeats 4000000 in
set_option maxRecDepth 100000 in
theorem wfX1_other {h0 h : pm_H} (K0 : pw_F WX1_other h0 h) {a0 : Nat} {p1 : Int32}  {r : pm_H} (hf : fX1_other h a0 p1 = some r) : pw_F WX1_other h0 r := by
  unfold fX1_other at hf
  by_cases c1 : 28 < p1
  · have hf := pm_it hf c1
    by_cases c2 : 36 < p1
    · have hf := pm_it hf c2
      by_cases c3 : p1 < 40
      · have hf := pm_it hf c3
        exact wfX1_other_b48 K0  hf
      · have hf := pm_ie hf c3
        by_cases c4 : 64 < p1
        · have hf := pm_it hf c4
          exact wfX1_other_b48 K0  hf
        · have hf := pm_ie hf c4
          obtain ⟨k5, hf⟩ := pm_if hf
          obtain ⟨v6, e7, hf⟩ := pm_bd hf
          have K8 := pw_t (by decide) K0 (wfX1_memoryAccess (pw_rf _) e7)
          cases hf
          exact K8
    · have hf := pm_ie hf c2
      obtain ⟨k9, hf⟩ := pm_if hf
      obtain ⟨v10, e11, hf⟩ := pm_bd hf
      have K12 := pw_t (by decide) K0 (wfX1_variable (pw_rf _) e11)
      cases hf
      exact K12
  · have hf := pm_ie hf c1
    obtain ⟨k13, hf⟩ := pm_if hf
    obtain ⟨v14, e15, hf⟩ := pm_bd hf
    have K16 := pw_t (by decide) K0 (wfX1_choice (pw_rf _) e15)
    cases hf
    exact K16
abbrev WX8_apply : List Nat := [1024]
set_option maxHeartbeats 4000000 in
set_option maxRecDepth 100000 in
theorem wfX8_apply {h0 h : pm_H} (K0 : pw_F WX8_apply h0 h) {a0 : Nat} {p1 : Int32} {p2 : Int64} {p3 : Int64}  {r : (Int64 × pm_H)} (hf : fX8_apply h a0 p1 p2 p3 = some r) : pw_F WX8_apply h0 r.2 := by
  unfold fX8_apply at hf
  obtain ⟨k1, hf⟩ := pm_if hf
  by_cases c2 : 80 ≤ p1
  · have hf := pm_it hf c2
    by_cases c3 : 91 ≤ p1
    · have hf := pm_it hf c3
      by_cases c4 : 97 ≤ p1
      · have hf := pm_it hf c4
        by_cases c5 : 103 ≤ p1
        · have hf := pm_it hf c5
          by_cases c6 : 121 ≤ p1
          · have hf := pm_it hf c6
            by_cases c7 : 139 ≤ p1
            · have hf := pm_it hf c7
              by_cases c8 : 153 ≤ p1
              · have hf := pm_it hf c8
                by_cases c9 : 167 ≤ p1
                · have hf := pm_it hf c9
                  by_cases c10 : p1 < 178
                  · have hf := pm_it hf c10
                    obtain ⟨v11, e12, hf⟩ := pm_bd hf
                    have K13 := pw_t (by decide) (pw_sI K0 rfl k1 (by decide)) (wfX8_toWhole (pw_rf _) e12)
                    cases hf
                    exact K13
                  · have hf := pm_ie hf c10
                    by_cases c14 : p1 < 192
                    · have hf := pm_it hf c14
                      obtain ⟨v15, e16, hf⟩ := pm_lt hf
                      cases hf
                      exact (pw_sI K0 rfl k1 (by decide))
                    · have hf := pm_ie hf c14
                      obtain ⟨v17, e18, hf⟩ := pm_bd hf
                      have K19 := pw_t (by decide) (pw_sI K0 rfl k1 (by decide)) (wfX8_toWhole (pw_rf _) e18)
                      cases hf
                      exact K19
                · have hf := pm_ie hf c9
                  obtain ⟨v20, e21, hf⟩ := pm_bd hf
                  cases hf
                  exact (pw_sI K0 rfl k1 (by decide))
              · have hf := pm_ie hf c8
                obtain ⟨v22, e23, hf⟩ := pm_bd hf
                cases hf
                exact (pw_sI K0 rfl k1 (by decide))
            · have hf := pm_ie hf c7
              obtain ⟨v24, e25, hf⟩ := pm_bd hf
              have K26 := pw_t (by decide) (pw_sI K0 rfl k1 (by decide)) (wfX8_whole64 (pw_rf _) e25)
              cases hf
              exact K26
          · have hf := pm_ie hf c6
            obtain ⟨v27, e28, hf⟩ := pm_bd hf
            have K29 := pw_t (by decide) (pw_sI K0 rfl k1 (by decide)) (wfX8_whole32 (pw_rf _) e28)
            cases hf
            exact K29
        · have hf := pm_ie hf c5
          obtain ⟨v30, e31, hf⟩ := pm_lt hf
          cases hf
          exact (pw_sI K0 rfl k1 (by decide))
      · have hf := pm_ie hf c4
        obtain ⟨v32, e33, hf⟩ := pm_lt hf
        cases hf
        exact (pw_sI K0 rfl k1 (by decide))
    · have hf := pm_ie hf c3
      obtain ⟨v34, e35, hf⟩ := pm_lt hf
      obtain ⟨v36, e37, hf⟩ := pm_lt hf
      cases hf
      exact (pw_sI K0 rfl k1 (by decide))
  · have hf := pm_ie hf c2
    obtain ⟨v38, e39, hf⟩ := pm_lt hf
    obtain ⟨v40, e41, hf⟩ := pm_lt hf
    cases hf
    exact (pw_sI K0 rfl k1 (by decide))
abbrev WX10_atMemory : List Nat := [769, 1280, 4224, 4352, 4736]
set_option maxHeartbeats 4000000 in
set_option maxRecDepth 100000 in
theorem wfX10_atMemory_b35 {h0 h : pm_H} (K0 : pw_F WX10_atMemory h0 h) {s0 : Int32}  {r : (Int64 × pm_H)} (hf : fX10_atMemory_b35 h s0 = some r) : pw_F WX10_atMemory h0 r.2 := by
  unfold fX10_atMemory_b35 at hf
  have hf := Option.some.inj hf
  subst hf
  exact K0
set_option maxHeartbeats 4000000 in
set_option maxRecDepth 100000 in
theorem wfX10_atMemory_b0 {h0 h : pm_H} (K0 : pw_F WX10_atMemory h0 h) {x0 : Nat} {x1 : Int32} {x2 : Int32} {x3 : Int32} {x4 : Int64} {x6 : Int64}  {r : (Int64 × pm_H)} (hf : fX10_atMemory_b0 h x0 x1 x2 x3 x4 x6 = some r) : pw_F WX10_atMemory h0 r.2 := by
  unfold fX10_atMemory_b0 at hf
  by_cases c1 : x2 = 63
  · have hf := pm_it hf c1
    obtain ⟨k2, hf⟩ := pm_if hf
    obtain ⟨v3, e4, hf⟩ := pm_bd hf
    obtain ⟨k5, hf⟩ := pm_if hf
    obtain ⟨v6, e7, hf⟩ := pm_bd hf
    obtain ⟨v8, e9, hf⟩ := pm_bd hf
    have hf := Option.some.inj hf
    subst hf
    exact K0
  · have hf := pm_ie hf c1
    by_cases c10 : x2 = 64
    · have hf := pm_it hf c10
      obtain ⟨k11, hf⟩ := pm_if hf
      obtain ⟨v12, e13, hf⟩ := pm_bd hf
      obtain ⟨k14, hf⟩ := pm_if hf
      obtain ⟨v15, e16, hf⟩ := pm_bd hf
      have K17 := pw_t (by decide) K0 (wfX6_grow (pw_rf _) e16)
      exact wfX10_atMemory_b35 K17  hf
    · have hf := pm_ie hf c10
      obtain ⟨y18, e19, hf⟩ := pm_lt hf
      obtain ⟨k20, hf⟩ := pm_if hf
      obtain ⟨v21, e22, hf⟩ := pm_bd hf
      obtain ⟨v23, e24, hf⟩ := pm_bd hf
      obtain ⟨k25, hf⟩ := pm_if hf
      obtain ⟨v26, e27, hf⟩ := pm_bd hf
      by_cases c28 : v26 = 0
      · have hf := pm_it hf c28
        have hf := Option.some.inj hf
        subst hf
        exact (pw_sI K0 rfl k20 (by decide))
      · have hf := pm_ie hf c28
        by_cases c29 : 54 ≤ x2
        · have hf := pm_it hf c29
          obtain ⟨v30, e31, hf⟩ := pm_bd hf
          have K32 := pw_t (by decide) K0 (wfX6_save (pw_rf _) e31)
          have hf := Option.some.inj hf
          subst hf
          exact K32
        · have hf := pm_ie hf c29
          obtain ⟨v33, e34, hf⟩ := pm_bd hf
          have hf := Option.some.inj hf
          subst hf
          exact K0
set_option maxHeartbeats 4000000 in
set_option maxRecDepth 100000 in
theorem wfX10_atMemory {h0 h : pm_H} (K0 : pw_F WX10_atMemory h0 h) {a0 : Nat} {p1 : Int32} {p2 : Int32} {p3 : Int32} {p4 : Int64} {p5 : Int64}  {r : (Int64 × pm_H)} (hf : fX10_atMemory h a0 p1 p2 p3 p4 p5 = some r) : pw_F WX10_atMemory h0 r.2 := by
  unfold fX10_atMemory at hf
  exact wfX10_atMemory_b0 K0  hf
abbrev WX10_perform : List Nat := [769, 1024, 1280, 1409, 4224, 4352, 4480, 4608, 4736]
set_option maxHeartbeats 4000000 in
set_option maxRecDepth 100000 in
theorem wfX10_perform_b128 {h0 h : pm_H} (K0 : pw_F WX10_perform h0 h) {s0 : Int64}  {r : (Int64 × pm_H)} (hf : fX10_perform_b128 h s0 = some r) : pw_F WX10_perform h0 r.2 := by
  unfold fX10_perform_b128 at hf
  have hf := Option.some.inj hf
  subst hf
  exact K0
set_option maxHeartbeats 4000000 in
set_option maxRecDepth 100000 in
theorem wfX10_perform_b106 {h0 h : pm_H} (K0 : pw_F WX10_perform h0 h) {x0 : Nat} {x1 : Nat} {x2 : Int32} {x3 : Int32} {x4 : Int32} {x5 : Int64} {x7 : Int64} {x9 : Int64}  {r : (Int64 × pm_H)} (hf : fX10_perform_b106 h x0 x1 x2 x3 x4 x5 x7 x9 = some r) : pw_F WX10_perform h0 r.2 := by
  unfold fX10_perform_b106 at hf
  by_cases c33 : x2 < 312
  · have hf := pm_it hf c33
    by_cases c34 : x2 = 0
    · have hf := pm_it hf c34
      obtain ⟨k35, hf⟩ := pm_if hf
      have hf := Option.some.inj hf
      subst hf
      exact (pw_sI K0 rfl k35 (by decide))
    have hf := pm_ie hf c34
    by_cases c36 : x2 = 27
    · have hf := pm_it hf c36
      by_cases c37 : x9 = 0
      · have hf := pm_it hf c37
        have hf := Option.some.inj hf
        subst hf
        exact K0
      · have hf := pm_ie hf c37
        have hf := Option.some.inj hf
        subst hf
        exact K0
    have hf := pm_ie hf c36
    by_cases c38 : x2 = 28
    · have hf := pm_it hf c38
      by_cases c39 : x9 = 0
      · have hf := pm_it hf c39
        have hf := Option.some.inj hf
        subst hf
        exact K0
      · have hf := pm_ie hf c39
        have hf := Option.some.inj hf
        subst hf
        exact K0
    have hf := pm_ie hf c38
    by_cases c40 : x2 = 35
    · have hf := pm_it hf c40
      obtain ⟨k41, hf⟩ := pm_if hf
      obtain ⟨v42, e43, hf⟩ := pm_bd hf
      obtain ⟨k44, hf⟩ := pm_if hf
      obtain ⟨v45, e46, hf⟩ := pm_bd hf
      obtain ⟨v47, e48, hf⟩ := pm_bd hf
      obtain ⟨v49, e50, hf⟩ := pm_bd hf
      have hf := Option.some.inj hf
      subst hf
      exact K0
    have hf := pm_ie hf c40
    by_cases c51 : x2 = 36
    · have hf := pm_it hf c51
      obtain ⟨k52, hf⟩ := pm_if hf
      obtain ⟨v53, e54, hf⟩ := pm_bd hf
      obtain ⟨k55, hf⟩ := pm_if hf
      obtain ⟨v56, e57, hf⟩ := pm_bd hf
      obtain ⟨v58, e59, hf⟩ := pm_bd hf
      obtain ⟨v60, e61, hf⟩ := pm_bd hf
      have K62 := pw_t (by decide) K0 (wfX12_setItem_ (pw_rf _) e61)
      have hf := Option.some.inj hf
      subst hf
      exact K62
    have hf := pm_ie hf c51
    by_cases c63 : x2 = 37
    · have hf := pm_it hf c63
      obtain ⟨k64, hf⟩ := pm_if hf
      obtain ⟨v65, e66, hf⟩ := pm_bd hf
      obtain ⟨v67, e68, hf⟩ := pm_bd hf
      obtain ⟨k69, hf⟩ := pm_if hf
      obtain ⟨v70, e71, hf⟩ := pm_bd hf
      have K72 := pw_t (by decide) K0 (wfX10_atTable (pw_rf _) e71)
      have hf := Option.some.inj hf
      subst hf
      exact K72
    have hf := pm_ie hf c63
    by_cases c73 : x2 = 38
    · have hf := pm_it hf c73
      obtain ⟨k74, hf⟩ := pm_if hf
      obtain ⟨v75, e76, hf⟩ := pm_bd hf
      obtain ⟨v77, e78, hf⟩ := pm_bd hf
      obtain ⟨k79, hf⟩ := pm_if hf
      obtain ⟨v80, e81, hf⟩ := pm_bd hf
      have K82 := pw_t (by decide) K0 (wfX10_atTable (pw_rf _) e81)
      have hf := Option.some.inj hf
      subst hf
      exact K82
    have hf := pm_ie hf c73
    by_cases c83 : x2 = 209
    · have hf := pm_it hf c83
      by_cases c84 : x5 = (-1)
      · have hf := pm_it hf c84
        have hf := Option.some.inj hf
        subst hf
        exact K0
      · have hf := pm_ie hf c84
        have hf := Option.some.inj hf
        subst hf
        exact K0
    have hf := pm_ie hf c83
    by_cases c85 : x2 = 210
    · have hf := pm_it hf c85
      obtain ⟨k86, hf⟩ := pm_if hf
      obtain ⟨v87, e88, hf⟩ := pm_bd hf
      obtain ⟨v89, e90, hf⟩ := pm_bd hf
      have hf := Option.some.inj hf
      subst hf
      exact K0
    have hf := pm_ie hf c85
    have hf := Option.some.inj hf
    subst hf
    exact K0
  · have hf := pm_ie hf c33
    obtain ⟨k91, hf⟩ := pm_if hf
    obtain ⟨v92, e93, hf⟩ := pm_bd hf
    have K94 := pw_t (by decide) K0 (wfX10_alongTable (pw_rf _) e93)
    exact wfX10_perform_b128 K94  hf
set_option maxHeartbeats 4000000 in
set_option maxRecDepth 100000 in
theorem wfX10_perform_b77 {h0 h : pm_H} (K0 : pw_F WX10_perform h0 h) {s0 : Int64}  {r : (Int64 × pm_H)} (hf : fX10_perform_b77 h s0 = some r) : pw_F WX10_perform h0 r.2 := by
  unfold fX10_perform_b77 at hf
  have hf := Option.some.inj hf
  subst hf
  exact K0
set_option maxHeartbeats 4000000 in
set_option maxRecDepth 100000 in
theorem wfX10_perform_b78 {h0 h : pm_H} (K0 : pw_F WX10_perform h0 h) {x0 : Nat} {x1 : Nat} {x2 : Int32} {x3 : Int32} {x4 : Int32} {x5 : Int64} {x7 : Int64} {x9 : Int64}  {r : (Int64 × pm_H)} (hf : fX10_perform_b78 h x0 x1 x2 x3 x4 x5 x7 x9 = some r) : pw_F WX10_perform h0 r.2 := by
  unfold fX10_perform_b78 at hf
  by_cases c27 : x2 < 308
  · have hf := pm_it hf c27
    exact wfX10_perform_b106 K0  hf
  · have hf := pm_ie hf c27
    by_cases c28 : 311 < x2
    · have hf := pm_it hf c28
      exact wfX10_perform_b106 K0  hf
    · have hf := pm_ie hf c28
      obtain ⟨k29, hf⟩ := pm_if hf
      obtain ⟨v30, e31, hf⟩ := pm_bd hf
      have K32 := pw_t (by decide) K0 (wfX10_alongMemory (pw_rf _) e31)
      have hf := Option.some.inj hf
      subst hf
      exact K32
set_option maxHeartbeats 4000000 in
set_option maxRecDepth 100000 in
theorem wfX10_perform_b46 {h0 h : pm_H} (K0 : pw_F WX10_perform h0 h) {x0 : Nat} {x1 : Nat} {x2 : Int32} {x3 : Int32} {x4 : Int32} {x5 : Int64} {x7 : Int64} {x9 : Int64}  {r : (Int64 × pm_H)} (hf : fX10_perform_b46 h x0 x1 x2 x3 x4 x5 x7 x9 = some r) : pw_F WX10_perform h0 r.2 := by
  unfold fX10_perform_b46 at hf
  by_cases c16 : x2 < 40
  · have hf := pm_it hf c16
    exact wfX10_perform_b78 K0  hf
  · have hf := pm_ie hf c16
    by_cases c17 : 64 < x2
    · have hf := pm_it hf c17
      exact wfX10_perform_b78 K0  hf
    · have hf := pm_ie hf c17
      obtain ⟨k18, hf⟩ := pm_if hf
      obtain ⟨v19, e20, hf⟩ := pm_bd hf
      obtain ⟨v21, e22, hf⟩ := pm_bd hf
      obtain ⟨k23, hf⟩ := pm_if hf
      obtain ⟨v24, e25, hf⟩ := pm_bd hf
      have K26 := pw_t (by decide) K0 (wfX10_atMemory (pw_rf _) e25)
      exact wfX10_perform_b77 K26  hf
set_option maxHeartbeats 4000000 in
set_option maxRecDepth 100000 in
theorem wfX10_perform_b0 {h0 h : pm_H} (K0 : pw_F WX10_perform h0 h) {x0 : Nat} {x1 : Nat} {x2 : Int32} {x3 : Int32} {x4 : Int32} {x5 : Int64} {x7 : Int64} {x9 : Int64}  {r : (Int64 × pm_H)} (hf : fX10_perform_b0 h x0 x1 x2 x3 x4 x5 x7 x9 = some r) : pw_F WX10_perform h0 r.2 := by
  unfold fX10_perform_b0 at hf
  obtain ⟨k1, hf⟩ := pm_if hf
  by_cases c2 : x2 < 69
  · have hf := pm_it hf c2
    exact wfX10_perform_b46 (pw_sI K0 rfl k1 (by decide))  hf
  · have hf := pm_ie hf c2
    by_cases c3 : 208 ≤ x2
    · have hf := pm_it hf c3
      exact wfX10_perform_b46 (pw_sI K0 rfl k1 (by decide))  hf
    · have hf := pm_ie hf c3
      obtain ⟨v4, e5, hf⟩ := pm_bd hf
      obtain ⟨k6, hf⟩ := pm_if hf
      have k6b := (congrFun (pkI rfl) v4).symm.trans k6
      obtain ⟨v7, e8, hf⟩ := pm_bd hf
      have K9 := pw_t (by decide) (pw_sI K0 rfl k1 (by decide)) (wfX8_apply (pw_rf _) e8)
      obtain ⟨k10, hf⟩ := pm_if hf
      obtain ⟨v11, e12, hf⟩ := pm_bd hf
      obtain ⟨k13, hf⟩ := pm_if hf
      obtain ⟨y14, e15, hf⟩ := pm_lt hf
      have hf := Option.some.inj hf
      subst hf
      exact (pw_sI K9 rfl k10 (by decide))
set_option maxHeartbeats 4000000 in
set_option maxRecDepth 100000 in
theorem wfX10_perform {h0 h : pm_H} (K0 : pw_F WX10_perform h0 h) {a0 : Nat} {p1 : Nat} {p2 : Int32} {p3 : Int32} {p4 : Int32} {p5 : Int64} {p6 : Int64} {p7 : Int64}  {r : (Int64 × pm_H)} (hf : fX10_perform h a0 p1 p2 p3 p4 p5 p6 p7 = some r) : pw_F WX10_perform h0 r.2 := by
  unfold fX10_perform at hf
  exact wfX10_perform_b0 K0  hf
abbrev WX1_body : List Nat := [2, 3, 4, 5, 128, 129, 134, 135, 136, 138, 140, 142, 145, 1152, 1153, 1154, 1155, 1156, 1157, 1158, 1159, 1160, 1161, 1168, 4352]
set_option maxHeartbeats 4000000 in
set_option maxRecDepth 100000 in
theorem wlX1_body {h0 : pm_H} {r : pm_H} : ∀ n : Nat, (∀ (x0 : Nat) (x1 : Int32) (h : pm_H), pw_F WX1_body h0 h → pm_iter sX1_body n (.inl (x0, x1, h)) = some r → pw_F WX1_body h0 r) ∧ (∀ (x0 : Nat) (x2 : Int32) (h : pm_H), pw_F WX1_body h0 h → pm_iter sX1_body n (.inr (.inl (x0, x2, h))) = some r → pw_F WX1_body h0 r) ∧ (∀ (x0 : Nat) (h : pm_H), pw_F WX1_body h0 h → pm_iter sX1_body n (.inr (.inr (.inl (x0, h)))) = some r → pw_F WX1_body h0 r) ∧ (∀ (x0 : Nat) (x2 : Int32) (h : pm_H), pw_F WX1_body h0 h → pm_iter sX1_body n (.inr (.inr (.inr (.inl (x0, x2, h))))) = some r → pw_F WX1_body h0 r) ∧ (∀ (x0 : Nat) (x2 : Int32) (h : pm_H), pw_F WX1_body h0 h → pm_iter sX1_body n (.inr (.inr (.inr (.inr (.inl (x0, x2, h)))))) = some r → pw_F WX1_body h0 r) ∧ (∀ (s0 : Nat) (s1 : Nat) (h : pm_H), pw_F WX1_body h0 h → pm_iter sX1_body n (.inr (.inr (.inr (.inr (.inr (s0, s1, h)))))) = some r → pw_F WX1_body h0 r) := by
  intro n
  induction n with
  | zero => exact ⟨fun _ _ _ _ hf => (by cases hf), fun _ _ _ _ hf => (by cases hf), fun _ _ _ hf => (by cases hf), fun _ _ _ _ hf => (by cases hf), fun _ _ _ _ hf => (by cases hf), fun _ _ _ _ hf => (by cases hf)⟩
  | succ n ih =>
    refine ⟨fun x0 x1 h K0 hf => ?_, ?_⟩
    · obtain ⟨y, hf, hi⟩ := pm_iter_s hf
      have hf : tX1_body_0 x0 x1 h = some y := hf
      unfold tX1_body_0 at hf
      by_cases c1 : x1 < 0
      · have hf := pm_it hf c1
        have hf := Option.some.inj hf
        subst hf
        have hi := Option.some.inj (show some _ = some r from hi)
        subst hi
        exact K0
      · have hf := pm_ie hf c1
        obtain ⟨k2, hf⟩ := pm_if hf
        obtain ⟨v3, e4, hf⟩ := pm_bd hf
        obtain ⟨k5, hf⟩ := pm_if hf
        obtain ⟨v6, e7, hf⟩ := pm_bd hf
        obtain ⟨k8, hf⟩ := pm_if hf
        by_cases c9 : x1 < (Int32.ofNat (pm_ln h v6))
        · have hf := pm_it hf c9
          obtain ⟨u10, hf⟩ := pm_if hf
          obtain ⟨v11, e12, hf⟩ := pm_bd hf
          obtain ⟨v13, e14, hf⟩ := pm_bd hf
          obtain ⟨v15, e16, hf⟩ := pm_bd hf
          obtain ⟨k17, hf⟩ := pm_if hf
          have k17b := (congrFun (pkR rfl) v15).symm.trans k17
          obtain ⟨v18, e19, hf⟩ := pm_bd hf
          obtain ⟨v20, e21, hf⟩ := pm_bd hf
          obtain ⟨k22, hf⟩ := pm_if hf
          have k22b := (congrFun (pkR rfl) v13).symm.trans k22
          obtain ⟨v23, e24, hf⟩ := pm_bd hf
          have K25 := pw_t (by decide) (pw_sR K0 rfl k2 (by decide)) (wfX9_open (pw_rf _) e24)
          obtain ⟨k26, hf⟩ := pm_if hf
          obtain ⟨v27, e28, hf⟩ := pm_bd hf
          have K29 := pw_t (by decide) K25 (wfX1_readLocals (pw_rf _) e28)
          obtain ⟨k30, hf⟩ := pm_if hf
          obtain ⟨v31, e32, hf⟩ := pm_bd hf
          obtain ⟨k33, hf⟩ := pm_if hf
          have k33b := (congrFun (pkI (pkI (pkI rfl))) v31).symm.trans k33
          obtain ⟨v34, e35, hf⟩ := pm_bd hf
          obtain ⟨v36, e37, hf⟩ := pm_bd hf
          obtain ⟨v38, e39, hf⟩ := pm_bd hf
          have K40 := pw_t (by decide) (pw_sI (pw_sI (pw_sI K29 rfl k30 (by decide)) (pkI rfl) k30 (by decide)) (pkI (pkI rfl)) k30 (by decide)) (wfX1_openLabel (pw_rf _) e39)
          cases hf
          exact ih.2.1 x0 0 v38 K40  hi
        · have hf := pm_ie hf c9
          have hf := Option.some.inj hf
          subst hf
          have hi := Option.some.inj (show some _ = some r from hi)
          subst hi
          exact K0
    refine ⟨fun x0 x2 h K0 hf => ?_, ?_⟩
    · obtain ⟨y, hf, hi⟩ := pm_iter_s hf
      have hf : tX1_body_102 x0 x2 h = some y := hf
      unfold tX1_body_102 at hf
      obtain ⟨k41, hf⟩ := pm_if hf
      obtain ⟨v42, e43, hf⟩ := pm_bd hf
      obtain ⟨k44, hf⟩ := pm_if hf
      obtain ⟨v45, e46, hf⟩ := pm_bd hf
      obtain ⟨k47, hf⟩ := pm_if hf
      by_cases c48 : (Int32.ofNat (pm_ln h v45)) ≤ x2
      · have hf := pm_it hf c48
        cases hf
        exact ih.2.2.1 x0 h K0  hi
      · have hf := pm_ie hf c48
        by_cases c49 : (pm_I h x0 10) ≤ 0
        · have hf := pm_it hf c49
          cases hf
          exact ih.2.2.1 x0 h K0  hi
        · have hf := pm_ie hf c49
          by_cases c50 : (pm_I h x0 0) = 0
          · have hf := pm_it hf c50
            obtain ⟨v51, e52, hf⟩ := pm_bd hf
            obtain ⟨k53, hf⟩ := pm_if hf
            obtain ⟨v54, e55, hf⟩ := pm_bd hf
            have K56 := pw_t (by decide) K0 (wfX9_instruction (pw_rf _) e55)
            obtain ⟨k57, hf⟩ := pm_if hf
            obtain ⟨y58, e59, hf⟩ := pm_lt hf
            obtain ⟨v60, e61, hf⟩ := pm_bd hf
            obtain ⟨k62, hf⟩ := pm_if hf
            have k62b := (congrFun (pkI rfl) v60).symm.trans k62
            by_cases c63 : 17 < (pm_I (pm_setI v54 x0 7 y58) v60 6)
            · have hf := pm_it hf c63
              obtain ⟨v64, e65, hf⟩ := pm_bd hf
              have K66 := pw_t (by decide) (pw_sI K56 rfl k57 (by decide)) (wfX1_other (pw_rf _) e65)
              cases hf
              exact ih.2.2.2.1 x0 x2 v64 K66  hi
            · have hf := pm_ie hf c63
              obtain ⟨v67, e68, hf⟩ := pm_bd hf
              have K69 := pw_t (by decide) (pw_sI K56 rfl k57 (by decide)) (wfX1_control (pw_rf _) e68)
              cases hf
              exact ih.2.2.2.2.1 x0 x2 v67 K69  hi
          · have hf := pm_ie hf c50
            cases hf
            exact ih.2.2.1 x0 h K0  hi
    refine ⟨fun x0 h K0 hf => ?_, ?_⟩
    · obtain ⟨y, hf, hi⟩ := pm_iter_s hf
      have hf : tX1_body_208 x0 h = some y := hf
      unfold tX1_body_208 at hf
      obtain ⟨k70, hf⟩ := pm_if hf
      obtain ⟨v71, e72, hf⟩ := pm_bd hf
      obtain ⟨y73, e74, hf⟩ := pm_lt hf
      obtain ⟨k75, hf⟩ := pm_if hf
      obtain ⟨y76, e77, hf⟩ := pm_lt hf
      obtain ⟨v78, e79, hf⟩ := pm_bd hf
      obtain ⟨v80, e81, hf⟩ := pm_bd hf
      have K82 := pw_t (by decide) (pw_sI (pw_sI K0 rfl k75 (by decide)) (pkI rfl) k75 (by decide)) (wfJ7_copyOf_59c91 (pw_rf _) e81)
      cases hf
      exact ih.2.2.2.2.2 v80.1 v71 v80.2 K82  hi
    refine ⟨fun x0 x2 h K0 hf => ?_, ?_⟩
    · obtain ⟨y, hf, hi⟩ := pm_iter_s hf
      have hf : tX1_body_180 x0 x2 h = some y := hf
      unfold tX1_body_180 at hf
      obtain ⟨k83, hf⟩ := pm_if hf
      by_cases c84 : (pm_I h x0 10) ≤ 0
      · have hf := pm_it hf c84
        obtain ⟨y85, e86, hf⟩ := pm_lt hf
        cases hf
        exact ih.2.1 x0 y85 h K0  hi
      · have hf := pm_ie hf c84
        obtain ⟨y87, e88, hf⟩ := pm_lt hf
        obtain ⟨y89, e90, hf⟩ := pm_lt hf
        obtain ⟨y91, e92, hf⟩ := pm_lt hf
        cases hf
        exact ih.2.1 x0 y91 (pm_setI h x0 8 y89) (pw_sI K0 rfl k83 (by decide))  hi
    refine ⟨fun x0 x2 h K0 hf => ?_, ?_⟩
    · obtain ⟨y, hf, hi⟩ := pm_iter_s hf
      have hf : tX1_body_166 x0 x2 h = some y := hf
      unfold tX1_body_166 at hf
      cases hf
      exact ih.2.2.2.1 x0 x2 h K0  hi
    refine fun s0 s1 h K0 hf => ?_
    obtain ⟨y, hf, hi⟩ := pm_iter_s hf
    have hf : tX1_body_245 s0 s1 h = some y := hf
    unfold tX1_body_245 at hf
    obtain ⟨k93, hf⟩ := pm_if hf
    have hf := Option.some.inj hf
    subst hf
    have hi := Option.some.inj (show some _ = some r from hi)
    subst hi
    exact (pw_sR K0 rfl k93 (by decide))
set_option maxHeartbeats 4000000 in
set_option maxRecDepth 100000 in
theorem wfX1_body {h0 h : pm_H} (K0 : pw_F WX1_body h0 h) {a0 : Nat} {p1 : Int32}  {r : pm_H} (hf : fX1_body h a0 p1 = some r) : pw_F WX1_body h0 r := by
  unfold fX1_body at hf
  obtain ⟨n, hn⟩ := pm_lim_iter hf
  exact (wlX1_body n).1 a0 p1 h K0  hn
abbrev WX5_stepOnRegisters : List Nat := [384, 385, 386, 387, 388, 389, 390, 391, 640, 641, 643, 644, 647, 652, 653, 654, 769, 1024, 1280, 1282, 1409, 4096, 4224, 4352, 4480, 4608, 4736]
set_option maxHeartbeats 4000000 in
set_option maxRecDepth 100000 in
theorem wfX5_stepOnRegisters_b386 {h0 h : pm_H} (K0 : pw_F WX5_stepOnRegisters h0 h) {x0 : Nat} {x8 : Int32} {s0 : Int64}  {r : pm_H} (hf : fX5_stepOnRegisters_b386 h x0 x8 s0 = some r) : pw_F WX5_stepOnRegisters h0 r := by
  unfold fX5_stepOnRegisters_b386 at hf
  obtain ⟨k95, hf⟩ := pm_if hf
  obtain ⟨v96, e97, hf⟩ := pm_bd hf
  obtain ⟨k98, hf⟩ := pm_if hf
  by_cases c99 : (pm_I h v96 0) = 0
  · have hf := pm_it hf c99
    by_cases c100 : x8 < 0
    · have hf := pm_it hf c100
      have hf := Option.some.inj hf
      subst hf
      exact K0
    · have hf := pm_ie hf c100
      obtain ⟨v101, e102, hf⟩ := pm_bd hf
      obtain ⟨v103, e104, hf⟩ := pm_bd hf
      obtain ⟨k105, hf⟩ := pm_if hf
      obtain ⟨v106, e107, hf⟩ := pm_bd hf
      have K108 := pw_t (by decide) K0 (wfX12_setItem_ (pw_rf _) e107)
      have hf := Option.some.inj hf
      subst hf
      exact K108
  · have hf := pm_ie hf c99
    obtain ⟨v109, e110, hf⟩ := pm_bd hf
    have K111 := pw_t (by decide) K0 (wfX5_fail (pw_rf _) e110)
    have hf := Option.some.inj hf
    subst hf
    exact K111
set_option maxHeartbeats 4000000 in
set_option maxRecDepth 100000 in
theorem wfX5_stepOnRegisters_b337 {h0 h : pm_H} (K0 : pw_F WX5_stepOnRegisters h0 h)   {r : pm_H} (hf : fX5_stepOnRegisters_b337 h  = some r) : pw_F WX5_stepOnRegisters h0 r := by
  unfold fX5_stepOnRegisters_b337 at hf
  have hf := Option.some.inj hf
  subst hf
  exact K0
set_option maxHeartbeats 4000000 in
set_option maxRecDepth 100000 in
theorem wfX5_stepOnRegisters_b0 {h0 h : pm_H} (K0 : pw_F WX5_stepOnRegisters h0 h) {x0 : Nat} {x1 : Int32}  {r : pm_H} (hf : fX5_stepOnRegisters_b0 h x0 x1 = some r) : pw_F WX5_stepOnRegisters h0 r := by
  unfold fX5_stepOnRegisters_b0 at hf
  obtain ⟨k1, hf⟩ := pm_if hf
  obtain ⟨v2, e3, hf⟩ := pm_bd hf
  obtain ⟨k4, hf⟩ := pm_if hf
  obtain ⟨v5, e6, hf⟩ := pm_bd hf
  obtain ⟨v7, e8, hf⟩ := pm_bd hf
  obtain ⟨v9, e10, hf⟩ := pm_bd hf
  obtain ⟨v11, e12, hf⟩ := pm_bd hf
  obtain ⟨v13, e14, hf⟩ := pm_bd hf
  obtain ⟨v15, e16, hf⟩ := pm_bd hf
  obtain ⟨v17, e18, hf⟩ := pm_bd hf
  obtain ⟨y19, e20, hf⟩ := pm_lt hf
  by_cases c21 : v7 = 1
  · have hf := pm_it hf c21
    obtain ⟨v22, e23, hf⟩ := pm_bd hf
    have K24 := pw_t (by decide) (pw_sI K0 rfl k4 (by decide)) (wfX5_goFreely (pw_rf _) e23)
    have hf := Option.some.inj hf
    subst hf
    exact K24
  have hf := pm_ie hf c21
  by_cases c25 : v7 = 4
  · have hf := pm_it hf c25
    obtain ⟨v26, e27, hf⟩ := pm_bd hf
    by_cases c28 : v26 = 0
    · have hf := pm_it hf c28
      have hf := Option.some.inj hf
      subst hf
      exact (pw_sI (pw_sI K0 rfl k4 (by decide)) (pkI rfl) k4 (by decide))
    · have hf := pm_ie hf c28
      have hf := Option.some.inj hf
      subst hf
      exact (pw_sI K0 rfl k4 (by decide))
  have hf := pm_ie hf c25
  by_cases c29 : v7 = 5
  · have hf := pm_it hf c29
    obtain ⟨v30, e31, hf⟩ := pm_bd hf
    have K32 := pw_t (by decide) (pw_sI K0 rfl k4 (by decide)) (wfX5_goFreely (pw_rf _) e31)
    have hf := Option.some.inj hf
    subst hf
    exact K32
  have hf := pm_ie hf c29
  by_cases c33 : v7 = 11
  · have hf := pm_it hf c33
    obtain ⟨v34, e35, hf⟩ := pm_bd hf
    have K36 := pw_t (by decide) (pw_sI K0 rfl k4 (by decide)) (wfX5_goFreely (pw_rf _) e35)
    have hf := Option.some.inj hf
    subst hf
    exact K36
  have hf := pm_ie hf c33
  by_cases c37 : v7 = 12
  · have hf := pm_it hf c37
    obtain ⟨v38, e39, hf⟩ := pm_bd hf
    have K40 := pw_t (by decide) (pw_sI K0 rfl k4 (by decide)) (wfX5_branchOnRegisters (pw_rf _) e39)
    have hf := Option.some.inj hf
    subst hf
    exact K40
  have hf := pm_ie hf c37
  by_cases c41 : v7 = 13
  · have hf := pm_it hf c41
    obtain ⟨v42, e43, hf⟩ := pm_bd hf
    by_cases c44 : v42 = 0
    · have hf := pm_it hf c44
      have hf := Option.some.inj hf
      subst hf
      exact (pw_sI K0 rfl k4 (by decide))
    · have hf := pm_ie hf c44
      obtain ⟨v45, e46, hf⟩ := pm_bd hf
      have K47 := pw_t (by decide) (pw_sI K0 rfl k4 (by decide)) (wfX5_branchOnRegisters (pw_rf _) e46)
      have hf := Option.some.inj hf
      subst hf
      exact K47
  have hf := pm_ie hf c41
  by_cases c48 : v7 = 14
  · have hf := pm_it hf c48
    obtain ⟨v49, e50, hf⟩ := pm_bd hf
    obtain ⟨v51, e52, hf⟩ := pm_bd hf
    have K53 := pw_t (by decide) (pw_sI K0 rfl k4 (by decide)) (wfX5_branchOnRegisters (pw_rf _) e52)
    have hf := Option.some.inj hf
    subst hf
    exact K53
  have hf := pm_ie hf c48
  by_cases c54 : v7 = 16
  · have hf := pm_it hf c54
    obtain ⟨y55, e56, hf⟩ := pm_lt hf
    obtain ⟨v57, e58, hf⟩ := pm_bd hf
    obtain ⟨k59, hf⟩ := pm_if hf
    have k59b := (congrFun (pkI (pkI rfl)) v57).symm.trans k59
    obtain ⟨v60, e61, hf⟩ := pm_bd hf
    obtain ⟨v62, e63, hf⟩ := pm_bd hf
    obtain ⟨v64, e65, hf⟩ := pm_bd hf
    have K66 := pw_t (by decide) (pw_sI (pw_sI K0 rfl k4 (by decide)) (pkI rfl) k4 (by decide)) (wfX5_enter (pw_rf _) e65)
    have hf := Option.some.inj hf
    subst hf
    exact K66
  have hf := pm_ie hf c54
  by_cases c67 : v7 = 17
  · have hf := pm_it hf c67
    obtain ⟨y68, e69, hf⟩ := pm_lt hf
    obtain ⟨v70, e71, hf⟩ := pm_bd hf
    obtain ⟨v72, e73, hf⟩ := pm_bd hf
    have K74 := pw_t (by decide) (pw_sI (pw_sI K0 rfl k4 (by decide)) (pkI rfl) k4 (by decide)) (wfX5_callByTable (pw_rf _) e73)
    exact wfX5_stepOnRegisters_b337 K74  hf
  have hf := pm_ie hf c67
  by_cases c75 : v7 = 500
  · have hf := pm_it hf c75
    obtain ⟨v76, e77, hf⟩ := pm_bd hf
    have K78 := pw_t (by decide) (pw_sI K0 rfl k4 (by decide)) (wfX5_goFreely (pw_rf _) e77)
    have hf := Option.some.inj hf
    subst hf
    exact K78
  have hf := pm_ie hf c75
  obtain ⟨v79, e80, hf⟩ := pm_bd hf
  obtain ⟨v81, e82, hf⟩ := pm_bd hf
  obtain ⟨v83, e84, hf⟩ := pm_bd hf
  obtain ⟨v85, e86, hf⟩ := pm_bd hf
  obtain ⟨v87, e88, hf⟩ := pm_bd hf
  obtain ⟨v89, e90, hf⟩ := pm_bd hf
  obtain ⟨k91, hf⟩ := pm_if hf
  have k91b := (congrFun (pkI rfl) v83).symm.trans k91
  obtain ⟨v92, e93, hf⟩ := pm_bd hf
  have K94 := pw_t (by decide) (pw_sI K0 rfl k4 (by decide)) (wfX10_perform (pw_rf _) e93)
  exact wfX5_stepOnRegisters_b386 K94  hf
set_option maxHeartbeats 4000000 in
set_option maxRecDepth 100000 in
theorem wfX5_stepOnRegisters {h0 h : pm_H} (K0 : pw_F WX5_stepOnRegisters h0 h) {a0 : Nat} {p1 : Int32}  {r : pm_H} (hf : fX5_stepOnRegisters h a0 p1 = some r) : pw_F WX5_stepOnRegisters h0 r := by
  unfold fX5_stepOnRegisters at hf
  exact wfX5_stepOnRegisters_b0 K0  hf
abbrev WX5_stepOnStack : List Nat := [384, 385, 386, 387, 388, 389, 390, 391, 640, 641, 643, 644, 647, 652, 653, 654, 769, 1024, 1280, 1282, 1409, 4096, 4224, 4352, 4480, 4608, 4736]
set_option maxHeartbeats 4000000 in
set_option maxRecDepth 100000 in
theorem wfX5_stepOnStack_b547 {h0 h : pm_H} (K0 : pw_F WX5_stepOnStack h0 h) {x0 : Nat} {x5 : Int32} {s0 : Int64}  {r : pm_H} (hf : fX5_stepOnStack_b547 h x0 x5 s0 = some r) : pw_F WX5_stepOnStack h0 r := by
  unfold fX5_stepOnStack_b547 at hf
  obtain ⟨k143, hf⟩ := pm_if hf
  obtain ⟨v144, e145, hf⟩ := pm_bd hf
  obtain ⟨k146, hf⟩ := pm_if hf
  by_cases c147 : (pm_I h v144 0) = 0
  · have hf := pm_it hf c147
    by_cases c148 : (x5 &&& 1) = 0
    · have hf := pm_it hf c148
      have hf := Option.some.inj hf
      subst hf
      exact K0
    · have hf := pm_ie hf c148
      obtain ⟨v149, e150, hf⟩ := pm_bd hf
      have K151 := pw_t (by decide) K0 (wfX5_push (pw_rf _) e150)
      have hf := Option.some.inj hf
      subst hf
      exact K151
  · have hf := pm_ie hf c147
    obtain ⟨v152, e153, hf⟩ := pm_bd hf
    have K154 := pw_t (by decide) K0 (wfX5_fail (pw_rf _) e153)
    have hf := Option.some.inj hf
    subst hf
    exact K154
set_option maxHeartbeats 4000000 in
set_option maxRecDepth 100000 in
theorem wfX5_stepOnStack_b521 {h0 h : pm_H} (K0 : pw_F WX5_stepOnStack h0 h) {x0 : Nat} {x2 : Int32} {x3 : Int32} {x4 : Int32} {x5 : Int32} {x9 : Int64} {x11 : Int64} {s0 : Int64}  {r : pm_H} (hf : fX5_stepOnStack_b521 h x0 x2 x3 x4 x5 x9 x11 s0 = some r) : pw_F WX5_stepOnStack h0 r := by
  unfold fX5_stepOnStack_b521 at hf
  obtain ⟨k131, hf⟩ := pm_if hf
  obtain ⟨v132, e133, hf⟩ := pm_bd hf
  obtain ⟨v134, e135, hf⟩ := pm_bd hf
  obtain ⟨k136, hf⟩ := pm_if hf
  obtain ⟨v137, e138, hf⟩ := pm_bd hf
  obtain ⟨k139, hf⟩ := pm_if hf
  obtain ⟨v140, e141, hf⟩ := pm_bd hf
  have K142 := pw_t (by decide) K0 (wfX10_perform (pw_rf _) e141)
  exact wfX5_stepOnStack_b547 K142  hf
set_option maxHeartbeats 4000000 in
set_option maxRecDepth 100000 in
theorem wfX5_stepOnStack_b493 {h0 h : pm_H} (K0 : pw_F WX5_stepOnStack h0 h) {x0 : Nat} {x2 : Int32} {x3 : Int32} {x4 : Int32} {x5 : Int32} {x8 : Int32} {x9 : Int64} {s0 : Int64}  {r : pm_H} (hf : fX5_stepOnStack_b493 h x0 x2 x3 x4 x5 x8 x9 s0 = some r) : pw_F WX5_stepOnStack h0 r := by
  unfold fX5_stepOnStack_b493 at hf
  by_cases c122 : x8 ≤ 2
  · have hf := pm_it hf c122
    exact wfX5_stepOnStack_b521 K0  hf
  · have hf := pm_ie hf c122
    obtain ⟨k123, hf⟩ := pm_if hf
    obtain ⟨v124, e125, hf⟩ := pm_bd hf
    obtain ⟨v126, e127, hf⟩ := pm_bd hf
    obtain ⟨k128, hf⟩ := pm_if hf
    obtain ⟨v129, e130, hf⟩ := pm_bd hf
    exact wfX5_stepOnStack_b521 K0  hf
set_option maxHeartbeats 4000000 in
set_option maxRecDepth 100000 in
theorem wfX5_stepOnStack_b465 {h0 h : pm_H} (K0 : pw_F WX5_stepOnStack h0 h) {x0 : Nat} {x2 : Int32} {x3 : Int32} {x4 : Int32} {x5 : Int32} {x8 : Int32} {s0 : Int64}  {r : pm_H} (hf : fX5_stepOnStack_b465 h x0 x2 x3 x4 x5 x8 s0 = some r) : pw_F WX5_stepOnStack h0 r := by
  unfold fX5_stepOnStack_b465 at hf
  by_cases c113 : x8 ≤ 1
  · have hf := pm_it hf c113
    exact wfX5_stepOnStack_b493 K0  hf
  · have hf := pm_ie hf c113
    obtain ⟨k114, hf⟩ := pm_if hf
    obtain ⟨v115, e116, hf⟩ := pm_bd hf
    obtain ⟨v117, e118, hf⟩ := pm_bd hf
    obtain ⟨k119, hf⟩ := pm_if hf
    obtain ⟨v120, e121, hf⟩ := pm_bd hf
    exact wfX5_stepOnStack_b493 K0  hf
set_option maxHeartbeats 4000000 in
set_option maxRecDepth 100000 in
theorem wfX5_stepOnStack_b318 {h0 h : pm_H} (K0 : pw_F WX5_stepOnStack h0 h)   {r : pm_H} (hf : fX5_stepOnStack_b318 h  = some r) : pw_F WX5_stepOnStack h0 r := by
  unfold fX5_stepOnStack_b318 at hf
  have hf := Option.some.inj hf
  subst hf
  exact K0
set_option maxHeartbeats 4000000 in
set_option maxRecDepth 100000 in
theorem wfX5_stepOnStack_b0 {h0 h : pm_H} (K0 : pw_F WX5_stepOnStack h0 h) {x0 : Nat}  {r : pm_H} (hf : fX5_stepOnStack_b0 h x0 = some r) : pw_F WX5_stepOnStack h0 r := by
  unfold fX5_stepOnStack_b0 at hf
  obtain ⟨k1, hf⟩ := pm_if hf
  obtain ⟨v2, e3, hf⟩ := pm_bd hf
  obtain ⟨k4, hf⟩ := pm_if hf
  obtain ⟨y5, e6, hf⟩ := pm_lt hf
  obtain ⟨v7, e8, hf⟩ := pm_bd hf
  obtain ⟨v9, e10, hf⟩ := pm_bd hf
  obtain ⟨v11, e12, hf⟩ := pm_bd hf
  obtain ⟨v13, e14, hf⟩ := pm_bd hf
  obtain ⟨v15, e16, hf⟩ := pm_bd hf
  obtain ⟨y17, e18, hf⟩ := pm_lt hf
  by_cases c19 : v9 = 4
  · have hf := pm_it hf c19
    obtain ⟨v20, e21, hf⟩ := pm_bd hf
    have K22 := pw_t (by decide) (pw_sI K0 rfl k4 (by decide)) (wfX5_pop (pw_rf _) e21)
    by_cases c23 : v20.1 = 0
    · have hf := pm_it hf c23
      obtain ⟨k24, hf⟩ := pm_if hf
      obtain ⟨v25, e26, hf⟩ := pm_bd hf
      obtain ⟨k27, hf⟩ := pm_if hf
      have hf := Option.some.inj hf
      subst hf
      exact (pw_sI K22 rfl k27 (by decide))
    · have hf := pm_ie hf c23
      have hf := Option.some.inj hf
      subst hf
      exact K22
  have hf := pm_ie hf c19
  by_cases c28 : v9 = 12
  · have hf := pm_it hf c28
    obtain ⟨v29, e30, hf⟩ := pm_bd hf
    have K31 := pw_t (by decide) (pw_sI K0 rfl k4 (by decide)) (wfX5_branchOnStack (pw_rf _) e30)
    have hf := Option.some.inj hf
    subst hf
    exact K31
  have hf := pm_ie hf c28
  by_cases c32 : v9 = 13
  · have hf := pm_it hf c32
    obtain ⟨v33, e34, hf⟩ := pm_bd hf
    have K35 := pw_t (by decide) (pw_sI K0 rfl k4 (by decide)) (wfX5_pop (pw_rf _) e34)
    by_cases c36 : v33.1 = 0
    · have hf := pm_it hf c36
      have hf := Option.some.inj hf
      subst hf
      exact K35
    · have hf := pm_ie hf c36
      obtain ⟨k37, hf⟩ := pm_if hf
      obtain ⟨v38, e39, hf⟩ := pm_bd hf
      have K40 := pw_t (by decide) K35 (wfX5_branchOnStack (pw_rf _) e39)
      have hf := Option.some.inj hf
      subst hf
      exact K40
  have hf := pm_ie hf c32
  by_cases c41 : v9 = 14
  · have hf := pm_it hf c41
    obtain ⟨v42, e43, hf⟩ := pm_bd hf
    have K44 := pw_t (by decide) (pw_sI K0 rfl k4 (by decide)) (wfX5_pop (pw_rf _) e43)
    obtain ⟨k45, hf⟩ := pm_if hf
    obtain ⟨v46, e47, hf⟩ := pm_bd hf
    have K48 := pw_t (by decide) K44 (wfX5_branchOnStack (pw_rf _) e47)
    have hf := Option.some.inj hf
    subst hf
    exact K48
  have hf := pm_ie hf c41
  by_cases c49 : v9 = 16
  · have hf := pm_it hf c49
    obtain ⟨y50, e51, hf⟩ := pm_lt hf
    obtain ⟨v52, e53, hf⟩ := pm_bd hf
    obtain ⟨k54, hf⟩ := pm_if hf
    have k54b := (congrFun (pkI (pkI rfl)) v52).symm.trans k54
    obtain ⟨v55, e56, hf⟩ := pm_bd hf
    obtain ⟨v57, e58, hf⟩ := pm_bd hf
    obtain ⟨v59, e60, hf⟩ := pm_bd hf
    have K61 := pw_t (by decide) (pw_sI (pw_sI K0 rfl k4 (by decide)) (pkI rfl) k4 (by decide)) (wfX5_enter (pw_rf _) e60)
    have hf := Option.some.inj hf
    subst hf
    exact K61
  have hf := pm_ie hf c49
  by_cases c62 : v9 = 17
  · have hf := pm_it hf c62
    obtain ⟨v63, e64, hf⟩ := pm_bd hf
    have K65 := pw_t (by decide) (pw_sI K0 rfl k4 (by decide)) (wfX5_pop (pw_rf _) e64)
    obtain ⟨k66, hf⟩ := pm_if hf
    obtain ⟨v67, e68, hf⟩ := pm_bd hf
    obtain ⟨k69, hf⟩ := pm_if hf
    obtain ⟨y70, e71, hf⟩ := pm_lt hf
    obtain ⟨v72, e73, hf⟩ := pm_bd hf
    have K74 := pw_t (by decide) (pw_sI K65 rfl k69 (by decide)) (wfX5_callByTable (pw_rf _) e73)
    exact wfX5_stepOnStack_b318 K74  hf
  have hf := pm_ie hf c62
  by_cases c75 : v9 = 32
  · have hf := pm_it hf c75
    obtain ⟨v76, e77, hf⟩ := pm_bd hf
    obtain ⟨v78, e79, hf⟩ := pm_bd hf
    obtain ⟨v80, e81, hf⟩ := pm_bd hf
    have K82 := pw_t (by decide) (pw_sI K0 rfl k4 (by decide)) (wfX5_push (pw_rf _) e81)
    have hf := Option.some.inj hf
    subst hf
    exact K82
  have hf := pm_ie hf c75
  by_cases c83 : v9 = 33
  · have hf := pm_it hf c83
    obtain ⟨v84, e85, hf⟩ := pm_bd hf
    obtain ⟨v86, e87, hf⟩ := pm_bd hf
    have K88 := pw_t (by decide) (pw_sI K0 rfl k4 (by decide)) (wfX5_pop (pw_rf _) e87)
    obtain ⟨v89, e90, hf⟩ := pm_bd hf
    have K91 := pw_t (by decide) K88 (wfX12_setItem_ (pw_rf _) e90)
    have hf := Option.some.inj hf
    subst hf
    exact K91
  have hf := pm_ie hf c83
  by_cases c92 : v9 = 34
  · have hf := pm_it hf c92
    obtain ⟨v93, e94, hf⟩ := pm_bd hf
    obtain ⟨v95, e96, hf⟩ := pm_bd hf
    obtain ⟨v97, e98, hf⟩ := pm_bd hf
    have K99 := pw_t (by decide) (pw_sI K0 rfl k4 (by decide)) (wfX12_setItem_ (pw_rf _) e98)
    have hf := Option.some.inj hf
    subst hf
    exact K99
  have hf := pm_ie hf c92
  by_cases c100 : v9 = 65
  · have hf := pm_it hf c100
    obtain ⟨v101, e102, hf⟩ := pm_bd hf
    have K103 := pw_t (by decide) (pw_sI K0 rfl k4 (by decide)) (wfX5_push (pw_rf _) e102)
    have hf := Option.some.inj hf
    subst hf
    exact K103
  have hf := pm_ie hf c100
  obtain ⟨y104, e105, hf⟩ := pm_lt hf
  obtain ⟨y106, e107, hf⟩ := pm_lt hf
  by_cases c108 : y104 ≤ 0
  · have hf := pm_it hf c108
    exact wfX5_stepOnStack_b465 (pw_sI (pw_sI K0 rfl k4 (by decide)) (pkI rfl) k4 (by decide))  hf
  · have hf := pm_ie hf c108
    obtain ⟨v109, e110, hf⟩ := pm_bd hf
    obtain ⟨v111, e112, hf⟩ := pm_bd hf
    exact wfX5_stepOnStack_b465 (pw_sI (pw_sI K0 rfl k4 (by decide)) (pkI rfl) k4 (by decide))  hf
set_option maxHeartbeats 4000000 in
set_option maxRecDepth 100000 in
theorem wfX5_stepOnStack {h0 h : pm_H} (K0 : pw_F WX5_stepOnStack h0 h) {a0 : Nat}  {r : pm_H} (hf : fX5_stepOnStack h a0 = some r) : pw_F WX5_stepOnStack h0 r := by
  unfold fX5_stepOnStack at hf
  exact wfX5_stepOnStack_b0 K0  hf
abbrev WX10_fillSegments : List Nat := [769, 1024, 1152, 1153, 1154, 1155, 1156, 1157, 1158, 1159, 1160, 1161, 1168, 1280, 1409, 4224, 4352, 4480, 4608, 4736]
set_option maxHeartbeats 4000000 in
set_option maxRecDepth 100000 in
theorem wlX10_fillSegments {h0 : pm_H} {r : (Int32 × pm_H)} : ∀ n : Nat, (∀ (x0 : Nat) (x1 : Nat) (h : pm_H), pw_F WX10_fillSegments h0 h → pm_iter sX10_fillSegments n (.inl (x0, x1, h)) = some r → pw_F WX10_fillSegments h0 r.2) ∧ (∀ (x0 : Nat) (x1 : Nat) (x2 : Nat) (x3 : Int32) (h : pm_H), pw_F WX10_fillSegments h0 h → pm_iter sX10_fillSegments n (.inr (.inl (x0, x1, x2, x3, h))) = some r → pw_F WX10_fillSegments h0 r.2) ∧ (∀ (x0 : Nat) (x1 : Nat) (x2 : Nat) (x3 : Int32) (h : pm_H), pw_F WX10_fillSegments h0 h → pm_iter sX10_fillSegments n (.inr (.inr (.inl (x0, x1, x2, x3, h)))) = some r → pw_F WX10_fillSegments h0 r.2) ∧ (∀ (x0 : Nat) (x1 : Nat) (x2 : Nat) (x3 : Int32) (x5 : Int32) (s0 : Int64) (h : pm_H), pw_F WX10_fillSegments h0 h → pm_iter sX10_fillSegments n (.inr (.inr (.inr (.inl (x0, x1, x2, x3, x5, s0, h))))) = some r → pw_F WX10_fillSegments h0 r.2) ∧ (∀ (x0 : Nat) (x1 : Nat) (x2 : Nat) (x3 : Int32) (s0 : Int64) (h : pm_H), pw_F WX10_fillSegments h0 h → pm_iter sX10_fillSegments n (.inr (.inr (.inr (.inr (x0, x1, x2, x3, s0, h))))) = some r → pw_F WX10_fillSegments h0 r.2) := by
  intro n
  induction n with
  | zero => exact ⟨fun _ _ _ _ hf => (by cases hf), fun _ _ _ _ _ _ hf => (by cases hf), fun _ _ _ _ _ _ hf => (by cases hf), fun _ _ _ _ _ _ _ _ hf => (by cases hf), fun _ _ _ _ _ _ _ hf => (by cases hf)⟩
  | succ n ih =>
    refine ⟨fun x0 x1 h K0 hf => ?_, ?_⟩
    · obtain ⟨y, hf, hi⟩ := pm_iter_s hf
      have hf : tX10_fillSegments_0 x0 x1 h = some y := hf
      unfold tX10_fillSegments_0 at hf
      obtain ⟨k1, hf⟩ := pm_if hf
      obtain ⟨v2, e3, hf⟩ := pm_bd hf
      cases hf
      exact ih.2.1 x0 x1 v2 0 h K0  hi
    refine ⟨fun x0 x1 x2 x3 h K0 hf => ?_, ?_⟩
    · obtain ⟨y, hf, hi⟩ := pm_iter_s hf
      have hf : tX10_fillSegments_7 x0 x1 x2 x3 h = some y := hf
      unfold tX10_fillSegments_7 at hf
      obtain ⟨k4, hf⟩ := pm_if hf
      obtain ⟨v5, e6, hf⟩ := pm_bd hf
      obtain ⟨k7, hf⟩ := pm_if hf
      by_cases c8 : (Int32.ofNat (pm_ln h v5)) ≤ x3
      · have hf := pm_it hf c8
        cases hf
        exact ih.2.2.1 x0 x1 x2 0 h K0  hi
      · have hf := pm_ie hf c8
        obtain ⟨y9, e10, hf⟩ := pm_lt hf
        obtain ⟨k11, hf⟩ := pm_if hf
        obtain ⟨v12, e13, hf⟩ := pm_bd hf
        obtain ⟨v14, e15, hf⟩ := pm_bd hf
        by_cases c16 : v14 = 0
        · have hf := pm_it hf c16
          obtain ⟨k17, hf⟩ := pm_if hf
          obtain ⟨v18, e19, hf⟩ := pm_bd hf
          obtain ⟨v20, e21, hf⟩ := pm_bd hf
          obtain ⟨k22, hf⟩ := pm_if hf
          obtain ⟨v23, e24, hf⟩ := pm_bd hf
          have K25 := pw_t (by decide) K0 (wfX9_open (pw_rf _) e24)
          obtain ⟨k26, hf⟩ := pm_if hf
          obtain ⟨v27, e28, hf⟩ := pm_bd hf
          obtain ⟨v29, e30, hf⟩ := pm_bd hf
          obtain ⟨k31, hf⟩ := pm_if hf
          obtain ⟨v32, e33, hf⟩ := pm_bd hf
          have K34 := pw_t (by decide) K25 (wfX10_constant (pw_rf _) e33)
          obtain ⟨k35, hf⟩ := pm_if hf
          obtain ⟨v36, e37, hf⟩ := pm_bd hf
          obtain ⟨v38, e39, hf⟩ := pm_bd hf
          obtain ⟨k40, hf⟩ := pm_if hf
          obtain ⟨v41, e42, hf⟩ := pm_bd hf
          have K43 := pw_t (by decide) K34 (wfX10_perform (pw_rf _) e42)
          cases hf
          exact ih.2.2.2.1 x0 x1 x2 x3 v14 v41.1 v41.2 K43  hi
        · have hf := pm_ie hf c16
          by_cases c44 : v14 = 1
          · have hf := pm_it hf c44
            obtain ⟨y45, e46, hf⟩ := pm_lt hf
            cases hf
            exact ih.2.1 x0 x1 x2 y45 h K0  hi
          · have hf := pm_ie hf c44
            obtain ⟨v47, e48, hf⟩ := pm_bd hf
            obtain ⟨v49, e50, hf⟩ := pm_bd hf
            have K51 := pw_t (by decide) K0 (wfX12_setItem (pw_rf _) e50)
            obtain ⟨y52, e53, hf⟩ := pm_lt hf
            cases hf
            exact ih.2.1 x0 x1 x2 y52 v49 K51  hi
    refine ⟨fun x0 x1 x2 x3 h K0 hf => ?_, ?_⟩
    · obtain ⟨y, hf, hi⟩ := pm_iter_s hf
      have hf : tX10_fillSegments_134 x0 x1 x2 x3 h = some y := hf
      unfold tX10_fillSegments_134 at hf
      obtain ⟨k54, hf⟩ := pm_if hf
      obtain ⟨v55, e56, hf⟩ := pm_bd hf
      obtain ⟨k57, hf⟩ := pm_if hf
      by_cases c58 : (Int32.ofNat (pm_ln h v55)) ≤ x3
      · have hf := pm_it hf c58
        have hf := Option.some.inj hf
        subst hf
        have hi := Option.some.inj (show some _ = some r from hi)
        subst hi
        exact K0
      · have hf := pm_ie hf c58
        obtain ⟨y59, e60, hf⟩ := pm_lt hf
        obtain ⟨k61, hf⟩ := pm_if hf
        obtain ⟨v62, e63, hf⟩ := pm_bd hf
        obtain ⟨v64, e65, hf⟩ := pm_bd hf
        by_cases c66 : v64 = 0
        · have hf := pm_it hf c66
          obtain ⟨k67, hf⟩ := pm_if hf
          obtain ⟨v68, e69, hf⟩ := pm_bd hf
          obtain ⟨v70, e71, hf⟩ := pm_bd hf
          obtain ⟨k72, hf⟩ := pm_if hf
          obtain ⟨v73, e74, hf⟩ := pm_bd hf
          have K75 := pw_t (by decide) K0 (wfX9_open (pw_rf _) e74)
          obtain ⟨k76, hf⟩ := pm_if hf
          obtain ⟨v77, e78, hf⟩ := pm_bd hf
          have K79 := pw_t (by decide) K75 (wfX10_constant (pw_rf _) e78)
          obtain ⟨k80, hf⟩ := pm_if hf
          obtain ⟨v81, e82, hf⟩ := pm_bd hf
          obtain ⟨v83, e84, hf⟩ := pm_bd hf
          obtain ⟨k85, hf⟩ := pm_if hf
          obtain ⟨v86, e87, hf⟩ := pm_bd hf
          have K88 := pw_t (by decide) K79 (wfX10_perform (pw_rf _) e87)
          cases hf
          exact ih.2.2.2.2 x0 x1 x2 x3 v86.1 v86.2 K88  hi
        · have hf := pm_ie hf c66
          obtain ⟨y89, e90, hf⟩ := pm_lt hf
          cases hf
          exact ih.2.2.1 x0 x1 x2 y89 h K0  hi
    refine ⟨fun x0 x1 x2 x3 x5 s0 h K0 hf => ?_, ?_⟩
    · obtain ⟨y, hf, hi⟩ := pm_iter_s hf
      have hf : tX10_fillSegments_98 x0 x1 x2 x3 x5 s0 h = some y := hf
      unfold tX10_fillSegments_98 at hf
      obtain ⟨k91, hf⟩ := pm_if hf
      by_cases c92 : (pm_I h x0 0) = 0
      · have hf := pm_it hf c92
        by_cases c93 : x5 = 1
        · have hf := pm_it hf c93
          obtain ⟨y94, e95, hf⟩ := pm_lt hf
          cases hf
          exact ih.2.1 x0 x1 x2 y94 h K0  hi
        · have hf := pm_ie hf c93
          obtain ⟨k96, hf⟩ := pm_if hf
          obtain ⟨v97, e98, hf⟩ := pm_bd hf
          obtain ⟨v99, e100, hf⟩ := pm_bd hf
          have K101 := pw_t (by decide) K0 (wfX12_setItem (pw_rf _) e100)
          obtain ⟨y102, e103, hf⟩ := pm_lt hf
          cases hf
          exact ih.2.1 x0 x1 x2 y102 v99 K101  hi
      · have hf := pm_ie hf c92
        have hf := Option.some.inj hf
        subst hf
        have hi := Option.some.inj (show some _ = some r from hi)
        subst hi
        exact K0
    refine fun x0 x1 x2 x3 s0 h K0 hf => ?_
    obtain ⟨y, hf, hi⟩ := pm_iter_s hf
    have hf : tX10_fillSegments_210 x0 x1 x2 x3 s0 h = some y := hf
    unfold tX10_fillSegments_210 at hf
    obtain ⟨k104, hf⟩ := pm_if hf
    by_cases c105 : (pm_I h x0 0) = 0
    · have hf := pm_it hf c105
      obtain ⟨k106, hf⟩ := pm_if hf
      obtain ⟨v107, e108, hf⟩ := pm_bd hf
      obtain ⟨v109, e110, hf⟩ := pm_bd hf
      have K111 := pw_t (by decide) K0 (wfX12_setItem (pw_rf _) e110)
      obtain ⟨y112, e113, hf⟩ := pm_lt hf
      cases hf
      exact ih.2.2.1 x0 x1 x2 y112 v109 K111  hi
    · have hf := pm_ie hf c105
      have hf := Option.some.inj hf
      subst hf
      have hi := Option.some.inj (show some _ = some r from hi)
      subst hi
      exact K0
set_option maxHeartbeats 4000000 in
set_option maxRecDepth 100000 in
theorem wfX10_fillSegments {h0 h : pm_H} (K0 : pw_F WX10_fillSegments h0 h) {a0 : Nat} {p1 : Nat}  {r : (Int32 × pm_H)} (hf : fX10_fillSegments h a0 p1 = some r) : pw_F WX10_fillSegments h0 r.2 := by
  unfold fX10_fillSegments at hf
  obtain ⟨n, hn⟩ := pm_lim_iter hf
  exact (wlX10_fillSegments n).1 a0 p1 h K0  hn
abbrev WX12_make : List Nat := [0, 1, 5, 6, 7, 8, 256, 257, 258, 259, 260, 261, 262, 263, 264, 265, 267, 268, 384, 385, 386, 387, 388, 389, 390, 391, 512, 513, 514, 515, 516, 517, 518, 519, 640, 641, 642, 643, 644, 647, 652, 653, 654, 768, 769, 1024, 1152, 1153, 1154, 1155, 1156, 1157, 1158, 1159, 1160, 1161, 1168, 1280, 1281, 1282, 1283, 1289, 1297, 1408, 1409, 1549, 4096, 4224, 4352, 4480, 4608, 4736, 4864, 5120]
set_option maxHeartbeats 4000000 in
set_option maxRecDepth 100000 in
theorem wfX12_make_b155 {h0 h : pm_H} (K0 : pw_F WX12_make h0 h) {x0 : Nat}  {r : (Int32 × pm_H)} (hf : fX12_make_b155 h x0 = some r) : pw_F WX12_make h0 r.2 := by
  unfold fX12_make_b155 at hf
  obtain ⟨k68, hf⟩ := pm_if hf
  obtain ⟨v69, e70, hf⟩ := pm_bd hf
  obtain ⟨k71, hf⟩ := pm_if hf
  have hf := Option.some.inj hf
  subst hf
  exact K0
set_option maxHeartbeats 4000000 in
set_option maxRecDepth 100000 in
theorem wfX12_make_b102 {h0 h : pm_H} (K0 : pw_F WX12_make h0 h) {x0 : Nat} {x2 : Nat} {x5 : Nat} {s0 : Int32}  {r : (Int32 × pm_H)} (hf : fX12_make_b102 h x0 x2 x5 s0 = some r) : pw_F WX12_make h0 r.2 := by
  unfold fX12_make_b102 at hf
  by_cases c44 : s0 = 0
  · have hf := pm_it hf c44
    obtain ⟨k45, hf⟩ := pm_if hf
    by_cases c46 : (pm_L h x2 13) < 0
    · have hf := pm_it hf c46
      exact wfX12_make_b155 K0  hf
    · have hf := pm_ie hf c46
      obtain ⟨k47, hf⟩ := pm_if hf
      obtain ⟨v48, e49, hf⟩ := pm_bd hf
      obtain ⟨k50, hf⟩ := pm_if hf
      obtain ⟨v51, e52, hf⟩ := pm_bd hf
      obtain ⟨v53, e54, hf⟩ := pm_bd hf
      obtain ⟨v55, e56, hf⟩ := pm_bd hf
      obtain ⟨k57, hf⟩ := pm_if hf
      obtain ⟨v58, e59, hf⟩ := pm_bd hf
      have K60 := pw_t (by decide) K0 (wfX5_begin (pw_rf _) e59)
      exact wfX12_make_b155 K60  hf
  · have hf := pm_ie hf c44
    obtain ⟨k61, hf⟩ := pm_if hf
    obtain ⟨v62, e63, hf⟩ := pm_bd hf
    obtain ⟨k64, hf⟩ := pm_if hf
    obtain ⟨v65, e66, hf⟩ := pm_bd hf
    have K67 := pw_t (by decide) K0 (wfX5_failAtMaking (pw_rf _) e66)
    exact wfX12_make_b155 K67  hf
set_option maxHeartbeats 4000000 in
set_option maxRecDepth 100000 in
theorem wfX12_make_b91 {h0 h : pm_H} (K0 : pw_F WX12_make h0 h) {x0 : Nat} {x2 : Nat} {s0 : Nat}  {r : (Int32 × pm_H)} (hf : fX12_make_b91 h x0 x2 s0 = some r) : pw_F WX12_make h0 r.2 := by
  unfold fX12_make_b91 at hf
  obtain ⟨k37, hf⟩ := pm_if hf
  obtain ⟨v38, e39, hf⟩ := pm_bd hf
  obtain ⟨k40, hf⟩ := pm_if hf
  obtain ⟨v41, e42, hf⟩ := pm_bd hf
  have K43 := pw_t (by decide) K0 (wfX10_fillSegments (pw_rf _) e42)
  exact wfX12_make_b102 K43  hf
set_option maxHeartbeats 4000000 in
set_option maxRecDepth 100000 in
theorem wfX12_make_b59 {h0 h : pm_H} (K0 : pw_F WX12_make h0 h) {x0 : Nat} {x2 : Nat} {s0 : Int32}  {r : (Int32 × pm_H)} (hf : fX12_make_b59 h x0 x2 s0 = some r) : pw_F WX12_make h0 r.2 := by
  unfold fX12_make_b59 at hf
  obtain ⟨k25, hf⟩ := pm_if hf
  obtain ⟨y26, e27, hf⟩ := pm_lt hf
  by_cases c28 : s0 = 0
  · have hf := pm_it hf c28
    obtain ⟨v29, e30, hf⟩ := pm_bd hf
    obtain ⟨v31, e32, hf⟩ := pm_bd hf
    obtain ⟨k33, hf⟩ := pm_if hf
    have k33b := (congrFun (pkI rfl) v29).symm.trans k33
    obtain ⟨v34, e35, hf⟩ := pm_bd hf
    have K36 := pw_t (by decide) (pw_sI K0 rfl k25 (by decide)) (wfX10_create (pw_rf _) e35)
    exact wfX12_make_b91 K36  hf
  · have hf := pm_ie hf c28
    have hf := Option.some.inj hf
    subst hf
    exact (pw_sI K0 rfl k25 (by decide))
set_option maxHeartbeats 4000000 in
set_option maxRecDepth 100000 in
theorem wfX12_make_b0 {h0 h : pm_H} (K0 : pw_F WX12_make h0 h) {x0 : Nat} {x1 : Int32}  {r : (Int32 × pm_H)} (hf : fX12_make_b0 h x0 x1 = some r) : pw_F WX12_make h0 r.2 := by
  unfold fX12_make_b0 at hf
  by_cases c1 : x1 < 0
  · have hf := pm_it hf c1
    have hf := Option.some.inj hf
    subst hf
    exact K0
  · have hf := pm_ie hf c1
    obtain ⟨k2, hf⟩ := pm_if hf
    by_cases c3 : (pm_I h x0 4) ≤ x1
    · have hf := pm_it hf c3
      have hf := Option.some.inj hf
      subst hf
      exact K0
    · have hf := pm_ie hf c3
      obtain ⟨v4, e5, hf⟩ := pm_bd hf
      obtain ⟨k6, hf⟩ := pm_if hf
      by_cases c7 : x1 < (Int32.ofNat (pm_ln h v4))
      · have hf := pm_it hf c7
        obtain ⟨v8, e9, hf⟩ := pm_bd hf
        obtain ⟨k10, hf⟩ := pm_if hf
        obtain ⟨v11, e12, hf⟩ := pm_bd hf
        by_cases c13 : v11 = 0
        · have hf := pm_it hf c13
          obtain ⟨u14, hf⟩ := pm_if hf
          obtain ⟨v15, e16, hf⟩ := pm_bd hf
          obtain ⟨v17, e18, hf⟩ := pm_bd hf
          obtain ⟨v19, e20, hf⟩ := pm_bd hf
          obtain ⟨k21, hf⟩ := pm_if hf
          obtain ⟨v22, e23, hf⟩ := pm_bd hf
          have K24 := pw_t (by decide) K0 (wfX10_refusal (pw_rf _) e23)
          exact wfX12_make_b59 K24  hf
        · have hf := pm_ie hf c13
          have hf := Option.some.inj hf
          subst hf
          exact K0
      · have hf := pm_ie hf c7
        have hf := Option.some.inj hf
        subst hf
        exact K0
set_option maxHeartbeats 4000000 in
set_option maxRecDepth 100000 in
theorem wfX12_make {h0 h : pm_H} (K0 : pw_F WX12_make h0 h) {a0 : Nat} {p1 : Int32}  {r : (Int32 × pm_H)} (hf : fX12_make h a0 p1 = some r) : pw_F WX12_make h0 r.2 := by
  unfold fX12_make at hf
  exact wfX12_make_b0 K0  hf
abbrev WX12_module : List Nat := [0, 1, 2, 3, 4, 5, 7, 8, 128, 129, 130, 132, 134, 135, 136, 138, 140, 142, 145, 896, 897, 898, 899, 900, 901, 902, 903, 904, 905, 906, 907, 908, 909, 910, 1152, 1153, 1154, 1155, 1156, 1157, 1158, 1159, 1160, 1161, 1162, 1163, 1164, 1165, 1166, 1167, 1168, 1537, 1540, 1541, 1542, 1543, 4096, 4224, 4352, 4480, 4608, 4864, 5248]
set_option maxHeartbeats 4000000 in
set_option maxRecDepth 100000 in
theorem wlX12_module {h0 : pm_H} {r : (Int32 × pm_H)} : ∀ n : Nat, (∀ (x0 : Nat) (x1 : Int32) (h : pm_H), pw_F WX12_module h0 h → pm_iter sX12_module n (.inl (x0, x1, h)) = some r → pw_F WX12_module h0 r.2) ∧ (∀ (x0 : Nat) (x1 : Int32) (s0 : Nat) (h : pm_H), pw_F WX12_module h0 h → pm_iter sX12_module n (.inr (.inl (x0, x1, s0, h))) = some r → pw_F WX12_module h0 r.2) ∧ (∀ (x0 : Nat) (x1 : Int32) (s0 : Nat) (s1 : Nat) (s2 : Nat) (h : pm_H), pw_F WX12_module h0 h → pm_iter sX12_module n (.inr (.inr (.inl (x0, x1, s0, s1, s2, h)))) = some r → pw_F WX12_module h0 r.2) ∧ (∀ (x0 : Nat) (x1 : Int32) (s0 : Nat) (h : pm_H), pw_F WX12_module h0 h → pm_iter sX12_module n (.inr (.inr (.inr (.inl (x0, x1, s0, h))))) = some r → pw_F WX12_module h0 r.2) ∧ (∀ (x0 : Nat) (x1 : Int32) (x2 : Nat) (x3 : Int32) (h : pm_H), pw_F WX12_module h0 h → pm_iter sX12_module n (.inr (.inr (.inr (.inr (.inl (x0, x1, x2, x3, h)))))) = some r → pw_F WX12_module h0 r.2) ∧ (∀ (x0 : Nat) (x2 : Nat) (h : pm_H), pw_F WX12_module h0 h → pm_iter sX12_module n (.inr (.inr (.inr (.inr (.inr (.inl (x0, x2, h))))))) = some r → pw_F WX12_module h0 r.2) ∧ (∀ (x0 : Nat) (x1 : Int32) (x2 : Nat) (x3 : Int32) (h : pm_H), pw_F WX12_module h0 h → pm_iter sX12_module n (.inr (.inr (.inr (.inr (.inr (.inr (.inl (x0, x1, x2, x3, h)))))))) = some r → pw_F WX12_module h0 r.2) ∧ (∀ (x0 : Nat) (x2 : Nat) (h : pm_H), pw_F WX12_module h0 h → pm_iter sX12_module n (.inr (.inr (.inr (.inr (.inr (.inr (.inr (.inl (x0, x2, h))))))))) = some r → pw_F WX12_module h0 r.2) ∧ (∀ (x0 : Nat) (x2 : Nat) (x3 : Int32) (h : pm_H), pw_F WX12_module h0 h → pm_iter sX12_module n (.inr (.inr (.inr (.inr (.inr (.inr (.inr (.inr (.inl (x0, x2, x3, h)))))))))) = some r → pw_F WX12_module h0 r.2) ∧ (∀ (x0 : Nat) (x2 : Nat) (h : pm_H), pw_F WX12_module h0 h → pm_iter sX12_module n (.inr (.inr (.inr (.inr (.inr (.inr (.inr (.inr (.inr (.inl (x0, x2, h))))))))))) = some r → pw_F WX12_module h0 r.2) ∧ (∀ (x0 : Nat) (x2 : Nat) (x3 : Int32) (h : pm_H), pw_F WX12_module h0 h → pm_iter sX12_module n (.inr (.inr (.inr (.inr (.inr (.inr (.inr (.inr (.inr (.inr (x0, x2, x3, h))))))))))) = some r → pw_F WX12_module h0 r.2) := by
  intro n
  induction n with
  | zero => exact ⟨fun _ _ _ _ hf => (by cases hf), fun _ _ _ _ _ hf => (by cases hf), fun _ _ _ _ _ _ _ hf => (by cases hf), fun _ _ _ _ _ hf => (by cases hf), fun _ _ _ _ _ _ hf => (by cases hf), fun _ _ _ _ hf => (by cases hf), fun _ _ _ _ _ _ hf => (by cases hf), fun _ _ _ _ hf => (by cases hf), fun _ _ _ _ _ hf => (by cases hf), fun _ _ _ _ hf => (by cases hf), fun _ _ _ _ _ hf => (by cases hf)⟩
  | succ n ih =>
    refine ⟨fun x0 x1 h K0 hf => ?_, ?_⟩
    · obtain ⟨y, hf, hi⟩ := pm_iter_s hf
      have hf : tX12_module_0 x0 x1 h = some y := hf
      unfold tX12_module_0 at hf
      by_cases c1 : x1 < 0
      · have hf := pm_it hf c1
        have hf := Option.some.inj hf
        subst hf
        have hi := Option.some.inj (show some _ = some r from hi)
        subst hi
        exact K0
      · have hf := pm_ie hf c1
        obtain ⟨k2, hf⟩ := pm_if hf
        by_cases c3 : (pm_I h x0 1) < x1
        · have hf := pm_it hf c3
          have hf := Option.some.inj hf
          subst hf
          have hi := Option.some.inj (show some _ = some r from hi)
          subst hi
          exact K0
        · have hf := pm_ie hf c3
          by_cases c4 : 40960 < x1
          · have hf := pm_it hf c4
            have hf := Option.some.inj hf
            subst hf
            have hi := Option.some.inj (show some _ = some r from hi)
            subst hi
            exact K0
          · have hf := pm_ie hf c4
            obtain ⟨v5, e6, hf⟩ := pm_bd hf
            obtain ⟨k7, hf⟩ := pm_if hf
            by_cases c8 : (pm_I h x0 4) < (Int32.ofNat (pm_ln h v5))
            · have hf := pm_it hf c8
              cases hf
              exact ih.2.1 x0 x1 (pm_sz h) (pm_new h 7 0) (pw_new K0)  hi
            · have hf := pm_ie hf c8
              have hf := Option.some.inj hf
              subst hf
              have hi := Option.some.inj (show some _ = some r from hi)
              subst hi
              exact K0
    refine ⟨fun x0 x1 s0 h K0 hf => ?_, ?_⟩
    · obtain ⟨y, hf, hi⟩ := pm_iter_s hf
      have hf : tX12_module_36 x0 x1 s0 h = some y := hf
      unfold tX12_module_36 at hf
      obtain ⟨k9, hf⟩ := pm_if hf
      obtain ⟨v10, e11, hf⟩ := pm_bd hf
      obtain ⟨v12, e13, hf⟩ := pm_bd hf
      have K14 := pw_t (by decide) K0 (wfJ7_copyOf_9075b (pw_rf _) e13)
      cases hf
      exact ih.2.2.1 x0 x1 v12.1 s0 s0 v12.2 K14  hi
    refine ⟨fun x0 x1 s0 s1 s2 h K0 hf => ?_, ?_⟩
    · obtain ⟨y, hf, hi⟩ := pm_iter_s hf
      have hf : tX12_module_45 x0 x1 s0 s1 s2 h = some y := hf
      unfold tX12_module_45 at hf
      obtain ⟨v15, e16, hf⟩ := pm_bd hf
      have K17 := pw_t (by decide) K0 (wfX7_init (pw_rf _) e16)
      cases hf
      exact ih.2.2.2.1 x0 x1 s2 v15 K17  hi
    refine ⟨fun x0 x1 s0 h K0 hf => ?_, ?_⟩
    · obtain ⟨y, hf, hi⟩ := pm_iter_s hf
      have hf : tX12_module_48 x0 x1 s0 h = some y := hf
      unfold tX12_module_48 at hf
      obtain ⟨k18, hf⟩ := pm_if hf
      obtain ⟨v19, e20, hf⟩ := pm_bd hf
      obtain ⟨k21, hf⟩ := pm_if hf
      have k21b := (congrFun (pkI (pkI rfl)) v19).symm.trans k21
      obtain ⟨v22, e23, hf⟩ := pm_bd hf
      have K24 := pw_t (by decide) (pw_sI (pw_sI K0 rfl k18 (by decide)) (pkI rfl) k18 (by decide)) (wfX9_begin (pw_rf _) e23)
      cases hf
      exact ih.2.2.2.2.1 x0 x1 s0 0 v22 K24  hi
    refine ⟨fun x0 x1 x2 x3 h K0 hf => ?_, ?_⟩
    · obtain ⟨y, hf, hi⟩ := pm_iter_s hf
      have hf : tX12_module_69 x0 x1 x2 x3 h = some y := hf
      unfold tX12_module_69 at hf
      by_cases c25 : x1 ≤ x3
      · have hf := pm_it hf c25
        cases hf
        exact ih.2.2.2.2.2.1 x0 x2 h K0  hi
      · have hf := pm_ie hf c25
        obtain ⟨k26, hf⟩ := pm_if hf
        obtain ⟨v27, e28, hf⟩ := pm_bd hf
        obtain ⟨k29, hf⟩ := pm_if hf
        obtain ⟨v30, e31, hf⟩ := pm_bd hf
        by_cases c32 : v30 = 0
        · have hf := pm_it hf c32
          cases hf
          exact ih.2.2.2.2.2.1 x0 x2 h K0  hi
        · have hf := pm_ie hf c32
          obtain ⟨v33, e34, hf⟩ := pm_bd hf
          have K35 := pw_t (by decide) K0 (wfX9_advance (pw_rf _) e34)
          cases hf
          exact ih.2.2.2.2.2.2.1 x0 x1 x2 x3 v33 K35  hi
    refine ⟨fun x0 x2 h K0 hf => ?_, ?_⟩
    · obtain ⟨y, hf, hi⟩ := pm_iter_s hf
      have hf : tX12_module_97 x0 x2 h = some y := hf
      unfold tX12_module_97 at hf
      obtain ⟨k36, hf⟩ := pm_if hf
      obtain ⟨v37, e38, hf⟩ := pm_bd hf
      obtain ⟨k39, hf⟩ := pm_if hf
      obtain ⟨v40, e41, hf⟩ := pm_bd hf
      have K42 := pw_t (by decide) K0 (wfX9_finish (pw_rf _) e41)
      obtain ⟨k43, hf⟩ := pm_if hf
      obtain ⟨v44, e45, hf⟩ := pm_bd hf
      obtain ⟨k46, hf⟩ := pm_if hf
      obtain ⟨y47, e48, hf⟩ := pm_lt hf
      obtain ⟨y49, e50, hf⟩ := pm_lt hf
      by_cases c51 : (pm_I (pm_setI (pm_setI v40 x0 6 y47) x0 7 y49) x0 6) = 0
      · have hf := pm_it hf c51
        obtain ⟨v52, e53, hf⟩ := pm_bd hf
        obtain ⟨k54, hf⟩ := pm_if hf
        have k54b := (congrFun (pkI (pkI rfl)) v52).symm.trans k54
        obtain ⟨v55, e56, hf⟩ := pm_bd hf
        have K57 := pw_t (by decide) (pw_sI (pw_sI K42 rfl k43 (by decide)) (pkI rfl) k43 (by decide)) (wfX1_check (pw_rf _) e56)
        cases hf
        exact ih.2.2.2.2.2.2.2.1 x0 x2 v55 K57  hi
      · have hf := pm_ie hf c51
        by_cases c58 : (pm_I (pm_setI (pm_setI v40 x0 6 y47) x0 7 y49) x0 6) = 0
        · have hf := pm_it hf c58
          obtain ⟨v59, e60, hf⟩ := pm_bd hf
          obtain ⟨k61, hf⟩ := pm_if hf
          have k61b := (congrFun (pkI (pkI (pkI rfl))) v59).symm.trans k61
          obtain ⟨k62, hf⟩ := pm_if hf
          have k62b := (congrFun (pkI (pkI (pkI rfl))) x2).symm.trans k62
          obtain ⟨u63, hf⟩ := pm_if hf
          obtain ⟨y64, e65, hf⟩ := pm_lt hf
          have hf := Option.some.inj hf
          subst hf
          have hi := Option.some.inj (show some _ = some r from hi)
          subst hi
          exact (pw_sI (pw_aR (pw_sI (pw_sI (pw_sI K42 rfl k43 (by decide)) (pkI rfl) k43 (by decide)) (pkI (pkI rfl)) k43 (by decide)) (pkI (pkI (pkI rfl))) k61b (by decide) (by decide)) (pkR (pkI (pkI (pkI rfl)))) k43 (by decide))
        · have hf := pm_ie hf c58
          have hf := Option.some.inj hf
          subst hf
          have hi := Option.some.inj (show some _ = some r from hi)
          subst hi
          exact (pw_sI (pw_sI K42 rfl k43 (by decide)) (pkI rfl) k43 (by decide))
    refine ⟨fun x0 x1 x2 x3 h K0 hf => ?_, ?_⟩
    · obtain ⟨y, hf, hi⟩ := pm_iter_s hf
      have hf : tX12_module_91 x0 x1 x2 x3 h = some y := hf
      unfold tX12_module_91 at hf
      obtain ⟨y66, e67, hf⟩ := pm_lt hf
      cases hf
      exact ih.2.2.2.2.1 x0 x1 x2 y66 h K0  hi
    refine ⟨fun x0 x2 h K0 hf => ?_, ?_⟩
    · obtain ⟨y, hf, hi⟩ := pm_iter_s hf
      have hf : tX12_module_148 x0 x2 h = some y := hf
      unfold tX12_module_148 at hf
      cases hf
      exact ih.2.2.2.2.2.2.2.2.1 x0 x2 0 h K0  hi
    refine ⟨fun x0 x2 x3 h K0 hf => ?_, ?_⟩
    · obtain ⟨y, hf, hi⟩ := pm_iter_s hf
      have hf : tX12_module_150 x0 x2 x3 h = some y := hf
      unfold tX12_module_150 at hf
      obtain ⟨k68, hf⟩ := pm_if hf
      obtain ⟨v69, e70, hf⟩ := pm_bd hf
      obtain ⟨k71, hf⟩ := pm_if hf
      by_cases c72 : (Int32.ofNat (pm_ln h v69)) ≤ x3
      · have hf := pm_it hf c72
        cases hf
        exact ih.2.2.2.2.2.2.2.2.2.1 x0 x2 h K0  hi
      · have hf := pm_ie hf c72
        obtain ⟨k73, hf⟩ := pm_if hf
        obtain ⟨v74, e75, hf⟩ := pm_bd hf
        obtain ⟨k76, hf⟩ := pm_if hf
        by_cases c77 : (pm_I h v74 0) = 0
        · have hf := pm_it hf c77
          obtain ⟨v78, e79, hf⟩ := pm_bd hf
          have K80 := pw_t (by decide) K0 (wfX1_body (pw_rf _) e79)
          cases hf
          exact ih.2.2.2.2.2.2.2.2.2.2 x0 x2 x3 v78 K80  hi
        · have hf := pm_ie hf c77
          cases hf
          exact ih.2.2.2.2.2.2.2.2.2.1 x0 x2 h K0  hi
    refine ⟨fun x0 x2 h K0 hf => ?_, ?_⟩
    · obtain ⟨y, hf, hi⟩ := pm_iter_s hf
      have hf : tX12_module_183 x0 x2 h = some y := hf
      unfold tX12_module_183 at hf
      obtain ⟨k81, hf⟩ := pm_if hf
      obtain ⟨v82, e83, hf⟩ := pm_bd hf
      obtain ⟨k84, hf⟩ := pm_if hf
      obtain ⟨y85, e86, hf⟩ := pm_lt hf
      obtain ⟨y87, e88, hf⟩ := pm_lt hf
      by_cases c89 : (pm_I (pm_setI (pm_setI h x0 6 y85) x0 7 y87) x0 6) = 0
      · have hf := pm_it hf c89
        obtain ⟨v90, e91, hf⟩ := pm_bd hf
        obtain ⟨k92, hf⟩ := pm_if hf
        have k92b := (congrFun (pkI (pkI (pkI rfl))) v90).symm.trans k92
        obtain ⟨k93, hf⟩ := pm_if hf
        have k93b := (congrFun (pkI (pkI (pkI rfl))) x2).symm.trans k93
        obtain ⟨u94, hf⟩ := pm_if hf
        obtain ⟨y95, e96, hf⟩ := pm_lt hf
        have hf := Option.some.inj hf
        subst hf
        have hi := Option.some.inj (show some _ = some r from hi)
        subst hi
        exact (pw_sI (pw_aR (pw_sI (pw_sI (pw_sI K0 rfl k81 (by decide)) (pkI rfl) k81 (by decide)) (pkI (pkI rfl)) k81 (by decide)) (pkI (pkI (pkI rfl))) k92b (by decide) (by decide)) (pkR (pkI (pkI (pkI rfl)))) k81 (by decide))
      · have hf := pm_ie hf c89
        have hf := Option.some.inj hf
        subst hf
        have hi := Option.some.inj (show some _ = some r from hi)
        subst hi
        exact (pw_sI (pw_sI K0 rfl k81 (by decide)) (pkI rfl) k81 (by decide))
    refine fun x0 x2 x3 h K0 hf => ?_
    obtain ⟨y, hf, hi⟩ := pm_iter_s hf
    have hf : tX12_module_177 x0 x2 x3 h = some y := hf
    unfold tX12_module_177 at hf
    obtain ⟨y97, e98, hf⟩ := pm_lt hf
    cases hf
    exact ih.2.2.2.2.2.2.2.2.1 x0 x2 y97 h K0  hi
set_option maxHeartbeats 4000000 in
set_option maxRecDepth 100000 in
theorem wfX12_module {h0 h : pm_H} (K0 : pw_F WX12_module h0 h) {a0 : Nat} {p1 : Int32}  {r : (Int32 × pm_H)} (hf : fX12_module h a0 p1 = some r) : pw_F WX12_module h0 r.2 := by
  unfold fX12_module at hf
  obtain ⟨n, hn⟩ := pm_lim_iter hf
  exact (wlX12_module n).1 a0 p1 h K0  hn
abbrev WX5_advance : List Nat := [6, 7, 8, 256, 257, 258, 259, 260, 261, 262, 263, 264, 265, 267, 268, 384, 385, 386, 387, 388, 389, 390, 391, 640, 641, 642, 643, 644, 647, 652, 653, 654, 769, 1024, 1280, 1282, 1409, 4096, 4224, 4352, 4480, 4608, 4736]
set_option maxHeartbeats 4000000 in
set_option maxRecDepth 100000 in
theorem wlX5_advance {h0 : pm_H} {r : (Int32 × pm_H)} : ∀ n : Nat, (∀ (x0 : Nat) (x1 : Int32) (h : pm_H), pw_F WX5_advance h0 h → pm_iter sX5_advance n (.inl (x0, x1, h)) = some r → pw_F WX5_advance h0 r.2) ∧ (∀ (x0 : Nat) (x1 : Int32) (x2 : Int32) (x3 : Int32) (h : pm_H), pw_F WX5_advance h0 h → pm_iter sX5_advance n (.inr (.inl (x0, x1, x2, x3, h))) = some r → pw_F WX5_advance h0 r.2) ∧ (∀ (x0 : Nat) (x1 : Int32) (x2 : Int32) (x3 : Int32) (x6 : Int32) (h : pm_H), pw_F WX5_advance h0 h → pm_iter sX5_advance n (.inr (.inr (.inl (x0, x1, x2, x3, x6, h)))) = some r → pw_F WX5_advance h0 r.2) ∧ (∀ (x0 : Nat) (x1 : Int32) (x2 : Int32) (x3 : Int32) (h : pm_H), pw_F WX5_advance h0 h → pm_iter sX5_advance n (.inr (.inr (.inr (.inl (x0, x1, x2, x3, h))))) = some r → pw_F WX5_advance h0 r.2) ∧ (∀ (x0 : Nat) (x1 : Int32) (x2 : Int32) (x3 : Int32) (h : pm_H), pw_F WX5_advance h0 h → pm_iter sX5_advance n (.inr (.inr (.inr (.inr (x0, x1, x2, x3, h))))) = some r → pw_F WX5_advance h0 r.2) := by
  intro n
  induction n with
  | zero => exact ⟨fun _ _ _ _ hf => (by cases hf), fun _ _ _ _ _ _ hf => (by cases hf), fun _ _ _ _ _ _ _ hf => (by cases hf), fun _ _ _ _ _ _ hf => (by cases hf), fun _ _ _ _ _ _ hf => (by cases hf)⟩
  | succ n ih =>
    refine ⟨fun x0 x1 h K0 hf => ?_, ?_⟩
    · obtain ⟨y, hf, hi⟩ := pm_iter_s hf
      have hf : tX5_advance_0 x0 x1 h = some y := hf
      unfold tX5_advance_0 at hf
      cases hf
      exact ih.2.1 x0 x1 0 0 h K0  hi
    refine ⟨fun x0 x1 x2 x3 h K0 hf => ?_, ?_⟩
    · obtain ⟨y, hf, hi⟩ := pm_iter_s hf
      have hf : tX5_advance_4 x0 x1 x2 x3 h = some y := hf
      unfold tX5_advance_4 at hf
      by_cases c1 : x1 ≤ x3
      · have hf := pm_it hf c1
        obtain ⟨k2, hf⟩ := pm_if hf
        obtain ⟨y3, e4, hf⟩ := pm_lt hf
        have hf := Option.some.inj hf
        subst hf
        have hi := Option.some.inj (show some _ = some r from hi)
        subst hi
        exact (pw_sI K0 rfl k2 (by decide))
      · have hf := pm_ie hf c1
        by_cases c5 : x1 ≤ x2
        · have hf := pm_it hf c5
          obtain ⟨k6, hf⟩ := pm_if hf
          obtain ⟨y7, e8, hf⟩ := pm_lt hf
          have hf := Option.some.inj hf
          subst hf
          have hi := Option.some.inj (show some _ = some r from hi)
          subst hi
          exact (pw_sI K0 rfl k6 (by decide))
        · have hf := pm_ie hf c5
          obtain ⟨k9, hf⟩ := pm_if hf
          by_cases c10 : (pm_I h x0 0) = 1
          · have hf := pm_it hf c10
            obtain ⟨v11, e12, hf⟩ := pm_bd hf
            obtain ⟨k13, hf⟩ := pm_if hf
            by_cases c14 : (pm_I h v11 7) = 0
            · have hf := pm_it hf c14
              obtain ⟨v15, e16, hf⟩ := pm_bd hf
              have K17 := pw_t (by decide) K0 (wfX5_stepOnStack (pw_rf _) e16)
              cases hf
              exact ih.2.2.2.1 x0 x1 x2 x3 v15 K17  hi
            · have hf := pm_ie hf c14
              obtain ⟨y18, e19, hf⟩ := pm_lt hf
              obtain ⟨v20, e21, hf⟩ := pm_bd hf
              obtain ⟨v22, e23, hf⟩ := pm_bd hf
              obtain ⟨y24, e25, hf⟩ := pm_lt hf
              obtain ⟨y26, e27, hf⟩ := pm_lt hf
              obtain ⟨y28, e29, hf⟩ := pm_lt hf
              by_cases c30 : y24 ≤ y28
              · have hf := pm_it hf c30
                by_cases c31 : y28 = y24
                · have hf := pm_it hf c31
                  obtain ⟨v32, e33, hf⟩ := pm_bd hf
                  have K34 := pw_t (by decide) (pw_sI K0 rfl k9 (by decide)) (wfX5_stepOnRegisters (pw_rf _) e33)
                  cases hf
                  exact ih.2.2.1 x0 x1 x2 x3 y28 v32 K34  hi
                · have hf := pm_ie hf c31
                  cases hf
                  exact ih.2.2.1 x0 x1 x2 x3 y28 (pm_setI h x0 14 0) (pw_sI K0 rfl k9 (by decide))  hi
              · have hf := pm_ie hf c30
                obtain ⟨y35, e36, hf⟩ := pm_lt hf
                by_cases c37 : y28 = y24
                · have hf := pm_it hf c37
                  obtain ⟨v38, e39, hf⟩ := pm_bd hf
                  have K40 := pw_t (by decide) (pw_sI K0 rfl k9 (by decide)) (wfX5_stepOnRegisters (pw_rf _) e39)
                  cases hf
                  exact ih.2.2.1 x0 x1 x2 x3 y28 v38 K40  hi
                · have hf := pm_ie hf c37
                  cases hf
                  exact ih.2.2.1 x0 x1 x2 x3 y28 (pm_setI h x0 14 y35) (pw_sI K0 rfl k9 (by decide))  hi
          · have hf := pm_ie hf c10
            obtain ⟨y41, e42, hf⟩ := pm_lt hf
            have hf := Option.some.inj hf
            subst hf
            have hi := Option.some.inj (show some _ = some r from hi)
            subst hi
            exact (pw_sI K0 rfl k9 (by decide))
    refine ⟨fun x0 x1 x2 x3 x6 h K0 hf => ?_, ?_⟩
    · obtain ⟨y, hf, hi⟩ := pm_iter_s hf
      have hf : tX5_advance_120 x0 x1 x2 x3 x6 h = some y := hf
      unfold tX5_advance_120 at hf
      obtain ⟨y49, e50, hf⟩ := pm_lt hf
      obtain ⟨k51, hf⟩ := pm_if hf
      obtain ⟨v52, e53, hf⟩ := pm_bd hf
      have K54 := pw_t (by decide) K0 (wfX5_settle (pw_rf _) e53)
      cases hf
      exact ih.2.2.2.2 x0 x1 y49 x3 v52 K54  hi
    refine ⟨fun x0 x1 x2 x3 h K0 hf => ?_, ?_⟩
    · obtain ⟨y, hf, hi⟩ := pm_iter_s hf
      have hf : tX5_advance_36 x0 x1 x2 x3 h = some y := hf
      unfold tX5_advance_36 at hf
      obtain ⟨y43, e44, hf⟩ := pm_lt hf
      obtain ⟨k45, hf⟩ := pm_if hf
      obtain ⟨v46, e47, hf⟩ := pm_bd hf
      have K48 := pw_t (by decide) K0 (wfX5_settle (pw_rf _) e47)
      cases hf
      exact ih.2.2.2.2 x0 x1 y43 x3 v46 K48  hi
    refine fun x0 x1 x2 x3 h K0 hf => ?_
    obtain ⟨y, hf, hi⟩ := pm_iter_s hf
    have hf : tX5_advance_129 x0 x1 x2 x3 h = some y := hf
    unfold tX5_advance_129 at hf
    obtain ⟨y55, e56, hf⟩ := pm_lt hf
    cases hf
    exact ih.2.1 x0 x1 x2 y55 h K0  hi
set_option maxHeartbeats 4000000 in
set_option maxRecDepth 100000 in
theorem wfX5_advance {h0 h : pm_H} (K0 : pw_F WX5_advance h0 h) {a0 : Nat} {p1 : Int32}  {r : (Int32 × pm_H)} (hf : fX5_advance h a0 p1 = some r) : pw_F WX5_advance h0 r.2 := by
  unfold fX5_advance at hf
  obtain ⟨n, hn⟩ := pm_lim_iter hf
  exact (wlX5_advance n).1 a0 p1 h K0  hn
abbrev WX12_run : List Nat := [6, 7, 8, 256, 257, 258, 259, 260, 261, 262, 263, 264, 265, 267, 268, 384, 385, 386, 387, 388, 389, 390, 391, 640, 641, 642, 643, 644, 647, 652, 653, 654, 769, 1024, 1280, 1282, 1409, 4096, 4224, 4352, 4480, 4608, 4736]
set_option maxHeartbeats 4000000 in
set_option maxRecDepth 100000 in
theorem wfX12_run_b20 {h0 h : pm_H} (K0 : pw_F WX12_run h0 h) {s0 : Int32}  {r : (Int32 × pm_H)} (hf : fX12_run_b20 h s0 = some r) : pw_F WX12_run h0 r.2 := by
  unfold fX12_run_b20 at hf
  have hf := Option.some.inj hf
  subst hf
  exact K0
set_option maxHeartbeats 4000000 in
set_option maxRecDepth 100000 in
theorem wfX12_run_b0 {h0 h : pm_H} (K0 : pw_F WX12_run h0 h) {x0 : Nat} {x1 : Int32}  {r : (Int32 × pm_H)} (hf : fX12_run_b0 h x0 x1 = some r) : pw_F WX12_run h0 r.2 := by
  unfold fX12_run_b0 at hf
  by_cases c1 : x1 < 0
  · have hf := pm_it hf c1
    have hf := Option.some.inj hf
    subst hf
    exact K0
  · have hf := pm_ie hf c1
    by_cases c2 : x1 ≤ 100000
    · have hf := pm_it hf c2
      obtain ⟨k3, hf⟩ := pm_if hf
      obtain ⟨v4, e5, hf⟩ := pm_bd hf
      obtain ⟨k6, hf⟩ := pm_if hf
      obtain ⟨v7, e8, hf⟩ := pm_bd hf
      have K9 := pw_t (by decide) K0 (wfX5_advance (pw_rf _) e8)
      exact wfX12_run_b20 K9  hf
    · have hf := pm_ie hf c2
      have hf := Option.some.inj hf
      subst hf
      exact K0
set_option maxHeartbeats 4000000 in
set_option maxRecDepth 100000 in
theorem wfX12_run {h0 h : pm_H} (K0 : pw_F WX12_run h0 h) {a0 : Nat} {p1 : Int32}  {r : (Int32 × pm_H)} (hf : fX12_run h a0 p1 = some r) : pw_F WX12_run h0 r.2 := by
  unfold fX12_run at hf
  exact wfX12_run_b0 K0  hf
abbrev WX16_init : List Nat := [2048, 2052, 2057, 2062, 2063, 2068, 2070, 2073, 2074, 2075, 2076, 2080, 2082, 2083, 2085, 2086, 2087, 2088, 2089, 2090, 2091, 2095, 2096, 2097, 2098, 2099, 2101, 2102, 2103, 2104, 2105, 2107, 2108, 2109, 2111, 2112, 2113, 2114, 2115, 2116, 2117, 2118, 2120, 2122, 2123, 2127, 2130, 2132, 2134, 2135, 2136, 2137, 2138, 2139, 2140, 2145, 2146, 2147, 2148, 4352]
set_option maxHeartbeats 4000000 in
set_option maxRecDepth 100000 in
theorem wlX16_init {h0 : pm_H} {r : pm_H} : ∀ n : Nat, (∀ (x0 : Nat) (h : pm_H), pw_F WX16_init h0 h → pm_iter sX16_init n (.inl (x0, h)) = some r → pw_F WX16_init h0 r) ∧ (∀ (x0 : Nat) (s0 : Nat) (s1 : Nat) (h : pm_H), pw_F WX16_init h0 h → pm_iter sX16_init n (.inr (.inl (x0, s0, s1, h))) = some r → pw_F WX16_init h0 r) ∧ (∀ (x0 : Nat) (s0 : Nat) (s1 : Nat) (h : pm_H), pw_F WX16_init h0 h → pm_iter sX16_init n (.inr (.inr (.inl (x0, s0, s1, h)))) = some r → pw_F WX16_init h0 r) ∧ (∀ (x0 : Nat) (s0 : Nat) (s1 : Nat) (h : pm_H), pw_F WX16_init h0 h → pm_iter sX16_init n (.inr (.inr (.inr (.inl (x0, s0, s1, h))))) = some r → pw_F WX16_init h0 r) ∧ (∀ (x0 : Nat) (s0 : Nat) (s1 : Nat) (h : pm_H), pw_F WX16_init h0 h → pm_iter sX16_init n (.inr (.inr (.inr (.inr (.inl (x0, s0, s1, h)))))) = some r → pw_F WX16_init h0 r) ∧ (∀ (x0 : Nat) (s0 : Nat) (s1 : Nat) (h : pm_H), pw_F WX16_init h0 h → pm_iter sX16_init n (.inr (.inr (.inr (.inr (.inr (.inl (x0, s0, s1, h))))))) = some r → pw_F WX16_init h0 r) ∧ (∀ (x0 : Nat) (s0 : Nat) (s1 : Nat) (h : pm_H), pw_F WX16_init h0 h → pm_iter sX16_init n (.inr (.inr (.inr (.inr (.inr (.inr (.inl (x0, s0, s1, h)))))))) = some r → pw_F WX16_init h0 r) ∧ (∀ (x0 : Nat) (s0 : Nat) (s1 : Nat) (h : pm_H), pw_F WX16_init h0 h → pm_iter sX16_init n (.inr (.inr (.inr (.inr (.inr (.inr (.inr (.inl (x0, s0, s1, h))))))))) = some r → pw_F WX16_init h0 r) ∧ (∀ (x0 : Nat) (s0 : Nat) (s1 : Nat) (h : pm_H), pw_F WX16_init h0 h → pm_iter sX16_init n (.inr (.inr (.inr (.inr (.inr (.inr (.inr (.inr (.inl (x0, s0, s1, h)))))))))) = some r → pw_F WX16_init h0 r) ∧ (∀ (x0 : Nat) (s0 : Nat) (s1 : Nat) (h : pm_H), pw_F WX16_init h0 h → pm_iter sX16_init n (.inr (.inr (.inr (.inr (.inr (.inr (.inr (.inr (.inr (.inl (x0, s0, s1, h))))))))))) = some r → pw_F WX16_init h0 r) ∧ (∀ (x0 : Nat) (s0 : Nat) (s1 : Nat) (h : pm_H), pw_F WX16_init h0 h → pm_iter sX16_init n (.inr (.inr (.inr (.inr (.inr (.inr (.inr (.inr (.inr (.inr (.inl (x0, s0, s1, h)))))))))))) = some r → pw_F WX16_init h0 r) ∧ (∀ (x0 : Nat) (s0 : Nat) (s1 : Nat) (h : pm_H), pw_F WX16_init h0 h → pm_iter sX16_init n (.inr (.inr (.inr (.inr (.inr (.inr (.inr (.inr (.inr (.inr (.inr (.inl (x0, s0, s1, h))))))))))))) = some r → pw_F WX16_init h0 r) ∧ (∀ (x0 : Nat) (s0 : Nat) (s1 : Nat) (h : pm_H), pw_F WX16_init h0 h → pm_iter sX16_init n (.inr (.inr (.inr (.inr (.inr (.inr (.inr (.inr (.inr (.inr (.inr (.inr (.inl (x0, s0, s1, h)))))))))))))) = some r → pw_F WX16_init h0 r) ∧ (∀ (x0 : Nat) (s0 : Nat) (s1 : Nat) (h : pm_H), pw_F WX16_init h0 h → pm_iter sX16_init n (.inr (.inr (.inr (.inr (.inr (.inr (.inr (.inr (.inr (.inr (.inr (.inr (.inr (.inl (x0, s0, s1, h))))))))))))))) = some r → pw_F WX16_init h0 r) ∧ (∀ (x0 : Nat) (s0 : Nat) (s1 : Nat) (h : pm_H), pw_F WX16_init h0 h → pm_iter sX16_init n (.inr (.inr (.inr (.inr (.inr (.inr (.inr (.inr (.inr (.inr (.inr (.inr (.inr (.inr (.inl (x0, s0, s1, h)))))))))))))))) = some r → pw_F WX16_init h0 r) ∧ (∀ (x0 : Nat) (s0 : Nat) (s1 : Nat) (h : pm_H), pw_F WX16_init h0 h → pm_iter sX16_init n (.inr (.inr (.inr (.inr (.inr (.inr (.inr (.inr (.inr (.inr (.inr (.inr (.inr (.inr (.inr (.inl (x0, s0, s1, h))))))))))))))))) = some r → pw_F WX16_init h0 r) ∧ (∀ (x0 : Nat) (s0 : Nat) (s1 : Nat) (h : pm_H), pw_F WX16_init h0 h → pm_iter sX16_init n (.inr (.inr (.inr (.inr (.inr (.inr (.inr (.inr (.inr (.inr (.inr (.inr (.inr (.inr (.inr (.inr (.inl (x0, s0, s1, h)))))))))))))))))) = some r → pw_F WX16_init h0 r) ∧ (∀ (x0 : Nat) (s0 : Nat) (s1 : Nat) (h : pm_H), pw_F WX16_init h0 h → pm_iter sX16_init n (.inr (.inr (.inr (.inr (.inr (.inr (.inr (.inr (.inr (.inr (.inr (.inr (.inr (.inr (.inr (.inr (.inr (.inl (x0, s0, s1, h))))))))))))))))))) = some r → pw_F WX16_init h0 r) ∧ (∀ (x0 : Nat) (s0 : Nat) (s1 : Nat) (h : pm_H), pw_F WX16_init h0 h → pm_iter sX16_init n (.inr (.inr (.inr (.inr (.inr (.inr (.inr (.inr (.inr (.inr (.inr (.inr (.inr (.inr (.inr (.inr (.inr (.inr (.inl (x0, s0, s1, h)))))))))))))))))))) = some r → pw_F WX16_init h0 r) ∧ (∀ (x0 : Nat) (s0 : Nat) (s1 : Nat) (h : pm_H), pw_F WX16_init h0 h → pm_iter sX16_init n (.inr (.inr (.inr (.inr (.inr (.inr (.inr (.inr (.inr (.inr (.inr (.inr (.inr (.inr (.inr (.inr (.inr (.inr (.inr (.inl (x0, s0, s1, h))))))))))))))))))))) = some r → pw_F WX16_init h0 r) ∧ (∀ (x0 : Nat) (s0 : Nat) (s1 : Nat) (h : pm_H), pw_F WX16_init h0 h → pm_iter sX16_init n (.inr (.inr (.inr (.inr (.inr (.inr (.inr (.inr (.inr (.inr (.inr (.inr (.inr (.inr (.inr (.inr (.inr (.inr (.inr (.inr (.inl (x0, s0, s1, h)))))))))))))))))))))) = some r → pw_F WX16_init h0 r) ∧ (∀ (x0 : Nat) (s0 : Nat) (s1 : Nat) (h : pm_H), pw_F WX16_init h0 h → pm_iter sX16_init n (.inr (.inr (.inr (.inr (.inr (.inr (.inr (.inr (.inr (.inr (.inr (.inr (.inr (.inr (.inr (.inr (.inr (.inr (.inr (.inr (.inr (.inl (x0, s0, s1, h))))))))))))))))))))))) = some r → pw_F WX16_init h0 r) ∧ (∀ (x0 : Nat) (s0 : Nat) (s1 : Nat) (h : pm_H), pw_F WX16_init h0 h → pm_iter sX16_init n (.inr (.inr (.inr (.inr (.inr (.inr (.inr (.inr (.inr (.inr (.inr (.inr (.inr (.inr (.inr (.inr (.inr (.inr (.inr (.inr (.inr (.inr (.inl (x0, s0, s1, h)))))))))))))))))))))))) = some r → pw_F WX16_init h0 r) ∧ (∀ (x0 : Nat) (s0 : Nat) (s1 : Nat) (h : pm_H), pw_F WX16_init h0 h → pm_iter sX16_init n (.inr (.inr (.inr (.inr (.inr (.inr (.inr (.inr (.inr (.inr (.inr (.inr (.inr (.inr (.inr (.inr (.inr (.inr (.inr (.inr (.inr (.inr (.inr (.inl (x0, s0, s1, h))))))))))))))))))))))))) = some r → pw_F WX16_init h0 r) ∧ (∀ (x0 : Nat) (s0 : Nat) (s1 : Nat) (h : pm_H), pw_F WX16_init h0 h → pm_iter sX16_init n (.inr (.inr (.inr (.inr (.inr (.inr (.inr (.inr (.inr (.inr (.inr (.inr (.inr (.inr (.inr (.inr (.inr (.inr (.inr (.inr (.inr (.inr (.inr (.inr (.inl (x0, s0, s1, h)))))))))))))))))))))))))) = some r → pw_F WX16_init h0 r) ∧ (∀ (x0 : Nat) (s0 : Nat) (s1 : Nat) (h : pm_H), pw_F WX16_init h0 h → pm_iter sX16_init n (.inr (.inr (.inr (.inr (.inr (.inr (.inr (.inr (.inr (.inr (.inr (.inr (.inr (.inr (.inr (.inr (.inr (.inr (.inr (.inr (.inr (.inr (.inr (.inr (.inr (.inl (x0, s0, s1, h))))))))))))))))))))))))))) = some r → pw_F WX16_init h0 r) ∧ (∀ (x0 : Nat) (s0 : Nat) (s1 : Nat) (h : pm_H), pw_F WX16_init h0 h → pm_iter sX16_init n (.inr (.inr (.inr (.inr (.inr (.inr (.inr (.inr (.inr (.inr (.inr (.inr (.inr (.inr (.inr (.inr (.inr (.inr (.inr (.inr (.inr (.inr (.inr (.inr (.inr (.inr (.inl (x0, s0, s1, h)))))))))))))))))))))))))))) = some r → pw_F WX16_init h0 r) ∧ (∀ (x0 : Nat) (s0 : Nat) (s1 : Nat) (h : pm_H), pw_F WX16_init h0 h → pm_iter sX16_init n (.inr (.inr (.inr (.inr (.inr (.inr (.inr (.inr (.inr (.inr (.inr (.inr (.inr (.inr (.inr (.inr (.inr (.inr (.inr (.inr (.inr (.inr (.inr (.inr (.inr (.inr (.inr (.inl (x0, s0, s1, h))))))))))))))))))))))))))))) = some r → pw_F WX16_init h0 r) ∧ (∀ (x0 : Nat) (s0 : Nat) (s1 : Nat) (h : pm_H), pw_F WX16_init h0 h → pm_iter sX16_init n (.inr (.inr (.inr (.inr (.inr (.inr (.inr (.inr (.inr (.inr (.inr (.inr (.inr (.inr (.inr (.inr (.inr (.inr (.inr (.inr (.inr (.inr (.inr (.inr (.inr (.inr (.inr (.inr (.inl (x0, s0, s1, h)))))))))))))))))))))))))))))) = some r → pw_F WX16_init h0 r) ∧ (∀ (x0 : Nat) (s0 : Nat) (s1 : Nat) (h : pm_H), pw_F WX16_init h0 h → pm_iter sX16_init n (.inr (.inr (.inr (.inr (.inr (.inr (.inr (.inr (.inr (.inr (.inr (.inr (.inr (.inr (.inr (.inr (.inr (.inr (.inr (.inr (.inr (.inr (.inr (.inr (.inr (.inr (.inr (.inr (.inr (.inl (x0, s0, s1, h))))))))))))))))))))))))))))))) = some r → pw_F WX16_init h0 r) ∧ (∀ (x0 : Nat) (s0 : Nat) (s1 : Nat) (h : pm_H), pw_F WX16_init h0 h → pm_iter sX16_init n (.inr (.inr (.inr (.inr (.inr (.inr (.inr (.inr (.inr (.inr (.inr (.inr (.inr (.inr (.inr (.inr (.inr (.inr (.inr (.inr (.inr (.inr (.inr (.inr (.inr (.inr (.inr (.inr (.inr (.inr (.inl (x0, s0, s1, h)))))))))))))))))))))))))))))))) = some r → pw_F WX16_init h0 r) ∧ (∀ (x0 : Nat) (s0 : Nat) (s1 : Nat) (h : pm_H), pw_F WX16_init h0 h → pm_iter sX16_init n (.inr (.inr (.inr (.inr (.inr (.inr (.inr (.inr (.inr (.inr (.inr (.inr (.inr (.inr (.inr (.inr (.inr (.inr (.inr (.inr (.inr (.inr (.inr (.inr (.inr (.inr (.inr (.inr (.inr (.inr (.inr (.inl (x0, s0, s1, h))))))))))))))))))))))))))))))))) = some r → pw_F WX16_init h0 r) ∧ (∀ (x0 : Nat) (s0 : Nat) (s1 : Nat) (h : pm_H), pw_F WX16_init h0 h → pm_iter sX16_init n (.inr (.inr (.inr (.inr (.inr (.inr (.inr (.inr (.inr (.inr (.inr (.inr (.inr (.inr (.inr (.inr (.inr (.inr (.inr (.inr (.inr (.inr (.inr (.inr (.inr (.inr (.inr (.inr (.inr (.inr (.inr (.inr (.inl (x0, s0, s1, h)))))))))))))))))))))))))))))))))) = some r → pw_F WX16_init h0 r) ∧ (∀ (x0 : Nat) (s0 : Nat) (s1 : Nat) (h : pm_H), pw_F WX16_init h0 h → pm_iter sX16_init n (.inr (.inr (.inr (.inr (.inr (.inr (.inr (.inr (.inr (.inr (.inr (.inr (.inr (.inr (.inr (.inr (.inr (.inr (.inr (.inr (.inr (.inr (.inr (.inr (.inr (.inr (.inr (.inr (.inr (.inr (.inr (.inr (.inr (.inl (x0, s0, s1, h))))))))))))))))))))))))))))))))))) = some r → pw_F WX16_init h0 r) ∧ (∀ (x0 : Nat) (s0 : Nat) (s1 : Nat) (h : pm_H), pw_F WX16_init h0 h → pm_iter sX16_init n (.inr (.inr (.inr (.inr (.inr (.inr (.inr (.inr (.inr (.inr (.inr (.inr (.inr (.inr (.inr (.inr (.inr (.inr (.inr (.inr (.inr (.inr (.inr (.inr (.inr (.inr (.inr (.inr (.inr (.inr (.inr (.inr (.inr (.inr (.inl (x0, s0, s1, h)))))))))))))))))))))))))))))))))))) = some r → pw_F WX16_init h0 r) ∧ (∀ (x0 : Nat) (s0 : Nat) (s1 : Nat) (h : pm_H), pw_F WX16_init h0 h → pm_iter sX16_init n (.inr (.inr (.inr (.inr (.inr (.inr (.inr (.inr (.inr (.inr (.inr (.inr (.inr (.inr (.inr (.inr (.inr (.inr (.inr (.inr (.inr (.inr (.inr (.inr (.inr (.inr (.inr (.inr (.inr (.inr (.inr (.inr (.inr (.inr (.inr (.inl (x0, s0, s1, h))))))))))))))))))))))))))))))))))))) = some r → pw_F WX16_init h0 r) ∧ (∀ (x0 : Nat) (s0 : Nat) (s1 : Nat) (h : pm_H), pw_F WX16_init h0 h → pm_iter sX16_init n (.inr (.inr (.inr (.inr (.inr (.inr (.inr (.inr (.inr (.inr (.inr (.inr (.inr (.inr (.inr (.inr (.inr (.inr (.inr (.inr (.inr (.inr (.inr (.inr (.inr (.inr (.inr (.inr (.inr (.inr (.inr (.inr (.inr (.inr (.inr (.inr (.inl (x0, s0, s1, h)))))))))))))))))))))))))))))))))))))) = some r → pw_F WX16_init h0 r) ∧ (∀ (x0 : Nat) (s0 : Nat) (s1 : Nat) (h : pm_H), pw_F WX16_init h0 h → pm_iter sX16_init n (.inr (.inr (.inr (.inr (.inr (.inr (.inr (.inr (.inr (.inr (.inr (.inr (.inr (.inr (.inr (.inr (.inr (.inr (.inr (.inr (.inr (.inr (.inr (.inr (.inr (.inr (.inr (.inr (.inr (.inr (.inr (.inr (.inr (.inr (.inr (.inr (.inr (.inl (x0, s0, s1, h))))))))))))))))))))))))))))))))))))))) = some r → pw_F WX16_init h0 r) ∧ (∀ (x0 : Nat) (s0 : Nat) (s1 : Nat) (h : pm_H), pw_F WX16_init h0 h → pm_iter sX16_init n (.inr (.inr (.inr (.inr (.inr (.inr (.inr (.inr (.inr (.inr (.inr (.inr (.inr (.inr (.inr (.inr (.inr (.inr (.inr (.inr (.inr (.inr (.inr (.inr (.inr (.inr (.inr (.inr (.inr (.inr (.inr (.inr (.inr (.inr (.inr (.inr (.inr (.inr (.inl (x0, s0, s1, h)))))))))))))))))))))))))))))))))))))))) = some r → pw_F WX16_init h0 r) ∧ (∀ (x0 : Nat) (s0 : Nat) (s1 : Nat) (h : pm_H), pw_F WX16_init h0 h → pm_iter sX16_init n (.inr (.inr (.inr (.inr (.inr (.inr (.inr (.inr (.inr (.inr (.inr (.inr (.inr (.inr (.inr (.inr (.inr (.inr (.inr (.inr (.inr (.inr (.inr (.inr (.inr (.inr (.inr (.inr (.inr (.inr (.inr (.inr (.inr (.inr (.inr (.inr (.inr (.inr (.inr (.inl (x0, s0, s1, h))))))))))))))))))))))))))))))))))))))))) = some r → pw_F WX16_init h0 r) ∧ (∀ (x0 : Nat) (s0 : Nat) (s1 : Nat) (h : pm_H), pw_F WX16_init h0 h → pm_iter sX16_init n (.inr (.inr (.inr (.inr (.inr (.inr (.inr (.inr (.inr (.inr (.inr (.inr (.inr (.inr (.inr (.inr (.inr (.inr (.inr (.inr (.inr (.inr (.inr (.inr (.inr (.inr (.inr (.inr (.inr (.inr (.inr (.inr (.inr (.inr (.inr (.inr (.inr (.inr (.inr (.inr (.inl (x0, s0, s1, h)))))))))))))))))))))))))))))))))))))))))) = some r → pw_F WX16_init h0 r) ∧ (∀ (x0 : Nat) (s0 : Nat) (s1 : Nat) (h : pm_H), pw_F WX16_init h0 h → pm_iter sX16_init n (.inr (.inr (.inr (.inr (.inr (.inr (.inr (.inr (.inr (.inr (.inr (.inr (.inr (.inr (.inr (.inr (.inr (.inr (.inr (.inr (.inr (.inr (.inr (.inr (.inr (.inr (.inr (.inr (.inr (.inr (.inr (.inr (.inr (.inr (.inr (.inr (.inr (.inr (.inr (.inr (.inr (.inl (x0, s0, s1, h))))))))))))))))))))))))))))))))))))))))))) = some r → pw_F WX16_init h0 r) ∧ (∀ (x0 : Nat) (s0 : Nat) (s1 : Nat) (h : pm_H), pw_F WX16_init h0 h → pm_iter sX16_init n (.inr (.inr (.inr (.inr (.inr (.inr (.inr (.inr (.inr (.inr (.inr (.inr (.inr (.inr (.inr (.inr (.inr (.inr (.inr (.inr (.inr (.inr (.inr (.inr (.inr (.inr (.inr (.inr (.inr (.inr (.inr (.inr (.inr (.inr (.inr (.inr (.inr (.inr (.inr (.inr (.inr (.inr (.inl (x0, s0, s1, h)))))))))))))))))))))))))))))))))))))))))))) = some r → pw_F WX16_init h0 r) ∧ (∀ (x0 : Nat) (s0 : Nat) (s1 : Nat) (h : pm_H), pw_F WX16_init h0 h → pm_iter sX16_init n (.inr (.inr (.inr (.inr (.inr (.inr (.inr (.inr (.inr (.inr (.inr (.inr (.inr (.inr (.inr (.inr (.inr (.inr (.inr (.inr (.inr (.inr (.inr (.inr (.inr (.inr (.inr (.inr (.inr (.inr (.inr (.inr (.inr (.inr (.inr (.inr (.inr (.inr (.inr (.inr (.inr (.inr (.inr (.inl (x0, s0, s1, h))))))))))))))))))))))))))))))))))))))))))))) = some r → pw_F WX16_init h0 r) ∧ (∀ (x0 : Nat) (s0 : Nat) (s1 : Nat) (h : pm_H), pw_F WX16_init h0 h → pm_iter sX16_init n (.inr (.inr (.inr (.inr (.inr (.inr (.inr (.inr (.inr (.inr (.inr (.inr (.inr (.inr (.inr (.inr (.inr (.inr (.inr (.inr (.inr (.inr (.inr (.inr (.inr (.inr (.inr (.inr (.inr (.inr (.inr (.inr (.inr (.inr (.inr (.inr (.inr (.inr (.inr (.inr (.inr (.inr (.inr (.inr (.inl (x0, s0, s1, h)))))))))))))))))))))))))))))))))))))))))))))) = some r → pw_F WX16_init h0 r) ∧ (∀ (x0 : Nat) (s0 : Nat) (s1 : Nat) (h : pm_H), pw_F WX16_init h0 h → pm_iter sX16_init n (.inr (.inr (.inr (.inr (.inr (.inr (.inr (.inr (.inr (.inr (.inr (.inr (.inr (.inr (.inr (.inr (.inr (.inr (.inr (.inr (.inr (.inr (.inr (.inr (.inr (.inr (.inr (.inr (.inr (.inr (.inr (.inr (.inr (.inr (.inr (.inr (.inr (.inr (.inr (.inr (.inr (.inr (.inr (.inr (.inr (.inl (x0, s0, s1, h))))))))))))))))))))))))))))))))))))))))))))))) = some r → pw_F WX16_init h0 r) ∧ (∀ (x0 : Nat) (s0 : Nat) (s1 : Nat) (h : pm_H), pw_F WX16_init h0 h → pm_iter sX16_init n (.inr (.inr (.inr (.inr (.inr (.inr (.inr (.inr (.inr (.inr (.inr (.inr (.inr (.inr (.inr (.inr (.inr (.inr (.inr (.inr (.inr (.inr (.inr (.inr (.inr (.inr (.inr (.inr (.inr (.inr (.inr (.inr (.inr (.inr (.inr (.inr (.inr (.inr (.inr (.inr (.inr (.inr (.inr (.inr (.inr (.inr (.inl (x0, s0, s1, h)))))))))))))))))))))))))))))))))))))))))))))))) = some r → pw_F WX16_init h0 r) ∧ (∀ (x0 : Nat) (s0 : Nat) (s1 : Nat) (h : pm_H), pw_F WX16_init h0 h → pm_iter sX16_init n (.inr (.inr (.inr (.inr (.inr (.inr (.inr (.inr (.inr (.inr (.inr (.inr (.inr (.inr (.inr (.inr (.inr (.inr (.inr (.inr (.inr (.inr (.inr (.inr (.inr (.inr (.inr (.inr (.inr (.inr (.inr (.inr (.inr (.inr (.inr (.inr (.inr (.inr (.inr (.inr (.inr (.inr (.inr (.inr (.inr (.inr (.inr (.inl (x0, s0, s1, h))))))))))))))))))))))))))))))))))))))))))))))))) = some r → pw_F WX16_init h0 r) ∧ (∀ (x0 : Nat) (s0 : Nat) (s1 : Nat) (h : pm_H), pw_F WX16_init h0 h → pm_iter sX16_init n (.inr (.inr (.inr (.inr (.inr (.inr (.inr (.inr (.inr (.inr (.inr (.inr (.inr (.inr (.inr (.inr (.inr (.inr (.inr (.inr (.inr (.inr (.inr (.inr (.inr (.inr (.inr (.inr (.inr (.inr (.inr (.inr (.inr (.inr (.inr (.inr (.inr (.inr (.inr (.inr (.inr (.inr (.inr (.inr (.inr (.inr (.inr (.inr (.inl (x0, s0, s1, h)))))))))))))))))))))))))))))))))))))))))))))))))) = some r → pw_F WX16_init h0 r) ∧ (∀ (x0 : Nat) (s0 : Nat) (s1 : Nat) (h : pm_H), pw_F WX16_init h0 h → pm_iter sX16_init n (.inr (.inr (.inr (.inr (.inr (.inr (.inr (.inr (.inr (.inr (.inr (.inr (.inr (.inr (.inr (.inr (.inr (.inr (.inr (.inr (.inr (.inr (.inr (.inr (.inr (.inr (.inr (.inr (.inr (.inr (.inr (.inr (.inr (.inr (.inr (.inr (.inr (.inr (.inr (.inr (.inr (.inr (.inr (.inr (.inr (.inr (.inr (.inr (.inr (.inl (x0, s0, s1, h))))))))))))))))))))))))))))))))))))))))))))))))))) = some r → pw_F WX16_init h0 r) ∧ (∀ (x0 : Nat) (s0 : Nat) (s1 : Nat) (h : pm_H), pw_F WX16_init h0 h → pm_iter sX16_init n (.inr (.inr (.inr (.inr (.inr (.inr (.inr (.inr (.inr (.inr (.inr (.inr (.inr (.inr (.inr (.inr (.inr (.inr (.inr (.inr (.inr (.inr (.inr (.inr (.inr (.inr (.inr (.inr (.inr (.inr (.inr (.inr (.inr (.inr (.inr (.inr (.inr (.inr (.inr (.inr (.inr (.inr (.inr (.inr (.inr (.inr (.inr (.inr (.inr (.inr (.inl (x0, s0, s1, h)))))))))))))))))))))))))))))))))))))))))))))))))))) = some r → pw_F WX16_init h0 r) ∧ (∀ (x0 : Nat) (s0 : Nat) (s1 : Nat) (h : pm_H), pw_F WX16_init h0 h → pm_iter sX16_init n (.inr (.inr (.inr (.inr (.inr (.inr (.inr (.inr (.inr (.inr (.inr (.inr (.inr (.inr (.inr (.inr (.inr (.inr (.inr (.inr (.inr (.inr (.inr (.inr (.inr (.inr (.inr (.inr (.inr (.inr (.inr (.inr (.inr (.inr (.inr (.inr (.inr (.inr (.inr (.inr (.inr (.inr (.inr (.inr (.inr (.inr (.inr (.inr (.inr (.inr (.inr (.inl (x0, s0, s1, h))))))))))))))))))))))))))))))))))))))))))))))))))))) = some r → pw_F WX16_init h0 r) ∧ (∀ (x0 : Nat) (s0 : Nat) (s1 : Nat) (h : pm_H), pw_F WX16_init h0 h → pm_iter sX16_init n (.inr (.inr (.inr (.inr (.inr (.inr (.inr (.inr (.inr (.inr (.inr (.inr (.inr (.inr (.inr (.inr (.inr (.inr (.inr (.inr (.inr (.inr (.inr (.inr (.inr (.inr (.inr (.inr (.inr (.inr (.inr (.inr (.inr (.inr (.inr (.inr (.inr (.inr (.inr (.inr (.inr (.inr (.inr (.inr (.inr (.inr (.inr (.inr (.inr (.inr (.inr (.inr (.inl (x0, s0, s1, h)))))))))))))))))))))))))))))))))))))))))))))))))))))) = some r → pw_F WX16_init h0 r) ∧ (∀ (x0 : Nat) (s0 : Nat) (s1 : Nat) (h : pm_H), pw_F WX16_init h0 h → pm_iter sX16_init n (.inr (.inr (.inr (.inr (.inr (.inr (.inr (.inr (.inr (.inr (.inr (.inr (.inr (.inr (.inr (.inr (.inr (.inr (.inr (.inr (.inr (.inr (.inr (.inr (.inr (.inr (.inr (.inr (.inr (.inr (.inr (.inr (.inr (.inr (.inr (.inr (.inr (.inr (.inr (.inr (.inr (.inr (.inr (.inr (.inr (.inr (.inr (.inr (.inr (.inr (.inr (.inr (.inr (.inl (x0, s0, s1, h))))))))))))))))))))))))))))))))))))))))))))))))))))))) = some r → pw_F WX16_init h0 r) ∧ (∀ (x0 : Nat) (s0 : Nat) (s1 : Nat) (h : pm_H), pw_F WX16_init h0 h → pm_iter sX16_init n (.inr (.inr (.inr (.inr (.inr (.inr (.inr (.inr (.inr (.inr (.inr (.inr (.inr (.inr (.inr (.inr (.inr (.inr (.inr (.inr (.inr (.inr (.inr (.inr (.inr (.inr (.inr (.inr (.inr (.inr (.inr (.inr (.inr (.inr (.inr (.inr (.inr (.inr (.inr (.inr (.inr (.inr (.inr (.inr (.inr (.inr (.inr (.inr (.inr (.inr (.inr (.inr (.inr (.inr (.inl (x0, s0, s1, h)))))))))))))))))))))))))))))))))))))))))))))))))))))))) = some r → pw_F WX16_init h0 r) ∧ (∀ (x0 : Nat) (s0 : Nat) (s1 : Nat) (h : pm_H), pw_F WX16_init h0 h → pm_iter sX16_init n (.inr (.inr (.inr (.inr (.inr (.inr (.inr (.inr (.inr (.inr (.inr (.inr (.inr (.inr (.inr (.inr (.inr (.inr (.inr (.inr (.inr (.inr (.inr (.inr (.inr (.inr (.inr (.inr (.inr (.inr (.inr (.inr (.inr (.inr (.inr (.inr (.inr (.inr (.inr (.inr (.inr (.inr (.inr (.inr (.inr (.inr (.inr (.inr (.inr (.inr (.inr (.inr (.inr (.inr (.inr (.inl (x0, s0, s1, h))))))))))))))))))))))))))))))))))))))))))))))))))))))))) = some r → pw_F WX16_init h0 r) ∧ (∀ (x0 : Nat) (s0 : Nat) (s1 : Nat) (h : pm_H), pw_F WX16_init h0 h → pm_iter sX16_init n (.inr (.inr (.inr (.inr (.inr (.inr (.inr (.inr (.inr (.inr (.inr (.inr (.inr (.inr (.inr (.inr (.inr (.inr (.inr (.inr (.inr (.inr (.inr (.inr (.inr (.inr (.inr (.inr (.inr (.inr (.inr (.inr (.inr (.inr (.inr (.inr (.inr (.inr (.inr (.inr (.inr (.inr (.inr (.inr (.inr (.inr (.inr (.inr (.inr (.inr (.inr (.inr (.inr (.inr (.inr (.inr (.inl (x0, s0, s1, h)))))))))))))))))))))))))))))))))))))))))))))))))))))))))) = some r → pw_F WX16_init h0 r) ∧ (∀ (x0 : Nat) (x1 : Int32) (h : pm_H), pw_F WX16_init h0 h → pm_iter sX16_init n (.inr (.inr (.inr (.inr (.inr (.inr (.inr (.inr (.inr (.inr (.inr (.inr (.inr (.inr (.inr (.inr (.inr (.inr (.inr (.inr (.inr (.inr (.inr (.inr (.inr (.inr (.inr (.inr (.inr (.inr (.inr (.inr (.inr (.inr (.inr (.inr (.inr (.inr (.inr (.inr (.inr (.inr (.inr (.inr (.inr (.inr (.inr (.inr (.inr (.inr (.inr (.inr (.inr (.inr (.inr (.inr (.inr (x0, x1, h)))))))))))))))))))))))))))))))))))))))))))))))))))))))))) = some r → pw_F WX16_init h0 r) := by
  intro n
  induction n with
  | zero => exact ⟨fun _ _ _ hf => (by cases hf), fun _ _ _ _ _ hf => (by cases hf), fun _ _ _ _ _ hf => (by cases hf), fun _ _ _ _ _ hf => (by cases hf), fun _ _ _ _ _ hf => (by cases hf), fun _ _ _ _ _ hf => (by cases hf), fun _ _ _ _ _ hf => (by cases hf), fun _ _ _ _ _ hf => (by cases hf), fun _ _ _ _ _ hf => (by cases hf), fun _ _ _ _ _ hf => (by cases hf), fun _ _ _ _ _ hf => (by cases hf), fun _ _ _ _ _ hf => (by cases hf), fun _ _ _ _ _ hf => (by cases hf), fun _ _ _ _ _ hf => (by cases hf), fun _ _ _ _ _ hf => (by cases hf), fun _ _ _ _ _ hf => (by cases hf), fun _ _ _ _ _ hf => (by cases hf), fun _ _ _ _ _ hf => (by cases hf), fun _ _ _ _ _ hf => (by cases hf), fun _ _ _ _ _ hf => (by cases hf), fun _ _ _ _ _ hf => (by cases hf), fun _ _ _ _ _ hf => (by cases hf), fun _ _ _ _ _ hf => (by cases hf), fun _ _ _ _ _ hf => (by cases hf), fun _ _ _ _ _ hf => (by cases hf), fun _ _ _ _ _ hf => (by cases hf), fun _ _ _ _ _ hf => (by cases hf), fun _ _ _ _ _ hf => (by cases hf), fun _ _ _ _ _ hf => (by cases hf), fun _ _ _ _ _ hf => (by cases hf), fun _ _ _ _ _ hf => (by cases hf), fun _ _ _ _ _ hf => (by cases hf), fun _ _ _ _ _ hf => (by cases hf), fun _ _ _ _ _ hf => (by cases hf), fun _ _ _ _ _ hf => (by cases hf), fun _ _ _ _ _ hf => (by cases hf), fun _ _ _ _ _ hf => (by cases hf), fun _ _ _ _ _ hf => (by cases hf), fun _ _ _ _ _ hf => (by cases hf), fun _ _ _ _ _ hf => (by cases hf), fun _ _ _ _ _ hf => (by cases hf), fun _ _ _ _ _ hf => (by cases hf), fun _ _ _ _ _ hf => (by cases hf), fun _ _ _ _ _ hf => (by cases hf), fun _ _ _ _ _ hf => (by cases hf), fun _ _ _ _ _ hf => (by cases hf), fun _ _ _ _ _ hf => (by cases hf), fun _ _ _ _ _ hf => (by cases hf), fun _ _ _ _ _ hf => (by cases hf), fun _ _ _ _ _ hf => (by cases hf), fun _ _ _ _ _ hf => (by cases hf), fun _ _ _ _ _ hf => (by cases hf), fun _ _ _ _ _ hf => (by cases hf), fun _ _ _ _ _ hf => (by cases hf), fun _ _ _ _ _ hf => (by cases hf), fun _ _ _ _ _ hf => (by cases hf), fun _ _ _ _ _ hf => (by cases hf), fun _ _ _ _ hf => (by cases hf)⟩
  | succ n ih =>
    refine ⟨fun x0 h K0 hf => ?_, ?_⟩
    · obtain ⟨y, hf, hi⟩ := pm_iter_s hf
      have hf : tX16_init_0 x0 h = some y := hf
      unfold tX16_init_0 at hf
      cases hf
      exact ih.2.1 x0 (pm_sz h) x0 (pm_new h 33 40980) (pw_new K0)  hi
    refine ⟨fun x0 s0 s1 h K0 hf => ?_, ?_⟩
    · obtain ⟨y, hf, hi⟩ := pm_iter_s hf
      have hf : tX16_init_9 x0 s0 s1 h = some y := hf
      unfold tX16_init_9 at hf
      obtain ⟨k1, hf⟩ := pm_if hf
      cases hf
      exact ih.2.2.1 x0 (pm_sz (pm_setR h s1 0 (some s0))) x0 (pm_new (pm_setR h s1 0 (some s0)) 42 16) (pw_new (pw_sR K0 rfl k1 (by decide)))  hi
    refine ⟨fun x0 s0 s1 h K0 hf => ?_, ?_⟩
    · obtain ⟨y, hf, hi⟩ := pm_iter_s hf
      have hf : tX16_init_18 x0 s0 s1 h = some y := hf
      unfold tX16_init_18 at hf
      obtain ⟨k2, hf⟩ := pm_if hf
      cases hf
      exact ih.2.2.2.1 x0 (pm_sz (pm_setR h s1 4 (some s0))) x0 (pm_flt (pm_setR h s1 4 (some s0))) (pw_flt (pw_sR K0 rfl k2 (by decide)))  hi
    refine ⟨fun x0 s0 s1 h K0 hf => ?_, ?_⟩
    · obtain ⟨y, hf, hi⟩ := pm_iter_s hf
      have hf : tX16_init_29 x0 s0 s1 h = some y := hf
      unfold tX16_init_29 at hf
      obtain ⟨k3, hf⟩ := pm_if hf
      cases hf
      exact ih.2.2.2.2.1 x0 (pm_sz (pm_setR h s1 9 (some s0))) x0 (pm_new (pm_setR h s1 9 (some s0)) 34 40962) (pw_new (pw_sR K0 rfl k3 (by decide)))  hi
    refine ⟨fun x0 s0 s1 h K0 hf => ?_, ?_⟩
    · obtain ⟨y, hf, hi⟩ := pm_iter_s hf
      have hf : tX16_init_37 x0 s0 s1 h = some y := hf
      unfold tX16_init_37 at hf
      obtain ⟨k4, hf⟩ := pm_if hf
      cases hf
      exact ih.2.2.2.2.2.1 x0 (pm_sz (pm_setR h s1 14 (some s0))) x0 (pm_new (pm_setR h s1 14 (some s0)) 34 40962) (pw_new (pw_sR K0 rfl k4 (by decide)))  hi
    refine ⟨fun x0 s0 s1 h K0 hf => ?_, ?_⟩
    · obtain ⟨y, hf, hi⟩ := pm_iter_s hf
      have hf : tX16_init_45 x0 s0 s1 h = some y := hf
      unfold tX16_init_45 at hf
      obtain ⟨k5, hf⟩ := pm_if hf
      cases hf
      exact ih.2.2.2.2.2.2.1 x0 (pm_sz (pm_setR h s1 15 (some s0))) x0 (pm_new (pm_setR h s1 15 (some s0)) 32 128) (pw_new (pw_sR K0 rfl k5 (by decide)))  hi
    refine ⟨fun x0 s0 s1 h K0 hf => ?_, ?_⟩
    · obtain ⟨y, hf, hi⟩ := pm_iter_s hf
      have hf : tX16_init_54 x0 s0 s1 h = some y := hf
      unfold tX16_init_54 at hf
      obtain ⟨k6, hf⟩ := pm_if hf
      cases hf
      exact ih.2.2.2.2.2.2.2.1 x0 (pm_sz (pm_setR h s1 20 (some s0))) x0 (pm_new (pm_setR h s1 20 (some s0)) 34 1001) (pw_new (pw_sR K0 rfl k6 (by decide)))  hi
    refine ⟨fun x0 s0 s1 h K0 hf => ?_, ?_⟩
    · obtain ⟨y, hf, hi⟩ := pm_iter_s hf
      have hf : tX16_init_63 x0 s0 s1 h = some y := hf
      unfold tX16_init_63 at hf
      obtain ⟨k7, hf⟩ := pm_if hf
      cases hf
      exact ih.2.2.2.2.2.2.2.2.1 x0 (pm_sz (pm_setR h s1 22 (some s0))) x0 (pm_new (pm_setR h s1 22 (some s0)) 34 200) (pw_new (pw_sR K0 rfl k7 (by decide)))  hi
    refine ⟨fun x0 s0 s1 h K0 hf => ?_, ?_⟩
    · obtain ⟨y, hf, hi⟩ := pm_iter_s hf
      have hf : tX16_init_72 x0 s0 s1 h = some y := hf
      unfold tX16_init_72 at hf
      obtain ⟨k8, hf⟩ := pm_if hf
      cases hf
      exact ih.2.2.2.2.2.2.2.2.2.1 x0 (pm_sz (pm_setR h s1 25 (some s0))) x0 (pm_new (pm_setR h s1 25 (some s0)) 35 200) (pw_new (pw_sR K0 rfl k8 (by decide)))  hi
    refine ⟨fun x0 s0 s1 h K0 hf => ?_, ?_⟩
    · obtain ⟨y, hf, hi⟩ := pm_iter_s hf
      have hf : tX16_init_81 x0 s0 s1 h = some y := hf
      unfold tX16_init_81 at hf
      obtain ⟨k9, hf⟩ := pm_if hf
      cases hf
      exact ih.2.2.2.2.2.2.2.2.2.2.1 x0 (pm_sz (pm_setR h s1 26 (some s0))) x0 (pm_new (pm_setR h s1 26 (some s0)) 34 200) (pw_new (pw_sR K0 rfl k9 (by decide)))  hi
    refine ⟨fun x0 s0 s1 h K0 hf => ?_, ?_⟩
    · obtain ⟨y, hf, hi⟩ := pm_iter_s hf
      have hf : tX16_init_90 x0 s0 s1 h = some y := hf
      unfold tX16_init_90 at hf
      obtain ⟨k10, hf⟩ := pm_if hf
      cases hf
      exact ih.2.2.2.2.2.2.2.2.2.2.2.1 x0 (pm_sz (pm_setR h s1 27 (some s0))) x0 (pm_new (pm_setR h s1 27 (some s0)) 32 200) (pw_new (pw_sR K0 rfl k10 (by decide)))  hi
    refine ⟨fun x0 s0 s1 h K0 hf => ?_, ?_⟩
    · obtain ⟨y, hf, hi⟩ := pm_iter_s hf
      have hf : tX16_init_99 x0 s0 s1 h = some y := hf
      unfold tX16_init_99 at hf
      obtain ⟨k11, hf⟩ := pm_if hf
      cases hf
      exact ih.2.2.2.2.2.2.2.2.2.2.2.2.1 x0 (pm_sz (pm_setR h s1 28 (some s0))) x0 (pm_new (pm_setR h s1 28 (some s0)) 34 16) (pw_new (pw_sR K0 rfl k11 (by decide)))  hi
    refine ⟨fun x0 s0 s1 h K0 hf => ?_, ?_⟩
    · obtain ⟨y, hf, hi⟩ := pm_iter_s hf
      have hf : tX16_init_107 x0 s0 s1 h = some y := hf
      unfold tX16_init_107 at hf
      obtain ⟨k12, hf⟩ := pm_if hf
      cases hf
      exact ih.2.2.2.2.2.2.2.2.2.2.2.2.2.1 x0 (pm_sz (pm_setR h s1 32 (some s0))) x0 (pm_new (pm_setR h s1 32 (some s0)) 15 0) (pw_new (pw_sR K0 rfl k12 (by decide)))  hi
    refine ⟨fun x0 s0 s1 h K0 hf => ?_, ?_⟩
    · obtain ⟨y, hf, hi⟩ := pm_iter_s hf
      have hf : tX16_init_114 x0 s0 s1 h = some y := hf
      unfold tX16_init_114 at hf
      obtain ⟨v13, e14, hf⟩ := pm_lt hf
      obtain ⟨k15, hf⟩ := pm_if hf
      cases hf
      exact ih.2.2.2.2.2.2.2.2.2.2.2.2.2.2.1 x0 (pm_sz (pm_setR h s1 34 (some s0))) x0 (pm_new (pm_setR h s1 34 (some s0)) 15 0) (pw_new (pw_sR K0 rfl k15 (by decide)))  hi
    refine ⟨fun x0 s0 s1 h K0 hf => ?_, ?_⟩
    · obtain ⟨y, hf, hi⟩ := pm_iter_s hf
      have hf : tX16_init_125 x0 s0 s1 h = some y := hf
      unfold tX16_init_125 at hf
      obtain ⟨v16, e17, hf⟩ := pm_lt hf
      obtain ⟨k18, hf⟩ := pm_if hf
      cases hf
      exact ih.2.2.2.2.2.2.2.2.2.2.2.2.2.2.2.1 x0 (pm_sz (pm_setR h s1 35 (some s0))) x0 (pm_new (pm_setR h s1 35 (some s0)) 34 512) (pw_new (pw_sR K0 rfl k18 (by decide)))  hi
    refine ⟨fun x0 s0 s1 h K0 hf => ?_, ?_⟩
    · obtain ⟨y, hf, hi⟩ := pm_iter_s hf
      have hf : tX16_init_138 x0 s0 s1 h = some y := hf
      unfold tX16_init_138 at hf
      obtain ⟨k19, hf⟩ := pm_if hf
      cases hf
      exact ih.2.2.2.2.2.2.2.2.2.2.2.2.2.2.2.2.1 x0 (pm_sz (pm_setR h s1 37 (some s0))) x0 (pm_new (pm_setR h s1 37 (some s0)) 34 512) (pw_new (pw_sR K0 rfl k19 (by decide)))  hi
    refine ⟨fun x0 s0 s1 h K0 hf => ?_, ?_⟩
    · obtain ⟨y, hf, hi⟩ := pm_iter_s hf
      have hf : tX16_init_147 x0 s0 s1 h = some y := hf
      unfold tX16_init_147 at hf
      obtain ⟨k20, hf⟩ := pm_if hf
      cases hf
      exact ih.2.2.2.2.2.2.2.2.2.2.2.2.2.2.2.2.2.1 x0 (pm_sz (pm_setR h s1 38 (some s0))) x0 (pm_new (pm_setR h s1 38 (some s0)) 34 512) (pw_new (pw_sR K0 rfl k20 (by decide)))  hi
    refine ⟨fun x0 s0 s1 h K0 hf => ?_, ?_⟩
    · obtain ⟨y, hf, hi⟩ := pm_iter_s hf
      have hf : tX16_init_156 x0 s0 s1 h = some y := hf
      unfold tX16_init_156 at hf
      obtain ⟨k21, hf⟩ := pm_if hf
      cases hf
      exact ih.2.2.2.2.2.2.2.2.2.2.2.2.2.2.2.2.2.2.1 x0 (pm_sz (pm_setR h s1 39 (some s0))) x0 (pm_new (pm_setR h s1 39 (some s0)) 34 512) (pw_new (pw_sR K0 rfl k21 (by decide)))  hi
    refine ⟨fun x0 s0 s1 h K0 hf => ?_, ?_⟩
    · obtain ⟨y, hf, hi⟩ := pm_iter_s hf
      have hf : tX16_init_165 x0 s0 s1 h = some y := hf
      unfold tX16_init_165 at hf
      obtain ⟨k22, hf⟩ := pm_if hf
      cases hf
      exact ih.2.2.2.2.2.2.2.2.2.2.2.2.2.2.2.2.2.2.2.1 x0 (pm_sz (pm_setR h s1 40 (some s0))) x0 (pm_new (pm_setR h s1 40 (some s0)) 34 512) (pw_new (pw_sR K0 rfl k22 (by decide)))  hi
    refine ⟨fun x0 s0 s1 h K0 hf => ?_, ?_⟩
    · obtain ⟨y, hf, hi⟩ := pm_iter_s hf
      have hf : tX16_init_174 x0 s0 s1 h = some y := hf
      unfold tX16_init_174 at hf
      obtain ⟨k23, hf⟩ := pm_if hf
      cases hf
      exact ih.2.2.2.2.2.2.2.2.2.2.2.2.2.2.2.2.2.2.2.2.1 x0 (pm_sz (pm_setR h s1 41 (some s0))) x0 (pm_new (pm_setR h s1 41 (some s0)) 34 512) (pw_new (pw_sR K0 rfl k23 (by decide)))  hi
    refine ⟨fun x0 s0 s1 h K0 hf => ?_, ?_⟩
    · obtain ⟨y, hf, hi⟩ := pm_iter_s hf
      have hf : tX16_init_183 x0 s0 s1 h = some y := hf
      unfold tX16_init_183 at hf
      obtain ⟨k24, hf⟩ := pm_if hf
      cases hf
      exact ih.2.2.2.2.2.2.2.2.2.2.2.2.2.2.2.2.2.2.2.2.2.1 x0 (pm_sz (pm_setR h s1 42 (some s0))) x0 (pm_new (pm_setR h s1 42 (some s0)) 32 512) (pw_new (pw_sR K0 rfl k24 (by decide)))  hi
    refine ⟨fun x0 s0 s1 h K0 hf => ?_, ?_⟩
    · obtain ⟨y, hf, hi⟩ := pm_iter_s hf
      have hf : tX16_init_192 x0 s0 s1 h = some y := hf
      unfold tX16_init_192 at hf
      obtain ⟨k25, hf⟩ := pm_if hf
      obtain ⟨k26, hf⟩ := pm_if hf
      have k26b := (congrFun (pkR rfl) x0).symm.trans k26
      cases hf
      exact ih.2.2.2.2.2.2.2.2.2.2.2.2.2.2.2.2.2.2.2.2.2.2.1 x0 (pm_sz (pm_setI (pm_setR h s1 43 (some s0)) x0 47 1024)) x0 (pm_new (pm_setI (pm_setR h s1 43 (some s0)) x0 47 1024) 34 32) (pw_new (pw_sI (pw_sR K0 rfl k25 (by decide)) (pkR rfl) k26b (by decide)))  hi
    refine ⟨fun x0 s0 s1 h K0 hf => ?_, ?_⟩
    · obtain ⟨y, hf, hi⟩ := pm_iter_s hf
      have hf : tX16_init_207 x0 s0 s1 h = some y := hf
      unfold tX16_init_207 at hf
      obtain ⟨k27, hf⟩ := pm_if hf
      cases hf
      exact ih.2.2.2.2.2.2.2.2.2.2.2.2.2.2.2.2.2.2.2.2.2.2.2.1 x0 (pm_sz (pm_setR h s1 48 (some s0))) x0 (pm_new (pm_setR h s1 48 (some s0)) 34 32) (pw_new (pw_sR K0 rfl k27 (by decide)))  hi
    refine ⟨fun x0 s0 s1 h K0 hf => ?_, ?_⟩
    · obtain ⟨y, hf, hi⟩ := pm_iter_s hf
      have hf : tX16_init_215 x0 s0 s1 h = some y := hf
      unfold tX16_init_215 at hf
      obtain ⟨k28, hf⟩ := pm_if hf
      cases hf
      exact ih.2.2.2.2.2.2.2.2.2.2.2.2.2.2.2.2.2.2.2.2.2.2.2.2.1 x0 (pm_sz (pm_setR h s1 49 (some s0))) x0 (pm_new (pm_setR h s1 49 (some s0)) 35 32) (pw_new (pw_sR K0 rfl k28 (by decide)))  hi
    refine ⟨fun x0 s0 s1 h K0 hf => ?_, ?_⟩
    · obtain ⟨y, hf, hi⟩ := pm_iter_s hf
      have hf : tX16_init_223 x0 s0 s1 h = some y := hf
      unfold tX16_init_223 at hf
      obtain ⟨k29, hf⟩ := pm_if hf
      cases hf
      exact ih.2.2.2.2.2.2.2.2.2.2.2.2.2.2.2.2.2.2.2.2.2.2.2.2.2.1 x0 (pm_sz (pm_setR h s1 50 (some s0))) x0 (pm_new (pm_setR h s1 50 (some s0)) 34 32768) (pw_new (pw_sR K0 rfl k29 (by decide)))  hi
    refine ⟨fun x0 s0 s1 h K0 hf => ?_, ?_⟩
    · obtain ⟨y, hf, hi⟩ := pm_iter_s hf
      have hf : tX16_init_231 x0 s0 s1 h = some y := hf
      unfold tX16_init_231 at hf
      obtain ⟨k30, hf⟩ := pm_if hf
      obtain ⟨k31, hf⟩ := pm_if hf
      have k31b := (congrFun (pkR rfl) x0).symm.trans k31
      cases hf
      exact ih.2.2.2.2.2.2.2.2.2.2.2.2.2.2.2.2.2.2.2.2.2.2.2.2.2.2.1 x0 (pm_sz (pm_setI (pm_setR h s1 51 (some s0)) x0 53 8)) x0 (pm_new (pm_setI (pm_setR h s1 51 (some s0)) x0 53 8) 34 16) (pw_new (pw_sI (pw_sR K0 rfl k30 (by decide)) (pkR rfl) k31b (by decide)))  hi
    refine ⟨fun x0 s0 s1 h K0 hf => ?_, ?_⟩
    · obtain ⟨y, hf, hi⟩ := pm_iter_s hf
      have hf : tX16_init_245 x0 s0 s1 h = some y := hf
      unfold tX16_init_245 at hf
      obtain ⟨k32, hf⟩ := pm_if hf
      cases hf
      exact ih.2.2.2.2.2.2.2.2.2.2.2.2.2.2.2.2.2.2.2.2.2.2.2.2.2.2.2.1 x0 (pm_sz (pm_setR h s1 54 (some s0))) x0 (pm_new (pm_setR h s1 54 (some s0)) 35 16) (pw_new (pw_sR K0 rfl k32 (by decide)))  hi
    refine ⟨fun x0 s0 s1 h K0 hf => ?_, ?_⟩
    · obtain ⟨y, hf, hi⟩ := pm_iter_s hf
      have hf : tX16_init_253 x0 s0 s1 h = some y := hf
      unfold tX16_init_253 at hf
      obtain ⟨k33, hf⟩ := pm_if hf
      cases hf
      exact ih.2.2.2.2.2.2.2.2.2.2.2.2.2.2.2.2.2.2.2.2.2.2.2.2.2.2.2.2.1 x0 (pm_sz (pm_setR h s1 55 (some s0))) x0 (pm_new (pm_setR h s1 55 (some s0)) 34 128) (pw_new (pw_sR K0 rfl k33 (by decide)))  hi
    refine ⟨fun x0 s0 s1 h K0 hf => ?_, ?_⟩
    · obtain ⟨y, hf, hi⟩ := pm_iter_s hf
      have hf : tX16_init_262 x0 s0 s1 h = some y := hf
      unfold tX16_init_262 at hf
      obtain ⟨k34, hf⟩ := pm_if hf
      cases hf
      exact ih.2.2.2.2.2.2.2.2.2.2.2.2.2.2.2.2.2.2.2.2.2.2.2.2.2.2.2.2.2.1 x0 (pm_sz (pm_setR h s1 56 (some s0))) x0 (pm_new (pm_setR h s1 56 (some s0)) 33 524288) (pw_new (pw_sR K0 rfl k34 (by decide)))  hi
    refine ⟨fun x0 s0 s1 h K0 hf => ?_, ?_⟩
    · obtain ⟨y, hf, hi⟩ := pm_iter_s hf
      have hf : tX16_init_270 x0 s0 s1 h = some y := hf
      unfold tX16_init_270 at hf
      obtain ⟨k35, hf⟩ := pm_if hf
      cases hf
      exact ih.2.2.2.2.2.2.2.2.2.2.2.2.2.2.2.2.2.2.2.2.2.2.2.2.2.2.2.2.2.2.1 x0 (pm_sz (pm_setR h s1 57 (some s0))) x0 (pm_new (pm_setR h s1 57 (some s0)) 34 256) (pw_new (pw_sR K0 rfl k35 (by decide)))  hi
    refine ⟨fun x0 s0 s1 h K0 hf => ?_, ?_⟩
    · obtain ⟨y, hf, hi⟩ := pm_iter_s hf
      have hf : tX16_init_279 x0 s0 s1 h = some y := hf
      unfold tX16_init_279 at hf
      obtain ⟨k36, hf⟩ := pm_if hf
      cases hf
      exact ih.2.2.2.2.2.2.2.2.2.2.2.2.2.2.2.2.2.2.2.2.2.2.2.2.2.2.2.2.2.2.2.1 x0 (pm_sz (pm_setR h s1 59 (some s0))) x0 (pm_new (pm_setR h s1 59 (some s0)) 32 256) (pw_new (pw_sR K0 rfl k36 (by decide)))  hi
    refine ⟨fun x0 s0 s1 h K0 hf => ?_, ?_⟩
    · obtain ⟨y, hf, hi⟩ := pm_iter_s hf
      have hf : tX16_init_288 x0 s0 s1 h = some y := hf
      unfold tX16_init_288 at hf
      obtain ⟨k37, hf⟩ := pm_if hf
      cases hf
      exact ih.2.2.2.2.2.2.2.2.2.2.2.2.2.2.2.2.2.2.2.2.2.2.2.2.2.2.2.2.2.2.2.2.1 x0 (pm_sz (pm_setR h s1 60 (some s0))) x0 (pm_new (pm_setR h s1 60 (some s0)) 35 256) (pw_new (pw_sR K0 rfl k37 (by decide)))  hi
    refine ⟨fun x0 s0 s1 h K0 hf => ?_, ?_⟩
    · obtain ⟨y, hf, hi⟩ := pm_iter_s hf
      have hf : tX16_init_297 x0 s0 s1 h = some y := hf
      unfold tX16_init_297 at hf
      obtain ⟨k38, hf⟩ := pm_if hf
      cases hf
      exact ih.2.2.2.2.2.2.2.2.2.2.2.2.2.2.2.2.2.2.2.2.2.2.2.2.2.2.2.2.2.2.2.2.2.1 x0 (pm_sz (pm_setR h s1 61 (some s0))) x0 (pm_new (pm_setR h s1 61 (some s0)) 34 16) (pw_new (pw_sR K0 rfl k38 (by decide)))  hi
    refine ⟨fun x0 s0 s1 h K0 hf => ?_, ?_⟩
    · obtain ⟨y, hf, hi⟩ := pm_iter_s hf
      have hf : tX16_init_305 x0 s0 s1 h = some y := hf
      unfold tX16_init_305 at hf
      obtain ⟨k39, hf⟩ := pm_if hf
      cases hf
      exact ih.2.2.2.2.2.2.2.2.2.2.2.2.2.2.2.2.2.2.2.2.2.2.2.2.2.2.2.2.2.2.2.2.2.2.1 x0 (pm_sz (pm_setR h s1 63 (some s0))) x0 (pm_new (pm_setR h s1 63 (some s0)) 34 2048) (pw_new (pw_sR K0 rfl k39 (by decide)))  hi
    refine ⟨fun x0 s0 s1 h K0 hf => ?_, ?_⟩
    · obtain ⟨y, hf, hi⟩ := pm_iter_s hf
      have hf : tX16_init_314 x0 s0 s1 h = some y := hf
      unfold tX16_init_314 at hf
      obtain ⟨k40, hf⟩ := pm_if hf
      cases hf
      exact ih.2.2.2.2.2.2.2.2.2.2.2.2.2.2.2.2.2.2.2.2.2.2.2.2.2.2.2.2.2.2.2.2.2.2.2.1 x0 (pm_sz (pm_setR h s1 64 (some s0))) x0 (pm_new (pm_setR h s1 64 (some s0)) 34 2048) (pw_new (pw_sR K0 rfl k40 (by decide)))  hi
    refine ⟨fun x0 s0 s1 h K0 hf => ?_, ?_⟩
    · obtain ⟨y, hf, hi⟩ := pm_iter_s hf
      have hf : tX16_init_323 x0 s0 s1 h = some y := hf
      unfold tX16_init_323 at hf
      obtain ⟨k41, hf⟩ := pm_if hf
      cases hf
      exact ih.2.2.2.2.2.2.2.2.2.2.2.2.2.2.2.2.2.2.2.2.2.2.2.2.2.2.2.2.2.2.2.2.2.2.2.2.1 x0 (pm_sz (pm_setR h s1 65 (some s0))) x0 (pm_new (pm_setR h s1 65 (some s0)) 34 2048) (pw_new (pw_sR K0 rfl k41 (by decide)))  hi
    refine ⟨fun x0 s0 s1 h K0 hf => ?_, ?_⟩
    · obtain ⟨y, hf, hi⟩ := pm_iter_s hf
      have hf : tX16_init_332 x0 s0 s1 h = some y := hf
      unfold tX16_init_332 at hf
      obtain ⟨k42, hf⟩ := pm_if hf
      cases hf
      exact ih.2.2.2.2.2.2.2.2.2.2.2.2.2.2.2.2.2.2.2.2.2.2.2.2.2.2.2.2.2.2.2.2.2.2.2.2.2.1 x0 (pm_sz (pm_setR h s1 66 (some s0))) x0 (pm_new (pm_setR h s1 66 (some s0)) 34 2048) (pw_new (pw_sR K0 rfl k42 (by decide)))  hi
    refine ⟨fun x0 s0 s1 h K0 hf => ?_, ?_⟩
    · obtain ⟨y, hf, hi⟩ := pm_iter_s hf
      have hf : tX16_init_341 x0 s0 s1 h = some y := hf
      unfold tX16_init_341 at hf
      obtain ⟨k43, hf⟩ := pm_if hf
      cases hf
      exact ih.2.2.2.2.2.2.2.2.2.2.2.2.2.2.2.2.2.2.2.2.2.2.2.2.2.2.2.2.2.2.2.2.2.2.2.2.2.2.1 x0 (pm_sz (pm_setR h s1 67 (some s0))) x0 (pm_new (pm_setR h s1 67 (some s0)) 34 1024) (pw_new (pw_sR K0 rfl k43 (by decide)))  hi
    refine ⟨fun x0 s0 s1 h K0 hf => ?_, ?_⟩
    · obtain ⟨y, hf, hi⟩ := pm_iter_s hf
      have hf : tX16_init_350 x0 s0 s1 h = some y := hf
      unfold tX16_init_350 at hf
      obtain ⟨k44, hf⟩ := pm_if hf
      cases hf
      exact ih.2.2.2.2.2.2.2.2.2.2.2.2.2.2.2.2.2.2.2.2.2.2.2.2.2.2.2.2.2.2.2.2.2.2.2.2.2.2.2.1 x0 (pm_sz (pm_setR h s1 68 (some s0))) x0 (pm_new (pm_setR h s1 68 (some s0)) 34 1024) (pw_new (pw_sR K0 rfl k44 (by decide)))  hi
    refine ⟨fun x0 s0 s1 h K0 hf => ?_, ?_⟩
    · obtain ⟨y, hf, hi⟩ := pm_iter_s hf
      have hf : tX16_init_359 x0 s0 s1 h = some y := hf
      unfold tX16_init_359 at hf
      obtain ⟨k45, hf⟩ := pm_if hf
      cases hf
      exact ih.2.2.2.2.2.2.2.2.2.2.2.2.2.2.2.2.2.2.2.2.2.2.2.2.2.2.2.2.2.2.2.2.2.2.2.2.2.2.2.2.1 x0 (pm_sz (pm_setR h s1 69 (some s0))) x0 (pm_new (pm_setR h s1 69 (some s0)) 32 1024) (pw_new (pw_sR K0 rfl k45 (by decide)))  hi
    refine ⟨fun x0 s0 s1 h K0 hf => ?_, ?_⟩
    · obtain ⟨y, hf, hi⟩ := pm_iter_s hf
      have hf : tX16_init_368 x0 s0 s1 h = some y := hf
      unfold tX16_init_368 at hf
      obtain ⟨k46, hf⟩ := pm_if hf
      cases hf
      exact ih.2.2.2.2.2.2.2.2.2.2.2.2.2.2.2.2.2.2.2.2.2.2.2.2.2.2.2.2.2.2.2.2.2.2.2.2.2.2.2.2.2.1 x0 (pm_sz (pm_setR h s1 70 (some s0))) x0 (pm_new (pm_setR h s1 70 (some s0)) 34 2048) (pw_new (pw_sR K0 rfl k46 (by decide)))  hi
    refine ⟨fun x0 s0 s1 h K0 hf => ?_, ?_⟩
    · obtain ⟨y, hf, hi⟩ := pm_iter_s hf
      have hf : tX16_init_377 x0 s0 s1 h = some y := hf
      unfold tX16_init_377 at hf
      obtain ⟨k47, hf⟩ := pm_if hf
      cases hf
      exact ih.2.2.2.2.2.2.2.2.2.2.2.2.2.2.2.2.2.2.2.2.2.2.2.2.2.2.2.2.2.2.2.2.2.2.2.2.2.2.2.2.2.2.1 x0 (pm_sz (pm_setR h s1 72 (some s0))) x0 (pm_new (pm_setR h s1 72 (some s0)) 34 64) (pw_new (pw_sR K0 rfl k47 (by decide)))  hi
    refine ⟨fun x0 s0 s1 h K0 hf => ?_, ?_⟩
    · obtain ⟨y, hf, hi⟩ := pm_iter_s hf
      have hf : tX16_init_385 x0 s0 s1 h = some y := hf
      unfold tX16_init_385 at hf
      obtain ⟨k48, hf⟩ := pm_if hf
      cases hf
      exact ih.2.2.2.2.2.2.2.2.2.2.2.2.2.2.2.2.2.2.2.2.2.2.2.2.2.2.2.2.2.2.2.2.2.2.2.2.2.2.2.2.2.2.2.1 x0 (pm_sz (pm_setR h s1 74 (some s0))) x0 (pm_new (pm_setR h s1 74 (some s0)) 34 64) (pw_new (pw_sR K0 rfl k48 (by decide)))  hi
    refine ⟨fun x0 s0 s1 h K0 hf => ?_, ?_⟩
    · obtain ⟨y, hf, hi⟩ := pm_iter_s hf
      have hf : tX16_init_393 x0 s0 s1 h = some y := hf
      unfold tX16_init_393 at hf
      obtain ⟨k49, hf⟩ := pm_if hf
      obtain ⟨k50, hf⟩ := pm_if hf
      have k50b := (congrFun (pkR rfl) x0).symm.trans k50
      cases hf
      exact ih.2.2.2.2.2.2.2.2.2.2.2.2.2.2.2.2.2.2.2.2.2.2.2.2.2.2.2.2.2.2.2.2.2.2.2.2.2.2.2.2.2.2.2.2.1 x0 (pm_sz (pm_setI (pm_setR h s1 75 (some s0)) x0 79 (-1))) x0 (pm_new (pm_setI (pm_setR h s1 75 (some s0)) x0 79 (-1)) 35 16) (pw_new (pw_sI (pw_sR K0 rfl k49 (by decide)) (pkR rfl) k50b (by decide)))  hi
    refine ⟨fun x0 s0 s1 h K0 hf => ?_, ?_⟩
    · obtain ⟨y, hf, hi⟩ := pm_iter_s hf
      have hf : tX16_init_406 x0 s0 s1 h = some y := hf
      unfold tX16_init_406 at hf
      obtain ⟨k51, hf⟩ := pm_if hf
      cases hf
      exact ih.2.2.2.2.2.2.2.2.2.2.2.2.2.2.2.2.2.2.2.2.2.2.2.2.2.2.2.2.2.2.2.2.2.2.2.2.2.2.2.2.2.2.2.2.2.1 x0 (pm_sz (pm_setR h s1 82 (some s0))) x0 (pm_new (pm_setR h s1 82 (some s0)) 35 16) (pw_new (pw_sR K0 rfl k51 (by decide)))  hi
    refine ⟨fun x0 s0 s1 h K0 hf => ?_, ?_⟩
    · obtain ⟨y, hf, hi⟩ := pm_iter_s hf
      have hf : tX16_init_414 x0 s0 s1 h = some y := hf
      unfold tX16_init_414 at hf
      obtain ⟨k52, hf⟩ := pm_if hf
      cases hf
      exact ih.2.2.2.2.2.2.2.2.2.2.2.2.2.2.2.2.2.2.2.2.2.2.2.2.2.2.2.2.2.2.2.2.2.2.2.2.2.2.2.2.2.2.2.2.2.2.1 x0 (pm_sz (pm_setR h s1 84 (some s0))) x0 (pm_new (pm_setR h s1 84 (some s0)) 34 200) (pw_new (pw_sR K0 rfl k52 (by decide)))  hi
    refine ⟨fun x0 s0 s1 h K0 hf => ?_, ?_⟩
    · obtain ⟨y, hf, hi⟩ := pm_iter_s hf
      have hf : tX16_init_423 x0 s0 s1 h = some y := hf
      unfold tX16_init_423 at hf
      obtain ⟨k53, hf⟩ := pm_if hf
      cases hf
      exact ih.2.2.2.2.2.2.2.2.2.2.2.2.2.2.2.2.2.2.2.2.2.2.2.2.2.2.2.2.2.2.2.2.2.2.2.2.2.2.2.2.2.2.2.2.2.2.2.1 x0 (pm_sz (pm_setR h s1 86 (some s0))) x0 (pm_new (pm_setR h s1 86 (some s0)) 34 200) (pw_new (pw_sR K0 rfl k53 (by decide)))  hi
    refine ⟨fun x0 s0 s1 h K0 hf => ?_, ?_⟩
    · obtain ⟨y, hf, hi⟩ := pm_iter_s hf
      have hf : tX16_init_432 x0 s0 s1 h = some y := hf
      unfold tX16_init_432 at hf
      obtain ⟨k54, hf⟩ := pm_if hf
      cases hf
      exact ih.2.2.2.2.2.2.2.2.2.2.2.2.2.2.2.2.2.2.2.2.2.2.2.2.2.2.2.2.2.2.2.2.2.2.2.2.2.2.2.2.2.2.2.2.2.2.2.2.1 x0 (pm_sz (pm_setR h s1 87 (some s0))) x0 (pm_new (pm_setR h s1 87 (some s0)) 34 200) (pw_new (pw_sR K0 rfl k54 (by decide)))  hi
    refine ⟨fun x0 s0 s1 h K0 hf => ?_, ?_⟩
    · obtain ⟨y, hf, hi⟩ := pm_iter_s hf
      have hf : tX16_init_441 x0 s0 s1 h = some y := hf
      unfold tX16_init_441 at hf
      obtain ⟨k55, hf⟩ := pm_if hf
      cases hf
      exact ih.2.2.2.2.2.2.2.2.2.2.2.2.2.2.2.2.2.2.2.2.2.2.2.2.2.2.2.2.2.2.2.2.2.2.2.2.2.2.2.2.2.2.2.2.2.2.2.2.2.1 x0 (pm_sz (pm_setR h s1 88 (some s0))) x0 (pm_new (pm_setR h s1 88 (some s0)) 34 200) (pw_new (pw_sR K0 rfl k55 (by decide)))  hi
    refine ⟨fun x0 s0 s1 h K0 hf => ?_, ?_⟩
    · obtain ⟨y, hf, hi⟩ := pm_iter_s hf
      have hf : tX16_init_450 x0 s0 s1 h = some y := hf
      unfold tX16_init_450 at hf
      obtain ⟨k56, hf⟩ := pm_if hf
      cases hf
      exact ih.2.2.2.2.2.2.2.2.2.2.2.2.2.2.2.2.2.2.2.2.2.2.2.2.2.2.2.2.2.2.2.2.2.2.2.2.2.2.2.2.2.2.2.2.2.2.2.2.2.2.1 x0 (pm_sz (pm_setR h s1 89 (some s0))) x0 (pm_new (pm_setR h s1 89 (some s0)) 34 200) (pw_new (pw_sR K0 rfl k56 (by decide)))  hi
    refine ⟨fun x0 s0 s1 h K0 hf => ?_, ?_⟩
    · obtain ⟨y, hf, hi⟩ := pm_iter_s hf
      have hf : tX16_init_459 x0 s0 s1 h = some y := hf
      unfold tX16_init_459 at hf
      obtain ⟨k57, hf⟩ := pm_if hf
      cases hf
      exact ih.2.2.2.2.2.2.2.2.2.2.2.2.2.2.2.2.2.2.2.2.2.2.2.2.2.2.2.2.2.2.2.2.2.2.2.2.2.2.2.2.2.2.2.2.2.2.2.2.2.2.2.1 x0 (pm_sz (pm_setR h s1 90 (some s0))) x0 (pm_new (pm_setR h s1 90 (some s0)) 34 200) (pw_new (pw_sR K0 rfl k57 (by decide)))  hi
    refine ⟨fun x0 s0 s1 h K0 hf => ?_, ?_⟩
    · obtain ⟨y, hf, hi⟩ := pm_iter_s hf
      have hf : tX16_init_468 x0 s0 s1 h = some y := hf
      unfold tX16_init_468 at hf
      obtain ⟨k58, hf⟩ := pm_if hf
      cases hf
      exact ih.2.2.2.2.2.2.2.2.2.2.2.2.2.2.2.2.2.2.2.2.2.2.2.2.2.2.2.2.2.2.2.2.2.2.2.2.2.2.2.2.2.2.2.2.2.2.2.2.2.2.2.2.1 x0 (pm_sz (pm_setR h s1 91 (some s0))) x0 (pm_new (pm_setR h s1 91 (some s0)) 35 4096) (pw_new (pw_sR K0 rfl k58 (by decide)))  hi
    refine ⟨fun x0 s0 s1 h K0 hf => ?_, ?_⟩
    · obtain ⟨y, hf, hi⟩ := pm_iter_s hf
      have hf : tX16_init_477 x0 s0 s1 h = some y := hf
      unfold tX16_init_477 at hf
      obtain ⟨k59, hf⟩ := pm_if hf
      cases hf
      exact ih.2.2.2.2.2.2.2.2.2.2.2.2.2.2.2.2.2.2.2.2.2.2.2.2.2.2.2.2.2.2.2.2.2.2.2.2.2.2.2.2.2.2.2.2.2.2.2.2.2.2.2.2.2.1 x0 (pm_sz (pm_setR h s1 92 (some s0))) x0 (pm_new (pm_setR h s1 92 (some s0)) 34 40000) (pw_new (pw_sR K0 rfl k59 (by decide)))  hi
    refine ⟨fun x0 s0 s1 h K0 hf => ?_, ?_⟩
    · obtain ⟨y, hf, hi⟩ := pm_iter_s hf
      have hf : tX16_init_485 x0 s0 s1 h = some y := hf
      unfold tX16_init_485 at hf
      obtain ⟨k60, hf⟩ := pm_if hf
      cases hf
      exact ih.2.2.2.2.2.2.2.2.2.2.2.2.2.2.2.2.2.2.2.2.2.2.2.2.2.2.2.2.2.2.2.2.2.2.2.2.2.2.2.2.2.2.2.2.2.2.2.2.2.2.2.2.2.2.1 x0 (pm_sz (pm_setR h s1 97 (some s0))) x0 (pm_new (pm_setR h s1 97 (some s0)) 34 40000) (pw_new (pw_sR K0 rfl k60 (by decide)))  hi
    refine ⟨fun x0 s0 s1 h K0 hf => ?_, ?_⟩
    · obtain ⟨y, hf, hi⟩ := pm_iter_s hf
      have hf : tX16_init_493 x0 s0 s1 h = some y := hf
      unfold tX16_init_493 at hf
      obtain ⟨k61, hf⟩ := pm_if hf
      cases hf
      exact ih.2.2.2.2.2.2.2.2.2.2.2.2.2.2.2.2.2.2.2.2.2.2.2.2.2.2.2.2.2.2.2.2.2.2.2.2.2.2.2.2.2.2.2.2.2.2.2.2.2.2.2.2.2.2.2.1 x0 (pm_sz (pm_setR h s1 98 (some s0))) x0 (pm_new (pm_setR h s1 98 (some s0)) 34 40000) (pw_new (pw_sR K0 rfl k61 (by decide)))  hi
    refine ⟨fun x0 s0 s1 h K0 hf => ?_, ?_⟩
    · obtain ⟨y, hf, hi⟩ := pm_iter_s hf
      have hf : tX16_init_501 x0 s0 s1 h = some y := hf
      unfold tX16_init_501 at hf
      obtain ⟨k62, hf⟩ := pm_if hf
      cases hf
      exact ih.2.2.2.2.2.2.2.2.2.2.2.2.2.2.2.2.2.2.2.2.2.2.2.2.2.2.2.2.2.2.2.2.2.2.2.2.2.2.2.2.2.2.2.2.2.2.2.2.2.2.2.2.2.2.2.2.1 x0 (pm_sz (pm_setR h s1 99 (some s0))) x0 (pm_new (pm_setR h s1 99 (some s0)) 32 40000) (pw_new (pw_sR K0 rfl k62 (by decide)))  hi
    refine ⟨fun x0 s0 s1 h K0 hf => ?_, ?_⟩
    · obtain ⟨y, hf, hi⟩ := pm_iter_s hf
      have hf : tX16_init_509 x0 s0 s1 h = some y := hf
      unfold tX16_init_509 at hf
      obtain ⟨k63, hf⟩ := pm_if hf
      cases hf
      exact ih.2.2.2.2.2.2.2.2.2.2.2.2.2.2.2.2.2.2.2.2.2.2.2.2.2.2.2.2.2.2.2.2.2.2.2.2.2.2.2.2.2.2.2.2.2.2.2.2.2.2.2.2.2.2.2.2.2 x0 0 (pm_setR h s1 100 (some s0)) (pw_sR K0 rfl k63 (by decide))  hi
    refine fun x0 x1 h K0 hf => ?_
    obtain ⟨y, hf, hi⟩ := pm_iter_s hf
    have hf : tX16_init_514 x0 x1 h = some y := hf
    unfold tX16_init_514 at hf
    by_cases c64 : 512 ≤ x1
    · have hf := pm_it hf c64
      have hf := Option.some.inj hf
      subst hf
      have hi := Option.some.inj (show some _ = some r from hi)
      subst hi
      exact K0
    · have hf := pm_ie hf c64
      obtain ⟨k65, hf⟩ := pm_if hf
      obtain ⟨v66, e67, hf⟩ := pm_bd hf
      obtain ⟨k68, hf⟩ := pm_if hf
      obtain ⟨u69, hf⟩ := pm_if hf
      obtain ⟨y70, e71, hf⟩ := pm_lt hf
      cases hf
      exact ih.2.2.2.2.2.2.2.2.2.2.2.2.2.2.2.2.2.2.2.2.2.2.2.2.2.2.2.2.2.2.2.2.2.2.2.2.2.2.2.2.2.2.2.2.2.2.2.2.2.2.2.2.2.2.2.2.2 x0 y70 (pm_setI h v66 x1.toNatClampNeg (-1)) (pw_aI K0 rfl k68 (by decide) (by decide))  hi
set_option maxHeartbeats 4000000 in
set_option maxRecDepth 100000 in
theorem wfX16_init {h0 h : pm_H} (K0 : pw_F WX16_init h0 h) {a0 : Nat}  {r : pm_H} (hf : fX16_init h a0 = some r) : pw_F WX16_init h0 r := by
  unfold fX16_init at hf
  obtain ⟨n, hn⟩ := pm_lim_iter hf
  exact (wlX16_init n).1 a0 h K0  hn
abbrev WX16_module : List Nat := [1792, 1793, 1794, 1795, 1796, 1797, 1798, 1799, 1800, 1801, 1802, 1803, 1804, 1805, 1806, 1807, 1808, 1809, 1810, 1811, 1812, 1813, 1814, 1815, 1816, 1817, 1818, 1819, 1820, 1821, 1822, 1823, 1824, 1825, 1826, 1827, 1828, 1829, 1830, 1831, 1832, 1833, 1834, 1835, 1836, 1837, 1838, 1839, 1840, 1841, 1842, 1843, 1844, 1845, 1846, 1847, 1848, 1849, 2049, 2051, 2053, 2054, 2055, 2056, 2058, 2059, 2060, 2061, 2064, 2065, 2066, 2067, 2069, 2071, 2072, 2077, 2078, 2079, 4096, 4224, 4352, 4480, 5376]
set_option maxHeartbeats 4000000 in
set_option maxRecDepth 100000 in
theorem wlX16_module {h0 : pm_H} {r : (Int32 × pm_H)} : ∀ n : Nat, (∀ (x0 : Nat) (x1 : Int32) (h : pm_H), pw_F WX16_module h0 h → pm_iter sX16_module n (.inl (x0, x1, h)) = some r → pw_F WX16_module h0 r.2) ∧ (∀ (x0 : Nat) (x1 : Int32) (x2 : Option Nat) (s0 : Nat) (s1 : Nat) (h : pm_H), pw_F WX16_module h0 h → pm_iter sX16_module n (.inr (.inl (x0, x1, x2, s0, s1, h))) = some r → pw_F WX16_module h0 r.2) ∧ (∀ (x0 : Nat) (x1 : Int32) (x2 : Option Nat) (h : pm_H), pw_F WX16_module h0 h → pm_iter sX16_module n (.inr (.inr (.inl (x0, x1, x2, h)))) = some r → pw_F WX16_module h0 r.2) ∧ (∀ (x0 : Nat) (x1 : Int32) (x2 : Option Nat) (s0 : Nat) (s1 : Nat) (h : pm_H), pw_F WX16_module h0 h → pm_iter sX16_module n (.inr (.inr (.inr (.inl (x0, x1, x2, s0, s1, h))))) = some r → pw_F WX16_module h0 r.2) ∧ (∀ (x0 : Nat) (x1 : Int32) (x2 : Option Nat) (x3 : Int32) (h : pm_H), pw_F WX16_module h0 h → pm_iter sX16_module n (.inr (.inr (.inr (.inr (.inl (x0, x1, x2, x3, h)))))) = some r → pw_F WX16_module h0 r.2) ∧ (∀ (x0 : Nat) (x2 : Option Nat) (s0 : Nat) (h : pm_H), pw_F WX16_module h0 h → pm_iter sX16_module n (.inr (.inr (.inr (.inr (.inr (x0, x2, s0, h)))))) = some r → pw_F WX16_module h0 r.2) := by
  intro n
  induction n with
  | zero => exact ⟨fun _ _ _ _ hf => (by cases hf), fun _ _ _ _ _ _ _ hf => (by cases hf), fun _ _ _ _ _ hf => (by cases hf), fun _ _ _ _ _ _ _ hf => (by cases hf), fun _ _ _ _ _ _ hf => (by cases hf), fun _ _ _ _ _ hf => (by cases hf)⟩
  | succ n ih =>
    refine ⟨fun x0 x1 h K0 hf => ?_, ?_⟩
    · obtain ⟨y, hf, hi⟩ := pm_iter_s hf
      have hf : tX16_module_0 x0 x1 h = some y := hf
      unfold tX16_module_0 at hf
      by_cases c1 : x1 < 0
      · have hf := pm_it hf c1
        have hf := Option.some.inj hf
        subst hf
        have hi := Option.some.inj (show some _ = some r from hi)
        subst hi
        exact K0
      · have hf := pm_ie hf c1
        obtain ⟨k2, hf⟩ := pm_if hf
        by_cases c3 : (pm_I h x0 1) < x1
        · have hf := pm_it hf c3
          have hf := Option.some.inj hf
          subst hf
          have hi := Option.some.inj (show some _ = some r from hi)
          subst hi
          exact K0
        · have hf := pm_ie hf c3
          by_cases c4 : (pm_I h x0 3) = 16
          · have hf := pm_it hf c4
            have hf := Option.some.inj hf
            subst hf
            have hi := Option.some.inj (show some _ = some r from hi)
            subst hi
            exact K0
          · have hf := pm_ie hf c4
            rcases ho5 : pm_R h x0 5 with _ | v0
            · have hf := pc_on ho5 hf
              cases hf
              exact ih.2.1 x0 x1 (pm_R h x0 10) (pm_sz h) x0 (pm_new h 14 0) (pw_new K0)  hi
            · have hf := pc_os ho5 hf
              obtain ⟨v6, e7, hf⟩ := pm_bd hf
              obtain ⟨v8, e9, hf⟩ := pm_bd hf
              obtain ⟨k10, hf⟩ := pm_if hf
              have k10b := (congrFun (pkR rfl) v8).symm.trans k10
              obtain ⟨v11, e12, hf⟩ := pm_bd hf
              have K13 := pw_t (by decide) (pw_sR K0 rfl k2 (by decide)) (wfX14_begin (pw_rf _) e12)
              cases hf
              exact ih.2.2.1 x0 x1 (pm_R h x0 10) v11 K13  hi
    refine ⟨fun x0 x1 x2 s0 s1 h K0 hf => ?_, ?_⟩
    · obtain ⟨y, hf, hi⟩ := pm_iter_s hf
      have hf : tX16_module_40 x0 x1 x2 s0 s1 h = some y := hf
      unfold tX16_module_40 at hf
      obtain ⟨v14, e15, hf⟩ := pm_bd hf
      have K16 := pw_t (by decide) K0 (wfX14_init (pw_rf _) e15)
      cases hf
      exact ih.2.2.2.1 x0 x1 x2 s0 s1 v14 K16  hi
    refine ⟨fun x0 x1 x2 h K0 hf => ?_, ?_⟩
    · obtain ⟨y, hf, hi⟩ := pm_iter_s hf
      have hf : tX16_module_63 x0 x1 x2 h = some y := hf
      unfold tX16_module_63 at hf
      cases hf
      exact ih.2.2.2.2.1 x0 x1 x2 0 h K0  hi
    refine ⟨fun x0 x1 x2 s0 s1 h K0 hf => ?_, ?_⟩
    · obtain ⟨y, hf, hi⟩ := pm_iter_s hf
      have hf : tX16_module_44 x0 x1 x2 s0 s1 h = some y := hf
      unfold tX16_module_44 at hf
      obtain ⟨k17, hf⟩ := pm_if hf
      obtain ⟨k18, hf⟩ := pm_if hf
      have k18b := (congrFun (pkR rfl) x0).symm.trans k18
      obtain ⟨v19, e20, hf⟩ := pm_bd hf
      obtain ⟨v21, e22, hf⟩ := pm_bd hf
      obtain ⟨k23, hf⟩ := pm_if hf
      have k23b := (congrFun (pkR (pkR rfl)) v21).symm.trans k23
      obtain ⟨v24, e25, hf⟩ := pm_bd hf
      have K26 := pw_t (by decide) (pw_sR (pw_sR K0 rfl k17 (by decide)) (pkR rfl) k18b (by decide)) (wfX14_begin (pw_rf _) e25)
      cases hf
      exact ih.2.2.1 x0 x1 x2 v24 K26  hi
    refine ⟨fun x0 x1 x2 x3 h K0 hf => ?_, ?_⟩
    · obtain ⟨y, hf, hi⟩ := pm_iter_s hf
      have hf : tX16_module_65 x0 x1 x2 x3 h = some y := hf
      unfold tX16_module_65 at hf
      by_cases c27 : x1 ≤ x3
      · have hf := pm_it hf c27
        obtain ⟨k28, hf⟩ := pm_if hf
        obtain ⟨v29, e30, hf⟩ := pm_bd hf
        rcases v29 with z32 | w31
        · have hf := pt_cl hf
          obtain ⟨k33, hf⟩ := pm_if hf
          have K34 := pw_t (by decide) (pw_sI (pw_sI (pw_sI (pw_sI K0 rfl k28 (by decide)) (pkI rfl) k28 (by decide)) (pkI (pkI rfl)) k28 (by decide)) (pkI (pkI (pkI rfl))) k28 (by decide)) (show pw_F _ _ z32.2 from wfX16_readsAll (pw_rf _) e30)
          cases hf
          exact ih.2.2.2.2.2 x0 x2 z32.1 z32.2 K34  hi
        have hf := pt_cr hf
        have K35 := pw_t (by decide) (pw_sI (pw_sI (pw_sI (pw_sI K0 rfl k28 (by decide)) (pkI rfl) k28 (by decide)) (pkI (pkI rfl)) k28 (by decide)) (pkI (pkI (pkI rfl))) k28 (by decide)) (show pw_F _ _ w31 from wfX16_readsAll (pw_rf _) e30)
        obtain ⟨k36, hf⟩ := pm_if hf
        obtain ⟨v37, e38, hf⟩ := pm_bd hf
        rcases v37 with z40 | w39
        · have hf := pt_cl hf
          obtain ⟨k41, hf⟩ := pm_if hf
          have K42 := pw_t (by decide) K35 (show pw_F _ _ z40.2 from wfX16_checksAll (pw_rf _) e38)
          cases hf
          exact ih.2.2.2.2.2 x0 x2 z40.1 z40.2 K42  hi
        have hf := pt_cr hf
        have K43 := pw_t (by decide) K35 (show pw_F _ _ w39 from wfX16_checksAll (pw_rf _) e38)
        obtain ⟨k44, hf⟩ := pm_if hf
        obtain ⟨v45, e46, hf⟩ := pm_bd hf
        obtain ⟨v47, e48, hf⟩ := pm_bd hf
        obtain ⟨k49, hf⟩ := pm_if hf
        obtain ⟨k50, hf⟩ := pm_if hf
        obtain ⟨u51, hf⟩ := pm_if hf
        obtain ⟨y52, e53, hf⟩ := pm_lt hf
        have hf := Option.some.inj hf
        subst hf
        have hi := Option.some.inj (show some _ = some r from hi)
        subst hi
        exact (pw_sR (pw_sI (pw_sR (pw_aR K43 rfl k49 (by decide) (by decide)) (pkR rfl) k44 (by decide)) (pkR (pkR rfl)) k44 (by decide)) (pkI (pkR (pkR rfl))) k44 (by decide))
      · have hf := pm_ie hf c27
        obtain ⟨k54, hf⟩ := pm_if hf
        obtain ⟨v55, e56, hf⟩ := pm_bd hf
        obtain ⟨k57, hf⟩ := pm_if hf
        obtain ⟨v58, e59, hf⟩ := pm_bd hf
        obtain ⟨v60, e61, hf⟩ := pm_bd hf
        obtain ⟨k62, hf⟩ := pm_if hf
        obtain ⟨u63, hf⟩ := pm_if hf
        obtain ⟨y64, e65, hf⟩ := pm_lt hf
        obtain ⟨k66, hf⟩ := pm_if hf
        obtain ⟨u67, hf⟩ := pm_if hf
        obtain ⟨y68, e69, hf⟩ := pm_lt hf
        cases hf
        exact ih.2.2.2.2.1 x0 x1 x2 y68 (pm_setI h v58 x3.toNatClampNeg (vp_nar .byte y64)) (pw_aI K0 rfl k66 (by decide) (by decide))  hi
    refine fun x0 x2 s0 h K0 hf => ?_
    obtain ⟨y, hf, hi⟩ := pm_iter_s hf
    have hf : tX16_module_150 x0 x2 s0 h = some y := hf
    unfold tX16_module_150 at hf
    obtain ⟨k70, hf⟩ := pm_if hf
    have hf := Option.some.inj hf
    subst hf
    have hi := Option.some.inj (show some _ = some r from hi)
    subst hi
    exact (pw_sR K0 rfl k70 (by decide))
set_option maxHeartbeats 4000000 in
set_option maxRecDepth 100000 in
theorem wfX16_module {h0 h : pm_H} (K0 : pw_F WX16_module h0 h) {a0 : Nat} {p1 : Int32}  {r : (Int32 × pm_H)} (hf : fX16_module h a0 p1 = some r) : pw_F WX16_module h0 r.2 := by
  unfold fX16_module at hf
  obtain ⟨n, hn⟩ := pm_lim_iter hf
  exact (wlX16_module n).1 a0 p1 h K0  hn
