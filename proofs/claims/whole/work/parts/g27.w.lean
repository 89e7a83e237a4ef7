abbrev WX16_controls : List Nat := [2055, 2056, 2067, 2071, 2072, 4096, 4352, 4480]
set_option maxHeartbeats 4000000 in
set_option maxRecDepth 100000 in
theorem wlX16_controls {h0 : pm_H} {r : ((Nat × pm_H) ⊕ pm_H)} : ∀ n : Nat, (∀ (x0 : Nat) (x4 : Int32) (x5 : Int32) (h : pm_H), pw_F WX16_controls h0 h → pm_iter sX16_controls n (x0, x4, x5, h) = some r → pt_WV WX16_controls h0 r) := by
  intro n
  induction n with
  | zero => exact fun _ _ _ _ _ hf => (by cases hf)
  | succ n ih =>
    refine fun x0 x4 x5 h K0 hf => ?_
    obtain ⟨y, hf, hi⟩ := pm_iter_s hf
    have hf : tX16_controls_222 x0 x4 x5 h = some y := hf
    unfold tX16_controls_222 at hf
    obtain ⟨k315, hf⟩ := pm_if hf
    obtain ⟨v316, e317, hf⟩ := pm_bd hf
    by_cases c318 : v316 ≤ x5
    · have hf := pm_it hf c318
      cases hf
      cases hi
      exact K0
    · have hf := pm_ie hf c318
      obtain ⟨v319, e320, hf⟩ := pm_bd hf
      obtain ⟨v321, e322, hf⟩ := pm_bd hf
      rcases v321 with z324 | w323
      · have hf := pt_sl hf
        cases hf
        cases hi
        exact pw_t (by decide) K0 (show pw_F _ _ z324.2 from wfX16_put (pw_rf _) e322)
      have K325 := pw_t (by decide) K0 (show pw_F _ _ w323 from wfX16_put (pw_rf _) e322)
      have hf := pt_sr hf
      obtain ⟨y326, e327, hf⟩ := pm_lt hf
      cases hf
      exact ih x0 x4 y326 w323 K325  hi
set_option maxHeartbeats 4000000 in
set_option maxRecDepth 100000 in
theorem wfX16_controls {h0 h : pm_H} (K0 : pw_F WX16_controls h0 h) {a0 : Nat} {p1 : Int32}  {r : ((Nat × pm_H) ⊕ pm_H)} (hf : fX16_controls h a0 p1 = some r) : pt_WV WX16_controls h0 r := by
  unfold fX16_controls at hf
  by_cases c1 : p1 = 0
  · have hf := pm_it hf c1
    obtain ⟨k2, hf⟩ := pm_if hf
    obtain ⟨v3, e4, hf⟩ := pm_bd hf
    have K5 := pw_t (by decide) K0 (wfX16_dies (pw_rf _) e4)
    cases hf
    exact K5
  have hf := pm_ie hf c1
  by_cases c6 : p1 = 1
  · have hf := pm_it hf c6
    cases hf
    exact K0
  have hf := pm_ie hf c6
  by_cases c7 : p1 = 2
  · have hf := pm_it hf c7
    obtain ⟨k8, hf⟩ := pm_if hf
    obtain ⟨v9, e10, hf⟩ := pm_bd hf
    have K11 := pw_t (by decide) K0 (wfX16_blockWord (pw_rf _) e10)
    by_cases c12 : p1 = 4
    · have hf := pm_it hf c12
      obtain ⟨k13, hf⟩ := pm_if hf
      obtain ⟨v14, e15, hf⟩ := pm_bd hf
      rcases v14 with z17 | w16
      · have hf := pt_kl hf
        cases hf
        exact pw_t (by decide) K11 (show pw_F _ _ z17.2 from wfX16_takes (pw_rf _) e15)
      have K18 := pw_t (by decide) K11 (show pw_F _ _ w16 from wfX16_takes (pw_rf _) e15)
      have hf := pt_kr hf
      obtain ⟨k19, hf⟩ := pm_if hf
      obtain ⟨v20, e21, hf⟩ := pm_bd hf
      rcases v20 with z23 | w22
      · have hf := pt_kl hf
        cases hf
        exact pw_t (by decide) K18 (show pw_F _ _ z23.2 from wfX16_takeParameters (pw_rf _) e21)
      have K24 := pw_t (by decide) K18 (show pw_F _ _ w22 from wfX16_takeParameters (pw_rf _) e21)
      have hf := pt_kr hf
      obtain ⟨k25, hf⟩ := pm_if hf
      obtain ⟨v26, e27, hf⟩ := pm_bd hf
      rcases v26 with z29 | w28
      · have hf := pt_kl hf
        cases hf
        exact pw_t (by decide) K24 (show pw_F _ _ z29.2 from wfX16_begins (pw_rf _) e27)
      have K30 := pw_t (by decide) K24 (show pw_F _ _ w28 from wfX16_begins (pw_rf _) e27)
      have hf := pt_kr hf
      obtain ⟨k31, hf⟩ := pm_if hf
      obtain ⟨v32, e33, hf⟩ := pm_bd hf
      rcases v32 with z35 | w34
      · have hf := pt_kl hf
        cases hf
        exact pw_t (by decide) K30 (show pw_F _ _ z35.2 from wfX16_putParameters (pw_rf _) e33)
      have K36 := pw_t (by decide) K30 (show pw_F _ _ w34 from wfX16_putParameters (pw_rf _) e33)
      have hf := pt_kr hf
      cases hf
      exact K36
    · have hf := pm_ie hf c12
      obtain ⟨k37, hf⟩ := pm_if hf
      obtain ⟨v38, e39, hf⟩ := pm_bd hf
      rcases v38 with z41 | w40
      · have hf := pt_kl hf
        cases hf
        exact pw_t (by decide) K11 (show pw_F _ _ z41.2 from wfX16_takeParameters (pw_rf _) e39)
      have K42 := pw_t (by decide) K11 (show pw_F _ _ w40 from wfX16_takeParameters (pw_rf _) e39)
      have hf := pt_kr hf
      obtain ⟨k43, hf⟩ := pm_if hf
      obtain ⟨v44, e45, hf⟩ := pm_bd hf
      rcases v44 with z47 | w46
      · have hf := pt_kl hf
        cases hf
        exact pw_t (by decide) K42 (show pw_F _ _ z47.2 from wfX16_begins (pw_rf _) e45)
      have K48 := pw_t (by decide) K42 (show pw_F _ _ w46 from wfX16_begins (pw_rf _) e45)
      have hf := pt_kr hf
      obtain ⟨k49, hf⟩ := pm_if hf
      obtain ⟨v50, e51, hf⟩ := pm_bd hf
      rcases v50 with z53 | w52
      · have hf := pt_kl hf
        cases hf
        exact pw_t (by decide) K48 (show pw_F _ _ z53.2 from wfX16_putParameters (pw_rf _) e51)
      have K54 := pw_t (by decide) K48 (show pw_F _ _ w52 from wfX16_putParameters (pw_rf _) e51)
      have hf := pt_kr hf
      cases hf
      exact K54
  have hf := pm_ie hf c7
  by_cases c55 : p1 = 3
  · have hf := pm_it hf c55
    obtain ⟨k56, hf⟩ := pm_if hf
    obtain ⟨v57, e58, hf⟩ := pm_bd hf
    have K59 := pw_t (by decide) K0 (wfX16_blockWord (pw_rf _) e58)
    by_cases c60 : p1 = 4
    · have hf := pm_it hf c60
      obtain ⟨k61, hf⟩ := pm_if hf
      obtain ⟨v62, e63, hf⟩ := pm_bd hf
      rcases v62 with z65 | w64
      · have hf := pt_kl hf
        cases hf
        exact pw_t (by decide) K59 (show pw_F _ _ z65.2 from wfX16_takes (pw_rf _) e63)
      have K66 := pw_t (by decide) K59 (show pw_F _ _ w64 from wfX16_takes (pw_rf _) e63)
      have hf := pt_kr hf
      obtain ⟨k67, hf⟩ := pm_if hf
      obtain ⟨v68, e69, hf⟩ := pm_bd hf
      rcases v68 with z71 | w70
      · have hf := pt_kl hf
        cases hf
        exact pw_t (by decide) K66 (show pw_F _ _ z71.2 from wfX16_takeParameters (pw_rf _) e69)
      have K72 := pw_t (by decide) K66 (show pw_F _ _ w70 from wfX16_takeParameters (pw_rf _) e69)
      have hf := pt_kr hf
      obtain ⟨k73, hf⟩ := pm_if hf
      obtain ⟨v74, e75, hf⟩ := pm_bd hf
      rcases v74 with z77 | w76
      · have hf := pt_kl hf
        cases hf
        exact pw_t (by decide) K72 (show pw_F _ _ z77.2 from wfX16_begins (pw_rf _) e75)
      have K78 := pw_t (by decide) K72 (show pw_F _ _ w76 from wfX16_begins (pw_rf _) e75)
      have hf := pt_kr hf
      obtain ⟨k79, hf⟩ := pm_if hf
      obtain ⟨v80, e81, hf⟩ := pm_bd hf
      rcases v80 with z83 | w82
      · have hf := pt_kl hf
        cases hf
        exact pw_t (by decide) K78 (show pw_F _ _ z83.2 from wfX16_putParameters (pw_rf _) e81)
      have K84 := pw_t (by decide) K78 (show pw_F _ _ w82 from wfX16_putParameters (pw_rf _) e81)
      have hf := pt_kr hf
      cases hf
      exact K84
    · have hf := pm_ie hf c60
      obtain ⟨k85, hf⟩ := pm_if hf
      obtain ⟨v86, e87, hf⟩ := pm_bd hf
      rcases v86 with z89 | w88
      · have hf := pt_kl hf
        cases hf
        exact pw_t (by decide) K59 (show pw_F _ _ z89.2 from wfX16_takeParameters (pw_rf _) e87)
      have K90 := pw_t (by decide) K59 (show pw_F _ _ w88 from wfX16_takeParameters (pw_rf _) e87)
      have hf := pt_kr hf
      obtain ⟨k91, hf⟩ := pm_if hf
      obtain ⟨v92, e93, hf⟩ := pm_bd hf
      rcases v92 with z95 | w94
      · have hf := pt_kl hf
        cases hf
        exact pw_t (by decide) K90 (show pw_F _ _ z95.2 from wfX16_begins (pw_rf _) e93)
      have K96 := pw_t (by decide) K90 (show pw_F _ _ w94 from wfX16_begins (pw_rf _) e93)
      have hf := pt_kr hf
      obtain ⟨k97, hf⟩ := pm_if hf
      obtain ⟨v98, e99, hf⟩ := pm_bd hf
      rcases v98 with z101 | w100
      · have hf := pt_kl hf
        cases hf
        exact pw_t (by decide) K96 (show pw_F _ _ z101.2 from wfX16_putParameters (pw_rf _) e99)
      have K102 := pw_t (by decide) K96 (show pw_F _ _ w100 from wfX16_putParameters (pw_rf _) e99)
      have hf := pt_kr hf
      cases hf
      exact K102
  have hf := pm_ie hf c55
  by_cases c103 : p1 = 4
  · have hf := pm_it hf c103
    obtain ⟨k104, hf⟩ := pm_if hf
    obtain ⟨v105, e106, hf⟩ := pm_bd hf
    have K107 := pw_t (by decide) K0 (wfX16_blockWord (pw_rf _) e106)
    by_cases c108 : p1 = 4
    · have hf := pm_it hf c108
      obtain ⟨k109, hf⟩ := pm_if hf
      obtain ⟨v110, e111, hf⟩ := pm_bd hf
      rcases v110 with z113 | w112
      · have hf := pt_kl hf
        cases hf
        exact pw_t (by decide) K107 (show pw_F _ _ z113.2 from wfX16_takes (pw_rf _) e111)
      have K114 := pw_t (by decide) K107 (show pw_F _ _ w112 from wfX16_takes (pw_rf _) e111)
      have hf := pt_kr hf
      obtain ⟨k115, hf⟩ := pm_if hf
      obtain ⟨v116, e117, hf⟩ := pm_bd hf
      rcases v116 with z119 | w118
      · have hf := pt_kl hf
        cases hf
        exact pw_t (by decide) K114 (show pw_F _ _ z119.2 from wfX16_takeParameters (pw_rf _) e117)
      have K120 := pw_t (by decide) K114 (show pw_F _ _ w118 from wfX16_takeParameters (pw_rf _) e117)
      have hf := pt_kr hf
      obtain ⟨k121, hf⟩ := pm_if hf
      obtain ⟨v122, e123, hf⟩ := pm_bd hf
      rcases v122 with z125 | w124
      · have hf := pt_kl hf
        cases hf
        exact pw_t (by decide) K120 (show pw_F _ _ z125.2 from wfX16_begins (pw_rf _) e123)
      have K126 := pw_t (by decide) K120 (show pw_F _ _ w124 from wfX16_begins (pw_rf _) e123)
      have hf := pt_kr hf
      obtain ⟨k127, hf⟩ := pm_if hf
      obtain ⟨v128, e129, hf⟩ := pm_bd hf
      rcases v128 with z131 | w130
      · have hf := pt_kl hf
        cases hf
        exact pw_t (by decide) K126 (show pw_F _ _ z131.2 from wfX16_putParameters (pw_rf _) e129)
      have K132 := pw_t (by decide) K126 (show pw_F _ _ w130 from wfX16_putParameters (pw_rf _) e129)
      have hf := pt_kr hf
      cases hf
      exact K132
    · have hf := pm_ie hf c108
      obtain ⟨k133, hf⟩ := pm_if hf
      obtain ⟨v134, e135, hf⟩ := pm_bd hf
      rcases v134 with z137 | w136
      · have hf := pt_kl hf
        cases hf
        exact pw_t (by decide) K107 (show pw_F _ _ z137.2 from wfX16_takeParameters (pw_rf _) e135)
      have K138 := pw_t (by decide) K107 (show pw_F _ _ w136 from wfX16_takeParameters (pw_rf _) e135)
      have hf := pt_kr hf
      obtain ⟨k139, hf⟩ := pm_if hf
      obtain ⟨v140, e141, hf⟩ := pm_bd hf
      rcases v140 with z143 | w142
      · have hf := pt_kl hf
        cases hf
        exact pw_t (by decide) K138 (show pw_F _ _ z143.2 from wfX16_begins (pw_rf _) e141)
      have K144 := pw_t (by decide) K138 (show pw_F _ _ w142 from wfX16_begins (pw_rf _) e141)
      have hf := pt_kr hf
      obtain ⟨k145, hf⟩ := pm_if hf
      obtain ⟨v146, e147, hf⟩ := pm_bd hf
      rcases v146 with z149 | w148
      · have hf := pt_kl hf
        cases hf
        exact pw_t (by decide) K144 (show pw_F _ _ z149.2 from wfX16_putParameters (pw_rf _) e147)
      have K150 := pw_t (by decide) K144 (show pw_F _ _ w148 from wfX16_putParameters (pw_rf _) e147)
      have hf := pt_kr hf
      cases hf
      exact K150
  have hf := pm_ie hf c103
  by_cases c151 : p1 = 5
  · have hf := pm_it hf c151
    obtain ⟨k152, hf⟩ := pm_if hf
    obtain ⟨v153, e154, hf⟩ := pm_bd hf
    rcases v153 with z156 | w155
    · have hf := pt_kl hf
      cases hf
      exact pw_t (by decide) K0 (show pw_F _ _ z156.2 from wfX16_ends (pw_rf _) e154)
    have K157 := pw_t (by decide) K0 (show pw_F _ _ w155 from wfX16_ends (pw_rf _) e154)
    have hf := pt_kr hf
    cases hf
    exact K157
  have hf := pm_ie hf c151
  by_cases c158 : p1 = 6
  · have hf := pm_it hf c158
    cases hf
    exact K0
  have hf := pm_ie hf c158
  by_cases c159 : p1 = 7
  · have hf := pm_it hf c159
    cases hf
    exact K0
  have hf := pm_ie hf c159
  by_cases c160 : p1 = 8
  · have hf := pm_it hf c160
    cases hf
    exact K0
  have hf := pm_ie hf c160
  by_cases c161 : p1 = 9
  · have hf := pm_it hf c161
    cases hf
    exact K0
  have hf := pm_ie hf c161
  by_cases c162 : p1 = 10
  · have hf := pm_it hf c162
    cases hf
    exact K0
  have hf := pm_ie hf c162
  by_cases c163 : p1 = 11
  · have hf := pm_it hf c163
    obtain ⟨k164, hf⟩ := pm_if hf
    obtain ⟨v165, e166, hf⟩ := pm_bd hf
    rcases v165 with z168 | w167
    · have hf := pt_kl hf
      cases hf
      exact pw_t (by decide) K0 (show pw_F _ _ z168.2 from wfX16_ends (pw_rf _) e166)
    have K169 := pw_t (by decide) K0 (show pw_F _ _ w167 from wfX16_ends (pw_rf _) e166)
    have hf := pt_kr hf
    cases hf
    exact K169
  have hf := pm_ie hf c163
  by_cases c170 : p1 = 12
  · have hf := pm_it hf c170
    obtain ⟨k171, hf⟩ := pm_if hf
    obtain ⟨v172, e173, hf⟩ := pm_bd hf
    have K174 := pw_t (by decide) K0 (wfX16_word (pw_rf _) e173)
    obtain ⟨k175, hf⟩ := pm_if hf
    obtain ⟨v176, e177, hf⟩ := pm_bd hf
    rcases v176 with z179 | w178
    · have hf := pt_kl hf
      cases hf
      exact pw_t (by decide) K174 (show pw_F _ _ z179.2 from wfX16_takeWanted (pw_rf _) e177)
    have K180 := pw_t (by decide) K174 (show pw_F _ _ w178 from wfX16_takeWanted (pw_rf _) e177)
    have hf := pt_kr hf
    obtain ⟨k181, hf⟩ := pm_if hf
    obtain ⟨v182, e183, hf⟩ := pm_bd hf
    have K184 := pw_t (by decide) K180 (wfX16_dies (pw_rf _) e183)
    cases hf
    exact K184
  have hf := pm_ie hf c170
  by_cases c185 : p1 = 13
  · have hf := pm_it hf c185
    obtain ⟨k186, hf⟩ := pm_if hf
    obtain ⟨v187, e188, hf⟩ := pm_bd hf
    have K189 := pw_t (by decide) K0 (wfX16_word (pw_rf _) e188)
    obtain ⟨k190, hf⟩ := pm_if hf
    obtain ⟨v191, e192, hf⟩ := pm_bd hf
    rcases v191 with z194 | w193
    · have hf := pt_kl hf
      cases hf
      exact pw_t (by decide) K189 (show pw_F _ _ z194.2 from wfX16_takes (pw_rf _) e192)
    have K195 := pw_t (by decide) K189 (show pw_F _ _ w193 from wfX16_takes (pw_rf _) e192)
    have hf := pt_kr hf
    obtain ⟨k196, hf⟩ := pm_if hf
    obtain ⟨v197, e198, hf⟩ := pm_bd hf
    rcases v197 with z200 | w199
    · have hf := pt_kl hf
      cases hf
      exact pw_t (by decide) K195 (show pw_F _ _ z200.2 from wfX16_takeWanted (pw_rf _) e198)
    have K201 := pw_t (by decide) K195 (show pw_F _ _ w199 from wfX16_takeWanted (pw_rf _) e198)
    have hf := pt_kr hf
    obtain ⟨n, hn⟩ := pm_lim_iter hf
    exact (wlX16_controls n) a0 v187.1.toInt32 0 w199 K201  hn
  have hf := pm_ie hf c185
  by_cases c202 : p1 = 14
  · have hf := pm_it hf c202
    obtain ⟨k203, hf⟩ := pm_if hf
    obtain ⟨v204, e205, hf⟩ := pm_bd hf
    rcases v204 with z207 | w206
    · have hf := pt_kl hf
      cases hf
      exact pw_t (by decide) K0 (show pw_F _ _ z207.2 from wfX16_chooses (pw_rf _) e205)
    have K208 := pw_t (by decide) K0 (show pw_F _ _ w206 from wfX16_chooses (pw_rf _) e205)
    have hf := pt_kr hf
    cases hf
    exact K208
  have hf := pm_ie hf c202
  by_cases c209 : p1 = 15
  · have hf := pm_it hf c209
    obtain ⟨k210, hf⟩ := pm_if hf
    obtain ⟨v211, e212, hf⟩ := pm_bd hf
    rcases v211 with z214 | w213
    · have hf := pt_kl hf
      cases hf
      exact pw_t (by decide) K0 (show pw_F _ _ z214.2 from wfX16_takeResults (pw_rf _) e212)
    have K215 := pw_t (by decide) K0 (show pw_F _ _ w213 from wfX16_takeResults (pw_rf _) e212)
    have hf := pt_kr hf
    obtain ⟨k216, hf⟩ := pm_if hf
    obtain ⟨v217, e218, hf⟩ := pm_bd hf
    have K219 := pw_t (by decide) K215 (wfX16_dies (pw_rf _) e218)
    cases hf
    exact K219
  have hf := pm_ie hf c209
  by_cases c220 : p1 = 16
  · have hf := pm_it hf c220
    obtain ⟨k221, hf⟩ := pm_if hf
    obtain ⟨v222, e223, hf⟩ := pm_bd hf
    obtain ⟨v224, e225, hf⟩ := pm_bd hf
    have K226 := pw_t (by decide) K0 (wfX16_word (pw_rf _) e225)
    obtain ⟨k227, hf⟩ := pm_if hf
    obtain ⟨v228, e229, hf⟩ := pm_bd hf
    obtain ⟨k230, hf⟩ := pm_if hf
    obtain ⟨v231, e232, hf⟩ := pm_bd hf
    rcases v231 with z234 | w233
    · have hf := pt_kl hf
      cases hf
      exact pw_t (by decide) K226 (show pw_F _ _ z234.2 from wfX16_takeParameters (pw_rf _) e232)
    have K235 := pw_t (by decide) K226 (show pw_F _ _ w233 from wfX16_takeParameters (pw_rf _) e232)
    have hf := pt_kr hf
    obtain ⟨k236, hf⟩ := pm_if hf
    obtain ⟨v237, e238, hf⟩ := pm_bd hf
    rcases v237 with z240 | w239
    · have hf := pt_kl hf
      cases hf
      exact pw_t (by decide) K235 (show pw_F _ _ z240.2 from wfX16_putResults (pw_rf _) e238)
    have K241 := pw_t (by decide) K235 (show pw_F _ _ w239 from wfX16_putResults (pw_rf _) e238)
    have hf := pt_kr hf
    cases hf
    exact K241
  have hf := pm_ie hf c220
  by_cases c242 : p1 = 17
  · have hf := pm_it hf c242
    obtain ⟨k243, hf⟩ := pm_if hf
    obtain ⟨v244, e245, hf⟩ := pm_bd hf
    have K246 := pw_t (by decide) K0 (wfX16_word (pw_rf _) e245)
    obtain ⟨k247, hf⟩ := pm_if hf
    obtain ⟨v248, e249, hf⟩ := pm_bd hf
    rcases v248 with z251 | w250
    · have hf := pt_kl hf
      cases hf
      exact pw_t (by decide) K246 (show pw_F _ _ z251.2 from wfX16_takes (pw_rf _) e249)
    have K252 := pw_t (by decide) K246 (show pw_F _ _ w250 from wfX16_takes (pw_rf _) e249)
    have hf := pt_kr hf
    obtain ⟨k253, hf⟩ := pm_if hf
    obtain ⟨v254, e255, hf⟩ := pm_bd hf
    rcases v254 with z257 | w256
    · have hf := pt_kl hf
      cases hf
      exact pw_t (by decide) K252 (show pw_F _ _ z257.2 from wfX16_takeParameters (pw_rf _) e255)
    have K258 := pw_t (by decide) K252 (show pw_F _ _ w256 from wfX16_takeParameters (pw_rf _) e255)
    have hf := pt_kr hf
    obtain ⟨k259, hf⟩ := pm_if hf
    obtain ⟨v260, e261, hf⟩ := pm_bd hf
    rcases v260 with z263 | w262
    · have hf := pt_kl hf
      cases hf
      exact pw_t (by decide) K258 (show pw_F _ _ z263.2 from wfX16_putResults (pw_rf _) e261)
    have K264 := pw_t (by decide) K258 (show pw_F _ _ w262 from wfX16_putResults (pw_rf _) e261)
    have hf := pt_kr hf
    cases hf
    exact K264
  have hf := pm_ie hf c242
  by_cases c265 : p1 = 18
  · have hf := pm_it hf c265
    cases hf
    exact K0
  have hf := pm_ie hf c265
  by_cases c266 : p1 = 19
  · have hf := pm_it hf c266
    cases hf
    exact K0
  have hf := pm_ie hf c266
  by_cases c267 : p1 = 20
  · have hf := pm_it hf c267
    cases hf
    exact K0
  have hf := pm_ie hf c267
  by_cases c268 : p1 = 21
  · have hf := pm_it hf c268
    cases hf
    exact K0
  have hf := pm_ie hf c268
  by_cases c269 : p1 = 22
  · have hf := pm_it hf c269
    cases hf
    exact K0
  have hf := pm_ie hf c269
  by_cases c270 : p1 = 23
  · have hf := pm_it hf c270
    cases hf
    exact K0
  have hf := pm_ie hf c270
  by_cases c271 : p1 = 24
  · have hf := pm_it hf c271
    cases hf
    exact K0
  have hf := pm_ie hf c271
  by_cases c272 : p1 = 25
  · have hf := pm_it hf c272
    cases hf
    exact K0
  have hf := pm_ie hf c272
  by_cases c273 : p1 = 26
  · have hf := pm_it hf c273
    obtain ⟨k274, hf⟩ := pm_if hf
    obtain ⟨v275, e276, hf⟩ := pm_bd hf
    rcases v275 with z278 | w277
    · have hf := pt_kl hf
      cases hf
      exact pw_t (by decide) K0 (show pw_F _ _ z278.2 from wfX16_take (pw_rf _) e276)
    have K279 := pw_t (by decide) K0 (show pw_F _ _ w277.2 from wfX16_take (pw_rf _) e276)
    have hf := pt_kr hf
    cases hf
    exact K279
  have hf := pm_ie hf c273
  by_cases c280 : p1 = 27
  · have hf := pm_it hf c280
    obtain ⟨k281, hf⟩ := pm_if hf
    obtain ⟨v282, e283, hf⟩ := pm_bd hf
    rcases v282 with z285 | w284
    · have hf := pt_kl hf
      cases hf
      exact pw_t (by decide) K0 (show pw_F _ _ z285.2 from wfX16_selects (pw_rf _) e283)
    have K286 := pw_t (by decide) K0 (show pw_F _ _ w284 from wfX16_selects (pw_rf _) e283)
    have hf := pt_kr hf
    cases hf
    exact K286
  have hf := pm_ie hf c280
  by_cases c287 : p1 = 28
  · have hf := pm_it hf c287
    obtain ⟨k288, hf⟩ := pm_if hf
    obtain ⟨v289, e290, hf⟩ := pm_bd hf
    have K291 := pw_t (by decide) K0 (wfX16_word (pw_rf _) e290)
    obtain ⟨k292, hf⟩ := pm_if hf
    obtain ⟨v293, e294, hf⟩ := pm_bd hf
    obtain ⟨k295, hf⟩ := pm_if hf
    obtain ⟨v296, e297, hf⟩ := pm_bd hf
    obtain ⟨v298, e299, hf⟩ := pm_bd hf
    rcases v298 with z301 | w300
    · have hf := pt_kl hf
      cases hf
      exact pw_t (by decide) K291 (show pw_F _ _ z301.2 from wfX16_takes (pw_rf _) e299)
    have K302 := pw_t (by decide) K291 (show pw_F _ _ w300 from wfX16_takes (pw_rf _) e299)
    have hf := pt_kr hf
    obtain ⟨k303, hf⟩ := pm_if hf
    obtain ⟨v304, e305, hf⟩ := pm_bd hf
    rcases v304 with z307 | w306
    · have hf := pt_kl hf
      cases hf
      exact pw_t (by decide) K302 (show pw_F _ _ z307.2 from wfX16_takes (pw_rf _) e305)
    have K308 := pw_t (by decide) K302 (show pw_F _ _ w306 from wfX16_takes (pw_rf _) e305)
    have hf := pt_kr hf
    obtain ⟨k309, hf⟩ := pm_if hf
    obtain ⟨v310, e311, hf⟩ := pm_bd hf
    rcases v310 with z313 | w312
    · have hf := pt_kl hf
      cases hf
      exact pw_t (by decide) K308 (show pw_F _ _ z313.2 from wfX16_put (pw_rf _) e311)
    have K314 := pw_t (by decide) K308 (show pw_F _ _ w312 from wfX16_put (pw_rf _) e311)
    have hf := pt_kr hf
    cases hf
    exact K314
  have hf := pm_ie hf c287
  cases hf
  exact K0
abbrev WX16_expression : List Nat := [1795, 2055, 2056, 2059, 4352]
set_option maxHeartbeats 4000000 in
set_option maxRecDepth 100000 in
theorem wlX16_expression {h0 : pm_H} {r : ((Nat × pm_H) ⊕ pm_H)} : ∀ n : Nat, (∀ (x0 : Nat) (x1 : Int32) (x2 : Int32) (h : pm_H), pw_F WX16_expression h0 h → pm_iter sX16_expression n (.inl (x0, x1, x2, h)) = some r → pt_WV WX16_expression h0 r) ∧ (∀ (x0 : Nat) (x1 : Int32) (x2 : Int32) (x3 : Int32) (x4 : Int32) (h : pm_H), pw_F WX16_expression h0 h → pm_iter sX16_expression n (.inr (x0, x1, x2, x3, x4, h)) = some r → pt_WV WX16_expression h0 r) := by
  intro n
  induction n with
  | zero => exact ⟨fun _ _ _ _ _ hf => (by cases hf), fun _ _ _ _ _ _ _ hf => (by cases hf)⟩
  | succ n ih =>
    refine ⟨fun x0 x1 x2 h K0 hf => ?_, ?_⟩
    · obtain ⟨y, hf, hi⟩ := pm_iter_s hf
      have hf : tX16_expression_9 x0 x1 x2 h = some y := hf
      unfold tX16_expression_9 at hf
      by_cases c6 : x2 ≤ 0
      · have hf := pm_it hf c6
        cases hf
        cases hi
        exact K0
      · have hf := pm_ie hf c6
        obtain ⟨k7, hf⟩ := pm_if hf
        obtain ⟨y8, e9, hf⟩ := pm_lt hf
        obtain ⟨v10, e11, hf⟩ := pm_bd hf
        rcases v10 with z13 | w12
        · have hf := pt_sl hf
          cases hf
          cases hi
          exact pw_t (by decide) K0 (show pw_F _ _ z13.2 from wfX16_next (pw_rf _) e11)
        have K14 := pw_t (by decide) K0 (show pw_F _ _ w12.2 from wfX16_next (pw_rf _) e11)
        have hf := pt_sr hf
        by_cases c15 : w12.1 = 11
        · have hf := pm_it hf c15
          obtain ⟨y16, e17, hf⟩ := pm_lt hf
          by_cases c18 : y16 ≤ 0
          · have hf := pm_it hf c18
            by_cases c19 : y16 ≤ 0
            · have hf := pm_it hf c19
              cases hf
              exact ih.1 x0 x1 y16 w12.2 K14  hi
            · have hf := pm_ie hf c19
              obtain ⟨k20, hf⟩ := pm_if hf
              obtain ⟨v21, e22, hf⟩ := pm_bd hf
              obtain ⟨k23, hf⟩ := pm_if hf
              obtain ⟨v24, e25, hf⟩ := pm_bd hf
              obtain ⟨v26, e27, hf⟩ := pm_bd hf
              obtain ⟨k28, hf⟩ := pm_if hf
              obtain ⟨u29, hf⟩ := pm_if hf
              obtain ⟨y30, e31, hf⟩ := pm_lt hf
              obtain ⟨k32, hf⟩ := pm_if hf
              obtain ⟨u33, hf⟩ := pm_if hf
              by_cases c34 : (pm_I w12.2 v24 y30.toNatClampNeg) ≤ 0
              · have hf := pm_it hf c34
                cases hf
                exact ih.1 x0 x1 y16 w12.2 K14  hi
              · have hf := pm_ie hf c34
                obtain ⟨v35, e36, hf⟩ := pm_bd hf
                obtain ⟨u37, hf⟩ := pm_if hf
                obtain ⟨y38, e39, hf⟩ := pm_lt hf
                obtain ⟨u40, hf⟩ := pm_if hf
                obtain ⟨k41, hf⟩ := pm_if hf
                obtain ⟨u42, hf⟩ := pm_if hf
                cases hf
                exact ih.1 x0 x1 y16 (pm_setI w12.2 v35 ((pm_I w12.2 v24 y38.toNatClampNeg).toNatClampNeg) y8) (pw_aI K14 rfl k41 (by decide) (by decide))  hi
          · have hf := pm_ie hf c18
            obtain ⟨k43, hf⟩ := pm_if hf
            obtain ⟨v44, e45, hf⟩ := pm_bd hf
            obtain ⟨k46, hf⟩ := pm_if hf
            obtain ⟨v47, e48, hf⟩ := pm_bd hf
            obtain ⟨v49, e50, hf⟩ := pm_bd hf
            obtain ⟨k51, hf⟩ := pm_if hf
            obtain ⟨u52, hf⟩ := pm_if hf
            obtain ⟨k53, hf⟩ := pm_if hf
            obtain ⟨u54, hf⟩ := pm_if hf
            by_cases c55 : y16 ≤ 0
            · have hf := pm_it hf c55
              cases hf
              exact ih.1 x0 x1 y16 (pm_setI w12.2 v47 ((pm_I w12.2 v49 y16.toNatClampNeg).toNatClampNeg) y8) (pw_aI K14 rfl k53 (by decide) (by decide))  hi
            · have hf := pm_ie hf c55
              obtain ⟨v56, e57, hf⟩ := pm_bd hf
              obtain ⟨u58, hf⟩ := pm_if hf
              obtain ⟨y59, e60, hf⟩ := pm_lt hf
              obtain ⟨k61, hf⟩ := pm_if hf
              have k61b := (congrFun (pkI rfl) v56).symm.trans k61
              obtain ⟨u62, hf⟩ := pm_if hf
              by_cases c63 : (pm_I (pm_setI w12.2 v47 ((pm_I w12.2 v49 y16.toNatClampNeg).toNatClampNeg) y8) v56 y59.toNatClampNeg) ≤ 0
              · have hf := pm_it hf c63
                cases hf
                exact ih.1 x0 x1 y16 (pm_setI w12.2 v47 ((pm_I w12.2 v49 y16.toNatClampNeg).toNatClampNeg) y8) (pw_aI K14 rfl k53 (by decide) (by decide))  hi
              · have hf := pm_ie hf c63
                obtain ⟨u64, hf⟩ := pm_if hf
                obtain ⟨y65, e66, hf⟩ := pm_lt hf
                obtain ⟨u67, hf⟩ := pm_if hf
                obtain ⟨u68, hf⟩ := pm_if hf
                cases hf
                exact ih.1 x0 x1 y16 (pm_setI (pm_setI w12.2 v47 ((pm_I w12.2 v49 y16.toNatClampNeg).toNatClampNeg) y8) v47 ((pm_I (pm_setI w12.2 v47 ((pm_I w12.2 v49 y16.toNatClampNeg).toNatClampNeg) y8) v56 y65.toNatClampNeg).toNatClampNeg) y8) (pw_aI (pw_aI K14 rfl k53 (by decide) (by decide)) (pkI rfl) k53 (by decide) (by decide))  hi
        · have hf := pm_ie hf c15
          by_cases c69 : w12.1 < 2
          · have hf := pm_it hf c69
            cases hf
            exact ih.2 x0 x1 x2 y8 w12.1 w12.2 K14  hi
          · have hf := pm_ie hf c69
            by_cases c70 : 4 < w12.1
            · have hf := pm_it hf c70
              cases hf
              exact ih.2 x0 x1 x2 y8 w12.1 w12.2 K14  hi
            · have hf := pm_ie hf c70
              obtain ⟨k71, hf⟩ := pm_if hf
              obtain ⟨v72, e73, hf⟩ := pm_bd hf
              rcases v72 with z75 | w74
              · have hf := pt_sl hf
                cases hf
                cases hi
                exact pw_t (by decide) K14 (show pw_F _ _ z75.2 from wfX16_blockType (pw_rf _) e73)
              have K76 := pw_t (by decide) K14 (show pw_F _ _ w74 from wfX16_blockType (pw_rf _) e73)
              have hf := pt_sr hf
              obtain ⟨k77, hf⟩ := pm_if hf
              obtain ⟨v78, e79, hf⟩ := pm_bd hf
              obtain ⟨k80, hf⟩ := pm_if hf
              obtain ⟨u81, hf⟩ := pm_if hf
              obtain ⟨v82, e83, hf⟩ := pm_bd hf
              obtain ⟨k84, hf⟩ := pm_if hf
              have k84b := (congrFun (pkI rfl) v82).symm.trans k84
              obtain ⟨u85, hf⟩ := pm_if hf
              obtain ⟨y86, e87, hf⟩ := pm_lt hf
              cases hf
              exact ih.1 x0 x1 y86 (pm_setI (pm_setI w74 v78 x2.toNatClampNeg w12.1) v82 x2.toNatClampNeg y8) (pw_aI (pw_aI K76 rfl k80 (by decide) (by decide)) (pkI rfl) k84b (by decide) (by decide))  hi
    refine fun x0 x1 x2 x3 x4 h K0 hf => ?_
    obtain ⟨y, hf, hi⟩ := pm_iter_s hf
    have hf : tX16_expression_137 x0 x1 x2 x3 x4 h = some y := hf
    unfold tX16_expression_137 at hf
    by_cases c88 : x4 = 5
    · have hf := pm_it hf c88
      obtain ⟨k89, hf⟩ := pm_if hf
      obtain ⟨v90, e91, hf⟩ := pm_bd hf
      obtain ⟨y92, e93, hf⟩ := pm_lt hf
      obtain ⟨k94, hf⟩ := pm_if hf
      obtain ⟨u95, hf⟩ := pm_if hf
      by_cases c96 : (pm_I h v90 y92.toNatClampNeg) = 4
      · have hf := pm_it hf c96
        obtain ⟨u97, hf⟩ := pm_if hf
        obtain ⟨v98, e99, hf⟩ := pm_bd hf
        obtain ⟨k100, hf⟩ := pm_if hf
        have k100b := (congrFun (pkI rfl) v98).symm.trans k100
        obtain ⟨v101, e102, hf⟩ := pm_bd hf
        obtain ⟨v103, e104, hf⟩ := pm_bd hf
        obtain ⟨y105, e106, hf⟩ := pm_lt hf
        obtain ⟨k107, hf⟩ := pm_if hf
        have k107b := (congrFun (pkI rfl) v103).symm.trans k107
        obtain ⟨u108, hf⟩ := pm_if hf
        obtain ⟨k109, hf⟩ := pm_if hf
        have k109b := (congrFun (pkI rfl) v101).symm.trans k109
        obtain ⟨u110, hf⟩ := pm_if hf
        cases hf
        exact ih.1 x0 x1 x2 (pm_setI (pm_setI h v90 ((x2 - 1).toNatClampNeg) 5) v101 ((pm_I (pm_setI h v90 ((x2 - 1).toNatClampNeg) 5) v103 y105.toNatClampNeg).toNatClampNeg) x3) (pw_aI (pw_aI K0 rfl k94 (by decide) (by decide)) (pkI rfl) k109b (by decide) (by decide))  hi
      · have hf := pm_ie hf c96
        obtain ⟨v111, e112, hf⟩ := pm_bd hf
        rcases v111 with z114 | w113
        · have hf := pt_sl hf
          cases hf
          cases hi
          exact pw_t (by decide) K0 (show pw_F _ _ z114.2 from wfX16_stops (pw_rf _) e112)
        have K115 := pw_t (by decide) K0 (show pw_F _ _ w113 from wfX16_stops (pw_rf _) e112)
        have hf := pt_sr hf
        obtain ⟨k116, hf⟩ := pm_if hf
        obtain ⟨v117, e118, hf⟩ := pm_bd hf
        obtain ⟨k119, hf⟩ := pm_if hf
        obtain ⟨u120, hf⟩ := pm_if hf
        obtain ⟨v121, e122, hf⟩ := pm_bd hf
        obtain ⟨k123, hf⟩ := pm_if hf
        have k123b := (congrFun (pkI rfl) v121).symm.trans k123
        obtain ⟨v124, e125, hf⟩ := pm_bd hf
        obtain ⟨v126, e127, hf⟩ := pm_bd hf
        obtain ⟨y128, e129, hf⟩ := pm_lt hf
        obtain ⟨k130, hf⟩ := pm_if hf
        have k130b := (congrFun (pkI rfl) v126).symm.trans k130
        obtain ⟨u131, hf⟩ := pm_if hf
        obtain ⟨k132, hf⟩ := pm_if hf
        have k132b := (congrFun (pkI rfl) v124).symm.trans k132
        obtain ⟨u133, hf⟩ := pm_if hf
        cases hf
        exact ih.1 x0 x1 x2 (pm_setI (pm_setI w113 v117 ((x2 - 1).toNatClampNeg) 5) v124 ((pm_I (pm_setI w113 v117 ((x2 - 1).toNatClampNeg) 5) v126 y128.toNatClampNeg).toNatClampNeg) x3) (pw_aI (pw_aI K115 rfl k119 (by decide) (by decide)) (pkI rfl) k132b (by decide) (by decide))  hi
    · have hf := pm_ie hf c88
      obtain ⟨k134, hf⟩ := pm_if hf
      obtain ⟨v135, e136, hf⟩ := pm_bd hf
      rcases v135 with z138 | w137
      · have hf := pt_sl hf
        cases hf
        cases hi
        exact pw_t (by decide) K0 (show pw_F _ _ z138.2 from wfX16_operands (pw_rf _) e136)
      have K139 := pw_t (by decide) K0 (show pw_F _ _ w137 from wfX16_operands (pw_rf _) e136)
      have hf := pt_sr hf
      cases hf
      exact ih.1 x0 x1 x2 w137 K139  hi
set_option maxHeartbeats 4000000 in
set_option maxRecDepth 100000 in
theorem wfX16_expression {h0 h : pm_H} (K0 : pw_F WX16_expression h0 h) {a0 : Nat} {p1 : Int32}  {r : ((Nat × pm_H) ⊕ pm_H)} (hf : fX16_expression h a0 p1 = some r) : pt_WV WX16_expression h0 r := by
  unfold fX16_expression at hf
  obtain ⟨k1, hf⟩ := pm_if hf
  obtain ⟨v2, e3, hf⟩ := pm_bd hf
  obtain ⟨k4, hf⟩ := pm_if hf
  obtain ⟨u5, hf⟩ := pm_if hf
  obtain ⟨n, hn⟩ := pm_lim_iter hf
  exact (wlX16_expression n).1 a0 p1 1 (pm_setI h v2 ((0 : Int32).toNatClampNeg) 0) (pw_aI K0 rfl k4 (by decide) (by decide))  hn
abbrev WX16_furthers : List Nat := [2055, 2056, 2067, 2071, 4352]
set_option maxHeartbeats 4000000 in
set_option maxRecDepth 100000 in
theorem wfX16_furthers {h0 h : pm_H} (K0 : pw_F WX16_furthers h0 h) {a0 : Nat}  {r : ((Nat × pm_H) ⊕ pm_H)} (hf : fX16_furthers h a0 = some r) : pt_WV WX16_furthers h0 r := by
  unfold fX16_furthers at hf
  obtain ⟨k1, hf⟩ := pm_if hf
  obtain ⟨v2, e3, hf⟩ := pm_bd hf
  have K4 := pw_t (by decide) K0 (wfX16_word (pw_rf _) e3)
  by_cases c5 : 8 ≤ v2.1.toInt32
  · have hf := pm_it hf c5
    by_cases c6 : v2.1.toInt32 = 15
    · have hf := pm_it hf c6
      obtain ⟨k7, hf⟩ := pm_if hf
      obtain ⟨v8, e9, hf⟩ := pm_bd hf
      obtain ⟨v10, e11, hf⟩ := pm_bd hf
      have K12 := pw_t (by decide) K4 (wfX16_word (pw_rf _) e11)
      obtain ⟨k13, hf⟩ := pm_if hf
      obtain ⟨v14, e15, hf⟩ := pm_bd hf
      obtain ⟨k16, hf⟩ := pm_if hf
      obtain ⟨v17, e18, hf⟩ := pm_bd hf
      rcases v17 with z20 | w19
      · have hf := pt_kl hf
        cases hf
        exact pw_t (by decide) K12 (show pw_F _ _ z20.2 from wfX16_takes (pw_rf _) e18)
      have K21 := pw_t (by decide) K12 (show pw_F _ _ w19 from wfX16_takes (pw_rf _) e18)
      have hf := pt_kr hf
      obtain ⟨k22, hf⟩ := pm_if hf
      obtain ⟨v23, e24, hf⟩ := pm_bd hf
      rcases v23 with z26 | w25
      · have hf := pt_kl hf
        cases hf
        exact pw_t (by decide) K21 (show pw_F _ _ z26.2 from wfX16_takes (pw_rf _) e24)
      have K27 := pw_t (by decide) K21 (show pw_F _ _ w25 from wfX16_takes (pw_rf _) e24)
      have hf := pt_kr hf
      by_cases c28 : v2.1.toInt32 = 17
      · have hf := pm_it hf c28
        obtain ⟨k29, hf⟩ := pm_if hf
        obtain ⟨v30, e31, hf⟩ := pm_bd hf
        rcases v30 with z33 | w32
        · have hf := pt_kl hf
          cases hf
          exact pw_t (by decide) K27 (show pw_F _ _ z33.2 from wfX16_takes (pw_rf _) e31)
        have K34 := pw_t (by decide) K27 (show pw_F _ _ w32 from wfX16_takes (pw_rf _) e31)
        have hf := pt_kr hf
        cases hf
        exact K34
      · have hf := pm_ie hf c28
        obtain ⟨k35, hf⟩ := pm_if hf
        obtain ⟨v36, e37, hf⟩ := pm_bd hf
        rcases v36 with z39 | w38
        · have hf := pt_kl hf
          cases hf
          exact pw_t (by decide) K27 (show pw_F _ _ z39.2 from wfX16_put (pw_rf _) e37)
        have K40 := pw_t (by decide) K27 (show pw_F _ _ w38 from wfX16_put (pw_rf _) e37)
        have hf := pt_kr hf
        cases hf
        exact K40
    · have hf := pm_ie hf c6
      by_cases c41 : v2.1.toInt32 = 17
      · have hf := pm_it hf c41
        obtain ⟨k42, hf⟩ := pm_if hf
        obtain ⟨v43, e44, hf⟩ := pm_bd hf
        obtain ⟨v45, e46, hf⟩ := pm_bd hf
        have K47 := pw_t (by decide) K4 (wfX16_word (pw_rf _) e46)
        obtain ⟨k48, hf⟩ := pm_if hf
        obtain ⟨v49, e50, hf⟩ := pm_bd hf
        obtain ⟨k51, hf⟩ := pm_if hf
        obtain ⟨v52, e53, hf⟩ := pm_bd hf
        rcases v52 with z55 | w54
        · have hf := pt_kl hf
          cases hf
          exact pw_t (by decide) K47 (show pw_F _ _ z55.2 from wfX16_takes (pw_rf _) e53)
        have K56 := pw_t (by decide) K47 (show pw_F _ _ w54 from wfX16_takes (pw_rf _) e53)
        have hf := pt_kr hf
        obtain ⟨k57, hf⟩ := pm_if hf
        obtain ⟨v58, e59, hf⟩ := pm_bd hf
        rcases v58 with z61 | w60
        · have hf := pt_kl hf
          cases hf
          exact pw_t (by decide) K56 (show pw_F _ _ z61.2 from wfX16_takes (pw_rf _) e59)
        have K62 := pw_t (by decide) K56 (show pw_F _ _ w60 from wfX16_takes (pw_rf _) e59)
        have hf := pt_kr hf
        by_cases c63 : v2.1.toInt32 = 17
        · have hf := pm_it hf c63
          obtain ⟨k64, hf⟩ := pm_if hf
          obtain ⟨v65, e66, hf⟩ := pm_bd hf
          rcases v65 with z68 | w67
          · have hf := pt_kl hf
            cases hf
            exact pw_t (by decide) K62 (show pw_F _ _ z68.2 from wfX16_takes (pw_rf _) e66)
          have K69 := pw_t (by decide) K62 (show pw_F _ _ w67 from wfX16_takes (pw_rf _) e66)
          have hf := pt_kr hf
          cases hf
          exact K69
        · have hf := pm_ie hf c63
          obtain ⟨k70, hf⟩ := pm_if hf
          obtain ⟨v71, e72, hf⟩ := pm_bd hf
          rcases v71 with z74 | w73
          · have hf := pt_kl hf
            cases hf
            exact pw_t (by decide) K62 (show pw_F _ _ z74.2 from wfX16_put (pw_rf _) e72)
          have K75 := pw_t (by decide) K62 (show pw_F _ _ w73 from wfX16_put (pw_rf _) e72)
          have hf := pt_kr hf
          cases hf
          exact K75
      · have hf := pm_ie hf c41
        by_cases c76 : v2.1.toInt32 = 16
        · have hf := pm_it hf c76
          obtain ⟨k77, hf⟩ := pm_if hf
          obtain ⟨v78, e79, hf⟩ := pm_bd hf
          rcases v78 with z81 | w80
          · have hf := pt_kl hf
            cases hf
            exact pw_t (by decide) K4 (show pw_F _ _ z81.2 from wfX16_put (pw_rf _) e79)
          have K82 := pw_t (by decide) K4 (show pw_F _ _ w80 from wfX16_put (pw_rf _) e79)
          have hf := pt_kr hf
          cases hf
          exact K82
        · have hf := pm_ie hf c76
          by_cases c83 : v2.1.toInt32 = 9
          · have hf := pm_it hf c83
            cases hf
            exact K4
          · have hf := pm_ie hf c83
            by_cases c84 : v2.1.toInt32 = 13
            · have hf := pm_it hf c84
              cases hf
              exact K4
            · have hf := pm_ie hf c84
              obtain ⟨k85, hf⟩ := pm_if hf
              obtain ⟨v86, e87, hf⟩ := pm_bd hf
              rcases v86 with z89 | w88
              · have hf := pt_kl hf
                cases hf
                exact pw_t (by decide) K4 (show pw_F _ _ z89.2 from wfX16_takes (pw_rf _) e87)
              have K90 := pw_t (by decide) K4 (show pw_F _ _ w88 from wfX16_takes (pw_rf _) e87)
              have hf := pt_kr hf
              cases hf
              exact K90
  · have hf := pm_ie hf c5
    obtain ⟨k91, hf⟩ := pm_if hf
    obtain ⟨v92, e93, hf⟩ := pm_bd hf
    rcases v92 with z95 | w94
    · have hf := pt_kl hf
      cases hf
      exact pw_t (by decide) K4 (show pw_F _ _ z95.2 from wfX16_operates (pw_rf _) e93)
    have K96 := pw_t (by decide) K4 (show pw_F _ _ w94 from wfX16_operates (pw_rf _) e93)
    have hf := pt_kr hf
    cases hf
    exact K96
abbrev WX16_goesTogether : List Nat := [2055, 2056, 2067, 2071, 2072, 4096, 4352, 4480]
set_option maxHeartbeats 4000000 in
set_option maxRecDepth 100000 in
theorem wfX16_goesTogether_b21 {h0 h : pm_H} (K0 : pw_F WX16_goesTogether h0 h) {x0 : Nat} {x1 : Int32}  {r : ((Nat × pm_H) ⊕ pm_H)} (hf : fX16_goesTogether_b21 h x0 x1 = some r) : pt_WV WX16_goesTogether h0 r := by
  unfold fX16_goesTogether_b21 at hf
  by_cases c9 : 32 ≤ x1
  · have hf := pm_it hf c9
    by_cases c10 : 40 ≤ x1
    · have hf := pm_it hf c10
      by_cases c11 : 63 ≤ x1
      · have hf := pm_it hf c11
        by_cases c12 : x1 = 252
        · have hf := pm_it hf c12
          obtain ⟨k13, hf⟩ := pm_if hf
          obtain ⟨v14, e15, hf⟩ := pm_bd hf
          rcases v14 with z17 | w16
          · have hf := pt_kl hf
            cases hf
            exact pw_t (by decide) K0 (show pw_F _ _ z17.2 from wfX16_furthers (pw_rf _) e15)
          have K18 := pw_t (by decide) K0 (show pw_F _ _ w16 from wfX16_furthers (pw_rf _) e15)
          have hf := pt_kr hf
          cases hf
          exact K18
        · have hf := pm_ie hf c12
          by_cases c19 : x1 = 63
          · have hf := pm_it hf c19
            obtain ⟨k20, hf⟩ := pm_if hf
            obtain ⟨v21, e22, hf⟩ := pm_bd hf
            rcases v21 with z24 | w23
            · have hf := pt_kl hf
              cases hf
              exact pw_t (by decide) K0 (show pw_F _ _ z24.2 from wfX16_put (pw_rf _) e22)
            have K25 := pw_t (by decide) K0 (show pw_F _ _ w23 from wfX16_put (pw_rf _) e22)
            have hf := pt_kr hf
            cases hf
            exact K25
          · have hf := pm_ie hf c19
            by_cases c26 : x1 = 64
            · have hf := pm_it hf c26
              obtain ⟨k27, hf⟩ := pm_if hf
              obtain ⟨v28, e29, hf⟩ := pm_bd hf
              rcases v28 with z31 | w30
              · have hf := pt_kl hf
                cases hf
                exact pw_t (by decide) K0 (show pw_F _ _ z31.2 from wfX16_takes (pw_rf _) e29)
              have K32 := pw_t (by decide) K0 (show pw_F _ _ w30 from wfX16_takes (pw_rf _) e29)
              have hf := pt_kr hf
              obtain ⟨k33, hf⟩ := pm_if hf
              obtain ⟨v34, e35, hf⟩ := pm_bd hf
              rcases v34 with z37 | w36
              · have hf := pt_kl hf
                cases hf
                exact pw_t (by decide) K32 (show pw_F _ _ z37.2 from wfX16_put (pw_rf _) e35)
              have K38 := pw_t (by decide) K32 (show pw_F _ _ w36 from wfX16_put (pw_rf _) e35)
              have hf := pt_kr hf
              cases hf
              exact K38
            · have hf := pm_ie hf c26
              by_cases c39 : 69 ≤ x1
              · have hf := pm_it hf c39
                by_cases c40 : x1 = 208
                · have hf := pm_it hf c40
                  obtain ⟨k41, hf⟩ := pm_if hf
                  obtain ⟨v42, e43, hf⟩ := pm_bd hf
                  obtain ⟨k44, hf⟩ := pm_if hf
                  obtain ⟨v45, e46, hf⟩ := pm_bd hf
                  obtain ⟨v47, e48, hf⟩ := pm_bd hf
                  rcases v47 with z50 | w49
                  · have hf := pt_kl hf
                    cases hf
                    exact pw_t (by decide) K0 (show pw_F _ _ z50.2 from wfX16_put (pw_rf _) e48)
                  have K51 := pw_t (by decide) K0 (show pw_F _ _ w49 from wfX16_put (pw_rf _) e48)
                  have hf := pt_kr hf
                  cases hf
                  exact K51
                · have hf := pm_ie hf c40
                  by_cases c52 : x1 = 209
                  · have hf := pm_it hf c52
                    obtain ⟨k53, hf⟩ := pm_if hf
                    obtain ⟨v54, e55, hf⟩ := pm_bd hf
                    rcases v54 with z57 | w56
                    · have hf := pt_kl hf
                      cases hf
                      exact pw_t (by decide) K0 (show pw_F _ _ z57.2 from wfX16_take (pw_rf _) e55)
                    have K58 := pw_t (by decide) K0 (show pw_F _ _ w56.2 from wfX16_take (pw_rf _) e55)
                    have hf := pt_kr hf
                    by_cases c59 : w56.1 = (-1)
                    · have hf := pm_it hf c59
                      obtain ⟨k60, hf⟩ := pm_if hf
                      obtain ⟨v61, e62, hf⟩ := pm_bd hf
                      rcases v61 with z64 | w63
                      · have hf := pt_kl hf
                        cases hf
                        exact pw_t (by decide) K58 (show pw_F _ _ z64.2 from wfX16_put (pw_rf _) e62)
                      have K65 := pw_t (by decide) K58 (show pw_F _ _ w63 from wfX16_put (pw_rf _) e62)
                      have hf := pt_kr hf
                      cases hf
                      exact K65
                    · have hf := pm_ie hf c59
                      obtain ⟨v66, e67, hf⟩ := pm_lt hf
                      by_cases c68 : v66 = 0
                      · have hf := pm_it hf c68
                        obtain ⟨k69, hf⟩ := pm_if hf
                        obtain ⟨v70, e71, hf⟩ := pm_bd hf
                        rcases v70 with z73 | w72
                        · have hf := pt_kl hf
                          cases hf
                          exact pw_t (by decide) K58 (show pw_F _ _ z73.2 from wfX16_stops (pw_rf _) e71)
                        have K74 := pw_t (by decide) K58 (show pw_F _ _ w72 from wfX16_stops (pw_rf _) e71)
                        have hf := pt_kr hf
                        obtain ⟨k75, hf⟩ := pm_if hf
                        obtain ⟨v76, e77, hf⟩ := pm_bd hf
                        rcases v76 with z79 | w78
                        · have hf := pt_kl hf
                          cases hf
                          exact pw_t (by decide) K74 (show pw_F _ _ z79.2 from wfX16_put (pw_rf _) e77)
                        have K80 := pw_t (by decide) K74 (show pw_F _ _ w78 from wfX16_put (pw_rf _) e77)
                        have hf := pt_kr hf
                        cases hf
                        exact K80
                      · have hf := pm_ie hf c68
                        obtain ⟨k81, hf⟩ := pm_if hf
                        obtain ⟨v82, e83, hf⟩ := pm_bd hf
                        rcases v82 with z85 | w84
                        · have hf := pt_kl hf
                          cases hf
                          exact pw_t (by decide) K58 (show pw_F _ _ z85.2 from wfX16_put (pw_rf _) e83)
                        have K86 := pw_t (by decide) K58 (show pw_F _ _ w84 from wfX16_put (pw_rf _) e83)
                        have hf := pt_kr hf
                        cases hf
                        exact K86
                  · have hf := pm_ie hf c52
                    obtain ⟨k87, hf⟩ := pm_if hf
                    obtain ⟨v88, e89, hf⟩ := pm_bd hf
                    rcases v88 with z91 | w90
                    · have hf := pt_kl hf
                      cases hf
                      exact pw_t (by decide) K0 (show pw_F _ _ z91.2 from wfX16_put (pw_rf _) e89)
                    have K92 := pw_t (by decide) K0 (show pw_F _ _ w90 from wfX16_put (pw_rf _) e89)
                    have hf := pt_kr hf
                    cases hf
                    exact K92
              · have hf := pm_ie hf c39
                obtain ⟨k93, hf⟩ := pm_if hf
                obtain ⟨v94, e95, hf⟩ := pm_bd hf
                rcases v94 with z97 | w96
                · have hf := pt_kl hf
                  cases hf
                  exact pw_t (by decide) K0 (show pw_F _ _ z97.2 from wfX16_put (pw_rf _) e95)
                have K98 := pw_t (by decide) K0 (show pw_F _ _ w96 from wfX16_put (pw_rf _) e95)
                have hf := pt_kr hf
                cases hf
                exact K98
      · have hf := pm_ie hf c11
        obtain ⟨k99, hf⟩ := pm_if hf
        obtain ⟨v100, e101, hf⟩ := pm_bd hf
        rcases v100 with z103 | w102
        · have hf := pt_kl hf
          cases hf
          exact pw_t (by decide) K0 (show pw_F _ _ z103.2 from wfX16_accesses (pw_rf _) e101)
        have K104 := pw_t (by decide) K0 (show pw_F _ _ w102 from wfX16_accesses (pw_rf _) e101)
        have hf := pt_kr hf
        cases hf
        exact K104
    · have hf := pm_ie hf c10
      obtain ⟨k105, hf⟩ := pm_if hf
      obtain ⟨v106, e107, hf⟩ := pm_bd hf
      rcases v106 with z109 | w108
      · have hf := pt_kl hf
        cases hf
        exact pw_t (by decide) K0 (show pw_F _ _ z109.2 from wfX16_names (pw_rf _) e107)
      have K110 := pw_t (by decide) K0 (show pw_F _ _ w108 from wfX16_names (pw_rf _) e107)
      have hf := pt_kr hf
      cases hf
      exact K110
  · have hf := pm_ie hf c9
    obtain ⟨k111, hf⟩ := pm_if hf
    obtain ⟨v112, e113, hf⟩ := pm_bd hf
    rcases v112 with z115 | w114
    · have hf := pt_kl hf
      cases hf
      exact pw_t (by decide) K0 (show pw_F _ _ z115.2 from wfX16_controls (pw_rf _) e113)
    have K116 := pw_t (by decide) K0 (show pw_F _ _ w114 from wfX16_controls (pw_rf _) e113)
    have hf := pt_kr hf
    cases hf
    exact K116
set_option maxHeartbeats 4000000 in
set_option maxRecDepth 100000 in
theorem wfX16_goesTogether {h0 h : pm_H} (K0 : pw_F WX16_goesTogether h0 h) {a0 : Nat} {p1 : Int32}  {r : ((Nat × pm_H) ⊕ pm_H)} (hf : fX16_goesTogether h a0 p1 = some r) : pt_WV WX16_goesTogether h0 r := by
  unfold fX16_goesTogether at hf
  by_cases c1 : p1 < 69
  · have hf := pm_it hf c1
    exact wfX16_goesTogether_b21 K0  hf
  · have hf := pm_ie hf c1
    by_cases c2 : 196 < p1
    · have hf := pm_it hf c2
      exact wfX16_goesTogether_b21 K0  hf
    · have hf := pm_ie hf c2
      obtain ⟨k3, hf⟩ := pm_if hf
      obtain ⟨v4, e5, hf⟩ := pm_bd hf
      rcases v4 with z7 | w6
      · have hf := pt_kl hf
        cases hf
        exact pw_t (by decide) K0 (show pw_F _ _ z7.2 from wfX16_operates (pw_rf _) e5)
      have K8 := pw_t (by decide) K0 (show pw_F _ _ w6 from wfX16_operates (pw_rf _) e5)
      have hf := pt_kr hf
      cases hf
      exact K8
abbrev WX16_readsBody : List Nat := [1795, 2055, 2056, 2059, 4352, 4480]
set_option maxHeartbeats 4000000 in
set_option maxRecDepth 100000 in
theorem wlX16_readsBody {h0 : pm_H} {r : ((Nat × pm_H) ⊕ pm_H)} : ∀ n : Nat, (∀ (x0 : Nat) (x1 : Int32) (x2 : Int32) (x3 : Int64) (x5 : Int64) (x7 : Int64) (h : pm_H), pw_F WX16_readsBody h0 h → pm_iter sX16_readsBody n (.inl (x0, x1, x2, x3, x5, x7, h)) = some r → pt_WV WX16_readsBody h0 r) ∧ (∀ (x0 : Nat) (x1 : Int32) (x2 : Int32) (x5 : Int64) (h : pm_H), pw_F WX16_readsBody h0 h → pm_iter sX16_readsBody n (.inr (x0, x1, x2, x5, h)) = some r → pt_WV WX16_readsBody h0 r) := by
  intro n
  induction n with
  | zero => exact ⟨fun _ _ _ _ _ _ _ _ hf => (by cases hf), fun _ _ _ _ _ _ hf => (by cases hf)⟩
  | succ n ih =>
    refine ⟨fun x0 x1 x2 x3 x5 x7 h K0 hf => ?_, ?_⟩
    · obtain ⟨y, hf, hi⟩ := pm_iter_s hf
      have hf : tX16_readsBody_16 x0 x1 x2 x3 x5 x7 h = some y := hf
      unfold tX16_readsBody_16 at hf
      by_cases c9 : x3 ≤ x7
      · have hf := pm_it hf c9
        by_cases c10 : x5 ≤ 4294967295
        · have hf := pm_it hf c10
          cases hf
          exact ih.2 x0 x1 x2 x5 h K0  hi
        · have hf := pm_ie hf c10
          obtain ⟨k11, hf⟩ := pm_if hf
          obtain ⟨v12, e13, hf⟩ := pm_bd hf
          rcases v12 with z15 | w14
          · have hf := pt_sl hf
            cases hf
            cases hi
            exact pw_t (by decide) K0 (show pw_F _ _ z15.2 from wfX16_stops (pw_rf _) e13)
          have K16 := pw_t (by decide) K0 (show pw_F _ _ w14 from wfX16_stops (pw_rf _) e13)
          have hf := pt_sr hf
          cases hf
          exact ih.2 x0 x1 x2 x5 w14 K16  hi
      · have hf := pm_ie hf c9
        obtain ⟨k17, hf⟩ := pm_if hf
        obtain ⟨v18, e19, hf⟩ := pm_bd hf
        rcases v18 with z21 | w20
        · have hf := pt_sl hf
          cases hf
          cases hi
          exact pw_t (by decide) K0 (show pw_F _ _ z21.2 from wfX16_number (pw_rf _) e19)
        have K22 := pw_t (by decide) K0 (show pw_F _ _ w20.2 from wfX16_number (pw_rf _) e19)
        have hf := pt_sr hf
        obtain ⟨y23, e24, hf⟩ := pm_lt hf
        obtain ⟨k25, hf⟩ := pm_if hf
        obtain ⟨v26, e27, hf⟩ := pm_bd hf
        rcases v26 with z29 | w28
        · have hf := pt_sl hf
          cases hf
          cases hi
          exact pw_t (by decide) K22 (show pw_F _ _ z29.2 from wfX16_type (pw_rf _) e27)
        have K30 := pw_t (by decide) K22 (show pw_F _ _ w28.2 from wfX16_type (pw_rf _) e27)
        have hf := pt_sr hf
        obtain ⟨y31, e32, hf⟩ := pm_lt hf
        cases hf
        exact ih.1 x0 x1 x2 x3 y23 y31 w28.2 K30  hi
    refine fun x0 x1 x2 x5 h K0 hf => ?_
    obtain ⟨y, hf, hi⟩ := pm_iter_s hf
    have hf : tX16_readsBody_63 x0 x1 x2 x5 h = some y := hf
    unfold tX16_readsBody_63 at hf
    by_cases c33 : x5 ≤ 1000
    · have hf := pm_it hf c33
      obtain ⟨k34, hf⟩ := pm_if hf
      obtain ⟨v35, e36, hf⟩ := pm_bd hf
      have K37 := pw_t (by decide) K0 (wfX16_exceeds (pw_rf _) e36)
      obtain ⟨k38, hf⟩ := pm_if hf
      obtain ⟨v39, e40, hf⟩ := pm_bd hf
      obtain ⟨k41, hf⟩ := pm_if hf
      obtain ⟨v42, e43, hf⟩ := pm_bd hf
      obtain ⟨k44, hf⟩ := pm_if hf
      obtain ⟨u45, hf⟩ := pm_if hf
      obtain ⟨v46, e47, hf⟩ := pm_bd hf
      obtain ⟨k48, hf⟩ := pm_if hf
      have k48b := (congrFun (pkI rfl) v46).symm.trans k48
      obtain ⟨u49, hf⟩ := pm_if hf
      obtain ⟨v50, e51, hf⟩ := pm_bd hf
      obtain ⟨y52, e53, hf⟩ := pm_lt hf
      obtain ⟨k54, hf⟩ := pm_if hf
      have k54b := (congrFun (pkL (pkI rfl)) v50).symm.trans k54
      obtain ⟨u55, hf⟩ := pm_if hf
      obtain ⟨v56, e57, hf⟩ := pm_bd hf
      rcases v56 with z59 | w58
      · have hf := pt_sl hf
        cases hf
        cases hi
        exact pw_t (by decide) (pw_aI (pw_aL (pw_aI K37 rfl k44 (by decide) (by decide)) (pkI rfl) k48b (by decide) (by decide)) (pkL (pkI rfl)) k54b (by decide) (by decide)) (show pw_F _ _ z59.2 from wfX16_expression (pw_rf _) e57)
      have K60 := pw_t (by decide) (pw_aI (pw_aL (pw_aI K37 rfl k44 (by decide) (by decide)) (pkI rfl) k48b (by decide) (by decide)) (pkL (pkI rfl)) k54b (by decide) (by decide)) (show pw_F _ _ w58 from wfX16_expression (pw_rf _) e57)
      have hf := pt_sr hf
      obtain ⟨k61, hf⟩ := pm_if hf
      obtain ⟨v62, e63, hf⟩ := pm_bd hf
      obtain ⟨k64, hf⟩ := pm_if hf
      obtain ⟨v65, e66, hf⟩ := pm_bd hf
      obtain ⟨y67, e68, hf⟩ := pm_lt hf
      obtain ⟨k69, hf⟩ := pm_if hf
      obtain ⟨u70, hf⟩ := pm_if hf
      cases hf
      cases hi
      exact (pw_aI K60 rfl k69 (by decide) (by decide))
    · have hf := pm_ie hf c33
      obtain ⟨k71, hf⟩ := pm_if hf
      obtain ⟨v72, e73, hf⟩ := pm_bd hf
      have K74 := pw_t (by decide) K0 (wfX16_exceeds (pw_rf _) e73)
      obtain ⟨k75, hf⟩ := pm_if hf
      obtain ⟨v76, e77, hf⟩ := pm_bd hf
      obtain ⟨k78, hf⟩ := pm_if hf
      obtain ⟨v79, e80, hf⟩ := pm_bd hf
      obtain ⟨k81, hf⟩ := pm_if hf
      obtain ⟨u82, hf⟩ := pm_if hf
      obtain ⟨v83, e84, hf⟩ := pm_bd hf
      obtain ⟨k85, hf⟩ := pm_if hf
      have k85b := (congrFun (pkI rfl) v83).symm.trans k85
      obtain ⟨u86, hf⟩ := pm_if hf
      obtain ⟨v87, e88, hf⟩ := pm_bd hf
      obtain ⟨y89, e90, hf⟩ := pm_lt hf
      obtain ⟨k91, hf⟩ := pm_if hf
      have k91b := (congrFun (pkL (pkI rfl)) v87).symm.trans k91
      obtain ⟨u92, hf⟩ := pm_if hf
      obtain ⟨v93, e94, hf⟩ := pm_bd hf
      rcases v93 with z96 | w95
      · have hf := pt_sl hf
        cases hf
        cases hi
        exact pw_t (by decide) (pw_aI (pw_aL (pw_aI K74 rfl k81 (by decide) (by decide)) (pkI rfl) k85b (by decide) (by decide)) (pkL (pkI rfl)) k91b (by decide) (by decide)) (show pw_F _ _ z96.2 from wfX16_expression (pw_rf _) e94)
      have K97 := pw_t (by decide) (pw_aI (pw_aL (pw_aI K74 rfl k81 (by decide) (by decide)) (pkI rfl) k85b (by decide) (by decide)) (pkL (pkI rfl)) k91b (by decide) (by decide)) (show pw_F _ _ w95 from wfX16_expression (pw_rf _) e94)
      have hf := pt_sr hf
      obtain ⟨k98, hf⟩ := pm_if hf
      obtain ⟨v99, e100, hf⟩ := pm_bd hf
      obtain ⟨k101, hf⟩ := pm_if hf
      obtain ⟨v102, e103, hf⟩ := pm_bd hf
      obtain ⟨y104, e105, hf⟩ := pm_lt hf
      obtain ⟨k106, hf⟩ := pm_if hf
      obtain ⟨u107, hf⟩ := pm_if hf
      cases hf
      cases hi
      exact (pw_aI K97 rfl k106 (by decide) (by decide))
set_option maxHeartbeats 4000000 in
set_option maxRecDepth 100000 in
theorem wfX16_readsBody {h0 h : pm_H} (K0 : pw_F WX16_readsBody h0 h) {a0 : Nat} {p1 : Int32}  {r : ((Nat × pm_H) ⊕ pm_H)} (hf : fX16_readsBody h a0 p1 = some r) : pt_WV WX16_readsBody h0 r := by
  unfold fX16_readsBody at hf
  obtain ⟨k1, hf⟩ := pm_if hf
  obtain ⟨y2, e3, hf⟩ := pm_lt hf
  obtain ⟨v4, e5, hf⟩ := pm_bd hf
  rcases v4 with z7 | w6
  · have hf := pt_kl hf
    cases hf
    exact pw_t (by decide) K0 (show pw_F _ _ z7.2 from wfX16_number (pw_rf _) e5)
  have K8 := pw_t (by decide) K0 (show pw_F _ _ w6.2 from wfX16_number (pw_rf _) e5)
  have hf := pt_kr hf
  obtain ⟨n, hn⟩ := pm_lim_iter hf
  exact (wlX16_readsBody n).1 a0 p1 y2 w6.1 0 0 w6.2 K8  hn
abbrev WX16_readsDatas : List Nat := [1795, 1835, 1836, 2055, 2056, 2059, 4096, 4352, 4480]
set_option maxHeartbeats 4000000 in
set_option maxRecDepth 100000 in
theorem wlX16_readsDatas {h0 : pm_H} {r : ((Nat × pm_H) ⊕ pm_H)} : ∀ n : Nat, (∀ (x0 : Nat) (x1 : Int64) (x3 : Int64) (h : pm_H), pw_F WX16_readsDatas h0 h → pm_iter sX16_readsDatas n (.inl (x0, x1, x3, h)) = some r → pt_WV WX16_readsDatas h0 r) ∧ (∀ (x0 : Nat) (x1 : Int64) (x3 : Int64) (x6 : Int64) (h : pm_H), pw_F WX16_readsDatas h0 h → pm_iter sX16_readsDatas n (.inr (.inl (x0, x1, x3, x6, h))) = some r → pt_WV WX16_readsDatas h0 r) ∧ (∀ (x0 : Nat) (x1 : Int64) (x3 : Int64) (x6 : Int64) (s0 : Int32) (h : pm_H), pw_F WX16_readsDatas h0 h → pm_iter sX16_readsDatas n (.inr (.inr (.inl (x0, x1, x3, x6, s0, h)))) = some r → pt_WV WX16_readsDatas h0 r) ∧ (∀ (x0 : Nat) (x1 : Int64) (x3 : Int64) (x6 : Int64) (x8 : Int32) (s0 : Int32) (s1 : Int32) (s2 : Nat) (h : pm_H), pw_F WX16_readsDatas h0 h → pm_iter sX16_readsDatas n (.inr (.inr (.inr (.inl (x0, x1, x3, x6, x8, s0, s1, s2, h))))) = some r → pt_WV WX16_readsDatas h0 r) ∧ (∀ (x0 : Nat) (x1 : Int64) (x3 : Int64) (x8 : Int32) (x9 : Int64) (x11 : Int64) (h : pm_H), pw_F WX16_readsDatas h0 h → pm_iter sX16_readsDatas n (.inr (.inr (.inr (.inr (x0, x1, x3, x8, x9, x11, h))))) = some r → pt_WV WX16_readsDatas h0 r) := by
  intro n
  induction n with
  | zero => exact ⟨fun _ _ _ _ _ hf => (by cases hf), fun _ _ _ _ _ _ hf => (by cases hf), fun _ _ _ _ _ _ _ hf => (by cases hf), fun _ _ _ _ _ _ _ _ _ _ hf => (by cases hf), fun _ _ _ _ _ _ _ _ hf => (by cases hf)⟩
  | succ n ih =>
    refine ⟨fun x0 x1 x3 h K0 hf => ?_, ?_⟩
    · obtain ⟨y, hf, hi⟩ := pm_iter_s hf
      have hf : tX16_readsDatas_27 x0 x1 x3 h = some y := hf
      unfold tX16_readsDatas_27 at hf
      by_cases c15 : x1 ≤ x3
      · have hf := pm_it hf c15
        cases hf
        cases hi
        exact K0
      · have hf := pm_ie hf c15
        obtain ⟨k16, hf⟩ := pm_if hf
        obtain ⟨y17, e18, hf⟩ := pm_lt hf
        obtain ⟨v19, e20, hf⟩ := pm_bd hf
        rcases v19 with z22 | w21
        · have hf := pt_sl hf
          cases hf
          cases hi
          exact pw_t (by decide) K0 (show pw_F _ _ z22.2 from wfX16_number (pw_rf _) e20)
        have K23 := pw_t (by decide) K0 (show pw_F _ _ w21.2 from wfX16_number (pw_rf _) e20)
        have hf := pt_sr hf
        by_cases c24 : w21.1 ≤ 2
        · have hf := pm_it hf c24
          cases hf
          exact ih.2.1 x0 x1 x3 w21.1 w21.2 K23  hi
        · have hf := pm_ie hf c24
          obtain ⟨k25, hf⟩ := pm_if hf
          obtain ⟨v26, e27, hf⟩ := pm_bd hf
          rcases v26 with z29 | w28
          · have hf := pt_sl hf
            cases hf
            cases hi
            exact pw_t (by decide) K23 (show pw_F _ _ z29.2 from wfX16_stops (pw_rf _) e27)
          have K30 := pw_t (by decide) K23 (show pw_F _ _ w28 from wfX16_stops (pw_rf _) e27)
          have hf := pt_sr hf
          cases hf
          exact ih.2.1 x0 x1 x3 w21.1 w28 K30  hi
    refine ⟨fun x0 x1 x3 x6 h K0 hf => ?_, ?_⟩
    · obtain ⟨y, hf, hi⟩ := pm_iter_s hf
      have hf : tX16_readsDatas_62 x0 x1 x3 x6 h = some y := hf
      unfold tX16_readsDatas_62 at hf
      by_cases c31 : 64 ≤ x3
      · have hf := pm_it hf c31
        cases hf
        exact ih.2.2.1 x0 x1 x3 x6 63 h K0  hi
      · have hf := pm_ie hf c31
        cases hf
        exact ih.2.2.1 x0 x1 x3 x6 x3.toInt32 h K0  hi
    refine ⟨fun x0 x1 x3 x6 s0 h K0 hf => ?_, ?_⟩
    · obtain ⟨y, hf, hi⟩ := pm_iter_s hf
      have hf : tX16_readsDatas_77 x0 x1 x3 x6 s0 h = some y := hf
      unfold tX16_readsDatas_77 at hf
      obtain ⟨k32, hf⟩ := pm_if hf
      obtain ⟨v33, e34, hf⟩ := pm_bd hf
      obtain ⟨k35, hf⟩ := pm_if hf
      obtain ⟨v36, e37, hf⟩ := pm_bd hf
      by_cases c38 : x6 = 1
      · have hf := pm_it hf c38
        cases hf
        exact ih.2.2.2.1 x0 x1 x3 x6 s0 0 s0 v36 h K0  hi
      · have hf := pm_ie hf c38
        cases hf
        exact ih.2.2.2.1 x0 x1 x3 x6 s0 1 s0 v36 h K0  hi
    refine ⟨fun x0 x1 x3 x6 x8 s0 s1 s2 h K0 hf => ?_, ?_⟩
    · obtain ⟨y, hf, hi⟩ := pm_iter_s hf
      have hf : tX16_readsDatas_100 x0 x1 x3 x6 x8 s0 s1 s2 h = some y := hf
      unfold tX16_readsDatas_100 at hf
      obtain ⟨k39, hf⟩ := pm_if hf
      obtain ⟨u40, hf⟩ := pm_if hf
      obtain ⟨k41, hf⟩ := pm_if hf
      have k41b := (congrFun (pkI rfl) x0).symm.trans k41
      obtain ⟨v42, e43, hf⟩ := pm_bd hf
      obtain ⟨k44, hf⟩ := pm_if hf
      have k44b := (congrFun (pkI rfl) v42).symm.trans k44
      obtain ⟨v45, e46, hf⟩ := pm_bd hf
      by_cases c47 : x6 = 2
      · have hf := pm_it hf c47
        obtain ⟨v48, e49, hf⟩ := pm_bd hf
        rcases v48 with z51 | w50
        · have hf := pt_sl hf
          cases hf
          cases hi
          exact pw_t (by decide) (pw_aI K0 rfl k39 (by decide) (by decide)) (show pw_F _ _ z51.2 from wfX16_number (pw_rf _) e49)
        have K52 := pw_t (by decide) (pw_aI K0 rfl k39 (by decide) (by decide)) (show pw_F _ _ w50.2 from wfX16_number (pw_rf _) e49)
        have hf := pt_sr hf
        obtain ⟨k53, hf⟩ := pm_if hf
        obtain ⟨u54, hf⟩ := pm_if hf
        obtain ⟨k55, hf⟩ := pm_if hf
        have k55b := (congrFun (pkL rfl) x0).symm.trans k55
        obtain ⟨v56, e57, hf⟩ := pm_bd hf
        obtain ⟨k58, hf⟩ := pm_if hf
        have k58b := (congrFun (pkL rfl) v56).symm.trans k58
        obtain ⟨v59, e60, hf⟩ := pm_bd hf
        obtain ⟨y61, e62, hf⟩ := pm_lt hf
        obtain ⟨k63, hf⟩ := pm_if hf
        have k63b := (congrFun (pkL rfl) v59).symm.trans k63
        obtain ⟨u64, hf⟩ := pm_if hf
        by_cases c65 : x6 = 1
        · have hf := pm_it hf c65
          obtain ⟨v66, e67, hf⟩ := pm_bd hf
          rcases v66 with z69 | w68
          · have hf := pt_sl hf
            cases hf
            cases hi
            exact pw_t (by decide) (pw_aI (pw_aL K52 rfl k53 (by decide) (by decide)) (pkL rfl) k63b (by decide) (by decide)) (show pw_F _ _ z69.2 from wfX16_number (pw_rf _) e67)
          have K70 := pw_t (by decide) (pw_aI (pw_aL K52 rfl k53 (by decide) (by decide)) (pkL rfl) k63b (by decide) (by decide)) (show pw_F _ _ w68.2 from wfX16_number (pw_rf _) e67)
          have hf := pt_sr hf
          obtain ⟨k71, hf⟩ := pm_if hf
          obtain ⟨v72, e73, hf⟩ := pm_bd hf
          obtain ⟨k74, hf⟩ := pm_if hf
          obtain ⟨v75, e76, hf⟩ := pm_bd hf
          obtain ⟨y77, e78, hf⟩ := pm_lt hf
          obtain ⟨k79, hf⟩ := pm_if hf
          obtain ⟨u80, hf⟩ := pm_if hf
          cases hf
          exact ih.2.2.2.2 x0 x1 x3 x8 w68.1 0 (pm_setI w68.2 v75 x8.toNatClampNeg y77) (pw_aI K70 rfl k79 (by decide) (by decide))  hi
        · have hf := pm_ie hf c65
          obtain ⟨v81, e82, hf⟩ := pm_bd hf
          rcases v81 with z84 | w83
          · have hf := pt_sl hf
            cases hf
            cases hi
            exact pw_t (by decide) (pw_aI (pw_aL K52 rfl k53 (by decide) (by decide)) (pkL rfl) k63b (by decide) (by decide)) (show pw_F _ _ z84.2 from wfX16_expression (pw_rf _) e82)
          have K85 := pw_t (by decide) (pw_aI (pw_aL K52 rfl k53 (by decide) (by decide)) (pkL rfl) k63b (by decide) (by decide)) (show pw_F _ _ w83 from wfX16_expression (pw_rf _) e82)
          have hf := pt_sr hf
          obtain ⟨k86, hf⟩ := pm_if hf
          obtain ⟨v87, e88, hf⟩ := pm_bd hf
          rcases v87 with z90 | w89
          · have hf := pt_sl hf
            cases hf
            cases hi
            exact pw_t (by decide) K85 (show pw_F _ _ z90.2 from wfX16_number (pw_rf _) e88)
          have K91 := pw_t (by decide) K85 (show pw_F _ _ w89.2 from wfX16_number (pw_rf _) e88)
          have hf := pt_sr hf
          obtain ⟨k92, hf⟩ := pm_if hf
          obtain ⟨v93, e94, hf⟩ := pm_bd hf
          obtain ⟨k95, hf⟩ := pm_if hf
          obtain ⟨v96, e97, hf⟩ := pm_bd hf
          obtain ⟨y98, e99, hf⟩ := pm_lt hf
          obtain ⟨k100, hf⟩ := pm_if hf
          obtain ⟨u101, hf⟩ := pm_if hf
          cases hf
          exact ih.2.2.2.2 x0 x1 x3 x8 w89.1 0 (pm_setI w89.2 v96 x8.toNatClampNeg y98) (pw_aI K91 rfl k100 (by decide) (by decide))  hi
      · have hf := pm_ie hf c47
        obtain ⟨k102, hf⟩ := pm_if hf
        have k102b := (congrFun (pkI rfl) v45).symm.trans k102
        obtain ⟨u103, hf⟩ := pm_if hf
        obtain ⟨v104, e105, hf⟩ := pm_bd hf
        obtain ⟨y106, e107, hf⟩ := pm_lt hf
        obtain ⟨k108, hf⟩ := pm_if hf
        have k108b := (congrFun (pkL (pkI rfl)) v104).symm.trans k108
        obtain ⟨u109, hf⟩ := pm_if hf
        by_cases c110 : x6 = 1
        · have hf := pm_it hf c110
          obtain ⟨v111, e112, hf⟩ := pm_bd hf
          rcases v111 with z114 | w113
          · have hf := pt_sl hf
            cases hf
            cases hi
            exact pw_t (by decide) (pw_aI (pw_aL (pw_aI K0 rfl k39 (by decide) (by decide)) (pkI rfl) k102b (by decide) (by decide)) (pkL (pkI rfl)) k108b (by decide) (by decide)) (show pw_F _ _ z114.2 from wfX16_number (pw_rf _) e112)
          have K115 := pw_t (by decide) (pw_aI (pw_aL (pw_aI K0 rfl k39 (by decide) (by decide)) (pkI rfl) k102b (by decide) (by decide)) (pkL (pkI rfl)) k108b (by decide) (by decide)) (show pw_F _ _ w113.2 from wfX16_number (pw_rf _) e112)
          have hf := pt_sr hf
          obtain ⟨k116, hf⟩ := pm_if hf
          obtain ⟨v117, e118, hf⟩ := pm_bd hf
          obtain ⟨k119, hf⟩ := pm_if hf
          obtain ⟨v120, e121, hf⟩ := pm_bd hf
          obtain ⟨y122, e123, hf⟩ := pm_lt hf
          obtain ⟨k124, hf⟩ := pm_if hf
          obtain ⟨u125, hf⟩ := pm_if hf
          cases hf
          exact ih.2.2.2.2 x0 x1 x3 x8 w113.1 0 (pm_setI w113.2 v120 x8.toNatClampNeg y122) (pw_aI K115 rfl k124 (by decide) (by decide))  hi
        · have hf := pm_ie hf c110
          obtain ⟨v126, e127, hf⟩ := pm_bd hf
          rcases v126 with z129 | w128
          · have hf := pt_sl hf
            cases hf
            cases hi
            exact pw_t (by decide) (pw_aI (pw_aL (pw_aI K0 rfl k39 (by decide) (by decide)) (pkI rfl) k102b (by decide) (by decide)) (pkL (pkI rfl)) k108b (by decide) (by decide)) (show pw_F _ _ z129.2 from wfX16_expression (pw_rf _) e127)
          have K130 := pw_t (by decide) (pw_aI (pw_aL (pw_aI K0 rfl k39 (by decide) (by decide)) (pkI rfl) k102b (by decide) (by decide)) (pkL (pkI rfl)) k108b (by decide) (by decide)) (show pw_F _ _ w128 from wfX16_expression (pw_rf _) e127)
          have hf := pt_sr hf
          obtain ⟨k131, hf⟩ := pm_if hf
          obtain ⟨v132, e133, hf⟩ := pm_bd hf
          rcases v132 with z135 | w134
          · have hf := pt_sl hf
            cases hf
            cases hi
            exact pw_t (by decide) K130 (show pw_F _ _ z135.2 from wfX16_number (pw_rf _) e133)
          have K136 := pw_t (by decide) K130 (show pw_F _ _ w134.2 from wfX16_number (pw_rf _) e133)
          have hf := pt_sr hf
          obtain ⟨k137, hf⟩ := pm_if hf
          obtain ⟨v138, e139, hf⟩ := pm_bd hf
          obtain ⟨k140, hf⟩ := pm_if hf
          obtain ⟨v141, e142, hf⟩ := pm_bd hf
          obtain ⟨y143, e144, hf⟩ := pm_lt hf
          obtain ⟨k145, hf⟩ := pm_if hf
          obtain ⟨u146, hf⟩ := pm_if hf
          cases hf
          exact ih.2.2.2.2 x0 x1 x3 x8 w134.1 0 (pm_setI w134.2 v141 x8.toNatClampNeg y143) (pw_aI K136 rfl k145 (by decide) (by decide))  hi
    refine fun x0 x1 x3 x8 x9 x11 h K0 hf => ?_
    obtain ⟨y, hf, hi⟩ := pm_iter_s hf
    have hf : tX16_readsDatas_177 x0 x1 x3 x8 x9 x11 h = some y := hf
    unfold tX16_readsDatas_177 at hf
    by_cases c147 : x9 ≤ x11
    · have hf := pm_it hf c147
      obtain ⟨k148, hf⟩ := pm_if hf
      obtain ⟨v149, e150, hf⟩ := pm_bd hf
      obtain ⟨k151, hf⟩ := pm_if hf
      obtain ⟨v152, e153, hf⟩ := pm_bd hf
      obtain ⟨k154, hf⟩ := pm_if hf
      obtain ⟨u155, hf⟩ := pm_if hf
      obtain ⟨y156, e157, hf⟩ := pm_lt hf
      cases hf
      exact ih.1 x0 x1 y156 (pm_setI h v152 x8.toNatClampNeg x9.toInt32) (pw_aI K0 rfl k154 (by decide) (by decide))  hi
    · have hf := pm_ie hf c147
      obtain ⟨k158, hf⟩ := pm_if hf
      obtain ⟨v159, e160, hf⟩ := pm_bd hf
      rcases v159 with z162 | w161
      · have hf := pt_sl hf
        cases hf
        cases hi
        exact pw_t (by decide) K0 (show pw_F _ _ z162.2 from wfX16_next (pw_rf _) e160)
      have K163 := pw_t (by decide) K0 (show pw_F _ _ w161.2 from wfX16_next (pw_rf _) e160)
      have hf := pt_sr hf
      obtain ⟨y164, e165, hf⟩ := pm_lt hf
      cases hf
      exact ih.2.2.2.2 x0 x1 x3 x8 x9 y164 w161.2 K163  hi
set_option maxHeartbeats 4000000 in
set_option maxRecDepth 100000 in
theorem wfX16_readsDatas {h0 h : pm_H} (K0 : pw_F WX16_readsDatas h0 h) {a0 : Nat}  {r : ((Nat × pm_H) ⊕ pm_H)} (hf : fX16_readsDatas h a0 = some r) : pt_WV WX16_readsDatas h0 r := by
  unfold fX16_readsDatas at hf
  obtain ⟨k1, hf⟩ := pm_if hf
  obtain ⟨v2, e3, hf⟩ := pm_bd hf
  rcases v2 with z5 | w4
  · have hf := pt_kl hf
    cases hf
    exact pw_t (by decide) K0 (show pw_F _ _ z5.2 from wfX16_number (pw_rf _) e3)
  have K6 := pw_t (by decide) K0 (show pw_F _ _ w4.2 from wfX16_number (pw_rf _) e3)
  have hf := pt_kr hf
  obtain ⟨k7, hf⟩ := pm_if hf
  obtain ⟨v8, e9, hf⟩ := pm_bd hf
  obtain ⟨k10, hf⟩ := pm_if hf
  obtain ⟨v11, e12, hf⟩ := pm_bd hf
  have K13 := pw_t (by decide) (pw_sL K6 rfl k10 (by decide)) (wfX16_kept (pw_rf _) e12)
  obtain ⟨k14, hf⟩ := pm_if hf
  obtain ⟨n, hn⟩ := pm_lim_iter hf
  exact (wlX16_readsDatas n).1 a0 w4.1 0 (pm_setI v11.2 v8 44 v11.1) (pw_sI K13 rfl k14 (by decide))  hn
abbrev WX16_readsElement : List Nat := [1795, 2055, 2056, 2059, 4096, 4352, 4480]
set_option maxHeartbeats 4000000 in
set_option maxRecDepth 100000 in
theorem wlX16_readsElement {h0 : pm_H} {r : ((Nat × pm_H) ⊕ pm_H)} : ∀ n : Nat, (∀ (x0 : Nat) (x1 : Int32) (x2 : Int32) (s0 : Int32) (h : pm_H), pw_F WX16_readsElement h0 h → pm_iter sX16_readsElement n (.inl (x0, x1, x2, s0, h)) = some r → pt_WV WX16_readsElement h0 r) ∧ (∀ (x0 : Nat) (x1 : Int32) (x2 : Int32) (x3 : Int32) (s0 : Int32) (s1 : Int32) (s2 : Nat) (h : pm_H), pw_F WX16_readsElement h0 h → pm_iter sX16_readsElement n (.inr (.inl (x0, x1, x2, x3, s0, s1, s2, h))) = some r → pt_WV WX16_readsElement h0 r) ∧ (∀ (x0 : Nat) (x1 : Int32) (x2 : Int32) (x3 : Int32) (s0 : Int32) (s1 : Nat) (h : pm_H), pw_F WX16_readsElement h0 h → pm_iter sX16_readsElement n (.inr (.inr (.inl (x0, x1, x2, x3, s0, s1, h)))) = some r → pt_WV WX16_readsElement h0 r) ∧ (∀ (x0 : Nat) (x1 : Int32) (x2 : Int32) (x3 : Int32) (s0 : Int64) (s1 : Int32) (s2 : Nat) (h : pm_H), pw_F WX16_readsElement h0 h → pm_iter sX16_readsElement n (.inr (.inr (.inr (.inl (x0, x1, x2, x3, s0, s1, s2, h))))) = some r → pt_WV WX16_readsElement h0 r) ∧ (∀ (x0 : Nat) (x1 : Int32) (x2 : Int32) (h : pm_H), pw_F WX16_readsElement h0 h → pm_iter sX16_readsElement n (.inr (.inr (.inr (.inr (.inl (x0, x1, x2, h)))))) = some r → pt_WV WX16_readsElement h0 r) ∧ (∀ (x0 : Nat) (x1 : Int32) (x2 : Int32) (s0 : Int32) (s1 : Int32) (s2 : Nat) (h : pm_H), pw_F WX16_readsElement h0 h → pm_iter sX16_readsElement n (.inr (.inr (.inr (.inr (.inr (.inl (x0, x1, x2, s0, s1, s2, h))))))) = some r → pt_WV WX16_readsElement h0 r) ∧ (∀ (x0 : Nat) (x1 : Int32) (x2 : Int32) (x4 : Int64) (x6 : Int64) (h : pm_H), pw_F WX16_readsElement h0 h → pm_iter sX16_readsElement n (.inr (.inr (.inr (.inr (.inr (.inr (x0, x1, x2, x4, x6, h))))))) = some r → pt_WV WX16_readsElement h0 r) := by
  intro n
  induction n with
  | zero => exact ⟨fun _ _ _ _ _ _ hf => (by cases hf), fun _ _ _ _ _ _ _ _ _ hf => (by cases hf), fun _ _ _ _ _ _ _ _ hf => (by cases hf), fun _ _ _ _ _ _ _ _ _ hf => (by cases hf), fun _ _ _ _ _ hf => (by cases hf), fun _ _ _ _ _ _ _ _ hf => (by cases hf), fun _ _ _ _ _ _ _ hf => (by cases hf)⟩
  | succ n ih =>
    refine ⟨fun x0 x1 x2 s0 h K0 hf => ?_, ?_⟩
    · obtain ⟨y, hf, hi⟩ := pm_iter_s hf
      have hf : tX16_readsElement_11 x0 x1 x2 s0 h = some y := hf
      unfold tX16_readsElement_11 at hf
      obtain ⟨k2, hf⟩ := pm_if hf
      obtain ⟨v3, e4, hf⟩ := pm_bd hf
      obtain ⟨k5, hf⟩ := pm_if hf
      obtain ⟨v6, e7, hf⟩ := pm_bd hf
      by_cases c8 : s0 = 0
      · have hf := pm_it hf c8
        by_cases c9 : (x1 &&& 2) = 0
        · have hf := pm_it hf c9
          cases hf
          exact ih.2.1 x0 x1 x2 s0 1 x2 v6 h K0  hi
        · have hf := pm_ie hf c9
          cases hf
          exact ih.2.1 x0 x1 x2 s0 2 x2 v6 h K0  hi
      · have hf := pm_ie hf c8
        cases hf
        exact ih.2.1 x0 x1 x2 s0 0 x2 v6 h K0  hi
    refine ⟨fun x0 x1 x2 x3 s0 s1 s2 h K0 hf => ?_, ?_⟩
    · obtain ⟨y, hf, hi⟩ := pm_iter_s hf
      have hf : tX16_readsElement_39 x0 x1 x2 x3 s0 s1 s2 h = some y := hf
      unfold tX16_readsElement_39 at hf
      obtain ⟨k10, hf⟩ := pm_if hf
      obtain ⟨u11, hf⟩ := pm_if hf
      obtain ⟨k12, hf⟩ := pm_if hf
      have k12b := (congrFun (pkI rfl) x0).symm.trans k12
      obtain ⟨v13, e14, hf⟩ := pm_bd hf
      obtain ⟨k15, hf⟩ := pm_if hf
      have k15b := (congrFun (pkI rfl) v13).symm.trans k15
      obtain ⟨v16, e17, hf⟩ := pm_bd hf
      by_cases c18 : x3 = 0
      · have hf := pm_it hf c18
        cases hf
        exact ih.2.2.1 x0 x1 x2 x3 x2 v16 (pm_setI h s2 s1.toNatClampNeg s0) (pw_aI K0 rfl k10 (by decide) (by decide))  hi
      · have hf := pm_ie hf c18
        by_cases c19 : (x1 &&& 2) = 0
        · have hf := pm_it hf c19
          cases hf
          exact ih.2.2.1 x0 x1 x2 x3 x2 v16 (pm_setI h s2 s1.toNatClampNeg s0) (pw_aI K0 rfl k10 (by decide) (by decide))  hi
        · have hf := pm_ie hf c19
          obtain ⟨v20, e21, hf⟩ := pm_bd hf
          rcases v20 with z23 | w22
          · have hf := pt_sl hf
            cases hf
            cases hi
            exact pw_t (by decide) (pw_aI K0 rfl k10 (by decide) (by decide)) (show pw_F _ _ z23.2 from wfX16_number (pw_rf _) e21)
          have K24 := pw_t (by decide) (pw_aI K0 rfl k10 (by decide) (by decide)) (show pw_F _ _ w22.2 from wfX16_number (pw_rf _) e21)
          have hf := pt_sr hf
          cases hf
          exact ih.2.2.2.1 x0 x1 x2 x3 w22.1 x2 v16 w22.2 K24  hi
    refine ⟨fun x0 x1 x2 x3 s0 s1 h K0 hf => ?_, ?_⟩
    · obtain ⟨y, hf, hi⟩ := pm_iter_s hf
      have hf : tX16_readsElement_65 x0 x1 x2 x3 s0 s1 h = some y := hf
      unfold tX16_readsElement_65 at hf
      cases hf
      exact ih.2.2.2.1 x0 x1 x2 x3 0 s0 s1 h K0  hi
    refine ⟨fun x0 x1 x2 x3 s0 s1 s2 h K0 hf => ?_, ?_⟩
    · obtain ⟨y, hf, hi⟩ := pm_iter_s hf
      have hf : tX16_readsElement_66 x0 x1 x2 x3 s0 s1 s2 h = some y := hf
      unfold tX16_readsElement_66 at hf
      obtain ⟨k25, hf⟩ := pm_if hf
      obtain ⟨u26, hf⟩ := pm_if hf
      obtain ⟨k27, hf⟩ := pm_if hf
      have k27b := (congrFun (pkL rfl) x0).symm.trans k27
      obtain ⟨v28, e29, hf⟩ := pm_bd hf
      obtain ⟨k30, hf⟩ := pm_if hf
      have k30b := (congrFun (pkL rfl) v28).symm.trans k30
      obtain ⟨v31, e32, hf⟩ := pm_bd hf
      obtain ⟨y33, e34, hf⟩ := pm_lt hf
      obtain ⟨k35, hf⟩ := pm_if hf
      have k35b := (congrFun (pkL rfl) v31).symm.trans k35
      obtain ⟨u36, hf⟩ := pm_if hf
      by_cases c37 : x3 = 0
      · have hf := pm_it hf c37
        cases hf
        exact ih.2.2.2.2.1 x0 x1 x2 (pm_setI (pm_setL h s2 s1.toNatClampNeg s0) v31 x2.toNatClampNeg y33) (pw_aI (pw_aL K0 rfl k25 (by decide) (by decide)) (pkL rfl) k35b (by decide) (by decide))  hi
      · have hf := pm_ie hf c37
        obtain ⟨v38, e39, hf⟩ := pm_bd hf
        rcases v38 with z41 | w40
        · have hf := pt_sl hf
          cases hf
          cases hi
          exact pw_t (by decide) (pw_aI (pw_aL K0 rfl k25 (by decide) (by decide)) (pkL rfl) k35b (by decide) (by decide)) (show pw_F _ _ z41.2 from wfX16_expression (pw_rf _) e39)
        have K42 := pw_t (by decide) (pw_aI (pw_aL K0 rfl k25 (by decide) (by decide)) (pkL rfl) k35b (by decide) (by decide)) (show pw_F _ _ w40 from wfX16_expression (pw_rf _) e39)
        have hf := pt_sr hf
        cases hf
        exact ih.2.2.2.2.1 x0 x1 x2 w40 K42  hi
    refine ⟨fun x0 x1 x2 h K0 hf => ?_, ?_⟩
    · obtain ⟨y, hf, hi⟩ := pm_iter_s hf
      have hf : tX16_readsElement_89 x0 x1 x2 h = some y := hf
      unfold tX16_readsElement_89 at hf
      obtain ⟨k43, hf⟩ := pm_if hf
      obtain ⟨v44, e45, hf⟩ := pm_bd hf
      obtain ⟨k46, hf⟩ := pm_if hf
      obtain ⟨v47, e48, hf⟩ := pm_bd hf
      by_cases c49 : (x1 &&& 4) = 0
      · have hf := pm_it hf c49
        cases hf
        exact ih.2.2.2.2.2.1 x0 x1 x2 0 x2 v47 h K0  hi
      · have hf := pm_ie hf c49
        cases hf
        exact ih.2.2.2.2.2.1 x0 x1 x2 1 x2 v47 h K0  hi
    refine ⟨fun x0 x1 x2 s0 s1 s2 h K0 hf => ?_, ?_⟩
    · obtain ⟨y, hf, hi⟩ := pm_iter_s hf
      have hf : tX16_readsElement_108 x0 x1 x2 s0 s1 s2 h = some y := hf
      unfold tX16_readsElement_108 at hf
      obtain ⟨k50, hf⟩ := pm_if hf
      obtain ⟨u51, hf⟩ := pm_if hf
      obtain ⟨k52, hf⟩ := pm_if hf
      have k52b := (congrFun (pkI rfl) x0).symm.trans k52
      obtain ⟨v53, e54, hf⟩ := pm_bd hf
      obtain ⟨k55, hf⟩ := pm_if hf
      have k55b := (congrFun (pkI rfl) v53).symm.trans k55
      obtain ⟨v56, e57, hf⟩ := pm_bd hf
      obtain ⟨k58, hf⟩ := pm_if hf
      have k58b := (congrFun (pkI rfl) v56).symm.trans k58
      obtain ⟨u59, hf⟩ := pm_if hf
      by_cases c60 : x1 = 0
      · have hf := pm_it hf c60
        obtain ⟨v61, e62, hf⟩ := pm_bd hf
        rcases v61 with z64 | w63
        · have hf := pt_sl hf
          cases hf
          cases hi
          exact pw_t (by decide) (pw_aI (pw_aI K0 rfl k50 (by decide) (by decide)) (pkI rfl) k58b (by decide) (by decide)) (show pw_F _ _ z64.2 from wfX16_number (pw_rf _) e62)
        have K65 := pw_t (by decide) (pw_aI (pw_aI K0 rfl k50 (by decide) (by decide)) (pkI rfl) k58b (by decide) (by decide)) (show pw_F _ _ w63.2 from wfX16_number (pw_rf _) e62)
        have hf := pt_sr hf
        obtain ⟨k66, hf⟩ := pm_if hf
        obtain ⟨v67, e68, hf⟩ := pm_bd hf
        obtain ⟨k69, hf⟩ := pm_if hf
        obtain ⟨v70, e71, hf⟩ := pm_bd hf
        obtain ⟨y72, e73, hf⟩ := pm_lt hf
        obtain ⟨k74, hf⟩ := pm_if hf
        obtain ⟨u75, hf⟩ := pm_if hf
        cases hf
        exact ih.2.2.2.2.2.2 x0 x1 x2 w63.1 0 (pm_setI w63.2 v70 x2.toNatClampNeg y72) (pw_aI K65 rfl k74 (by decide) (by decide))  hi
      · have hf := pm_ie hf c60
        by_cases c76 : x1 = 4
        · have hf := pm_it hf c76
          obtain ⟨v77, e78, hf⟩ := pm_bd hf
          rcases v77 with z80 | w79
          · have hf := pt_sl hf
            cases hf
            cases hi
            exact pw_t (by decide) (pw_aI (pw_aI K0 rfl k50 (by decide) (by decide)) (pkI rfl) k58b (by decide) (by decide)) (show pw_F _ _ z80.2 from wfX16_number (pw_rf _) e78)
          have K81 := pw_t (by decide) (pw_aI (pw_aI K0 rfl k50 (by decide) (by decide)) (pkI rfl) k58b (by decide) (by decide)) (show pw_F _ _ w79.2 from wfX16_number (pw_rf _) e78)
          have hf := pt_sr hf
          obtain ⟨k82, hf⟩ := pm_if hf
          obtain ⟨v83, e84, hf⟩ := pm_bd hf
          obtain ⟨k85, hf⟩ := pm_if hf
          obtain ⟨v86, e87, hf⟩ := pm_bd hf
          obtain ⟨y88, e89, hf⟩ := pm_lt hf
          obtain ⟨k90, hf⟩ := pm_if hf
          obtain ⟨u91, hf⟩ := pm_if hf
          cases hf
          exact ih.2.2.2.2.2.2 x0 x1 x2 w79.1 0 (pm_setI w79.2 v86 x2.toNatClampNeg y88) (pw_aI K81 rfl k90 (by decide) (by decide))  hi
        · have hf := pm_ie hf c76
          by_cases c92 : (x1 &&& 4) = 0
          · have hf := pm_it hf c92
            obtain ⟨v93, e94, hf⟩ := pm_bd hf
            rcases v93 with z96 | w95
            · have hf := pt_sl hf
              cases hf
              cases hi
              exact pw_t (by decide) (pw_aI (pw_aI K0 rfl k50 (by decide) (by decide)) (pkI rfl) k58b (by decide) (by decide)) (show pw_F _ _ z96.2 from wfX16_small (pw_rf _) e94)
            have K97 := pw_t (by decide) (pw_aI (pw_aI K0 rfl k50 (by decide) (by decide)) (pkI rfl) k58b (by decide) (by decide)) (show pw_F _ _ w95.2 from wfX16_small (pw_rf _) e94)
            have hf := pt_sr hf
            obtain ⟨k98, hf⟩ := pm_if hf
            obtain ⟨v99, e100, hf⟩ := pm_bd hf
            rcases v99 with z102 | w101
            · have hf := pt_sl hf
              cases hf
              cases hi
              exact pw_t (by decide) K97 (show pw_F _ _ z102.2 from wfX16_number (pw_rf _) e100)
            have K103 := pw_t (by decide) K97 (show pw_F _ _ w101.2 from wfX16_number (pw_rf _) e100)
            have hf := pt_sr hf
            obtain ⟨k104, hf⟩ := pm_if hf
            obtain ⟨v105, e106, hf⟩ := pm_bd hf
            obtain ⟨k107, hf⟩ := pm_if hf
            obtain ⟨v108, e109, hf⟩ := pm_bd hf
            obtain ⟨y110, e111, hf⟩ := pm_lt hf
            obtain ⟨k112, hf⟩ := pm_if hf
            obtain ⟨u113, hf⟩ := pm_if hf
            cases hf
            exact ih.2.2.2.2.2.2 x0 x1 x2 w101.1 0 (pm_setI w101.2 v108 x2.toNatClampNeg y110) (pw_aI K103 rfl k112 (by decide) (by decide))  hi
          · have hf := pm_ie hf c92
            obtain ⟨v114, e115, hf⟩ := pm_bd hf
            rcases v114 with z117 | w116
            · have hf := pt_sl hf
              cases hf
              cases hi
              exact pw_t (by decide) (pw_aI (pw_aI K0 rfl k50 (by decide) (by decide)) (pkI rfl) k58b (by decide) (by decide)) (show pw_F _ _ z117.2 from wfX16_referenceType (pw_rf _) e115)
            have K118 := pw_t (by decide) (pw_aI (pw_aI K0 rfl k50 (by decide) (by decide)) (pkI rfl) k58b (by decide) (by decide)) (show pw_F _ _ w116.2 from wfX16_referenceType (pw_rf _) e115)
            have hf := pt_sr hf
            obtain ⟨k119, hf⟩ := pm_if hf
            obtain ⟨u120, hf⟩ := pm_if hf
            obtain ⟨k121, hf⟩ := pm_if hf
            have k121b := (congrFun (pkI rfl) x0).symm.trans k121
            obtain ⟨v122, e123, hf⟩ := pm_bd hf
            rcases v122 with z125 | w124
            · have hf := pt_sl hf
              cases hf
              cases hi
              exact pw_t (by decide) (pw_aI K118 rfl k119 (by decide) (by decide)) (show pw_F _ _ z125.2 from wfX16_number (pw_rf _) e123)
            have K126 := pw_t (by decide) (pw_aI K118 rfl k119 (by decide) (by decide)) (show pw_F _ _ w124.2 from wfX16_number (pw_rf _) e123)
            have hf := pt_sr hf
            obtain ⟨k127, hf⟩ := pm_if hf
            obtain ⟨v128, e129, hf⟩ := pm_bd hf
            obtain ⟨k130, hf⟩ := pm_if hf
            obtain ⟨v131, e132, hf⟩ := pm_bd hf
            obtain ⟨y133, e134, hf⟩ := pm_lt hf
            obtain ⟨k135, hf⟩ := pm_if hf
            obtain ⟨u136, hf⟩ := pm_if hf
            cases hf
            exact ih.2.2.2.2.2.2 x0 x1 x2 w124.1 0 (pm_setI w124.2 v131 x2.toNatClampNeg y133) (pw_aI K126 rfl k135 (by decide) (by decide))  hi
    refine fun x0 x1 x2 x4 x6 h K0 hf => ?_
    obtain ⟨y, hf, hi⟩ := pm_iter_s hf
    have hf : tX16_readsElement_180 x0 x1 x2 x4 x6 h = some y := hf
    unfold tX16_readsElement_180 at hf
    by_cases c137 : x4 ≤ x6
    · have hf := pm_it hf c137
      obtain ⟨k138, hf⟩ := pm_if hf
      obtain ⟨v139, e140, hf⟩ := pm_bd hf
      obtain ⟨k141, hf⟩ := pm_if hf
      obtain ⟨v142, e143, hf⟩ := pm_bd hf
      obtain ⟨k144, hf⟩ := pm_if hf
      obtain ⟨u145, hf⟩ := pm_if hf
      cases hf
      cases hi
      exact (pw_aI K0 rfl k144 (by decide) (by decide))
    · have hf := pm_ie hf c137
      by_cases c146 : (x1 &&& 4) = 0
      · have hf := pm_it hf c146
        obtain ⟨k147, hf⟩ := pm_if hf
        obtain ⟨v148, e149, hf⟩ := pm_bd hf
        rcases v148 with z151 | w150
        · have hf := pt_sl hf
          cases hf
          cases hi
          exact pw_t (by decide) K0 (show pw_F _ _ z151.2 from wfX16_number (pw_rf _) e149)
        have K152 := pw_t (by decide) K0 (show pw_F _ _ w150.2 from wfX16_number (pw_rf _) e149)
        have hf := pt_sr hf
        obtain ⟨y153, e154, hf⟩ := pm_lt hf
        cases hf
        exact ih.2.2.2.2.2.2 x0 x1 x2 x4 y153 w150.2 K152  hi
      · have hf := pm_ie hf c146
        obtain ⟨k155, hf⟩ := pm_if hf
        obtain ⟨v156, e157, hf⟩ := pm_bd hf
        rcases v156 with z159 | w158
        · have hf := pt_sl hf
          cases hf
          cases hi
          exact pw_t (by decide) K0 (show pw_F _ _ z159.2 from wfX16_expression (pw_rf _) e157)
        have K160 := pw_t (by decide) K0 (show pw_F _ _ w158 from wfX16_expression (pw_rf _) e157)
        have hf := pt_sr hf
        obtain ⟨y161, e162, hf⟩ := pm_lt hf
        cases hf
        exact ih.2.2.2.2.2.2 x0 x1 x2 x4 y161 w158 K160  hi
set_option maxHeartbeats 4000000 in
set_option maxRecDepth 100000 in
theorem wfX16_readsElement {h0 h : pm_H} (K0 : pw_F WX16_readsElement h0 h) {a0 : Nat} {p1 : Int32} {p2 : Int32}  {r : ((Nat × pm_H) ⊕ pm_H)} (hf : fX16_readsElement h a0 p1 p2 = some r) : pt_WV WX16_readsElement h0 r := by
  unfold fX16_readsElement at hf
  by_cases c1 : (p1 &&& 1) = 0
  · have hf := pm_it hf c1
    obtain ⟨n, hn⟩ := pm_lim_iter hf
    exact (wlX16_readsElement n).1 a0 p1 p2 1 h K0  hn
  · have hf := pm_ie hf c1
    obtain ⟨n, hn⟩ := pm_lim_iter hf
    exact (wlX16_readsElement n).1 a0 p1 p2 0 h K0  hn
abbrev WX16_readsElements : List Nat := [1795, 1826, 2055, 2056, 2059, 4096, 4352, 4480]
set_option maxHeartbeats 4000000 in
set_option maxRecDepth 100000 in
theorem wlX16_readsElements {h0 : pm_H} {r : ((Nat × pm_H) ⊕ pm_H)} : ∀ n : Nat, (∀ (x0 : Nat) (x1 : Int64) (x3 : Int64) (h : pm_H), pw_F WX16_readsElements h0 h → pm_iter sX16_readsElements n (.inl (x0, x1, x3, h)) = some r → pt_WV WX16_readsElements h0 r) ∧ (∀ (x0 : Nat) (x1 : Int64) (x3 : Int64) (x6 : Int64) (h : pm_H), pw_F WX16_readsElements h0 h → pm_iter sX16_readsElements n (.inr (x0, x1, x3, x6, h)) = some r → pt_WV WX16_readsElements h0 r) := by
  intro n
  induction n with
  | zero => exact ⟨fun _ _ _ _ _ hf => (by cases hf), fun _ _ _ _ _ _ hf => (by cases hf)⟩
  | succ n ih =>
    refine ⟨fun x0 x1 x3 h K0 hf => ?_, ?_⟩
    · obtain ⟨y, hf, hi⟩ := pm_iter_s hf
      have hf : tX16_readsElements_19 x0 x1 x3 h = some y := hf
      unfold tX16_readsElements_19 at hf
      by_cases c14 : x1 ≤ x3
      · have hf := pm_it hf c14
        cases hf
        cases hi
        exact K0
      · have hf := pm_ie hf c14
        obtain ⟨k15, hf⟩ := pm_if hf
        obtain ⟨y16, e17, hf⟩ := pm_lt hf
        obtain ⟨v18, e19, hf⟩ := pm_bd hf
        rcases v18 with z21 | w20
        · have hf := pt_sl hf
          cases hf
          cases hi
          exact pw_t (by decide) K0 (show pw_F _ _ z21.2 from wfX16_number (pw_rf _) e19)
        have K22 := pw_t (by decide) K0 (show pw_F _ _ w20.2 from wfX16_number (pw_rf _) e19)
        have hf := pt_sr hf
        by_cases c23 : w20.1 ≤ 7
        · have hf := pm_it hf c23
          cases hf
          exact ih.2 x0 x1 x3 w20.1 w20.2 K22  hi
        · have hf := pm_ie hf c23
          obtain ⟨k24, hf⟩ := pm_if hf
          obtain ⟨v25, e26, hf⟩ := pm_bd hf
          rcases v25 with z28 | w27
          · have hf := pt_sl hf
            cases hf
            cases hi
            exact pw_t (by decide) K22 (show pw_F _ _ z28.2 from wfX16_stops (pw_rf _) e26)
          have K29 := pw_t (by decide) K22 (show pw_F _ _ w27 from wfX16_stops (pw_rf _) e26)
          have hf := pt_sr hf
          cases hf
          exact ih.2 x0 x1 x3 w20.1 w27 K29  hi
    refine fun x0 x1 x3 x6 h K0 hf => ?_
    obtain ⟨y, hf, hi⟩ := pm_iter_s hf
    have hf : tX16_readsElements_54 x0 x1 x3 x6 h = some y := hf
    unfold tX16_readsElements_54 at hf
    by_cases c30 : 64 ≤ x3
    · have hf := pm_it hf c30
      obtain ⟨k31, hf⟩ := pm_if hf
      obtain ⟨v32, e33, hf⟩ := pm_bd hf
      rcases v32 with z35 | w34
      · have hf := pt_sl hf
        cases hf
        cases hi
        exact pw_t (by decide) K0 (show pw_F _ _ z35.2 from wfX16_readsElement (pw_rf _) e33)
      have K36 := pw_t (by decide) K0 (show pw_F _ _ w34 from wfX16_readsElement (pw_rf _) e33)
      have hf := pt_sr hf
      obtain ⟨y37, e38, hf⟩ := pm_lt hf
      cases hf
      exact ih.1 x0 x1 y37 w34 K36  hi
    · have hf := pm_ie hf c30
      obtain ⟨k39, hf⟩ := pm_if hf
      obtain ⟨v40, e41, hf⟩ := pm_bd hf
      rcases v40 with z43 | w42
      · have hf := pt_sl hf
        cases hf
        cases hi
        exact pw_t (by decide) K0 (show pw_F _ _ z43.2 from wfX16_readsElement (pw_rf _) e41)
      have K44 := pw_t (by decide) K0 (show pw_F _ _ w42 from wfX16_readsElement (pw_rf _) e41)
      have hf := pt_sr hf
      obtain ⟨y45, e46, hf⟩ := pm_lt hf
      cases hf
      exact ih.1 x0 x1 y45 w42 K44  hi
set_option maxHeartbeats 4000000 in
set_option maxRecDepth 100000 in
theorem wfX16_readsElements {h0 h : pm_H} (K0 : pw_F WX16_readsElements h0 h) {a0 : Nat}  {r : ((Nat × pm_H) ⊕ pm_H)} (hf : fX16_readsElements h a0 = some r) : pt_WV WX16_readsElements h0 r := by
  unfold fX16_readsElements at hf
  obtain ⟨k1, hf⟩ := pm_if hf
  obtain ⟨v2, e3, hf⟩ := pm_bd hf
  rcases v2 with z5 | w4
  · have hf := pt_kl hf
    cases hf
    exact pw_t (by decide) K0 (show pw_F _ _ z5.2 from wfX16_number (pw_rf _) e3)
  have K6 := pw_t (by decide) K0 (show pw_F _ _ w4.2 from wfX16_number (pw_rf _) e3)
  have hf := pt_kr hf
  obtain ⟨k7, hf⟩ := pm_if hf
  obtain ⟨v8, e9, hf⟩ := pm_bd hf
  obtain ⟨v10, e11, hf⟩ := pm_bd hf
  have K12 := pw_t (by decide) K6 (wfX16_kept (pw_rf _) e11)
  obtain ⟨k13, hf⟩ := pm_if hf
  obtain ⟨n, hn⟩ := pm_lim_iter hf
  exact (wlX16_readsElements n).1 a0 w4.1 0 (pm_setI v10.2 v8 34 v10.1) (pw_sI K12 rfl k13 (by decide))  hn
abbrev WX16_readsGlobals : List Nat := [1795, 1816, 2055, 2056, 2059, 4096, 4352]
set_option maxHeartbeats 4000000 in
set_option maxRecDepth 100000 in
theorem wlX16_readsGlobals {h0 : pm_H} {r : ((Nat × pm_H) ⊕ pm_H)} : ∀ n : Nat, (∀ (x0 : Nat) (x1 : Int64) (x3 : Int64) (h : pm_H), pw_F WX16_readsGlobals h0 h → pm_iter sX16_readsGlobals n (.inl (x0, x1, x3, h)) = some r → pt_WV WX16_readsGlobals h0 r) ∧ (∀ (x0 : Nat) (x1 : Int64) (x3 : Int64) (x5 : Int32) (s0 : Int32) (h : pm_H), pw_F WX16_readsGlobals h0 h → pm_iter sX16_readsGlobals n (.inr (x0, x1, x3, x5, s0, h)) = some r → pt_WV WX16_readsGlobals h0 r) := by
  intro n
  induction n with
  | zero => exact ⟨fun _ _ _ _ _ hf => (by cases hf), fun _ _ _ _ _ _ _ hf => (by cases hf)⟩
  | succ n ih =>
    refine ⟨fun x0 x1 x3 h K0 hf => ?_, ?_⟩
    · obtain ⟨y, hf, hi⟩ := pm_iter_s hf
      have hf : tX16_readsGlobals_19 x0 x1 x3 h = some y := hf
      unfold tX16_readsGlobals_19 at hf
      by_cases c14 : x1 ≤ x3
      · have hf := pm_it hf c14
        cases hf
        cases hi
        exact K0
      · have hf := pm_ie hf c14
        obtain ⟨k15, hf⟩ := pm_if hf
        obtain ⟨v16, e17, hf⟩ := pm_bd hf
        rcases v16 with z19 | w18
        · have hf := pt_sl hf
          cases hf
          cases hi
          exact pw_t (by decide) K0 (show pw_F _ _ z19.2 from wfX16_type (pw_rf _) e17)
        have K20 := pw_t (by decide) K0 (show pw_F _ _ w18.2 from wfX16_type (pw_rf _) e17)
        have hf := pt_sr hf
        obtain ⟨k21, hf⟩ := pm_if hf
        obtain ⟨v22, e23, hf⟩ := pm_bd hf
        rcases v22 with z25 | w24
        · have hf := pt_sl hf
          cases hf
          cases hi
          exact pw_t (by decide) K20 (show pw_F _ _ z25.2 from wfX16_small (pw_rf _) e23)
        have K26 := pw_t (by decide) K20 (show pw_F _ _ w24.2 from wfX16_small (pw_rf _) e23)
        have hf := pt_sr hf
        by_cases c27 : w24.1 = 1
        · have hf := pm_it hf c27
          cases hf
          exact ih.2 x0 x1 x3 w18.1 1 w24.2 K26  hi
        · have hf := pm_ie hf c27
          cases hf
          exact ih.2 x0 x1 x3 w18.1 0 w24.2 K26  hi
    refine fun x0 x1 x3 x5 s0 h K0 hf => ?_
    obtain ⟨y, hf, hi⟩ := pm_iter_s hf
    have hf : tX16_readsGlobals_45 x0 x1 x3 x5 s0 h = some y := hf
    unfold tX16_readsGlobals_45 at hf
    obtain ⟨k28, hf⟩ := pm_if hf
    obtain ⟨y29, e30, hf⟩ := pm_lt hf
    obtain ⟨v31, e32, hf⟩ := pm_bd hf
    rcases v31 with z34 | w33
    · have hf := pt_sl hf
      cases hf
      cases hi
      exact pw_t (by decide) K0 (show pw_F _ _ z34.2 from wfX16_expression (pw_rf _) e32)
    have K35 := pw_t (by decide) K0 (show pw_F _ _ w33 from wfX16_expression (pw_rf _) e32)
    have hf := pt_sr hf
    by_cases c36 : 64 ≤ x3
    · have hf := pm_it hf c36
      obtain ⟨y37, e38, hf⟩ := pm_lt hf
      cases hf
      exact ih.1 x0 x1 y37 w33 K35  hi
    · have hf := pm_ie hf c36
      obtain ⟨k39, hf⟩ := pm_if hf
      obtain ⟨v40, e41, hf⟩ := pm_bd hf
      obtain ⟨k42, hf⟩ := pm_if hf
      obtain ⟨v43, e44, hf⟩ := pm_bd hf
      obtain ⟨k45, hf⟩ := pm_if hf
      obtain ⟨u46, hf⟩ := pm_if hf
      obtain ⟨v47, e48, hf⟩ := pm_bd hf
      obtain ⟨k49, hf⟩ := pm_if hf
      have k49b := (congrFun (pkI rfl) v47).symm.trans k49
      obtain ⟨u50, hf⟩ := pm_if hf
      obtain ⟨v51, e52, hf⟩ := pm_bd hf
      obtain ⟨k53, hf⟩ := pm_if hf
      have k53b := (congrFun (pkI (pkI rfl)) v51).symm.trans k53
      obtain ⟨u54, hf⟩ := pm_if hf
      obtain ⟨y55, e56, hf⟩ := pm_lt hf
      cases hf
      exact ih.1 x0 x1 y55 (pm_setI (pm_setI (pm_setI w33 v43 x3.toInt32.toNatClampNeg x5) v47 x3.toInt32.toNatClampNeg (vp_nar .boolean s0)) v51 x3.toInt32.toNatClampNeg y29) (pw_aI (pw_aI (pw_aI K35 rfl k45 (by decide) (by decide)) (pkI rfl) k49b (by decide) (by decide)) (pkI (pkI rfl)) k53b (by decide) (by decide))  hi
set_option maxHeartbeats 4000000 in
set_option maxRecDepth 100000 in
theorem wfX16_readsGlobals {h0 h : pm_H} (K0 : pw_F WX16_readsGlobals h0 h) {a0 : Nat}  {r : ((Nat × pm_H) ⊕ pm_H)} (hf : fX16_readsGlobals h a0 = some r) : pt_WV WX16_readsGlobals h0 r := by
  unfold fX16_readsGlobals at hf
  obtain ⟨k1, hf⟩ := pm_if hf
  obtain ⟨v2, e3, hf⟩ := pm_bd hf
  rcases v2 with z5 | w4
  · have hf := pt_kl hf
    cases hf
    exact pw_t (by decide) K0 (show pw_F _ _ z5.2 from wfX16_number (pw_rf _) e3)
  have K6 := pw_t (by decide) K0 (show pw_F _ _ w4.2 from wfX16_number (pw_rf _) e3)
  have hf := pt_kr hf
  obtain ⟨k7, hf⟩ := pm_if hf
  obtain ⟨v8, e9, hf⟩ := pm_bd hf
  obtain ⟨v10, e11, hf⟩ := pm_bd hf
  have K12 := pw_t (by decide) K6 (wfX16_kept (pw_rf _) e11)
  obtain ⟨k13, hf⟩ := pm_if hf
  obtain ⟨n, hn⟩ := pm_lim_iter hf
  exact (wlX16_readsGlobals n).1 a0 w4.1 0 (pm_setI v10.2 v8 24 v10.1) (pw_sI K12 rfl k13 (by decide))  hn
abbrev WX16_checksBody : List Nat := [2055, 2056, 2067, 2071, 2072, 2077, 2078, 2079, 4096, 4352, 4480]
set_option maxHeartbeats 4000000 in
set_option maxRecDepth 100000 in
theorem wlX16_checksBody {h0 : pm_H} {r : ((Nat × pm_H) ⊕ pm_H)} : ∀ n : Nat, (∀ (x0 : Nat) (x1 : Int32) (x2 : Int32) (x3 : Int32) (h : pm_H), pw_F WX16_checksBody h0 h → pm_iter sX16_checksBody n (x0, x1, x2, x3, h) = some r → pt_WV WX16_checksBody h0 r) := by
  intro n
  induction n with
  | zero => exact fun _ _ _ _ _ _ hf => (by cases hf)
  | succ n ih =>
    refine fun x0 x1 x2 x3 h K0 hf => ?_
    obtain ⟨y, hf, hi⟩ := pm_iter_s hf
    have hf : tX16_checksBody_58 x0 x1 x2 x3 h = some y := hf
    unfold tX16_checksBody_58 at hf
    obtain ⟨k24, hf⟩ := pm_if hf
    by_cases c25 : (pm_I h x0 24) ≤ 0
    · have hf := pm_it hf c25
      obtain ⟨v26, e27, hf⟩ := pm_bd hf
      obtain ⟨k28, hf⟩ := pm_if hf
      obtain ⟨v29, e30, hf⟩ := pm_bd hf
      obtain ⟨k31, hf⟩ := pm_if hf
      obtain ⟨u32, hf⟩ := pm_if hf
      cases hf
      cases hi
      exact (pw_aI K0 rfl k31 (by decide) (by decide))
    · have hf := pm_ie hf c25
      obtain ⟨v33, e34, hf⟩ := pm_bd hf
      obtain ⟨k35, hf⟩ := pm_if hf
      have k35b := (congrFun (pkI rfl) v33).symm.trans k35
      obtain ⟨v36, e37, hf⟩ := pm_bd hf
      obtain ⟨v38, e39, hf⟩ := pm_bd hf
      have K40 := pw_t (by decide) (pw_sI K0 rfl k24 (by decide)) (wfX16_isNamed (pw_rf _) e39)
      by_cases c41 : v38.1 = 0
      · have hf := pm_it hf c41
        obtain ⟨k42, hf⟩ := pm_if hf
        obtain ⟨v43, e44, hf⟩ := pm_bd hf
        rcases v43 with z46 | w45
        · have hf := pt_sl hf
          cases hf
          cases hi
          exact pw_t (by decide) K40 (show pw_F _ _ z46.2 from wfX16_stops (pw_rf _) e44)
        have K47 := pw_t (by decide) K40 (show pw_F _ _ w45 from wfX16_stops (pw_rf _) e44)
        have hf := pt_sr hf
        obtain ⟨y48, e49, hf⟩ := pm_lt hf
        obtain ⟨k50, hf⟩ := pm_if hf
        obtain ⟨v51, e52, hf⟩ := pm_bd hf
        rcases v51 with z54 | w53
        · have hf := pt_sl hf
          cases hf
          cases hi
          exact pw_t (by decide) (pw_sI K47 rfl k50 (by decide)) (show pw_F _ _ z54.2 from wfX16_goesTogether (pw_rf _) e52)
        have K55 := pw_t (by decide) (pw_sI K47 rfl k50 (by decide)) (show pw_F _ _ w53 from wfX16_goesTogether (pw_rf _) e52)
        have hf := pt_sr hf
        obtain ⟨k56, hf⟩ := pm_if hf
        obtain ⟨v57, e58, hf⟩ := pm_bd hf
        have K59 := pw_t (by decide) K55 (wfX16_behind (pw_rf _) e58)
        obtain ⟨k60, hf⟩ := pm_if hf
        by_cases c61 : (pm_I v57.2 x0 24) ≤ 0
        · have hf := pm_it hf c61
          cases hf
          exact ih x0 x1 x2 v57.1 v57.2 K59  hi
        · have hf := pm_ie hf c61
          by_cases c62 : (pm_I v57.2 x0 23) ≤ x2
          · have hf := pm_it hf c62
            cases hf
            exact ih x0 x1 x2 v57.1 v57.2 K59  hi
          · have hf := pm_ie hf c62
            obtain ⟨y63, e64, hf⟩ := pm_lt hf
            cases hf
            exact ih x0 x1 y63 v57.1 v57.2 K59  hi
      · have hf := pm_ie hf c41
        obtain ⟨y65, e66, hf⟩ := pm_lt hf
        obtain ⟨k67, hf⟩ := pm_if hf
        obtain ⟨v68, e69, hf⟩ := pm_bd hf
        rcases v68 with z71 | w70
        · have hf := pt_sl hf
          cases hf
          cases hi
          exact pw_t (by decide) (pw_sI K40 rfl k67 (by decide)) (show pw_F _ _ z71.2 from wfX16_goesTogether (pw_rf _) e69)
        have K72 := pw_t (by decide) (pw_sI K40 rfl k67 (by decide)) (show pw_F _ _ w70 from wfX16_goesTogether (pw_rf _) e69)
        have hf := pt_sr hf
        obtain ⟨k73, hf⟩ := pm_if hf
        obtain ⟨v74, e75, hf⟩ := pm_bd hf
        have K76 := pw_t (by decide) K72 (wfX16_behind (pw_rf _) e75)
        obtain ⟨k77, hf⟩ := pm_if hf
        by_cases c78 : (pm_I v74.2 x0 24) ≤ 0
        · have hf := pm_it hf c78
          cases hf
          exact ih x0 x1 x2 v74.1 v74.2 K76  hi
        · have hf := pm_ie hf c78
          by_cases c79 : (pm_I v74.2 x0 23) ≤ x2
          · have hf := pm_it hf c79
            cases hf
            exact ih x0 x1 x2 v74.1 v74.2 K76  hi
          · have hf := pm_ie hf c79
            obtain ⟨y80, e81, hf⟩ := pm_lt hf
            cases hf
            exact ih x0 x1 y80 v74.1 v74.2 K76  hi
set_option maxHeartbeats 4000000 in
set_option maxRecDepth 100000 in
theorem wfX16_checksBody {h0 h : pm_H} (K0 : pw_F WX16_checksBody h0 h) {a0 : Nat} {p1 : Int32}  {r : ((Nat × pm_H) ⊕ pm_H)} (hf : fX16_checksBody h a0 p1 = some r) : pt_WV WX16_checksBody h0 r := by
  unfold fX16_checksBody at hf
  obtain ⟨k1, hf⟩ := pm_if hf
  obtain ⟨v2, e3, hf⟩ := pm_bd hf
  obtain ⟨k4, hf⟩ := pm_if hf
  have k4b := (congrFun (pkI rfl) v2).symm.trans k4
  obtain ⟨v5, e6, hf⟩ := pm_bd hf
  obtain ⟨v7, e8, hf⟩ := pm_bd hf
  obtain ⟨v9, e10, hf⟩ := pm_bd hf
  rcases v9 with z12 | w11
  · have hf := pt_kl hf
    cases hf
    exact pw_t (by decide) (pw_sI (pw_sI (pw_sI (pw_sI K0 rfl k1 (by decide)) (pkI rfl) k1 (by decide)) (pkI (pkI rfl)) k1 (by decide)) (pkI (pkI (pkI rfl))) k1 (by decide)) (show pw_F _ _ z12.2 from wfX16_begins (pw_rf _) e10)
  have K13 := pw_t (by decide) (pw_sI (pw_sI (pw_sI (pw_sI K0 rfl k1 (by decide)) (pkI rfl) k1 (by decide)) (pkI (pkI rfl)) k1 (by decide)) (pkI (pkI (pkI rfl))) k1 (by decide)) (show pw_F _ _ w11 from wfX16_begins (pw_rf _) e10)
  have hf := pt_kr hf
  obtain ⟨k14, hf⟩ := pm_if hf
  obtain ⟨v15, e16, hf⟩ := pm_bd hf
  obtain ⟨k17, hf⟩ := pm_if hf
  obtain ⟨v18, e19, hf⟩ := pm_bd hf
  obtain ⟨k20, hf⟩ := pm_if hf
  obtain ⟨u21, hf⟩ := pm_if hf
  obtain ⟨y22, e23, hf⟩ := pm_lt hf
  obtain ⟨n, hn⟩ := pm_lim_iter hf
  exact (wlX16_checksBody n) a0 p1 0 y22 w11 K13  hn
abbrev WX16_readsBodies : List Nat := [1795, 1842, 2055, 2056, 2059, 2060, 4352, 4480]
set_option maxHeartbeats 4000000 in
set_option maxRecDepth 100000 in
theorem wlX16_readsBodies {h0 : pm_H} {r : ((Nat × pm_H) ⊕ pm_H)} : ∀ n : Nat, (∀ (x0 : Nat) (x1 : Int64) (x3 : Int64) (h : pm_H), pw_F WX16_readsBodies h0 h → pm_iter sX16_readsBodies n (.inl (x0, x1, x3, h)) = some r → pt_WV WX16_readsBodies h0 r) ∧ (∀ (x0 : Nat) (x1 : Int64) (x3 : Int64) (x6 : Int64) (h : pm_H), pw_F WX16_readsBodies h0 h → pm_iter sX16_readsBodies n (.inr (x0, x1, x3, x6, h)) = some r → pt_WV WX16_readsBodies h0 r) := by
  intro n
  induction n with
  | zero => exact ⟨fun _ _ _ _ _ hf => (by cases hf), fun _ _ _ _ _ _ hf => (by cases hf)⟩
  | succ n ih =>
    refine ⟨fun x0 x1 x3 h K0 hf => ?_, ?_⟩
    · obtain ⟨y, hf, hi⟩ := pm_iter_s hf
      have hf : tX16_readsBodies_15 x0 x1 x3 h = some y := hf
      unfold tX16_readsBodies_15 at hf
      by_cases c11 : x1 ≤ x3
      · have hf := pm_it hf c11
        cases hf
        cases hi
        exact K0
      · have hf := pm_ie hf c11
        obtain ⟨k12, hf⟩ := pm_if hf
        obtain ⟨y13, e14, hf⟩ := pm_lt hf
        obtain ⟨v15, e16, hf⟩ := pm_bd hf
        rcases v15 with z18 | w17
        · have hf := pt_sl hf
          cases hf
          cases hi
          exact pw_t (by decide) K0 (show pw_F _ _ z18.2 from wfX16_number (pw_rf _) e16)
        have K19 := pw_t (by decide) K0 (show pw_F _ _ w17.2 from wfX16_number (pw_rf _) e16)
        have hf := pt_sr hf
        obtain ⟨k20, hf⟩ := pm_if hf
        by_cases c21 : w17.1 ≤ (((pm_I w17.2 x0 12) - (pm_I w17.2 x0 11)).toInt64)
        · have hf := pm_it hf c21
          cases hf
          exact ih.2 x0 x1 x3 w17.1 w17.2 K19  hi
        · have hf := pm_ie hf c21
          obtain ⟨v22, e23, hf⟩ := pm_bd hf
          rcases v22 with z25 | w24
          · have hf := pt_sl hf
            cases hf
            cases hi
            exact pw_t (by decide) K19 (show pw_F _ _ z25.2 from wfX16_stops (pw_rf _) e23)
          have K26 := pw_t (by decide) K19 (show pw_F _ _ w24 from wfX16_stops (pw_rf _) e23)
          have hf := pt_sr hf
          cases hf
          exact ih.2 x0 x1 x3 w17.1 w24 K26  hi
    refine fun x0 x1 x3 x6 h K0 hf => ?_
    obtain ⟨y, hf, hi⟩ := pm_iter_s hf
    have hf : tX16_readsBodies_56 x0 x1 x3 x6 h = some y := hf
    unfold tX16_readsBodies_56 at hf
    obtain ⟨k27, hf⟩ := pm_if hf
    obtain ⟨y28, e29, hf⟩ := pm_lt hf
    obtain ⟨y30, e31, hf⟩ := pm_lt hf
    by_cases c32 : 64 ≤ x3
    · have hf := pm_it hf c32
      obtain ⟨v33, e34, hf⟩ := pm_bd hf
      rcases v33 with z36 | w35
      · have hf := pt_sl hf
        cases hf
        cases hi
        exact pw_t (by decide) (pw_sI K0 rfl k27 (by decide)) (show pw_F _ _ z36.2 from wfX16_readsBody (pw_rf _) e34)
      have K37 := pw_t (by decide) (pw_sI K0 rfl k27 (by decide)) (show pw_F _ _ w35 from wfX16_readsBody (pw_rf _) e34)
      have hf := pt_sr hf
      obtain ⟨k38, hf⟩ := pm_if hf
      by_cases c39 : (pm_I w35 x0 12) ≤ (pm_I w35 x0 11)
      · have hf := pm_it hf c39
        obtain ⟨y40, e41, hf⟩ := pm_lt hf
        cases hf
        exact ih.1 x0 x1 y40 (pm_setI w35 x0 12 y28) (pw_sI K37 rfl k38 (by decide))  hi
      · have hf := pm_ie hf c39
        obtain ⟨v42, e43, hf⟩ := pm_bd hf
        rcases v42 with z45 | w44
        · have hf := pt_sl hf
          cases hf
          cases hi
          exact pw_t (by decide) K37 (show pw_F _ _ z45.2 from wfX16_stops (pw_rf _) e43)
        have K46 := pw_t (by decide) K37 (show pw_F _ _ w44 from wfX16_stops (pw_rf _) e43)
        have hf := pt_sr hf
        obtain ⟨k47, hf⟩ := pm_if hf
        obtain ⟨y48, e49, hf⟩ := pm_lt hf
        cases hf
        exact ih.1 x0 x1 y48 (pm_setI w44 x0 12 y28) (pw_sI K46 rfl k47 (by decide))  hi
    · have hf := pm_ie hf c32
      obtain ⟨v50, e51, hf⟩ := pm_bd hf
      rcases v50 with z53 | w52
      · have hf := pt_sl hf
        cases hf
        cases hi
        exact pw_t (by decide) (pw_sI K0 rfl k27 (by decide)) (show pw_F _ _ z53.2 from wfX16_readsBody (pw_rf _) e51)
      have K54 := pw_t (by decide) (pw_sI K0 rfl k27 (by decide)) (show pw_F _ _ w52 from wfX16_readsBody (pw_rf _) e51)
      have hf := pt_sr hf
      obtain ⟨k55, hf⟩ := pm_if hf
      by_cases c56 : (pm_I w52 x0 12) ≤ (pm_I w52 x0 11)
      · have hf := pm_it hf c56
        obtain ⟨y57, e58, hf⟩ := pm_lt hf
        cases hf
        exact ih.1 x0 x1 y57 (pm_setI w52 x0 12 y28) (pw_sI K54 rfl k55 (by decide))  hi
      · have hf := pm_ie hf c56
        obtain ⟨v59, e60, hf⟩ := pm_bd hf
        rcases v59 with z62 | w61
        · have hf := pt_sl hf
          cases hf
          cases hi
          exact pw_t (by decide) K54 (show pw_F _ _ z62.2 from wfX16_stops (pw_rf _) e60)
        have K63 := pw_t (by decide) K54 (show pw_F _ _ w61 from wfX16_stops (pw_rf _) e60)
        have hf := pt_sr hf
        obtain ⟨k64, hf⟩ := pm_if hf
        obtain ⟨y65, e66, hf⟩ := pm_lt hf
        cases hf
        exact ih.1 x0 x1 y65 (pm_setI w61 x0 12 y28) (pw_sI K63 rfl k64 (by decide))  hi
set_option maxHeartbeats 4000000 in
set_option maxRecDepth 100000 in
theorem wfX16_readsBodies {h0 h : pm_H} (K0 : pw_F WX16_readsBodies h0 h) {a0 : Nat}  {r : ((Nat × pm_H) ⊕ pm_H)} (hf : fX16_readsBodies h a0 = some r) : pt_WV WX16_readsBodies h0 r := by
  unfold fX16_readsBodies at hf
  obtain ⟨k1, hf⟩ := pm_if hf
  obtain ⟨v2, e3, hf⟩ := pm_bd hf
  rcases v2 with z5 | w4
  · have hf := pt_kl hf
    cases hf
    exact pw_t (by decide) K0 (show pw_F _ _ z5.2 from wfX16_number (pw_rf _) e3)
  have K6 := pw_t (by decide) K0 (show pw_F _ _ w4.2 from wfX16_number (pw_rf _) e3)
  have hf := pt_kr hf
  obtain ⟨k7, hf⟩ := pm_if hf
  obtain ⟨v8, e9, hf⟩ := pm_bd hf
  obtain ⟨k10, hf⟩ := pm_if hf
  obtain ⟨n, hn⟩ := pm_lim_iter hf
  exact (wlX16_readsBodies n).1 a0 w4.1 0 (pm_setL w4.2 v8 50 w4.1) (pw_sL K6 rfl k10 (by decide))  hn
abbrev WX16_readsSection : List Nat := [1795, 1796, 1800, 1806, 1807, 1809, 1813, 1816, 1820, 1825, 1826, 1834, 1835, 1836, 1842, 2055, 2056, 2059, 2060, 2064, 2065, 2066, 4096, 4352, 4480]
set_option maxHeartbeats 4000000 in
set_option maxRecDepth 100000 in
theorem wfX16_readsSection {h0 h : pm_H} (K0 : pw_F WX16_readsSection h0 h) {a0 : Nat} {p1 : Int32}  {r : ((Nat × pm_H) ⊕ pm_H)} (hf : fX16_readsSection h a0 p1 = some r) : pt_WV WX16_readsSection h0 r := by
  unfold fX16_readsSection at hf
  by_cases c1 : p1 = 0
  · have hf := pm_it hf c1
    obtain ⟨k2, hf⟩ := pm_if hf
    obtain ⟨v3, e4, hf⟩ := pm_bd hf
    rcases v3 with z6 | w5
    · have hf := pt_kl hf
      cases hf
      exact pw_t (by decide) K0 (show pw_F _ _ z6.2 from wfX16_name (pw_rf _) e4)
    have K7 := pw_t (by decide) K0 (show pw_F _ _ w5 from wfX16_name (pw_rf _) e4)
    have hf := pt_kr hf
    obtain ⟨k8, hf⟩ := pm_if hf
    obtain ⟨y9, e10, hf⟩ := pm_lt hf
    cases hf
    exact (pw_sI K7 rfl k8 (by decide))
  have hf := pm_ie hf c1
  by_cases c11 : p1 = 1
  · have hf := pm_it hf c11
    obtain ⟨k12, hf⟩ := pm_if hf
    obtain ⟨v13, e14, hf⟩ := pm_bd hf
    rcases v13 with z16 | w15
    · have hf := pt_kl hf
      cases hf
      exact pw_t (by decide) K0 (show pw_F _ _ z16.2 from wfX16_readsTypes (pw_rf _) e14)
    have K17 := pw_t (by decide) K0 (show pw_F _ _ w15 from wfX16_readsTypes (pw_rf _) e14)
    have hf := pt_kr hf
    cases hf
    exact K17
  have hf := pm_ie hf c11
  by_cases c18 : p1 = 2
  · have hf := pm_it hf c18
    obtain ⟨k19, hf⟩ := pm_if hf
    obtain ⟨v20, e21, hf⟩ := pm_bd hf
    rcases v20 with z23 | w22
    · have hf := pt_kl hf
      cases hf
      exact pw_t (by decide) K0 (show pw_F _ _ z23.2 from wfX16_readsImports (pw_rf _) e21)
    have K24 := pw_t (by decide) K0 (show pw_F _ _ w22 from wfX16_readsImports (pw_rf _) e21)
    have hf := pt_kr hf
    cases hf
    exact K24
  have hf := pm_ie hf c18
  by_cases c25 : p1 = 3
  · have hf := pm_it hf c25
    obtain ⟨k26, hf⟩ := pm_if hf
    obtain ⟨v27, e28, hf⟩ := pm_bd hf
    rcases v27 with z30 | w29
    · have hf := pt_kl hf
      cases hf
      exact pw_t (by decide) K0 (show pw_F _ _ z30.2 from wfX16_readsFunctions (pw_rf _) e28)
    have K31 := pw_t (by decide) K0 (show pw_F _ _ w29 from wfX16_readsFunctions (pw_rf _) e28)
    have hf := pt_kr hf
    cases hf
    exact K31
  have hf := pm_ie hf c25
  by_cases c32 : p1 = 4
  · have hf := pm_it hf c32
    obtain ⟨k33, hf⟩ := pm_if hf
    obtain ⟨v34, e35, hf⟩ := pm_bd hf
    rcases v34 with z37 | w36
    · have hf := pt_kl hf
      cases hf
      exact pw_t (by decide) K0 (show pw_F _ _ z37.2 from wfX16_readsTables (pw_rf _) e35)
    have K38 := pw_t (by decide) K0 (show pw_F _ _ w36 from wfX16_readsTables (pw_rf _) e35)
    have hf := pt_kr hf
    cases hf
    exact K38
  have hf := pm_ie hf c32
  by_cases c39 : p1 = 5
  · have hf := pm_it hf c39
    obtain ⟨k40, hf⟩ := pm_if hf
    obtain ⟨v41, e42, hf⟩ := pm_bd hf
    rcases v41 with z44 | w43
    · have hf := pt_kl hf
      cases hf
      exact pw_t (by decide) K0 (show pw_F _ _ z44.2 from wfX16_readsMemories (pw_rf _) e42)
    have K45 := pw_t (by decide) K0 (show pw_F _ _ w43 from wfX16_readsMemories (pw_rf _) e42)
    have hf := pt_kr hf
    cases hf
    exact K45
  have hf := pm_ie hf c39
  by_cases c46 : p1 = 6
  · have hf := pm_it hf c46
    obtain ⟨k47, hf⟩ := pm_if hf
    obtain ⟨v48, e49, hf⟩ := pm_bd hf
    rcases v48 with z51 | w50
    · have hf := pt_kl hf
      cases hf
      exact pw_t (by decide) K0 (show pw_F _ _ z51.2 from wfX16_readsGlobals (pw_rf _) e49)
    have K52 := pw_t (by decide) K0 (show pw_F _ _ w50 from wfX16_readsGlobals (pw_rf _) e49)
    have hf := pt_kr hf
    cases hf
    exact K52
  have hf := pm_ie hf c46
  by_cases c53 : p1 = 7
  · have hf := pm_it hf c53
    obtain ⟨k54, hf⟩ := pm_if hf
    obtain ⟨v55, e56, hf⟩ := pm_bd hf
    rcases v55 with z58 | w57
    · have hf := pt_kl hf
      cases hf
      exact pw_t (by decide) K0 (show pw_F _ _ z58.2 from wfX16_readsExports (pw_rf _) e56)
    have K59 := pw_t (by decide) K0 (show pw_F _ _ w57 from wfX16_readsExports (pw_rf _) e56)
    have hf := pt_kr hf
    cases hf
    exact K59
  have hf := pm_ie hf c53
  by_cases c60 : p1 = 8
  · have hf := pm_it hf c60
    obtain ⟨k61, hf⟩ := pm_if hf
    obtain ⟨v62, e63, hf⟩ := pm_bd hf
    obtain ⟨v64, e65, hf⟩ := pm_bd hf
    rcases v64 with z67 | w66
    · have hf := pt_kl hf
      cases hf
      exact pw_t (by decide) K0 (show pw_F _ _ z67.2 from wfX16_number (pw_rf _) e65)
    have K68 := pw_t (by decide) K0 (show pw_F _ _ w66.2 from wfX16_number (pw_rf _) e65)
    have hf := pt_kr hf
    obtain ⟨k69, hf⟩ := pm_if hf
    cases hf
    exact (pw_sL K68 rfl k69 (by decide))
  have hf := pm_ie hf c60
  by_cases c70 : p1 = 9
  · have hf := pm_it hf c70
    obtain ⟨k71, hf⟩ := pm_if hf
    obtain ⟨v72, e73, hf⟩ := pm_bd hf
    rcases v72 with z75 | w74
    · have hf := pt_kl hf
      cases hf
      exact pw_t (by decide) K0 (show pw_F _ _ z75.2 from wfX16_readsElements (pw_rf _) e73)
    have K76 := pw_t (by decide) K0 (show pw_F _ _ w74 from wfX16_readsElements (pw_rf _) e73)
    have hf := pt_kr hf
    cases hf
    exact K76
  have hf := pm_ie hf c70
  by_cases c77 : p1 = 10
  · have hf := pm_it hf c77
    obtain ⟨k78, hf⟩ := pm_if hf
    obtain ⟨v79, e80, hf⟩ := pm_bd hf
    rcases v79 with z82 | w81
    · have hf := pt_kl hf
      cases hf
      exact pw_t (by decide) K0 (show pw_F _ _ z82.2 from wfX16_readsBodies (pw_rf _) e80)
    have K83 := pw_t (by decide) K0 (show pw_F _ _ w81 from wfX16_readsBodies (pw_rf _) e80)
    have hf := pt_kr hf
    cases hf
    exact K83
  have hf := pm_ie hf c77
  by_cases c84 : p1 = 11
  · have hf := pm_it hf c84
    obtain ⟨k85, hf⟩ := pm_if hf
    obtain ⟨v86, e87, hf⟩ := pm_bd hf
    rcases v86 with z89 | w88
    · have hf := pt_kl hf
      cases hf
      exact pw_t (by decide) K0 (show pw_F _ _ z89.2 from wfX16_readsDatas (pw_rf _) e87)
    have K90 := pw_t (by decide) K0 (show pw_F _ _ w88 from wfX16_readsDatas (pw_rf _) e87)
    have hf := pt_kr hf
    cases hf
    exact K90
  have hf := pm_ie hf c84
  obtain ⟨k91, hf⟩ := pm_if hf
  obtain ⟨v92, e93, hf⟩ := pm_bd hf
  obtain ⟨v94, e95, hf⟩ := pm_bd hf
  rcases v94 with z97 | w96
  · have hf := pt_kl hf
    cases hf
    exact pw_t (by decide) K0 (show pw_F _ _ z97.2 from wfX16_number (pw_rf _) e95)
  have K98 := pw_t (by decide) K0 (show pw_F _ _ w96.2 from wfX16_number (pw_rf _) e95)
  have hf := pt_kr hf
  obtain ⟨k99, hf⟩ := pm_if hf
  cases hf
  exact (pw_sL K98 rfl k99 (by decide))
