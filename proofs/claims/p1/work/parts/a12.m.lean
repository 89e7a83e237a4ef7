theorem dX1_control_0 : decode cX1_control 0 = .ok (.iload_n 1, 1) := by decide +kernel
theorem dX1_control_1 : decode cX1_control 1 = .ok (.tableswitch 173 0 16 #[83, 96, 105, 105, 105, 112, 173, 173, 173, 173, 173, 119, 126, 126, 140, 147, 166], 83) := by decide +kernel
theorem dX1_control_84 : decode cX1_control 84 = .ok (.aload_n 0, 1) := by decide +kernel
theorem dX1_control_85 : decode cX1_control 85 = .ok (.iconst 0, 1) := by decide +kernel
theorem dX1_control_86 : decode cX1_control 86 = .ok (.iconst 0, 1) := by decide +kernel
theorem dX1_control_87 : decode cX1_control 87 = .ok (.invokevirtual 353, 3) := by decide +kernel
theorem dX1_control_90 : decode cX1_control 90 = .ok (.aload_n 0, 1) := by decide +kernel
theorem dX1_control_91 : decode cX1_control 91 = .ok (.invokevirtual 357, 3) := by decide +kernel
theorem dX1_control_94 : decode cX1_control 94 = .ok (.goto 84, 3) := by decide +kernel
theorem dX1_control_97 : decode cX1_control 97 = .ok (.aload_n 0, 1) := by decide +kernel
theorem dX1_control_98 : decode cX1_control 98 = .ok (.iconst 0, 1) := by decide +kernel
theorem dX1_control_99 : decode cX1_control 99 = .ok (.iconst 0, 1) := by decide +kernel
theorem dX1_control_100 : decode cX1_control 100 = .ok (.invokevirtual 353, 3) := by decide +kernel
theorem dX1_control_103 : decode cX1_control 103 = .ok (.goto 75, 3) := by decide +kernel
theorem dX1_control_106 : decode cX1_control 106 = .ok (.aload_n 0, 1) := by decide +kernel
theorem dX1_control_107 : decode cX1_control 107 = .ok (.invokevirtual 360, 3) := by decide +kernel
theorem dX1_control_110 : decode cX1_control 110 = .ok (.goto 68, 3) := by decide +kernel
theorem dX1_control_113 : decode cX1_control 113 = .ok (.aload_n 0, 1) := by decide +kernel
theorem dX1_control_114 : decode cX1_control 114 = .ok (.invokevirtual 363, 3) := by decide +kernel
theorem dX1_control_117 : decode cX1_control 117 = .ok (.goto 61, 3) := by decide +kernel
theorem dX1_control_120 : decode cX1_control 120 = .ok (.aload_n 0, 1) := by decide +kernel
theorem dX1_control_121 : decode cX1_control 121 = .ok (.invokevirtual 366, 3) := by decide +kernel
theorem dX1_control_124 : decode cX1_control 124 = .ok (.goto 54, 3) := by decide +kernel
theorem dX1_control_127 : decode cX1_control 127 = .ok (.aload_n 0, 1) := by decide +kernel
theorem dX1_control_128 : decode cX1_control 128 = .ok (.aload_n 0, 1) := by decide +kernel
theorem dX1_control_129 : decode cX1_control 129 = .ok (.getfield 36, 3) := by decide +kernel
theorem dX1_control_132 : decode cX1_control 132 = .ok (.getfield 201, 3) := by decide +kernel
theorem dX1_control_135 : decode cX1_control 135 = .ok (.invokevirtual 369, 3) := by decide +kernel
theorem dX1_control_138 : decode cX1_control 138 = .ok (.goto 40, 3) := by decide +kernel
theorem dX1_control_141 : decode cX1_control 141 = .ok (.aload_n 0, 1) := by decide +kernel
theorem dX1_control_142 : decode cX1_control 142 = .ok (.invokevirtual 372, 3) := by decide +kernel
theorem dX1_control_145 : decode cX1_control 145 = .ok (.goto 33, 3) := by decide +kernel
theorem dX1_control_148 : decode cX1_control 148 = .ok (.aload_n 0, 1) := by decide +kernel
theorem dX1_control_149 : decode cX1_control 149 = .ok (.iconst 0, 1) := by decide +kernel
theorem dX1_control_150 : decode cX1_control 150 = .ok (.invokevirtual 375, 3) := by decide +kernel
theorem dX1_control_153 : decode cX1_control 153 = .ok (.aload_n 0, 1) := by decide +kernel
theorem dX1_control_154 : decode cX1_control 154 = .ok (.bipush 12, 2) := by decide +kernel
theorem dX1_control_156 : decode cX1_control 156 = .ok (.iconst 0, 1) := by decide +kernel
theorem dX1_control_157 : decode cX1_control 157 = .ok (.invokevirtual 378, 3) := by decide +kernel
theorem dX1_control_160 : decode cX1_control 160 = .ok (.aload_n 0, 1) := by decide +kernel
theorem dX1_control_161 : decode cX1_control 161 = .ok (.invokevirtual 357, 3) := by decide +kernel
theorem dX1_control_164 : decode cX1_control 164 = .ok (.goto 14, 3) := by decide +kernel
theorem dX1_control_167 : decode cX1_control 167 = .ok (.aload_n 0, 1) := by decide +kernel
theorem dX1_control_168 : decode cX1_control 168 = .ok (.invokevirtual 381, 3) := by decide +kernel
theorem dX1_control_171 : decode cX1_control 171 = .ok (.goto 7, 3) := by decide +kernel
theorem dX1_control_174 : decode cX1_control 174 = .ok (.aload_n 0, 1) := by decide +kernel
theorem dX1_control_175 : decode cX1_control 175 = .ok (.invokevirtual 384, 3) := by decide +kernel
theorem dX1_control_178 : decode cX1_control 178 = .ok (.return_, 1) := by decide +kernel
noncomputable def fX1_control_b178 (h : pm_H)  : Option pm_H := some h
noncomputable def fX1_control_b171 (h : pm_H)  : Option pm_H := fX1_control_b178 h
noncomputable def fX1_control_b160 (h : pm_H) (x0 : Nat) : Option pm_H := if pm_kd h x0 = 1 then (fX1_die h x0).bind fun v88 => fX1_control_b178 v88 else none
noncomputable def fX1_control_b153 (h : pm_H) (x0 : Nat) : Option pm_H := if pm_kd h x0 = 1 then (fX1_emitBranch h x0 12 0).bind fun v85 => fX1_control_b160 v85 x0 else none
noncomputable def fX1_control_b145 (h : pm_H)  : Option pm_H := fX1_control_b178 h
noncomputable def fX1_control_b138 (h : pm_H)  : Option pm_H := fX1_control_b178 h
noncomputable def fX1_control_b124 (h : pm_H)  : Option pm_H := fX1_control_b178 h
noncomputable def fX1_control_b117 (h : pm_H)  : Option pm_H := fX1_control_b178 h
noncomputable def fX1_control_b110 (h : pm_H)  : Option pm_H := fX1_control_b178 h
noncomputable def fX1_control_b0 (h : pm_H) (x0 : Nat) (x1 : Int32) : Option pm_H := if x1 = 0 then (if pm_kd h x0 = 1 then (fX1_emitPlain h x0 0 0).bind fun v3 => if pm_kd v3 x0 = 1 then (fX1_die v3 x0).bind fun v7 => fX1_control_b178 v7 else none else none) else (if x1 = 1 then (if pm_kd h x0 = 1 then (fX1_emitPlain h x0 0 0).bind fun v12 => fX1_control_b178 v12 else none) else (if x1 = 2 then (if pm_kd h x0 = 1 then (fX1_beginBlock h x0).bind fun v17 => fX1_control_b110 v17 else none) else (if x1 = 3 then (if pm_kd h x0 = 1 then (fX1_beginBlock h x0).bind fun v21 => fX1_control_b110 v21 else none) else (if x1 = 4 then (if pm_kd h x0 = 1 then (fX1_beginBlock h x0).bind fun v25 => fX1_control_b110 v25 else none) else (if x1 = 5 then (if pm_kd h x0 = 1 then (fX1_otherwise h x0).bind fun v29 => fX1_control_b117 v29 else none) else (if x1 = 6 then (if pm_kd h x0 = 1 then (fX1_callByTable h x0).bind fun v33 => fX1_control_b178 v33 else none) else (if x1 = 7 then (if pm_kd h x0 = 1 then (fX1_callByTable h x0).bind fun v37 => fX1_control_b178 v37 else none) else (if x1 = 8 then (if pm_kd h x0 = 1 then (fX1_callByTable h x0).bind fun v41 => fX1_control_b178 v41 else none) else (if x1 = 9 then (if pm_kd h x0 = 1 then (fX1_callByTable h x0).bind fun v45 => fX1_control_b178 v45 else none) else (if x1 = 10 then (if pm_kd h x0 = 1 then (fX1_callByTable h x0).bind fun v49 => fX1_control_b178 v49 else none) else (if x1 = 11 then (if pm_kd h x0 = 1 then (fX1_endBlock h x0).bind fun v53 => fX1_control_b124 v53 else none) else (if x1 = 12 then (if pm_kd h x0 = 1 then (pm_R h x0 3).bind fun v57 => if pm_kd h v57 = 9 then (fX1_branch h x0 (pm_L h v57 8)).bind fun v60 => fX1_control_b138 v60 else none else none) else (if x1 = 13 then (if pm_kd h x0 = 1 then (pm_R h x0 3).bind fun v64 => if pm_kd h v64 = 9 then (fX1_branch h x0 (pm_L h v64 8)).bind fun v67 => fX1_control_b138 v67 else none else none) else (if x1 = 14 then (if pm_kd h x0 = 1 then (fX1_branchByTable h x0).bind fun v71 => fX1_control_b145 v71 else none) else (if x1 = 15 then (if pm_kd h x0 = 1 then (fX1_takeWanted h x0 0).bind fun v75 => fX1_control_b153 v75 x0 else none) else (if x1 = 16 then (if pm_kd h x0 = 1 then (fX1_callDirectly h x0).bind fun v79 => fX1_control_b171 v79 else none) else (if pm_kd h x0 = 1 then (fX1_callByTable h x0).bind fun v82 => fX1_control_b178 v82 else none)))))))))))))))))
noncomputable def fX1_control (h : pm_H) (a0 : Nat) (p1 : Int32) : Option pm_H := fX1_control_b0 h a0 p1
set_option maxHeartbeats 4000000 in
set_option maxRecDepth 100000 in
theorem moX1_control_b178 {h : pm_H}  {r : pm_H} (hf : fX1_control_b178 h  = some r) : pm_Le h r := by
  unfold fX1_control_b178 at hf
  have K0 := pm_S3.rf h
  have hf := Option.some.inj hf
  subst hf
  exact pm_S3.le K0
set_option maxHeartbeats 4000000 in
set_option maxRecDepth 100000 in
theorem moX1_control_b171 {h : pm_H}  {r : pm_H} (hf : fX1_control_b171 h  = some r) : pm_Le h r := by
  unfold fX1_control_b171 at hf
  have K0 := pm_S3.rf h
  exact (pm_S3.le K0).trans (moX1_control_b178 hf)
set_option maxHeartbeats 4000000 in
set_option maxRecDepth 100000 in
theorem moX1_control_b160 {h : pm_H} {x0 : Nat} {r : pm_H} (hf : fX1_control_b160 h x0 = some r) : pm_Le h r := by
  unfold fX1_control_b160 at hf
  have K0 := pm_S3.rf h
  obtain ⟨k87, hf⟩ := pm_if hf
  obtain ⟨v88, e89, hf⟩ := pm_bd hf
  have K90 := pm_S3.trans (kpX1_die e89) K0
  exact (pm_S3.le K90).trans (moX1_control_b178 hf)
set_option maxHeartbeats 4000000 in
set_option maxRecDepth 100000 in
theorem moX1_control_b153 {h : pm_H} {x0 : Nat} {r : pm_H} (hf : fX1_control_b153 h x0 = some r) : pm_Le h r := by
  unfold fX1_control_b153 at hf
  have K0 := pm_S3.rf h
  obtain ⟨k84, hf⟩ := pm_if hf
  obtain ⟨v85, e86, hf⟩ := pm_bd hf
  exact ((pm_S3.le K0).trans (moX1_emitBranch e86)).trans (moX1_control_b160 hf)
set_option maxHeartbeats 4000000 in
set_option maxRecDepth 100000 in
theorem moX1_control_b145 {h : pm_H}  {r : pm_H} (hf : fX1_control_b145 h  = some r) : pm_Le h r := by
  unfold fX1_control_b145 at hf
  have K0 := pm_S3.rf h
  exact (pm_S3.le K0).trans (moX1_control_b178 hf)
set_option maxHeartbeats 4000000 in
set_option maxRecDepth 100000 in
theorem moX1_control_b138 {h : pm_H}  {r : pm_H} (hf : fX1_control_b138 h  = some r) : pm_Le h r := by
  unfold fX1_control_b138 at hf
  have K0 := pm_S3.rf h
  exact (pm_S3.le K0).trans (moX1_control_b178 hf)
set_option maxHeartbeats 4000000 in
set_option maxRecDepth 100000 in
theorem moX1_control_b124 {h : pm_H}  {r : pm_H} (hf : fX1_control_b124 h  = some r) : pm_Le h r := by
  unfold fX1_control_b124 at hf
  have K0 := pm_S3.rf h
  exact (pm_S3.le K0).trans (moX1_control_b178 hf)
set_option maxHeartbeats 4000000 in
set_option maxRecDepth 100000 in
theorem moX1_control_b117 {h : pm_H}  {r : pm_H} (hf : fX1_control_b117 h  = some r) : pm_Le h r := by
  unfold fX1_control_b117 at hf
  have K0 := pm_S3.rf h
  exact (pm_S3.le K0).trans (moX1_control_b178 hf)
set_option maxHeartbeats 4000000 in
set_option maxRecDepth 100000 in
theorem moX1_control_b110 {h : pm_H}  {r : pm_H} (hf : fX1_control_b110 h  = some r) : pm_Le h r := by
  unfold fX1_control_b110 at hf
  have K0 := pm_S3.rf h
  exact (pm_S3.le K0).trans (moX1_control_b178 hf)
set_option maxHeartbeats 4000000 in
set_option maxRecDepth 100000 in
theorem moX1_control_b0 {h : pm_H} {x0 : Nat} {x1 : Int32} {r : pm_H} (hf : fX1_control_b0 h x0 x1 = some r) : pm_Le h r := by
  unfold fX1_control_b0 at hf
  have K0 := pm_S3.rf h
  by_cases c1 : x1 = 0
  · have hf := pm_it hf c1
    obtain ⟨k2, hf⟩ := pm_if hf
    obtain ⟨v3, e4, hf⟩ := pm_bd hf
    have K5 := pm_S3.trans (kpX1_emitPlain e4) K0
    obtain ⟨k6, hf⟩ := pm_if hf
    obtain ⟨v7, e8, hf⟩ := pm_bd hf
    have K9 := pm_S3.trans (kpX1_die e8) K5
    exact (pm_S3.le K9).trans (moX1_control_b178 hf)
  have hf := pm_ie hf c1
  by_cases c10 : x1 = 1
  · have hf := pm_it hf c10
    obtain ⟨k11, hf⟩ := pm_if hf
    obtain ⟨v12, e13, hf⟩ := pm_bd hf
    have K14 := pm_S3.trans (kpX1_emitPlain e13) K0
    exact (pm_S3.le K14).trans (moX1_control_b178 hf)
  have hf := pm_ie hf c10
  by_cases c15 : x1 = 2
  · have hf := pm_it hf c15
    obtain ⟨k16, hf⟩ := pm_if hf
    obtain ⟨v17, e18, hf⟩ := pm_bd hf
    exact ((pm_S3.le K0).trans (moX1_beginBlock e18)).trans (moX1_control_b110 hf)
  have hf := pm_ie hf c15
  by_cases c19 : x1 = 3
  · have hf := pm_it hf c19
    obtain ⟨k20, hf⟩ := pm_if hf
    obtain ⟨v21, e22, hf⟩ := pm_bd hf
    exact ((pm_S3.le K0).trans (moX1_beginBlock e22)).trans (moX1_control_b110 hf)
  have hf := pm_ie hf c19
  by_cases c23 : x1 = 4
  · have hf := pm_it hf c23
    obtain ⟨k24, hf⟩ := pm_if hf
    obtain ⟨v25, e26, hf⟩ := pm_bd hf
    exact ((pm_S3.le K0).trans (moX1_beginBlock e26)).trans (moX1_control_b110 hf)
  have hf := pm_ie hf c23
  by_cases c27 : x1 = 5
  · have hf := pm_it hf c27
    obtain ⟨k28, hf⟩ := pm_if hf
    obtain ⟨v29, e30, hf⟩ := pm_bd hf
    exact ((pm_S3.le K0).trans (moX1_otherwise e30)).trans (moX1_control_b117 hf)
  have hf := pm_ie hf c27
  by_cases c31 : x1 = 6
  · have hf := pm_it hf c31
    obtain ⟨k32, hf⟩ := pm_if hf
    obtain ⟨v33, e34, hf⟩ := pm_bd hf
    exact ((pm_S3.le K0).trans (moX1_callByTable e34)).trans (moX1_control_b178 hf)
  have hf := pm_ie hf c31
  by_cases c35 : x1 = 7
  · have hf := pm_it hf c35
    obtain ⟨k36, hf⟩ := pm_if hf
    obtain ⟨v37, e38, hf⟩ := pm_bd hf
    exact ((pm_S3.le K0).trans (moX1_callByTable e38)).trans (moX1_control_b178 hf)
  have hf := pm_ie hf c35
  by_cases c39 : x1 = 8
  · have hf := pm_it hf c39
    obtain ⟨k40, hf⟩ := pm_if hf
    obtain ⟨v41, e42, hf⟩ := pm_bd hf
    exact ((pm_S3.le K0).trans (moX1_callByTable e42)).trans (moX1_control_b178 hf)
  have hf := pm_ie hf c39
  by_cases c43 : x1 = 9
  · have hf := pm_it hf c43
    obtain ⟨k44, hf⟩ := pm_if hf
    obtain ⟨v45, e46, hf⟩ := pm_bd hf
    exact ((pm_S3.le K0).trans (moX1_callByTable e46)).trans (moX1_control_b178 hf)
  have hf := pm_ie hf c43
  by_cases c47 : x1 = 10
  · have hf := pm_it hf c47
    obtain ⟨k48, hf⟩ := pm_if hf
    obtain ⟨v49, e50, hf⟩ := pm_bd hf
    exact ((pm_S3.le K0).trans (moX1_callByTable e50)).trans (moX1_control_b178 hf)
  have hf := pm_ie hf c47
  by_cases c51 : x1 = 11
  · have hf := pm_it hf c51
    obtain ⟨k52, hf⟩ := pm_if hf
    obtain ⟨v53, e54, hf⟩ := pm_bd hf
    exact ((pm_S3.le K0).trans (moX1_endBlock e54)).trans (moX1_control_b124 hf)
  have hf := pm_ie hf c51
  by_cases c55 : x1 = 12
  · have hf := pm_it hf c55
    obtain ⟨k56, hf⟩ := pm_if hf
    obtain ⟨v57, e58, hf⟩ := pm_bd hf
    obtain ⟨k59, hf⟩ := pm_if hf
    obtain ⟨v60, e61, hf⟩ := pm_bd hf
    exact ((pm_S3.le K0).trans (moX1_branch e61)).trans (moX1_control_b138 hf)
  have hf := pm_ie hf c55
  by_cases c62 : x1 = 13
  · have hf := pm_it hf c62
    obtain ⟨k63, hf⟩ := pm_if hf
    obtain ⟨v64, e65, hf⟩ := pm_bd hf
    obtain ⟨k66, hf⟩ := pm_if hf
    obtain ⟨v67, e68, hf⟩ := pm_bd hf
    exact ((pm_S3.le K0).trans (moX1_branch e68)).trans (moX1_control_b138 hf)
  have hf := pm_ie hf c62
  by_cases c69 : x1 = 14
  · have hf := pm_it hf c69
    obtain ⟨k70, hf⟩ := pm_if hf
    obtain ⟨v71, e72, hf⟩ := pm_bd hf
    exact ((pm_S3.le K0).trans (moX1_branchByTable e72)).trans (moX1_control_b145 hf)
  have hf := pm_ie hf c69
  by_cases c73 : x1 = 15
  · have hf := pm_it hf c73
    obtain ⟨k74, hf⟩ := pm_if hf
    obtain ⟨v75, e76, hf⟩ := pm_bd hf
    exact ((pm_S3.le K0).trans (moX1_takeWanted e76)).trans (moX1_control_b153 hf)
  have hf := pm_ie hf c73
  by_cases c77 : x1 = 16
  · have hf := pm_it hf c77
    obtain ⟨k78, hf⟩ := pm_if hf
    obtain ⟨v79, e80, hf⟩ := pm_bd hf
    exact ((pm_S3.le K0).trans (moX1_callDirectly e80)).trans (moX1_control_b171 hf)
  have hf := pm_ie hf c77
  obtain ⟨k81, hf⟩ := pm_if hf
  obtain ⟨v82, e83, hf⟩ := pm_bd hf
  exact ((pm_S3.le K0).trans (moX1_callByTable e83)).trans (moX1_control_b178 hf)
set_option maxHeartbeats 4000000 in
set_option maxRecDepth 100000 in
theorem moX1_control {h : pm_H} {a0 : Nat} {p1 : Int32} {r : pm_H} (hf : fX1_control h a0 p1 = some r) : pm_Le h r := by
  unfold fX1_control at hf
  have K0 := pm_S3.rf h
  exact (pm_S3.le K0).trans (moX1_control_b0 hf)
set_option maxHeartbeats 4000000 in
set_option maxRecDepth 100000 in
theorem bX1_control_178 {g : pm_Gm} {l : Launch} {G : pm_Gl} {Qr : Option Value → pm_H → Prop} (C : pm_C g cX1_control RX1) {h0 h : pm_H}  {r : pm_H} (X : pm_X g l G mX1_control (pm_sz r - pm_sz h0) (pm_us r - pm_us h0) Qr) (m0 : pm_Le h0 h) (hf : fX1_control_b178 h  = some r) (q : Qr none r) : pm_G g 178 [] [] h (pm_sz h - pm_sz h0) (pm_us h - pm_us h0) := by
  have le0 := moX1_control_b178 hf
  have kc1 := Nat.sub_le_sub_right le0.1 (pm_sz h0)
  have kc2 := Nat.sub_le_sub_right le0.2 (pm_us h0)
  have K0 := pm_S3.rf h
  unfold fX1_control_b178 at hf
  have hf := Option.some.inj hf
  subst hf
  exact pm_vret C X dX1_control_178 rfl kc1 kc2 q
set_option maxHeartbeats 4000000 in
set_option maxRecDepth 100000 in
theorem bX1_control_171 {g : pm_Gm} {l : Launch} {G : pm_Gl} {Qr : Option Value → pm_H → Prop} (C : pm_C g cX1_control RX1) {h0 h : pm_H}  {r : pm_H} (X : pm_X g l G mX1_control (pm_sz r - pm_sz h0) (pm_us r - pm_us h0) Qr) (m0 : pm_Le h0 h) (hf : fX1_control_b171 h  = some r) (q : Qr none r) : pm_G g 171 [] [] h (pm_sz h - pm_sz h0) (pm_us h - pm_us h0) := by
  have le0 := moX1_control_b171 hf
  have kc1 := Nat.sub_le_sub_right le0.1 (pm_sz h0)
  have kc2 := Nat.sub_le_sub_right le0.2 (pm_us h0)
  have K0 := pm_S3.rf h
  unfold fX1_control_b171 at hf
  refine pm_goto (tgt := 178) C dX1_control_171 (by decide) ?_
  exact pa_join K0 (pm_sub [] rfl (bX1_control_178 C X (m0.trans (pm_S3.le K0)) hf q))
set_option maxHeartbeats 4000000 in
set_option maxRecDepth 100000 in
theorem bX1_control_160 {g : pm_Gm} {l : Launch} {G : pm_Gl} {Qr : Option Value → pm_H → Prop} (C : pm_C g cX1_control RX1) {h0 h : pm_H} {x0 : Nat} {r : pm_H} (X : pm_X g l G mX1_control (pm_sz r - pm_sz h0) (pm_us r - pm_us h0) Qr) (m0 : pm_Le h0 h) (hf : fX1_control_b160 h x0 = some r) (q : Qr none r) : pm_G g 160 [(0, .ref x0)] [] h (pm_sz h - pm_sz h0) (pm_us h - pm_us h0) := by
  have le0 := moX1_control_b160 hf
  have kc1 := Nat.sub_le_sub_right le0.1 (pm_sz h0)
  have kc2 := Nat.sub_le_sub_right le0.2 (pm_us h0)
  have K0 := pm_S3.rf h
  unfold fX1_control_b160 at hf
  refine pm_aload_n C dX1_control_160 rfl rfl ?_
  obtain ⟨k87, hf⟩ := pm_if hf
  obtain ⟨v88, e89, hf⟩ := pm_bd hf
  refine pm_callV (as := []) (st := []) C X dX1_control_161 lnX1_357 myX1_die viX1_die ⟨by decide, by decide⟩ rfl rfl k87 (Nat.le_of_ble_eq_true rfl) kc1 kc2 (ctX1_die e89 ?_)
  have K90 := pm_S3.trans (kpX1_die e89) K0
  show pm_G g 164 [(0, .ref x0)] [] v88 (pm_sz h - pm_sz h0) (pm_us h - pm_us h0)
  refine pm_goto (tgt := 178) C dX1_control_164 (by decide) ?_
  exact pa_join K90 (pm_sub [] rfl (bX1_control_178 C X (m0.trans (pm_S3.le K90)) hf q))
set_option maxHeartbeats 4000000 in
set_option maxRecDepth 100000 in
theorem bX1_control_153 {g : pm_Gm} {l : Launch} {G : pm_Gl} {Qr : Option Value → pm_H → Prop} (C : pm_C g cX1_control RX1) {h0 h : pm_H} {x0 : Nat} {r : pm_H} (X : pm_X g l G mX1_control (pm_sz r - pm_sz h0) (pm_us r - pm_us h0) Qr) (m0 : pm_Le h0 h) (hf : fX1_control_b153 h x0 = some r) (q : Qr none r) : pm_G g 153 [(0, .ref x0)] [] h (pm_sz h - pm_sz h0) (pm_us h - pm_us h0) := by
  have le0 := moX1_control_b153 hf
  have kc1 := Nat.sub_le_sub_right le0.1 (pm_sz h0)
  have kc2 := Nat.sub_le_sub_right le0.2 (pm_us h0)
  have K0 := pm_S3.rf h
  unfold fX1_control_b153 at hf
  refine pm_aload_n C dX1_control_153 rfl rfl ?_
  refine pm_bipush (v := 12) C dX1_control_154 (by decide) ?_
  refine pm_iconst (v := 0) C dX1_control_156 (by decide) ?_
  obtain ⟨k84, hf⟩ := pm_if hf
  obtain ⟨v85, e86, hf⟩ := pm_bd hf
  refine pm_callV (as := [.int 12, .int 0]) (st := []) C X dX1_control_157 lnX1_378 myX1_emitBranch viX1_emitBranch ⟨by decide, by decide⟩ rfl rfl k84 (Nat.le_of_ble_eq_true rfl) (pa_le1 K0 m0 (moX1_emitBranch e86) (moX1_control_b160 hf)) (pa_le2 K0 m0 (moX1_emitBranch e86) (moX1_control_b160 hf)) (ctX1_emitBranch e86 ?_)
  show pm_G g 160 [(0, .ref x0)] [] v85 (pm_sz h - pm_sz h0 + (pm_sz v85 - pm_sz h)) (pm_us h - pm_us h0 + (pm_us v85 - pm_us h))
  refine pa_fin K0 m0 (moX1_emitBranch e86) ?_
  exact pm_sub [0] rfl (bX1_control_160 C X ((m0.trans (pm_S3.le K0)).trans (moX1_emitBranch e86)) hf q)
set_option maxHeartbeats 4000000 in
set_option maxRecDepth 100000 in
theorem bX1_control_145 {g : pm_Gm} {l : Launch} {G : pm_Gl} {Qr : Option Value → pm_H → Prop} (C : pm_C g cX1_control RX1) {h0 h : pm_H}  {r : pm_H} (X : pm_X g l G mX1_control (pm_sz r - pm_sz h0) (pm_us r - pm_us h0) Qr) (m0 : pm_Le h0 h) (hf : fX1_control_b145 h  = some r) (q : Qr none r) : pm_G g 145 [] [] h (pm_sz h - pm_sz h0) (pm_us h - pm_us h0) := by
  have le0 := moX1_control_b145 hf
  have kc1 := Nat.sub_le_sub_right le0.1 (pm_sz h0)
  have kc2 := Nat.sub_le_sub_right le0.2 (pm_us h0)
  have K0 := pm_S3.rf h
  unfold fX1_control_b145 at hf
  refine pm_goto (tgt := 178) C dX1_control_145 (by decide) ?_
  exact pa_join K0 (pm_sub [] rfl (bX1_control_178 C X (m0.trans (pm_S3.le K0)) hf q))
set_option maxHeartbeats 4000000 in
set_option maxRecDepth 100000 in
theorem bX1_control_138 {g : pm_Gm} {l : Launch} {G : pm_Gl} {Qr : Option Value → pm_H → Prop} (C : pm_C g cX1_control RX1) {h0 h : pm_H}  {r : pm_H} (X : pm_X g l G mX1_control (pm_sz r - pm_sz h0) (pm_us r - pm_us h0) Qr) (m0 : pm_Le h0 h) (hf : fX1_control_b138 h  = some r) (q : Qr none r) : pm_G g 138 [] [] h (pm_sz h - pm_sz h0) (pm_us h - pm_us h0) := by
  have le0 := moX1_control_b138 hf
  have kc1 := Nat.sub_le_sub_right le0.1 (pm_sz h0)
  have kc2 := Nat.sub_le_sub_right le0.2 (pm_us h0)
  have K0 := pm_S3.rf h
  unfold fX1_control_b138 at hf
  refine pm_goto (tgt := 178) C dX1_control_138 (by decide) ?_
  exact pa_join K0 (pm_sub [] rfl (bX1_control_178 C X (m0.trans (pm_S3.le K0)) hf q))
set_option maxHeartbeats 4000000 in
set_option maxRecDepth 100000 in
theorem bX1_control_124 {g : pm_Gm} {l : Launch} {G : pm_Gl} {Qr : Option Value → pm_H → Prop} (C : pm_C g cX1_control RX1) {h0 h : pm_H}  {r : pm_H} (X : pm_X g l G mX1_control (pm_sz r - pm_sz h0) (pm_us r - pm_us h0) Qr) (m0 : pm_Le h0 h) (hf : fX1_control_b124 h  = some r) (q : Qr none r) : pm_G g 124 [] [] h (pm_sz h - pm_sz h0) (pm_us h - pm_us h0) := by
  have le0 := moX1_control_b124 hf
  have kc1 := Nat.sub_le_sub_right le0.1 (pm_sz h0)
  have kc2 := Nat.sub_le_sub_right le0.2 (pm_us h0)
  have K0 := pm_S3.rf h
  unfold fX1_control_b124 at hf
  refine pm_goto (tgt := 178) C dX1_control_124 (by decide) ?_
  exact pa_join K0 (pm_sub [] rfl (bX1_control_178 C X (m0.trans (pm_S3.le K0)) hf q))
set_option maxHeartbeats 4000000 in
set_option maxRecDepth 100000 in
theorem bX1_control_117 {g : pm_Gm} {l : Launch} {G : pm_Gl} {Qr : Option Value → pm_H → Prop} (C : pm_C g cX1_control RX1) {h0 h : pm_H}  {r : pm_H} (X : pm_X g l G mX1_control (pm_sz r - pm_sz h0) (pm_us r - pm_us h0) Qr) (m0 : pm_Le h0 h) (hf : fX1_control_b117 h  = some r) (q : Qr none r) : pm_G g 117 [] [] h (pm_sz h - pm_sz h0) (pm_us h - pm_us h0) := by
  have le0 := moX1_control_b117 hf
  have kc1 := Nat.sub_le_sub_right le0.1 (pm_sz h0)
  have kc2 := Nat.sub_le_sub_right le0.2 (pm_us h0)
  have K0 := pm_S3.rf h
  unfold fX1_control_b117 at hf
  refine pm_goto (tgt := 178) C dX1_control_117 (by decide) ?_
  exact pa_join K0 (pm_sub [] rfl (bX1_control_178 C X (m0.trans (pm_S3.le K0)) hf q))
set_option maxHeartbeats 4000000 in
set_option maxRecDepth 100000 in
theorem bX1_control_110 {g : pm_Gm} {l : Launch} {G : pm_Gl} {Qr : Option Value → pm_H → Prop} (C : pm_C g cX1_control RX1) {h0 h : pm_H}  {r : pm_H} (X : pm_X g l G mX1_control (pm_sz r - pm_sz h0) (pm_us r - pm_us h0) Qr) (m0 : pm_Le h0 h) (hf : fX1_control_b110 h  = some r) (q : Qr none r) : pm_G g 110 [] [] h (pm_sz h - pm_sz h0) (pm_us h - pm_us h0) := by
  have le0 := moX1_control_b110 hf
  have kc1 := Nat.sub_le_sub_right le0.1 (pm_sz h0)
  have kc2 := Nat.sub_le_sub_right le0.2 (pm_us h0)
  have K0 := pm_S3.rf h
  unfold fX1_control_b110 at hf
  refine pm_goto (tgt := 178) C dX1_control_110 (by decide) ?_
  exact pa_join K0 (pm_sub [] rfl (bX1_control_178 C X (m0.trans (pm_S3.le K0)) hf q))
set_option maxHeartbeats 4000000 in
set_option maxRecDepth 100000 in
theorem bX1_control_0 {g : pm_Gm} {l : Launch} {G : pm_Gl} {Qr : Option Value → pm_H → Prop} (C : pm_C g cX1_control RX1) {h0 h : pm_H} {x0 : Nat} {x1 : Int32} {r : pm_H} (X : pm_X g l G mX1_control (pm_sz r - pm_sz h0) (pm_us r - pm_us h0) Qr) (m0 : pm_Le h0 h) (hf : fX1_control_b0 h x0 x1 = some r) (q : Qr none r) : pm_G g 0 [(0, .ref x0), (1, .int x1)] [] h (pm_sz h - pm_sz h0) (pm_us h - pm_us h0) := by
  have le0 := moX1_control_b0 hf
  have kc1 := Nat.sub_le_sub_right le0.1 (pm_sz h0)
  have kc2 := Nat.sub_le_sub_right le0.2 (pm_us h0)
  have K0 := pm_S3.rf h
  unfold fX1_control_b0 at hf
  refine pm_iload_n C dX1_control_0 rfl rfl ?_
  by_cases c1 : x1 = 0
  · have hf := pm_it hf c1
    refine pm_tableIn (tgt := 84) C dX1_control_1 (by rw [c1]; decide) (by rw [c1]; decide) (by rw [c1]; rfl) (by decide) ?_
    refine pm_aload_n C dX1_control_84 rfl rfl ?_
    refine pm_iconst (v := 0) C dX1_control_85 (by decide) ?_
    refine pm_iconst (v := 0) C dX1_control_86 (by decide) ?_
    obtain ⟨k2, hf⟩ := pm_if hf
    obtain ⟨v3, e4, hf⟩ := pm_bd hf
    refine pm_callV (as := [.int 0, .int 0]) (st := []) C X dX1_control_87 lnX1_353 myX1_emitPlain viX1_emitPlain ⟨by decide, by decide⟩ rfl rfl k2 (Nat.le_of_ble_eq_true rfl) kc1 kc2 (ctX1_emitPlain e4 ?_)
    have K5 := pm_S3.trans (kpX1_emitPlain e4) K0
    show pm_G g 90 [(0, .ref x0), (1, .int x1)] [] v3 (pm_sz h - pm_sz h0) (pm_us h - pm_us h0)
    refine pm_aload_n C dX1_control_90 rfl rfl ?_
    obtain ⟨k6, hf⟩ := pm_if hf
    obtain ⟨v7, e8, hf⟩ := pm_bd hf
    refine pm_callV (as := []) (st := []) C X dX1_control_91 lnX1_357 myX1_die viX1_die ⟨by decide, by decide⟩ rfl rfl k6 (Nat.le_of_ble_eq_true rfl) kc1 kc2 (ctX1_die e8 ?_)
    have K9 := pm_S3.trans (kpX1_die e8) K5
    show pm_G g 94 [(0, .ref x0), (1, .int x1)] [] v7 (pm_sz h - pm_sz h0) (pm_us h - pm_us h0)
    refine pm_goto (tgt := 178) C dX1_control_94 (by decide) ?_
    exact pa_join K9 (pm_sub [] rfl (bX1_control_178 C X (m0.trans (pm_S3.le K9)) hf q))
  have hf := pm_ie hf c1
  by_cases c10 : x1 = 1
  · have hf := pm_it hf c10
    refine pm_tableIn (tgt := 97) C dX1_control_1 (by rw [c10]; decide) (by rw [c10]; decide) (by rw [c10]; rfl) (by decide) ?_
    refine pm_aload_n C dX1_control_97 rfl rfl ?_
    refine pm_iconst (v := 0) C dX1_control_98 (by decide) ?_
    refine pm_iconst (v := 0) C dX1_control_99 (by decide) ?_
    obtain ⟨k11, hf⟩ := pm_if hf
    obtain ⟨v12, e13, hf⟩ := pm_bd hf
    refine pm_callV (as := [.int 0, .int 0]) (st := []) C X dX1_control_100 lnX1_353 myX1_emitPlain viX1_emitPlain ⟨by decide, by decide⟩ rfl rfl k11 (Nat.le_of_ble_eq_true rfl) kc1 kc2 (ctX1_emitPlain e13 ?_)
    have K14 := pm_S3.trans (kpX1_emitPlain e13) K0
    show pm_G g 103 [(0, .ref x0), (1, .int x1)] [] v12 (pm_sz h - pm_sz h0) (pm_us h - pm_us h0)
    refine pm_goto (tgt := 178) C dX1_control_103 (by decide) ?_
    exact pa_join K14 (pm_sub [] rfl (bX1_control_178 C X (m0.trans (pm_S3.le K14)) hf q))
  have hf := pm_ie hf c10
  by_cases c15 : x1 = 2
  · have hf := pm_it hf c15
    refine pm_tableIn (tgt := 106) C dX1_control_1 (by rw [c15]; decide) (by rw [c15]; decide) (by rw [c15]; rfl) (by decide) ?_
    refine pm_aload_n C dX1_control_106 rfl rfl ?_
    obtain ⟨k16, hf⟩ := pm_if hf
    obtain ⟨v17, e18, hf⟩ := pm_bd hf
    refine pm_callV (as := []) (st := []) C X dX1_control_107 lnX1_360 myX1_beginBlock viX1_beginBlock ⟨by decide, by decide⟩ rfl rfl k16 (Nat.le_of_ble_eq_true rfl) (pa_le1 K0 m0 (moX1_beginBlock e18) (moX1_control_b110 hf)) (pa_le2 K0 m0 (moX1_beginBlock e18) (moX1_control_b110 hf)) (ctX1_beginBlock e18 ?_)
    show pm_G g 110 [(0, .ref x0), (1, .int x1)] [] v17 (pm_sz h - pm_sz h0 + (pm_sz v17 - pm_sz h)) (pm_us h - pm_us h0 + (pm_us v17 - pm_us h))
    refine pa_fin K0 m0 (moX1_beginBlock e18) ?_
    exact pm_sub [] rfl (bX1_control_110 C X ((m0.trans (pm_S3.le K0)).trans (moX1_beginBlock e18)) hf q)
  have hf := pm_ie hf c15
  by_cases c19 : x1 = 3
  · have hf := pm_it hf c19
    refine pm_tableIn (tgt := 106) C dX1_control_1 (by rw [c19]; decide) (by rw [c19]; decide) (by rw [c19]; rfl) (by decide) ?_
    refine pm_aload_n C dX1_control_106 rfl rfl ?_
    obtain ⟨k20, hf⟩ := pm_if hf
    obtain ⟨v21, e22, hf⟩ := pm_bd hf
    refine pm_callV (as := []) (st := []) C X dX1_control_107 lnX1_360 myX1_beginBlock viX1_beginBlock ⟨by decide, by decide⟩ rfl rfl k20 (Nat.le_of_ble_eq_true rfl) (pa_le1 K0 m0 (moX1_beginBlock e22) (moX1_control_b110 hf)) (pa_le2 K0 m0 (moX1_beginBlock e22) (moX1_control_b110 hf)) (ctX1_beginBlock e22 ?_)
    show pm_G g 110 [(0, .ref x0), (1, .int x1)] [] v21 (pm_sz h - pm_sz h0 + (pm_sz v21 - pm_sz h)) (pm_us h - pm_us h0 + (pm_us v21 - pm_us h))
    refine pa_fin K0 m0 (moX1_beginBlock e22) ?_
    exact pm_sub [] rfl (bX1_control_110 C X ((m0.trans (pm_S3.le K0)).trans (moX1_beginBlock e22)) hf q)
  have hf := pm_ie hf c19
  by_cases c23 : x1 = 4
  · have hf := pm_it hf c23
    refine pm_tableIn (tgt := 106) C dX1_control_1 (by rw [c23]; decide) (by rw [c23]; decide) (by rw [c23]; rfl) (by decide) ?_
    refine pm_aload_n C dX1_control_106 rfl rfl ?_
    obtain ⟨k24, hf⟩ := pm_if hf
    obtain ⟨v25, e26, hf⟩ := pm_bd hf
    refine pm_callV (as := []) (st := []) C X dX1_control_107 lnX1_360 myX1_beginBlock viX1_beginBlock ⟨by decide, by decide⟩ rfl rfl k24 (Nat.le_of_ble_eq_true rfl) (pa_le1 K0 m0 (moX1_beginBlock e26) (moX1_control_b110 hf)) (pa_le2 K0 m0 (moX1_beginBlock e26) (moX1_control_b110 hf)) (ctX1_beginBlock e26 ?_)
    show pm_G g 110 [(0, .ref x0), (1, .int x1)] [] v25 (pm_sz h - pm_sz h0 + (pm_sz v25 - pm_sz h)) (pm_us h - pm_us h0 + (pm_us v25 - pm_us h))
    refine pa_fin K0 m0 (moX1_beginBlock e26) ?_
    exact pm_sub [] rfl (bX1_control_110 C X ((m0.trans (pm_S3.le K0)).trans (moX1_beginBlock e26)) hf q)
  have hf := pm_ie hf c23
  by_cases c27 : x1 = 5
  · have hf := pm_it hf c27
    refine pm_tableIn (tgt := 113) C dX1_control_1 (by rw [c27]; decide) (by rw [c27]; decide) (by rw [c27]; rfl) (by decide) ?_
    refine pm_aload_n C dX1_control_113 rfl rfl ?_
    obtain ⟨k28, hf⟩ := pm_if hf
    obtain ⟨v29, e30, hf⟩ := pm_bd hf
    refine pm_callV (as := []) (st := []) C X dX1_control_114 lnX1_363 myX1_otherwise viX1_otherwise ⟨by decide, by decide⟩ rfl rfl k28 (Nat.le_of_ble_eq_true rfl) (pa_le1 K0 m0 (moX1_otherwise e30) (moX1_control_b117 hf)) (pa_le2 K0 m0 (moX1_otherwise e30) (moX1_control_b117 hf)) (ctX1_otherwise e30 ?_)
    show pm_G g 117 [(0, .ref x0), (1, .int x1)] [] v29 (pm_sz h - pm_sz h0 + (pm_sz v29 - pm_sz h)) (pm_us h - pm_us h0 + (pm_us v29 - pm_us h))
    refine pa_fin K0 m0 (moX1_otherwise e30) ?_
    exact pm_sub [] rfl (bX1_control_117 C X ((m0.trans (pm_S3.le K0)).trans (moX1_otherwise e30)) hf q)
  have hf := pm_ie hf c27
  by_cases c31 : x1 = 6
  · have hf := pm_it hf c31
    refine pm_tableIn (tgt := 174) C dX1_control_1 (by rw [c31]; decide) (by rw [c31]; decide) (by rw [c31]; rfl) (by decide) ?_
    refine pm_aload_n C dX1_control_174 rfl rfl ?_
    obtain ⟨k32, hf⟩ := pm_if hf
    obtain ⟨v33, e34, hf⟩ := pm_bd hf
    refine pm_callV (as := []) (st := []) C X dX1_control_175 lnX1_384 myX1_callByTable viX1_callByTable ⟨by decide, by decide⟩ rfl rfl k32 (Nat.le_of_ble_eq_true rfl) (pa_le1 K0 m0 (moX1_callByTable e34) (moX1_control_b178 hf)) (pa_le2 K0 m0 (moX1_callByTable e34) (moX1_control_b178 hf)) (ctX1_callByTable e34 ?_)
    show pm_G g 178 [(0, .ref x0), (1, .int x1)] [] v33 (pm_sz h - pm_sz h0 + (pm_sz v33 - pm_sz h)) (pm_us h - pm_us h0 + (pm_us v33 - pm_us h))
    refine pa_fin K0 m0 (moX1_callByTable e34) ?_
    exact pm_sub [] rfl (bX1_control_178 C X ((m0.trans (pm_S3.le K0)).trans (moX1_callByTable e34)) hf q)
  have hf := pm_ie hf c31
  by_cases c35 : x1 = 7
  · have hf := pm_it hf c35
    refine pm_tableIn (tgt := 174) C dX1_control_1 (by rw [c35]; decide) (by rw [c35]; decide) (by rw [c35]; rfl) (by decide) ?_
    refine pm_aload_n C dX1_control_174 rfl rfl ?_
    obtain ⟨k36, hf⟩ := pm_if hf
    obtain ⟨v37, e38, hf⟩ := pm_bd hf
    refine pm_callV (as := []) (st := []) C X dX1_control_175 lnX1_384 myX1_callByTable viX1_callByTable ⟨by decide, by decide⟩ rfl rfl k36 (Nat.le_of_ble_eq_true rfl) (pa_le1 K0 m0 (moX1_callByTable e38) (moX1_control_b178 hf)) (pa_le2 K0 m0 (moX1_callByTable e38) (moX1_control_b178 hf)) (ctX1_callByTable e38 ?_)
    show pm_G g 178 [(0, .ref x0), (1, .int x1)] [] v37 (pm_sz h - pm_sz h0 + (pm_sz v37 - pm_sz h)) (pm_us h - pm_us h0 + (pm_us v37 - pm_us h))
    refine pa_fin K0 m0 (moX1_callByTable e38) ?_
    exact pm_sub [] rfl (bX1_control_178 C X ((m0.trans (pm_S3.le K0)).trans (moX1_callByTable e38)) hf q)
  have hf := pm_ie hf c35
  by_cases c39 : x1 = 8
  · have hf := pm_it hf c39
    refine pm_tableIn (tgt := 174) C dX1_control_1 (by rw [c39]; decide) (by rw [c39]; decide) (by rw [c39]; rfl) (by decide) ?_
    refine pm_aload_n C dX1_control_174 rfl rfl ?_
    obtain ⟨k40, hf⟩ := pm_if hf
    obtain ⟨v41, e42, hf⟩ := pm_bd hf
    refine pm_callV (as := []) (st := []) C X dX1_control_175 lnX1_384 myX1_callByTable viX1_callByTable ⟨by decide, by decide⟩ rfl rfl k40 (Nat.le_of_ble_eq_true rfl) (pa_le1 K0 m0 (moX1_callByTable e42) (moX1_control_b178 hf)) (pa_le2 K0 m0 (moX1_callByTable e42) (moX1_control_b178 hf)) (ctX1_callByTable e42 ?_)
    show pm_G g 178 [(0, .ref x0), (1, .int x1)] [] v41 (pm_sz h - pm_sz h0 + (pm_sz v41 - pm_sz h)) (pm_us h - pm_us h0 + (pm_us v41 - pm_us h))
    refine pa_fin K0 m0 (moX1_callByTable e42) ?_
    exact pm_sub [] rfl (bX1_control_178 C X ((m0.trans (pm_S3.le K0)).trans (moX1_callByTable e42)) hf q)
  have hf := pm_ie hf c39
  by_cases c43 : x1 = 9
  · have hf := pm_it hf c43
    refine pm_tableIn (tgt := 174) C dX1_control_1 (by rw [c43]; decide) (by rw [c43]; decide) (by rw [c43]; rfl) (by decide) ?_
    refine pm_aload_n C dX1_control_174 rfl rfl ?_
    obtain ⟨k44, hf⟩ := pm_if hf
    obtain ⟨v45, e46, hf⟩ := pm_bd hf
    refine pm_callV (as := []) (st := []) C X dX1_control_175 lnX1_384 myX1_callByTable viX1_callByTable ⟨by decide, by decide⟩ rfl rfl k44 (Nat.le_of_ble_eq_true rfl) (pa_le1 K0 m0 (moX1_callByTable e46) (moX1_control_b178 hf)) (pa_le2 K0 m0 (moX1_callByTable e46) (moX1_control_b178 hf)) (ctX1_callByTable e46 ?_)
    show pm_G g 178 [(0, .ref x0), (1, .int x1)] [] v45 (pm_sz h - pm_sz h0 + (pm_sz v45 - pm_sz h)) (pm_us h - pm_us h0 + (pm_us v45 - pm_us h))
    refine pa_fin K0 m0 (moX1_callByTable e46) ?_
    exact pm_sub [] rfl (bX1_control_178 C X ((m0.trans (pm_S3.le K0)).trans (moX1_callByTable e46)) hf q)
  have hf := pm_ie hf c43
  by_cases c47 : x1 = 10
  · have hf := pm_it hf c47
    refine pm_tableIn (tgt := 174) C dX1_control_1 (by rw [c47]; decide) (by rw [c47]; decide) (by rw [c47]; rfl) (by decide) ?_
    refine pm_aload_n C dX1_control_174 rfl rfl ?_
    obtain ⟨k48, hf⟩ := pm_if hf
    obtain ⟨v49, e50, hf⟩ := pm_bd hf
    refine pm_callV (as := []) (st := []) C X dX1_control_175 lnX1_384 myX1_callByTable viX1_callByTable ⟨by decide, by decide⟩ rfl rfl k48 (Nat.le_of_ble_eq_true rfl) (pa_le1 K0 m0 (moX1_callByTable e50) (moX1_control_b178 hf)) (pa_le2 K0 m0 (moX1_callByTable e50) (moX1_control_b178 hf)) (ctX1_callByTable e50 ?_)
    show pm_G g 178 [(0, .ref x0), (1, .int x1)] [] v49 (pm_sz h - pm_sz h0 + (pm_sz v49 - pm_sz h)) (pm_us h - pm_us h0 + (pm_us v49 - pm_us h))
    refine pa_fin K0 m0 (moX1_callByTable e50) ?_
    exact pm_sub [] rfl (bX1_control_178 C X ((m0.trans (pm_S3.le K0)).trans (moX1_callByTable e50)) hf q)
  have hf := pm_ie hf c47
  by_cases c51 : x1 = 11
  · have hf := pm_it hf c51
    refine pm_tableIn (tgt := 120) C dX1_control_1 (by rw [c51]; decide) (by rw [c51]; decide) (by rw [c51]; rfl) (by decide) ?_
    refine pm_aload_n C dX1_control_120 rfl rfl ?_
    obtain ⟨k52, hf⟩ := pm_if hf
    obtain ⟨v53, e54, hf⟩ := pm_bd hf
    refine pm_callV (as := []) (st := []) C X dX1_control_121 lnX1_366 myX1_endBlock viX1_endBlock ⟨by decide, by decide⟩ rfl rfl k52 (Nat.le_of_ble_eq_true rfl) (pa_le1 K0 m0 (moX1_endBlock e54) (moX1_control_b124 hf)) (pa_le2 K0 m0 (moX1_endBlock e54) (moX1_control_b124 hf)) (ctX1_endBlock e54 ?_)
    show pm_G g 124 [(0, .ref x0), (1, .int x1)] [] v53 (pm_sz h - pm_sz h0 + (pm_sz v53 - pm_sz h)) (pm_us h - pm_us h0 + (pm_us v53 - pm_us h))
    refine pa_fin K0 m0 (moX1_endBlock e54) ?_
    exact pm_sub [] rfl (bX1_control_124 C X ((m0.trans (pm_S3.le K0)).trans (moX1_endBlock e54)) hf q)
  have hf := pm_ie hf c51
  by_cases c55 : x1 = 12
  · have hf := pm_it hf c55
    refine pm_tableIn (tgt := 127) C dX1_control_1 (by rw [c55]; decide) (by rw [c55]; decide) (by rw [c55]; rfl) (by decide) ?_
    refine pm_aload_n C dX1_control_127 rfl rfl ?_
    refine pm_aload_n C dX1_control_128 rfl rfl ?_
    obtain ⟨k56, hf⟩ := pm_if hf
    obtain ⟨v57, e58, hf⟩ := pm_bd hf
    refine pm_getR C dX1_control_129 flX1_36 rfl k56 e58 ?_
    obtain ⟨k59, hf⟩ := pm_if hf
    refine pm_getL C dX1_control_132 flX1_201 rfl k59 rfl ?_
    obtain ⟨v60, e61, hf⟩ := pm_bd hf
    refine pm_callV (as := [.long (pm_L h v57 8)]) (st := []) C X dX1_control_135 lnX1_369 myX1_branch viX1_branch ⟨by decide, by decide⟩ rfl rfl k56 (Nat.le_of_ble_eq_true rfl) (pa_le1 K0 m0 (moX1_branch e61) (moX1_control_b138 hf)) (pa_le2 K0 m0 (moX1_branch e61) (moX1_control_b138 hf)) (ctX1_branch e61 ?_)
    show pm_G g 138 [(0, .ref x0), (1, .int x1)] [] v60 (pm_sz h - pm_sz h0 + (pm_sz v60 - pm_sz h)) (pm_us h - pm_us h0 + (pm_us v60 - pm_us h))
    refine pa_fin K0 m0 (moX1_branch e61) ?_
    exact pm_sub [] rfl (bX1_control_138 C X ((m0.trans (pm_S3.le K0)).trans (moX1_branch e61)) hf q)
  have hf := pm_ie hf c55
  by_cases c62 : x1 = 13
  · have hf := pm_it hf c62
    refine pm_tableIn (tgt := 127) C dX1_control_1 (by rw [c62]; decide) (by rw [c62]; decide) (by rw [c62]; rfl) (by decide) ?_
    refine pm_aload_n C dX1_control_127 rfl rfl ?_
    refine pm_aload_n C dX1_control_128 rfl rfl ?_
    obtain ⟨k63, hf⟩ := pm_if hf
    obtain ⟨v64, e65, hf⟩ := pm_bd hf
    refine pm_getR C dX1_control_129 flX1_36 rfl k63 e65 ?_
    obtain ⟨k66, hf⟩ := pm_if hf
    refine pm_getL C dX1_control_132 flX1_201 rfl k66 rfl ?_
    obtain ⟨v67, e68, hf⟩ := pm_bd hf
    refine pm_callV (as := [.long (pm_L h v64 8)]) (st := []) C X dX1_control_135 lnX1_369 myX1_branch viX1_branch ⟨by decide, by decide⟩ rfl rfl k63 (Nat.le_of_ble_eq_true rfl) (pa_le1 K0 m0 (moX1_branch e68) (moX1_control_b138 hf)) (pa_le2 K0 m0 (moX1_branch e68) (moX1_control_b138 hf)) (ctX1_branch e68 ?_)
    show pm_G g 138 [(0, .ref x0), (1, .int x1)] [] v67 (pm_sz h - pm_sz h0 + (pm_sz v67 - pm_sz h)) (pm_us h - pm_us h0 + (pm_us v67 - pm_us h))
    refine pa_fin K0 m0 (moX1_branch e68) ?_
    exact pm_sub [] rfl (bX1_control_138 C X ((m0.trans (pm_S3.le K0)).trans (moX1_branch e68)) hf q)
  have hf := pm_ie hf c62
  by_cases c69 : x1 = 14
  · have hf := pm_it hf c69
    refine pm_tableIn (tgt := 141) C dX1_control_1 (by rw [c69]; decide) (by rw [c69]; decide) (by rw [c69]; rfl) (by decide) ?_
    refine pm_aload_n C dX1_control_141 rfl rfl ?_
    obtain ⟨k70, hf⟩ := pm_if hf
    obtain ⟨v71, e72, hf⟩ := pm_bd hf
    refine pm_callV (as := []) (st := []) C X dX1_control_142 lnX1_372 myX1_branchByTable viX1_branchByTable ⟨by decide, by decide⟩ rfl rfl k70 (Nat.le_of_ble_eq_true rfl) (pa_le1 K0 m0 (moX1_branchByTable e72) (moX1_control_b145 hf)) (pa_le2 K0 m0 (moX1_branchByTable e72) (moX1_control_b145 hf)) (ctX1_branchByTable e72 ?_)
    show pm_G g 145 [(0, .ref x0), (1, .int x1)] [] v71 (pm_sz h - pm_sz h0 + (pm_sz v71 - pm_sz h)) (pm_us h - pm_us h0 + (pm_us v71 - pm_us h))
    refine pa_fin K0 m0 (moX1_branchByTable e72) ?_
    exact pm_sub [] rfl (bX1_control_145 C X ((m0.trans (pm_S3.le K0)).trans (moX1_branchByTable e72)) hf q)
  have hf := pm_ie hf c69
  by_cases c73 : x1 = 15
  · have hf := pm_it hf c73
    refine pm_tableIn (tgt := 148) C dX1_control_1 (by rw [c73]; decide) (by rw [c73]; decide) (by rw [c73]; rfl) (by decide) ?_
    refine pm_aload_n C dX1_control_148 rfl rfl ?_
    refine pm_iconst (v := 0) C dX1_control_149 (by decide) ?_
    obtain ⟨k74, hf⟩ := pm_if hf
    obtain ⟨v75, e76, hf⟩ := pm_bd hf
    refine pm_callV (as := [.int 0]) (st := []) C X dX1_control_150 lnX1_375 myX1_takeWanted viX1_takeWanted ⟨by decide, by decide⟩ rfl rfl k74 (Nat.le_of_ble_eq_true rfl) (pa_le1 K0 m0 (moX1_takeWanted e76) (moX1_control_b153 hf)) (pa_le2 K0 m0 (moX1_takeWanted e76) (moX1_control_b153 hf)) (ctX1_takeWanted e76 ?_)
    show pm_G g 153 [(0, .ref x0), (1, .int x1)] [] v75 (pm_sz h - pm_sz h0 + (pm_sz v75 - pm_sz h)) (pm_us h - pm_us h0 + (pm_us v75 - pm_us h))
    refine pa_fin K0 m0 (moX1_takeWanted e76) ?_
    exact pm_sub [0] rfl (bX1_control_153 C X ((m0.trans (pm_S3.le K0)).trans (moX1_takeWanted e76)) hf q)
  have hf := pm_ie hf c73
  by_cases c77 : x1 = 16
  · have hf := pm_it hf c77
    refine pm_tableIn (tgt := 167) C dX1_control_1 (by rw [c77]; decide) (by rw [c77]; decide) (by rw [c77]; rfl) (by decide) ?_
    refine pm_aload_n C dX1_control_167 rfl rfl ?_
    obtain ⟨k78, hf⟩ := pm_if hf
    obtain ⟨v79, e80, hf⟩ := pm_bd hf
    refine pm_callV (as := []) (st := []) C X dX1_control_168 lnX1_381 myX1_callDirectly viX1_callDirectly ⟨by decide, by decide⟩ rfl rfl k78 (Nat.le_of_ble_eq_true rfl) (pa_le1 K0 m0 (moX1_callDirectly e80) (moX1_control_b171 hf)) (pa_le2 K0 m0 (moX1_callDirectly e80) (moX1_control_b171 hf)) (ctX1_callDirectly e80 ?_)
    show pm_G g 171 [(0, .ref x0), (1, .int x1)] [] v79 (pm_sz h - pm_sz h0 + (pm_sz v79 - pm_sz h)) (pm_us h - pm_us h0 + (pm_us v79 - pm_us h))
    refine pa_fin K0 m0 (moX1_callDirectly e80) ?_
    exact pm_sub [] rfl (bX1_control_171 C X ((m0.trans (pm_S3.le K0)).trans (moX1_callDirectly e80)) hf q)
  have hf := pm_ie hf c77
  have nc1 := lv_neT c1 (by decide : (0 : Int32).toInt = 0)
  have nc10 := lv_neT c10 (by decide : (1 : Int32).toInt = 1)
  have nc15 := lv_neT c15 (by decide : (2 : Int32).toInt = 2)
  have nc19 := lv_neT c19 (by decide : (3 : Int32).toInt = 3)
  have nc23 := lv_neT c23 (by decide : (4 : Int32).toInt = 4)
  have nc27 := lv_neT c27 (by decide : (5 : Int32).toInt = 5)
  have nc31 := lv_neT c31 (by decide : (6 : Int32).toInt = 6)
  have nc35 := lv_neT c35 (by decide : (7 : Int32).toInt = 7)
  have nc39 := lv_neT c39 (by decide : (8 : Int32).toInt = 8)
  have nc43 := lv_neT c43 (by decide : (9 : Int32).toInt = 9)
  have nc47 := lv_neT c47 (by decide : (10 : Int32).toInt = 10)
  have nc51 := lv_neT c51 (by decide : (11 : Int32).toInt = 11)
  have nc55 := lv_neT c55 (by decide : (12 : Int32).toInt = 12)
  have nc62 := lv_neT c62 (by decide : (13 : Int32).toInt = 13)
  have nc69 := lv_neT c69 (by decide : (14 : Int32).toInt = 14)
  have nc73 := lv_neT c73 (by decide : (15 : Int32).toInt = 15)
  have nc77 := lv_neT c77 (by decide : (16 : Int32).toInt = 16)
  refine pm_tableOut (tgt := 174) C dX1_control_1 (by omega) (by decide) ?_
  refine pm_aload_n C dX1_control_174 rfl rfl ?_
  obtain ⟨k81, hf⟩ := pm_if hf
  obtain ⟨v82, e83, hf⟩ := pm_bd hf
  refine pm_callV (as := []) (st := []) C X dX1_control_175 lnX1_384 myX1_callByTable viX1_callByTable ⟨by decide, by decide⟩ rfl rfl k81 (Nat.le_of_ble_eq_true rfl) (pa_le1 K0 m0 (moX1_callByTable e83) (moX1_control_b178 hf)) (pa_le2 K0 m0 (moX1_callByTable e83) (moX1_control_b178 hf)) (ctX1_callByTable e83 ?_)
  show pm_G g 178 [(0, .ref x0), (1, .int x1)] [] v82 (pm_sz h - pm_sz h0 + (pm_sz v82 - pm_sz h)) (pm_us h - pm_us h0 + (pm_us v82 - pm_us h))
  refine pa_fin K0 m0 (moX1_callByTable e83) ?_
  exact pm_sub [] rfl (bX1_control_178 C X ((m0.trans (pm_S3.le K0)).trans (moX1_callByTable e83)) hf q)
set_option maxHeartbeats 4000000 in
set_option maxRecDepth 100000 in
theorem ctX1_control {l : Launch} {G : pm_Gl} {h : pm_H} {a0 : Nat} {p1 : Int32} {r : pm_H} {Qr : Option Value → pm_H → Prop} (hf : fX1_control h a0 p1 = some r) (q : Qr none r) : pm_Ct l G mX1_control [.ref a0, .int p1] h (pm_sz r - pm_sz h) (pm_us r - pm_us h) Qr := by
  refine pm_body pnX1 (Nat.le_of_ble_eq_true rfl) (fun g C X => ?_)
  have C : pm_C g cX1_control RX1 := C
  show pm_G g 0 [(0, .ref a0), (1, .int p1)] [] h 0 0
  unfold fX1_control at hf
  exact pa_start (pm_sub [0, 1] rfl (bX1_control_0 C X (pm_Le.rf h) hf q))
