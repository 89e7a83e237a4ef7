theorem dX12_make_0 : decode cX12_make 0 = .ok (.iload_n 1, 1) := by decide +kernel
theorem dX12_make_1 : decode cX12_make 1 = .ok (.ifCond .lt 20, 3) := by decide +kernel
theorem dX12_make_4 : decode cX12_make 4 = .ok (.iload_n 1, 1) := by decide +kernel
theorem dX12_make_5 : decode cX12_make 5 = .ok (.aload_n 0, 1) := by decide +kernel
theorem dX12_make_6 : decode cX12_make 6 = .ok (.getfield 77, 3) := by decide +kernel
theorem dX12_make_9 : decode cX12_make 9 = .ok (.if_icmp .ge 12, 3) := by decide +kernel
theorem dX12_make_12 : decode cX12_make 12 = .ok (.iload_n 1, 1) := by decide +kernel
theorem dX12_make_13 : decode cX12_make 13 = .ok (.aload_n 0, 1) := by decide +kernel
theorem dX12_make_14 : decode cX12_make 14 = .ok (.getfield 16, 3) := by decide +kernel
theorem dX12_make_17 : decode cX12_make 17 = .ok (.arraylength, 1) := by decide +kernel
theorem dX12_make_18 : decode cX12_make 18 = .ok (.if_icmp .lt 5, 3) := by decide +kernel
theorem dX12_make_21 : decode cX12_make 21 = .ok (.iconst (-1), 1) := by decide +kernel
theorem dX12_make_22 : decode cX12_make 22 = .ok (.ireturn, 1) := by decide +kernel
theorem dX12_make_23 : decode cX12_make 23 = .ok (.aload_n 0, 1) := by decide +kernel
theorem dX12_make_24 : decode cX12_make 24 = .ok (.getfield 61, 3) := by decide +kernel
theorem dX12_make_27 : decode cX12_make 27 = .ok (.invokevirtual 156, 3) := by decide +kernel
theorem dX12_make_30 : decode cX12_make 30 = .ok (.ifCond .eq 6, 3) := by decide +kernel
theorem dX12_make_33 : decode cX12_make 33 = .ok (.bipush (-10), 2) := by decide +kernel
theorem dX12_make_35 : decode cX12_make 35 = .ok (.ireturn, 1) := by decide +kernel
theorem dX12_make_36 : decode cX12_make 36 = .ok (.aload_n 0, 1) := by decide +kernel
theorem dX12_make_37 : decode cX12_make 37 = .ok (.getfield 16, 3) := by decide +kernel
theorem dX12_make_40 : decode cX12_make 40 = .ok (.iload_n 1, 1) := by decide +kernel
theorem dX12_make_41 : decode cX12_make 41 = .ok (.aaload, 1) := by decide +kernel
theorem dX12_make_42 : decode cX12_make 42 = .ok (.astore_n 2, 1) := by decide +kernel
theorem dX12_make_43 : decode cX12_make 43 = .ok (.aload_n 0, 1) := by decide +kernel
theorem dX12_make_44 : decode cX12_make 44 = .ok (.getfield 52, 3) := by decide +kernel
theorem dX12_make_47 : decode cX12_make 47 = .ok (.aload_n 2, 1) := by decide +kernel
theorem dX12_make_48 : decode cX12_make 48 = .ok (.aload_n 0, 1) := by decide +kernel
theorem dX12_make_49 : decode cX12_make 49 = .ok (.getfield 20, 3) := by decide +kernel
theorem dX12_make_52 : decode cX12_make 52 = .ok (.aload_n 0, 1) := by decide +kernel
theorem dX12_make_53 : decode cX12_make 53 = .ok (.getfield 132, 3) := by decide +kernel
theorem dX12_make_56 : decode cX12_make 56 = .ok (.invokevirtual 159, 3) := by decide +kernel
theorem dX12_make_59 : decode cX12_make 59 = .ok (.istore_n 3, 1) := by decide +kernel
theorem dX12_make_60 : decode cX12_make 60 = .ok (.aload_n 0, 1) := by decide +kernel
theorem dX12_make_61 : decode cX12_make 61 = .ok (.getfield 132, 3) := by decide +kernel
theorem dX12_make_64 : decode cX12_make 64 = .ok (.istore 4, 2) := by decide +kernel
theorem dX12_make_66 : decode cX12_make 66 = .ok (.aload_n 0, 1) := by decide +kernel
theorem dX12_make_67 : decode cX12_make 67 = .ok (.iconst 0, 1) := by decide +kernel
theorem dX12_make_68 : decode cX12_make 68 = .ok (.putfield 132, 3) := by decide +kernel
theorem dX12_make_71 : decode cX12_make 71 = .ok (.iload_n 3, 1) := by decide +kernel
theorem dX12_make_72 : decode cX12_make 72 = .ok (.ifCond .eq 5, 3) := by decide +kernel
theorem dX12_make_75 : decode cX12_make 75 = .ok (.iload_n 3, 1) := by decide +kernel
theorem dX12_make_76 : decode cX12_make 76 = .ok (.ireturn, 1) := by decide +kernel
theorem dX12_make_77 : decode cX12_make 77 = .ok (.aload_n 0, 1) := by decide +kernel
theorem dX12_make_78 : decode cX12_make 78 = .ok (.getfield 52, 3) := by decide +kernel
theorem dX12_make_81 : decode cX12_make 81 = .ok (.aload_n 2, 1) := by decide +kernel
theorem dX12_make_82 : decode cX12_make 82 = .ok (.aload_n 0, 1) := by decide +kernel
theorem dX12_make_83 : decode cX12_make 83 = .ok (.getfield 20, 3) := by decide +kernel
theorem dX12_make_86 : decode cX12_make 86 = .ok (.iload 4, 2) := by decide +kernel
theorem dX12_make_88 : decode cX12_make 88 = .ok (.invokevirtual 163, 3) := by decide +kernel
theorem dX12_make_91 : decode cX12_make 91 = .ok (.astore 5, 2) := by decide +kernel
theorem dX12_make_93 : decode cX12_make 93 = .ok (.aload_n 0, 1) := by decide +kernel
theorem dX12_make_94 : decode cX12_make 94 = .ok (.getfield 52, 3) := by decide +kernel
theorem dX12_make_97 : decode cX12_make 97 = .ok (.aload 5, 2) := by decide +kernel
theorem dX12_make_99 : decode cX12_make 99 = .ok (.invokevirtual 167, 3) := by decide +kernel
theorem dX12_make_102 : decode cX12_make 102 = .ok (.istore 6, 2) := by decide +kernel
theorem dX12_make_104 : decode cX12_make 104 = .ok (.iload 6, 2) := by decide +kernel
theorem dX12_make_106 : decode cX12_make 106 = .ok (.ifCond .eq 15, 3) := by decide +kernel
theorem dX12_make_109 : decode cX12_make 109 = .ok (.aload_n 0, 1) := by decide +kernel
theorem dX12_make_110 : decode cX12_make 110 = .ok (.getfield 61, 3) := by decide +kernel
theorem dX12_make_113 : decode cX12_make 113 = .ok (.iload 6, 2) := by decide +kernel
theorem dX12_make_115 : decode cX12_make 115 = .ok (.invokevirtual 171, 3) := by decide +kernel
theorem dX12_make_118 : decode cX12_make 118 = .ok (.goto 37, 3) := by decide +kernel
theorem dX12_make_121 : decode cX12_make 121 = .ok (.aload_n 2, 1) := by decide +kernel
theorem dX12_make_122 : decode cX12_make 122 = .ok (.getfield 174, 3) := by decide +kernel
theorem dX12_make_125 : decode cX12_make 125 = .ok (.lconst 0, 1) := by decide +kernel
theorem dX12_make_126 : decode cX12_make 126 = .ok (.lcmp, 1) := by decide +kernel
theorem dX12_make_127 : decode cX12_make 127 = .ok (.ifCond .lt 28, 3) := by decide +kernel
theorem dX12_make_130 : decode cX12_make 130 = .ok (.aload_n 0, 1) := by decide +kernel
theorem dX12_make_131 : decode cX12_make 131 = .ok (.getfield 61, 3) := by decide +kernel
theorem dX12_make_134 : decode cX12_make 134 = .ok (.aload 5, 2) := by decide +kernel
theorem dX12_make_136 : decode cX12_make 136 = .ok (.getfield 178, 3) := by decide +kernel
theorem dX12_make_139 : decode cX12_make 139 = .ok (.aload_n 2, 1) := by decide +kernel
theorem dX12_make_140 : decode cX12_make 140 = .ok (.getfield 174, 3) := by decide +kernel
theorem dX12_make_143 : decode cX12_make 143 = .ok (.l2i, 1) := by decide +kernel
theorem dX12_make_144 : decode cX12_make 144 = .ok (.invokestatic 181, 3) := by decide +kernel
theorem dX12_make_147 : decode cX12_make 147 = .ok (.aload_n 0, 1) := by decide +kernel
theorem dX12_make_148 : decode cX12_make 148 = .ok (.getfield 24, 3) := by decide +kernel
theorem dX12_make_151 : decode cX12_make 151 = .ok (.iconst 0, 1) := by decide +kernel
theorem dX12_make_152 : decode cX12_make 152 = .ok (.invokevirtual 185, 3) := by decide +kernel
theorem dX12_make_155 : decode cX12_make 155 = .ok (.aload_n 0, 1) := by decide +kernel
theorem dX12_make_156 : decode cX12_make 156 = .ok (.getfield 52, 3) := by decide +kernel
theorem dX12_make_159 : decode cX12_make 159 = .ok (.getfield 188, 3) := by decide +kernel
theorem dX12_make_162 : decode cX12_make 162 = .ok (.iconst 1, 1) := by decide +kernel
theorem dX12_make_163 : decode cX12_make 163 = .ok (.isub, 1) := by decide +kernel
theorem dX12_make_164 : decode cX12_make 164 = .ok (.ireturn, 1) := by decide +kernel
noncomputable def fX12_make_b155 (h : pm_H) (x0 : Nat) : Option (Int32 × pm_H) := if pm_kd h x0 = 12 then (pm_R h x0 10).bind fun v65 => if pm_kd h v65 = 10 then some (((pm_I h v65 3) - 1, h)) else none else none
noncomputable def fX12_make_b102 (h : pm_H) (x0 : Nat) (x2 : Nat) (x5 : Nat) (s0 : Int32) : Option (Int32 × pm_H) := if s0 = 0 then (if pm_kd h x2 = 7 then if (pm_L h x2 13) < 0 then (fX12_make_b155 h x0) else (if pm_kd h x0 = 12 then (pm_R h x0 11).bind fun v45 => if pm_kd h x5 = 4 then (pm_R h x5 1).bind fun v48 => (fX12_item h v48 ((pm_L h x2 13).toInt32)).bind fun v50 => (pm_R h x0 14).bind fun v52 => if pm_kd h v45 = 5 then (fX5_begin h v45 v50 v52 0).bind fun v55 => fX12_make_b155 v55 x0 else none else none else none) else none) else (if pm_kd h x0 = 12 then (pm_R h x0 11).bind fun v58 => if pm_kd h v58 = 5 then (fX5_failAtMaking h v58 s0).bind fun v61 => fX12_make_b155 v61 x0 else none else none)
noncomputable def fX12_make_b91 (h : pm_H) (x0 : Nat) (x2 : Nat) (s0 : Nat) : Option (Int32 × pm_H) := if pm_kd h x0 = 12 then (pm_R h x0 10).bind fun v36 => if pm_kd h v36 = 10 then (fX10_fillSegments h v36 s0).bind fun v39 => fX12_make_b102 v39.2 x0 x2 s0 v39.1 else none else none
noncomputable def fX12_make_b59 (h : pm_H) (x0 : Nat) (x2 : Nat) (s0 : Int32) : Option (Int32 × pm_H) := if pm_kd h x0 = 12 then pm_let (pm_I h x0 13) fun y25 => if s0 = 0 then ((pm_R (pm_setI h x0 13 0) x0 10).bind fun v28 => (pm_R (pm_setI h x0 13 0) x0 12).bind fun v30 => if pm_kd (pm_setI h x0 13 0) v28 = 10 then (fX10_create (pm_setI h x0 13 0) v28 x2 v30 y25).bind fun v33 => fX12_make_b91 v33.2 x0 x2 v33.1 else none) else (some ((s0, pm_setI h x0 13 0))) else none
noncomputable def fX12_make_b0 (h : pm_H) (x0 : Nat) (x1 : Int32) : Option (Int32 × pm_H) := if x1 < 0 then (some (((-1), h))) else (if pm_kd h x0 = 12 then if (pm_I h x0 4) ≤ x1 then (some (((-1), h))) else ((pm_R h x0 3).bind fun v4 => if pm_kd h v4 = 41 then if x1 < (Int32.ofNat (pm_ln h v4)) then ((pm_R h x0 11).bind fun v8 => if pm_kd h v8 = 5 then (fX5_isBusy h v8).bind fun v11 => if v11 = 0 then (if pm_in x1 (pm_ln h v4) then (pm_R h v4 x1.toNatClampNeg).bind fun v15 => (pm_R h x0 10).bind fun v17 => (pm_R h x0 12).bind fun v19 => if pm_kd h v17 = 10 then (fX10_refusal h v17 v15 v19 (pm_I h x0 13)).bind fun v22 => fX12_make_b59 v22.2 x0 v15 v22.1 else none else none) else (some (((-10), h))) else none) else (some (((-1), h))) else none) else none)
noncomputable def fX12_make (h : pm_H) (a0 : Nat) (p1 : Int32) : Option (Int32 × pm_H) := fX12_make_b0 h a0 p1
set_option maxHeartbeats 4000000 in
set_option maxRecDepth 100000 in
theorem moX12_make_b155 {h : pm_H} {x0 : Nat} {r : (Int32 × pm_H)} (hf : fX12_make_b155 h x0 = some r) : pm_Le h r.2 := by
  unfold fX12_make_b155 at hf
  have K0 := pm_S3.rf h
  obtain ⟨k64, hf⟩ := pm_if hf
  obtain ⟨v65, e66, hf⟩ := pm_bd hf
  obtain ⟨k67, hf⟩ := pm_if hf
  have hf := Option.some.inj hf
  subst hf
  exact pm_S3.le K0
set_option maxHeartbeats 4000000 in
set_option maxRecDepth 100000 in
theorem moX12_make_b102 {h : pm_H} {x0 : Nat} {x2 : Nat} {x5 : Nat} {s0 : Int32} {r : (Int32 × pm_H)} (hf : fX12_make_b102 h x0 x2 x5 s0 = some r) : pm_Le h r.2 := by
  unfold fX12_make_b102 at hf
  have K0 := pm_S3.rf h
  by_cases c41 : s0 = 0
  · have hf := pm_it hf c41
    obtain ⟨k42, hf⟩ := pm_if hf
    by_cases c43 : (pm_L h x2 13) < 0
    · have hf := pm_it hf c43
      exact (pm_S3.le K0).trans (moX12_make_b155 hf)
    · have hf := pm_ie hf c43
      obtain ⟨k44, hf⟩ := pm_if hf
      obtain ⟨v45, e46, hf⟩ := pm_bd hf
      obtain ⟨k47, hf⟩ := pm_if hf
      obtain ⟨v48, e49, hf⟩ := pm_bd hf
      obtain ⟨v50, e51, hf⟩ := pm_bd hf
      obtain ⟨v52, e53, hf⟩ := pm_bd hf
      obtain ⟨k54, hf⟩ := pm_if hf
      obtain ⟨v55, e56, hf⟩ := pm_bd hf
      exact ((pm_S3.le K0).trans (moX5_begin e56)).trans (moX12_make_b155 hf)
  · have hf := pm_ie hf c41
    obtain ⟨k57, hf⟩ := pm_if hf
    obtain ⟨v58, e59, hf⟩ := pm_bd hf
    obtain ⟨k60, hf⟩ := pm_if hf
    obtain ⟨v61, e62, hf⟩ := pm_bd hf
    have K63 := pm_S3.trans (kpX5_failAtMaking e62) K0
    exact (pm_S3.le K63).trans (moX12_make_b155 hf)
set_option maxHeartbeats 4000000 in
set_option maxRecDepth 100000 in
theorem moX12_make_b91 {h : pm_H} {x0 : Nat} {x2 : Nat} {s0 : Nat} {r : (Int32 × pm_H)} (hf : fX12_make_b91 h x0 x2 s0 = some r) : pm_Le h r.2 := by
  unfold fX12_make_b91 at hf
  have K0 := pm_S3.rf h
  obtain ⟨k35, hf⟩ := pm_if hf
  obtain ⟨v36, e37, hf⟩ := pm_bd hf
  obtain ⟨k38, hf⟩ := pm_if hf
  obtain ⟨v39, e40, hf⟩ := pm_bd hf
  exact ((pm_S3.le K0).trans (moX10_fillSegments e40)).trans (moX12_make_b102 hf)
set_option maxHeartbeats 4000000 in
set_option maxRecDepth 100000 in
theorem moX12_make_b59 {h : pm_H} {x0 : Nat} {x2 : Nat} {s0 : Int32} {r : (Int32 × pm_H)} (hf : fX12_make_b59 h x0 x2 s0 = some r) : pm_Le h r.2 := by
  unfold fX12_make_b59 at hf
  have K0 := pm_S3.rf h
  obtain ⟨k24, hf⟩ := pm_if hf
  obtain ⟨y25, e26, hf⟩ := pm_lt hf
  by_cases c27 : s0 = 0
  · have hf := pm_it hf c27
    obtain ⟨v28, e29, hf⟩ := pm_bd hf
    obtain ⟨v30, e31, hf⟩ := pm_bd hf
    obtain ⟨k32, hf⟩ := pm_if hf
    obtain ⟨v33, e34, hf⟩ := pm_bd hf
    exact ((pm_S3.le (pm_S3I K0)).trans (moX10_create e34)).trans (moX12_make_b91 hf)
  · have hf := pm_ie hf c27
    have hf := Option.some.inj hf
    subst hf
    exact pm_S3.le (pm_S3I K0)
set_option maxHeartbeats 4000000 in
set_option maxRecDepth 100000 in
theorem moX12_make_b0 {h : pm_H} {x0 : Nat} {x1 : Int32} {r : (Int32 × pm_H)} (hf : fX12_make_b0 h x0 x1 = some r) : pm_Le h r.2 := by
  unfold fX12_make_b0 at hf
  have K0 := pm_S3.rf h
  by_cases c1 : x1 < 0
  · have hf := pm_it hf c1
    have hf := Option.some.inj hf
    subst hf
    exact pm_S3.le K0
  · have hf := pm_ie hf c1
    obtain ⟨k2, hf⟩ := pm_if hf
    by_cases c3 : (pm_I h x0 4) ≤ x1
    · have hf := pm_it hf c3
      have hf := Option.some.inj hf
      subst hf
      exact pm_S3.le K0
    · have hf := pm_ie hf c3
      obtain ⟨v4, e5, hf⟩ := pm_bd hf
      obtain ⟨k6, hf⟩ := pm_if hf
      by_cases c7 : x1 < (Int32.ofNat (pm_ln h v4))
      · have hf := pm_it hf c7
        obtain ⟨v8, e9, hf⟩ := pm_bd hf
        obtain ⟨k10, hf⟩ := pm_if hf
        obtain ⟨v11, e12, hf⟩ := pm_bd hf
        by_cases c13 : v11 = 0
        · have hf := pm_it hf c13
          obtain ⟨u14, hf⟩ := pm_if hf
          obtain ⟨v15, e16, hf⟩ := pm_bd hf
          obtain ⟨v17, e18, hf⟩ := pm_bd hf
          obtain ⟨v19, e20, hf⟩ := pm_bd hf
          obtain ⟨k21, hf⟩ := pm_if hf
          obtain ⟨v22, e23, hf⟩ := pm_bd hf
          exact ((pm_S3.le K0).trans (moX10_refusal e23)).trans (moX12_make_b59 hf)
        · have hf := pm_ie hf c13
          have hf := Option.some.inj hf
          subst hf
          exact pm_S3.le K0
      · have hf := pm_ie hf c7
        have hf := Option.some.inj hf
        subst hf
        exact pm_S3.le K0
set_option maxHeartbeats 4000000 in
set_option maxRecDepth 100000 in
theorem moX12_make {h : pm_H} {a0 : Nat} {p1 : Int32} {r : (Int32 × pm_H)} (hf : fX12_make h a0 p1 = some r) : pm_Le h r.2 := by
  unfold fX12_make at hf
  have K0 := pm_S3.rf h
  exact (pm_S3.le K0).trans (moX12_make_b0 hf)
set_option maxHeartbeats 4000000 in
set_option maxRecDepth 100000 in
theorem bX12_make_155 {g : pm_Gm} {l : Launch} {G : pm_Gl} {Qr : Option Value → pm_H → Prop} (C : pm_C g cX12_make RX12) {h0 h : pm_H} {x0 : Nat} {r : (Int32 × pm_H)} (X : pm_X g l G mX12_make (pm_sz r.2 - pm_sz h0) (pm_us r.2 - pm_us h0) Qr) (m0 : pm_Le h0 h) (hf : fX12_make_b155 h x0 = some r) (q : Qr (some (.int r.1)) r.2) : pm_G g 155 [(0, .ref x0)] [] h (pm_sz h - pm_sz h0) (pm_us h - pm_us h0) := by
  have le0 := moX12_make_b155 hf
  have kc1 := Nat.sub_le_sub_right le0.1 (pm_sz h0)
  have kc2 := Nat.sub_le_sub_right le0.2 (pm_us h0)
  have K0 := pm_S3.rf h
  unfold fX12_make_b155 at hf
  refine pm_aload_n C dX12_make_155 rfl rfl ?_
  obtain ⟨k64, hf⟩ := pm_if hf
  obtain ⟨v65, e66, hf⟩ := pm_bd hf
  refine pm_getR C dX12_make_156 flX12_52 rfl k64 e66 ?_
  obtain ⟨k67, hf⟩ := pm_if hf
  refine pm_getI C dX12_make_159 flX12_188 rfl k67 rfl ?_
  refine pm_iconst (v := 1) C dX12_make_162 (by decide) ?_
  refine pm_isub C dX12_make_163 ?_
  have hf := Option.some.inj hf
  subst hf
  exact pm_iret C X dX12_make_164 rfl kc1 kc2 q
set_option maxHeartbeats 4000000 in
set_option maxRecDepth 100000 in
theorem bX12_make_102 {g : pm_Gm} {l : Launch} {G : pm_Gl} {Qr : Option Value → pm_H → Prop} (C : pm_C g cX12_make RX12) {h0 h : pm_H} {x0 : Nat} {x2 : Nat} {x5 : Nat} {s0 : Int32} {r : (Int32 × pm_H)} (X : pm_X g l G mX12_make (pm_sz r.2 - pm_sz h0) (pm_us r.2 - pm_us h0) Qr) (m0 : pm_Le h0 h) (hf : fX12_make_b102 h x0 x2 x5 s0 = some r) (q : Qr (some (.int r.1)) r.2) : pm_G g 102 [(0, .ref x0), (2, .ref x2), (5, .ref x5)] [.int s0] h (pm_sz h - pm_sz h0) (pm_us h - pm_us h0) := by
  have le0 := moX12_make_b102 hf
  have kc1 := Nat.sub_le_sub_right le0.1 (pm_sz h0)
  have kc2 := Nat.sub_le_sub_right le0.2 (pm_us h0)
  have K0 := pm_S3.rf h
  unfold fX12_make_b102 at hf
  refine pm_istore (lv' := [(6, .int s0), (0, .ref x0), (2, .ref x2), (5, .ref x5)]) C dX12_make_102 (pm_nl X (by decide)) rfl ?_
  refine pm_iload C dX12_make_104 rfl ?_
  refine pm_if_eq (tgt := 121) C dX12_make_106 (by decide) (fun c41 => ?_) (fun c41 => ?_)
  · have hf := pm_it hf c41
    refine pm_aload_n C dX12_make_121 rfl rfl ?_
    obtain ⟨k42, hf⟩ := pm_if hf
    refine pm_getL C dX12_make_122 flX12_174 rfl k42 rfl ?_
    refine pm_lconst (v := 0) C dX12_make_125 (by decide) ?_
    refine pm_lcmp C dX12_make_126 ?_
    refine pm_if_lt (tgt := 155) C dX12_make_127 (by decide) (fun c43 => ?_) (fun c43 => ?_)
    · have hf := pm_it hf ((pm_lg_lt _ _).mp c43)
      exact pa_join K0 (pm_sub [1] rfl (bX12_make_155 C X (m0.trans (pm_S3.le K0)) hf q))
    · have hf := pm_ie hf ((fun z => c43 ((pm_lg_lt _ _).mpr z)))
      refine pm_aload_n C dX12_make_130 rfl rfl ?_
      obtain ⟨k44, hf⟩ := pm_if hf
      obtain ⟨v45, e46, hf⟩ := pm_bd hf
      refine pm_getR C dX12_make_131 flX12_61 rfl k44 e46 ?_
      refine pm_aload C dX12_make_134 rfl ?_
      obtain ⟨k47, hf⟩ := pm_if hf
      obtain ⟨v48, e49, hf⟩ := pm_bd hf
      refine pm_getR C dX12_make_136 flX12_178 rfl k47 e49 ?_
      refine pm_aload_n C dX12_make_139 rfl rfl ?_
      refine pm_getL C dX12_make_140 flX12_174 rfl k42 rfl ?_
      refine pm_l2i C dX12_make_143 ?_
      obtain ⟨v50, e51, hf⟩ := pm_bd hf
      refine pm_callS (as := [.ref v48, .int ((pm_L h x2 13).toInt32)]) (st := [.ref v45]) C X dX12_make_144 lnX12_181 myX12_item stX12_item ⟨by decide, by decide⟩ rfl rfl (Nat.le_of_ble_eq_true rfl) kc1 kc2 (ctX12_item e51 ?_)
      show pm_G g 147 [(6, .int s0), (0, .ref x0), (2, .ref x2), (5, .ref x5)] [.int v50, .ref v45] h (pm_sz h - pm_sz h0) (pm_us h - pm_us h0)
      refine pm_aload_n C dX12_make_147 rfl rfl ?_
      obtain ⟨v52, e53, hf⟩ := pm_bd hf
      refine pm_getR C dX12_make_148 flX12_24 rfl k44 e53 ?_
      refine pm_iconst (v := 0) C dX12_make_151 (by decide) ?_
      obtain ⟨k54, hf⟩ := pm_if hf
      obtain ⟨v55, e56, hf⟩ := pm_bd hf
      refine pm_callV (as := [.int v50, .ref v52, .int 0]) (st := []) C X dX12_make_152 lnX12_185 myX5_begin viX5_begin ⟨by decide, by decide⟩ rfl rfl k54 (Nat.le_of_ble_eq_true rfl) (pa_le1 K0 m0 (moX5_begin e56) (moX12_make_b155 hf)) (pa_le2 K0 m0 (moX5_begin e56) (moX12_make_b155 hf)) (ctX5_begin e56 ?_)
      show pm_G g 155 [(6, .int s0), (0, .ref x0), (2, .ref x2), (5, .ref x5)] [] v55 (pm_sz h - pm_sz h0 + (pm_sz v55 - pm_sz h)) (pm_us h - pm_us h0 + (pm_us v55 - pm_us h))
      refine pa_fin K0 m0 (moX5_begin e56) ?_
      exact pm_sub [1] rfl (bX12_make_155 C X ((m0.trans (pm_S3.le K0)).trans (moX5_begin e56)) hf q)
  · have hf := pm_ie hf c41
    refine pm_aload_n C dX12_make_109 rfl rfl ?_
    obtain ⟨k57, hf⟩ := pm_if hf
    obtain ⟨v58, e59, hf⟩ := pm_bd hf
    refine pm_getR C dX12_make_110 flX12_61 rfl k57 e59 ?_
    refine pm_iload C dX12_make_113 rfl ?_
    obtain ⟨k60, hf⟩ := pm_if hf
    obtain ⟨v61, e62, hf⟩ := pm_bd hf
    refine pm_callV (as := [.int s0]) (st := []) C X dX12_make_115 lnX12_171 myX5_failAtMaking viX5_failAtMaking ⟨by decide, by decide⟩ rfl rfl k60 (Nat.le_of_ble_eq_true rfl) kc1 kc2 (ctX5_failAtMaking e62 ?_)
    have K63 := pm_S3.trans (kpX5_failAtMaking e62) K0
    show pm_G g 118 [(6, .int s0), (0, .ref x0), (2, .ref x2), (5, .ref x5)] [] v61 (pm_sz h - pm_sz h0) (pm_us h - pm_us h0)
    refine pm_goto (tgt := 155) C dX12_make_118 (by decide) ?_
    exact pa_join K63 (pm_sub [1] rfl (bX12_make_155 C X (m0.trans (pm_S3.le K63)) hf q))
set_option maxHeartbeats 4000000 in
set_option maxRecDepth 100000 in
theorem bX12_make_91 {g : pm_Gm} {l : Launch} {G : pm_Gl} {Qr : Option Value → pm_H → Prop} (C : pm_C g cX12_make RX12) {h0 h : pm_H} {x0 : Nat} {x2 : Nat} {s0 : Nat} {r : (Int32 × pm_H)} (X : pm_X g l G mX12_make (pm_sz r.2 - pm_sz h0) (pm_us r.2 - pm_us h0) Qr) (m0 : pm_Le h0 h) (hf : fX12_make_b91 h x0 x2 s0 = some r) (q : Qr (some (.int r.1)) r.2) : pm_G g 91 [(0, .ref x0), (2, .ref x2)] [.ref s0] h (pm_sz h - pm_sz h0) (pm_us h - pm_us h0) := by
  have le0 := moX12_make_b91 hf
  have kc1 := Nat.sub_le_sub_right le0.1 (pm_sz h0)
  have kc2 := Nat.sub_le_sub_right le0.2 (pm_us h0)
  have K0 := pm_S3.rf h
  unfold fX12_make_b91 at hf
  refine pm_astore (lv' := [(5, .ref s0), (0, .ref x0), (2, .ref x2)]) C dX12_make_91 (pm_nl X (by decide)) rfl ?_
  refine pm_aload_n C dX12_make_93 rfl rfl ?_
  obtain ⟨k35, hf⟩ := pm_if hf
  obtain ⟨v36, e37, hf⟩ := pm_bd hf
  refine pm_getR C dX12_make_94 flX12_52 rfl k35 e37 ?_
  refine pm_aload C dX12_make_97 rfl ?_
  obtain ⟨k38, hf⟩ := pm_if hf
  obtain ⟨v39, e40, hf⟩ := pm_bd hf
  refine pm_callV (as := [.ref s0]) (st := []) C X dX12_make_99 lnX12_167 myX10_fillSegments viX10_fillSegments ⟨by decide, by decide⟩ rfl rfl k38 (Nat.le_of_ble_eq_true rfl) (pa_le1 K0 m0 (moX10_fillSegments e40) (moX12_make_b102 hf)) (pa_le2 K0 m0 (moX10_fillSegments e40) (moX12_make_b102 hf)) (ctX10_fillSegments e40 ?_)
  show pm_G g 102 [(5, .ref s0), (0, .ref x0), (2, .ref x2)] [.int v39.1] v39.2 (pm_sz h - pm_sz h0 + (pm_sz v39.2 - pm_sz h)) (pm_us h - pm_us h0 + (pm_us v39.2 - pm_us h))
  refine pa_fin K0 m0 (moX10_fillSegments e40) ?_
  exact pm_sub [1, 2, 0] rfl (bX12_make_102 C X ((m0.trans (pm_S3.le K0)).trans (moX10_fillSegments e40)) hf q)
set_option maxHeartbeats 4000000 in
set_option maxRecDepth 100000 in
theorem bX12_make_59 {g : pm_Gm} {l : Launch} {G : pm_Gl} {Qr : Option Value → pm_H → Prop} (C : pm_C g cX12_make RX12) {h0 h : pm_H} {x0 : Nat} {x2 : Nat} {s0 : Int32} {r : (Int32 × pm_H)} (X : pm_X g l G mX12_make (pm_sz r.2 - pm_sz h0) (pm_us r.2 - pm_us h0) Qr) (m0 : pm_Le h0 h) (hf : fX12_make_b59 h x0 x2 s0 = some r) (q : Qr (some (.int r.1)) r.2) : pm_G g 59 [(0, .ref x0), (2, .ref x2)] [.int s0] h (pm_sz h - pm_sz h0) (pm_us h - pm_us h0) := by
  have le0 := moX12_make_b59 hf
  have kc1 := Nat.sub_le_sub_right le0.1 (pm_sz h0)
  have kc2 := Nat.sub_le_sub_right le0.2 (pm_us h0)
  have K0 := pm_S3.rf h
  unfold fX12_make_b59 at hf
  refine pm_istore_n (lv' := [(3, .int s0), (0, .ref x0), (2, .ref x2)]) C dX12_make_59 rfl (pm_nl X (by decide)) rfl ?_
  refine pm_aload_n C dX12_make_60 rfl rfl ?_
  obtain ⟨k24, hf⟩ := pm_if hf
  refine pm_getI C dX12_make_61 flX12_132 rfl k24 rfl ?_
  obtain ⟨y25, e26, hf⟩ := pm_lt hf
  refine pm_topI e26 ?_
  refine pm_istore (lv' := [(4, .int y25), (3, .int s0), (0, .ref x0), (2, .ref x2)]) C dX12_make_64 (pm_nl X (by decide)) rfl ?_
  refine pm_aload_n C dX12_make_66 rfl rfl ?_
  refine pm_iconst (v := 0) C dX12_make_67 (by decide) ?_
  refine pm_putI C dX12_make_68 flX12_132 rfl rfl k24 rfl rfl ?_
  refine pm_iload_n C dX12_make_71 rfl rfl ?_
  refine pm_if_eq (tgt := 77) C dX12_make_72 (by decide) (fun c27 => ?_) (fun c27 => ?_)
  · have hf := pm_it hf c27
    refine pm_aload_n C dX12_make_77 rfl rfl ?_
    obtain ⟨v28, e29, hf⟩ := pm_bd hf
    refine pm_getR C dX12_make_78 flX12_52 rfl k24 e29 ?_
    refine pm_aload_n C dX12_make_81 rfl rfl ?_
    refine pm_aload_n C dX12_make_82 rfl rfl ?_
    obtain ⟨v30, e31, hf⟩ := pm_bd hf
    refine pm_getR C dX12_make_83 flX12_20 rfl k24 e31 ?_
    refine pm_iload C dX12_make_86 rfl ?_
    obtain ⟨k32, hf⟩ := pm_if hf
    obtain ⟨v33, e34, hf⟩ := pm_bd hf
    refine pm_callV (as := [.ref x2, .ref v30, .int y25]) (st := []) C X dX12_make_88 lnX12_163 myX10_create viX10_create ⟨by decide, by decide⟩ rfl rfl k32 (Nat.le_of_ble_eq_true rfl) (pa_le1 (pm_S3I K0) m0 (moX10_create e34) (moX12_make_b91 hf)) (pa_le2 (pm_S3I K0) m0 (moX10_create e34) (moX12_make_b91 hf)) (ctX10_create e34 ?_)
    show pm_G g 91 [(4, .int y25), (3, .int s0), (0, .ref x0), (2, .ref x2)] [.ref v33.1] v33.2 (pm_sz h - pm_sz h0 + (pm_sz v33.2 - pm_sz (pm_setI h x0 13 0))) (pm_us h - pm_us h0 + (pm_us v33.2 - pm_us (pm_setI h x0 13 0)))
    refine pa_fin (pm_S3I K0) m0 (moX10_create e34) ?_
    exact pm_sub [2, 3] rfl (bX12_make_91 C X ((m0.trans (pm_S3.le (pm_S3I K0))).trans (moX10_create e34)) hf q)
  · have hf := pm_ie hf c27
    refine pm_iload_n C dX12_make_75 rfl rfl ?_
    have hf := Option.some.inj hf
    subst hf
    exact pm_iret C X dX12_make_76 rfl kc1 kc2 q
set_option maxHeartbeats 4000000 in
set_option maxRecDepth 100000 in
theorem bX12_make_0 {g : pm_Gm} {l : Launch} {G : pm_Gl} {Qr : Option Value → pm_H → Prop} (C : pm_C g cX12_make RX12) {h0 h : pm_H} {x0 : Nat} {x1 : Int32} {r : (Int32 × pm_H)} (X : pm_X g l G mX12_make (pm_sz r.2 - pm_sz h0) (pm_us r.2 - pm_us h0) Qr) (m0 : pm_Le h0 h) (hf : fX12_make_b0 h x0 x1 = some r) (q : Qr (some (.int r.1)) r.2) : pm_G g 0 [(0, .ref x0), (1, .int x1)] [] h (pm_sz h - pm_sz h0) (pm_us h - pm_us h0) := by
  have le0 := moX12_make_b0 hf
  have kc1 := Nat.sub_le_sub_right le0.1 (pm_sz h0)
  have kc2 := Nat.sub_le_sub_right le0.2 (pm_us h0)
  have K0 := pm_S3.rf h
  unfold fX12_make_b0 at hf
  refine pm_iload_n C dX12_make_0 rfl rfl ?_
  refine pm_if_lt (tgt := 21) C dX12_make_1 (by decide) (fun c1 => ?_) (fun c1 => ?_)
  · have hf := pm_it hf c1
    refine pm_iconst (v := (-1)) C dX12_make_21 (by decide) ?_
    have hf := Option.some.inj hf
    subst hf
    exact pm_iret C X dX12_make_22 rfl kc1 kc2 q
  · have hf := pm_ie hf c1
    refine pm_iload_n C dX12_make_4 rfl rfl ?_
    refine pm_aload_n C dX12_make_5 rfl rfl ?_
    obtain ⟨k2, hf⟩ := pm_if hf
    refine pm_getI C dX12_make_6 flX12_77 rfl k2 rfl ?_
    refine pm_icmp_ge (tgt := 21) C dX12_make_9 (by decide) (fun c3 => ?_) (fun c3 => ?_)
    · have hf := pm_it hf c3
      refine pm_iconst (v := (-1)) C dX12_make_21 (by decide) ?_
      have hf := Option.some.inj hf
      subst hf
      exact pm_iret C X dX12_make_22 rfl kc1 kc2 q
    · have hf := pm_ie hf c3
      refine pm_iload_n C dX12_make_12 rfl rfl ?_
      refine pm_aload_n C dX12_make_13 rfl rfl ?_
      obtain ⟨v4, e5, hf⟩ := pm_bd hf
      refine pm_getR C dX12_make_14 flX12_16 rfl k2 e5 ?_
      obtain ⟨k6, hf⟩ := pm_if hf
      refine pm_alen (t := 9) C dX12_make_17 (by decide) k6 rfl ?_
      refine pm_icmp_lt (tgt := 23) C dX12_make_18 (by decide) (fun c7 => ?_) (fun c7 => ?_)
      · have hf := pm_it hf c7
        refine pm_aload_n C dX12_make_23 rfl rfl ?_
        obtain ⟨v8, e9, hf⟩ := pm_bd hf
        refine pm_getR C dX12_make_24 flX12_61 rfl k2 e9 ?_
        obtain ⟨k10, hf⟩ := pm_if hf
        obtain ⟨v11, e12, hf⟩ := pm_bd hf
        refine pm_callV (as := []) (st := []) C X dX12_make_27 lnX12_156 myX5_isBusy viX5_isBusy ⟨by decide, by decide⟩ rfl rfl k10 (Nat.le_of_ble_eq_true rfl) kc1 kc2 (ctX5_isBusy e12 ?_)
        show pm_G g 30 [(0, .ref x0), (1, .int x1)] [.int v11] h (pm_sz h - pm_sz h0) (pm_us h - pm_us h0)
        refine pm_if_eq (tgt := 36) C dX12_make_30 (by decide) (fun c13 => ?_) (fun c13 => ?_)
        · have hf := pm_it hf c13
          refine pm_aload_n C dX12_make_36 rfl rfl ?_
          refine pm_getR C dX12_make_37 flX12_16 rfl k2 e5 ?_
          refine pm_iload_n C dX12_make_40 rfl rfl ?_
          obtain ⟨u14, hf⟩ := pm_if hf
          obtain ⟨v15, e16, hf⟩ := pm_bd hf
          refine pm_ald (t := 9) C dX12_make_41 (by decide) rfl k6 u14 e16 ?_
          refine pm_astore_n (lv' := [(2, .ref v15), (0, .ref x0), (1, .int x1)]) C dX12_make_42 rfl (pm_nl X (by decide)) rfl ?_
          refine pm_aload_n C dX12_make_43 rfl rfl ?_
          obtain ⟨v17, e18, hf⟩ := pm_bd hf
          refine pm_getR C dX12_make_44 flX12_52 rfl k2 e18 ?_
          refine pm_aload_n C dX12_make_47 rfl rfl ?_
          refine pm_aload_n C dX12_make_48 rfl rfl ?_
          obtain ⟨v19, e20, hf⟩ := pm_bd hf
          refine pm_getR C dX12_make_49 flX12_20 rfl k2 e20 ?_
          refine pm_aload_n C dX12_make_52 rfl rfl ?_
          refine pm_getI C dX12_make_53 flX12_132 rfl k2 rfl ?_
          obtain ⟨k21, hf⟩ := pm_if hf
          obtain ⟨v22, e23, hf⟩ := pm_bd hf
          refine pm_callV (as := [.ref v15, .ref v19, .int (pm_I h x0 13)]) (st := []) C X dX12_make_56 lnX12_159 myX10_refusal viX10_refusal ⟨by decide, by decide⟩ rfl rfl k21 (Nat.le_of_ble_eq_true rfl) (pa_le1 K0 m0 (moX10_refusal e23) (moX12_make_b59 hf)) (pa_le2 K0 m0 (moX10_refusal e23) (moX12_make_b59 hf)) (ctX10_refusal e23 ?_)
          show pm_G g 59 [(2, .ref v15), (0, .ref x0), (1, .int x1)] [.int v22.1] v22.2 (pm_sz h - pm_sz h0 + (pm_sz v22.2 - pm_sz h)) (pm_us h - pm_us h0 + (pm_us v22.2 - pm_us h))
          refine pa_fin K0 m0 (moX10_refusal e23) ?_
          exact pm_sub [1, 0] rfl (bX12_make_59 C X ((m0.trans (pm_S3.le K0)).trans (moX10_refusal e23)) hf q)
        · have hf := pm_ie hf c13
          refine pm_bipush (v := (-10)) C dX12_make_33 (by decide) ?_
          have hf := Option.some.inj hf
          subst hf
          exact pm_iret C X dX12_make_35 rfl kc1 kc2 q
      · have hf := pm_ie hf c7
        refine pm_iconst (v := (-1)) C dX12_make_21 (by decide) ?_
        have hf := Option.some.inj hf
        subst hf
        exact pm_iret C X dX12_make_22 rfl kc1 kc2 q
set_option maxHeartbeats 4000000 in
set_option maxRecDepth 100000 in
theorem ctX12_make {l : Launch} {G : pm_Gl} {h : pm_H} {a0 : Nat} {p1 : Int32} {r : (Int32 × pm_H)} {Qr : Option Value → pm_H → Prop} (hf : fX12_make h a0 p1 = some r) (q : Qr (some (.int r.1)) r.2) : pm_Ct l G mX12_make [.ref a0, .int p1] h (pm_sz r.2 - pm_sz h) (pm_us r.2 - pm_us h) Qr := by
  refine pm_body pnX12 (Nat.le_of_ble_eq_true rfl) (fun g C X => ?_)
  have C : pm_C g cX12_make RX12 := C
  show pm_G g 0 [(0, .ref a0), (1, .int p1)] [] h 0 0
  unfold fX12_make at hf
  exact pa_start (pm_sub [0, 1] rfl (bX12_make_0 C X (pm_Le.rf h) hf q))
