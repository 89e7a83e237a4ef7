theorem dX16_further_0 : decode cX16_further 0 = .ok (.aload_n 0, 1) := by decide +kernel
theorem dX16_further_1 : decode cX16_further 1 = .ok (.invokevirtual 277, 3) := by decide +kernel
theorem dX16_further_4 : decode cX16_further 4 = .ok (.lstore_n 2, 1) := by decide +kernel
theorem dX16_further_5 : decode cX16_further 5 = .ok (.lload_n 2, 1) := by decide +kernel
theorem dX16_further_6 : decode cX16_further 6 = .ok (.ldc2_w 580, 3) := by decide +kernel
theorem dX16_further_9 : decode cX16_further 9 = .ok (.lcmp, 1) := by decide +kernel
theorem dX16_further_10 : decode cX16_further 10 = .ok (.ifCond .le 10, 3) := by decide +kernel
theorem dX16_further_13 : decode cX16_further 13 = .ok (.aload_n 0, 1) := by decide +kernel
theorem dX16_further_14 : decode cX16_further 14 = .ok (.bipush 10, 2) := by decide +kernel
theorem dX16_further_16 : decode cX16_further 16 = .ok (.iload_n 1, 1) := by decide +kernel
theorem dX16_further_17 : decode cX16_further 17 = .ok (.invokevirtual 257, 3) := by decide +kernel
theorem dX16_further_20 : decode cX16_further 20 = .ok (.lload_n 2, 1) := by decide +kernel
theorem dX16_further_21 : decode cX16_further 21 = .ok (.ldc2_w 582, 3) := by decide +kernel
theorem dX16_further_24 : decode cX16_further 24 = .ok (.lcmp, 1) := by decide +kernel
theorem dX16_further_25 : decode cX16_further 25 = .ok (.ifCond .eq 11, 3) := by decide +kernel
theorem dX16_further_28 : decode cX16_further 28 = .ok (.lload_n 2, 1) := by decide +kernel
theorem dX16_further_29 : decode cX16_further 29 = .ok (.ldc2_w 584, 3) := by decide +kernel
theorem dX16_further_32 : decode cX16_further 32 = .ok (.lcmp, 1) := by decide +kernel
theorem dX16_further_33 : decode cX16_further 33 = .ok (.ifCond .ne 23, 3) := by decide +kernel
theorem dX16_further_36 : decode cX16_further 36 = .ok (.aload_n 0, 1) := by decide +kernel
theorem dX16_further_37 : decode cX16_further 37 = .ok (.getfield 221, 3) := by decide +kernel
theorem dX16_further_40 : decode cX16_further 40 = .ok (.getfield 302, 3) := by decide +kernel
theorem dX16_further_43 : decode cX16_further 43 = .ok (.bipush 12, 2) := by decide +kernel
theorem dX16_further_45 : decode cX16_further 45 = .ok (.iaload, 1) := by decide +kernel
theorem dX16_further_46 : decode cX16_further 46 = .ok (.ifCond .ge 10, 3) := by decide +kernel
theorem dX16_further_49 : decode cX16_further 49 = .ok (.aload_n 0, 1) := by decide +kernel
theorem dX16_further_50 : decode cX16_further 50 = .ok (.bipush 11, 2) := by decide +kernel
theorem dX16_further_52 : decode cX16_further 52 = .ok (.iload_n 1, 1) := by decide +kernel
theorem dX16_further_53 : decode cX16_further 53 = .ok (.invokevirtual 257, 3) := by decide +kernel
theorem dX16_further_56 : decode cX16_further 56 = .ok (.lload_n 2, 1) := by decide +kernel
theorem dX16_further_57 : decode cX16_further 57 = .ok (.ldc2_w 586, 3) := by decide +kernel
theorem dX16_further_60 : decode cX16_further 60 = .ok (.lcmp, 1) := by decide +kernel
theorem dX16_further_61 : decode cX16_further 61 = .ok (.ifCond .ne 10, 3) := by decide +kernel
theorem dX16_further_64 : decode cX16_further 64 = .ok (.aload_n 0, 1) := by decide +kernel
theorem dX16_further_65 : decode cX16_further 65 = .ok (.iconst 0, 1) := by decide +kernel
theorem dX16_further_66 : decode cX16_further 66 = .ok (.invokevirtual 393, 3) := by decide +kernel
theorem dX16_further_69 : decode cX16_further 69 = .ok (.istore 4, 2) := by decide +kernel
theorem dX16_further_71 : decode cX16_further 71 = .ok (.lload_n 2, 1) := by decide +kernel
theorem dX16_further_72 : decode cX16_further 72 = .ok (.ldc2_w 588, 3) := by decide +kernel
theorem dX16_further_75 : decode cX16_further 75 = .ok (.lcmp, 1) := by decide +kernel
theorem dX16_further_76 : decode cX16_further 76 = .ok (.ifCond .eq 11, 3) := by decide +kernel
theorem dX16_further_79 : decode cX16_further 79 = .ok (.lload_n 2, 1) := by decide +kernel
theorem dX16_further_80 : decode cX16_further 80 = .ok (.ldc2_w 590, 3) := by decide +kernel
theorem dX16_further_83 : decode cX16_further 83 = .ok (.lcmp, 1) := by decide +kernel
theorem dX16_further_84 : decode cX16_further 84 = .ok (.ifCond .ne 9, 3) := by decide +kernel
theorem dX16_further_87 : decode cX16_further 87 = .ok (.aload_n 0, 1) := by decide +kernel
theorem dX16_further_88 : decode cX16_further 88 = .ok (.invokevirtual 277, 3) := by decide +kernel
theorem dX16_further_91 : decode cX16_further 91 = .ok (.lstore 4, 2) := by decide +kernel
theorem dX16_further_93 : decode cX16_further 93 = .ok (.lload_n 2, 1) := by decide +kernel
theorem dX16_further_94 : decode cX16_further 94 = .ok (.ldc2_w 582, 3) := by decide +kernel
theorem dX16_further_97 : decode cX16_further 97 = .ok (.lcmp, 1) := by decide +kernel
theorem dX16_further_98 : decode cX16_further 98 = .ok (.ifCond .eq 19, 3) := by decide +kernel
theorem dX16_further_101 : decode cX16_further 101 = .ok (.lload_n 2, 1) := by decide +kernel
theorem dX16_further_102 : decode cX16_further 102 = .ok (.ldc2_w 584, 3) := by decide +kernel
theorem dX16_further_105 : decode cX16_further 105 = .ok (.lcmp, 1) := by decide +kernel
theorem dX16_further_106 : decode cX16_further 106 = .ok (.ifCond .eq 11, 3) := by decide +kernel
theorem dX16_further_109 : decode cX16_further 109 = .ok (.lload_n 2, 1) := by decide +kernel
theorem dX16_further_110 : decode cX16_further 110 = .ok (.ldc2_w 592, 3) := by decide +kernel
theorem dX16_further_113 : decode cX16_further 113 = .ok (.lcmp, 1) := by decide +kernel
theorem dX16_further_114 : decode cX16_further 114 = .ok (.ifCond .le 9, 3) := by decide +kernel
theorem dX16_further_117 : decode cX16_further 117 = .ok (.aload_n 0, 1) := by decide +kernel
theorem dX16_further_118 : decode cX16_further 118 = .ok (.invokevirtual 277, 3) := by decide +kernel
theorem dX16_further_121 : decode cX16_further 121 = .ok (.lstore 4, 2) := by decide +kernel
theorem dX16_further_123 : decode cX16_further 123 = .ok (.lload_n 2, 1) := by decide +kernel
theorem dX16_further_124 : decode cX16_further 124 = .ok (.ldc2_w 582, 3) := by decide +kernel
theorem dX16_further_127 : decode cX16_further 127 = .ok (.lcmp, 1) := by decide +kernel
theorem dX16_further_128 : decode cX16_further 128 = .ok (.ifCond .eq 19, 3) := by decide +kernel
theorem dX16_further_131 : decode cX16_further 131 = .ok (.lload_n 2, 1) := by decide +kernel
theorem dX16_further_132 : decode cX16_further 132 = .ok (.ldc2_w 586, 3) := by decide +kernel
theorem dX16_further_135 : decode cX16_further 135 = .ok (.lcmp, 1) := by decide +kernel
theorem dX16_further_136 : decode cX16_further 136 = .ok (.ifCond .eq 11, 3) := by decide +kernel
theorem dX16_further_139 : decode cX16_further 139 = .ok (.lload_n 2, 1) := by decide +kernel
theorem dX16_further_140 : decode cX16_further 140 = .ok (.ldc2_w 592, 3) := by decide +kernel
theorem dX16_further_143 : decode cX16_further 143 = .ok (.lcmp, 1) := by decide +kernel
theorem dX16_further_144 : decode cX16_further 144 = .ok (.ifCond .ne 10, 3) := by decide +kernel
theorem dX16_further_147 : decode cX16_further 147 = .ok (.aload_n 0, 1) := by decide +kernel
theorem dX16_further_148 : decode cX16_further 148 = .ok (.iconst 0, 1) := by decide +kernel
theorem dX16_further_149 : decode cX16_further 149 = .ok (.invokevirtual 393, 3) := by decide +kernel
theorem dX16_further_152 : decode cX16_further 152 = .ok (.istore 4, 2) := by decide +kernel
theorem dX16_further_154 : decode cX16_further 154 = .ok (.return_, 1) := by decide +kernel
noncomputable def fX16_further_b123 (h : pm_H) (x0 : Nat) (x2 : Int64) : Option ((Nat × pm_H) ⊕ pm_H) := if x2 = 8 then (if pm_kd h x0 = 16 then (fX16_small h x0 0).bind fun v50 => pt_k v50 fun w52 => some (.inr (w52.2)) else none) else (if x2 = 10 then (if pm_kd h x0 = 16 then (fX16_small h x0 0).bind fun v56 => pt_k v56 fun w58 => some (.inr (w58.2)) else none) else (if x2 = 11 then (if pm_kd h x0 = 16 then (fX16_small h x0 0).bind fun v62 => pt_k v62 fun w64 => some (.inr (w64.2)) else none) else (some (.inr (h)))))
noncomputable def fX16_further_b117 (h : pm_H) (x0 : Nat) (x2 : Int64) : Option ((Nat × pm_H) ⊕ pm_H) := if pm_kd h x0 = 16 then (fX16_number h x0).bind fun v44 => pt_k v44 fun w46 => fX16_further_b123 w46.2 x0 x2 else none
noncomputable def fX16_further_b93 (h : pm_H) (x0 : Nat) (x2 : Int64) : Option ((Nat × pm_H) ⊕ pm_H) := if x2 = 8 then (fX16_further_b117 h x0 x2) else (if x2 = 9 then (fX16_further_b117 h x0 x2) else (if x2 ≤ 11 then (fX16_further_b123 h x0 x2) else (fX16_further_b117 h x0 x2)))
noncomputable def fX16_further_b87 (h : pm_H) (x0 : Nat) (x2 : Int64) : Option ((Nat × pm_H) ⊕ pm_H) := if pm_kd h x0 = 16 then (fX16_number h x0).bind fun v36 => pt_k v36 fun w38 => fX16_further_b93 w38.2 x0 x2 else none
noncomputable def fX16_further_b71 (h : pm_H) (x0 : Nat) (x2 : Int64) : Option ((Nat × pm_H) ⊕ pm_H) := if x2 = 12 then (fX16_further_b87 h x0 x2) else (if x2 = 14 then (fX16_further_b87 h x0 x2) else (fX16_further_b93 h x0 x2))
noncomputable def fX16_further_b56 (h : pm_H) (x0 : Nat) (x2 : Int64) : Option ((Nat × pm_H) ⊕ pm_H) := if x2 = 10 then (if pm_kd h x0 = 16 then (fX16_small h x0 0).bind fun v29 => pt_k v29 fun w31 => fX16_further_b71 w31.2 x0 x2 else none) else (fX16_further_b71 h x0 x2)
noncomputable def fX16_further_b36 (h : pm_H) (x0 : Nat) (x1 : Int32) (x2 : Int64) : Option ((Nat × pm_H) ⊕ pm_H) := if pm_kd h x0 = 16 then (pm_R h x0 10).bind fun v15 => if pm_kd h v15 = 14 then (pm_R h v15 2).bind fun v18 => if pm_kd h v18 = 34 then if pm_in 12 (pm_ln h v18) then if 0 ≤ (pm_I h v18 (12 : Int32).toNatClampNeg) then (fX16_further_b56 h x0 x2) else ((fX16_stops h x0 11 x1).bind fun v23 => pt_k v23 fun w25 => fX16_further_b56 w25 x0 x2) else none else none else none else none
noncomputable def fX16_further_b20 (h : pm_H) (x0 : Nat) (x1 : Int32) (x2 : Int64) : Option ((Nat × pm_H) ⊕ pm_H) := if x2 = 8 then (fX16_further_b36 h x0 x1 x2) else (if x2 = 9 then (fX16_further_b36 h x0 x1 x2) else (fX16_further_b56 h x0 x2))
noncomputable def fX16_further (h : pm_H) (a0 : Nat) (p1 : Int32) : Option ((Nat × pm_H) ⊕ pm_H) := if pm_kd h a0 = 16 then (fX16_number h a0).bind fun v2 => pt_k v2 fun w4 => if w4.1 ≤ 17 then (fX16_further_b20 w4.2 a0 p1 w4.1) else (if pm_kd w4.2 a0 = 16 then (fX16_stops w4.2 a0 10 p1).bind fun v8 => pt_k v8 fun w10 => fX16_further_b20 w10 a0 p1 w4.1 else none) else none
set_option maxHeartbeats 4000000 in
set_option maxRecDepth 100000 in
theorem bX16_further_123 {g : pm_Gm} {l : Launch} {G : pm_Gl} {Qr : Option Value → pm_H → Prop} {Qt : Nat → pm_H → Prop} (C : pm_C g cX16_further RX16) (X : pm_XT g l G mX16_further 0 0 Qr Qt) {h : pm_H} {x0 : Nat} {x2 : Int64} {r : ((Nat × pm_H) ⊕ pm_H)} (hf : fX16_further_b123 h x0 x2 = some r) (q : pt_eV Qr Qt r) : pm_G g 123 [(0, .ref x0), (2, .long x2)] [] h 0 0 := by
  unfold fX16_further_b123 at hf
  refine pm_lload_n C dX16_further_123 rfl rfl ?_
  refine pm_ldc2 C dX16_further_124 cnX16_582 ?_
  refine pm_lcmp C dX16_further_127 ?_
  refine pm_if_eq (tgt := 147) C dX16_further_128 (by decide) (fun c48 => ?_) (fun c48 => ?_)
  · have hf := pm_it hf ((pm_lg_eq _ _).mp c48)
    refine pm_aload_n C dX16_further_147 rfl rfl ?_
    refine pm_iconst (v := 0) C dX16_further_148 (by decide) ?_
    obtain ⟨k49, hf⟩ := pm_if hf
    obtain ⟨v50, e51, hf⟩ := pm_bd hf
    refine pt_callVT (as := [.int 0]) (st := []) C X dX16_further_149 ltX16_393 myX16_small viX16_small ⟨by decide, by decide⟩ rfl rfl k49 (Nat.le_of_ble_eq_true rfl) (Nat.le_refl _) (Nat.le_refl _) (ctX16_small e51 ?_)
    rcases v50 with z53 | w52
    · have hf := pt_kl hf
      cases hf
      exact q
    have hf := pt_kr hf
    show pm_G g 152 [(0, .ref x0), (2, .long x2)] [.int w52.1] w52.2 0 0
    refine pm_istore (lv' := [(4, .int w52.1), (0, .ref x0), (2, .long x2)]) C dX16_further_152 (pt_nl X (by decide)) rfl ?_
    cases hf
    exact pt_vret C X dX16_further_154 rfl (Nat.le_refl _) (Nat.le_refl _) q
  · have hf := pm_ie hf ((fun z => c48 ((pm_lg_eq _ _).mpr z)))
    refine pm_lload_n C dX16_further_131 rfl rfl ?_
    refine pm_ldc2 C dX16_further_132 cnX16_586 ?_
    refine pm_lcmp C dX16_further_135 ?_
    refine pm_if_eq (tgt := 147) C dX16_further_136 (by decide) (fun c54 => ?_) (fun c54 => ?_)
    · have hf := pm_it hf ((pm_lg_eq _ _).mp c54)
      refine pm_aload_n C dX16_further_147 rfl rfl ?_
      refine pm_iconst (v := 0) C dX16_further_148 (by decide) ?_
      obtain ⟨k55, hf⟩ := pm_if hf
      obtain ⟨v56, e57, hf⟩ := pm_bd hf
      refine pt_callVT (as := [.int 0]) (st := []) C X dX16_further_149 ltX16_393 myX16_small viX16_small ⟨by decide, by decide⟩ rfl rfl k55 (Nat.le_of_ble_eq_true rfl) (Nat.le_refl _) (Nat.le_refl _) (ctX16_small e57 ?_)
      rcases v56 with z59 | w58
      · have hf := pt_kl hf
        cases hf
        exact q
      have hf := pt_kr hf
      show pm_G g 152 [(0, .ref x0), (2, .long x2)] [.int w58.1] w58.2 0 0
      refine pm_istore (lv' := [(4, .int w58.1), (0, .ref x0), (2, .long x2)]) C dX16_further_152 (pt_nl X (by decide)) rfl ?_
      cases hf
      exact pt_vret C X dX16_further_154 rfl (Nat.le_refl _) (Nat.le_refl _) q
    · have hf := pm_ie hf ((fun z => c54 ((pm_lg_eq _ _).mpr z)))
      refine pm_lload_n C dX16_further_139 rfl rfl ?_
      refine pm_ldc2 C dX16_further_140 cnX16_592 ?_
      refine pm_lcmp C dX16_further_143 ?_
      refine pm_if_ne (tgt := 154) C dX16_further_144 (by decide) (fun c60 => ?_) (fun c60 => ?_)
      · have hf := pm_ie hf ((fun z => c60 ((pm_lg_eq _ _).mpr z)))
        cases hf
        exact pt_vret C X dX16_further_154 rfl (Nat.le_refl _) (Nat.le_refl _) q
      · have hf := pm_it hf ((pm_lg_eq _ _).mp c60)
        refine pm_aload_n C dX16_further_147 rfl rfl ?_
        refine pm_iconst (v := 0) C dX16_further_148 (by decide) ?_
        obtain ⟨k61, hf⟩ := pm_if hf
        obtain ⟨v62, e63, hf⟩ := pm_bd hf
        refine pt_callVT (as := [.int 0]) (st := []) C X dX16_further_149 ltX16_393 myX16_small viX16_small ⟨by decide, by decide⟩ rfl rfl k61 (Nat.le_of_ble_eq_true rfl) (Nat.le_refl _) (Nat.le_refl _) (ctX16_small e63 ?_)
        rcases v62 with z65 | w64
        · have hf := pt_kl hf
          cases hf
          exact q
        have hf := pt_kr hf
        show pm_G g 152 [(0, .ref x0), (2, .long x2)] [.int w64.1] w64.2 0 0
        refine pm_istore (lv' := [(4, .int w64.1), (0, .ref x0), (2, .long x2)]) C dX16_further_152 (pt_nl X (by decide)) rfl ?_
        cases hf
        exact pt_vret C X dX16_further_154 rfl (Nat.le_refl _) (Nat.le_refl _) q
set_option maxHeartbeats 4000000 in
set_option maxRecDepth 100000 in
theorem bX16_further_117 {g : pm_Gm} {l : Launch} {G : pm_Gl} {Qr : Option Value → pm_H → Prop} {Qt : Nat → pm_H → Prop} (C : pm_C g cX16_further RX16) (X : pm_XT g l G mX16_further 0 0 Qr Qt) {h : pm_H} {x0 : Nat} {x2 : Int64} {r : ((Nat × pm_H) ⊕ pm_H)} (hf : fX16_further_b117 h x0 x2 = some r) (q : pt_eV Qr Qt r) : pm_G g 117 [(0, .ref x0), (2, .long x2)] [] h 0 0 := by
  unfold fX16_further_b117 at hf
  refine pm_aload_n C dX16_further_117 rfl rfl ?_
  obtain ⟨k43, hf⟩ := pm_if hf
  obtain ⟨v44, e45, hf⟩ := pm_bd hf
  refine pt_callVT (as := []) (st := []) C X dX16_further_118 ltX16_277 myX16_number viX16_number ⟨by decide, by decide⟩ rfl rfl k43 (Nat.le_of_ble_eq_true rfl) (Nat.le_refl _) (Nat.le_refl _) (ctX16_number e45 ?_)
  rcases v44 with z47 | w46
  · have hf := pt_kl hf
    cases hf
    exact q
  have hf := pt_kr hf
  show pm_G g 121 [(0, .ref x0), (2, .long x2)] [.long w46.1] w46.2 0 0
  refine pm_lstore (lv' := [(4, .long w46.1), (0, .ref x0), (2, .long x2)]) C dX16_further_121 (pt_nl X (by decide)) rfl ?_
  exact pm_sub [1, 2] rfl (bX16_further_123 C X hf q)
set_option maxHeartbeats 4000000 in
set_option maxRecDepth 100000 in
theorem bX16_further_93 {g : pm_Gm} {l : Launch} {G : pm_Gl} {Qr : Option Value → pm_H → Prop} {Qt : Nat → pm_H → Prop} (C : pm_C g cX16_further RX16) (X : pm_XT g l G mX16_further 0 0 Qr Qt) {h : pm_H} {x0 : Nat} {x2 : Int64} {r : ((Nat × pm_H) ⊕ pm_H)} (hf : fX16_further_b93 h x0 x2 = some r) (q : pt_eV Qr Qt r) : pm_G g 93 [(0, .ref x0), (2, .long x2)] [] h 0 0 := by
  unfold fX16_further_b93 at hf
  refine pm_lload_n C dX16_further_93 rfl rfl ?_
  refine pm_ldc2 C dX16_further_94 cnX16_582 ?_
  refine pm_lcmp C dX16_further_97 ?_
  refine pm_if_eq (tgt := 117) C dX16_further_98 (by decide) (fun c40 => ?_) (fun c40 => ?_)
  · have hf := pm_it hf ((pm_lg_eq _ _).mp c40)
    exact pm_sub [0, 1] rfl (bX16_further_117 C X hf q)
  · have hf := pm_ie hf ((fun z => c40 ((pm_lg_eq _ _).mpr z)))
    refine pm_lload_n C dX16_further_101 rfl rfl ?_
    refine pm_ldc2 C dX16_further_102 cnX16_584 ?_
    refine pm_lcmp C dX16_further_105 ?_
    refine pm_if_eq (tgt := 117) C dX16_further_106 (by decide) (fun c41 => ?_) (fun c41 => ?_)
    · have hf := pm_it hf ((pm_lg_eq _ _).mp c41)
      exact pm_sub [0, 1] rfl (bX16_further_117 C X hf q)
    · have hf := pm_ie hf ((fun z => c41 ((pm_lg_eq _ _).mpr z)))
      refine pm_lload_n C dX16_further_109 rfl rfl ?_
      refine pm_ldc2 C dX16_further_110 cnX16_592 ?_
      refine pm_lcmp C dX16_further_113 ?_
      refine pm_if_le (tgt := 123) C dX16_further_114 (by decide) (fun c42 => ?_) (fun c42 => ?_)
      · have hf := pm_it hf ((pm_lg_le _ _).mp c42)
        exact pm_sub [0, 1] rfl (bX16_further_123 C X hf q)
      · have hf := pm_ie hf ((fun z => c42 ((pm_lg_le _ _).mpr z)))
        exact pm_sub [0, 1] rfl (bX16_further_117 C X hf q)
set_option maxHeartbeats 4000000 in
set_option maxRecDepth 100000 in
theorem bX16_further_87 {g : pm_Gm} {l : Launch} {G : pm_Gl} {Qr : Option Value → pm_H → Prop} {Qt : Nat → pm_H → Prop} (C : pm_C g cX16_further RX16) (X : pm_XT g l G mX16_further 0 0 Qr Qt) {h : pm_H} {x0 : Nat} {x2 : Int64} {r : ((Nat × pm_H) ⊕ pm_H)} (hf : fX16_further_b87 h x0 x2 = some r) (q : pt_eV Qr Qt r) : pm_G g 87 [(0, .ref x0), (2, .long x2)] [] h 0 0 := by
  unfold fX16_further_b87 at hf
  refine pm_aload_n C dX16_further_87 rfl rfl ?_
  obtain ⟨k35, hf⟩ := pm_if hf
  obtain ⟨v36, e37, hf⟩ := pm_bd hf
  refine pt_callVT (as := []) (st := []) C X dX16_further_88 ltX16_277 myX16_number viX16_number ⟨by decide, by decide⟩ rfl rfl k35 (Nat.le_of_ble_eq_true rfl) (Nat.le_refl _) (Nat.le_refl _) (ctX16_number e37 ?_)
  rcases v36 with z39 | w38
  · have hf := pt_kl hf
    cases hf
    exact q
  have hf := pt_kr hf
  show pm_G g 91 [(0, .ref x0), (2, .long x2)] [.long w38.1] w38.2 0 0
  refine pm_lstore (lv' := [(4, .long w38.1), (0, .ref x0), (2, .long x2)]) C dX16_further_91 (pt_nl X (by decide)) rfl ?_
  exact pm_sub [1, 2] rfl (bX16_further_93 C X hf q)
set_option maxHeartbeats 4000000 in
set_option maxRecDepth 100000 in
theorem bX16_further_71 {g : pm_Gm} {l : Launch} {G : pm_Gl} {Qr : Option Value → pm_H → Prop} {Qt : Nat → pm_H → Prop} (C : pm_C g cX16_further RX16) (X : pm_XT g l G mX16_further 0 0 Qr Qt) {h : pm_H} {x0 : Nat} {x2 : Int64} {r : ((Nat × pm_H) ⊕ pm_H)} (hf : fX16_further_b71 h x0 x2 = some r) (q : pt_eV Qr Qt r) : pm_G g 71 [(0, .ref x0), (2, .long x2)] [] h 0 0 := by
  unfold fX16_further_b71 at hf
  refine pm_lload_n C dX16_further_71 rfl rfl ?_
  refine pm_ldc2 C dX16_further_72 cnX16_588 ?_
  refine pm_lcmp C dX16_further_75 ?_
  refine pm_if_eq (tgt := 87) C dX16_further_76 (by decide) (fun c33 => ?_) (fun c33 => ?_)
  · have hf := pm_it hf ((pm_lg_eq _ _).mp c33)
    exact pm_sub [0, 1] rfl (bX16_further_87 C X hf q)
  · have hf := pm_ie hf ((fun z => c33 ((pm_lg_eq _ _).mpr z)))
    refine pm_lload_n C dX16_further_79 rfl rfl ?_
    refine pm_ldc2 C dX16_further_80 cnX16_590 ?_
    refine pm_lcmp C dX16_further_83 ?_
    refine pm_if_ne (tgt := 93) C dX16_further_84 (by decide) (fun c34 => ?_) (fun c34 => ?_)
    · have hf := pm_ie hf ((fun z => c34 ((pm_lg_eq _ _).mpr z)))
      exact pm_sub [0, 1] rfl (bX16_further_93 C X hf q)
    · have hf := pm_it hf ((pm_lg_eq _ _).mp c34)
      exact pm_sub [0, 1] rfl (bX16_further_87 C X hf q)
set_option maxHeartbeats 4000000 in
set_option maxRecDepth 100000 in
theorem bX16_further_56 {g : pm_Gm} {l : Launch} {G : pm_Gl} {Qr : Option Value → pm_H → Prop} {Qt : Nat → pm_H → Prop} (C : pm_C g cX16_further RX16) (X : pm_XT g l G mX16_further 0 0 Qr Qt) {h : pm_H} {x0 : Nat} {x2 : Int64} {r : ((Nat × pm_H) ⊕ pm_H)} (hf : fX16_further_b56 h x0 x2 = some r) (q : pt_eV Qr Qt r) : pm_G g 56 [(0, .ref x0), (2, .long x2)] [] h 0 0 := by
  unfold fX16_further_b56 at hf
  refine pm_lload_n C dX16_further_56 rfl rfl ?_
  refine pm_ldc2 C dX16_further_57 cnX16_586 ?_
  refine pm_lcmp C dX16_further_60 ?_
  refine pm_if_ne (tgt := 71) C dX16_further_61 (by decide) (fun c27 => ?_) (fun c27 => ?_)
  · have hf := pm_ie hf ((fun z => c27 ((pm_lg_eq _ _).mpr z)))
    exact pm_sub [0, 1] rfl (bX16_further_71 C X hf q)
  · have hf := pm_it hf ((pm_lg_eq _ _).mp c27)
    refine pm_aload_n C dX16_further_64 rfl rfl ?_
    refine pm_iconst (v := 0) C dX16_further_65 (by decide) ?_
    obtain ⟨k28, hf⟩ := pm_if hf
    obtain ⟨v29, e30, hf⟩ := pm_bd hf
    refine pt_callVT (as := [.int 0]) (st := []) C X dX16_further_66 ltX16_393 myX16_small viX16_small ⟨by decide, by decide⟩ rfl rfl k28 (Nat.le_of_ble_eq_true rfl) (Nat.le_refl _) (Nat.le_refl _) (ctX16_small e30 ?_)
    rcases v29 with z32 | w31
    · have hf := pt_kl hf
      cases hf
      exact q
    have hf := pt_kr hf
    show pm_G g 69 [(0, .ref x0), (2, .long x2)] [.int w31.1] w31.2 0 0
    refine pm_istore (lv' := [(4, .int w31.1), (0, .ref x0), (2, .long x2)]) C dX16_further_69 (pt_nl X (by decide)) rfl ?_
    exact pm_sub [1, 2] rfl (bX16_further_71 C X hf q)
set_option maxHeartbeats 4000000 in
set_option maxRecDepth 100000 in
theorem bX16_further_36 {g : pm_Gm} {l : Launch} {G : pm_Gl} {Qr : Option Value → pm_H → Prop} {Qt : Nat → pm_H → Prop} (C : pm_C g cX16_further RX16) (X : pm_XT g l G mX16_further 0 0 Qr Qt) {h : pm_H} {x0 : Nat} {x1 : Int32} {x2 : Int64} {r : ((Nat × pm_H) ⊕ pm_H)} (hf : fX16_further_b36 h x0 x1 x2 = some r) (q : pt_eV Qr Qt r) : pm_G g 36 [(0, .ref x0), (1, .int x1), (2, .long x2)] [] h 0 0 := by
  unfold fX16_further_b36 at hf
  refine pm_aload_n C dX16_further_36 rfl rfl ?_
  obtain ⟨k14, hf⟩ := pm_if hf
  obtain ⟨v15, e16, hf⟩ := pm_bd hf
  refine pm_getR C dX16_further_37 flX16_221 rfl k14 e16 ?_
  obtain ⟨k17, hf⟩ := pm_if hf
  obtain ⟨v18, e19, hf⟩ := pm_bd hf
  refine pm_getR C dX16_further_40 flX16_302 rfl k17 e19 ?_
  refine pm_bipush (v := 12) C dX16_further_43 (by decide) ?_
  obtain ⟨k20, hf⟩ := pm_if hf
  obtain ⟨u21, hf⟩ := pm_if hf
  refine pm_iald C dX16_further_45 k20 u21 rfl ?_
  refine pm_if_ge (tgt := 56) C dX16_further_46 (by decide) (fun c22 => ?_) (fun c22 => ?_)
  · have hf := pm_it hf c22
    exact pm_sub [0, 2] rfl (bX16_further_56 C X hf q)
  · have hf := pm_ie hf c22
    refine pm_aload_n C dX16_further_49 rfl rfl ?_
    refine pm_bipush (v := 11) C dX16_further_50 (by decide) ?_
    refine pm_iload_n C dX16_further_52 rfl rfl ?_
    obtain ⟨v23, e24, hf⟩ := pm_bd hf
    refine pt_callVT (as := [.int 11, .int x1]) (st := []) C X dX16_further_53 ltX16_257 myX16_stops viX16_stops ⟨by decide, by decide⟩ rfl rfl k14 (Nat.le_of_ble_eq_true rfl) (Nat.le_refl _) (Nat.le_refl _) (ctX16_stops e24 ?_)
    rcases v23 with z26 | w25
    · have hf := pt_kl hf
      cases hf
      exact q
    have hf := pt_kr hf
    show pm_G g 56 [(0, .ref x0), (1, .int x1), (2, .long x2)] [] w25 0 0
    exact pm_sub [0, 2] rfl (bX16_further_56 C X hf q)
set_option maxHeartbeats 4000000 in
set_option maxRecDepth 100000 in
theorem bX16_further_20 {g : pm_Gm} {l : Launch} {G : pm_Gl} {Qr : Option Value → pm_H → Prop} {Qt : Nat → pm_H → Prop} (C : pm_C g cX16_further RX16) (X : pm_XT g l G mX16_further 0 0 Qr Qt) {h : pm_H} {x0 : Nat} {x1 : Int32} {x2 : Int64} {r : ((Nat × pm_H) ⊕ pm_H)} (hf : fX16_further_b20 h x0 x1 x2 = some r) (q : pt_eV Qr Qt r) : pm_G g 20 [(0, .ref x0), (1, .int x1), (2, .long x2)] [] h 0 0 := by
  unfold fX16_further_b20 at hf
  refine pm_lload_n C dX16_further_20 rfl rfl ?_
  refine pm_ldc2 C dX16_further_21 cnX16_582 ?_
  refine pm_lcmp C dX16_further_24 ?_
  refine pm_if_eq (tgt := 36) C dX16_further_25 (by decide) (fun c12 => ?_) (fun c12 => ?_)
  · have hf := pm_it hf ((pm_lg_eq _ _).mp c12)
    exact pm_sub [0, 1, 2] rfl (bX16_further_36 C X hf q)
  · have hf := pm_ie hf ((fun z => c12 ((pm_lg_eq _ _).mpr z)))
    refine pm_lload_n C dX16_further_28 rfl rfl ?_
    refine pm_ldc2 C dX16_further_29 cnX16_584 ?_
    refine pm_lcmp C dX16_further_32 ?_
    refine pm_if_ne (tgt := 56) C dX16_further_33 (by decide) (fun c13 => ?_) (fun c13 => ?_)
    · have hf := pm_ie hf ((fun z => c13 ((pm_lg_eq _ _).mpr z)))
      exact pm_sub [0, 2] rfl (bX16_further_56 C X hf q)
    · have hf := pm_it hf ((pm_lg_eq _ _).mp c13)
      exact pm_sub [0, 1, 2] rfl (bX16_further_36 C X hf q)
set_option maxHeartbeats 4000000 in
set_option maxRecDepth 100000 in
theorem ctX16_further {l : Launch} {G : pm_Gl} {h : pm_H} {a0 : Nat} {p1 : Int32} {r : ((Nat × pm_H) ⊕ pm_H)} {Qr : Option Value → pm_H → Prop} {Qt : Nat → pm_H → Prop} (hf : fX16_further h a0 p1 = some r) (q : pt_eV Qr Qt r) : pm_Ctt l G mX16_further [.ref a0, .int p1] h 0 0 Qr Qt := by
  refine pm_bodyT pnX16 (Nat.le_of_ble_eq_true rfl) (fun g C X => ?_)
  have C : pm_C g cX16_further RX16 := C
  show pm_G g 0 [(0, .ref a0), (1, .int p1)] [] h 0 0
  unfold fX16_further at hf
  refine pm_aload_n C dX16_further_0 rfl rfl ?_
  obtain ⟨k1, hf⟩ := pm_if hf
  obtain ⟨v2, e3, hf⟩ := pm_bd hf
  refine pt_callVT (as := []) (st := []) C X dX16_further_1 ltX16_277 myX16_number viX16_number ⟨by decide, by decide⟩ rfl rfl k1 (Nat.le_of_ble_eq_true rfl) (Nat.le_refl _) (Nat.le_refl _) (ctX16_number e3 ?_)
  rcases v2 with z5 | w4
  · have hf := pt_kl hf
    cases hf
    exact q
  have hf := pt_kr hf
  show pm_G g 4 [(0, .ref a0), (1, .int p1)] [.long w4.1] w4.2 0 0
  refine pm_lstore_n (lv' := [(2, .long w4.1), (0, .ref a0), (1, .int p1)]) C dX16_further_4 rfl (pt_nl X (by decide)) rfl ?_
  refine pm_lload_n C dX16_further_5 rfl rfl ?_
  refine pm_ldc2 C dX16_further_6 cnX16_580 ?_
  refine pm_lcmp C dX16_further_9 ?_
  refine pm_if_le (tgt := 20) C dX16_further_10 (by decide) (fun c6 => ?_) (fun c6 => ?_)
  · have hf := pm_it hf ((pm_lg_le _ _).mp c6)
    exact pm_sub [1, 2, 0] rfl (bX16_further_20 C X hf q)
  · have hf := pm_ie hf ((fun z => c6 ((pm_lg_le _ _).mpr z)))
    refine pm_aload_n C dX16_further_13 rfl rfl ?_
    refine pm_bipush (v := 10) C dX16_further_14 (by decide) ?_
    refine pm_iload_n C dX16_further_16 rfl rfl ?_
    obtain ⟨k7, hf⟩ := pm_if hf
    obtain ⟨v8, e9, hf⟩ := pm_bd hf
    refine pt_callVT (as := [.int 10, .int p1]) (st := []) C X dX16_further_17 ltX16_257 myX16_stops viX16_stops ⟨by decide, by decide⟩ rfl rfl k7 (Nat.le_of_ble_eq_true rfl) (Nat.le_refl _) (Nat.le_refl _) (ctX16_stops e9 ?_)
    rcases v8 with z11 | w10
    · have hf := pt_kl hf
      cases hf
      exact q
    have hf := pt_kr hf
    show pm_G g 20 [(2, .long w4.1), (0, .ref a0), (1, .int p1)] [] w10 0 0
    exact pm_sub [1, 2, 0] rfl (bX16_further_20 C X hf q)
theorem dX16_limits_0 : decode cX16_limits 0 = .ok (.aload_n 0, 1) := by decide +kernel
theorem dX16_limits_1 : decode cX16_limits 1 = .ok (.iconst 1, 1) := by decide +kernel
theorem dX16_limits_2 : decode cX16_limits 2 = .ok (.invokevirtual 393, 3) := by decide +kernel
theorem dX16_limits_5 : decode cX16_limits 5 = .ok (.istore_n 1, 1) := by decide +kernel
theorem dX16_limits_6 : decode cX16_limits 6 = .ok (.aload_n 0, 1) := by decide +kernel
theorem dX16_limits_7 : decode cX16_limits 7 = .ok (.aload_n 0, 1) := by decide +kernel
theorem dX16_limits_8 : decode cX16_limits 8 = .ok (.invokevirtual 277, 3) := by decide +kernel
theorem dX16_limits_11 : decode cX16_limits 11 = .ok (.putfield 396, 3) := by decide +kernel
theorem dX16_limits_14 : decode cX16_limits 14 = .ok (.aload_n 0, 1) := by decide +kernel
theorem dX16_limits_15 : decode cX16_limits 15 = .ok (.iload_n 1, 1) := by decide +kernel
theorem dX16_limits_16 : decode cX16_limits 16 = .ok (.iconst 1, 1) := by decide +kernel
theorem dX16_limits_17 : decode cX16_limits 17 = .ok (.if_icmp .ne 10, 3) := by decide +kernel
theorem dX16_limits_20 : decode cX16_limits 20 = .ok (.aload_n 0, 1) := by decide +kernel
theorem dX16_limits_21 : decode cX16_limits 21 = .ok (.invokevirtual 277, 3) := by decide +kernel
theorem dX16_limits_24 : decode cX16_limits 24 = .ok (.goto 6, 3) := by decide +kernel
theorem dX16_limits_27 : decode cX16_limits 27 = .ok (.ldc2_w 268, 3) := by decide +kernel
theorem dX16_limits_30 : decode cX16_limits 30 = .ok (.putfield 399, 3) := by decide +kernel
theorem dX16_limits_33 : decode cX16_limits 33 = .ok (.return_, 1) := by decide +kernel
noncomputable def fX16_limits (h : pm_H) (a0 : Nat) : Option ((Nat × pm_H) ⊕ pm_H) := if pm_kd h a0 = 16 then (fX16_small h a0 1).bind fun v2 => pt_k v2 fun w4 => if pm_kd w4.2 a0 = 16 then (fX16_number w4.2 a0).bind fun v7 => pt_k v7 fun w9 => if pm_kd w9.2 a0 = 16 then if w4.1 = 1 then ((fX16_number (pm_setL w9.2 a0 17 w9.1) a0).bind fun v13 => pt_k v13 fun w15 => if pm_kd w15.2 a0 = 16 then some (.inr (pm_setL w15.2 a0 18 w15.1)) else none) else (some (.inr (pm_setL (pm_setL w9.2 a0 17 w9.1) a0 18 (-1)))) else none else none else none
set_option maxHeartbeats 4000000 in
set_option maxRecDepth 100000 in
theorem ctX16_limits {l : Launch} {G : pm_Gl} {h : pm_H} {a0 : Nat} {r : ((Nat × pm_H) ⊕ pm_H)} {Qr : Option Value → pm_H → Prop} {Qt : Nat → pm_H → Prop} (hf : fX16_limits h a0 = some r) (q : pt_eV Qr Qt r) : pm_Ctt l G mX16_limits [.ref a0] h 0 0 Qr Qt := by
  refine pm_bodyT pnX16 (Nat.le_of_ble_eq_true rfl) (fun g C X => ?_)
  have C : pm_C g cX16_limits RX16 := C
  show pm_G g 0 [(0, .ref a0)] [] h 0 0
  unfold fX16_limits at hf
  refine pm_aload_n C dX16_limits_0 rfl rfl ?_
  refine pm_iconst (v := 1) C dX16_limits_1 (by decide) ?_
  obtain ⟨k1, hf⟩ := pm_if hf
  obtain ⟨v2, e3, hf⟩ := pm_bd hf
  refine pt_callVT (as := [.int 1]) (st := []) C X dX16_limits_2 ltX16_393 myX16_small viX16_small ⟨by decide, by decide⟩ rfl rfl k1 (Nat.le_of_ble_eq_true rfl) (Nat.le_refl _) (Nat.le_refl _) (ctX16_small e3 ?_)
  rcases v2 with z5 | w4
  · have hf := pt_kl hf
    cases hf
    exact q
  have hf := pt_kr hf
  show pm_G g 5 [(0, .ref a0)] [.int w4.1] w4.2 0 0
  refine pm_istore_n (lv' := [(1, .int w4.1), (0, .ref a0)]) C dX16_limits_5 rfl (pt_nl X (by decide)) rfl ?_
  refine pm_aload_n C dX16_limits_6 rfl rfl ?_
  refine pm_aload_n C dX16_limits_7 rfl rfl ?_
  obtain ⟨k6, hf⟩ := pm_if hf
  obtain ⟨v7, e8, hf⟩ := pm_bd hf
  refine pt_callVT (as := []) (st := [.ref a0]) C X dX16_limits_8 ltX16_277 myX16_number viX16_number ⟨by decide, by decide⟩ rfl rfl k6 (Nat.le_of_ble_eq_true rfl) (Nat.le_refl _) (Nat.le_refl _) (ctX16_number e8 ?_)
  rcases v7 with z10 | w9
  · have hf := pt_kl hf
    cases hf
    exact q
  have hf := pt_kr hf
  show pm_G g 11 [(1, .int w4.1), (0, .ref a0)] [.long w9.1, .ref a0] w9.2 0 0
  obtain ⟨k11, hf⟩ := pm_if hf
  refine pm_putL C dX16_limits_11 flX16_396 rfl rfl k11 ?_
  refine pm_aload_n C dX16_limits_14 rfl rfl ?_
  refine pm_iload_n C dX16_limits_15 rfl rfl ?_
  refine pm_iconst (v := 1) C dX16_limits_16 (by decide) ?_
  refine pm_icmp_ne (tgt := 27) C dX16_limits_17 (by decide) (fun c12 => ?_) (fun c12 => ?_)
  · have hf := pm_ie hf c12
    refine pm_ldc2 C dX16_limits_27 cnX16_268 ?_
    refine pm_putL C dX16_limits_30 flX16_399 rfl rfl k11 ?_
    cases hf
    exact pt_vret C X dX16_limits_33 rfl (Nat.le_refl _) (Nat.le_refl _) q
  · have hf := pm_it hf c12
    refine pm_aload_n C dX16_limits_20 rfl rfl ?_
    obtain ⟨v13, e14, hf⟩ := pm_bd hf
    refine pt_callVT (as := []) (st := [.ref a0]) C X dX16_limits_21 ltX16_277 myX16_number viX16_number ⟨by decide, by decide⟩ rfl rfl k11 (Nat.le_of_ble_eq_true rfl) (Nat.le_refl _) (Nat.le_refl _) (ctX16_number e14 ?_)
    rcases v13 with z16 | w15
    · have hf := pt_kl hf
      cases hf
      exact q
    have hf := pt_kr hf
    show pm_G g 24 [(1, .int w4.1), (0, .ref a0)] [.long w15.1, .ref a0] w15.2 0 0
    refine pm_goto (tgt := 30) C dX16_limits_24 (by decide) ?_
    obtain ⟨k17, hf⟩ := pm_if hf
    refine pm_putL C dX16_limits_30 flX16_399 rfl rfl k17 ?_
    cases hf
    exact pt_vret C X dX16_limits_33 rfl (Nat.le_refl _) (Nat.le_refl _) q
theorem dX16_name_0 : decode cX16_name 0 = .ok (.aload_n 0, 1) := by decide +kernel
theorem dX16_name_1 : decode cX16_name 1 = .ok (.invokevirtual 277, 3) := by decide +kernel
theorem dX16_name_4 : decode cX16_name 4 = .ok (.lstore_n 1, 1) := by decide +kernel
theorem dX16_name_5 : decode cX16_name 5 = .ok (.aload_n 0, 1) := by decide +kernel
theorem dX16_name_6 : decode cX16_name 6 = .ok (.aload_n 0, 1) := by decide +kernel
theorem dX16_name_7 : decode cX16_name 7 = .ok (.getfield 251, 3) := by decide +kernel
theorem dX16_name_10 : decode cX16_name 10 = .ok (.putfield 281, 3) := by decide +kernel
theorem dX16_name_13 : decode cX16_name 13 = .ok (.lconst 0, 1) := by decide +kernel
theorem dX16_name_14 : decode cX16_name 14 = .ok (.lstore_n 3, 1) := by decide +kernel
theorem dX16_name_15 : decode cX16_name 15 = .ok (.lload_n 3, 1) := by decide +kernel
theorem dX16_name_16 : decode cX16_name 16 = .ok (.lload_n 1, 1) := by decide +kernel
theorem dX16_name_17 : decode cX16_name 17 = .ok (.lcmp, 1) := by decide +kernel
theorem dX16_name_18 : decode cX16_name 18 = .ok (.ifCond .ge 16, 3) := by decide +kernel
theorem dX16_name_21 : decode cX16_name 21 = .ok (.aload_n 0, 1) := by decide +kernel
theorem dX16_name_22 : decode cX16_name 22 = .ok (.invokevirtual 264, 3) := by decide +kernel
theorem dX16_name_25 : decode cX16_name 25 = .ok (.istore 5, 2) := by decide +kernel
theorem dX16_name_27 : decode cX16_name 27 = .ok (.lload_n 3, 1) := by decide +kernel
theorem dX16_name_28 : decode cX16_name 28 = .ok (.lconst 1, 1) := by decide +kernel
theorem dX16_name_29 : decode cX16_name 29 = .ok (.ladd, 1) := by decide +kernel
theorem dX16_name_30 : decode cX16_name 30 = .ok (.lstore_n 3, 1) := by decide +kernel
theorem dX16_name_31 : decode cX16_name 31 = .ok (.goto (-16), 3) := by decide +kernel
theorem dX16_name_34 : decode cX16_name 34 = .ok (.aload_n 0, 1) := by decide +kernel
theorem dX16_name_35 : decode cX16_name 35 = .ok (.getfield 281, 3) := by decide +kernel
theorem dX16_name_38 : decode cX16_name 38 = .ok (.istore_n 3, 1) := by decide +kernel
theorem dX16_name_39 : decode cX16_name 39 = .ok (.iload_n 3, 1) := by decide +kernel
theorem dX16_name_40 : decode cX16_name 40 = .ok (.aload_n 0, 1) := by decide +kernel
theorem dX16_name_41 : decode cX16_name 41 = .ok (.getfield 251, 3) := by decide +kernel
theorem dX16_name_44 : decode cX16_name 44 = .ok (.if_icmp .ge 18, 3) := by decide +kernel
theorem dX16_name_47 : decode cX16_name 47 = .ok (.iload_n 3, 1) := by decide +kernel
theorem dX16_name_48 : decode cX16_name 48 = .ok (.aload_n 0, 1) := by decide +kernel
theorem dX16_name_49 : decode cX16_name 49 = .ok (.iload_n 3, 1) := by decide +kernel
theorem dX16_name_50 : decode cX16_name 50 = .ok (.aload_n 0, 1) := by decide +kernel
theorem dX16_name_51 : decode cX16_name 51 = .ok (.getfield 251, 3) := by decide +kernel
theorem dX16_name_54 : decode cX16_name 54 = .ok (.invokevirtual 284, 3) := by decide +kernel
theorem dX16_name_57 : decode cX16_name 57 = .ok (.iadd, 1) := by decide +kernel
theorem dX16_name_58 : decode cX16_name 58 = .ok (.istore_n 3, 1) := by decide +kernel
theorem dX16_name_59 : decode cX16_name 59 = .ok (.goto (-20), 3) := by decide +kernel
theorem dX16_name_62 : decode cX16_name 62 = .ok (.return_, 1) := by decide +kernel
noncomputable def tX16_name_15 (x0 : Nat) (x1 : Int64) (x3 : Int64) (h : pm_H) : Option (((Nat × Int64 × Int64 × pm_H) ⊕ (Nat × Int32 × pm_H)) ⊕ ((Nat × pm_H) ⊕ pm_H)) := if x1 ≤ x3 then (if pm_kd h x0 = 16 then pm_let (pm_I h x0 16) fun y11 => some (.inl (.inr ((x0, y11, h)))) else none) else (if pm_kd h x0 = 16 then (fX16_next h x0).bind fun v14 => pt_s v14 fun w16 => pm_let (x3 + 1) fun y18 => some (.inl (.inl ((x0, x1, y18, w16.2)))) else none)
noncomputable def tX16_name_39 (x0 : Nat) (x3 : Int32) (h : pm_H) : Option (((Nat × Int64 × Int64 × pm_H) ⊕ (Nat × Int32 × pm_H)) ⊕ ((Nat × pm_H) ⊕ pm_H)) := if pm_kd h x0 = 16 then if (pm_I h x0 11) ≤ x3 then (some (.inr (.inr (h)))) else ((fX16_character h x0 x3 (pm_I h x0 11)).bind fun v22 => pt_s v22 fun w24 => pm_let (x3 + w24.1) fun y26 => some (.inl (.inr ((x0, y26, w24.2))))) else none
noncomputable def sX16_name : ((Nat × Int64 × Int64 × pm_H) ⊕ (Nat × Int32 × pm_H)) → Option (((Nat × Int64 × Int64 × pm_H) ⊕ (Nat × Int32 × pm_H)) ⊕ ((Nat × pm_H) ⊕ pm_H)) := fun z => match z with
  | .inl (x0, x1, x3, h) => tX16_name_15 x0 x1 x3 h
  | .inr (x0, x3, h) => tX16_name_39 x0 x3 h
noncomputable def fX16_name (h : pm_H) (a0 : Nat) : Option ((Nat × pm_H) ⊕ pm_H) := if pm_kd h a0 = 16 then (fX16_number h a0).bind fun v2 => pt_k v2 fun w4 => if pm_kd w4.2 a0 = 16 then pm_let (pm_I w4.2 a0 11) fun y7 => pm_lim sX16_name (.inl ((a0, w4.1, 0, pm_setI w4.2 a0 16 y7))) else none else none
set_option maxHeartbeats 4000000 in
set_option maxRecDepth 100000 in
theorem lpX16_name {g : pm_Gm} {l : Launch} {G : pm_Gl} {Qr : Option Value → pm_H → Prop} {Qt : Nat → pm_H → Prop} (C : pm_C g cX16_name RX16) (X : pm_XT g l G mX16_name 0 0 Qr Qt) {r : ((Nat × pm_H) ⊕ pm_H)} (q : pt_eV Qr Qt r) : ∀ n : Nat, (∀ (x0 : Nat) (x1 : Int64) (x3 : Int64) (h : pm_H), pm_iter sX16_name n (.inl (x0, x1, x3, h)) = some r → pm_G g 15 [(0, .ref x0), (1, .long x1), (3, .long x3)] [] h 0 0) ∧ (∀ (x0 : Nat) (x3 : Int32) (h : pm_H), pm_iter sX16_name n (.inr (x0, x3, h)) = some r → pm_G g 39 [(0, .ref x0), (3, .int x3)] [] h 0 0) := by
  intro n
  induction n with
  | zero => exact ⟨fun _ _ _ _ hf => (by cases hf), fun _ _ _ hf => (by cases hf)⟩
  | succ n ih =>
    refine ⟨fun x0 x1 x3 h hf => ?_, ?_⟩
    · obtain ⟨y, hf, hi⟩ := pm_iter_s hf
      have hf : tX16_name_15 x0 x1 x3 h = some y := hf
      unfold tX16_name_15 at hf
      refine pm_lload_n C dX16_name_15 rfl rfl ?_
      refine pm_lload_n C dX16_name_16 rfl rfl ?_
      refine pm_lcmp C dX16_name_17 ?_
      refine pm_if_ge (tgt := 34) C dX16_name_18 (by decide) (fun c9 => ?_) (fun c9 => ?_)
      · have hf := pm_it hf ((pm_lg_ge _ _).mp c9)
        refine pm_aload_n C dX16_name_34 rfl rfl ?_
        obtain ⟨k10, hf⟩ := pm_if hf
        refine pm_getI C dX16_name_35 flX16_281 rfl k10 rfl ?_
        obtain ⟨y11, e12, hf⟩ := pm_lt hf
        refine pm_topI e12 ?_
        refine pm_istore_n (lv' := [(3, .int y11), (0, .ref x0), (1, .long x1)]) C dX16_name_38 rfl (pt_nl X (by decide)) rfl ?_
        cases hf
        exact pm_sub [1, 0] rfl (ih.2 x0 y11 h hi)
      · have hf := pm_ie hf ((fun z => c9 ((pm_lg_ge _ _).mpr z)))
        refine pm_aload_n C dX16_name_21 rfl rfl ?_
        obtain ⟨k13, hf⟩ := pm_if hf
        obtain ⟨v14, e15, hf⟩ := pm_bd hf
        refine pt_callVT (as := []) (st := []) C X dX16_name_22 ltX16_264 myX16_next viX16_next ⟨by decide, by decide⟩ rfl rfl k13 (Nat.le_of_ble_eq_true rfl) (Nat.le_refl _) (Nat.le_refl _) (ctX16_next e15 ?_)
        rcases v14 with z17 | w16
        · have hf := pt_sl hf
          cases hf
          cases hi
          exact q
        have hf := pt_sr hf
        show pm_G g 25 [(0, .ref x0), (1, .long x1), (3, .long x3)] [.int w16.1] w16.2 0 0
        refine pm_istore (lv' := [(5, .int w16.1), (0, .ref x0), (1, .long x1), (3, .long x3)]) C dX16_name_25 (pt_nl X (by decide)) rfl ?_
        refine pm_lload_n C dX16_name_27 rfl rfl ?_
        refine pm_lconst (v := 1) C dX16_name_28 (by decide) ?_
        refine pm_ladd C dX16_name_29 ?_
        obtain ⟨y18, e19, hf⟩ := pm_lt hf
        refine pm_topL e19 ?_
        refine pm_lstore_n (lv' := [(3, .long y18), (5, .int w16.1), (0, .ref x0), (1, .long x1)]) C dX16_name_30 rfl (pt_nl X (by decide)) rfl ?_
        refine pm_goto (tgt := 15) C dX16_name_31 (by decide) ?_
        cases hf
        exact pm_sub [2, 3, 0] rfl (ih.1 x0 x1 y18 w16.2 hi)
    refine fun x0 x3 h hf => ?_
    obtain ⟨y, hf, hi⟩ := pm_iter_s hf
    have hf : tX16_name_39 x0 x3 h = some y := hf
    unfold tX16_name_39 at hf
    refine pm_iload_n C dX16_name_39 rfl rfl ?_
    refine pm_aload_n C dX16_name_40 rfl rfl ?_
    obtain ⟨k20, hf⟩ := pm_if hf
    refine pm_getI C dX16_name_41 flX16_251 rfl k20 rfl ?_
    refine pm_icmp_ge (tgt := 62) C dX16_name_44 (by decide) (fun c21 => ?_) (fun c21 => ?_)
    · have hf := pm_it hf c21
      cases hf
      cases hi
      exact pt_vret C X dX16_name_62 rfl (Nat.le_refl _) (Nat.le_refl _) q
    · have hf := pm_ie hf c21
      refine pm_iload_n C dX16_name_47 rfl rfl ?_
      refine pm_aload_n C dX16_name_48 rfl rfl ?_
      refine pm_iload_n C dX16_name_49 rfl rfl ?_
      refine pm_aload_n C dX16_name_50 rfl rfl ?_
      refine pm_getI C dX16_name_51 flX16_251 rfl k20 rfl ?_
      obtain ⟨v22, e23, hf⟩ := pm_bd hf
      refine pt_callVT (as := [.int x3, .int (pm_I h x0 11)]) (st := [.int x3]) C X dX16_name_54 ltX16_284 myX16_character viX16_character ⟨by decide, by decide⟩ rfl rfl k20 (Nat.le_of_ble_eq_true rfl) (Nat.le_refl _) (Nat.le_refl _) (ctX16_character e23 ?_)
      rcases v22 with z25 | w24
      · have hf := pt_sl hf
        cases hf
        cases hi
        exact q
      have hf := pt_sr hf
      show pm_G g 57 [(0, .ref x0), (3, .int x3)] [.int w24.1, .int x3] w24.2 0 0
      refine pm_iadd C dX16_name_57 ?_
      obtain ⟨y26, e27, hf⟩ := pm_lt hf
      refine pm_topI e27 ?_
      refine pm_istore_n (lv' := [(3, .int y26), (0, .ref x0)]) C dX16_name_58 rfl (pt_nl X (by decide)) rfl ?_
      refine pm_goto (tgt := 39) C dX16_name_59 (by decide) ?_
      cases hf
      exact pm_sub [1, 0] rfl (ih.2 x0 y26 w24.2 hi)
set_option maxHeartbeats 4000000 in
set_option maxRecDepth 100000 in
theorem ctX16_name {l : Launch} {G : pm_Gl} {h : pm_H} {a0 : Nat} {r : ((Nat × pm_H) ⊕ pm_H)} {Qr : Option Value → pm_H → Prop} {Qt : Nat → pm_H → Prop} (hf : fX16_name h a0 = some r) (q : pt_eV Qr Qt r) : pm_Ctt l G mX16_name [.ref a0] h 0 0 Qr Qt := by
  refine pm_bodyT pnX16 (Nat.le_of_ble_eq_true rfl) (fun g C X => ?_)
  have C : pm_C g cX16_name RX16 := C
  show pm_G g 0 [(0, .ref a0)] [] h 0 0
  unfold fX16_name at hf
  refine pm_aload_n C dX16_name_0 rfl rfl ?_
  obtain ⟨k1, hf⟩ := pm_if hf
  obtain ⟨v2, e3, hf⟩ := pm_bd hf
  refine pt_callVT (as := []) (st := []) C X dX16_name_1 ltX16_277 myX16_number viX16_number ⟨by decide, by decide⟩ rfl rfl k1 (Nat.le_of_ble_eq_true rfl) (Nat.le_refl _) (Nat.le_refl _) (ctX16_number e3 ?_)
  rcases v2 with z5 | w4
  · have hf := pt_kl hf
    cases hf
    exact q
  have hf := pt_kr hf
  show pm_G g 4 [(0, .ref a0)] [.long w4.1] w4.2 0 0
  refine pm_lstore_n (lv' := [(1, .long w4.1), (0, .ref a0)]) C dX16_name_4 rfl (pt_nl X (by decide)) rfl ?_
  refine pm_aload_n C dX16_name_5 rfl rfl ?_
  refine pm_aload_n C dX16_name_6 rfl rfl ?_
  obtain ⟨k6, hf⟩ := pm_if hf
  refine pm_getI C dX16_name_7 flX16_251 rfl k6 rfl ?_
  obtain ⟨y7, e8, hf⟩ := pm_lt hf
  refine pm_topI e8 ?_
  refine pm_putI C dX16_name_10 flX16_281 rfl rfl k6 rfl rfl ?_
  refine pm_lconst (v := 0) C dX16_name_13 (by decide) ?_
  refine pm_lstore_n (lv' := [(3, .long 0), (1, .long w4.1), (0, .ref a0)]) C dX16_name_14 rfl (pt_nl X (by decide)) rfl ?_
  obtain ⟨n, hn⟩ := pm_lim_iter hf
  exact pm_sub [2, 1, 0] rfl ((lpX16_name C X q n).1 a0 w4.1 0 (pm_setI w4.2 a0 16 y7) hn)
theorem dX16_names_0 : decode cX16_names 0 = .ok (.aload_n 0, 1) := by decide +kernel
theorem dX16_names_1 : decode cX16_names 1 = .ok (.invokevirtual 603, 3) := by decide +kernel
theorem dX16_names_4 : decode cX16_names 4 = .ok (.lstore_n 2, 1) := by decide +kernel
theorem dX16_names_5 : decode cX16_names 5 = .ok (.iload_n 1, 1) := by decide +kernel
theorem dX16_names_6 : decode cX16_names 6 = .ok (.bipush 35, 2) := by decide +kernel
theorem dX16_names_8 : decode cX16_names 8 = .ok (.if_icmp .ge 19, 3) := by decide +kernel
theorem dX16_names_11 : decode cX16_names 11 = .ok (.aload_n 0, 1) := by decide +kernel
theorem dX16_names_12 : decode cX16_names 12 = .ok (.aload_n 0, 1) := by decide +kernel
theorem dX16_names_13 : decode cX16_names 13 = .ok (.getfield 710, 3) := by decide +kernel
theorem dX16_names_16 : decode cX16_names 16 = .ok (.aload_n 0, 1) := by decide +kernel
theorem dX16_names_17 : decode cX16_names 17 = .ok (.getfield 713, 3) := by decide +kernel
theorem dX16_names_20 : decode cX16_names 20 = .ok (.lload_n 2, 1) := by decide +kernel
theorem dX16_names_21 : decode cX16_names 21 = .ok (.invokevirtual 789, 3) := by decide +kernel
theorem dX16_names_24 : decode cX16_names 24 = .ok (.goto 30, 3) := by decide +kernel
theorem dX16_names_27 : decode cX16_names 27 = .ok (.iload_n 1, 1) := by decide +kernel
theorem dX16_names_28 : decode cX16_names 28 = .ok (.bipush 37, 2) := by decide +kernel
theorem dX16_names_30 : decode cX16_names 30 = .ok (.if_icmp .ge 15, 3) := by decide +kernel
theorem dX16_names_33 : decode cX16_names 33 = .ok (.aload_n 0, 1) := by decide +kernel
theorem dX16_names_34 : decode cX16_names 34 = .ok (.getfield 221, 3) := by decide +kernel
theorem dX16_names_37 : decode cX16_names 37 = .ok (.lload_n 2, 1) := by decide +kernel
theorem dX16_names_38 : decode cX16_names 38 = .ok (.l2i, 1) := by decide +kernel
theorem dX16_names_39 : decode cX16_names 39 = .ok (.invokevirtual 670, 3) := by decide +kernel
theorem dX16_names_42 : decode cX16_names 42 = .ok (.goto 12, 3) := by decide +kernel
theorem dX16_names_45 : decode cX16_names 45 = .ok (.aload_n 0, 1) := by decide +kernel
theorem dX16_names_46 : decode cX16_names 46 = .ok (.getfield 221, 3) := by decide +kernel
theorem dX16_names_49 : decode cX16_names 49 = .ok (.lload_n 2, 1) := by decide +kernel
theorem dX16_names_50 : decode cX16_names 50 = .ok (.l2i, 1) := by decide +kernel
theorem dX16_names_51 : decode cX16_names 51 = .ok (.invokevirtual 661, 3) := by decide +kernel
theorem dX16_names_54 : decode cX16_names 54 = .ok (.istore 4, 2) := by decide +kernel
theorem dX16_names_56 : decode cX16_names 56 = .ok (.iload_n 1, 1) := by decide +kernel
theorem dX16_names_57 : decode cX16_names 57 = .ok (.bipush 37, 2) := by decide +kernel
theorem dX16_names_59 : decode cX16_names 59 = .ok (.if_icmp .ne 10, 3) := by decide +kernel
theorem dX16_names_62 : decode cX16_names 62 = .ok (.aload_n 0, 1) := by decide +kernel
theorem dX16_names_63 : decode cX16_names 63 = .ok (.bipush 127, 2) := by decide +kernel
theorem dX16_names_65 : decode cX16_names 65 = .ok (.iconst 1, 1) := by decide +kernel
theorem dX16_names_66 : decode cX16_names 66 = .ok (.invokevirtual 750, 3) := by decide +kernel
theorem dX16_names_69 : decode cX16_names 69 = .ok (.iload_n 1, 1) := by decide +kernel
theorem dX16_names_70 : decode cX16_names 70 = .ok (.bipush 33, 2) := by decide +kernel
theorem dX16_names_72 : decode cX16_names 72 = .ok (.if_icmp .eq 21, 3) := by decide +kernel
theorem dX16_names_75 : decode cX16_names 75 = .ok (.iload_n 1, 1) := by decide +kernel
theorem dX16_names_76 : decode cX16_names 76 = .ok (.bipush 34, 2) := by decide +kernel
theorem dX16_names_78 : decode cX16_names 78 = .ok (.if_icmp .eq 15, 3) := by decide +kernel
theorem dX16_names_81 : decode cX16_names 81 = .ok (.iload_n 1, 1) := by decide +kernel
theorem dX16_names_82 : decode cX16_names 82 = .ok (.bipush 36, 2) := by decide +kernel
theorem dX16_names_84 : decode cX16_names 84 = .ok (.if_icmp .eq 9, 3) := by decide +kernel
theorem dX16_names_87 : decode cX16_names 87 = .ok (.iload_n 1, 1) := by decide +kernel
theorem dX16_names_88 : decode cX16_names 88 = .ok (.bipush 38, 2) := by decide +kernel
theorem dX16_names_90 : decode cX16_names 90 = .ok (.if_icmp .ne 10, 3) := by decide +kernel
theorem dX16_names_93 : decode cX16_names 93 = .ok (.aload_n 0, 1) := by decide +kernel
theorem dX16_names_94 : decode cX16_names 94 = .ok (.iload 4, 2) := by decide +kernel
theorem dX16_names_96 : decode cX16_names 96 = .ok (.iconst 1, 1) := by decide +kernel
theorem dX16_names_97 : decode cX16_names 97 = .ok (.invokevirtual 750, 3) := by decide +kernel
theorem dX16_names_100 : decode cX16_names 100 = .ok (.iload_n 1, 1) := by decide +kernel
theorem dX16_names_101 : decode cX16_names 101 = .ok (.bipush 38, 2) := by decide +kernel
theorem dX16_names_103 : decode cX16_names 103 = .ok (.if_icmp .ne 10, 3) := by decide +kernel
theorem dX16_names_106 : decode cX16_names 106 = .ok (.aload_n 0, 1) := by decide +kernel
theorem dX16_names_107 : decode cX16_names 107 = .ok (.bipush 127, 2) := by decide +kernel
theorem dX16_names_109 : decode cX16_names 109 = .ok (.iconst 1, 1) := by decide +kernel
theorem dX16_names_110 : decode cX16_names 110 = .ok (.invokevirtual 750, 3) := by decide +kernel
theorem dX16_names_113 : decode cX16_names 113 = .ok (.iload_n 1, 1) := by decide +kernel
theorem dX16_names_114 : decode cX16_names 114 = .ok (.bipush 32, 2) := by decide +kernel
theorem dX16_names_116 : decode cX16_names 116 = .ok (.if_icmp .eq 21, 3) := by decide +kernel
theorem dX16_names_119 : decode cX16_names 119 = .ok (.iload_n 1, 1) := by decide +kernel
theorem dX16_names_120 : decode cX16_names 120 = .ok (.bipush 34, 2) := by decide +kernel
theorem dX16_names_122 : decode cX16_names 122 = .ok (.if_icmp .eq 15, 3) := by decide +kernel
theorem dX16_names_125 : decode cX16_names 125 = .ok (.iload_n 1, 1) := by decide +kernel
theorem dX16_names_126 : decode cX16_names 126 = .ok (.bipush 35, 2) := by decide +kernel
theorem dX16_names_128 : decode cX16_names 128 = .ok (.if_icmp .eq 9, 3) := by decide +kernel
theorem dX16_names_131 : decode cX16_names 131 = .ok (.iload_n 1, 1) := by decide +kernel
theorem dX16_names_132 : decode cX16_names 132 = .ok (.bipush 37, 2) := by decide +kernel
theorem dX16_names_134 : decode cX16_names 134 = .ok (.if_icmp .ne 9, 3) := by decide +kernel
theorem dX16_names_137 : decode cX16_names 137 = .ok (.aload_n 0, 1) := by decide +kernel
theorem dX16_names_138 : decode cX16_names 138 = .ok (.iload 4, 2) := by decide +kernel
theorem dX16_names_140 : decode cX16_names 140 = .ok (.invokevirtual 695, 3) := by decide +kernel
theorem dX16_names_143 : decode cX16_names 143 = .ok (.return_, 1) := by decide +kernel
noncomputable def fX16_names_b113 (h : pm_H) (x0 : Nat) (x1 : Int32) (x4 : Int32) : Option ((Nat × pm_H) ⊕ pm_H) := if x1 = 32 then (if pm_kd h x0 = 16 then (fX16_put h x0 x4).bind fun v44 => pt_k v44 fun w46 => some (.inr (w46)) else none) else (if x1 = 34 then (if pm_kd h x0 = 16 then (fX16_put h x0 x4).bind fun v50 => pt_k v50 fun w52 => some (.inr (w52)) else none) else (if x1 = 35 then (if pm_kd h x0 = 16 then (fX16_put h x0 x4).bind fun v56 => pt_k v56 fun w58 => some (.inr (w58)) else none) else (if x1 = 37 then (if pm_kd h x0 = 16 then (fX16_put h x0 x4).bind fun v62 => pt_k v62 fun w64 => some (.inr (w64)) else none) else (some (.inr (h))))))
noncomputable def fX16_names_b100 (h : pm_H) (x0 : Nat) (x1 : Int32) (x4 : Int32) : Option ((Nat × pm_H) ⊕ pm_H) := if x1 = 38 then (if pm_kd h x0 = 16 then (fX16_takes h x0 127 1).bind fun v38 => pt_k v38 fun w40 => fX16_names_b113 w40 x0 x1 x4 else none) else (fX16_names_b113 h x0 x1 x4)
noncomputable def fX16_names_b93 (h : pm_H) (x0 : Nat) (x1 : Int32) (x4 : Int32) : Option ((Nat × pm_H) ⊕ pm_H) := if pm_kd h x0 = 16 then (fX16_takes h x0 x4 1).bind fun v32 => pt_k v32 fun w34 => fX16_names_b100 w34 x0 x1 x4 else none
noncomputable def fX16_names_b69 (h : pm_H) (x0 : Nat) (x1 : Int32) (x4 : Int32) : Option ((Nat × pm_H) ⊕ pm_H) := if x1 = 33 then (fX16_names_b93 h x0 x1 x4) else (if x1 = 34 then (fX16_names_b93 h x0 x1 x4) else (if x1 = 36 then (fX16_names_b93 h x0 x1 x4) else (if x1 = 38 then (fX16_names_b93 h x0 x1 x4) else (fX16_names_b100 h x0 x1 x4))))
noncomputable def fX16_names_b54 (h : pm_H) (x0 : Nat) (x1 : Int32) (s0 : Int32) : Option ((Nat × pm_H) ⊕ pm_H) := if x1 = 37 then (if pm_kd h x0 = 16 then (fX16_takes h x0 127 1).bind fun v23 => pt_k v23 fun w25 => fX16_names_b69 w25 x0 x1 s0 else none) else (fX16_names_b69 h x0 x1 s0)
noncomputable def fX16_names (h : pm_H) (a0 : Nat) (p1 : Int32) : Option ((Nat × pm_H) ⊕ pm_H) := if pm_kd h a0 = 16 then (fX16_word h a0).bind fun v2 => if 35 ≤ p1 then (if 37 ≤ p1 then (if pm_kd v2.2 a0 = 16 then (pm_R v2.2 a0 10).bind fun v7 => if pm_kd v2.2 v7 = 14 then (fX14_typeOfTable v2.2 v7 v2.1.toInt32).bind fun v10 => fX16_names_b54 v2.2 a0 p1 v10 else none else none) else (if pm_kd v2.2 a0 = 16 then (pm_R v2.2 a0 10).bind fun v13 => if pm_kd v2.2 v13 = 14 then (fX14_typeOfGlobal v2.2 v13 v2.1.toInt32).bind fun v16 => fX16_names_b54 v2.2 a0 p1 v16 else none else none)) else (if pm_kd v2.2 a0 = 16 then (fX16_localType v2.2 a0 (pm_I v2.2 a0 29) (pm_I v2.2 a0 30) v2.1).bind fun v19 => fX16_names_b54 v19.2 a0 p1 v19.1 else none) else none
set_option maxHeartbeats 4000000 in
set_option maxRecDepth 100000 in
theorem bX16_names_113 {g : pm_Gm} {l : Launch} {G : pm_Gl} {Qr : Option Value → pm_H → Prop} {Qt : Nat → pm_H → Prop} (C : pm_C g cX16_names RX16) (X : pm_XT g l G mX16_names 0 0 Qr Qt) {h : pm_H} {x0 : Nat} {x1 : Int32} {x4 : Int32} {r : ((Nat × pm_H) ⊕ pm_H)} (hf : fX16_names_b113 h x0 x1 x4 = some r) (q : pt_eV Qr Qt r) : pm_G g 113 [(0, .ref x0), (1, .int x1), (4, .int x4)] [] h 0 0 := by
  unfold fX16_names_b113 at hf
  refine pm_iload_n C dX16_names_113 rfl rfl ?_
  refine pm_bipush (v := 32) C dX16_names_114 (by decide) ?_
  refine pm_icmp_eq (tgt := 137) C dX16_names_116 (by decide) (fun c42 => ?_) (fun c42 => ?_)
  · have hf := pm_it hf c42
    refine pm_aload_n C dX16_names_137 rfl rfl ?_
    refine pm_iload C dX16_names_138 rfl ?_
    obtain ⟨k43, hf⟩ := pm_if hf
    obtain ⟨v44, e45, hf⟩ := pm_bd hf
    refine pt_callVT (as := [.int x4]) (st := []) C X dX16_names_140 ltX16_695 myX16_put viX16_put ⟨by decide, by decide⟩ rfl rfl k43 (Nat.le_of_ble_eq_true rfl) (Nat.le_refl _) (Nat.le_refl _) (ctX16_put e45 ?_)
    rcases v44 with z47 | w46
    · have hf := pt_kl hf
      cases hf
      exact q
    have hf := pt_kr hf
    show pm_G g 143 [(0, .ref x0), (1, .int x1), (4, .int x4)] [] w46 0 0
    cases hf
    exact pt_vret C X dX16_names_143 rfl (Nat.le_refl _) (Nat.le_refl _) q
  · have hf := pm_ie hf c42
    refine pm_iload_n C dX16_names_119 rfl rfl ?_
    refine pm_bipush (v := 34) C dX16_names_120 (by decide) ?_
    refine pm_icmp_eq (tgt := 137) C dX16_names_122 (by decide) (fun c48 => ?_) (fun c48 => ?_)
    · have hf := pm_it hf c48
      refine pm_aload_n C dX16_names_137 rfl rfl ?_
      refine pm_iload C dX16_names_138 rfl ?_
      obtain ⟨k49, hf⟩ := pm_if hf
      obtain ⟨v50, e51, hf⟩ := pm_bd hf
      refine pt_callVT (as := [.int x4]) (st := []) C X dX16_names_140 ltX16_695 myX16_put viX16_put ⟨by decide, by decide⟩ rfl rfl k49 (Nat.le_of_ble_eq_true rfl) (Nat.le_refl _) (Nat.le_refl _) (ctX16_put e51 ?_)
      rcases v50 with z53 | w52
      · have hf := pt_kl hf
        cases hf
        exact q
      have hf := pt_kr hf
      show pm_G g 143 [(0, .ref x0), (1, .int x1), (4, .int x4)] [] w52 0 0
      cases hf
      exact pt_vret C X dX16_names_143 rfl (Nat.le_refl _) (Nat.le_refl _) q
    · have hf := pm_ie hf c48
      refine pm_iload_n C dX16_names_125 rfl rfl ?_
      refine pm_bipush (v := 35) C dX16_names_126 (by decide) ?_
      refine pm_icmp_eq (tgt := 137) C dX16_names_128 (by decide) (fun c54 => ?_) (fun c54 => ?_)
      · have hf := pm_it hf c54
        refine pm_aload_n C dX16_names_137 rfl rfl ?_
        refine pm_iload C dX16_names_138 rfl ?_
        obtain ⟨k55, hf⟩ := pm_if hf
        obtain ⟨v56, e57, hf⟩ := pm_bd hf
        refine pt_callVT (as := [.int x4]) (st := []) C X dX16_names_140 ltX16_695 myX16_put viX16_put ⟨by decide, by decide⟩ rfl rfl k55 (Nat.le_of_ble_eq_true rfl) (Nat.le_refl _) (Nat.le_refl _) (ctX16_put e57 ?_)
        rcases v56 with z59 | w58
        · have hf := pt_kl hf
          cases hf
          exact q
        have hf := pt_kr hf
        show pm_G g 143 [(0, .ref x0), (1, .int x1), (4, .int x4)] [] w58 0 0
        cases hf
        exact pt_vret C X dX16_names_143 rfl (Nat.le_refl _) (Nat.le_refl _) q
      · have hf := pm_ie hf c54
        refine pm_iload_n C dX16_names_131 rfl rfl ?_
        refine pm_bipush (v := 37) C dX16_names_132 (by decide) ?_
        refine pm_icmp_ne (tgt := 143) C dX16_names_134 (by decide) (fun c60 => ?_) (fun c60 => ?_)
        · have hf := pm_ie hf c60
          cases hf
          exact pt_vret C X dX16_names_143 rfl (Nat.le_refl _) (Nat.le_refl _) q
        · have hf := pm_it hf c60
          refine pm_aload_n C dX16_names_137 rfl rfl ?_
          refine pm_iload C dX16_names_138 rfl ?_
          obtain ⟨k61, hf⟩ := pm_if hf
          obtain ⟨v62, e63, hf⟩ := pm_bd hf
          refine pt_callVT (as := [.int x4]) (st := []) C X dX16_names_140 ltX16_695 myX16_put viX16_put ⟨by decide, by decide⟩ rfl rfl k61 (Nat.le_of_ble_eq_true rfl) (Nat.le_refl _) (Nat.le_refl _) (ctX16_put e63 ?_)
          rcases v62 with z65 | w64
          · have hf := pt_kl hf
            cases hf
            exact q
          have hf := pt_kr hf
          show pm_G g 143 [(0, .ref x0), (1, .int x1), (4, .int x4)] [] w64 0 0
          cases hf
          exact pt_vret C X dX16_names_143 rfl (Nat.le_refl _) (Nat.le_refl _) q
set_option maxHeartbeats 4000000 in
set_option maxRecDepth 100000 in
theorem bX16_names_100 {g : pm_Gm} {l : Launch} {G : pm_Gl} {Qr : Option Value → pm_H → Prop} {Qt : Nat → pm_H → Prop} (C : pm_C g cX16_names RX16) (X : pm_XT g l G mX16_names 0 0 Qr Qt) {h : pm_H} {x0 : Nat} {x1 : Int32} {x4 : Int32} {r : ((Nat × pm_H) ⊕ pm_H)} (hf : fX16_names_b100 h x0 x1 x4 = some r) (q : pt_eV Qr Qt r) : pm_G g 100 [(0, .ref x0), (1, .int x1), (4, .int x4)] [] h 0 0 := by
  unfold fX16_names_b100 at hf
  refine pm_iload_n C dX16_names_100 rfl rfl ?_
  refine pm_bipush (v := 38) C dX16_names_101 (by decide) ?_
  refine pm_icmp_ne (tgt := 113) C dX16_names_103 (by decide) (fun c36 => ?_) (fun c36 => ?_)
  · have hf := pm_ie hf c36
    exact pm_sub [0, 1, 2] rfl (bX16_names_113 C X hf q)
  · have hf := pm_it hf c36
    refine pm_aload_n C dX16_names_106 rfl rfl ?_
    refine pm_bipush (v := 127) C dX16_names_107 (by decide) ?_
    refine pm_iconst (v := 1) C dX16_names_109 (by decide) ?_
    obtain ⟨k37, hf⟩ := pm_if hf
    obtain ⟨v38, e39, hf⟩ := pm_bd hf
    refine pt_callVT (as := [.int 127, .int 1]) (st := []) C X dX16_names_110 ltX16_750 myX16_takes viX16_takes ⟨by decide, by decide⟩ rfl rfl k37 (Nat.le_of_ble_eq_true rfl) (Nat.le_refl _) (Nat.le_refl _) (ctX16_takes e39 ?_)
    rcases v38 with z41 | w40
    · have hf := pt_kl hf
      cases hf
      exact q
    have hf := pt_kr hf
    show pm_G g 113 [(0, .ref x0), (1, .int x1), (4, .int x4)] [] w40 0 0
    exact pm_sub [0, 1, 2] rfl (bX16_names_113 C X hf q)
set_option maxHeartbeats 4000000 in
set_option maxRecDepth 100000 in
theorem bX16_names_93 {g : pm_Gm} {l : Launch} {G : pm_Gl} {Qr : Option Value → pm_H → Prop} {Qt : Nat → pm_H → Prop} (C : pm_C g cX16_names RX16) (X : pm_XT g l G mX16_names 0 0 Qr Qt) {h : pm_H} {x0 : Nat} {x1 : Int32} {x4 : Int32} {r : ((Nat × pm_H) ⊕ pm_H)} (hf : fX16_names_b93 h x0 x1 x4 = some r) (q : pt_eV Qr Qt r) : pm_G g 93 [(0, .ref x0), (1, .int x1), (4, .int x4)] [] h 0 0 := by
  unfold fX16_names_b93 at hf
  refine pm_aload_n C dX16_names_93 rfl rfl ?_
  refine pm_iload C dX16_names_94 rfl ?_
  refine pm_iconst (v := 1) C dX16_names_96 (by decide) ?_
  obtain ⟨k31, hf⟩ := pm_if hf
  obtain ⟨v32, e33, hf⟩ := pm_bd hf
  refine pt_callVT (as := [.int x4, .int 1]) (st := []) C X dX16_names_97 ltX16_750 myX16_takes viX16_takes ⟨by decide, by decide⟩ rfl rfl k31 (Nat.le_of_ble_eq_true rfl) (Nat.le_refl _) (Nat.le_refl _) (ctX16_takes e33 ?_)
  rcases v32 with z35 | w34
  · have hf := pt_kl hf
    cases hf
    exact q
  have hf := pt_kr hf
  show pm_G g 100 [(0, .ref x0), (1, .int x1), (4, .int x4)] [] w34 0 0
  exact pm_sub [0, 1, 2] rfl (bX16_names_100 C X hf q)
set_option maxHeartbeats 4000000 in
set_option maxRecDepth 100000 in
theorem bX16_names_69 {g : pm_Gm} {l : Launch} {G : pm_Gl} {Qr : Option Value → pm_H → Prop} {Qt : Nat → pm_H → Prop} (C : pm_C g cX16_names RX16) (X : pm_XT g l G mX16_names 0 0 Qr Qt) {h : pm_H} {x0 : Nat} {x1 : Int32} {x4 : Int32} {r : ((Nat × pm_H) ⊕ pm_H)} (hf : fX16_names_b69 h x0 x1 x4 = some r) (q : pt_eV Qr Qt r) : pm_G g 69 [(0, .ref x0), (1, .int x1), (4, .int x4)] [] h 0 0 := by
  unfold fX16_names_b69 at hf
  refine pm_iload_n C dX16_names_69 rfl rfl ?_
  refine pm_bipush (v := 33) C dX16_names_70 (by decide) ?_
  refine pm_icmp_eq (tgt := 93) C dX16_names_72 (by decide) (fun c27 => ?_) (fun c27 => ?_)
  · have hf := pm_it hf c27
    exact pm_sub [0, 1, 2] rfl (bX16_names_93 C X hf q)
  · have hf := pm_ie hf c27
    refine pm_iload_n C dX16_names_75 rfl rfl ?_
    refine pm_bipush (v := 34) C dX16_names_76 (by decide) ?_
    refine pm_icmp_eq (tgt := 93) C dX16_names_78 (by decide) (fun c28 => ?_) (fun c28 => ?_)
    · have hf := pm_it hf c28
      exact pm_sub [0, 1, 2] rfl (bX16_names_93 C X hf q)
    · have hf := pm_ie hf c28
      refine pm_iload_n C dX16_names_81 rfl rfl ?_
      refine pm_bipush (v := 36) C dX16_names_82 (by decide) ?_
      refine pm_icmp_eq (tgt := 93) C dX16_names_84 (by decide) (fun c29 => ?_) (fun c29 => ?_)
      · have hf := pm_it hf c29
        exact pm_sub [0, 1, 2] rfl (bX16_names_93 C X hf q)
      · have hf := pm_ie hf c29
        refine pm_iload_n C dX16_names_87 rfl rfl ?_
        refine pm_bipush (v := 38) C dX16_names_88 (by decide) ?_
        refine pm_icmp_ne (tgt := 100) C dX16_names_90 (by decide) (fun c30 => ?_) (fun c30 => ?_)
        · have hf := pm_ie hf c30
          exact pm_sub [0, 1, 2] rfl (bX16_names_100 C X hf q)
        · have hf := pm_it hf c30
          exact pm_sub [0, 1, 2] rfl (bX16_names_93 C X hf q)
set_option maxHeartbeats 4000000 in
set_option maxRecDepth 100000 in
theorem bX16_names_54 {g : pm_Gm} {l : Launch} {G : pm_Gl} {Qr : Option Value → pm_H → Prop} {Qt : Nat → pm_H → Prop} (C : pm_C g cX16_names RX16) (X : pm_XT g l G mX16_names 0 0 Qr Qt) {h : pm_H} {x0 : Nat} {x1 : Int32} {s0 : Int32} {r : ((Nat × pm_H) ⊕ pm_H)} (hf : fX16_names_b54 h x0 x1 s0 = some r) (q : pt_eV Qr Qt r) : pm_G g 54 [(0, .ref x0), (1, .int x1)] [.int s0] h 0 0 := by
  unfold fX16_names_b54 at hf
  refine pm_istore (lv' := [(4, .int s0), (0, .ref x0), (1, .int x1)]) C dX16_names_54 (pt_nl X (by decide)) rfl ?_
  refine pm_iload_n C dX16_names_56 rfl rfl ?_
  refine pm_bipush (v := 37) C dX16_names_57 (by decide) ?_
  refine pm_icmp_ne (tgt := 69) C dX16_names_59 (by decide) (fun c21 => ?_) (fun c21 => ?_)
  · have hf := pm_ie hf c21
    exact pm_sub [1, 2, 0] rfl (bX16_names_69 C X hf q)
  · have hf := pm_it hf c21
    refine pm_aload_n C dX16_names_62 rfl rfl ?_
    refine pm_bipush (v := 127) C dX16_names_63 (by decide) ?_
    refine pm_iconst (v := 1) C dX16_names_65 (by decide) ?_
    obtain ⟨k22, hf⟩ := pm_if hf
    obtain ⟨v23, e24, hf⟩ := pm_bd hf
    refine pt_callVT (as := [.int 127, .int 1]) (st := []) C X dX16_names_66 ltX16_750 myX16_takes viX16_takes ⟨by decide, by decide⟩ rfl rfl k22 (Nat.le_of_ble_eq_true rfl) (Nat.le_refl _) (Nat.le_refl _) (ctX16_takes e24 ?_)
    rcases v23 with z26 | w25
    · have hf := pt_kl hf
      cases hf
      exact q
    have hf := pt_kr hf
    show pm_G g 69 [(4, .int s0), (0, .ref x0), (1, .int x1)] [] w25 0 0
    exact pm_sub [1, 2, 0] rfl (bX16_names_69 C X hf q)
set_option maxHeartbeats 4000000 in
set_option maxRecDepth 100000 in
theorem ctX16_names {l : Launch} {G : pm_Gl} {h : pm_H} {a0 : Nat} {p1 : Int32} {r : ((Nat × pm_H) ⊕ pm_H)} {Qr : Option Value → pm_H → Prop} {Qt : Nat → pm_H → Prop} (hf : fX16_names h a0 p1 = some r) (q : pt_eV Qr Qt r) : pm_Ctt l G mX16_names [.ref a0, .int p1] h 0 0 Qr Qt := by
  refine pm_bodyT pnX16 (Nat.le_of_ble_eq_true rfl) (fun g C X => ?_)
  have C : pm_C g cX16_names RX16 := C
  show pm_G g 0 [(0, .ref a0), (1, .int p1)] [] h 0 0
  unfold fX16_names at hf
  refine pm_aload_n C dX16_names_0 rfl rfl ?_
  obtain ⟨k1, hf⟩ := pm_if hf
  obtain ⟨v2, e3, hf⟩ := pm_bd hf
  refine pt_callV (as := []) (st := []) C X dX16_names_1 lnX16_603 myX16_word viX16_word ⟨by decide, by decide⟩ rfl rfl k1 (Nat.le_of_ble_eq_true rfl) (Nat.le_refl _) (Nat.le_refl _) (ctX16_word e3 ?_)
  show pm_G g 4 [(0, .ref a0), (1, .int p1)] [.long v2.1] v2.2 0 0
  refine pm_lstore_n (lv' := [(2, .long v2.1), (0, .ref a0), (1, .int p1)]) C dX16_names_4 rfl (pt_nl X (by decide)) rfl ?_
  refine pm_iload_n C dX16_names_5 rfl rfl ?_
  refine pm_bipush (v := 35) C dX16_names_6 (by decide) ?_
  refine pm_icmp_ge (tgt := 27) C dX16_names_8 (by decide) (fun c4 => ?_) (fun c4 => ?_)
  · have hf := pm_it hf c4
    refine pm_iload_n C dX16_names_27 rfl rfl ?_
    refine pm_bipush (v := 37) C dX16_names_28 (by decide) ?_
    refine pm_icmp_ge (tgt := 45) C dX16_names_30 (by decide) (fun c5 => ?_) (fun c5 => ?_)
    · have hf := pm_it hf c5
      refine pm_aload_n C dX16_names_45 rfl rfl ?_
      obtain ⟨k6, hf⟩ := pm_if hf
      obtain ⟨v7, e8, hf⟩ := pm_bd hf
      refine pm_getR C dX16_names_46 flX16_221 rfl k6 e8 ?_
      refine pm_lload_n C dX16_names_49 rfl rfl ?_
      refine pm_l2i C dX16_names_50 ?_
      obtain ⟨k9, hf⟩ := pm_if hf
      obtain ⟨v10, e11, hf⟩ := pm_bd hf
      refine pt_callV (as := [.int v2.1.toInt32]) (st := []) C X dX16_names_51 lnX16_661 myX14_typeOfTable viX14_typeOfTable ⟨by decide, by decide⟩ rfl rfl k9 (Nat.le_of_ble_eq_true rfl) (Nat.le_refl _) (Nat.le_refl _) (ctX14_typeOfTable e11 ?_)
      show pm_G g 54 [(2, .long v2.1), (0, .ref a0), (1, .int p1)] [.int v10] v2.2 0 0
      exact pm_sub [1, 2] rfl (bX16_names_54 C X hf q)
    · have hf := pm_ie hf c5
      refine pm_aload_n C dX16_names_33 rfl rfl ?_
      obtain ⟨k12, hf⟩ := pm_if hf
      obtain ⟨v13, e14, hf⟩ := pm_bd hf
      refine pm_getR C dX16_names_34 flX16_221 rfl k12 e14 ?_
      refine pm_lload_n C dX16_names_37 rfl rfl ?_
      refine pm_l2i C dX16_names_38 ?_
      obtain ⟨k15, hf⟩ := pm_if hf
      obtain ⟨v16, e17, hf⟩ := pm_bd hf
      refine pt_callV (as := [.int v2.1.toInt32]) (st := []) C X dX16_names_39 lnX16_670 myX14_typeOfGlobal viX14_typeOfGlobal ⟨by decide, by decide⟩ rfl rfl k15 (Nat.le_of_ble_eq_true rfl) (Nat.le_refl _) (Nat.le_refl _) (ctX14_typeOfGlobal e17 ?_)
      show pm_G g 42 [(2, .long v2.1), (0, .ref a0), (1, .int p1)] [.int v16] v2.2 0 0
      refine pm_goto (tgt := 54) C dX16_names_42 (by decide) ?_
      exact pm_sub [1, 2] rfl (bX16_names_54 C X hf q)
  · have hf := pm_ie hf c4
    refine pm_aload_n C dX16_names_11 rfl rfl ?_
    refine pm_aload_n C dX16_names_12 rfl rfl ?_
    obtain ⟨k18, hf⟩ := pm_if hf
    refine pm_getI C dX16_names_13 flX16_710 rfl k18 rfl ?_
    refine pm_aload_n C dX16_names_16 rfl rfl ?_
    refine pm_getI C dX16_names_17 flX16_713 rfl k18 rfl ?_
    refine pm_lload_n C dX16_names_20 rfl rfl ?_
    obtain ⟨v19, e20, hf⟩ := pm_bd hf
    refine pt_callV (as := [.int (pm_I v2.2 a0 29), .int (pm_I v2.2 a0 30), .long v2.1]) (st := []) C X dX16_names_21 lnX16_789 myX16_localType viX16_localType ⟨by decide, by decide⟩ rfl rfl k18 (Nat.le_of_ble_eq_true rfl) (Nat.le_refl _) (Nat.le_refl _) (ctX16_localType e20 ?_)
    show pm_G g 24 [(2, .long v2.1), (0, .ref a0), (1, .int p1)] [.int v19.1] v19.2 0 0
    refine pm_goto (tgt := 54) C dX16_names_24 (by decide) ?_
    exact pm_sub [1, 2] rfl (bX16_names_54 C X hf q)
