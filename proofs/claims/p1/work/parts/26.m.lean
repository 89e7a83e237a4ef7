theorem dX16_areSuch_0 : decode cX16_areSuch 0 = .ok (.iconst 1, 1) := by decide +kernel
theorem dX16_areSuch_1 : decode cX16_areSuch 1 = .ok (.istore_n 3, 1) := by decide +kernel
theorem dX16_areSuch_2 : decode cX16_areSuch 2 = .ok (.iconst 0, 1) := by decide +kernel
theorem dX16_areSuch_3 : decode cX16_areSuch 3 = .ok (.istore 4, 2) := by decide +kernel
theorem dX16_areSuch_5 : decode cX16_areSuch 5 = .ok (.iload 4, 2) := by decide +kernel
theorem dX16_areSuch_7 : decode cX16_areSuch 7 = .ok (.aload_n 0, 1) := by decide +kernel
theorem dX16_areSuch_8 : decode cX16_areSuch 8 = .ok (.getfield 1069, 3) := by decide +kernel
theorem dX16_areSuch_11 : decode cX16_areSuch 11 = .ok (.if_icmp .ge 97, 3) := by decide +kernel
theorem dX16_areSuch_14 : decode cX16_areSuch 14 = .ok (.iload_n 3, 1) := by decide +kernel
theorem dX16_areSuch_15 : decode cX16_areSuch 15 = .ok (.ifCond .eq 93, 3) := by decide +kernel
theorem dX16_areSuch_18 : decode cX16_areSuch 18 = .ok (.aload_n 0, 1) := by decide +kernel
theorem dX16_areSuch_19 : decode cX16_areSuch 19 = .ok (.iload_n 1, 1) := by decide +kernel
theorem dX16_areSuch_20 : decode cX16_areSuch 20 = .ok (.invokevirtual 1065, 3) := by decide +kernel
theorem dX16_areSuch_23 : decode cX16_areSuch 23 = .ok (.getfield 374, 3) := by decide +kernel
theorem dX16_areSuch_26 : decode cX16_areSuch 26 = .ok (.bipush 32, 2) := by decide +kernel
theorem dX16_areSuch_28 : decode cX16_areSuch 28 = .ok (.aload_n 0, 1) := by decide +kernel
theorem dX16_areSuch_29 : decode cX16_areSuch 29 = .ok (.getfield 71, 3) := by decide +kernel
theorem dX16_areSuch_32 : decode cX16_areSuch 32 = .ok (.iload_n 1, 1) := by decide +kernel
theorem dX16_areSuch_33 : decode cX16_areSuch 33 = .ok (.iaload, 1) := by decide +kernel
theorem dX16_areSuch_34 : decode cX16_areSuch 34 = .ok (.imul, 1) := by decide +kernel
theorem dX16_areSuch_35 : decode cX16_areSuch 35 = .ok (.iload_n 2, 1) := by decide +kernel
theorem dX16_areSuch_36 : decode cX16_areSuch 36 = .ok (.iadd, 1) := by decide +kernel
theorem dX16_areSuch_37 : decode cX16_areSuch 37 = .ok (.iload 4, 2) := by decide +kernel
theorem dX16_areSuch_39 : decode cX16_areSuch 39 = .ok (.iadd, 1) := by decide +kernel
theorem dX16_areSuch_40 : decode cX16_areSuch 40 = .ok (.iaload, 1) := by decide +kernel
theorem dX16_areSuch_41 : decode cX16_areSuch 41 = .ok (.istore 5, 2) := by decide +kernel
theorem dX16_areSuch_43 : decode cX16_areSuch 43 = .ok (.aload_n 0, 1) := by decide +kernel
theorem dX16_areSuch_44 : decode cX16_areSuch 44 = .ok (.getfield 167, 3) := by decide +kernel
theorem dX16_areSuch_47 : decode cX16_areSuch 47 = .ok (.iload 4, 2) := by decide +kernel
theorem dX16_areSuch_49 : decode cX16_areSuch 49 = .ok (.laload, 1) := by decide +kernel
theorem dX16_areSuch_50 : decode cX16_areSuch 50 = .ok (.lstore 6, 2) := by decide +kernel
theorem dX16_areSuch_52 : decode cX16_areSuch 52 = .ok (.iload 5, 2) := by decide +kernel
theorem dX16_areSuch_54 : decode cX16_areSuch 54 = .ok (.invokestatic 270, 3) := by decide +kernel
theorem dX16_areSuch_57 : decode cX16_areSuch 57 = .ok (.ifCond .eq 39, 3) := by decide +kernel
theorem dX16_areSuch_60 : decode cX16_areSuch 60 = .ok (.lload 6, 2) := by decide +kernel
theorem dX16_areSuch_62 : decode cX16_areSuch 62 = .ok (.ldc2_w 268, 3) := by decide +kernel
theorem dX16_areSuch_65 : decode cX16_areSuch 65 = .ok (.lcmp, 1) := by decide +kernel
theorem dX16_areSuch_66 : decode cX16_areSuch 66 = .ok (.ifCond .lt 34, 3) := by decide +kernel
theorem dX16_areSuch_69 : decode cX16_areSuch 69 = .ok (.lload 6, 2) := by decide +kernel
theorem dX16_areSuch_71 : decode cX16_areSuch 71 = .ok (.ldc2_w 1072, 3) := by decide +kernel
theorem dX16_areSuch_74 : decode cX16_areSuch 74 = .ok (.lcmp, 1) := by decide +kernel
theorem dX16_areSuch_75 : decode cX16_areSuch 75 = .ok (.ifCond .gt 25, 3) := by decide +kernel
theorem dX16_areSuch_78 : decode cX16_areSuch 78 = .ok (.iload 5, 2) := by decide +kernel
theorem dX16_areSuch_80 : decode cX16_areSuch 80 = .ok (.bipush 111, 2) := by decide +kernel
theorem dX16_areSuch_82 : decode cX16_areSuch 82 = .ok (.if_icmp .eq 14, 3) := by decide +kernel
theorem dX16_areSuch_85 : decode cX16_areSuch 85 = .ok (.lload 6, 2) := by decide +kernel
theorem dX16_areSuch_87 : decode cX16_areSuch 87 = .ok (.aload_n 0, 1) := by decide +kernel
theorem dX16_areSuch_88 : decode cX16_areSuch 88 = .ok (.getfield 977, 3) := by decide +kernel
theorem dX16_areSuch_91 : decode cX16_areSuch 91 = .ok (.i2l, 1) := by decide +kernel
theorem dX16_areSuch_92 : decode cX16_areSuch 92 = .ok (.lcmp, 1) := by decide +kernel
theorem dX16_areSuch_93 : decode cX16_areSuch 93 = .ok (.ifCond .ge 7, 3) := by decide +kernel
theorem dX16_areSuch_96 : decode cX16_areSuch 96 = .ok (.iconst 1, 1) := by decide +kernel
theorem dX16_areSuch_97 : decode cX16_areSuch 97 = .ok (.goto 4, 3) := by decide +kernel
theorem dX16_areSuch_100 : decode cX16_areSuch 100 = .ok (.iconst 0, 1) := by decide +kernel
theorem dX16_areSuch_101 : decode cX16_areSuch 101 = .ok (.istore_n 3, 1) := by decide +kernel
theorem dX16_areSuch_102 : decode cX16_areSuch 102 = .ok (.iinc 4 1, 3) := by decide +kernel
theorem dX16_areSuch_105 : decode cX16_areSuch 105 = .ok (.goto (-100), 3) := by decide +kernel
theorem dX16_areSuch_108 : decode cX16_areSuch 108 = .ok (.iload_n 3, 1) := by decide +kernel
theorem dX16_areSuch_109 : decode cX16_areSuch 109 = .ok (.ireturn, 1) := by decide +kernel
def tX16_areSuch_5 (h : pm_H) (x0 : Nat) (x1 : Int32) (x2 : Int32) (x3 : Int32) (x4 : Int32) : Option (((Nat × Int32 × Int32 × Int32 × Int32)) ⊕ Int32) := if pm_kd h x0 = 16 then if (pm_I h x0 81) ≤ x4 then (if x3 = 0 ∨ x3 = 1 then some (.inr (x3)) else none) else (if x3 = 0 then (if x3 = 0 ∨ x3 = 1 then some (.inr (x3)) else none) else ((fX16_planOf h x0 x1).bind fun v6 => if pm_kd h v6 = 14 then (pm_R h v6 7).bind fun v9 => (pm_R h x0 38).bind fun v11 => if pm_kd h v11 = 34 then if pm_in x1 (pm_ln h v11) then pm_let (((32 * (pm_I h v11 x1.toNatClampNeg)) + x2) + x4) fun y15 => if pm_kd h v9 = 34 then if pm_in y15 (pm_ln h v9) then pm_let (pm_I h v9 y15.toNatClampNeg) fun y19 => (pm_R h x0 82).bind fun v21 => if pm_kd h v21 = 35 then if pm_in x4 (pm_ln h v21) then pm_let (pm_L h v21 x4.toNatClampNeg) fun y25 => pm_let (fX16_isReference y19) fun v27 => if v27 = 0 then (pm_let (x4 + 1) fun y30 => some (.inl ((x0, x1, x2, 1, y30)))) else (if y25 < (-1) then (pm_let (x4 + 1) fun y33 => some (.inl ((x0, x1, x2, 0, y33)))) else (if 2147483647 < y25 then (pm_let (x4 + 1) fun y36 => some (.inl ((x0, x1, x2, 0, y36)))) else (if y19 = 111 then (pm_let (x4 + 1) fun y39 => some (.inl ((x0, x1, x2, 1, y39)))) else (if ((pm_I h x0 36).toInt64) ≤ y25 then (pm_let (x4 + 1) fun y42 => some (.inl ((x0, x1, x2, 0, y42)))) else (pm_let (x4 + 1) fun y44 => some (.inl ((x0, x1, x2, 1, y44)))))))) else none else none else none else none else none else none else none)) else none
def sX16_areSuch (h : pm_H) : ((Nat × Int32 × Int32 × Int32 × Int32)) → Option (((Nat × Int32 × Int32 × Int32 × Int32)) ⊕ Int32) := fun z => match z with
  | (x0, x1, x2, x3, x4) => tX16_areSuch_5 h x0 x1 x2 x3 x4
noncomputable def fX16_areSuch (h : pm_H) (a0 : Nat) (p1 : Int32) (p2 : Int32) : Option Int32 := pm_lim (sX16_areSuch h) ((a0, p1, p2, 1, 0))
set_option maxHeartbeats 4000000 in
set_option maxRecDepth 100000 in
theorem lpX16_areSuch {g : pm_Gm} {l : Launch} {G : pm_Gl} {Qr : Option Value → pm_H → Prop} (C : pm_C g cX16_areSuch RX16) (X : pm_X g l G mX16_areSuch 0 0 Qr) {h : pm_H} {r : Int32} (q : Qr (some (.int r)) h) : ∀ n : Nat, (∀ (x0 : Nat) (x1 : Int32) (x2 : Int32) (x3 : Int32) (x4 : Int32), pm_iter (sX16_areSuch h) n (x0, x1, x2, x3, x4) = some r → pm_G g 5 [(0, .ref x0), (1, .int x1), (2, .int x2), (3, .int x3), (4, .int x4)] [] h 0 0) := by
  intro n
  induction n with
  | zero => exact fun _ _ _ _ _ hf => (by cases hf)
  | succ n ih =>
    refine fun x0 x1 x2 x3 x4 hf => ?_
    obtain ⟨y, hf, hi⟩ := pm_iter_s hf
    have hf : tX16_areSuch_5 h x0 x1 x2 x3 x4 = some y := hf
    unfold tX16_areSuch_5 at hf
    refine pm_iload C dX16_areSuch_5 rfl ?_
    refine pm_aload_n C dX16_areSuch_7 rfl rfl ?_
    obtain ⟨k1, hf⟩ := pm_if hf
    refine pm_getI C dX16_areSuch_8 flX16_1069 rfl k1 rfl ?_
    refine pm_icmp_ge (tgt := 108) C dX16_areSuch_11 (by decide) (fun c2 => ?_) (fun c2 => ?_)
    · have hf := pm_it hf c2
      refine pm_iload_n C dX16_areSuch_108 rfl rfl ?_
      obtain ⟨u3, hf⟩ := pm_if hf
      cases hf
      cases hi
      exact pm_zret C X dX16_areSuch_109 rfl (pm_b01 u3).1 (Nat.le_refl _) (Nat.le_refl _) q
    · have hf := pm_ie hf c2
      refine pm_iload_n C dX16_areSuch_14 rfl rfl ?_
      refine pm_if_eq (tgt := 108) C dX16_areSuch_15 (by decide) (fun c4 => ?_) (fun c4 => ?_)
      · have hf := pm_it hf c4
        refine pm_iload_n C dX16_areSuch_108 rfl rfl ?_
        obtain ⟨u5, hf⟩ := pm_if hf
        cases hf
        cases hi
        exact pm_zret C X dX16_areSuch_109 rfl (pm_b01 u5).1 (Nat.le_refl _) (Nat.le_refl _) q
      · have hf := pm_ie hf c4
        refine pm_aload_n C dX16_areSuch_18 rfl rfl ?_
        refine pm_iload_n C dX16_areSuch_19 rfl rfl ?_
        obtain ⟨v6, e7, hf⟩ := pm_bd hf
        refine pm_callV (as := [.int x1]) (st := []) C X dX16_areSuch_20 lnX16_1065 myX16_planOf viX16_planOf ⟨by decide, by decide⟩ rfl rfl k1 (Nat.le_of_ble_eq_true rfl) (Nat.le_refl _) (Nat.le_refl _) (ctX16_planOf e7 ?_)
        show pm_G g 23 [(0, .ref x0), (1, .int x1), (2, .int x2), (3, .int x3), (4, .int x4)] [.ref v6] h 0 0
        obtain ⟨k8, hf⟩ := pm_if hf
        obtain ⟨v9, e10, hf⟩ := pm_bd hf
        refine pm_getR C dX16_areSuch_23 flX16_374 rfl k8 e10 ?_
        refine pm_bipush (v := 32) C dX16_areSuch_26 (by decide) ?_
        refine pm_aload_n C dX16_areSuch_28 rfl rfl ?_
        obtain ⟨v11, e12, hf⟩ := pm_bd hf
        refine pm_getR C dX16_areSuch_29 flX16_71 rfl k1 e12 ?_
        refine pm_iload_n C dX16_areSuch_32 rfl rfl ?_
        obtain ⟨k13, hf⟩ := pm_if hf
        obtain ⟨u14, hf⟩ := pm_if hf
        refine pm_iald C dX16_areSuch_33 k13 u14 rfl ?_
        refine pm_imul C dX16_areSuch_34 ?_
        refine pm_iload_n C dX16_areSuch_35 rfl rfl ?_
        refine pm_iadd C dX16_areSuch_36 ?_
        refine pm_iload C dX16_areSuch_37 rfl ?_
        refine pm_iadd C dX16_areSuch_39 ?_
        obtain ⟨y15, e16, hf⟩ := pm_lt hf
        refine pm_topI e16 ?_
        obtain ⟨k17, hf⟩ := pm_if hf
        obtain ⟨u18, hf⟩ := pm_if hf
        refine pm_iald C dX16_areSuch_40 k17 u18 rfl ?_
        obtain ⟨y19, e20, hf⟩ := pm_lt hf
        refine pm_topI e20 ?_
        refine pm_istore (lv' := [(5, .int y19), (0, .ref x0), (1, .int x1), (2, .int x2), (3, .int x3), (4, .int x4)]) C dX16_areSuch_41 (pm_nl X (by decide)) rfl ?_
        refine pm_aload_n C dX16_areSuch_43 rfl rfl ?_
        obtain ⟨v21, e22, hf⟩ := pm_bd hf
        refine pm_getR C dX16_areSuch_44 flX16_167 rfl k1 e22 ?_
        refine pm_iload C dX16_areSuch_47 rfl ?_
        obtain ⟨k23, hf⟩ := pm_if hf
        obtain ⟨u24, hf⟩ := pm_if hf
        refine pm_lald C dX16_areSuch_49 k23 u24 rfl ?_
        obtain ⟨y25, e26, hf⟩ := pm_lt hf
        refine pm_topL e26 ?_
        refine pm_lstore (lv' := [(6, .long y25), (5, .int y19), (0, .ref x0), (1, .int x1), (2, .int x2), (3, .int x3), (4, .int x4)]) C dX16_areSuch_50 (pm_nl X (by decide)) rfl ?_
        refine pm_iload C dX16_areSuch_52 rfl ?_
        obtain ⟨v27, e28, hf⟩ := pm_lt hf
        refine pm_callS (as := [.int y19]) (st := []) C X dX16_areSuch_54 lnX16_270 myX16_isReference stX16_isReference ⟨by decide, by decide⟩ rfl rfl (Nat.le_of_ble_eq_true rfl) (Nat.le_refl _) (Nat.le_refl _) (ctX16_isReference e28 ?_)
        show pm_G g 57 [(6, .long y25), (5, .int y19), (0, .ref x0), (1, .int x1), (2, .int x2), (3, .int x3), (4, .int x4)] [.int v27] h 0 0
        refine pm_if_eq (tgt := 96) C dX16_areSuch_57 (by decide) (fun c29 => ?_) (fun c29 => ?_)
        · have hf := pm_it hf c29
          refine pm_iconst (v := 1) C dX16_areSuch_96 (by decide) ?_
          refine pm_goto (tgt := 101) C dX16_areSuch_97 (by decide) ?_
          refine pm_istore_n (lv' := [(3, .int 1), (6, .long y25), (5, .int y19), (0, .ref x0), (1, .int x1), (2, .int x2), (4, .int x4)]) C dX16_areSuch_101 rfl (pm_nl X (by decide)) rfl ?_
          obtain ⟨y30, e31, hf⟩ := pm_lt hf
          refine pm_iinc (v := y30) (lv' := [(4, .int y30), (3, .int 1), (6, .long y25), (5, .int y19), (0, .ref x0), (1, .int x1), (2, .int x2)]) C dX16_areSuch_102 rfl ((congrArg (x4 + ·) (by decide : Int32.ofInt 1 = 1)).trans e31) (pm_nl X (by decide)) rfl ?_
          refine pm_goto (tgt := 5) C dX16_areSuch_105 (by decide) ?_
          cases hf
          exact pm_sub [4, 5, 6, 1, 0] rfl (ih x0 x1 x2 1 y30 hi)
        · have hf := pm_ie hf c29
          refine pm_lload C dX16_areSuch_60 rfl ?_
          refine pm_ldc2 C dX16_areSuch_62 cnX16_268 ?_
          refine pm_lcmp C dX16_areSuch_65 ?_
          refine pm_if_lt (tgt := 100) C dX16_areSuch_66 (by decide) (fun c32 => ?_) (fun c32 => ?_)
          · have hf := pm_it hf ((pm_lg_lt _ _).mp c32)
            refine pm_iconst (v := 0) C dX16_areSuch_100 (by decide) ?_
            refine pm_istore_n (lv' := [(3, .int 0), (6, .long y25), (5, .int y19), (0, .ref x0), (1, .int x1), (2, .int x2), (4, .int x4)]) C dX16_areSuch_101 rfl (pm_nl X (by decide)) rfl ?_
            obtain ⟨y33, e34, hf⟩ := pm_lt hf
            refine pm_iinc (v := y33) (lv' := [(4, .int y33), (3, .int 0), (6, .long y25), (5, .int y19), (0, .ref x0), (1, .int x1), (2, .int x2)]) C dX16_areSuch_102 rfl ((congrArg (x4 + ·) (by decide : Int32.ofInt 1 = 1)).trans e34) (pm_nl X (by decide)) rfl ?_
            refine pm_goto (tgt := 5) C dX16_areSuch_105 (by decide) ?_
            cases hf
            exact pm_sub [4, 5, 6, 1, 0] rfl (ih x0 x1 x2 0 y33 hi)
          · have hf := pm_ie hf ((fun z => c32 ((pm_lg_lt _ _).mpr z)))
            refine pm_lload C dX16_areSuch_69 rfl ?_
            refine pm_ldc2 C dX16_areSuch_71 cnX16_1072 ?_
            refine pm_lcmp C dX16_areSuch_74 ?_
            refine pm_if_gt (tgt := 100) C dX16_areSuch_75 (by decide) (fun c35 => ?_) (fun c35 => ?_)
            · have hf := pm_it hf ((pm_lg_gt _ _).mp c35)
              refine pm_iconst (v := 0) C dX16_areSuch_100 (by decide) ?_
              refine pm_istore_n (lv' := [(3, .int 0), (6, .long y25), (5, .int y19), (0, .ref x0), (1, .int x1), (2, .int x2), (4, .int x4)]) C dX16_areSuch_101 rfl (pm_nl X (by decide)) rfl ?_
              obtain ⟨y36, e37, hf⟩ := pm_lt hf
              refine pm_iinc (v := y36) (lv' := [(4, .int y36), (3, .int 0), (6, .long y25), (5, .int y19), (0, .ref x0), (1, .int x1), (2, .int x2)]) C dX16_areSuch_102 rfl ((congrArg (x4 + ·) (by decide : Int32.ofInt 1 = 1)).trans e37) (pm_nl X (by decide)) rfl ?_
              refine pm_goto (tgt := 5) C dX16_areSuch_105 (by decide) ?_
              cases hf
              exact pm_sub [4, 5, 6, 1, 0] rfl (ih x0 x1 x2 0 y36 hi)
            · have hf := pm_ie hf ((fun z => c35 ((pm_lg_gt _ _).mpr z)))
              refine pm_iload C dX16_areSuch_78 rfl ?_
              refine pm_bipush (v := 111) C dX16_areSuch_80 (by decide) ?_
              refine pm_icmp_eq (tgt := 96) C dX16_areSuch_82 (by decide) (fun c38 => ?_) (fun c38 => ?_)
              · have hf := pm_it hf c38
                refine pm_iconst (v := 1) C dX16_areSuch_96 (by decide) ?_
                refine pm_goto (tgt := 101) C dX16_areSuch_97 (by decide) ?_
                refine pm_istore_n (lv' := [(3, .int 1), (6, .long y25), (5, .int y19), (0, .ref x0), (1, .int x1), (2, .int x2), (4, .int x4)]) C dX16_areSuch_101 rfl (pm_nl X (by decide)) rfl ?_
                obtain ⟨y39, e40, hf⟩ := pm_lt hf
                refine pm_iinc (v := y39) (lv' := [(4, .int y39), (3, .int 1), (6, .long y25), (5, .int y19), (0, .ref x0), (1, .int x1), (2, .int x2)]) C dX16_areSuch_102 rfl ((congrArg (x4 + ·) (by decide : Int32.ofInt 1 = 1)).trans e40) (pm_nl X (by decide)) rfl ?_
                refine pm_goto (tgt := 5) C dX16_areSuch_105 (by decide) ?_
                cases hf
                exact pm_sub [4, 5, 6, 1, 0] rfl (ih x0 x1 x2 1 y39 hi)
              · have hf := pm_ie hf c38
                refine pm_lload C dX16_areSuch_85 rfl ?_
                refine pm_aload_n C dX16_areSuch_87 rfl rfl ?_
                refine pm_getI C dX16_areSuch_88 flX16_977 rfl k1 rfl ?_
                refine pm_i2l C dX16_areSuch_91 ?_
                refine pm_lcmp C dX16_areSuch_92 ?_
                refine pm_if_ge (tgt := 100) C dX16_areSuch_93 (by decide) (fun c41 => ?_) (fun c41 => ?_)
                · have hf := pm_it hf ((pm_lg_ge _ _).mp c41)
                  refine pm_iconst (v := 0) C dX16_areSuch_100 (by decide) ?_
                  refine pm_istore_n (lv' := [(3, .int 0), (6, .long y25), (5, .int y19), (0, .ref x0), (1, .int x1), (2, .int x2), (4, .int x4)]) C dX16_areSuch_101 rfl (pm_nl X (by decide)) rfl ?_
                  obtain ⟨y42, e43, hf⟩ := pm_lt hf
                  refine pm_iinc (v := y42) (lv' := [(4, .int y42), (3, .int 0), (6, .long y25), (5, .int y19), (0, .ref x0), (1, .int x1), (2, .int x2)]) C dX16_areSuch_102 rfl ((congrArg (x4 + ·) (by decide : Int32.ofInt 1 = 1)).trans e43) (pm_nl X (by decide)) rfl ?_
                  refine pm_goto (tgt := 5) C dX16_areSuch_105 (by decide) ?_
                  cases hf
                  exact pm_sub [4, 5, 6, 1, 0] rfl (ih x0 x1 x2 0 y42 hi)
                · have hf := pm_ie hf ((fun z => c41 ((pm_lg_ge _ _).mpr z)))
                  refine pm_iconst (v := 1) C dX16_areSuch_96 (by decide) ?_
                  refine pm_goto (tgt := 101) C dX16_areSuch_97 (by decide) ?_
                  refine pm_istore_n (lv' := [(3, .int 1), (6, .long y25), (5, .int y19), (0, .ref x0), (1, .int x1), (2, .int x2), (4, .int x4)]) C dX16_areSuch_101 rfl (pm_nl X (by decide)) rfl ?_
                  obtain ⟨y44, e45, hf⟩ := pm_lt hf
                  refine pm_iinc (v := y44) (lv' := [(4, .int y44), (3, .int 1), (6, .long y25), (5, .int y19), (0, .ref x0), (1, .int x1), (2, .int x2)]) C dX16_areSuch_102 rfl ((congrArg (x4 + ·) (by decide : Int32.ofInt 1 = 1)).trans e45) (pm_nl X (by decide)) rfl ?_
                  refine pm_goto (tgt := 5) C dX16_areSuch_105 (by decide) ?_
                  cases hf
                  exact pm_sub [4, 5, 6, 1, 0] rfl (ih x0 x1 x2 1 y44 hi)
set_option maxHeartbeats 4000000 in
set_option maxRecDepth 100000 in
theorem ctX16_areSuch {l : Launch} {G : pm_Gl} {h : pm_H} {a0 : Nat} {p1 : Int32} {p2 : Int32} {r : Int32} {Qr : Option Value → pm_H → Prop} (hf : fX16_areSuch h a0 p1 p2 = some r) (q : Qr (some (.int r)) h) : pm_Ct l G mX16_areSuch [.ref a0, .int p1, .int p2] h 0 0 Qr := by
  refine pm_body pnX16 (Nat.le_of_ble_eq_true rfl) (fun g C X => ?_)
  have C : pm_C g cX16_areSuch RX16 := C
  show pm_G g 0 [(0, .ref a0), (1, .int p1), (2, .int p2)] [] h 0 0
  unfold fX16_areSuch at hf
  refine pm_iconst (v := 1) C dX16_areSuch_0 (by decide) ?_
  refine pm_istore_n (lv' := [(3, .int 1), (0, .ref a0), (1, .int p1), (2, .int p2)]) C dX16_areSuch_1 rfl (pm_nl X (by decide)) rfl ?_
  refine pm_iconst (v := 0) C dX16_areSuch_2 (by decide) ?_
  refine pm_istore (lv' := [(4, .int 0), (3, .int 1), (0, .ref a0), (1, .int p1), (2, .int p2)]) C dX16_areSuch_3 (pm_nl X (by decide)) rfl ?_
  obtain ⟨n, hn⟩ := pm_lim_iter hf
  exact pm_sub [2, 3, 4, 1, 0] rfl ((lpX16_areSuch C X q n) a0 p1 p2 1 0 hn)
theorem dX16_blockWord_0 : decode cX16_blockWord 0 = .ok (.aload_n 0, 1) := by decide +kernel
theorem dX16_blockWord_1 : decode cX16_blockWord 1 = .ok (.getfield 221, 3) := by decide +kernel
theorem dX16_blockWord_4 : decode cX16_blockWord 4 = .ok (.aload_n 0, 1) := by decide +kernel
theorem dX16_blockWord_5 : decode cX16_blockWord 5 = .ok (.getfield 594, 3) := by decide +kernel
theorem dX16_blockWord_8 : decode cX16_blockWord 8 = .ok (.invokevirtual 261, 3) := by decide +kernel
theorem dX16_blockWord_11 : decode cX16_blockWord 11 = .ok (.istore_n 1, 1) := by decide +kernel
theorem dX16_blockWord_12 : decode cX16_blockWord 12 = .ok (.iload_n 1, 1) := by decide +kernel
theorem dX16_blockWord_13 : decode cX16_blockWord 13 = .ok (.bipush 64, 2) := by decide +kernel
theorem dX16_blockWord_15 : decode cX16_blockWord 15 = .ok (.if_icmp .eq 15, 3) := by decide +kernel
theorem dX16_blockWord_18 : decode cX16_blockWord 18 = .ok (.iload_n 1, 1) := by decide +kernel
theorem dX16_blockWord_19 : decode cX16_blockWord 19 = .ok (.invokestatic 274, 3) := by decide +kernel
theorem dX16_blockWord_22 : decode cX16_blockWord 22 = .ok (.ifCond .ne 8, 3) := by decide +kernel
theorem dX16_blockWord_25 : decode cX16_blockWord 25 = .ok (.aload_n 0, 1) := by decide +kernel
theorem dX16_blockWord_26 : decode cX16_blockWord 26 = .ok (.invokevirtual 597, 3) := by decide +kernel
theorem dX16_blockWord_29 : decode cX16_blockWord 29 = .ok (.lreturn, 1) := by decide +kernel
theorem dX16_blockWord_30 : decode cX16_blockWord 30 = .ok (.aload_n 0, 1) := by decide +kernel
theorem dX16_blockWord_31 : decode cX16_blockWord 31 = .ok (.dup, 1) := by decide +kernel
theorem dX16_blockWord_32 : decode cX16_blockWord 32 = .ok (.getfield 594, 3) := by decide +kernel
theorem dX16_blockWord_35 : decode cX16_blockWord 35 = .ok (.iconst 1, 1) := by decide +kernel
theorem dX16_blockWord_36 : decode cX16_blockWord 36 = .ok (.iadd, 1) := by decide +kernel
theorem dX16_blockWord_37 : decode cX16_blockWord 37 = .ok (.putfield 594, 3) := by decide +kernel
theorem dX16_blockWord_40 : decode cX16_blockWord 40 = .ok (.iload_n 1, 1) := by decide +kernel
theorem dX16_blockWord_41 : decode cX16_blockWord 41 = .ok (.ineg, 1) := by decide +kernel
theorem dX16_blockWord_42 : decode cX16_blockWord 42 = .ok (.i2l, 1) := by decide +kernel
theorem dX16_blockWord_43 : decode cX16_blockWord 43 = .ok (.lreturn, 1) := by decide +kernel
noncomputable def fX16_blockWord (h : pm_H) (a0 : Nat) : Option (Int64 × pm_H) := if pm_kd h a0 = 16 then (pm_R h a0 10).bind fun v2 => if pm_kd h v2 = 14 then (fX14_at h v2 (pm_I h a0 19)).bind fun v5 => if v5 = 64 then (pm_let ((pm_I h a0 19) + 1) fun y8 => some (((-v5).toInt64, pm_setI h a0 19 y8))) else (pm_let (fX16_isType v5) fun v10 => if v10 = 0 then ((fX16_signedWord h a0).bind fun v15 => some ((v15.1, v15.2))) else (pm_let ((pm_I h a0 19) + 1) fun y13 => some (((-v5).toInt64, pm_setI h a0 19 y13)))) else none else none
set_option maxHeartbeats 4000000 in
set_option maxRecDepth 100000 in
theorem ctX16_blockWord {l : Launch} {G : pm_Gl} {h : pm_H} {a0 : Nat} {r : (Int64 × pm_H)} {Qr : Option Value → pm_H → Prop} (hf : fX16_blockWord h a0 = some r) (q : Qr (some (.long r.1)) r.2) : pm_Ct l G mX16_blockWord [.ref a0] h 0 0 Qr := by
  refine pm_body pnX16 (Nat.le_of_ble_eq_true rfl) (fun g C X => ?_)
  have C : pm_C g cX16_blockWord RX16 := C
  show pm_G g 0 [(0, .ref a0)] [] h 0 0
  unfold fX16_blockWord at hf
  refine pm_aload_n C dX16_blockWord_0 rfl rfl ?_
  obtain ⟨k1, hf⟩ := pm_if hf
  obtain ⟨v2, e3, hf⟩ := pm_bd hf
  refine pm_getR C dX16_blockWord_1 flX16_221 rfl k1 e3 ?_
  refine pm_aload_n C dX16_blockWord_4 rfl rfl ?_
  refine pm_getI C dX16_blockWord_5 flX16_594 rfl k1 rfl ?_
  obtain ⟨k4, hf⟩ := pm_if hf
  obtain ⟨v5, e6, hf⟩ := pm_bd hf
  refine pm_callV (as := [.int (pm_I h a0 19)]) (st := []) C X dX16_blockWord_8 lnX16_261 myX14_at viX14_at ⟨by decide, by decide⟩ rfl rfl k4 (Nat.le_of_ble_eq_true rfl) (Nat.le_refl _) (Nat.le_refl _) (ctX14_at e6 ?_)
  show pm_G g 11 [(0, .ref a0)] [.int v5] h 0 0
  refine pm_istore_n (lv' := [(1, .int v5), (0, .ref a0)]) C dX16_blockWord_11 rfl (pm_nl X (by decide)) rfl ?_
  refine pm_iload_n C dX16_blockWord_12 rfl rfl ?_
  refine pm_bipush (v := 64) C dX16_blockWord_13 (by decide) ?_
  refine pm_icmp_eq (tgt := 30) C dX16_blockWord_15 (by decide) (fun c7 => ?_) (fun c7 => ?_)
  · have hf := pm_it hf c7
    refine pm_aload_n C dX16_blockWord_30 rfl rfl ?_
    refine pm_dup C dX16_blockWord_31 rfl ?_
    refine pm_getI C dX16_blockWord_32 flX16_594 rfl k1 rfl ?_
    refine pm_iconst (v := 1) C dX16_blockWord_35 (by decide) ?_
    refine pm_iadd C dX16_blockWord_36 ?_
    obtain ⟨y8, e9, hf⟩ := pm_lt hf
    refine pm_topI e9 ?_
    refine pm_putI C dX16_blockWord_37 flX16_594 rfl rfl k1 rfl rfl ?_
    refine pm_iload_n C dX16_blockWord_40 rfl rfl ?_
    refine pm_ineg C dX16_blockWord_41 ?_
    refine pm_i2l C dX16_blockWord_42 ?_
    cases hf
    exact pm_lret C X dX16_blockWord_43 rfl (Nat.le_refl _) (Nat.le_refl _) q
  · have hf := pm_ie hf c7
    refine pm_iload_n C dX16_blockWord_18 rfl rfl ?_
    obtain ⟨v10, e11, hf⟩ := pm_lt hf
    refine pm_callS (as := [.int v5]) (st := []) C X dX16_blockWord_19 lnX16_274 myX16_isType stX16_isType ⟨by decide, by decide⟩ rfl rfl (Nat.le_of_ble_eq_true rfl) (Nat.le_refl _) (Nat.le_refl _) (ctX16_isType e11 ?_)
    show pm_G g 22 [(1, .int v5), (0, .ref a0)] [.int v10] h 0 0
    refine pm_if_ne (tgt := 30) C dX16_blockWord_22 (by decide) (fun c12 => ?_) (fun c12 => ?_)
    · have hf := pm_ie hf c12
      refine pm_aload_n C dX16_blockWord_30 rfl rfl ?_
      refine pm_dup C dX16_blockWord_31 rfl ?_
      refine pm_getI C dX16_blockWord_32 flX16_594 rfl k1 rfl ?_
      refine pm_iconst (v := 1) C dX16_blockWord_35 (by decide) ?_
      refine pm_iadd C dX16_blockWord_36 ?_
      obtain ⟨y13, e14, hf⟩ := pm_lt hf
      refine pm_topI e14 ?_
      refine pm_putI C dX16_blockWord_37 flX16_594 rfl rfl k1 rfl rfl ?_
      refine pm_iload_n C dX16_blockWord_40 rfl rfl ?_
      refine pm_ineg C dX16_blockWord_41 ?_
      refine pm_i2l C dX16_blockWord_42 ?_
      cases hf
      exact pm_lret C X dX16_blockWord_43 rfl (Nat.le_refl _) (Nat.le_refl _) q
    · have hf := pm_it hf c12
      refine pm_aload_n C dX16_blockWord_25 rfl rfl ?_
      obtain ⟨v15, e16, hf⟩ := pm_bd hf
      refine pm_callV (as := []) (st := []) C X dX16_blockWord_26 lnX16_597 myX16_signedWord viX16_signedWord ⟨by decide, by decide⟩ rfl rfl k1 (Nat.le_of_ble_eq_true rfl) (Nat.le_refl _) (Nat.le_refl _) (ctX16_signedWord e16 ?_)
      show pm_G g 29 [(1, .int v5), (0, .ref a0)] [.long v15.1] v15.2 0 0
      cases hf
      exact pm_lret C X dX16_blockWord_29 rfl (Nat.le_refl _) (Nat.le_refl _) q
theorem dX16_closes_0 : decode cX16_closes 0 = .ok (.aload_n 0, 1) := by decide +kernel
theorem dX16_closes_1 : decode cX16_closes 1 = .ok (.dup, 1) := by decide +kernel
theorem dX16_closes_2 : decode cX16_closes 2 = .ok (.getfield 1086, 3) := by decide +kernel
theorem dX16_closes_5 : decode cX16_closes 5 = .ok (.iconst 1, 1) := by decide +kernel
theorem dX16_closes_6 : decode cX16_closes 6 = .ok (.isub, 1) := by decide +kernel
theorem dX16_closes_7 : decode cX16_closes 7 = .ok (.putfield 1086, 3) := by decide +kernel
theorem dX16_closes_10 : decode cX16_closes 10 = .ok (.aload_n 0, 1) := by decide +kernel
theorem dX16_closes_11 : decode cX16_closes 11 = .ok (.dup, 1) := by decide +kernel
theorem dX16_closes_12 : decode cX16_closes 12 = .ok (.getfield 1107, 3) := by decide +kernel
theorem dX16_closes_15 : decode cX16_closes 15 = .ok (.iconst 1, 1) := by decide +kernel
theorem dX16_closes_16 : decode cX16_closes 16 = .ok (.iadd, 1) := by decide +kernel
theorem dX16_closes_17 : decode cX16_closes 17 = .ok (.putfield 1107, 3) := by decide +kernel
theorem dX16_closes_20 : decode cX16_closes 20 = .ok (.aload_n 0, 1) := by decide +kernel
theorem dX16_closes_21 : decode cX16_closes 21 = .ok (.getfield 1086, 3) := by decide +kernel
theorem dX16_closes_24 : decode cX16_closes 24 = .ok (.aload_n 0, 1) := by decide +kernel
theorem dX16_closes_25 : decode cX16_closes 25 = .ok (.getfield 188, 3) := by decide +kernel
theorem dX16_closes_28 : decode cX16_closes 28 = .ok (.aload_n 0, 1) := by decide +kernel
theorem dX16_closes_29 : decode cX16_closes 29 = .ok (.getfield 1052, 3) := by decide +kernel
theorem dX16_closes_32 : decode cX16_closes 32 = .ok (.iconst 1, 1) := by decide +kernel
theorem dX16_closes_33 : decode cX16_closes 33 = .ok (.isub, 1) := by decide +kernel
theorem dX16_closes_34 : decode cX16_closes 34 = .ok (.iaload, 1) := by decide +kernel
theorem dX16_closes_35 : decode cX16_closes 35 = .ok (.if_icmp .le 4, 3) := by decide +kernel
theorem dX16_closes_38 : decode cX16_closes 38 = .ok (.return_, 1) := by decide +kernel
theorem dX16_closes_39 : decode cX16_closes 39 = .ok (.aload_n 0, 1) := by decide +kernel
theorem dX16_closes_40 : decode cX16_closes 40 = .ok (.getfield 173, 3) := by decide +kernel
theorem dX16_closes_43 : decode cX16_closes 43 = .ok (.aload_n 0, 1) := by decide +kernel
theorem dX16_closes_44 : decode cX16_closes 44 = .ok (.getfield 1052, 3) := by decide +kernel
theorem dX16_closes_47 : decode cX16_closes 47 = .ok (.iconst 1, 1) := by decide +kernel
theorem dX16_closes_48 : decode cX16_closes 48 = .ok (.isub, 1) := by decide +kernel
theorem dX16_closes_49 : decode cX16_closes 49 = .ok (.iaload, 1) := by decide +kernel
theorem dX16_closes_50 : decode cX16_closes 50 = .ok (.istore_n 1, 1) := by decide +kernel
theorem dX16_closes_51 : decode cX16_closes 51 = .ok (.aload_n 0, 1) := by decide +kernel
theorem dX16_closes_52 : decode cX16_closes 52 = .ok (.iload_n 1, 1) := by decide +kernel
theorem dX16_closes_53 : decode cX16_closes 53 = .ok (.invokevirtual 1129, 3) := by decide +kernel
theorem dX16_closes_56 : decode cX16_closes 56 = .ok (.istore_n 2, 1) := by decide +kernel
theorem dX16_closes_57 : decode cX16_closes 57 = .ok (.aload_n 0, 1) := by decide +kernel
theorem dX16_closes_58 : decode cX16_closes 58 = .ok (.dup, 1) := by decide +kernel
theorem dX16_closes_59 : decode cX16_closes 59 = .ok (.getfield 1052, 3) := by decide +kernel
theorem dX16_closes_62 : decode cX16_closes 62 = .ok (.iconst 1, 1) := by decide +kernel
theorem dX16_closes_63 : decode cX16_closes 63 = .ok (.isub, 1) := by decide +kernel
theorem dX16_closes_64 : decode cX16_closes 64 = .ok (.putfield 1052, 3) := by decide +kernel
theorem dX16_closes_67 : decode cX16_closes 67 = .ok (.aload_n 0, 1) := by decide +kernel
theorem dX16_closes_68 : decode cX16_closes 68 = .ok (.getfield 1052, 3) := by decide +kernel
theorem dX16_closes_71 : decode cX16_closes 71 = .ok (.ifCond .ne 46, 3) := by decide +kernel
theorem dX16_closes_74 : decode cX16_closes 74 = .ok (.aload_n 0, 1) := by decide +kernel
theorem dX16_closes_75 : decode cX16_closes 75 = .ok (.iconst 2, 1) := by decide +kernel
theorem dX16_closes_76 : decode cX16_closes 76 = .ok (.putfield 970, 3) := by decide +kernel
theorem dX16_closes_79 : decode cX16_closes 79 = .ok (.aload_n 0, 1) := by decide +kernel
theorem dX16_closes_80 : decode cX16_closes 80 = .ok (.iload_n 2, 1) := by decide +kernel
theorem dX16_closes_81 : decode cX16_closes 81 = .ok (.putfield 1098, 3) := by decide +kernel
theorem dX16_closes_84 : decode cX16_closes 84 = .ok (.iconst 0, 1) := by decide +kernel
theorem dX16_closes_85 : decode cX16_closes 85 = .ok (.istore_n 3, 1) := by decide +kernel
theorem dX16_closes_86 : decode cX16_closes 86 = .ok (.iload_n 3, 1) := by decide +kernel
theorem dX16_closes_87 : decode cX16_closes 87 = .ok (.iload_n 2, 1) := by decide +kernel
theorem dX16_closes_88 : decode cX16_closes 88 = .ok (.if_icmp .ge 28, 3) := by decide +kernel
theorem dX16_closes_91 : decode cX16_closes 91 = .ok (.aload_n 0, 1) := by decide +kernel
theorem dX16_closes_92 : decode cX16_closes 92 = .ok (.getfield 170, 3) := by decide +kernel
theorem dX16_closes_95 : decode cX16_closes 95 = .ok (.iload_n 3, 1) := by decide +kernel
theorem dX16_closes_96 : decode cX16_closes 96 = .ok (.aload_n 0, 1) := by decide +kernel
theorem dX16_closes_97 : decode cX16_closes 97 = .ok (.getfield 191, 3) := by decide +kernel
theorem dX16_closes_100 : decode cX16_closes 100 = .ok (.aload_n 0, 1) := by decide +kernel
theorem dX16_closes_101 : decode cX16_closes 101 = .ok (.getfield 1104, 3) := by decide +kernel
theorem dX16_closes_104 : decode cX16_closes 104 = .ok (.iload_n 2, 1) := by decide +kernel
theorem dX16_closes_105 : decode cX16_closes 105 = .ok (.isub, 1) := by decide +kernel
theorem dX16_closes_106 : decode cX16_closes 106 = .ok (.iload_n 3, 1) := by decide +kernel
theorem dX16_closes_107 : decode cX16_closes 107 = .ok (.iadd, 1) := by decide +kernel
theorem dX16_closes_108 : decode cX16_closes 108 = .ok (.laload, 1) := by decide +kernel
theorem dX16_closes_109 : decode cX16_closes 109 = .ok (.lastore, 1) := by decide +kernel
theorem dX16_closes_110 : decode cX16_closes 110 = .ok (.iinc 3 1, 3) := by decide +kernel
theorem dX16_closes_113 : decode cX16_closes 113 = .ok (.goto (-27), 3) := by decide +kernel
theorem dX16_closes_116 : decode cX16_closes 116 = .ok (.return_, 1) := by decide +kernel
theorem dX16_closes_117 : decode cX16_closes 117 = .ok (.aload_n 0, 1) := by decide +kernel
theorem dX16_closes_118 : decode cX16_closes 118 = .ok (.getfield 1104, 3) := by decide +kernel
theorem dX16_closes_121 : decode cX16_closes 121 = .ok (.iload_n 2, 1) := by decide +kernel
theorem dX16_closes_122 : decode cX16_closes 122 = .ok (.isub, 1) := by decide +kernel
theorem dX16_closes_123 : decode cX16_closes 123 = .ok (.istore_n 3, 1) := by decide +kernel
theorem dX16_closes_124 : decode cX16_closes 124 = .ok (.aload_n 0, 1) := by decide +kernel
theorem dX16_closes_125 : decode cX16_closes 125 = .ok (.aload_n 0, 1) := by decide +kernel
theorem dX16_closes_126 : decode cX16_closes 126 = .ok (.getfield 185, 3) := by decide +kernel
theorem dX16_closes_129 : decode cX16_closes 129 = .ok (.aload_n 0, 1) := by decide +kernel
theorem dX16_closes_130 : decode cX16_closes 130 = .ok (.getfield 1052, 3) := by decide +kernel
theorem dX16_closes_133 : decode cX16_closes 133 = .ok (.iconst 1, 1) := by decide +kernel
theorem dX16_closes_134 : decode cX16_closes 134 = .ok (.isub, 1) := by decide +kernel
theorem dX16_closes_135 : decode cX16_closes 135 = .ok (.iaload, 1) := by decide +kernel
theorem dX16_closes_136 : decode cX16_closes 136 = .ok (.putfield 1104, 3) := by decide +kernel
theorem dX16_closes_139 : decode cX16_closes 139 = .ok (.iconst 0, 1) := by decide +kernel
theorem dX16_closes_140 : decode cX16_closes 140 = .ok (.istore 4, 2) := by decide +kernel
theorem dX16_closes_142 : decode cX16_closes 142 = .ok (.iload 4, 2) := by decide +kernel
theorem dX16_closes_144 : decode cX16_closes 144 = .ok (.iload_n 2, 1) := by decide +kernel
theorem dX16_closes_145 : decode cX16_closes 145 = .ok (.if_icmp .ge 30, 3) := by decide +kernel
theorem dX16_closes_148 : decode cX16_closes 148 = .ok (.aload_n 0, 1) := by decide +kernel
theorem dX16_closes_149 : decode cX16_closes 149 = .ok (.getfield 191, 3) := by decide +kernel
theorem dX16_closes_152 : decode cX16_closes 152 = .ok (.aload_n 0, 1) := by decide +kernel
theorem dX16_closes_153 : decode cX16_closes 153 = .ok (.getfield 1104, 3) := by decide +kernel
theorem dX16_closes_156 : decode cX16_closes 156 = .ok (.iload 4, 2) := by decide +kernel
theorem dX16_closes_158 : decode cX16_closes 158 = .ok (.iadd, 1) := by decide +kernel
theorem dX16_closes_159 : decode cX16_closes 159 = .ok (.aload_n 0, 1) := by decide +kernel
theorem dX16_closes_160 : decode cX16_closes 160 = .ok (.getfield 191, 3) := by decide +kernel
theorem dX16_closes_163 : decode cX16_closes 163 = .ok (.iload_n 3, 1) := by decide +kernel
theorem dX16_closes_164 : decode cX16_closes 164 = .ok (.iload 4, 2) := by decide +kernel
theorem dX16_closes_166 : decode cX16_closes 166 = .ok (.iadd, 1) := by decide +kernel
theorem dX16_closes_167 : decode cX16_closes 167 = .ok (.laload, 1) := by decide +kernel
theorem dX16_closes_168 : decode cX16_closes 168 = .ok (.lastore, 1) := by decide +kernel
theorem dX16_closes_169 : decode cX16_closes 169 = .ok (.iinc 4 1, 3) := by decide +kernel
theorem dX16_closes_172 : decode cX16_closes 172 = .ok (.goto (-30), 3) := by decide +kernel
theorem dX16_closes_175 : decode cX16_closes 175 = .ok (.aload_n 0, 1) := by decide +kernel
theorem dX16_closes_176 : decode cX16_closes 176 = .ok (.dup, 1) := by decide +kernel
theorem dX16_closes_177 : decode cX16_closes 177 = .ok (.getfield 1104, 3) := by decide +kernel
theorem dX16_closes_180 : decode cX16_closes 180 = .ok (.iload_n 2, 1) := by decide +kernel
theorem dX16_closes_181 : decode cX16_closes 181 = .ok (.iadd, 1) := by decide +kernel
theorem dX16_closes_182 : decode cX16_closes 182 = .ok (.putfield 1104, 3) := by decide +kernel
theorem dX16_closes_185 : decode cX16_closes 185 = .ok (.aload_n 0, 1) := by decide +kernel
theorem dX16_closes_186 : decode cX16_closes 186 = .ok (.aload_n 0, 1) := by decide +kernel
theorem dX16_closes_187 : decode cX16_closes 187 = .ok (.getfield 176, 3) := by decide +kernel
theorem dX16_closes_190 : decode cX16_closes 190 = .ok (.aload_n 0, 1) := by decide +kernel
theorem dX16_closes_191 : decode cX16_closes 191 = .ok (.getfield 1052, 3) := by decide +kernel
theorem dX16_closes_194 : decode cX16_closes 194 = .ok (.iaload, 1) := by decide +kernel
theorem dX16_closes_195 : decode cX16_closes 195 = .ok (.putfield 1107, 3) := by decide +kernel
theorem dX16_closes_198 : decode cX16_closes 198 = .ok (.aload_n 0, 1) := by decide +kernel
theorem dX16_closes_199 : decode cX16_closes 199 = .ok (.getfield 173, 3) := by decide +kernel
theorem dX16_closes_202 : decode cX16_closes 202 = .ok (.aload_n 0, 1) := by decide +kernel
theorem dX16_closes_203 : decode cX16_closes 203 = .ok (.getfield 1052, 3) := by decide +kernel
theorem dX16_closes_206 : decode cX16_closes 206 = .ok (.iconst 1, 1) := by decide +kernel
theorem dX16_closes_207 : decode cX16_closes 207 = .ok (.isub, 1) := by decide +kernel
theorem dX16_closes_208 : decode cX16_closes 208 = .ok (.iaload, 1) := by decide +kernel
theorem dX16_closes_209 : decode cX16_closes 209 = .ok (.istore 4, 2) := by decide +kernel
theorem dX16_closes_211 : decode cX16_closes 211 = .ok (.aload_n 0, 1) := by decide +kernel
theorem dX16_closes_212 : decode cX16_closes 212 = .ok (.aload_n 0, 1) := by decide +kernel
theorem dX16_closes_213 : decode cX16_closes 213 = .ok (.iload 4, 2) := by decide +kernel
theorem dX16_closes_215 : decode cX16_closes 215 = .ok (.invokevirtual 1065, 3) := by decide +kernel
theorem dX16_closes_218 : decode cX16_closes 218 = .ok (.putfield 221, 3) := by decide +kernel
theorem dX16_closes_221 : decode cX16_closes 221 = .ok (.aload_n 0, 1) := by decide +kernel
theorem dX16_closes_222 : decode cX16_closes 222 = .ok (.aload_n 0, 1) := by decide +kernel
theorem dX16_closes_223 : decode cX16_closes 223 = .ok (.getfield 74, 3) := by decide +kernel
theorem dX16_closes_226 : decode cX16_closes 226 = .ok (.iload 4, 2) := by decide +kernel
theorem dX16_closes_228 : decode cX16_closes 228 = .ok (.iaload, 1) := by decide +kernel
theorem dX16_closes_229 : decode cX16_closes 229 = .ok (.putfield 1110, 3) := by decide +kernel
theorem dX16_closes_232 : decode cX16_closes 232 = .ok (.return_, 1) := by decide +kernel
def tX16_closes_142 (x0 : Nat) (x2 : Int32) (x3 : Int32) (x4 : Int32) (h : pm_H) : Option (((Nat × Int32 × Int32 × Int32 × pm_H) ⊕ (Nat × Int32 × Int32 × pm_H)) ⊕ pm_H) := if x2 ≤ x4 then (if pm_kd h x0 = 16 then pm_let ((pm_I h x0 93) + x2) fun y38 => (pm_R (pm_setI h x0 93 y38) x0 87).bind fun v40 => pm_let (pm_I (pm_setI h x0 93 y38) x0 85) fun y42 => if pm_kd (pm_setI h x0 93 y38) v40 = 34 then if pm_in y42 (pm_ln (pm_setI h x0 93 y38) v40) then pm_let (pm_I (pm_setI h x0 93 y38) v40 y42.toNatClampNeg) fun y46 => (pm_R (pm_setI (pm_setI h x0 93 y38) x0 94 y46) x0 86).bind fun v48 => pm_let ((pm_I (pm_setI (pm_setI h x0 93 y38) x0 94 y46) x0 85) - 1) fun y50 => if pm_kd (pm_setI (pm_setI h x0 93 y38) x0 94 y46) v48 = 34 then if pm_in y50 (pm_ln (pm_setI (pm_setI h x0 93 y38) x0 94 y46) v48) then pm_let (pm_I (pm_setI (pm_setI h x0 93 y38) x0 94 y46) v48 y50.toNatClampNeg) fun y54 => (fX16_planOf (pm_setI (pm_setI h x0 93 y38) x0 94 y46) x0 y54).bind fun v56 => (pm_R (pm_setR (pm_setI (pm_setI h x0 93 y38) x0 94 y46) x0 10 (some v56)) x0 39).bind fun v58 => if pm_kd (pm_setR (pm_setI (pm_setI h x0 93 y38) x0 94 y46) x0 10 (some v56)) v58 = 34 then if pm_in y54 (pm_ln (pm_setR (pm_setI (pm_setI h x0 93 y38) x0 94 y46) x0 10 (some v56)) v58) then pm_let (pm_I (pm_setR (pm_setI (pm_setI h x0 93 y38) x0 94 y46) x0 10 (some v56)) v58 y54.toNatClampNeg) fun y62 => some (.inr (pm_setI (pm_setR (pm_setI (pm_setI h x0 93 y38) x0 94 y46) x0 10 (some v56)) x0 95 y62)) else none else none else none else none else none else none else none) else (if pm_kd h x0 = 16 then (pm_R h x0 92).bind fun v65 => pm_let (x3 + x4) fun y67 => if pm_kd h v65 = 35 then if pm_in y67 (pm_ln h v65) then pm_let (pm_L h v65 y67.toNatClampNeg) fun y71 => if pm_in ((pm_I h x0 93) + x4) (pm_ln h v65) then pm_let (x4 + 1) fun y74 => some (.inl (.inl ((x0, x2, x3, y74, pm_setL h v65 (((pm_I h x0 93) + x4).toNatClampNeg) y71)))) else none else none else none else none)
def tX16_closes_86 (x0 : Nat) (x2 : Int32) (x3 : Int32) (h : pm_H) : Option (((Nat × Int32 × Int32 × Int32 × pm_H) ⊕ (Nat × Int32 × Int32 × pm_H)) ⊕ pm_H) := if x2 ≤ x3 then (some (.inr (h))) else (if pm_kd h x0 = 16 then (pm_R h x0 84).bind fun v78 => (pm_R h x0 92).bind fun v80 => pm_let (((pm_I h x0 93) - x2) + x3) fun y82 => if pm_kd h v80 = 35 then if pm_in y82 (pm_ln h v80) then pm_let (pm_L h v80 y82.toNatClampNeg) fun y86 => if pm_kd h v78 = 35 then if pm_in x3 (pm_ln h v78) then pm_let (x3 + 1) fun y90 => some (.inl (.inr ((x0, x2, y90, pm_setL h v78 x3.toNatClampNeg y86)))) else none else none else none else none else none)
def sX16_closes : ((Nat × Int32 × Int32 × Int32 × pm_H) ⊕ (Nat × Int32 × Int32 × pm_H)) → Option (((Nat × Int32 × Int32 × Int32 × pm_H) ⊕ (Nat × Int32 × Int32 × pm_H)) ⊕ pm_H) := fun z => match z with
  | .inl (x0, x2, x3, x4, h) => tX16_closes_142 x0 x2 x3 x4 h
  | .inr (x0, x2, x3, h) => tX16_closes_86 x0 x2 x3 h
noncomputable def fX16_closes (h : pm_H) (a0 : Nat) : Option pm_H := if pm_kd h a0 = 16 then pm_let ((pm_I h a0 96) - 1) fun y2 => pm_let ((pm_I (pm_setI h a0 96 y2) a0 94) + 1) fun y4 => (pm_R (pm_setI (pm_setI h a0 96 y2) a0 94 y4) a0 91).bind fun v6 => pm_let ((pm_I (pm_setI (pm_setI h a0 96 y2) a0 94 y4) a0 85) - 1) fun y8 => if pm_kd (pm_setI (pm_setI h a0 96 y2) a0 94 y4) v6 = 34 then if pm_in y8 (pm_ln (pm_setI (pm_setI h a0 96 y2) a0 94 y4) v6) then if (pm_I (pm_setI (pm_setI h a0 96 y2) a0 94 y4) a0 96) ≤ (pm_I (pm_setI (pm_setI h a0 96 y2) a0 94 y4) v6 y8.toNatClampNeg) then ((pm_R (pm_setI (pm_setI h a0 96 y2) a0 94 y4) a0 86).bind fun v13 => pm_let ((pm_I (pm_setI (pm_setI h a0 96 y2) a0 94 y4) a0 85) - 1) fun y15 => if pm_kd (pm_setI (pm_setI h a0 96 y2) a0 94 y4) v13 = 34 then if pm_in y15 (pm_ln (pm_setI (pm_setI h a0 96 y2) a0 94 y4) v13) then pm_let (pm_I (pm_setI (pm_setI h a0 96 y2) a0 94 y4) v13 y15.toNatClampNeg) fun y19 => (fX16_resultsIn (pm_setI (pm_setI h a0 96 y2) a0 94 y4) a0 y19).bind fun v21 => pm_let ((pm_I (pm_setI (pm_setI h a0 96 y2) a0 94 y4) a0 85) - 1) fun y23 => if (pm_I (pm_setI (pm_setI (pm_setI h a0 96 y2) a0 94 y4) a0 85 y23) a0 85) = 0 then (pm_lim sX16_closes (.inr ((a0, v21, 0, pm_setI (pm_setI (pm_setI (pm_setI (pm_setI h a0 96 y2) a0 94 y4) a0 85 y23) a0 76 2) a0 83 v21)))) else (pm_let ((pm_I (pm_setI (pm_setI (pm_setI h a0 96 y2) a0 94 y4) a0 85 y23) a0 93) - v21) fun y26 => (pm_R (pm_setI (pm_setI (pm_setI h a0 96 y2) a0 94 y4) a0 85 y23) a0 90).bind fun v28 => pm_let ((pm_I (pm_setI (pm_setI (pm_setI h a0 96 y2) a0 94 y4) a0 85 y23) a0 85) - 1) fun y30 => if pm_kd (pm_setI (pm_setI (pm_setI h a0 96 y2) a0 94 y4) a0 85 y23) v28 = 34 then if pm_in y30 (pm_ln (pm_setI (pm_setI (pm_setI h a0 96 y2) a0 94 y4) a0 85 y23) v28) then pm_let (pm_I (pm_setI (pm_setI (pm_setI h a0 96 y2) a0 94 y4) a0 85 y23) v28 y30.toNatClampNeg) fun y34 => pm_lim sX16_closes (.inl ((a0, v21, y26, 0, pm_setI (pm_setI (pm_setI (pm_setI h a0 96 y2) a0 94 y4) a0 85 y23) a0 93 y34))) else none else none) else none else none) else (some (pm_setI (pm_setI h a0 96 y2) a0 94 y4)) else none else none else none
set_option maxHeartbeats 4000000 in
set_option maxRecDepth 100000 in
theorem lpX16_closes {g : pm_Gm} {l : Launch} {G : pm_Gl} {Qr : Option Value → pm_H → Prop} (C : pm_C g cX16_closes RX16) (X : pm_X g l G mX16_closes 0 0 Qr) {r : pm_H} (q : Qr none r) : ∀ n : Nat, (∀ (x0 : Nat) (x2 : Int32) (x3 : Int32) (x4 : Int32) (h : pm_H), pm_iter sX16_closes n (.inl (x0, x2, x3, x4, h)) = some r → pm_G g 142 [(0, .ref x0), (2, .int x2), (3, .int x3), (4, .int x4)] [] h 0 0) ∧ (∀ (x0 : Nat) (x2 : Int32) (x3 : Int32) (h : pm_H), pm_iter sX16_closes n (.inr (x0, x2, x3, h)) = some r → pm_G g 86 [(0, .ref x0), (2, .int x2), (3, .int x3)] [] h 0 0) := by
  intro n
  induction n with
  | zero => exact ⟨fun _ _ _ _ _ hf => (by cases hf), fun _ _ _ _ hf => (by cases hf)⟩
  | succ n ih =>
    refine ⟨fun x0 x2 x3 x4 h hf => ?_, ?_⟩
    · obtain ⟨y, hf, hi⟩ := pm_iter_s hf
      have hf : tX16_closes_142 x0 x2 x3 x4 h = some y := hf
      unfold tX16_closes_142 at hf
      refine pm_iload C dX16_closes_142 rfl ?_
      refine pm_iload_n C dX16_closes_144 rfl rfl ?_
      refine pm_icmp_ge (tgt := 175) C dX16_closes_145 (by decide) (fun c36 => ?_) (fun c36 => ?_)
      · have hf := pm_it hf c36
        refine pm_aload_n C dX16_closes_175 rfl rfl ?_
        refine pm_dup C dX16_closes_176 rfl ?_
        obtain ⟨k37, hf⟩ := pm_if hf
        refine pm_getI C dX16_closes_177 flX16_1104 rfl k37 rfl ?_
        refine pm_iload_n C dX16_closes_180 rfl rfl ?_
        refine pm_iadd C dX16_closes_181 ?_
        obtain ⟨y38, e39, hf⟩ := pm_lt hf
        refine pm_topI e39 ?_
        refine pm_putI C dX16_closes_182 flX16_1104 rfl rfl k37 rfl rfl ?_
        refine pm_aload_n C dX16_closes_185 rfl rfl ?_
        refine pm_aload_n C dX16_closes_186 rfl rfl ?_
        obtain ⟨v40, e41, hf⟩ := pm_bd hf
        refine pm_getR C dX16_closes_187 flX16_176 rfl k37 e41 ?_
        refine pm_aload_n C dX16_closes_190 rfl rfl ?_
        refine pm_getI C dX16_closes_191 flX16_1052 rfl k37 rfl ?_
        obtain ⟨y42, e43, hf⟩ := pm_lt hf
        refine pm_topI e43 ?_
        obtain ⟨k44, hf⟩ := pm_if hf
        obtain ⟨u45, hf⟩ := pm_if hf
        refine pm_iald C dX16_closes_194 k44 u45 rfl ?_
        obtain ⟨y46, e47, hf⟩ := pm_lt hf
        refine pm_topI e47 ?_
        refine pm_putI C dX16_closes_195 flX16_1107 rfl rfl k37 rfl rfl ?_
        refine pm_aload_n C dX16_closes_198 rfl rfl ?_
        obtain ⟨v48, e49, hf⟩ := pm_bd hf
        refine pm_getR C dX16_closes_199 flX16_173 rfl k37 e49 ?_
        refine pm_aload_n C dX16_closes_202 rfl rfl ?_
        refine pm_getI C dX16_closes_203 flX16_1052 rfl k37 rfl ?_
        refine pm_iconst (v := 1) C dX16_closes_206 (by decide) ?_
        refine pm_isub C dX16_closes_207 ?_
        obtain ⟨y50, e51, hf⟩ := pm_lt hf
        refine pm_topI e51 ?_
        obtain ⟨k52, hf⟩ := pm_if hf
        obtain ⟨u53, hf⟩ := pm_if hf
        refine pm_iald C dX16_closes_208 k52 u53 rfl ?_
        obtain ⟨y54, e55, hf⟩ := pm_lt hf
        refine pm_topI e55 ?_
        refine pm_istore (lv' := [(4, .int y54), (0, .ref x0), (2, .int x2), (3, .int x3)]) C dX16_closes_209 (pm_nl X (by decide)) rfl ?_
        refine pm_aload_n C dX16_closes_211 rfl rfl ?_
        refine pm_aload_n C dX16_closes_212 rfl rfl ?_
        refine pm_iload C dX16_closes_213 rfl ?_
        obtain ⟨v56, e57, hf⟩ := pm_bd hf
        refine pm_callV (as := [.int y54]) (st := [.ref x0]) C X dX16_closes_215 lnX16_1065 myX16_planOf viX16_planOf ⟨by decide, by decide⟩ rfl rfl k37 (Nat.le_of_ble_eq_true rfl) (Nat.le_refl _) (Nat.le_refl _) (ctX16_planOf e57 ?_)
        show pm_G g 218 [(4, .int y54), (0, .ref x0), (2, .int x2), (3, .int x3)] [.ref v56, .ref x0] (pm_setI (pm_setI h x0 93 y38) x0 94 y46) 0 0
        refine pm_putR C dX16_closes_218 flX16_221 rfl rfl k37 ?_
        refine pm_aload_n C dX16_closes_221 rfl rfl ?_
        refine pm_aload_n C dX16_closes_222 rfl rfl ?_
        obtain ⟨v58, e59, hf⟩ := pm_bd hf
        refine pm_getR C dX16_closes_223 flX16_74 rfl k37 e59 ?_
        refine pm_iload C dX16_closes_226 rfl ?_
        obtain ⟨k60, hf⟩ := pm_if hf
        obtain ⟨u61, hf⟩ := pm_if hf
        refine pm_iald C dX16_closes_228 k60 u61 rfl ?_
        obtain ⟨y62, e63, hf⟩ := pm_lt hf
        refine pm_topI e63 ?_
        refine pm_putI C dX16_closes_229 flX16_1110 rfl rfl k37 rfl rfl ?_
        cases hf
        cases hi
        exact pm_vret C X dX16_closes_232 rfl (Nat.le_refl _) (Nat.le_refl _) q
      · have hf := pm_ie hf c36
        refine pm_aload_n C dX16_closes_148 rfl rfl ?_
        obtain ⟨k64, hf⟩ := pm_if hf
        obtain ⟨v65, e66, hf⟩ := pm_bd hf
        refine pm_getR C dX16_closes_149 flX16_191 rfl k64 e66 ?_
        refine pm_aload_n C dX16_closes_152 rfl rfl ?_
        refine pm_getI C dX16_closes_153 flX16_1104 rfl k64 rfl ?_
        refine pm_iload C dX16_closes_156 rfl ?_
        refine pm_iadd C dX16_closes_158 ?_
        refine pm_aload_n C dX16_closes_159 rfl rfl ?_
        refine pm_getR C dX16_closes_160 flX16_191 rfl k64 e66 ?_
        refine pm_iload_n C dX16_closes_163 rfl rfl ?_
        refine pm_iload C dX16_closes_164 rfl ?_
        refine pm_iadd C dX16_closes_166 ?_
        obtain ⟨y67, e68, hf⟩ := pm_lt hf
        refine pm_topI e68 ?_
        obtain ⟨k69, hf⟩ := pm_if hf
        obtain ⟨u70, hf⟩ := pm_if hf
        refine pm_lald C dX16_closes_167 k69 u70 rfl ?_
        obtain ⟨y71, e72, hf⟩ := pm_lt hf
        refine pm_topL e72 ?_
        obtain ⟨u73, hf⟩ := pm_if hf
        refine pm_last C dX16_closes_168 k69 u73 ?_
        obtain ⟨y74, e75, hf⟩ := pm_lt hf
        refine pm_iinc (v := y74) (lv' := [(4, .int y74), (0, .ref x0), (2, .int x2), (3, .int x3)]) C dX16_closes_169 rfl ((congrArg (x4 + ·) (by decide : Int32.ofInt 1 = 1)).trans e75) (pm_nl X (by decide)) rfl ?_
        refine pm_goto (tgt := 142) C dX16_closes_172 (by decide) ?_
        cases hf
        exact pm_sub [1, 2, 3, 0] rfl (ih.1 x0 x2 x3 y74 (pm_setL h v65 (((pm_I h x0 93) + x4).toNatClampNeg) y71) hi)
    refine fun x0 x2 x3 h hf => ?_
    obtain ⟨y, hf, hi⟩ := pm_iter_s hf
    have hf : tX16_closes_86 x0 x2 x3 h = some y := hf
    unfold tX16_closes_86 at hf
    refine pm_iload_n C dX16_closes_86 rfl rfl ?_
    refine pm_iload_n C dX16_closes_87 rfl rfl ?_
    refine pm_icmp_ge (tgt := 116) C dX16_closes_88 (by decide) (fun c76 => ?_) (fun c76 => ?_)
    · have hf := pm_it hf c76
      cases hf
      cases hi
      exact pm_vret C X dX16_closes_116 rfl (Nat.le_refl _) (Nat.le_refl _) q
    · have hf := pm_ie hf c76
      refine pm_aload_n C dX16_closes_91 rfl rfl ?_
      obtain ⟨k77, hf⟩ := pm_if hf
      obtain ⟨v78, e79, hf⟩ := pm_bd hf
      refine pm_getR C dX16_closes_92 flX16_170 rfl k77 e79 ?_
      refine pm_iload_n C dX16_closes_95 rfl rfl ?_
      refine pm_aload_n C dX16_closes_96 rfl rfl ?_
      obtain ⟨v80, e81, hf⟩ := pm_bd hf
      refine pm_getR C dX16_closes_97 flX16_191 rfl k77 e81 ?_
      refine pm_aload_n C dX16_closes_100 rfl rfl ?_
      refine pm_getI C dX16_closes_101 flX16_1104 rfl k77 rfl ?_
      refine pm_iload_n C dX16_closes_104 rfl rfl ?_
      refine pm_isub C dX16_closes_105 ?_
      refine pm_iload_n C dX16_closes_106 rfl rfl ?_
      refine pm_iadd C dX16_closes_107 ?_
      obtain ⟨y82, e83, hf⟩ := pm_lt hf
      refine pm_topI e83 ?_
      obtain ⟨k84, hf⟩ := pm_if hf
      obtain ⟨u85, hf⟩ := pm_if hf
      refine pm_lald C dX16_closes_108 k84 u85 rfl ?_
      obtain ⟨y86, e87, hf⟩ := pm_lt hf
      refine pm_topL e87 ?_
      obtain ⟨k88, hf⟩ := pm_if hf
      obtain ⟨u89, hf⟩ := pm_if hf
      refine pm_last C dX16_closes_109 k88 u89 ?_
      obtain ⟨y90, e91, hf⟩ := pm_lt hf
      refine pm_iinc (v := y90) (lv' := [(3, .int y90), (0, .ref x0), (2, .int x2)]) C dX16_closes_110 rfl ((congrArg (x3 + ·) (by decide : Int32.ofInt 1 = 1)).trans e91) (pm_nl X (by decide)) rfl ?_
      refine pm_goto (tgt := 86) C dX16_closes_113 (by decide) ?_
      cases hf
      exact pm_sub [1, 2, 0] rfl (ih.2 x0 x2 y90 (pm_setL h v78 x3.toNatClampNeg y86) hi)
set_option maxHeartbeats 4000000 in
set_option maxRecDepth 100000 in
theorem ctX16_closes {l : Launch} {G : pm_Gl} {h : pm_H} {a0 : Nat} {r : pm_H} {Qr : Option Value → pm_H → Prop} (hf : fX16_closes h a0 = some r) (q : Qr none r) : pm_Ct l G mX16_closes [.ref a0] h 0 0 Qr := by
  refine pm_body pnX16 (Nat.le_of_ble_eq_true rfl) (fun g C X => ?_)
  have C : pm_C g cX16_closes RX16 := C
  show pm_G g 0 [(0, .ref a0)] [] h 0 0
  unfold fX16_closes at hf
  refine pm_aload_n C dX16_closes_0 rfl rfl ?_
  refine pm_dup C dX16_closes_1 rfl ?_
  obtain ⟨k1, hf⟩ := pm_if hf
  refine pm_getI C dX16_closes_2 flX16_1086 rfl k1 rfl ?_
  refine pm_iconst (v := 1) C dX16_closes_5 (by decide) ?_
  refine pm_isub C dX16_closes_6 ?_
  obtain ⟨y2, e3, hf⟩ := pm_lt hf
  refine pm_topI e3 ?_
  refine pm_putI C dX16_closes_7 flX16_1086 rfl rfl k1 rfl rfl ?_
  refine pm_aload_n C dX16_closes_10 rfl rfl ?_
  refine pm_dup C dX16_closes_11 rfl ?_
  refine pm_getI C dX16_closes_12 flX16_1107 rfl k1 rfl ?_
  refine pm_iconst (v := 1) C dX16_closes_15 (by decide) ?_
  refine pm_iadd C dX16_closes_16 ?_
  obtain ⟨y4, e5, hf⟩ := pm_lt hf
  refine pm_topI e5 ?_
  refine pm_putI C dX16_closes_17 flX16_1107 rfl rfl k1 rfl rfl ?_
  refine pm_aload_n C dX16_closes_20 rfl rfl ?_
  refine pm_getI C dX16_closes_21 flX16_1086 rfl k1 rfl ?_
  refine pm_aload_n C dX16_closes_24 rfl rfl ?_
  obtain ⟨v6, e7, hf⟩ := pm_bd hf
  refine pm_getR C dX16_closes_25 flX16_188 rfl k1 e7 ?_
  refine pm_aload_n C dX16_closes_28 rfl rfl ?_
  refine pm_getI C dX16_closes_29 flX16_1052 rfl k1 rfl ?_
  refine pm_iconst (v := 1) C dX16_closes_32 (by decide) ?_
  refine pm_isub C dX16_closes_33 ?_
  obtain ⟨y8, e9, hf⟩ := pm_lt hf
  refine pm_topI e9 ?_
  obtain ⟨k10, hf⟩ := pm_if hf
  obtain ⟨u11, hf⟩ := pm_if hf
  refine pm_iald C dX16_closes_34 k10 u11 rfl ?_
  refine pm_icmp_le (tgt := 39) C dX16_closes_35 (by decide) (fun c12 => ?_) (fun c12 => ?_)
  · have hf := pm_it hf c12
    refine pm_aload_n C dX16_closes_39 rfl rfl ?_
    obtain ⟨v13, e14, hf⟩ := pm_bd hf
    refine pm_getR C dX16_closes_40 flX16_173 rfl k1 e14 ?_
    refine pm_aload_n C dX16_closes_43 rfl rfl ?_
    refine pm_getI C dX16_closes_44 flX16_1052 rfl k1 rfl ?_
    refine pm_iconst (v := 1) C dX16_closes_47 (by decide) ?_
    refine pm_isub C dX16_closes_48 ?_
    obtain ⟨y15, e16, hf⟩ := pm_lt hf
    refine pm_topI e16 ?_
    obtain ⟨k17, hf⟩ := pm_if hf
    obtain ⟨u18, hf⟩ := pm_if hf
    refine pm_iald C dX16_closes_49 k17 u18 rfl ?_
    obtain ⟨y19, e20, hf⟩ := pm_lt hf
    refine pm_topI e20 ?_
    refine pm_istore_n (lv' := [(1, .int y19), (0, .ref a0)]) C dX16_closes_50 rfl (pm_nl X (by decide)) rfl ?_
    refine pm_aload_n C dX16_closes_51 rfl rfl ?_
    refine pm_iload_n C dX16_closes_52 rfl rfl ?_
    obtain ⟨v21, e22, hf⟩ := pm_bd hf
    refine pm_callV (as := [.int y19]) (st := []) C X dX16_closes_53 lnX16_1129 myX16_resultsIn viX16_resultsIn ⟨by decide, by decide⟩ rfl rfl k1 (Nat.le_of_ble_eq_true rfl) (Nat.le_refl _) (Nat.le_refl _) (ctX16_resultsIn e22 ?_)
    show pm_G g 56 [(1, .int y19), (0, .ref a0)] [.int v21] (pm_setI (pm_setI h a0 96 y2) a0 94 y4) 0 0
    refine pm_istore_n (lv' := [(2, .int v21), (1, .int y19), (0, .ref a0)]) C dX16_closes_56 rfl (pm_nl X (by decide)) rfl ?_
    refine pm_aload_n C dX16_closes_57 rfl rfl ?_
    refine pm_dup C dX16_closes_58 rfl ?_
    refine pm_getI C dX16_closes_59 flX16_1052 rfl k1 rfl ?_
    refine pm_iconst (v := 1) C dX16_closes_62 (by decide) ?_
    refine pm_isub C dX16_closes_63 ?_
    obtain ⟨y23, e24, hf⟩ := pm_lt hf
    refine pm_topI e24 ?_
    refine pm_putI C dX16_closes_64 flX16_1052 rfl rfl k1 rfl rfl ?_
    refine pm_aload_n C dX16_closes_67 rfl rfl ?_
    refine pm_getI C dX16_closes_68 flX16_1052 rfl k1 rfl ?_
    refine pm_if_ne (tgt := 117) C dX16_closes_71 (by decide) (fun c25 => ?_) (fun c25 => ?_)
    · have hf := pm_ie hf c25
      refine pm_aload_n C dX16_closes_117 rfl rfl ?_
      refine pm_getI C dX16_closes_118 flX16_1104 rfl k1 rfl ?_
      refine pm_iload_n C dX16_closes_121 rfl rfl ?_
      refine pm_isub C dX16_closes_122 ?_
      obtain ⟨y26, e27, hf⟩ := pm_lt hf
      refine pm_topI e27 ?_
      refine pm_istore_n (lv' := [(3, .int y26), (2, .int v21), (1, .int y19), (0, .ref a0)]) C dX16_closes_123 rfl (pm_nl X (by decide)) rfl ?_
      refine pm_aload_n C dX16_closes_124 rfl rfl ?_
      refine pm_aload_n C dX16_closes_125 rfl rfl ?_
      obtain ⟨v28, e29, hf⟩ := pm_bd hf
      refine pm_getR C dX16_closes_126 flX16_185 rfl k1 e29 ?_
      refine pm_aload_n C dX16_closes_129 rfl rfl ?_
      refine pm_getI C dX16_closes_130 flX16_1052 rfl k1 rfl ?_
      refine pm_iconst (v := 1) C dX16_closes_133 (by decide) ?_
      refine pm_isub C dX16_closes_134 ?_
      obtain ⟨y30, e31, hf⟩ := pm_lt hf
      refine pm_topI e31 ?_
      obtain ⟨k32, hf⟩ := pm_if hf
      obtain ⟨u33, hf⟩ := pm_if hf
      refine pm_iald C dX16_closes_135 k32 u33 rfl ?_
      obtain ⟨y34, e35, hf⟩ := pm_lt hf
      refine pm_topI e35 ?_
      refine pm_putI C dX16_closes_136 flX16_1104 rfl rfl k1 rfl rfl ?_
      refine pm_iconst (v := 0) C dX16_closes_139 (by decide) ?_
      refine pm_istore (lv' := [(4, .int 0), (3, .int y26), (2, .int v21), (1, .int y19), (0, .ref a0)]) C dX16_closes_140 (pm_nl X (by decide)) rfl ?_
      obtain ⟨n, hn⟩ := pm_lim_iter hf
      exact pm_sub [4, 2, 1, 0] rfl ((lpX16_closes C X q n).1 a0 v21 y26 0 (pm_setI (pm_setI (pm_setI (pm_setI h a0 96 y2) a0 94 y4) a0 85 y23) a0 93 y34) hn)
    · have hf := pm_it hf c25
      refine pm_aload_n C dX16_closes_74 rfl rfl ?_
      refine pm_iconst (v := 2) C dX16_closes_75 (by decide) ?_
      refine pm_putI C dX16_closes_76 flX16_970 rfl rfl k1 rfl rfl ?_
      refine pm_aload_n C dX16_closes_79 rfl rfl ?_
      refine pm_iload_n C dX16_closes_80 rfl rfl ?_
      refine pm_putI C dX16_closes_81 flX16_1098 rfl rfl k1 rfl rfl ?_
      refine pm_iconst (v := 0) C dX16_closes_84 (by decide) ?_
      refine pm_istore_n (lv' := [(3, .int 0), (2, .int v21), (1, .int y19), (0, .ref a0)]) C dX16_closes_85 rfl (pm_nl X (by decide)) rfl ?_
      obtain ⟨n, hn⟩ := pm_lim_iter hf
      exact pm_sub [3, 1, 0] rfl ((lpX16_closes C X q n).2 a0 v21 0 (pm_setI (pm_setI (pm_setI (pm_setI (pm_setI h a0 96 y2) a0 94 y4) a0 85 y23) a0 76 2) a0 83 v21) hn)
  · have hf := pm_ie hf c12
    cases hf
    exact pm_vret C X dX16_closes_38 rfl (Nat.le_refl _) (Nat.le_refl _) q
theorem dX16_constant_0 : decode cX16_constant 0 = .ok (.lconst 0, 1) := by decide +kernel
theorem dX16_constant_1 : decode cX16_constant 1 = .ok (.lstore_n 3, 1) := by decide +kernel
theorem dX16_constant_2 : decode cX16_constant 2 = .ok (.aload_n 0, 1) := by decide +kernel
theorem dX16_constant_3 : decode cX16_constant 3 = .ok (.iload_n 2, 1) := by decide +kernel
theorem dX16_constant_4 : decode cX16_constant 4 = .ok (.putfield 594, 3) := by decide +kernel
theorem dX16_constant_7 : decode cX16_constant 7 = .ok (.aload_n 0, 1) := by decide +kernel
theorem dX16_constant_8 : decode cX16_constant 8 = .ok (.getfield 221, 3) := by decide +kernel
theorem dX16_constant_11 : decode cX16_constant 11 = .ok (.aload_n 0, 1) := by decide +kernel
theorem dX16_constant_12 : decode cX16_constant 12 = .ok (.getfield 594, 3) := by decide +kernel
theorem dX16_constant_15 : decode cX16_constant 15 = .ok (.invokevirtual 261, 3) := by decide +kernel
theorem dX16_constant_18 : decode cX16_constant 18 = .ok (.bipush 11, 2) := by decide +kernel
theorem dX16_constant_20 : decode cX16_constant 20 = .ok (.if_icmp .eq 174, 3) := by decide +kernel
theorem dX16_constant_23 : decode cX16_constant 23 = .ok (.aload_n 0, 1) := by decide +kernel
theorem dX16_constant_24 : decode cX16_constant 24 = .ok (.getfield 221, 3) := by decide +kernel
theorem dX16_constant_27 : decode cX16_constant 27 = .ok (.aload_n 0, 1) := by decide +kernel
theorem dX16_constant_28 : decode cX16_constant 28 = .ok (.getfield 594, 3) := by decide +kernel
theorem dX16_constant_31 : decode cX16_constant 31 = .ok (.invokevirtual 261, 3) := by decide +kernel
theorem dX16_constant_34 : decode cX16_constant 34 = .ok (.istore 5, 2) := by decide +kernel
theorem dX16_constant_36 : decode cX16_constant 36 = .ok (.aload_n 0, 1) := by decide +kernel
theorem dX16_constant_37 : decode cX16_constant 37 = .ok (.dup, 1) := by decide +kernel
theorem dX16_constant_38 : decode cX16_constant 38 = .ok (.getfield 594, 3) := by decide +kernel
theorem dX16_constant_41 : decode cX16_constant 41 = .ok (.iconst 1, 1) := by decide +kernel
theorem dX16_constant_42 : decode cX16_constant 42 = .ok (.iadd, 1) := by decide +kernel
theorem dX16_constant_43 : decode cX16_constant 43 = .ok (.putfield 594, 3) := by decide +kernel
theorem dX16_constant_46 : decode cX16_constant 46 = .ok (.iload 5, 2) := by decide +kernel
theorem dX16_constant_48 : decode cX16_constant 48 = .ok (.bipush 65, 2) := by decide +kernel
theorem dX16_constant_50 : decode cX16_constant 50 = .ok (.if_icmp .eq 10, 3) := by decide +kernel
theorem dX16_constant_53 : decode cX16_constant 53 = .ok (.iload 5, 2) := by decide +kernel
theorem dX16_constant_55 : decode cX16_constant 55 = .ok (.bipush 66, 2) := by decide +kernel
theorem dX16_constant_57 : decode cX16_constant 57 = .ok (.if_icmp .ne 29, 3) := by decide +kernel
theorem dX16_constant_60 : decode cX16_constant 60 = .ok (.iload 5, 2) := by decide +kernel
theorem dX16_constant_62 : decode cX16_constant 62 = .ok (.bipush 65, 2) := by decide +kernel
theorem dX16_constant_64 : decode cX16_constant 64 = .ok (.if_icmp .ne 14, 3) := by decide +kernel
theorem dX16_constant_67 : decode cX16_constant 67 = .ok (.aload_n 0, 1) := by decide +kernel
theorem dX16_constant_68 : decode cX16_constant 68 = .ok (.invokevirtual 597, 3) := by decide +kernel
theorem dX16_constant_71 : decode cX16_constant 71 = .ok (.ldc2_w 513, 3) := by decide +kernel
theorem dX16_constant_74 : decode cX16_constant 74 = .ok (.land, 1) := by decide +kernel
theorem dX16_constant_75 : decode cX16_constant 75 = .ok (.goto 7, 3) := by decide +kernel
theorem dX16_constant_78 : decode cX16_constant 78 = .ok (.aload_n 0, 1) := by decide +kernel
theorem dX16_constant_79 : decode cX16_constant 79 = .ok (.invokevirtual 597, 3) := by decide +kernel
theorem dX16_constant_82 : decode cX16_constant 82 = .ok (.lstore_n 3, 1) := by decide +kernel
theorem dX16_constant_83 : decode cX16_constant 83 = .ok (.goto 108, 3) := by decide +kernel
theorem dX16_constant_86 : decode cX16_constant 86 = .ok (.iload 5, 2) := by decide +kernel
theorem dX16_constant_88 : decode cX16_constant 88 = .ok (.bipush 67, 2) := by decide +kernel
theorem dX16_constant_90 : decode cX16_constant 90 = .ok (.if_icmp .eq 10, 3) := by decide +kernel
theorem dX16_constant_93 : decode cX16_constant 93 = .ok (.iload 5, 2) := by decide +kernel
theorem dX16_constant_95 : decode cX16_constant 95 = .ok (.bipush 68, 2) := by decide +kernel
theorem dX16_constant_97 : decode cX16_constant 97 = .ok (.if_icmp .ne 24, 3) := by decide +kernel
theorem dX16_constant_100 : decode cX16_constant 100 = .ok (.aload_n 0, 1) := by decide +kernel
theorem dX16_constant_101 : decode cX16_constant 101 = .ok (.iload 5, 2) := by decide +kernel
theorem dX16_constant_103 : decode cX16_constant 103 = .ok (.bipush 67, 2) := by decide +kernel
theorem dX16_constant_105 : decode cX16_constant 105 = .ok (.if_icmp .ne 7, 3) := by decide +kernel
theorem dX16_constant_108 : decode cX16_constant 108 = .ok (.iconst 4, 1) := by decide +kernel
theorem dX16_constant_109 : decode cX16_constant 109 = .ok (.goto 5, 3) := by decide +kernel
theorem dX16_constant_112 : decode cX16_constant 112 = .ok (.bipush 8, 2) := by decide +kernel
theorem dX16_constant_114 : decode cX16_constant 114 = .ok (.invokevirtual 1027, 3) := by decide +kernel
theorem dX16_constant_117 : decode cX16_constant 117 = .ok (.lstore_n 3, 1) := by decide +kernel
theorem dX16_constant_118 : decode cX16_constant 118 = .ok (.goto 73, 3) := by decide +kernel
theorem dX16_constant_121 : decode cX16_constant 121 = .ok (.iload 5, 2) := by decide +kernel
theorem dX16_constant_123 : decode cX16_constant 123 = .ok (.sipush 208, 3) := by decide +kernel
theorem dX16_constant_126 : decode cX16_constant 126 = .ok (.if_icmp .ne 20, 3) := by decide +kernel
theorem dX16_constant_129 : decode cX16_constant 129 = .ok (.aload_n 0, 1) := by decide +kernel
theorem dX16_constant_130 : decode cX16_constant 130 = .ok (.dup, 1) := by decide +kernel
theorem dX16_constant_131 : decode cX16_constant 131 = .ok (.getfield 594, 3) := by decide +kernel
theorem dX16_constant_134 : decode cX16_constant 134 = .ok (.iconst 1, 1) := by decide +kernel
theorem dX16_constant_135 : decode cX16_constant 135 = .ok (.iadd, 1) := by decide +kernel
theorem dX16_constant_136 : decode cX16_constant 136 = .ok (.putfield 594, 3) := by decide +kernel
theorem dX16_constant_139 : decode cX16_constant 139 = .ok (.ldc2_w 268, 3) := by decide +kernel
theorem dX16_constant_142 : decode cX16_constant 142 = .ok (.lstore_n 3, 1) := by decide +kernel
theorem dX16_constant_143 : decode cX16_constant 143 = .ok (.goto 48, 3) := by decide +kernel
theorem dX16_constant_146 : decode cX16_constant 146 = .ok (.sipush 128, 3) := by decide +kernel
theorem dX16_constant_149 : decode cX16_constant 149 = .ok (.iload_n 1, 1) := by decide +kernel
theorem dX16_constant_150 : decode cX16_constant 150 = .ok (.imul, 1) := by decide +kernel
theorem dX16_constant_151 : decode cX16_constant 151 = .ok (.aload_n 0, 1) := by decide +kernel
theorem dX16_constant_152 : decode cX16_constant 152 = .ok (.invokevirtual 603, 3) := by decide +kernel
theorem dX16_constant_155 : decode cX16_constant 155 = .ok (.l2i, 1) := by decide +kernel
theorem dX16_constant_156 : decode cX16_constant 156 = .ok (.iadd, 1) := by decide +kernel
theorem dX16_constant_157 : decode cX16_constant 157 = .ok (.istore 6, 2) := by decide +kernel
theorem dX16_constant_159 : decode cX16_constant 159 = .ok (.iload 5, 2) := by decide +kernel
theorem dX16_constant_161 : decode cX16_constant 161 = .ok (.sipush 210, 3) := by decide +kernel
theorem dX16_constant_164 : decode cX16_constant 164 = .ok (.if_icmp .ne 14, 3) := by decide +kernel
theorem dX16_constant_167 : decode cX16_constant 167 = .ok (.aload_n 0, 1) := by decide +kernel
theorem dX16_constant_168 : decode cX16_constant 168 = .ok (.getfield 134, 3) := by decide +kernel
theorem dX16_constant_171 : decode cX16_constant 171 = .ok (.iload 6, 2) := by decide +kernel
theorem dX16_constant_173 : decode cX16_constant 173 = .ok (.iaload, 1) := by decide +kernel
theorem dX16_constant_174 : decode cX16_constant 174 = .ok (.i2l, 1) := by decide +kernel
theorem dX16_constant_175 : decode cX16_constant 175 = .ok (.goto 15, 3) := by decide +kernel
theorem dX16_constant_178 : decode cX16_constant 178 = .ok (.aload_n 0, 1) := by decide +kernel
theorem dX16_constant_179 : decode cX16_constant 179 = .ok (.getfield 128, 3) := by decide +kernel
theorem dX16_constant_182 : decode cX16_constant 182 = .ok (.aload_n 0, 1) := by decide +kernel
theorem dX16_constant_183 : decode cX16_constant 183 = .ok (.getfield 143, 3) := by decide +kernel
theorem dX16_constant_186 : decode cX16_constant 186 = .ok (.iload 6, 2) := by decide +kernel
theorem dX16_constant_188 : decode cX16_constant 188 = .ok (.iaload, 1) := by decide +kernel
theorem dX16_constant_189 : decode cX16_constant 189 = .ok (.laload, 1) := by decide +kernel
theorem dX16_constant_190 : decode cX16_constant 190 = .ok (.lstore_n 3, 1) := by decide +kernel
theorem dX16_constant_191 : decode cX16_constant 191 = .ok (.goto (-184), 3) := by decide +kernel
theorem dX16_constant_194 : decode cX16_constant 194 = .ok (.aload_n 0, 1) := by decide +kernel
theorem dX16_constant_195 : decode cX16_constant 195 = .ok (.dup, 1) := by decide +kernel
theorem dX16_constant_196 : decode cX16_constant 196 = .ok (.getfield 594, 3) := by decide +kernel
theorem dX16_constant_199 : decode cX16_constant 199 = .ok (.iconst 1, 1) := by decide +kernel
theorem dX16_constant_200 : decode cX16_constant 200 = .ok (.iadd, 1) := by decide +kernel
theorem dX16_constant_201 : decode cX16_constant 201 = .ok (.putfield 594, 3) := by decide +kernel
theorem dX16_constant_204 : decode cX16_constant 204 = .ok (.lload_n 3, 1) := by decide +kernel
theorem dX16_constant_205 : decode cX16_constant 205 = .ok (.lreturn, 1) := by decide +kernel
noncomputable def tX16_constant_7 (x0 : Nat) (x1 : Int32) (x3 : Int64) (h : pm_H) : Option (((Nat × Int32 × Int64 × pm_H)) ⊕ (Int64 × pm_H)) := if pm_kd h x0 = 16 then (pm_R h x0 10).bind fun v3 => if pm_kd h v3 = 14 then (fX14_at h v3 (pm_I h x0 19)).bind fun v6 => if v6 = 11 then (pm_let ((pm_I h x0 19) + 1) fun y9 => some (.inr ((x3, pm_setI h x0 19 y9)))) else ((fX14_at h v3 (pm_I h x0 19)).bind fun v11 => pm_let ((pm_I h x0 19) + 1) fun y13 => if v11 = 65 then (if v11 = 65 then ((fX16_signedWord (pm_setI h x0 19 y13) x0).bind fun v19 => pm_let (v19.1 &&& 4294967295) fun y21 => some (.inl ((x0, x1, y21, v19.2)))) else ((fX16_signedWord (pm_setI h x0 19 y13) x0).bind fun v17 => some (.inl ((x0, x1, v17.1, v17.2))))) else (if v11 = 66 then (if v11 = 65 then ((fX16_signedWord (pm_setI h x0 19 y13) x0).bind fun v67 => pm_let (v67.1 &&& 4294967295) fun y69 => some (.inl ((x0, x1, y69, v67.2)))) else ((fX16_signedWord (pm_setI h x0 19 y13) x0).bind fun v65 => some (.inl ((x0, x1, v65.1, v65.2))))) else (if v11 = 67 then (if v11 = 67 then ((fX16_bytesAt (pm_setI h x0 19 y13) x0 4).bind fun v28 => some (.inl ((x0, x1, v28.1, v28.2)))) else ((fX16_bytesAt (pm_setI h x0 19 y13) x0 8).bind fun v26 => some (.inl ((x0, x1, v26.1, v26.2))))) else (if v11 = 68 then (if v11 = 67 then ((fX16_bytesAt (pm_setI h x0 19 y13) x0 4).bind fun v62 => some (.inl ((x0, x1, v62.1, v62.2)))) else ((fX16_bytesAt (pm_setI h x0 19 y13) x0 8).bind fun v60 => some (.inl ((x0, x1, v60.1, v60.2))))) else (if v11 = 208 then (pm_let ((pm_I (pm_setI h x0 19 y13) x0 19) + 1) fun y57 => some (.inl ((x0, x1, (-1), pm_setI (pm_setI h x0 19 y13) x0 19 y57)))) else ((fX16_word (pm_setI h x0 19 y13) x0).bind fun v32 => pm_let ((128 * x1) + v32.1.toInt32) fun y34 => if v11 = 210 then (if pm_kd v32.2 x0 = 16 then (pm_R v32.2 x0 64).bind fun v51 => if pm_kd v32.2 v51 = 34 then if pm_in y34 (pm_ln v32.2 v51) then pm_let ((pm_I v32.2 v51 y34.toNatClampNeg).toInt64) fun y55 => some (.inl ((x0, x1, y55, v32.2))) else none else none else none) else (if pm_kd v32.2 x0 = 16 then (pm_R v32.2 x0 61).bind fun v38 => (pm_R v32.2 x0 67).bind fun v40 => if pm_kd v32.2 v40 = 34 then if pm_in y34 (pm_ln v32.2 v40) then pm_let (pm_I v32.2 v40 y34.toNatClampNeg) fun y44 => if pm_kd v32.2 v38 = 35 then if pm_in y44 (pm_ln v32.2 v38) then pm_let (pm_L v32.2 v38 y44.toNatClampNeg) fun y48 => some (.inl ((x0, x1, y48, v32.2))) else none else none else none else none else none))))))) else none else none
noncomputable def sX16_constant : ((Nat × Int32 × Int64 × pm_H)) → Option (((Nat × Int32 × Int64 × pm_H)) ⊕ (Int64 × pm_H)) := fun z => match z with
  | (x0, x1, x3, h) => tX16_constant_7 x0 x1 x3 h
noncomputable def fX16_constant (h : pm_H) (a0 : Nat) (p1 : Int32) (p2 : Int32) : Option (Int64 × pm_H) := if pm_kd h a0 = 16 then pm_lim sX16_constant ((a0, p1, 0, pm_setI h a0 19 p2)) else none
set_option maxHeartbeats 4000000 in
set_option maxRecDepth 100000 in
theorem lpX16_constant {g : pm_Gm} {l : Launch} {G : pm_Gl} {Qr : Option Value → pm_H → Prop} (C : pm_C g cX16_constant RX16) (X : pm_X g l G mX16_constant 0 0 Qr) {r : (Int64 × pm_H)} (q : Qr (some (.long r.1)) r.2) : ∀ n : Nat, (∀ (x0 : Nat) (x1 : Int32) (x3 : Int64) (h : pm_H), pm_iter sX16_constant n (x0, x1, x3, h) = some r → pm_G g 7 [(0, .ref x0), (1, .int x1), (3, .long x3)] [] h 0 0) := by
  intro n
  induction n with
  | zero => exact fun _ _ _ _ hf => (by cases hf)
  | succ n ih =>
    refine fun x0 x1 x3 h hf => ?_
    obtain ⟨y, hf, hi⟩ := pm_iter_s hf
    have hf : tX16_constant_7 x0 x1 x3 h = some y := hf
    unfold tX16_constant_7 at hf
    refine pm_aload_n C dX16_constant_7 rfl rfl ?_
    obtain ⟨k2, hf⟩ := pm_if hf
    obtain ⟨v3, e4, hf⟩ := pm_bd hf
    refine pm_getR C dX16_constant_8 flX16_221 rfl k2 e4 ?_
    refine pm_aload_n C dX16_constant_11 rfl rfl ?_
    refine pm_getI C dX16_constant_12 flX16_594 rfl k2 rfl ?_
    obtain ⟨k5, hf⟩ := pm_if hf
    obtain ⟨v6, e7, hf⟩ := pm_bd hf
    refine pm_callV (as := [.int (pm_I h x0 19)]) (st := []) C X dX16_constant_15 lnX16_261 myX14_at viX14_at ⟨by decide, by decide⟩ rfl rfl k5 (Nat.le_of_ble_eq_true rfl) (Nat.le_refl _) (Nat.le_refl _) (ctX14_at e7 ?_)
    show pm_G g 18 [(0, .ref x0), (1, .int x1), (3, .long x3)] [.int v6] h 0 0
    refine pm_bipush (v := 11) C dX16_constant_18 (by decide) ?_
    refine pm_icmp_eq (tgt := 194) C dX16_constant_20 (by decide) (fun c8 => ?_) (fun c8 => ?_)
    · have hf := pm_it hf c8
      refine pm_aload_n C dX16_constant_194 rfl rfl ?_
      refine pm_dup C dX16_constant_195 rfl ?_
      refine pm_getI C dX16_constant_196 flX16_594 rfl k2 rfl ?_
      refine pm_iconst (v := 1) C dX16_constant_199 (by decide) ?_
      refine pm_iadd C dX16_constant_200 ?_
      obtain ⟨y9, e10, hf⟩ := pm_lt hf
      refine pm_topI e10 ?_
      refine pm_putI C dX16_constant_201 flX16_594 rfl rfl k2 rfl rfl ?_
      refine pm_lload_n C dX16_constant_204 rfl rfl ?_
      cases hf
      cases hi
      exact pm_lret C X dX16_constant_205 rfl (Nat.le_refl _) (Nat.le_refl _) q
    · have hf := pm_ie hf c8
      refine pm_aload_n C dX16_constant_23 rfl rfl ?_
      refine pm_getR C dX16_constant_24 flX16_221 rfl k2 e4 ?_
      refine pm_aload_n C dX16_constant_27 rfl rfl ?_
      refine pm_getI C dX16_constant_28 flX16_594 rfl k2 rfl ?_
      obtain ⟨v11, e12, hf⟩ := pm_bd hf
      refine pm_callV (as := [.int (pm_I h x0 19)]) (st := []) C X dX16_constant_31 lnX16_261 myX14_at viX14_at ⟨by decide, by decide⟩ rfl rfl k5 (Nat.le_of_ble_eq_true rfl) (Nat.le_refl _) (Nat.le_refl _) (ctX14_at e12 ?_)
      show pm_G g 34 [(0, .ref x0), (1, .int x1), (3, .long x3)] [.int v11] h 0 0
      refine pm_istore (lv' := [(5, .int v11), (0, .ref x0), (1, .int x1), (3, .long x3)]) C dX16_constant_34 (pm_nl X (by decide)) rfl ?_
      refine pm_aload_n C dX16_constant_36 rfl rfl ?_
      refine pm_dup C dX16_constant_37 rfl ?_
      refine pm_getI C dX16_constant_38 flX16_594 rfl k2 rfl ?_
      refine pm_iconst (v := 1) C dX16_constant_41 (by decide) ?_
      refine pm_iadd C dX16_constant_42 ?_
      obtain ⟨y13, e14, hf⟩ := pm_lt hf
      refine pm_topI e14 ?_
      refine pm_putI C dX16_constant_43 flX16_594 rfl rfl k2 rfl rfl ?_
      refine pm_iload C dX16_constant_46 rfl ?_
      refine pm_bipush (v := 65) C dX16_constant_48 (by decide) ?_
      refine pm_icmp_eq (tgt := 60) C dX16_constant_50 (by decide) (fun c15 => ?_) (fun c15 => ?_)
      · have hf := pm_it hf c15
        refine pm_iload C dX16_constant_60 rfl ?_
        refine pm_bipush (v := 65) C dX16_constant_62 (by decide) ?_
        refine pm_icmp_ne (tgt := 78) C dX16_constant_64 (by decide) (fun c16 => ?_) (fun c16 => ?_)
        · have hf := pm_ie hf c16
          refine pm_aload_n C dX16_constant_78 rfl rfl ?_
          obtain ⟨v17, e18, hf⟩ := pm_bd hf
          refine pm_callV (as := []) (st := []) C X dX16_constant_79 lnX16_597 myX16_signedWord viX16_signedWord ⟨by decide, by decide⟩ rfl rfl k2 (Nat.le_of_ble_eq_true rfl) (Nat.le_refl _) (Nat.le_refl _) (ctX16_signedWord e18 ?_)
          show pm_G g 82 [(5, .int v11), (0, .ref x0), (1, .int x1), (3, .long x3)] [.long v17.1] v17.2 0 0
          refine pm_lstore_n (lv' := [(3, .long v17.1), (5, .int v11), (0, .ref x0), (1, .int x1)]) C dX16_constant_82 rfl (pm_nl X (by decide)) rfl ?_
          refine pm_goto (tgt := 191) C dX16_constant_83 (by decide) ?_
          refine pm_goto (tgt := 7) C dX16_constant_191 (by decide) ?_
          cases hf
          exact pm_sub [2, 3, 0] rfl (ih x0 x1 v17.1 v17.2 hi)
        · have hf := pm_it hf c16
          refine pm_aload_n C dX16_constant_67 rfl rfl ?_
          obtain ⟨v19, e20, hf⟩ := pm_bd hf
          refine pm_callV (as := []) (st := []) C X dX16_constant_68 lnX16_597 myX16_signedWord viX16_signedWord ⟨by decide, by decide⟩ rfl rfl k2 (Nat.le_of_ble_eq_true rfl) (Nat.le_refl _) (Nat.le_refl _) (ctX16_signedWord e20 ?_)
          show pm_G g 71 [(5, .int v11), (0, .ref x0), (1, .int x1), (3, .long x3)] [.long v19.1] v19.2 0 0
          refine pm_ldc2 C dX16_constant_71 cnX16_513 ?_
          refine pm_land C dX16_constant_74 ?_
          refine pm_goto (tgt := 82) C dX16_constant_75 (by decide) ?_
          obtain ⟨y21, e22, hf⟩ := pm_lt hf
          refine pm_topL e22 ?_
          refine pm_lstore_n (lv' := [(3, .long y21), (5, .int v11), (0, .ref x0), (1, .int x1)]) C dX16_constant_82 rfl (pm_nl X (by decide)) rfl ?_
          refine pm_goto (tgt := 191) C dX16_constant_83 (by decide) ?_
          refine pm_goto (tgt := 7) C dX16_constant_191 (by decide) ?_
          cases hf
          exact pm_sub [2, 3, 0] rfl (ih x0 x1 y21 v19.2 hi)
      · have hf := pm_ie hf c15
        refine pm_iload C dX16_constant_53 rfl ?_
        refine pm_bipush (v := 66) C dX16_constant_55 (by decide) ?_
        refine pm_icmp_ne (tgt := 86) C dX16_constant_57 (by decide) (fun c23 => ?_) (fun c23 => ?_)
        · have hf := pm_ie hf c23
          refine pm_iload C dX16_constant_86 rfl ?_
          refine pm_bipush (v := 67) C dX16_constant_88 (by decide) ?_
          refine pm_icmp_eq (tgt := 100) C dX16_constant_90 (by decide) (fun c24 => ?_) (fun c24 => ?_)
          · have hf := pm_it hf c24
            refine pm_aload_n C dX16_constant_100 rfl rfl ?_
            refine pm_iload C dX16_constant_101 rfl ?_
            refine pm_bipush (v := 67) C dX16_constant_103 (by decide) ?_
            refine pm_icmp_ne (tgt := 112) C dX16_constant_105 (by decide) (fun c25 => ?_) (fun c25 => ?_)
            · have hf := pm_ie hf c25
              refine pm_bipush (v := 8) C dX16_constant_112 (by decide) ?_
              obtain ⟨v26, e27, hf⟩ := pm_bd hf
              refine pm_callV (as := [.int 8]) (st := []) C X dX16_constant_114 lnX16_1027 myX16_bytesAt viX16_bytesAt ⟨by decide, by decide⟩ rfl rfl k2 (Nat.le_of_ble_eq_true rfl) (Nat.le_refl _) (Nat.le_refl _) (ctX16_bytesAt e27 ?_)
              show pm_G g 117 [(5, .int v11), (0, .ref x0), (1, .int x1), (3, .long x3)] [.long v26.1] v26.2 0 0
              refine pm_lstore_n (lv' := [(3, .long v26.1), (5, .int v11), (0, .ref x0), (1, .int x1)]) C dX16_constant_117 rfl (pm_nl X (by decide)) rfl ?_
              refine pm_goto (tgt := 191) C dX16_constant_118 (by decide) ?_
              refine pm_goto (tgt := 7) C dX16_constant_191 (by decide) ?_
              cases hf
              exact pm_sub [2, 3, 0] rfl (ih x0 x1 v26.1 v26.2 hi)
            · have hf := pm_it hf c25
              refine pm_iconst (v := 4) C dX16_constant_108 (by decide) ?_
              refine pm_goto (tgt := 114) C dX16_constant_109 (by decide) ?_
              obtain ⟨v28, e29, hf⟩ := pm_bd hf
              refine pm_callV (as := [.int 4]) (st := []) C X dX16_constant_114 lnX16_1027 myX16_bytesAt viX16_bytesAt ⟨by decide, by decide⟩ rfl rfl k2 (Nat.le_of_ble_eq_true rfl) (Nat.le_refl _) (Nat.le_refl _) (ctX16_bytesAt e29 ?_)
              show pm_G g 117 [(5, .int v11), (0, .ref x0), (1, .int x1), (3, .long x3)] [.long v28.1] v28.2 0 0
              refine pm_lstore_n (lv' := [(3, .long v28.1), (5, .int v11), (0, .ref x0), (1, .int x1)]) C dX16_constant_117 rfl (pm_nl X (by decide)) rfl ?_
              refine pm_goto (tgt := 191) C dX16_constant_118 (by decide) ?_
              refine pm_goto (tgt := 7) C dX16_constant_191 (by decide) ?_
              cases hf
              exact pm_sub [2, 3, 0] rfl (ih x0 x1 v28.1 v28.2 hi)
          · have hf := pm_ie hf c24
            refine pm_iload C dX16_constant_93 rfl ?_
            refine pm_bipush (v := 68) C dX16_constant_95 (by decide) ?_
            refine pm_icmp_ne (tgt := 121) C dX16_constant_97 (by decide) (fun c30 => ?_) (fun c30 => ?_)
            · have hf := pm_ie hf c30
              refine pm_iload C dX16_constant_121 rfl ?_
              refine pm_sipush (v := 208) C dX16_constant_123 (by decide) ?_
              refine pm_icmp_ne (tgt := 146) C dX16_constant_126 (by decide) (fun c31 => ?_) (fun c31 => ?_)
              · have hf := pm_ie hf c31
                refine pm_sipush (v := 128) C dX16_constant_146 (by decide) ?_
                refine pm_iload_n C dX16_constant_149 rfl rfl ?_
                refine pm_imul C dX16_constant_150 ?_
                refine pm_aload_n C dX16_constant_151 rfl rfl ?_
                obtain ⟨v32, e33, hf⟩ := pm_bd hf
                refine pm_callV (as := []) (st := [.int (128 * x1)]) C X dX16_constant_152 lnX16_603 myX16_word viX16_word ⟨by decide, by decide⟩ rfl rfl k2 (Nat.le_of_ble_eq_true rfl) (Nat.le_refl _) (Nat.le_refl _) (ctX16_word e33 ?_)
                show pm_G g 155 [(5, .int v11), (0, .ref x0), (1, .int x1), (3, .long x3)] [.long v32.1, .int (128 * x1)] v32.2 0 0
                refine pm_l2i C dX16_constant_155 ?_
                refine pm_iadd C dX16_constant_156 ?_
                obtain ⟨y34, e35, hf⟩ := pm_lt hf
                refine pm_topI e35 ?_
                refine pm_istore (lv' := [(6, .int y34), (5, .int v11), (0, .ref x0), (1, .int x1), (3, .long x3)]) C dX16_constant_157 (pm_nl X (by decide)) rfl ?_
                refine pm_iload C dX16_constant_159 rfl ?_
                refine pm_sipush (v := 210) C dX16_constant_161 (by decide) ?_
                refine pm_icmp_ne (tgt := 178) C dX16_constant_164 (by decide) (fun c36 => ?_) (fun c36 => ?_)
                · have hf := pm_ie hf c36
                  refine pm_aload_n C dX16_constant_178 rfl rfl ?_
                  obtain ⟨k37, hf⟩ := pm_if hf
                  obtain ⟨v38, e39, hf⟩ := pm_bd hf
                  refine pm_getR C dX16_constant_179 flX16_128 rfl k37 e39 ?_
                  refine pm_aload_n C dX16_constant_182 rfl rfl ?_
                  obtain ⟨v40, e41, hf⟩ := pm_bd hf
                  refine pm_getR C dX16_constant_183 flX16_143 rfl k37 e41 ?_
                  refine pm_iload C dX16_constant_186 rfl ?_
                  obtain ⟨k42, hf⟩ := pm_if hf
                  obtain ⟨u43, hf⟩ := pm_if hf
                  refine pm_iald C dX16_constant_188 k42 u43 rfl ?_
                  obtain ⟨y44, e45, hf⟩ := pm_lt hf
                  refine pm_topI e45 ?_
                  obtain ⟨k46, hf⟩ := pm_if hf
                  obtain ⟨u47, hf⟩ := pm_if hf
                  refine pm_lald C dX16_constant_189 k46 u47 rfl ?_
                  obtain ⟨y48, e49, hf⟩ := pm_lt hf
                  refine pm_topL e49 ?_
                  refine pm_lstore_n (lv' := [(3, .long y48), (6, .int y34), (5, .int v11), (0, .ref x0), (1, .int x1)]) C dX16_constant_190 rfl (pm_nl X (by decide)) rfl ?_
                  refine pm_goto (tgt := 7) C dX16_constant_191 (by decide) ?_
                  cases hf
                  exact pm_sub [3, 4, 0] rfl (ih x0 x1 y48 v32.2 hi)
                · have hf := pm_it hf c36
                  refine pm_aload_n C dX16_constant_167 rfl rfl ?_
                  obtain ⟨k50, hf⟩ := pm_if hf
                  obtain ⟨v51, e52, hf⟩ := pm_bd hf
                  refine pm_getR C dX16_constant_168 flX16_134 rfl k50 e52 ?_
                  refine pm_iload C dX16_constant_171 rfl ?_
                  obtain ⟨k53, hf⟩ := pm_if hf
                  obtain ⟨u54, hf⟩ := pm_if hf
                  refine pm_iald C dX16_constant_173 k53 u54 rfl ?_
                  refine pm_i2l C dX16_constant_174 ?_
                  refine pm_goto (tgt := 190) C dX16_constant_175 (by decide) ?_
                  obtain ⟨y55, e56, hf⟩ := pm_lt hf
                  refine pm_topL e56 ?_
                  refine pm_lstore_n (lv' := [(3, .long y55), (6, .int y34), (5, .int v11), (0, .ref x0), (1, .int x1)]) C dX16_constant_190 rfl (pm_nl X (by decide)) rfl ?_
                  refine pm_goto (tgt := 7) C dX16_constant_191 (by decide) ?_
                  cases hf
                  exact pm_sub [3, 4, 0] rfl (ih x0 x1 y55 v32.2 hi)
              · have hf := pm_it hf c31
                refine pm_aload_n C dX16_constant_129 rfl rfl ?_
                refine pm_dup C dX16_constant_130 rfl ?_
                refine pm_getI C dX16_constant_131 flX16_594 rfl k2 rfl ?_
                refine pm_iconst (v := 1) C dX16_constant_134 (by decide) ?_
                refine pm_iadd C dX16_constant_135 ?_
                obtain ⟨y57, e58, hf⟩ := pm_lt hf
                refine pm_topI e58 ?_
                refine pm_putI C dX16_constant_136 flX16_594 rfl rfl k2 rfl rfl ?_
                refine pm_ldc2 C dX16_constant_139 cnX16_268 ?_
                refine pm_lstore_n (lv' := [(3, .long (-1)), (5, .int v11), (0, .ref x0), (1, .int x1)]) C dX16_constant_142 rfl (pm_nl X (by decide)) rfl ?_
                refine pm_goto (tgt := 191) C dX16_constant_143 (by decide) ?_
                refine pm_goto (tgt := 7) C dX16_constant_191 (by decide) ?_
                cases hf
                exact pm_sub [2, 3, 0] rfl (ih x0 x1 (-1) (pm_setI (pm_setI h x0 19 y13) x0 19 y57) hi)
            · have hf := pm_it hf c30
              refine pm_aload_n C dX16_constant_100 rfl rfl ?_
              refine pm_iload C dX16_constant_101 rfl ?_
              refine pm_bipush (v := 67) C dX16_constant_103 (by decide) ?_
              refine pm_icmp_ne (tgt := 112) C dX16_constant_105 (by decide) (fun c59 => ?_) (fun c59 => ?_)
              · have hf := pm_ie hf c59
                refine pm_bipush (v := 8) C dX16_constant_112 (by decide) ?_
                obtain ⟨v60, e61, hf⟩ := pm_bd hf
                refine pm_callV (as := [.int 8]) (st := []) C X dX16_constant_114 lnX16_1027 myX16_bytesAt viX16_bytesAt ⟨by decide, by decide⟩ rfl rfl k2 (Nat.le_of_ble_eq_true rfl) (Nat.le_refl _) (Nat.le_refl _) (ctX16_bytesAt e61 ?_)
                show pm_G g 117 [(5, .int v11), (0, .ref x0), (1, .int x1), (3, .long x3)] [.long v60.1] v60.2 0 0
                refine pm_lstore_n (lv' := [(3, .long v60.1), (5, .int v11), (0, .ref x0), (1, .int x1)]) C dX16_constant_117 rfl (pm_nl X (by decide)) rfl ?_
                refine pm_goto (tgt := 191) C dX16_constant_118 (by decide) ?_
                refine pm_goto (tgt := 7) C dX16_constant_191 (by decide) ?_
                cases hf
                exact pm_sub [2, 3, 0] rfl (ih x0 x1 v60.1 v60.2 hi)
              · have hf := pm_it hf c59
                refine pm_iconst (v := 4) C dX16_constant_108 (by decide) ?_
                refine pm_goto (tgt := 114) C dX16_constant_109 (by decide) ?_
                obtain ⟨v62, e63, hf⟩ := pm_bd hf
                refine pm_callV (as := [.int 4]) (st := []) C X dX16_constant_114 lnX16_1027 myX16_bytesAt viX16_bytesAt ⟨by decide, by decide⟩ rfl rfl k2 (Nat.le_of_ble_eq_true rfl) (Nat.le_refl _) (Nat.le_refl _) (ctX16_bytesAt e63 ?_)
                show pm_G g 117 [(5, .int v11), (0, .ref x0), (1, .int x1), (3, .long x3)] [.long v62.1] v62.2 0 0
                refine pm_lstore_n (lv' := [(3, .long v62.1), (5, .int v11), (0, .ref x0), (1, .int x1)]) C dX16_constant_117 rfl (pm_nl X (by decide)) rfl ?_
                refine pm_goto (tgt := 191) C dX16_constant_118 (by decide) ?_
                refine pm_goto (tgt := 7) C dX16_constant_191 (by decide) ?_
                cases hf
                exact pm_sub [2, 3, 0] rfl (ih x0 x1 v62.1 v62.2 hi)
        · have hf := pm_it hf c23
          refine pm_iload C dX16_constant_60 rfl ?_
          refine pm_bipush (v := 65) C dX16_constant_62 (by decide) ?_
          refine pm_icmp_ne (tgt := 78) C dX16_constant_64 (by decide) (fun c64 => ?_) (fun c64 => ?_)
          · have hf := pm_ie hf c64
            refine pm_aload_n C dX16_constant_78 rfl rfl ?_
            obtain ⟨v65, e66, hf⟩ := pm_bd hf
            refine pm_callV (as := []) (st := []) C X dX16_constant_79 lnX16_597 myX16_signedWord viX16_signedWord ⟨by decide, by decide⟩ rfl rfl k2 (Nat.le_of_ble_eq_true rfl) (Nat.le_refl _) (Nat.le_refl _) (ctX16_signedWord e66 ?_)
            show pm_G g 82 [(5, .int v11), (0, .ref x0), (1, .int x1), (3, .long x3)] [.long v65.1] v65.2 0 0
            refine pm_lstore_n (lv' := [(3, .long v65.1), (5, .int v11), (0, .ref x0), (1, .int x1)]) C dX16_constant_82 rfl (pm_nl X (by decide)) rfl ?_
            refine pm_goto (tgt := 191) C dX16_constant_83 (by decide) ?_
            refine pm_goto (tgt := 7) C dX16_constant_191 (by decide) ?_
            cases hf
            exact pm_sub [2, 3, 0] rfl (ih x0 x1 v65.1 v65.2 hi)
          · have hf := pm_it hf c64
            refine pm_aload_n C dX16_constant_67 rfl rfl ?_
            obtain ⟨v67, e68, hf⟩ := pm_bd hf
            refine pm_callV (as := []) (st := []) C X dX16_constant_68 lnX16_597 myX16_signedWord viX16_signedWord ⟨by decide, by decide⟩ rfl rfl k2 (Nat.le_of_ble_eq_true rfl) (Nat.le_refl _) (Nat.le_refl _) (ctX16_signedWord e68 ?_)
            show pm_G g 71 [(5, .int v11), (0, .ref x0), (1, .int x1), (3, .long x3)] [.long v67.1] v67.2 0 0
            refine pm_ldc2 C dX16_constant_71 cnX16_513 ?_
            refine pm_land C dX16_constant_74 ?_
            refine pm_goto (tgt := 82) C dX16_constant_75 (by decide) ?_
            obtain ⟨y69, e70, hf⟩ := pm_lt hf
            refine pm_topL e70 ?_
            refine pm_lstore_n (lv' := [(3, .long y69), (5, .int v11), (0, .ref x0), (1, .int x1)]) C dX16_constant_82 rfl (pm_nl X (by decide)) rfl ?_
            refine pm_goto (tgt := 191) C dX16_constant_83 (by decide) ?_
            refine pm_goto (tgt := 7) C dX16_constant_191 (by decide) ?_
            cases hf
            exact pm_sub [2, 3, 0] rfl (ih x0 x1 y69 v67.2 hi)
set_option maxHeartbeats 4000000 in
set_option maxRecDepth 100000 in
theorem ctX16_constant {l : Launch} {G : pm_Gl} {h : pm_H} {a0 : Nat} {p1 : Int32} {p2 : Int32} {r : (Int64 × pm_H)} {Qr : Option Value → pm_H → Prop} (hf : fX16_constant h a0 p1 p2 = some r) (q : Qr (some (.long r.1)) r.2) : pm_Ct l G mX16_constant [.ref a0, .int p1, .int p2] h 0 0 Qr := by
  refine pm_body pnX16 (Nat.le_of_ble_eq_true rfl) (fun g C X => ?_)
  have C : pm_C g cX16_constant RX16 := C
  show pm_G g 0 [(0, .ref a0), (1, .int p1), (2, .int p2)] [] h 0 0
  unfold fX16_constant at hf
  refine pm_lconst (v := 0) C dX16_constant_0 (by decide) ?_
  refine pm_lstore_n (lv' := [(3, .long 0), (0, .ref a0), (1, .int p1), (2, .int p2)]) C dX16_constant_1 rfl (pm_nl X (by decide)) rfl ?_
  refine pm_aload_n C dX16_constant_2 rfl rfl ?_
  refine pm_iload_n C dX16_constant_3 rfl rfl ?_
  obtain ⟨k1, hf⟩ := pm_if hf
  refine pm_putI C dX16_constant_4 flX16_594 rfl rfl k1 rfl rfl ?_
  obtain ⟨n, hn⟩ := pm_lim_iter hf
  exact pm_sub [1, 2, 0] rfl ((lpX16_constant C X q n) a0 p1 0 (pm_setI h a0 19 p2) hn)
theorem dX16_constantType_0 : decode cX16_constantType 0 = .ok (.aload_n 0, 1) := by decide +kernel
theorem dX16_constantType_1 : decode cX16_constantType 1 = .ok (.getfield 221, 3) := by decide +kernel
theorem dX16_constantType_4 : decode cX16_constantType 4 = .ok (.iload_n 1, 1) := by decide +kernel
theorem dX16_constantType_5 : decode cX16_constantType 5 = .ok (.invokevirtual 261, 3) := by decide +kernel
theorem dX16_constantType_8 : decode cX16_constantType 8 = .ok (.istore_n 2, 1) := by decide +kernel
theorem dX16_constantType_9 : decode cX16_constantType 9 = .ok (.aload_n 0, 1) := by decide +kernel
theorem dX16_constantType_10 : decode cX16_constantType 10 = .ok (.iload_n 1, 1) := by decide +kernel
theorem dX16_constantType_11 : decode cX16_constantType 11 = .ok (.iconst 1, 1) := by decide +kernel
theorem dX16_constantType_12 : decode cX16_constantType 12 = .ok (.iadd, 1) := by decide +kernel
theorem dX16_constantType_13 : decode cX16_constantType 13 = .ok (.putfield 594, 3) := by decide +kernel
theorem dX16_constantType_16 : decode cX16_constantType 16 = .ok (.iload_n 2, 1) := by decide +kernel
theorem dX16_constantType_17 : decode cX16_constantType 17 = .ok (.bipush 65, 2) := by decide +kernel
theorem dX16_constantType_19 : decode cX16_constantType 19 = .ok (.if_icmp .lt 15, 3) := by decide +kernel
theorem dX16_constantType_22 : decode cX16_constantType 22 = .ok (.iload_n 2, 1) := by decide +kernel
theorem dX16_constantType_23 : decode cX16_constantType 23 = .ok (.bipush 68, 2) := by decide +kernel
theorem dX16_constantType_25 : decode cX16_constantType 25 = .ok (.if_icmp .gt 9, 3) := by decide +kernel
theorem dX16_constantType_28 : decode cX16_constantType 28 = .ok (.sipush 192, 3) := by decide +kernel
theorem dX16_constantType_31 : decode cX16_constantType 31 = .ok (.iload_n 2, 1) := by decide +kernel
theorem dX16_constantType_32 : decode cX16_constantType 32 = .ok (.isub, 1) := by decide +kernel
theorem dX16_constantType_33 : decode cX16_constantType 33 = .ok (.ireturn, 1) := by decide +kernel
theorem dX16_constantType_34 : decode cX16_constantType 34 = .ok (.iload_n 2, 1) := by decide +kernel
theorem dX16_constantType_35 : decode cX16_constantType 35 = .ok (.sipush 208, 3) := by decide +kernel
theorem dX16_constantType_38 : decode cX16_constantType 38 = .ok (.if_icmp .ne 14, 3) := by decide +kernel
theorem dX16_constantType_41 : decode cX16_constantType 41 = .ok (.aload_n 0, 1) := by decide +kernel
theorem dX16_constantType_42 : decode cX16_constantType 42 = .ok (.getfield 221, 3) := by decide +kernel
theorem dX16_constantType_45 : decode cX16_constantType 45 = .ok (.iload_n 1, 1) := by decide +kernel
theorem dX16_constantType_46 : decode cX16_constantType 46 = .ok (.iconst 1, 1) := by decide +kernel
theorem dX16_constantType_47 : decode cX16_constantType 47 = .ok (.iadd, 1) := by decide +kernel
theorem dX16_constantType_48 : decode cX16_constantType 48 = .ok (.invokevirtual 261, 3) := by decide +kernel
theorem dX16_constantType_51 : decode cX16_constantType 51 = .ok (.ireturn, 1) := by decide +kernel
theorem dX16_constantType_52 : decode cX16_constantType 52 = .ok (.iload_n 2, 1) := by decide +kernel
theorem dX16_constantType_53 : decode cX16_constantType 53 = .ok (.sipush 210, 3) := by decide +kernel
theorem dX16_constantType_56 : decode cX16_constantType 56 = .ok (.if_icmp .ne 6, 3) := by decide +kernel
theorem dX16_constantType_59 : decode cX16_constantType 59 = .ok (.bipush 112, 2) := by decide +kernel
theorem dX16_constantType_61 : decode cX16_constantType 61 = .ok (.ireturn, 1) := by decide +kernel
theorem dX16_constantType_62 : decode cX16_constantType 62 = .ok (.iload_n 2, 1) := by decide +kernel
theorem dX16_constantType_63 : decode cX16_constantType 63 = .ok (.bipush 35, 2) := by decide +kernel
theorem dX16_constantType_65 : decode cX16_constantType 65 = .ok (.if_icmp .eq 5, 3) := by decide +kernel
theorem dX16_constantType_68 : decode cX16_constantType 68 = .ok (.iconst 0, 1) := by decide +kernel
theorem dX16_constantType_69 : decode cX16_constantType 69 = .ok (.ireturn, 1) := by decide +kernel
theorem dX16_constantType_70 : decode cX16_constantType 70 = .ok (.aload_n 0, 1) := by decide +kernel
theorem dX16_constantType_71 : decode cX16_constantType 71 = .ok (.invokevirtual 603, 3) := by decide +kernel
theorem dX16_constantType_74 : decode cX16_constantType 74 = .ok (.lstore_n 3, 1) := by decide +kernel
theorem dX16_constantType_75 : decode cX16_constantType 75 = .ok (.lload_n 3, 1) := by decide +kernel
theorem dX16_constantType_76 : decode cX16_constantType 76 = .ok (.aload_n 0, 1) := by decide +kernel
theorem dX16_constantType_77 : decode cX16_constantType 77 = .ok (.getfield 221, 3) := by decide +kernel
theorem dX16_constantType_80 : decode cX16_constantType 80 = .ok (.iconst 3, 1) := by decide +kernel
theorem dX16_constantType_81 : decode cX16_constantType 81 = .ok (.invokevirtual 664, 3) := by decide +kernel
theorem dX16_constantType_84 : decode cX16_constantType 84 = .ok (.i2l, 1) := by decide +kernel
theorem dX16_constantType_85 : decode cX16_constantType 85 = .ok (.lcmp, 1) := by decide +kernel
theorem dX16_constantType_86 : decode cX16_constantType 86 = .ok (.ifCond .ge 27, 3) := by decide +kernel
theorem dX16_constantType_89 : decode cX16_constantType 89 = .ok (.aload_n 0, 1) := by decide +kernel
theorem dX16_constantType_90 : decode cX16_constantType 90 = .ok (.getfield 221, 3) := by decide +kernel
theorem dX16_constantType_93 : decode cX16_constantType 93 = .ok (.lload_n 3, 1) := by decide +kernel
theorem dX16_constantType_94 : decode cX16_constantType 94 = .ok (.l2i, 1) := by decide +kernel
theorem dX16_constantType_95 : decode cX16_constantType 95 = .ok (.invokevirtual 667, 3) := by decide +kernel
theorem dX16_constantType_98 : decode cX16_constantType 98 = .ok (.ifCond .ne 15, 3) := by decide +kernel
theorem dX16_constantType_101 : decode cX16_constantType 101 = .ok (.aload_n 0, 1) := by decide +kernel
theorem dX16_constantType_102 : decode cX16_constantType 102 = .ok (.getfield 221, 3) := by decide +kernel
theorem dX16_constantType_105 : decode cX16_constantType 105 = .ok (.lload_n 3, 1) := by decide +kernel
theorem dX16_constantType_106 : decode cX16_constantType 106 = .ok (.l2i, 1) := by decide +kernel
theorem dX16_constantType_107 : decode cX16_constantType 107 = .ok (.invokevirtual 670, 3) := by decide +kernel
theorem dX16_constantType_110 : decode cX16_constantType 110 = .ok (.goto 4, 3) := by decide +kernel
theorem dX16_constantType_113 : decode cX16_constantType 113 = .ok (.iconst 0, 1) := by decide +kernel
theorem dX16_constantType_114 : decode cX16_constantType 114 = .ok (.ireturn, 1) := by decide +kernel
noncomputable def fX16_constantType_b34 (h : pm_H) (x0 : Nat) (x1 : Int32) (x2 : Int32) : Option (Int32 × pm_H) := if x2 = 208 then (if pm_kd h x0 = 16 then (pm_R h x0 10).bind fun v30 => if pm_kd h v30 = 14 then (fX14_at h v30 (x1 + 1)).bind fun v33 => some ((v33, h)) else none else none) else (if x2 = 210 then (some ((112, h))) else (if x2 = 35 then (if pm_kd h x0 = 16 then (fX16_word h x0).bind fun v15 => if pm_kd v15.2 x0 = 16 then (pm_R v15.2 x0 10).bind fun v18 => if pm_kd v15.2 v18 = 14 then (fX14_imported v15.2 v18 3).bind fun v21 => if v21.toInt64 ≤ v15.1 then (some ((0, v15.2))) else ((fX14_globalMoves v15.2 v18 v15.1.toInt32).bind fun v24 => if v24 = 0 then ((fX14_typeOfGlobal v15.2 v18 v15.1.toInt32).bind fun v27 => some ((v27, v15.2))) else (some ((0, v15.2)))) else none else none else none) else (some ((0, h)))))
noncomputable def fX16_constantType (h : pm_H) (a0 : Nat) (p1 : Int32) : Option (Int32 × pm_H) := if pm_kd h a0 = 16 then (pm_R h a0 10).bind fun v2 => if pm_kd h v2 = 14 then (fX14_at h v2 p1).bind fun v5 => pm_let (p1 + 1) fun y7 => if v5 < 65 then (fX16_constantType_b34 (pm_setI h a0 19 y7) a0 p1 v5) else (if 68 < v5 then (fX16_constantType_b34 (pm_setI h a0 19 y7) a0 p1 v5) else (some ((192 - v5, pm_setI h a0 19 y7)))) else none else none
set_option maxHeartbeats 4000000 in
set_option maxRecDepth 100000 in
theorem bX16_constantType_34 {g : pm_Gm} {l : Launch} {G : pm_Gl} {Qr : Option Value → pm_H → Prop} (C : pm_C g cX16_constantType RX16) (X : pm_X g l G mX16_constantType 0 0 Qr) {h : pm_H} {x0 : Nat} {x1 : Int32} {x2 : Int32} {r : (Int32 × pm_H)} (hf : fX16_constantType_b34 h x0 x1 x2 = some r) (q : Qr (some (.int r.1)) r.2) : pm_G g 34 [(0, .ref x0), (1, .int x1), (2, .int x2)] [] h 0 0 := by
  unfold fX16_constantType_b34 at hf
  refine pm_iload_n C dX16_constantType_34 rfl rfl ?_
  refine pm_sipush (v := 208) C dX16_constantType_35 (by decide) ?_
  refine pm_icmp_ne (tgt := 52) C dX16_constantType_38 (by decide) (fun c11 => ?_) (fun c11 => ?_)
  · have hf := pm_ie hf c11
    refine pm_iload_n C dX16_constantType_52 rfl rfl ?_
    refine pm_sipush (v := 210) C dX16_constantType_53 (by decide) ?_
    refine pm_icmp_ne (tgt := 62) C dX16_constantType_56 (by decide) (fun c12 => ?_) (fun c12 => ?_)
    · have hf := pm_ie hf c12
      refine pm_iload_n C dX16_constantType_62 rfl rfl ?_
      refine pm_bipush (v := 35) C dX16_constantType_63 (by decide) ?_
      refine pm_icmp_eq (tgt := 70) C dX16_constantType_65 (by decide) (fun c13 => ?_) (fun c13 => ?_)
      · have hf := pm_it hf c13
        refine pm_aload_n C dX16_constantType_70 rfl rfl ?_
        obtain ⟨k14, hf⟩ := pm_if hf
        obtain ⟨v15, e16, hf⟩ := pm_bd hf
        refine pm_callV (as := []) (st := []) C X dX16_constantType_71 lnX16_603 myX16_word viX16_word ⟨by decide, by decide⟩ rfl rfl k14 (Nat.le_of_ble_eq_true rfl) (Nat.le_refl _) (Nat.le_refl _) (ctX16_word e16 ?_)
        show pm_G g 74 [(0, .ref x0), (1, .int x1), (2, .int x2)] [.long v15.1] v15.2 0 0
        refine pm_lstore_n (lv' := [(3, .long v15.1), (0, .ref x0), (1, .int x1), (2, .int x2)]) C dX16_constantType_74 rfl (pm_nl X (by decide)) rfl ?_
        refine pm_lload_n C dX16_constantType_75 rfl rfl ?_
        refine pm_aload_n C dX16_constantType_76 rfl rfl ?_
        obtain ⟨k17, hf⟩ := pm_if hf
        obtain ⟨v18, e19, hf⟩ := pm_bd hf
        refine pm_getR C dX16_constantType_77 flX16_221 rfl k17 e19 ?_
        refine pm_iconst (v := 3) C dX16_constantType_80 (by decide) ?_
        obtain ⟨k20, hf⟩ := pm_if hf
        obtain ⟨v21, e22, hf⟩ := pm_bd hf
        refine pm_callV (as := [.int 3]) (st := [.long v15.1]) C X dX16_constantType_81 lnX16_664 myX14_imported viX14_imported ⟨by decide, by decide⟩ rfl rfl k20 (Nat.le_of_ble_eq_true rfl) (Nat.le_refl _) (Nat.le_refl _) (ctX14_imported e22 ?_)
        show pm_G g 84 [(3, .long v15.1), (0, .ref x0), (1, .int x1), (2, .int x2)] [.int v21, .long v15.1] v15.2 0 0
        refine pm_i2l C dX16_constantType_84 ?_
        refine pm_lcmp C dX16_constantType_85 ?_
        refine pm_if_ge (tgt := 113) C dX16_constantType_86 (by decide) (fun c23 => ?_) (fun c23 => ?_)
        · have hf := pm_it hf ((pm_lg_ge _ _).mp c23)
          refine pm_iconst (v := 0) C dX16_constantType_113 (by decide) ?_
          cases hf
          exact pm_iret C X dX16_constantType_114 rfl (Nat.le_refl _) (Nat.le_refl _) q
        · have hf := pm_ie hf ((fun z => c23 ((pm_lg_ge _ _).mpr z)))
          refine pm_aload_n C dX16_constantType_89 rfl rfl ?_
          refine pm_getR C dX16_constantType_90 flX16_221 rfl k17 e19 ?_
          refine pm_lload_n C dX16_constantType_93 rfl rfl ?_
          refine pm_l2i C dX16_constantType_94 ?_
          obtain ⟨v24, e25, hf⟩ := pm_bd hf
          refine pm_callV (as := [.int v15.1.toInt32]) (st := []) C X dX16_constantType_95 lnX16_667 myX14_globalMoves viX14_globalMoves ⟨by decide, by decide⟩ rfl rfl k20 (Nat.le_of_ble_eq_true rfl) (Nat.le_refl _) (Nat.le_refl _) (ctX14_globalMoves e25 ?_)
          show pm_G g 98 [(3, .long v15.1), (0, .ref x0), (1, .int x1), (2, .int x2)] [.int v24] v15.2 0 0
          refine pm_if_ne (tgt := 113) C dX16_constantType_98 (by decide) (fun c26 => ?_) (fun c26 => ?_)
          · have hf := pm_ie hf c26
            refine pm_iconst (v := 0) C dX16_constantType_113 (by decide) ?_
            cases hf
            exact pm_iret C X dX16_constantType_114 rfl (Nat.le_refl _) (Nat.le_refl _) q
          · have hf := pm_it hf c26
            refine pm_aload_n C dX16_constantType_101 rfl rfl ?_
            refine pm_getR C dX16_constantType_102 flX16_221 rfl k17 e19 ?_
            refine pm_lload_n C dX16_constantType_105 rfl rfl ?_
            refine pm_l2i C dX16_constantType_106 ?_
            obtain ⟨v27, e28, hf⟩ := pm_bd hf
            refine pm_callV (as := [.int v15.1.toInt32]) (st := []) C X dX16_constantType_107 lnX16_670 myX14_typeOfGlobal viX14_typeOfGlobal ⟨by decide, by decide⟩ rfl rfl k20 (Nat.le_of_ble_eq_true rfl) (Nat.le_refl _) (Nat.le_refl _) (ctX14_typeOfGlobal e28 ?_)
            show pm_G g 110 [(3, .long v15.1), (0, .ref x0), (1, .int x1), (2, .int x2)] [.int v27] v15.2 0 0
            refine pm_goto (tgt := 114) C dX16_constantType_110 (by decide) ?_
            cases hf
            exact pm_iret C X dX16_constantType_114 rfl (Nat.le_refl _) (Nat.le_refl _) q
      · have hf := pm_ie hf c13
        refine pm_iconst (v := 0) C dX16_constantType_68 (by decide) ?_
        cases hf
        exact pm_iret C X dX16_constantType_69 rfl (Nat.le_refl _) (Nat.le_refl _) q
    · have hf := pm_it hf c12
      refine pm_bipush (v := 112) C dX16_constantType_59 (by decide) ?_
      cases hf
      exact pm_iret C X dX16_constantType_61 rfl (Nat.le_refl _) (Nat.le_refl _) q
  · have hf := pm_it hf c11
    refine pm_aload_n C dX16_constantType_41 rfl rfl ?_
    obtain ⟨k29, hf⟩ := pm_if hf
    obtain ⟨v30, e31, hf⟩ := pm_bd hf
    refine pm_getR C dX16_constantType_42 flX16_221 rfl k29 e31 ?_
    refine pm_iload_n C dX16_constantType_45 rfl rfl ?_
    refine pm_iconst (v := 1) C dX16_constantType_46 (by decide) ?_
    refine pm_iadd C dX16_constantType_47 ?_
    obtain ⟨k32, hf⟩ := pm_if hf
    obtain ⟨v33, e34, hf⟩ := pm_bd hf
    refine pm_callV (as := [.int (x1 + 1)]) (st := []) C X dX16_constantType_48 lnX16_261 myX14_at viX14_at ⟨by decide, by decide⟩ rfl rfl k32 (Nat.le_of_ble_eq_true rfl) (Nat.le_refl _) (Nat.le_refl _) (ctX14_at e34 ?_)
    show pm_G g 51 [(0, .ref x0), (1, .int x1), (2, .int x2)] [.int v33] h 0 0
    cases hf
    exact pm_iret C X dX16_constantType_51 rfl (Nat.le_refl _) (Nat.le_refl _) q
set_option maxHeartbeats 4000000 in
set_option maxRecDepth 100000 in
theorem ctX16_constantType {l : Launch} {G : pm_Gl} {h : pm_H} {a0 : Nat} {p1 : Int32} {r : (Int32 × pm_H)} {Qr : Option Value → pm_H → Prop} (hf : fX16_constantType h a0 p1 = some r) (q : Qr (some (.int r.1)) r.2) : pm_Ct l G mX16_constantType [.ref a0, .int p1] h 0 0 Qr := by
  refine pm_body pnX16 (Nat.le_of_ble_eq_true rfl) (fun g C X => ?_)
  have C : pm_C g cX16_constantType RX16 := C
  show pm_G g 0 [(0, .ref a0), (1, .int p1)] [] h 0 0
  unfold fX16_constantType at hf
  refine pm_aload_n C dX16_constantType_0 rfl rfl ?_
  obtain ⟨k1, hf⟩ := pm_if hf
  obtain ⟨v2, e3, hf⟩ := pm_bd hf
  refine pm_getR C dX16_constantType_1 flX16_221 rfl k1 e3 ?_
  refine pm_iload_n C dX16_constantType_4 rfl rfl ?_
  obtain ⟨k4, hf⟩ := pm_if hf
  obtain ⟨v5, e6, hf⟩ := pm_bd hf
  refine pm_callV (as := [.int p1]) (st := []) C X dX16_constantType_5 lnX16_261 myX14_at viX14_at ⟨by decide, by decide⟩ rfl rfl k4 (Nat.le_of_ble_eq_true rfl) (Nat.le_refl _) (Nat.le_refl _) (ctX14_at e6 ?_)
  show pm_G g 8 [(0, .ref a0), (1, .int p1)] [.int v5] h 0 0
  refine pm_istore_n (lv' := [(2, .int v5), (0, .ref a0), (1, .int p1)]) C dX16_constantType_8 rfl (pm_nl X (by decide)) rfl ?_
  refine pm_aload_n C dX16_constantType_9 rfl rfl ?_
  refine pm_iload_n C dX16_constantType_10 rfl rfl ?_
  refine pm_iconst (v := 1) C dX16_constantType_11 (by decide) ?_
  refine pm_iadd C dX16_constantType_12 ?_
  obtain ⟨y7, e8, hf⟩ := pm_lt hf
  refine pm_topI e8 ?_
  refine pm_putI C dX16_constantType_13 flX16_594 rfl rfl k1 rfl rfl ?_
  refine pm_iload_n C dX16_constantType_16 rfl rfl ?_
  refine pm_bipush (v := 65) C dX16_constantType_17 (by decide) ?_
  refine pm_icmp_lt (tgt := 34) C dX16_constantType_19 (by decide) (fun c9 => ?_) (fun c9 => ?_)
  · have hf := pm_it hf c9
    exact pm_sub [1, 2, 0] rfl (bX16_constantType_34 C X hf q)
  · have hf := pm_ie hf c9
    refine pm_iload_n C dX16_constantType_22 rfl rfl ?_
    refine pm_bipush (v := 68) C dX16_constantType_23 (by decide) ?_
    refine pm_icmp_gt (tgt := 34) C dX16_constantType_25 (by decide) (fun c10 => ?_) (fun c10 => ?_)
    · have hf := pm_it hf c10
      exact pm_sub [1, 2, 0] rfl (bX16_constantType_34 C X hf q)
    · have hf := pm_ie hf c10
      refine pm_sipush (v := 192) C dX16_constantType_28 (by decide) ?_
      refine pm_iload_n C dX16_constantType_31 rfl rfl ?_
      refine pm_isub C dX16_constantType_32 ?_
      cases hf
      exact pm_iret C X dX16_constantType_33 rfl (Nat.le_refl _) (Nat.le_refl _) q
