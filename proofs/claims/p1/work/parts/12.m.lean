theorem dX2_isBranch_0 : decode cX2_isBranch 0 = .ok (.iload_n 0, 1) := by decide +kernel
theorem dX2_isBranch_1 : decode cX2_isBranch 1 = .ok (.iconst 4, 1) := by decide +kernel
theorem dX2_isBranch_2 : decode cX2_isBranch 2 = .ok (.if_icmp .eq 20, 3) := by decide +kernel
theorem dX2_isBranch_5 : decode cX2_isBranch 5 = .ok (.iload_n 0, 1) := by decide +kernel
theorem dX2_isBranch_6 : decode cX2_isBranch 6 = .ok (.iconst 5, 1) := by decide +kernel
theorem dX2_isBranch_7 : decode cX2_isBranch 7 = .ok (.if_icmp .eq 15, 3) := by decide +kernel
theorem dX2_isBranch_10 : decode cX2_isBranch 10 = .ok (.iload_n 0, 1) := by decide +kernel
theorem dX2_isBranch_11 : decode cX2_isBranch 11 = .ok (.bipush 12, 2) := by decide +kernel
theorem dX2_isBranch_13 : decode cX2_isBranch 13 = .ok (.if_icmp .eq 9, 3) := by decide +kernel
theorem dX2_isBranch_16 : decode cX2_isBranch 16 = .ok (.iload_n 0, 1) := by decide +kernel
theorem dX2_isBranch_17 : decode cX2_isBranch 17 = .ok (.bipush 13, 2) := by decide +kernel
theorem dX2_isBranch_19 : decode cX2_isBranch 19 = .ok (.if_icmp .ne 7, 3) := by decide +kernel
theorem dX2_isBranch_22 : decode cX2_isBranch 22 = .ok (.iconst 1, 1) := by decide +kernel
theorem dX2_isBranch_23 : decode cX2_isBranch 23 = .ok (.goto 4, 3) := by decide +kernel
theorem dX2_isBranch_26 : decode cX2_isBranch 26 = .ok (.iconst 0, 1) := by decide +kernel
theorem dX2_isBranch_27 : decode cX2_isBranch 27 = .ok (.ireturn, 1) := by decide +kernel
def fX2_isBranch (p1 : Int32) : Int32 := if p1 = 4 then (1) else (if p1 = 5 then (1) else (if p1 = 12 then (1) else (if p1 = 13 then (1) else (0))))
set_option maxHeartbeats 4000000 in
set_option maxRecDepth 100000 in
theorem ctX2_isBranch {l : Launch} {G : pm_Gl} {h : pm_H} {p1 : Int32} {r : Int32} {Qr : Option Value → pm_H → Prop} (hf : fX2_isBranch p1 = r) (q : Qr (some (.int r)) h) : pm_Ct l G mX2_isBranch [.int p1] h 0 0 Qr := by
  refine pm_body pnX2 (Nat.le_of_ble_eq_true rfl) (fun g C X => ?_)
  have C : pm_C g cX2_isBranch RX2 := C
  show pm_G g 0 [(0, .int p1)] [] h 0 0
  unfold fX2_isBranch at hf
  refine pm_iload_n C dX2_isBranch_0 rfl rfl ?_
  refine pm_iconst (v := 4) C dX2_isBranch_1 (by decide) ?_
  refine pm_icmp_eq (tgt := 22) C dX2_isBranch_2 (by decide) (fun c1 => ?_) (fun c1 => ?_)
  · have hf := pm_it hf c1
    refine pm_iconst (v := 1) C dX2_isBranch_22 (by decide) ?_
    refine pm_goto (tgt := 27) C dX2_isBranch_23 (by decide) ?_
    subst hf
    exact pm_zret C X dX2_isBranch_27 rfl (by decide) (Nat.le_refl _) (Nat.le_refl _) q
  · have hf := pm_ie hf c1
    refine pm_iload_n C dX2_isBranch_5 rfl rfl ?_
    refine pm_iconst (v := 5) C dX2_isBranch_6 (by decide) ?_
    refine pm_icmp_eq (tgt := 22) C dX2_isBranch_7 (by decide) (fun c2 => ?_) (fun c2 => ?_)
    · have hf := pm_it hf c2
      refine pm_iconst (v := 1) C dX2_isBranch_22 (by decide) ?_
      refine pm_goto (tgt := 27) C dX2_isBranch_23 (by decide) ?_
      subst hf
      exact pm_zret C X dX2_isBranch_27 rfl (by decide) (Nat.le_refl _) (Nat.le_refl _) q
    · have hf := pm_ie hf c2
      refine pm_iload_n C dX2_isBranch_10 rfl rfl ?_
      refine pm_bipush (v := 12) C dX2_isBranch_11 (by decide) ?_
      refine pm_icmp_eq (tgt := 22) C dX2_isBranch_13 (by decide) (fun c3 => ?_) (fun c3 => ?_)
      · have hf := pm_it hf c3
        refine pm_iconst (v := 1) C dX2_isBranch_22 (by decide) ?_
        refine pm_goto (tgt := 27) C dX2_isBranch_23 (by decide) ?_
        subst hf
        exact pm_zret C X dX2_isBranch_27 rfl (by decide) (Nat.le_refl _) (Nat.le_refl _) q
      · have hf := pm_ie hf c3
        refine pm_iload_n C dX2_isBranch_16 rfl rfl ?_
        refine pm_bipush (v := 13) C dX2_isBranch_17 (by decide) ?_
        refine pm_icmp_ne (tgt := 26) C dX2_isBranch_19 (by decide) (fun c4 => ?_) (fun c4 => ?_)
        · have hf := pm_ie hf c4
          refine pm_iconst (v := 0) C dX2_isBranch_26 (by decide) ?_
          subst hf
          exact pm_zret C X dX2_isBranch_27 rfl (by decide) (Nat.le_refl _) (Nat.le_refl _) q
        · have hf := pm_it hf c4
          refine pm_iconst (v := 1) C dX2_isBranch_22 (by decide) ?_
          refine pm_goto (tgt := 27) C dX2_isBranch_23 (by decide) ?_
          subst hf
          exact pm_zret C X dX2_isBranch_27 rfl (by decide) (Nat.le_refl _) (Nat.le_refl _) q
theorem dX2_markTargets_0 : decode cX2_markTargets 0 = .ok (.iconst 0, 1) := by decide +kernel
theorem dX2_markTargets_1 : decode cX2_markTargets 1 = .ok (.istore_n 1, 1) := by decide +kernel
theorem dX2_markTargets_2 : decode cX2_markTargets 2 = .ok (.iload_n 1, 1) := by decide +kernel
theorem dX2_markTargets_3 : decode cX2_markTargets 3 = .ok (.aload_n 0, 1) := by decide +kernel
theorem dX2_markTargets_4 : decode cX2_markTargets 4 = .ok (.getfield 34, 3) := by decide +kernel
theorem dX2_markTargets_7 : decode cX2_markTargets 7 = .ok (.getfield 44, 3) := by decide +kernel
theorem dX2_markTargets_10 : decode cX2_markTargets 10 = .ok (.if_icmp .ge 54, 3) := by decide +kernel
theorem dX2_markTargets_13 : decode cX2_markTargets 13 = .ok (.aload_n 0, 1) := by decide +kernel
theorem dX2_markTargets_14 : decode cX2_markTargets 14 = .ok (.getfield 34, 3) := by decide +kernel
theorem dX2_markTargets_17 : decode cX2_markTargets 17 = .ok (.iload_n 1, 1) := by decide +kernel
theorem dX2_markTargets_18 : decode cX2_markTargets 18 = .ok (.iconst 1, 1) := by decide +kernel
theorem dX2_markTargets_19 : decode cX2_markTargets 19 = .ok (.invokevirtual 89, 3) := by decide +kernel
theorem dX2_markTargets_22 : decode cX2_markTargets 22 = .ok (.istore_n 2, 1) := by decide +kernel
theorem dX2_markTargets_23 : decode cX2_markTargets 23 = .ok (.aload_n 0, 1) := by decide +kernel
theorem dX2_markTargets_24 : decode cX2_markTargets 24 = .ok (.getfield 34, 3) := by decide +kernel
theorem dX2_markTargets_27 : decode cX2_markTargets 27 = .ok (.iload_n 1, 1) := by decide +kernel
theorem dX2_markTargets_28 : decode cX2_markTargets 28 = .ok (.iconst 0, 1) := by decide +kernel
theorem dX2_markTargets_29 : decode cX2_markTargets 29 = .ok (.invokevirtual 89, 3) := by decide +kernel
theorem dX2_markTargets_32 : decode cX2_markTargets 32 = .ok (.invokestatic 93, 3) := by decide +kernel
theorem dX2_markTargets_35 : decode cX2_markTargets 35 = .ok (.ifCond .eq 23, 3) := by decide +kernel
theorem dX2_markTargets_38 : decode cX2_markTargets 38 = .ok (.iload_n 2, 1) := by decide +kernel
theorem dX2_markTargets_39 : decode cX2_markTargets 39 = .ok (.ifCond .lt 19, 3) := by decide +kernel
theorem dX2_markTargets_42 : decode cX2_markTargets 42 = .ok (.iload_n 2, 1) := by decide +kernel
theorem dX2_markTargets_43 : decode cX2_markTargets 43 = .ok (.aload_n 0, 1) := by decide +kernel
theorem dX2_markTargets_44 : decode cX2_markTargets 44 = .ok (.getfield 27, 3) := by decide +kernel
theorem dX2_markTargets_47 : decode cX2_markTargets 47 = .ok (.arraylength, 1) := by decide +kernel
theorem dX2_markTargets_48 : decode cX2_markTargets 48 = .ok (.if_icmp .ge 10, 3) := by decide +kernel
theorem dX2_markTargets_51 : decode cX2_markTargets 51 = .ok (.aload_n 0, 1) := by decide +kernel
theorem dX2_markTargets_52 : decode cX2_markTargets 52 = .ok (.getfield 27, 3) := by decide +kernel
theorem dX2_markTargets_55 : decode cX2_markTargets 55 = .ok (.iload_n 2, 1) := by decide +kernel
theorem dX2_markTargets_56 : decode cX2_markTargets 56 = .ok (.iconst 1, 1) := by decide +kernel
theorem dX2_markTargets_57 : decode cX2_markTargets 57 = .ok (.bastore, 1) := by decide +kernel
theorem dX2_markTargets_58 : decode cX2_markTargets 58 = .ok (.iinc 1 1, 3) := by decide +kernel
theorem dX2_markTargets_61 : decode cX2_markTargets 61 = .ok (.goto (-59), 3) := by decide +kernel
theorem dX2_markTargets_64 : decode cX2_markTargets 64 = .ok (.return_, 1) := by decide +kernel
def tX2_markTargets_2 (x0 : Nat) (x1 : Int32) (h : pm_H) : Option (((Nat × Int32 × pm_H)) ⊕ pm_H) := if pm_kd h x0 = 2 then (pm_R h x0 1).bind fun v2 => if pm_kd h v2 = 0 then if (pm_I h v2 2) ≤ x1 then (some (.inr (h))) else ((fX0_of h v2 x1 1).bind fun v6 => (fX0_of h v2 x1 0).bind fun v8 => pm_let (fX2_isBranch v8) fun v10 => if v10 = 0 then (pm_let (x1 + 1) fun y13 => some (.inl ((x0, y13, h)))) else (if v6 < 0 then (pm_let (x1 + 1) fun y16 => some (.inl ((x0, y16, h)))) else ((pm_R h x0 9).bind fun v18 => if pm_kd h v18 = 32 then if (Int32.ofNat (pm_ln h v18)) ≤ v6 then (pm_let (x1 + 1) fun y22 => some (.inl ((x0, y22, h)))) else (if pm_in v6 (pm_ln h v18) then pm_let (x1 + 1) fun y25 => some (.inl ((x0, y25, pm_setI h v18 v6.toNatClampNeg (vp_nar .boolean 1)))) else none) else none))) else none else none
def sX2_markTargets : ((Nat × Int32 × pm_H)) → Option (((Nat × Int32 × pm_H)) ⊕ pm_H) := fun z => match z with
  | (x0, x1, h) => tX2_markTargets_2 x0 x1 h
noncomputable def fX2_markTargets (h : pm_H) (a0 : Nat) : Option pm_H := pm_lim sX2_markTargets ((a0, 0, h))
set_option maxHeartbeats 4000000 in
set_option maxRecDepth 100000 in
theorem lpX2_markTargets {g : pm_Gm} {l : Launch} {G : pm_Gl} {Qr : Option Value → pm_H → Prop} (C : pm_C g cX2_markTargets RX2) (X : pm_X g l G mX2_markTargets 0 0 Qr) {r : pm_H} (q : Qr none r) : ∀ n : Nat, (∀ (x0 : Nat) (x1 : Int32) (h : pm_H), pm_iter sX2_markTargets n (x0, x1, h) = some r → pm_G g 2 [(0, .ref x0), (1, .int x1)] [] h 0 0) := by
  intro n
  induction n with
  | zero => exact fun _ _ _ hf => (by cases hf)
  | succ n ih =>
    refine fun x0 x1 h hf => ?_
    obtain ⟨y, hf, hi⟩ := pm_iter_s hf
    have hf : tX2_markTargets_2 x0 x1 h = some y := hf
    unfold tX2_markTargets_2 at hf
    refine pm_iload_n C dX2_markTargets_2 rfl rfl ?_
    refine pm_aload_n C dX2_markTargets_3 rfl rfl ?_
    obtain ⟨k1, hf⟩ := pm_if hf
    obtain ⟨v2, e3, hf⟩ := pm_bd hf
    refine pm_getR C dX2_markTargets_4 flX2_34 rfl k1 e3 ?_
    obtain ⟨k4, hf⟩ := pm_if hf
    refine pm_getI C dX2_markTargets_7 flX2_44 rfl k4 rfl ?_
    refine pm_icmp_ge (tgt := 64) C dX2_markTargets_10 (by decide) (fun c5 => ?_) (fun c5 => ?_)
    · have hf := pm_it hf c5
      cases hf
      cases hi
      exact pm_vret C X dX2_markTargets_64 rfl (Nat.le_refl _) (Nat.le_refl _) q
    · have hf := pm_ie hf c5
      refine pm_aload_n C dX2_markTargets_13 rfl rfl ?_
      refine pm_getR C dX2_markTargets_14 flX2_34 rfl k1 e3 ?_
      refine pm_iload_n C dX2_markTargets_17 rfl rfl ?_
      refine pm_iconst (v := 1) C dX2_markTargets_18 (by decide) ?_
      obtain ⟨v6, e7, hf⟩ := pm_bd hf
      refine pm_callV (as := [.int x1, .int 1]) (st := []) C X dX2_markTargets_19 lnX2_89 myX0_of viX0_of ⟨by decide, by decide⟩ rfl rfl k4 (Nat.le_of_ble_eq_true rfl) (Nat.le_refl _) (Nat.le_refl _) (ctX0_of e7 ?_)
      show pm_G g 22 [(0, .ref x0), (1, .int x1)] [.int v6] h 0 0
      refine pm_istore_n (lv' := [(2, .int v6), (0, .ref x0), (1, .int x1)]) C dX2_markTargets_22 rfl (pm_nl X (by decide)) rfl ?_
      refine pm_aload_n C dX2_markTargets_23 rfl rfl ?_
      refine pm_getR C dX2_markTargets_24 flX2_34 rfl k1 e3 ?_
      refine pm_iload_n C dX2_markTargets_27 rfl rfl ?_
      refine pm_iconst (v := 0) C dX2_markTargets_28 (by decide) ?_
      obtain ⟨v8, e9, hf⟩ := pm_bd hf
      refine pm_callV (as := [.int x1, .int 0]) (st := []) C X dX2_markTargets_29 lnX2_89 myX0_of viX0_of ⟨by decide, by decide⟩ rfl rfl k4 (Nat.le_of_ble_eq_true rfl) (Nat.le_refl _) (Nat.le_refl _) (ctX0_of e9 ?_)
      show pm_G g 32 [(2, .int v6), (0, .ref x0), (1, .int x1)] [.int v8] h 0 0
      obtain ⟨v10, e11, hf⟩ := pm_lt hf
      refine pm_callS (as := [.int v8]) (st := []) C X dX2_markTargets_32 lnX2_93 myX2_isBranch stX2_isBranch ⟨by decide, by decide⟩ rfl rfl (Nat.le_of_ble_eq_true rfl) (Nat.le_refl _) (Nat.le_refl _) (ctX2_isBranch e11 ?_)
      show pm_G g 35 [(2, .int v6), (0, .ref x0), (1, .int x1)] [.int v10] h 0 0
      refine pm_if_eq (tgt := 58) C dX2_markTargets_35 (by decide) (fun c12 => ?_) (fun c12 => ?_)
      · have hf := pm_it hf c12
        obtain ⟨y13, e14, hf⟩ := pm_lt hf
        refine pm_iinc (v := y13) (lv' := [(1, .int y13), (2, .int v6), (0, .ref x0)]) C dX2_markTargets_58 rfl ((congrArg (x1 + ·) (by decide : Int32.ofInt 1 = 1)).trans e14) (pm_nl X (by decide)) rfl ?_
        refine pm_goto (tgt := 2) C dX2_markTargets_61 (by decide) ?_
        cases hf
        exact pm_sub [2, 0] rfl (ih x0 y13 h hi)
      · have hf := pm_ie hf c12
        refine pm_iload_n C dX2_markTargets_38 rfl rfl ?_
        refine pm_if_lt (tgt := 58) C dX2_markTargets_39 (by decide) (fun c15 => ?_) (fun c15 => ?_)
        · have hf := pm_it hf c15
          obtain ⟨y16, e17, hf⟩ := pm_lt hf
          refine pm_iinc (v := y16) (lv' := [(1, .int y16), (2, .int v6), (0, .ref x0)]) C dX2_markTargets_58 rfl ((congrArg (x1 + ·) (by decide : Int32.ofInt 1 = 1)).trans e17) (pm_nl X (by decide)) rfl ?_
          refine pm_goto (tgt := 2) C dX2_markTargets_61 (by decide) ?_
          cases hf
          exact pm_sub [2, 0] rfl (ih x0 y16 h hi)
        · have hf := pm_ie hf c15
          refine pm_iload_n C dX2_markTargets_42 rfl rfl ?_
          refine pm_aload_n C dX2_markTargets_43 rfl rfl ?_
          obtain ⟨v18, e19, hf⟩ := pm_bd hf
          refine pm_getR C dX2_markTargets_44 flX2_27 rfl k1 e19 ?_
          obtain ⟨k20, hf⟩ := pm_if hf
          refine pm_alen (t := 0) C dX2_markTargets_47 (by decide) k20 rfl ?_
          refine pm_icmp_ge (tgt := 58) C dX2_markTargets_48 (by decide) (fun c21 => ?_) (fun c21 => ?_)
          · have hf := pm_it hf c21
            obtain ⟨y22, e23, hf⟩ := pm_lt hf
            refine pm_iinc (v := y22) (lv' := [(1, .int y22), (2, .int v6), (0, .ref x0)]) C dX2_markTargets_58 rfl ((congrArg (x1 + ·) (by decide : Int32.ofInt 1 = 1)).trans e23) (pm_nl X (by decide)) rfl ?_
            refine pm_goto (tgt := 2) C dX2_markTargets_61 (by decide) ?_
            cases hf
            exact pm_sub [2, 0] rfl (ih x0 y22 h hi)
          · have hf := pm_ie hf c21
            refine pm_aload_n C dX2_markTargets_51 rfl rfl ?_
            refine pm_getR C dX2_markTargets_52 flX2_27 rfl k1 e19 ?_
            refine pm_iload_n C dX2_markTargets_55 rfl rfl ?_
            refine pm_iconst (v := 1) C dX2_markTargets_56 (by decide) ?_
            obtain ⟨u24, hf⟩ := pm_if hf
            refine pm_zast C dX2_markTargets_57 k20 u24 ?_
            obtain ⟨y25, e26, hf⟩ := pm_lt hf
            refine pm_iinc (v := y25) (lv' := [(1, .int y25), (2, .int v6), (0, .ref x0)]) C dX2_markTargets_58 rfl ((congrArg (x1 + ·) (by decide : Int32.ofInt 1 = 1)).trans e26) (pm_nl X (by decide)) rfl ?_
            refine pm_goto (tgt := 2) C dX2_markTargets_61 (by decide) ?_
            cases hf
            exact pm_sub [2, 0] rfl (ih x0 y25 (pm_setI h v18 v6.toNatClampNeg (vp_nar .boolean 1)) hi)
set_option maxHeartbeats 4000000 in
set_option maxRecDepth 100000 in
theorem ctX2_markTargets {l : Launch} {G : pm_Gl} {h : pm_H} {a0 : Nat} {r : pm_H} {Qr : Option Value → pm_H → Prop} (hf : fX2_markTargets h a0 = some r) (q : Qr none r) : pm_Ct l G mX2_markTargets [.ref a0] h 0 0 Qr := by
  refine pm_body pnX2 (Nat.le_of_ble_eq_true rfl) (fun g C X => ?_)
  have C : pm_C g cX2_markTargets RX2 := C
  show pm_G g 0 [(0, .ref a0)] [] h 0 0
  unfold fX2_markTargets at hf
  refine pm_iconst (v := 0) C dX2_markTargets_0 (by decide) ?_
  refine pm_istore_n (lv' := [(1, .int 0), (0, .ref a0)]) C dX2_markTargets_1 rfl (pm_nl X (by decide)) rfl ?_
  obtain ⟨n, hn⟩ := pm_lim_iter hf
  exact pm_sub [1, 0] rfl ((lpX2_markTargets C X q n) a0 0 h hn)
theorem dX2_ownUnseen_0 : decode cX2_ownUnseen 0 = .ok (.iconst 0, 1) := by decide +kernel
theorem dX2_ownUnseen_1 : decode cX2_ownUnseen 1 = .ok (.istore_n 2, 1) := by decide +kernel
theorem dX2_ownUnseen_2 : decode cX2_ownUnseen 2 = .ok (.iload_n 2, 1) := by decide +kernel
theorem dX2_ownUnseen_3 : decode cX2_ownUnseen 3 = .ok (.iload_n 1, 1) := by decide +kernel
theorem dX2_ownUnseen_4 : decode cX2_ownUnseen 4 = .ok (.if_icmp .ge 30, 3) := by decide +kernel
theorem dX2_ownUnseen_7 : decode cX2_ownUnseen 7 = .ok (.iload_n 2, 1) := by decide +kernel
theorem dX2_ownUnseen_8 : decode cX2_ownUnseen 8 = .ok (.aload_n 0, 1) := by decide +kernel
theorem dX2_ownUnseen_9 : decode cX2_ownUnseen 9 = .ok (.getfield 31, 3) := by decide +kernel
theorem dX2_ownUnseen_12 : decode cX2_ownUnseen 12 = .ok (.arraylength, 1) := by decide +kernel
theorem dX2_ownUnseen_13 : decode cX2_ownUnseen 13 = .ok (.if_icmp .ge 21, 3) := by decide +kernel
theorem dX2_ownUnseen_16 : decode cX2_ownUnseen 16 = .ok (.aload_n 0, 1) := by decide +kernel
theorem dX2_ownUnseen_17 : decode cX2_ownUnseen 17 = .ok (.getfield 31, 3) := by decide +kernel
theorem dX2_ownUnseen_20 : decode cX2_ownUnseen 20 = .ok (.iload_n 2, 1) := by decide +kernel
theorem dX2_ownUnseen_21 : decode cX2_ownUnseen 21 = .ok (.aload_n 0, 1) := by decide +kernel
theorem dX2_ownUnseen_22 : decode cX2_ownUnseen 22 = .ok (.getfield 50, 3) := by decide +kernel
theorem dX2_ownUnseen_25 : decode cX2_ownUnseen 25 = .ok (.iload_n 2, 1) := by decide +kernel
theorem dX2_ownUnseen_26 : decode cX2_ownUnseen 26 = .ok (.iadd, 1) := by decide +kernel
theorem dX2_ownUnseen_27 : decode cX2_ownUnseen 27 = .ok (.iastore, 1) := by decide +kernel
theorem dX2_ownUnseen_28 : decode cX2_ownUnseen 28 = .ok (.iinc 2 1, 3) := by decide +kernel
theorem dX2_ownUnseen_31 : decode cX2_ownUnseen 31 = .ok (.goto (-29), 3) := by decide +kernel
theorem dX2_ownUnseen_34 : decode cX2_ownUnseen 34 = .ok (.aload_n 0, 1) := by decide +kernel
theorem dX2_ownUnseen_35 : decode cX2_ownUnseen 35 = .ok (.iconst 0, 1) := by decide +kernel
theorem dX2_ownUnseen_36 : decode cX2_ownUnseen 36 = .ok (.putfield 57, 3) := by decide +kernel
theorem dX2_ownUnseen_39 : decode cX2_ownUnseen 39 = .ok (.aload_n 0, 1) := by decide +kernel
theorem dX2_ownUnseen_40 : decode cX2_ownUnseen 40 = .ok (.iconst 1, 1) := by decide +kernel
theorem dX2_ownUnseen_41 : decode cX2_ownUnseen 41 = .ok (.putfield 63, 3) := by decide +kernel
theorem dX2_ownUnseen_44 : decode cX2_ownUnseen 44 = .ok (.return_, 1) := by decide +kernel
def tX2_ownUnseen_2 (x0 : Nat) (x1 : Int32) (x2 : Int32) (h : pm_H) : Option (((Nat × Int32 × Int32 × pm_H)) ⊕ pm_H) := if x1 ≤ x2 then (if pm_kd h x0 = 2 then some (.inr (pm_setI (pm_setI h x0 11 0) x0 12 1)) else none) else (if pm_kd h x0 = 2 then (pm_R h x0 10).bind fun v4 => if pm_kd h v4 = 34 then if (Int32.ofNat (pm_ln h v4)) ≤ x2 then (some (.inr (pm_setI (pm_setI h x0 11 0) x0 12 1))) else (pm_let ((pm_I h x0 2) + x2) fun y8 => if pm_in x2 (pm_ln h v4) then pm_let (x2 + 1) fun y11 => some (.inl ((x0, x1, y11, pm_setI h v4 x2.toNatClampNeg y8))) else none) else none else none)
def sX2_ownUnseen : ((Nat × Int32 × Int32 × pm_H)) → Option (((Nat × Int32 × Int32 × pm_H)) ⊕ pm_H) := fun z => match z with
  | (x0, x1, x2, h) => tX2_ownUnseen_2 x0 x1 x2 h
noncomputable def fX2_ownUnseen (h : pm_H) (a0 : Nat) (p1 : Int32) : Option pm_H := pm_lim sX2_ownUnseen ((a0, p1, 0, h))
set_option maxHeartbeats 4000000 in
set_option maxRecDepth 100000 in
theorem lpX2_ownUnseen {g : pm_Gm} {l : Launch} {G : pm_Gl} {Qr : Option Value → pm_H → Prop} (C : pm_C g cX2_ownUnseen RX2) (X : pm_X g l G mX2_ownUnseen 0 0 Qr) {r : pm_H} (q : Qr none r) : ∀ n : Nat, (∀ (x0 : Nat) (x1 : Int32) (x2 : Int32) (h : pm_H), pm_iter sX2_ownUnseen n (x0, x1, x2, h) = some r → pm_G g 2 [(0, .ref x0), (1, .int x1), (2, .int x2)] [] h 0 0) := by
  intro n
  induction n with
  | zero => exact fun _ _ _ _ hf => (by cases hf)
  | succ n ih =>
    refine fun x0 x1 x2 h hf => ?_
    obtain ⟨y, hf, hi⟩ := pm_iter_s hf
    have hf : tX2_ownUnseen_2 x0 x1 x2 h = some y := hf
    unfold tX2_ownUnseen_2 at hf
    refine pm_iload_n C dX2_ownUnseen_2 rfl rfl ?_
    refine pm_iload_n C dX2_ownUnseen_3 rfl rfl ?_
    refine pm_icmp_ge (tgt := 34) C dX2_ownUnseen_4 (by decide) (fun c1 => ?_) (fun c1 => ?_)
    · have hf := pm_it hf c1
      refine pm_aload_n C dX2_ownUnseen_34 rfl rfl ?_
      refine pm_iconst (v := 0) C dX2_ownUnseen_35 (by decide) ?_
      obtain ⟨k2, hf⟩ := pm_if hf
      refine pm_putI C dX2_ownUnseen_36 flX2_57 rfl rfl k2 rfl rfl ?_
      refine pm_aload_n C dX2_ownUnseen_39 rfl rfl ?_
      refine pm_iconst (v := 1) C dX2_ownUnseen_40 (by decide) ?_
      refine pm_putI C dX2_ownUnseen_41 flX2_63 rfl rfl k2 (by decide) (by decide) ?_
      cases hf
      cases hi
      exact pm_vret C X dX2_ownUnseen_44 rfl (Nat.le_refl _) (Nat.le_refl _) q
    · have hf := pm_ie hf c1
      refine pm_iload_n C dX2_ownUnseen_7 rfl rfl ?_
      refine pm_aload_n C dX2_ownUnseen_8 rfl rfl ?_
      obtain ⟨k3, hf⟩ := pm_if hf
      obtain ⟨v4, e5, hf⟩ := pm_bd hf
      refine pm_getR C dX2_ownUnseen_9 flX2_31 rfl k3 e5 ?_
      obtain ⟨k6, hf⟩ := pm_if hf
      refine pm_alen (t := 2) C dX2_ownUnseen_12 (by decide) k6 rfl ?_
      refine pm_icmp_ge (tgt := 34) C dX2_ownUnseen_13 (by decide) (fun c7 => ?_) (fun c7 => ?_)
      · have hf := pm_it hf c7
        refine pm_aload_n C dX2_ownUnseen_34 rfl rfl ?_
        refine pm_iconst (v := 0) C dX2_ownUnseen_35 (by decide) ?_
        refine pm_putI C dX2_ownUnseen_36 flX2_57 rfl rfl k3 rfl rfl ?_
        refine pm_aload_n C dX2_ownUnseen_39 rfl rfl ?_
        refine pm_iconst (v := 1) C dX2_ownUnseen_40 (by decide) ?_
        refine pm_putI C dX2_ownUnseen_41 flX2_63 rfl rfl k3 (by decide) (by decide) ?_
        cases hf
        cases hi
        exact pm_vret C X dX2_ownUnseen_44 rfl (Nat.le_refl _) (Nat.le_refl _) q
      · have hf := pm_ie hf c7
        refine pm_aload_n C dX2_ownUnseen_16 rfl rfl ?_
        refine pm_getR C dX2_ownUnseen_17 flX2_31 rfl k3 e5 ?_
        refine pm_iload_n C dX2_ownUnseen_20 rfl rfl ?_
        refine pm_aload_n C dX2_ownUnseen_21 rfl rfl ?_
        refine pm_getI C dX2_ownUnseen_22 flX2_50 rfl k3 rfl ?_
        refine pm_iload_n C dX2_ownUnseen_25 rfl rfl ?_
        refine pm_iadd C dX2_ownUnseen_26 ?_
        obtain ⟨y8, e9, hf⟩ := pm_lt hf
        refine pm_topI e9 ?_
        obtain ⟨u10, hf⟩ := pm_if hf
        refine pm_iast C dX2_ownUnseen_27 k6 u10 ?_
        obtain ⟨y11, e12, hf⟩ := pm_lt hf
        refine pm_iinc (v := y11) (lv' := [(2, .int y11), (0, .ref x0), (1, .int x1)]) C dX2_ownUnseen_28 rfl ((congrArg (x2 + ·) (by decide : Int32.ofInt 1 = 1)).trans e12) (pm_nl X (by decide)) rfl ?_
        refine pm_goto (tgt := 2) C dX2_ownUnseen_31 (by decide) ?_
        cases hf
        exact pm_sub [1, 2, 0] rfl (ih x0 x1 y11 (pm_setI h v4 x2.toNatClampNeg y8) hi)
set_option maxHeartbeats 4000000 in
set_option maxRecDepth 100000 in
theorem ctX2_ownUnseen {l : Launch} {G : pm_Gl} {h : pm_H} {a0 : Nat} {p1 : Int32} {r : pm_H} {Qr : Option Value → pm_H → Prop} (hf : fX2_ownUnseen h a0 p1 = some r) (q : Qr none r) : pm_Ct l G mX2_ownUnseen [.ref a0, .int p1] h 0 0 Qr := by
  refine pm_body pnX2 (Nat.le_of_ble_eq_true rfl) (fun g C X => ?_)
  have C : pm_C g cX2_ownUnseen RX2 := C
  show pm_G g 0 [(0, .ref a0), (1, .int p1)] [] h 0 0
  unfold fX2_ownUnseen at hf
  refine pm_iconst (v := 0) C dX2_ownUnseen_0 (by decide) ?_
  refine pm_istore_n (lv' := [(2, .int 0), (0, .ref a0), (1, .int p1)]) C dX2_ownUnseen_1 rfl (pm_nl X (by decide)) rfl ?_
  obtain ⟨n, hn⟩ := pm_lim_iter hf
  exact pm_sub [1, 2, 0] rfl ((lpX2_ownUnseen C X q n) a0 p1 0 h hn)
theorem dX2_ownedFor_0 : decode cX2_ownedFor 0 = .ok (.iload_n 0, 1) := by decide +kernel
theorem dX2_ownedFor_1 : decode cX2_ownedFor 1 = .ok (.iconst 4, 1) := by decide +kernel
theorem dX2_ownedFor_2 : decode cX2_ownedFor 2 = .ok (.if_icmp .eq 21, 3) := by decide +kernel
theorem dX2_ownedFor_5 : decode cX2_ownedFor 5 = .ok (.iload_n 0, 1) := by decide +kernel
theorem dX2_ownedFor_6 : decode cX2_ownedFor 6 = .ok (.bipush 13, 2) := by decide +kernel
theorem dX2_ownedFor_8 : decode cX2_ownedFor 8 = .ok (.if_icmp .eq 15, 3) := by decide +kernel
theorem dX2_ownedFor_11 : decode cX2_ownedFor 11 = .ok (.iload_n 0, 1) := by decide +kernel
theorem dX2_ownedFor_12 : decode cX2_ownedFor 12 = .ok (.bipush 14, 2) := by decide +kernel
theorem dX2_ownedFor_14 : decode cX2_ownedFor 14 = .ok (.if_icmp .eq 9, 3) := by decide +kernel
theorem dX2_ownedFor_17 : decode cX2_ownedFor 17 = .ok (.iload_n 0, 1) := by decide +kernel
theorem dX2_ownedFor_18 : decode cX2_ownedFor 18 = .ok (.bipush 17, 2) := by decide +kernel
theorem dX2_ownedFor_20 : decode cX2_ownedFor 20 = .ok (.if_icmp .ne 7, 3) := by decide +kernel
theorem dX2_ownedFor_23 : decode cX2_ownedFor 23 = .ok (.iload_n 1, 1) := by decide +kernel
theorem dX2_ownedFor_24 : decode cX2_ownedFor 24 = .ok (.iconst 1, 1) := by decide +kernel
theorem dX2_ownedFor_25 : decode cX2_ownedFor 25 = .ok (.isub, 1) := by decide +kernel
theorem dX2_ownedFor_26 : decode cX2_ownedFor 26 = .ok (.ireturn, 1) := by decide +kernel
theorem dX2_ownedFor_27 : decode cX2_ownedFor 27 = .ok (.iload_n 0, 1) := by decide +kernel
theorem dX2_ownedFor_28 : decode cX2_ownedFor 28 = .ok (.iconst 5, 1) := by decide +kernel
theorem dX2_ownedFor_29 : decode cX2_ownedFor 29 = .ok (.if_icmp .eq 21, 3) := by decide +kernel
theorem dX2_ownedFor_32 : decode cX2_ownedFor 32 = .ok (.iload_n 0, 1) := by decide +kernel
theorem dX2_ownedFor_33 : decode cX2_ownedFor 33 = .ok (.bipush 11, 2) := by decide +kernel
theorem dX2_ownedFor_35 : decode cX2_ownedFor 35 = .ok (.if_icmp .eq 15, 3) := by decide +kernel
theorem dX2_ownedFor_38 : decode cX2_ownedFor 38 = .ok (.iload_n 0, 1) := by decide +kernel
theorem dX2_ownedFor_39 : decode cX2_ownedFor 39 = .ok (.bipush 12, 2) := by decide +kernel
theorem dX2_ownedFor_41 : decode cX2_ownedFor 41 = .ok (.if_icmp .eq 9, 3) := by decide +kernel
theorem dX2_ownedFor_44 : decode cX2_ownedFor 44 = .ok (.iload_n 0, 1) := by decide +kernel
theorem dX2_ownedFor_45 : decode cX2_ownedFor 45 = .ok (.bipush 16, 2) := by decide +kernel
theorem dX2_ownedFor_47 : decode cX2_ownedFor 47 = .ok (.if_icmp .ne 7, 3) := by decide +kernel
theorem dX2_ownedFor_50 : decode cX2_ownedFor 50 = .ok (.iload_n 1, 1) := by decide +kernel
theorem dX2_ownedFor_51 : decode cX2_ownedFor 51 = .ok (.goto 4, 3) := by decide +kernel
theorem dX2_ownedFor_54 : decode cX2_ownedFor 54 = .ok (.iconst 0, 1) := by decide +kernel
theorem dX2_ownedFor_55 : decode cX2_ownedFor 55 = .ok (.ireturn, 1) := by decide +kernel
def fX2_ownedFor (p1 : Int32) (p2 : Int32) : Int32 := if p1 = 4 then (p2 - 1) else (if p1 = 13 then (p2 - 1) else (if p1 = 14 then (p2 - 1) else (if p1 = 17 then (p2 - 1) else (if p1 = 5 then (p2) else (if p1 = 11 then (p2) else (if p1 = 12 then (p2) else (if p1 = 16 then (p2) else (0))))))))
set_option maxHeartbeats 4000000 in
set_option maxRecDepth 100000 in
theorem ctX2_ownedFor {l : Launch} {G : pm_Gl} {h : pm_H} {p1 : Int32} {p2 : Int32} {r : Int32} {Qr : Option Value → pm_H → Prop} (hf : fX2_ownedFor p1 p2 = r) (q : Qr (some (.int r)) h) : pm_Ct l G mX2_ownedFor [.int p1, .int p2] h 0 0 Qr := by
  refine pm_body pnX2 (Nat.le_of_ble_eq_true rfl) (fun g C X => ?_)
  have C : pm_C g cX2_ownedFor RX2 := C
  show pm_G g 0 [(0, .int p1), (1, .int p2)] [] h 0 0
  unfold fX2_ownedFor at hf
  refine pm_iload_n C dX2_ownedFor_0 rfl rfl ?_
  refine pm_iconst (v := 4) C dX2_ownedFor_1 (by decide) ?_
  refine pm_icmp_eq (tgt := 23) C dX2_ownedFor_2 (by decide) (fun c1 => ?_) (fun c1 => ?_)
  · have hf := pm_it hf c1
    refine pm_iload_n C dX2_ownedFor_23 rfl rfl ?_
    refine pm_iconst (v := 1) C dX2_ownedFor_24 (by decide) ?_
    refine pm_isub C dX2_ownedFor_25 ?_
    subst hf
    exact pm_iret C X dX2_ownedFor_26 rfl (Nat.le_refl _) (Nat.le_refl _) q
  · have hf := pm_ie hf c1
    refine pm_iload_n C dX2_ownedFor_5 rfl rfl ?_
    refine pm_bipush (v := 13) C dX2_ownedFor_6 (by decide) ?_
    refine pm_icmp_eq (tgt := 23) C dX2_ownedFor_8 (by decide) (fun c2 => ?_) (fun c2 => ?_)
    · have hf := pm_it hf c2
      refine pm_iload_n C dX2_ownedFor_23 rfl rfl ?_
      refine pm_iconst (v := 1) C dX2_ownedFor_24 (by decide) ?_
      refine pm_isub C dX2_ownedFor_25 ?_
      subst hf
      exact pm_iret C X dX2_ownedFor_26 rfl (Nat.le_refl _) (Nat.le_refl _) q
    · have hf := pm_ie hf c2
      refine pm_iload_n C dX2_ownedFor_11 rfl rfl ?_
      refine pm_bipush (v := 14) C dX2_ownedFor_12 (by decide) ?_
      refine pm_icmp_eq (tgt := 23) C dX2_ownedFor_14 (by decide) (fun c3 => ?_) (fun c3 => ?_)
      · have hf := pm_it hf c3
        refine pm_iload_n C dX2_ownedFor_23 rfl rfl ?_
        refine pm_iconst (v := 1) C dX2_ownedFor_24 (by decide) ?_
        refine pm_isub C dX2_ownedFor_25 ?_
        subst hf
        exact pm_iret C X dX2_ownedFor_26 rfl (Nat.le_refl _) (Nat.le_refl _) q
      · have hf := pm_ie hf c3
        refine pm_iload_n C dX2_ownedFor_17 rfl rfl ?_
        refine pm_bipush (v := 17) C dX2_ownedFor_18 (by decide) ?_
        refine pm_icmp_ne (tgt := 27) C dX2_ownedFor_20 (by decide) (fun c4 => ?_) (fun c4 => ?_)
        · have hf := pm_ie hf c4
          refine pm_iload_n C dX2_ownedFor_27 rfl rfl ?_
          refine pm_iconst (v := 5) C dX2_ownedFor_28 (by decide) ?_
          refine pm_icmp_eq (tgt := 50) C dX2_ownedFor_29 (by decide) (fun c5 => ?_) (fun c5 => ?_)
          · have hf := pm_it hf c5
            refine pm_iload_n C dX2_ownedFor_50 rfl rfl ?_
            refine pm_goto (tgt := 55) C dX2_ownedFor_51 (by decide) ?_
            subst hf
            exact pm_iret C X dX2_ownedFor_55 rfl (Nat.le_refl _) (Nat.le_refl _) q
          · have hf := pm_ie hf c5
            refine pm_iload_n C dX2_ownedFor_32 rfl rfl ?_
            refine pm_bipush (v := 11) C dX2_ownedFor_33 (by decide) ?_
            refine pm_icmp_eq (tgt := 50) C dX2_ownedFor_35 (by decide) (fun c6 => ?_) (fun c6 => ?_)
            · have hf := pm_it hf c6
              refine pm_iload_n C dX2_ownedFor_50 rfl rfl ?_
              refine pm_goto (tgt := 55) C dX2_ownedFor_51 (by decide) ?_
              subst hf
              exact pm_iret C X dX2_ownedFor_55 rfl (Nat.le_refl _) (Nat.le_refl _) q
            · have hf := pm_ie hf c6
              refine pm_iload_n C dX2_ownedFor_38 rfl rfl ?_
              refine pm_bipush (v := 12) C dX2_ownedFor_39 (by decide) ?_
              refine pm_icmp_eq (tgt := 50) C dX2_ownedFor_41 (by decide) (fun c7 => ?_) (fun c7 => ?_)
              · have hf := pm_it hf c7
                refine pm_iload_n C dX2_ownedFor_50 rfl rfl ?_
                refine pm_goto (tgt := 55) C dX2_ownedFor_51 (by decide) ?_
                subst hf
                exact pm_iret C X dX2_ownedFor_55 rfl (Nat.le_refl _) (Nat.le_refl _) q
              · have hf := pm_ie hf c7
                refine pm_iload_n C dX2_ownedFor_44 rfl rfl ?_
                refine pm_bipush (v := 16) C dX2_ownedFor_45 (by decide) ?_
                refine pm_icmp_ne (tgt := 54) C dX2_ownedFor_47 (by decide) (fun c8 => ?_) (fun c8 => ?_)
                · have hf := pm_ie hf c8
                  refine pm_iconst (v := 0) C dX2_ownedFor_54 (by decide) ?_
                  subst hf
                  exact pm_iret C X dX2_ownedFor_55 rfl (Nat.le_refl _) (Nat.le_refl _) q
                · have hf := pm_it hf c8
                  refine pm_iload_n C dX2_ownedFor_50 rfl rfl ?_
                  refine pm_goto (tgt := 55) C dX2_ownedFor_51 (by decide) ?_
                  subst hf
                  exact pm_iret C X dX2_ownedFor_55 rfl (Nat.le_refl _) (Nat.le_refl _) q
        · have hf := pm_it hf c4
          refine pm_iload_n C dX2_ownedFor_23 rfl rfl ?_
          refine pm_iconst (v := 1) C dX2_ownedFor_24 (by decide) ?_
          refine pm_isub C dX2_ownedFor_25 ?_
          subst hf
          exact pm_iret C X dX2_ownedFor_26 rfl (Nat.le_refl _) (Nat.le_refl _) q
theorem dX4_numbers_0 : decode cX4_numbers 0 = .ok (.iload_n 1, 1) := by decide +kernel
theorem dX4_numbers_1 : decode cX4_numbers 1 = .ok (.ifCond .ne 10, 3) := by decide +kernel
theorem dX4_numbers_4 : decode cX4_numbers 4 = .ok (.aload_n 0, 1) := by decide +kernel
theorem dX4_numbers_5 : decode cX4_numbers 5 = .ok (.getfield 19, 3) := by decide +kernel
theorem dX4_numbers_8 : decode cX4_numbers 8 = .ok (.goto 31, 3) := by decide +kernel
theorem dX4_numbers_11 : decode cX4_numbers 11 = .ok (.iload_n 1, 1) := by decide +kernel
theorem dX4_numbers_12 : decode cX4_numbers 12 = .ok (.iconst 1, 1) := by decide +kernel
theorem dX4_numbers_13 : decode cX4_numbers 13 = .ok (.if_icmp .ne 10, 3) := by decide +kernel
theorem dX4_numbers_16 : decode cX4_numbers 16 = .ok (.aload_n 0, 1) := by decide +kernel
theorem dX4_numbers_17 : decode cX4_numbers 17 = .ok (.getfield 23, 3) := by decide +kernel
theorem dX4_numbers_20 : decode cX4_numbers 20 = .ok (.goto 19, 3) := by decide +kernel
theorem dX4_numbers_23 : decode cX4_numbers 23 = .ok (.iload_n 1, 1) := by decide +kernel
theorem dX4_numbers_24 : decode cX4_numbers 24 = .ok (.iconst 2, 1) := by decide +kernel
theorem dX4_numbers_25 : decode cX4_numbers 25 = .ok (.if_icmp .ne 10, 3) := by decide +kernel
theorem dX4_numbers_28 : decode cX4_numbers 28 = .ok (.aload_n 0, 1) := by decide +kernel
theorem dX4_numbers_29 : decode cX4_numbers 29 = .ok (.getfield 26, 3) := by decide +kernel
theorem dX4_numbers_32 : decode cX4_numbers 32 = .ok (.goto 7, 3) := by decide +kernel
theorem dX4_numbers_35 : decode cX4_numbers 35 = .ok (.aload_n 0, 1) := by decide +kernel
theorem dX4_numbers_36 : decode cX4_numbers 36 = .ok (.getfield 29, 3) := by decide +kernel
theorem dX4_numbers_39 : decode cX4_numbers 39 = .ok (.areturn, 1) := by decide +kernel
def fX4_numbers (h : pm_H) (a0 : Nat) (p1 : Int32) : Option Nat := if p1 = 0 then (if pm_kd h a0 = 4 then (pm_R h a0 1).bind fun v14 => some v14 else none) else (if p1 = 1 then (if pm_kd h a0 = 4 then (pm_R h a0 2).bind fun v11 => some v11 else none) else (if p1 = 2 then (if pm_kd h a0 = 4 then (pm_R h a0 3).bind fun v8 => some v8 else none) else (if pm_kd h a0 = 4 then (pm_R h a0 4).bind fun v5 => some v5 else none)))
set_option maxHeartbeats 4000000 in
set_option maxRecDepth 100000 in
theorem ctX4_numbers {l : Launch} {G : pm_Gl} {h : pm_H} {a0 : Nat} {p1 : Int32} {r : Nat} {Qr : Option Value → pm_H → Prop} (hf : fX4_numbers h a0 p1 = some r) (q : Qr (some (.ref r)) h) : pm_Ct l G mX4_numbers [.ref a0, .int p1] h 0 0 Qr := by
  refine pm_body pnX4 (Nat.le_of_ble_eq_true rfl) (fun g C X => ?_)
  have C : pm_C g cX4_numbers RX4 := C
  show pm_G g 0 [(0, .ref a0), (1, .int p1)] [] h 0 0
  unfold fX4_numbers at hf
  refine pm_iload_n C dX4_numbers_0 rfl rfl ?_
  refine pm_if_ne (tgt := 11) C dX4_numbers_1 (by decide) (fun c1 => ?_) (fun c1 => ?_)
  · have hf := pm_ie hf c1
    refine pm_iload_n C dX4_numbers_11 rfl rfl ?_
    refine pm_iconst (v := 1) C dX4_numbers_12 (by decide) ?_
    refine pm_icmp_ne (tgt := 23) C dX4_numbers_13 (by decide) (fun c2 => ?_) (fun c2 => ?_)
    · have hf := pm_ie hf c2
      refine pm_iload_n C dX4_numbers_23 rfl rfl ?_
      refine pm_iconst (v := 2) C dX4_numbers_24 (by decide) ?_
      refine pm_icmp_ne (tgt := 35) C dX4_numbers_25 (by decide) (fun c3 => ?_) (fun c3 => ?_)
      · have hf := pm_ie hf c3
        refine pm_aload_n C dX4_numbers_35 rfl rfl ?_
        obtain ⟨k4, hf⟩ := pm_if hf
        obtain ⟨v5, e6, hf⟩ := pm_bd hf
        refine pm_getR C dX4_numbers_36 flX4_29 rfl k4 e6 ?_
        cases hf
        exact pm_aret C X dX4_numbers_39 rfl (Or.inr ⟨_, rfl⟩) (Nat.le_refl _) (Nat.le_refl _) q
      · have hf := pm_it hf c3
        refine pm_aload_n C dX4_numbers_28 rfl rfl ?_
        obtain ⟨k7, hf⟩ := pm_if hf
        obtain ⟨v8, e9, hf⟩ := pm_bd hf
        refine pm_getR C dX4_numbers_29 flX4_26 rfl k7 e9 ?_
        refine pm_goto (tgt := 39) C dX4_numbers_32 (by decide) ?_
        cases hf
        exact pm_aret C X dX4_numbers_39 rfl (Or.inr ⟨_, rfl⟩) (Nat.le_refl _) (Nat.le_refl _) q
    · have hf := pm_it hf c2
      refine pm_aload_n C dX4_numbers_16 rfl rfl ?_
      obtain ⟨k10, hf⟩ := pm_if hf
      obtain ⟨v11, e12, hf⟩ := pm_bd hf
      refine pm_getR C dX4_numbers_17 flX4_23 rfl k10 e12 ?_
      refine pm_goto (tgt := 39) C dX4_numbers_20 (by decide) ?_
      cases hf
      exact pm_aret C X dX4_numbers_39 rfl (Or.inr ⟨_, rfl⟩) (Nat.le_refl _) (Nat.le_refl _) q
  · have hf := pm_it hf c1
    refine pm_aload_n C dX4_numbers_4 rfl rfl ?_
    obtain ⟨k13, hf⟩ := pm_if hf
    obtain ⟨v14, e15, hf⟩ := pm_bd hf
    refine pm_getR C dX4_numbers_5 flX4_19 rfl k13 e15 ?_
    refine pm_goto (tgt := 39) C dX4_numbers_8 (by decide) ?_
    cases hf
    exact pm_aret C X dX4_numbers_39 rfl (Or.inr ⟨_, rfl⟩) (Nat.le_refl _) (Nat.le_refl _) q
theorem dX5_chooseCode_0 : decode cX5_chooseCode 0 = .ok (.aload_n 0, 1) := by decide +kernel
theorem dX5_chooseCode_1 : decode cX5_chooseCode 1 = .ok (.getfield 51, 3) := by decide +kernel
theorem dX5_chooseCode_4 : decode cX5_chooseCode 4 = .ok (.iconst 0, 1) := by decide +kernel
theorem dX5_chooseCode_5 : decode cX5_chooseCode 5 = .ok (.putfield 145, 3) := by decide +kernel
theorem dX5_chooseCode_8 : decode cX5_chooseCode 8 = .ok (.aload_n 0, 1) := by decide +kernel
theorem dX5_chooseCode_9 : decode cX5_chooseCode 9 = .ok (.getfield 51, 3) := by decide +kernel
theorem dX5_chooseCode_12 : decode cX5_chooseCode 12 = .ok (.aload_n 0, 1) := by decide +kernel
theorem dX5_chooseCode_13 : decode cX5_chooseCode 13 = .ok (.getfield 51, 3) := by decide +kernel
theorem dX5_chooseCode_16 : decode cX5_chooseCode 16 = .ok (.getfield 121, 3) := by decide +kernel
theorem dX5_chooseCode_19 : decode cX5_chooseCode 19 = .ok (.ifCond .eq 21, 3) := by decide +kernel
theorem dX5_chooseCode_22 : decode cX5_chooseCode 22 = .ok (.aload_n 0, 1) := by decide +kernel
theorem dX5_chooseCode_23 : decode cX5_chooseCode 23 = .ok (.getfield 51, 3) := by decide +kernel
theorem dX5_chooseCode_26 : decode cX5_chooseCode 26 = .ok (.getfield 148, 3) := by decide +kernel
theorem dX5_chooseCode_29 : decode cX5_chooseCode 29 = .ok (.getfield 167, 3) := by decide +kernel
theorem dX5_chooseCode_32 : decode cX5_chooseCode 32 = .ok (.arraylength, 1) := by decide +kernel
theorem dX5_chooseCode_33 : decode cX5_chooseCode 33 = .ok (.ifCond .le 7, 3) := by decide +kernel
theorem dX5_chooseCode_36 : decode cX5_chooseCode 36 = .ok (.iconst 1, 1) := by decide +kernel
theorem dX5_chooseCode_37 : decode cX5_chooseCode 37 = .ok (.goto 4, 3) := by decide +kernel
theorem dX5_chooseCode_40 : decode cX5_chooseCode 40 = .ok (.iconst 0, 1) := by decide +kernel
theorem dX5_chooseCode_41 : decode cX5_chooseCode 41 = .ok (.putfield 121, 3) := by decide +kernel
theorem dX5_chooseCode_44 : decode cX5_chooseCode 44 = .ok (.aload_n 0, 1) := by decide +kernel
theorem dX5_chooseCode_45 : decode cX5_chooseCode 45 = .ok (.getfield 51, 3) := by decide +kernel
theorem dX5_chooseCode_48 : decode cX5_chooseCode 48 = .ok (.getfield 121, 3) := by decide +kernel
theorem dX5_chooseCode_51 : decode cX5_chooseCode 51 = .ok (.ifCond .eq 20, 3) := by decide +kernel
theorem dX5_chooseCode_54 : decode cX5_chooseCode 54 = .ok (.aload_n 0, 1) := by decide +kernel
theorem dX5_chooseCode_55 : decode cX5_chooseCode 55 = .ok (.getfield 51, 3) := by decide +kernel
theorem dX5_chooseCode_58 : decode cX5_chooseCode 58 = .ok (.aload_n 0, 1) := by decide +kernel
theorem dX5_chooseCode_59 : decode cX5_chooseCode 59 = .ok (.getfield 51, 3) := by decide +kernel
theorem dX5_chooseCode_62 : decode cX5_chooseCode 62 = .ok (.getfield 148, 3) := by decide +kernel
theorem dX5_chooseCode_65 : decode cX5_chooseCode 65 = .ok (.getfield 167, 3) := by decide +kernel
theorem dX5_chooseCode_68 : decode cX5_chooseCode 68 = .ok (.putfield 131, 3) := by decide +kernel
theorem dX5_chooseCode_71 : decode cX5_chooseCode 71 = .ok (.return_, 1) := by decide +kernel
def fX5_chooseCode_b40 (h : pm_H) (x0 : Nat) (s0 : Nat) : Option pm_H := if pm_kd h s0 = 3 then if pm_kd (pm_setI h s0 7 0) x0 = 5 then (pm_R (pm_setI h s0 7 0) x0 12).bind fun v16 => if pm_kd (pm_setI h s0 7 0) v16 = 3 then if (pm_I (pm_setI h s0 7 0) v16 7) = 0 then (some (pm_setI h s0 7 0)) else ((pm_R (pm_setI h s0 7 0) v16 1).bind fun v20 => if pm_kd (pm_setI h s0 7 0) v20 = 0 then (pm_R (pm_setI h s0 7 0) v20 7).bind fun v23 => some (pm_setR (pm_setI h s0 7 0) v16 2 (some v23)) else none) else none else none else none
def fX5_chooseCode (h : pm_H) (a0 : Nat) : Option pm_H := if pm_kd h a0 = 5 then (pm_R h a0 12).bind fun v2 => if pm_kd h v2 = 3 then if (pm_I (pm_setI h v2 6 0) v2 7) = 0 then (fX5_chooseCode_b40 (pm_setI h v2 6 0) a0 v2) else ((pm_R (pm_setI h v2 6 0) v2 1).bind fun v6 => if pm_kd (pm_setI h v2 6 0) v6 = 0 then (pm_R (pm_setI h v2 6 0) v6 7).bind fun v9 => if pm_kd (pm_setI h v2 6 0) v9 = 34 then if (Int32.ofNat (pm_ln (pm_setI h v2 6 0) v9)) ≤ 0 then (fX5_chooseCode_b40 (pm_setI h v2 6 0) a0 v2) else (if (pm_I (pm_setI (pm_setI h v2 6 0) v2 7 1) v2 7) = 0 then (some (pm_setI (pm_setI h v2 6 0) v2 7 1)) else (some (pm_setR (pm_setI (pm_setI h v2 6 0) v2 7 1) v2 2 (some v9)))) else none else none) else none else none
set_option maxHeartbeats 4000000 in
set_option maxRecDepth 100000 in
theorem bX5_chooseCode_40 {g : pm_Gm} {l : Launch} {G : pm_Gl} {Qr : Option Value → pm_H → Prop} (C : pm_C g cX5_chooseCode RX5) (X : pm_X g l G mX5_chooseCode 0 0 Qr) {h : pm_H} {x0 : Nat} {s0 : Nat} {r : pm_H} (hf : fX5_chooseCode_b40 h x0 s0 = some r) (q : Qr none r) : pm_G g 40 [(0, .ref x0)] [.ref s0] h 0 0 := by
  unfold fX5_chooseCode_b40 at hf
  refine pm_iconst (v := 0) C dX5_chooseCode_40 (by decide) ?_
  obtain ⟨k14, hf⟩ := pm_if hf
  refine pm_putI C dX5_chooseCode_41 flX5_121 rfl rfl k14 (by decide) (by decide) ?_
  refine pm_aload_n C dX5_chooseCode_44 rfl rfl ?_
  obtain ⟨k15, hf⟩ := pm_if hf
  obtain ⟨v16, e17, hf⟩ := pm_bd hf
  refine pm_getR C dX5_chooseCode_45 flX5_51 rfl k15 e17 ?_
  obtain ⟨k18, hf⟩ := pm_if hf
  refine pm_getI C dX5_chooseCode_48 flX5_121 rfl k18 rfl ?_
  refine pm_if_eq (tgt := 71) C dX5_chooseCode_51 (by decide) (fun c19 => ?_) (fun c19 => ?_)
  · have hf := pm_it hf c19
    cases hf
    exact pm_vret C X dX5_chooseCode_71 rfl (Nat.le_refl _) (Nat.le_refl _) q
  · have hf := pm_ie hf c19
    refine pm_aload_n C dX5_chooseCode_54 rfl rfl ?_
    refine pm_getR C dX5_chooseCode_55 flX5_51 rfl k15 e17 ?_
    refine pm_aload_n C dX5_chooseCode_58 rfl rfl ?_
    refine pm_getR C dX5_chooseCode_59 flX5_51 rfl k15 e17 ?_
    obtain ⟨v20, e21, hf⟩ := pm_bd hf
    refine pm_getR C dX5_chooseCode_62 flX5_148 rfl k18 e21 ?_
    obtain ⟨k22, hf⟩ := pm_if hf
    obtain ⟨v23, e24, hf⟩ := pm_bd hf
    refine pm_getR C dX5_chooseCode_65 flX5_167 rfl k22 e24 ?_
    refine pm_putR C dX5_chooseCode_68 flX5_131 rfl rfl k18 ?_
    cases hf
    exact pm_vret C X dX5_chooseCode_71 rfl (Nat.le_refl _) (Nat.le_refl _) q
set_option maxHeartbeats 4000000 in
set_option maxRecDepth 100000 in
theorem ctX5_chooseCode {l : Launch} {G : pm_Gl} {h : pm_H} {a0 : Nat} {r : pm_H} {Qr : Option Value → pm_H → Prop} (hf : fX5_chooseCode h a0 = some r) (q : Qr none r) : pm_Ct l G mX5_chooseCode [.ref a0] h 0 0 Qr := by
  refine pm_body pnX5 (Nat.le_of_ble_eq_true rfl) (fun g C X => ?_)
  have C : pm_C g cX5_chooseCode RX5 := C
  show pm_G g 0 [(0, .ref a0)] [] h 0 0
  unfold fX5_chooseCode at hf
  refine pm_aload_n C dX5_chooseCode_0 rfl rfl ?_
  obtain ⟨k1, hf⟩ := pm_if hf
  obtain ⟨v2, e3, hf⟩ := pm_bd hf
  refine pm_getR C dX5_chooseCode_1 flX5_51 rfl k1 e3 ?_
  refine pm_iconst (v := 0) C dX5_chooseCode_4 (by decide) ?_
  obtain ⟨k4, hf⟩ := pm_if hf
  refine pm_putI C dX5_chooseCode_5 flX5_145 rfl rfl k4 (by decide) (by decide) ?_
  refine pm_aload_n C dX5_chooseCode_8 rfl rfl ?_
  refine pm_getR C dX5_chooseCode_9 flX5_51 rfl k1 e3 ?_
  refine pm_aload_n C dX5_chooseCode_12 rfl rfl ?_
  refine pm_getR C dX5_chooseCode_13 flX5_51 rfl k1 e3 ?_
  refine pm_getI C dX5_chooseCode_16 flX5_121 rfl k4 rfl ?_
  refine pm_if_eq (tgt := 40) C dX5_chooseCode_19 (by decide) (fun c5 => ?_) (fun c5 => ?_)
  · have hf := pm_it hf c5
    exact pm_sub [0] rfl (bX5_chooseCode_40 C X hf q)
  · have hf := pm_ie hf c5
    refine pm_aload_n C dX5_chooseCode_22 rfl rfl ?_
    refine pm_getR C dX5_chooseCode_23 flX5_51 rfl k1 e3 ?_
    obtain ⟨v6, e7, hf⟩ := pm_bd hf
    refine pm_getR C dX5_chooseCode_26 flX5_148 rfl k4 e7 ?_
    obtain ⟨k8, hf⟩ := pm_if hf
    obtain ⟨v9, e10, hf⟩ := pm_bd hf
    refine pm_getR C dX5_chooseCode_29 flX5_167 rfl k8 e10 ?_
    obtain ⟨k11, hf⟩ := pm_if hf
    refine pm_alen (t := 2) C dX5_chooseCode_32 (by decide) k11 rfl ?_
    refine pm_if_le (tgt := 40) C dX5_chooseCode_33 (by decide) (fun c12 => ?_) (fun c12 => ?_)
    · have hf := pm_it hf c12
      exact pm_sub [0] rfl (bX5_chooseCode_40 C X hf q)
    · have hf := pm_ie hf c12
      refine pm_iconst (v := 1) C dX5_chooseCode_36 (by decide) ?_
      refine pm_goto (tgt := 41) C dX5_chooseCode_37 (by decide) ?_
      refine pm_putI C dX5_chooseCode_41 flX5_121 rfl rfl k4 (by decide) (by decide) ?_
      refine pm_aload_n C dX5_chooseCode_44 rfl rfl ?_
      refine pm_getR C dX5_chooseCode_45 flX5_51 rfl k1 e3 ?_
      refine pm_getI C dX5_chooseCode_48 flX5_121 rfl k4 rfl ?_
      refine pm_if_eq (tgt := 71) C dX5_chooseCode_51 (by decide) (fun c13 => ?_) (fun c13 => ?_)
      · have hf := pm_it hf c13
        cases hf
        exact pm_vret C X dX5_chooseCode_71 rfl (Nat.le_refl _) (Nat.le_refl _) q
      · have hf := pm_ie hf c13
        refine pm_aload_n C dX5_chooseCode_54 rfl rfl ?_
        refine pm_getR C dX5_chooseCode_55 flX5_51 rfl k1 e3 ?_
        refine pm_aload_n C dX5_chooseCode_58 rfl rfl ?_
        refine pm_getR C dX5_chooseCode_59 flX5_51 rfl k1 e3 ?_
        refine pm_getR C dX5_chooseCode_62 flX5_148 rfl k4 e7 ?_
        refine pm_getR C dX5_chooseCode_65 flX5_167 rfl k8 e10 ?_
        refine pm_putR C dX5_chooseCode_68 flX5_131 rfl rfl k4 ?_
        cases hf
        exact pm_vret C X dX5_chooseCode_71 rfl (Nat.le_refl _) (Nat.le_refl _) q
theorem dX5_clearFrames_0 : decode cX5_clearFrames 0 = .ok (.aload_n 0, 1) := by decide +kernel
theorem dX5_clearFrames_1 : decode cX5_clearFrames 1 = .ok (.iconst 0, 1) := by decide +kernel
theorem dX5_clearFrames_2 : decode cX5_clearFrames 2 = .ok (.putfield 59, 3) := by decide +kernel
theorem dX5_clearFrames_5 : decode cX5_clearFrames 5 = .ok (.aload_n 0, 1) := by decide +kernel
theorem dX5_clearFrames_6 : decode cX5_clearFrames 6 = .ok (.iconst 0, 1) := by decide +kernel
theorem dX5_clearFrames_7 : decode cX5_clearFrames 7 = .ok (.putfield 62, 3) := by decide +kernel
theorem dX5_clearFrames_10 : decode cX5_clearFrames 10 = .ok (.aload_n 0, 1) := by decide +kernel
theorem dX5_clearFrames_11 : decode cX5_clearFrames 11 = .ok (.iconst 0, 1) := by decide +kernel
theorem dX5_clearFrames_12 : decode cX5_clearFrames 12 = .ok (.putfield 65, 3) := by decide +kernel
theorem dX5_clearFrames_15 : decode cX5_clearFrames 15 = .ok (.return_, 1) := by decide +kernel
def fX5_clearFrames (h : pm_H) (a0 : Nat) : Option pm_H := if pm_kd h a0 = 5 then some (pm_setI (pm_setI (pm_setI h a0 3 0) a0 13 0) a0 14 0) else none
set_option maxHeartbeats 4000000 in
set_option maxRecDepth 100000 in
theorem ctX5_clearFrames {l : Launch} {G : pm_Gl} {h : pm_H} {a0 : Nat} {r : pm_H} {Qr : Option Value → pm_H → Prop} (hf : fX5_clearFrames h a0 = some r) (q : Qr none r) : pm_Ct l G mX5_clearFrames [.ref a0] h 0 0 Qr := by
  refine pm_body pnX5 (Nat.le_of_ble_eq_true rfl) (fun g C X => ?_)
  have C : pm_C g cX5_clearFrames RX5 := C
  show pm_G g 0 [(0, .ref a0)] [] h 0 0
  unfold fX5_clearFrames at hf
  refine pm_aload_n C dX5_clearFrames_0 rfl rfl ?_
  refine pm_iconst (v := 0) C dX5_clearFrames_1 (by decide) ?_
  obtain ⟨k1, hf⟩ := pm_if hf
  refine pm_putI C dX5_clearFrames_2 flX5_59 rfl rfl k1 rfl rfl ?_
  refine pm_aload_n C dX5_clearFrames_5 rfl rfl ?_
  refine pm_iconst (v := 0) C dX5_clearFrames_6 (by decide) ?_
  refine pm_putI C dX5_clearFrames_7 flX5_62 rfl rfl k1 rfl rfl ?_
  refine pm_aload_n C dX5_clearFrames_10 rfl rfl ?_
  refine pm_iconst (v := 0) C dX5_clearFrames_11 (by decide) ?_
  refine pm_putI C dX5_clearFrames_12 flX5_65 rfl rfl k1 rfl rfl ?_
  cases hf
  exact pm_vret C X dX5_clearFrames_15 rfl (Nat.le_refl _) (Nat.le_refl _) q
theorem dX5_isBusy_0 : decode cX5_isBusy 0 = .ok (.aload_n 0, 1) := by decide +kernel
theorem dX5_isBusy_1 : decode cX5_isBusy 1 = .ok (.getfield 55, 3) := by decide +kernel
theorem dX5_isBusy_4 : decode cX5_isBusy 4 = .ok (.iconst 1, 1) := by decide +kernel
theorem dX5_isBusy_5 : decode cX5_isBusy 5 = .ok (.if_icmp .eq 11, 3) := by decide +kernel
theorem dX5_isBusy_8 : decode cX5_isBusy 8 = .ok (.aload_n 0, 1) := by decide +kernel
theorem dX5_isBusy_9 : decode cX5_isBusy 9 = .ok (.getfield 55, 3) := by decide +kernel
theorem dX5_isBusy_12 : decode cX5_isBusy 12 = .ok (.iconst 5, 1) := by decide +kernel
theorem dX5_isBusy_13 : decode cX5_isBusy 13 = .ok (.if_icmp .ne 7, 3) := by decide +kernel
theorem dX5_isBusy_16 : decode cX5_isBusy 16 = .ok (.iconst 1, 1) := by decide +kernel
theorem dX5_isBusy_17 : decode cX5_isBusy 17 = .ok (.goto 4, 3) := by decide +kernel
theorem dX5_isBusy_20 : decode cX5_isBusy 20 = .ok (.iconst 0, 1) := by decide +kernel
theorem dX5_isBusy_21 : decode cX5_isBusy 21 = .ok (.ireturn, 1) := by decide +kernel
def fX5_isBusy (h : pm_H) (a0 : Nat) : Option Int32 := if pm_kd h a0 = 5 then if (pm_I h a0 0) = 1 then (some 1) else (if (pm_I h a0 0) = 5 then (some 1) else (some 0)) else none
set_option maxHeartbeats 4000000 in
set_option maxRecDepth 100000 in
theorem ctX5_isBusy {l : Launch} {G : pm_Gl} {h : pm_H} {a0 : Nat} {r : Int32} {Qr : Option Value → pm_H → Prop} (hf : fX5_isBusy h a0 = some r) (q : Qr (some (.int r)) h) : pm_Ct l G mX5_isBusy [.ref a0] h 0 0 Qr := by
  refine pm_body pnX5 (Nat.le_of_ble_eq_true rfl) (fun g C X => ?_)
  have C : pm_C g cX5_isBusy RX5 := C
  show pm_G g 0 [(0, .ref a0)] [] h 0 0
  unfold fX5_isBusy at hf
  refine pm_aload_n C dX5_isBusy_0 rfl rfl ?_
  obtain ⟨k1, hf⟩ := pm_if hf
  refine pm_getI C dX5_isBusy_1 flX5_55 rfl k1 rfl ?_
  refine pm_iconst (v := 1) C dX5_isBusy_4 (by decide) ?_
  refine pm_icmp_eq (tgt := 16) C dX5_isBusy_5 (by decide) (fun c2 => ?_) (fun c2 => ?_)
  · have hf := pm_it hf c2
    refine pm_iconst (v := 1) C dX5_isBusy_16 (by decide) ?_
    refine pm_goto (tgt := 21) C dX5_isBusy_17 (by decide) ?_
    cases hf
    exact pm_zret C X dX5_isBusy_21 rfl (by decide) (Nat.le_refl _) (Nat.le_refl _) q
  · have hf := pm_ie hf c2
    refine pm_aload_n C dX5_isBusy_8 rfl rfl ?_
    refine pm_getI C dX5_isBusy_9 flX5_55 rfl k1 rfl ?_
    refine pm_iconst (v := 5) C dX5_isBusy_12 (by decide) ?_
    refine pm_icmp_ne (tgt := 20) C dX5_isBusy_13 (by decide) (fun c3 => ?_) (fun c3 => ?_)
    · have hf := pm_ie hf c3
      refine pm_iconst (v := 0) C dX5_isBusy_20 (by decide) ?_
      cases hf
      exact pm_zret C X dX5_isBusy_21 rfl (by decide) (Nat.le_refl _) (Nat.le_refl _) q
    · have hf := pm_it hf c3
      refine pm_iconst (v := 1) C dX5_isBusy_16 (by decide) ?_
      refine pm_goto (tgt := 21) C dX5_isBusy_17 (by decide) ?_
      cases hf
      exact pm_zret C X dX5_isBusy_21 rfl (by decide) (Nat.le_refl _) (Nat.le_refl _) q
theorem dX5_stop_0 : decode cX5_stop 0 = .ok (.aload_n 0, 1) := by decide +kernel
theorem dX5_stop_1 : decode cX5_stop 1 = .ok (.invokevirtual 68, 3) := by decide +kernel
theorem dX5_stop_4 : decode cX5_stop 4 = .ok (.aload_n 0, 1) := by decide +kernel
theorem dX5_stop_5 : decode cX5_stop 5 = .ok (.iload_n 1, 1) := by decide +kernel
theorem dX5_stop_6 : decode cX5_stop 6 = .ok (.putfield 55, 3) := by decide +kernel
theorem dX5_stop_9 : decode cX5_stop 9 = .ok (.return_, 1) := by decide +kernel
def fX5_stop (h : pm_H) (a0 : Nat) (p1 : Int32) : Option pm_H := if pm_kd h a0 = 5 then (fX5_clearFrames h a0).bind fun v2 => if pm_kd v2 a0 = 5 then some (pm_setI v2 a0 0 p1) else none else none
set_option maxHeartbeats 4000000 in
set_option maxRecDepth 100000 in
theorem ctX5_stop {l : Launch} {G : pm_Gl} {h : pm_H} {a0 : Nat} {p1 : Int32} {r : pm_H} {Qr : Option Value → pm_H → Prop} (hf : fX5_stop h a0 p1 = some r) (q : Qr none r) : pm_Ct l G mX5_stop [.ref a0, .int p1] h 0 0 Qr := by
  refine pm_body pnX5 (Nat.le_of_ble_eq_true rfl) (fun g C X => ?_)
  have C : pm_C g cX5_stop RX5 := C
  show pm_G g 0 [(0, .ref a0), (1, .int p1)] [] h 0 0
  unfold fX5_stop at hf
  refine pm_aload_n C dX5_stop_0 rfl rfl ?_
  obtain ⟨k1, hf⟩ := pm_if hf
  obtain ⟨v2, e3, hf⟩ := pm_bd hf
  refine pm_callV (as := []) (st := []) C X dX5_stop_1 lnX5_68 myX5_clearFrames viX5_clearFrames ⟨by decide, by decide⟩ rfl rfl k1 (Nat.le_of_ble_eq_true rfl) (Nat.le_refl _) (Nat.le_refl _) (ctX5_clearFrames e3 ?_)
  show pm_G g 4 [(0, .ref a0), (1, .int p1)] [] v2 0 0
  refine pm_aload_n C dX5_stop_4 rfl rfl ?_
  refine pm_iload_n C dX5_stop_5 rfl rfl ?_
  obtain ⟨k4, hf⟩ := pm_if hf
  refine pm_putI C dX5_stop_6 flX5_55 rfl rfl k4 rfl rfl ?_
  cases hf
  exact pm_vret C X dX5_stop_9 rfl (Nat.le_refl _) (Nat.le_refl _) q
theorem dX5_toldBits_0 : decode cX5_toldBits 0 = .ok (.iload_n 0, 1) := by decide +kernel
theorem dX5_toldBits_1 : decode cX5_toldBits 1 = .ok (.bipush 127, 2) := by decide +kernel
theorem dX5_toldBits_3 : decode cX5_toldBits 3 = .ok (.if_icmp .eq 9, 3) := by decide +kernel
theorem dX5_toldBits_6 : decode cX5_toldBits 6 = .ok (.iload_n 0, 1) := by decide +kernel
theorem dX5_toldBits_7 : decode cX5_toldBits 7 = .ok (.bipush 125, 2) := by decide +kernel
theorem dX5_toldBits_9 : decode cX5_toldBits 9 = .ok (.if_icmp .ne 11, 3) := by decide +kernel
theorem dX5_toldBits_12 : decode cX5_toldBits 12 = .ok (.lload_n 1, 1) := by decide +kernel
theorem dX5_toldBits_13 : decode cX5_toldBits 13 = .ok (.ldc2_w 110, 3) := by decide +kernel
theorem dX5_toldBits_16 : decode cX5_toldBits 16 = .ok (.land, 1) := by decide +kernel
theorem dX5_toldBits_17 : decode cX5_toldBits 17 = .ok (.goto 4, 3) := by decide +kernel
theorem dX5_toldBits_20 : decode cX5_toldBits 20 = .ok (.lload_n 1, 1) := by decide +kernel
theorem dX5_toldBits_21 : decode cX5_toldBits 21 = .ok (.lreturn, 1) := by decide +kernel
def fX5_toldBits (p1 : Int32) (p2 : Int64) : Int64 := if p1 = 127 then (p2 &&& 4294967295) else (if p1 = 125 then (p2 &&& 4294967295) else (p2))
set_option maxHeartbeats 4000000 in
set_option maxRecDepth 100000 in
theorem ctX5_toldBits {l : Launch} {G : pm_Gl} {h : pm_H} {p1 : Int32} {p2 : Int64} {r : Int64} {Qr : Option Value → pm_H → Prop} (hf : fX5_toldBits p1 p2 = r) (q : Qr (some (.long r)) h) : pm_Ct l G mX5_toldBits [.int p1, .long p2] h 0 0 Qr := by
  refine pm_body pnX5 (Nat.le_of_ble_eq_true rfl) (fun g C X => ?_)
  have C : pm_C g cX5_toldBits RX5 := C
  show pm_G g 0 [(0, .int p1), (1, .long p2)] [] h 0 0
  unfold fX5_toldBits at hf
  refine pm_iload_n C dX5_toldBits_0 rfl rfl ?_
  refine pm_bipush (v := 127) C dX5_toldBits_1 (by decide) ?_
  refine pm_icmp_eq (tgt := 12) C dX5_toldBits_3 (by decide) (fun c1 => ?_) (fun c1 => ?_)
  · have hf := pm_it hf c1
    refine pm_lload_n C dX5_toldBits_12 rfl rfl ?_
    refine pm_ldc2 C dX5_toldBits_13 cnX5_110 ?_
    refine pm_land C dX5_toldBits_16 ?_
    refine pm_goto (tgt := 21) C dX5_toldBits_17 (by decide) ?_
    subst hf
    exact pm_lret C X dX5_toldBits_21 rfl (Nat.le_refl _) (Nat.le_refl _) q
  · have hf := pm_ie hf c1
    refine pm_iload_n C dX5_toldBits_6 rfl rfl ?_
    refine pm_bipush (v := 125) C dX5_toldBits_7 (by decide) ?_
    refine pm_icmp_ne (tgt := 20) C dX5_toldBits_9 (by decide) (fun c2 => ?_) (fun c2 => ?_)
    · have hf := pm_ie hf c2
      refine pm_lload_n C dX5_toldBits_20 rfl rfl ?_
      subst hf
      exact pm_lret C X dX5_toldBits_21 rfl (Nat.le_refl _) (Nat.le_refl _) q
    · have hf := pm_it hf c2
      refine pm_lload_n C dX5_toldBits_12 rfl rfl ?_
      refine pm_ldc2 C dX5_toldBits_13 cnX5_110 ?_
      refine pm_land C dX5_toldBits_16 ?_
      refine pm_goto (tgt := 21) C dX5_toldBits_17 (by decide) ?_
      subst hf
      exact pm_lret C X dX5_toldBits_21 rfl (Nat.le_refl _) (Nat.le_refl _) q
theorem dX6_pageOf_0 : decode cX6_pageOf 0 = .ok (.iload_n 1, 1) := by decide +kernel
theorem dX6_pageOf_1 : decode cX6_pageOf 1 = .ok (.i2l, 1) := by decide +kernel
theorem dX6_pageOf_2 : decode cX6_pageOf 2 = .ok (.ldc2_w 67, 3) := by decide +kernel
theorem dX6_pageOf_5 : decode cX6_pageOf 5 = .ok (.lmul, 1) := by decide +kernel
theorem dX6_pageOf_6 : decode cX6_pageOf 6 = .ok (.lload_n 2, 1) := by decide +kernel
theorem dX6_pageOf_7 : decode cX6_pageOf 7 = .ok (.bipush 16, 2) := by decide +kernel
theorem dX6_pageOf_9 : decode cX6_pageOf 9 = .ok (.lushr, 1) := by decide +kernel
theorem dX6_pageOf_10 : decode cX6_pageOf 10 = .ok (.ladd, 1) := by decide +kernel
theorem dX6_pageOf_11 : decode cX6_pageOf 11 = .ok (.lstore 4, 2) := by decide +kernel
theorem dX6_pageOf_13 : decode cX6_pageOf 13 = .ok (.lload 4, 2) := by decide +kernel
theorem dX6_pageOf_15 : decode cX6_pageOf 15 = .ok (.lconst 0, 1) := by decide +kernel
theorem dX6_pageOf_16 : decode cX6_pageOf 16 = .ok (.lcmp, 1) := by decide +kernel
theorem dX6_pageOf_17 : decode cX6_pageOf 17 = .ok (.ifCond .lt 15, 3) := by decide +kernel
theorem dX6_pageOf_20 : decode cX6_pageOf 20 = .ok (.lload 4, 2) := by decide +kernel
theorem dX6_pageOf_22 : decode cX6_pageOf 22 = .ok (.aload_n 0, 1) := by decide +kernel
theorem dX6_pageOf_23 : decode cX6_pageOf 23 = .ok (.getfield 25, 3) := by decide +kernel
theorem dX6_pageOf_26 : decode cX6_pageOf 26 = .ok (.arraylength, 1) := by decide +kernel
theorem dX6_pageOf_27 : decode cX6_pageOf 27 = .ok (.i2l, 1) := by decide +kernel
theorem dX6_pageOf_28 : decode cX6_pageOf 28 = .ok (.lcmp, 1) := by decide +kernel
theorem dX6_pageOf_29 : decode cX6_pageOf 29 = .ok (.ifCond .lt 7, 3) := by decide +kernel
theorem dX6_pageOf_32 : decode cX6_pageOf 32 = .ok (.iconst 0, 1) := by decide +kernel
theorem dX6_pageOf_33 : decode cX6_pageOf 33 = .ok (.goto 6, 3) := by decide +kernel
theorem dX6_pageOf_36 : decode cX6_pageOf 36 = .ok (.lload 4, 2) := by decide +kernel
theorem dX6_pageOf_38 : decode cX6_pageOf 38 = .ok (.l2i, 1) := by decide +kernel
theorem dX6_pageOf_39 : decode cX6_pageOf 39 = .ok (.ireturn, 1) := by decide +kernel
def fX6_pageOf (h : pm_H) (a0 : Nat) (p1 : Int32) (p2 : Int64) : Option Int32 := pm_let ((p1.toInt64 * 8) + ((p2.toUInt64 >>> ((16 : Int32).toInt64.toUInt64 &&& Int64.toUInt64 63)).toInt64)) fun y1 => if y1 < 0 then (some 0) else (if pm_kd h a0 = 6 then (pm_R h a0 4).bind fun v5 => if pm_kd h v5 = 37 then if y1 < ((Int32.ofNat (pm_ln h v5)).toInt64) then (some y1.toInt32) else (some 0) else none else none)
set_option maxHeartbeats 4000000 in
set_option maxRecDepth 100000 in
theorem ctX6_pageOf {l : Launch} {G : pm_Gl} {h : pm_H} {a0 : Nat} {p1 : Int32} {p2 : Int64} {r : Int32} {Qr : Option Value → pm_H → Prop} (hf : fX6_pageOf h a0 p1 p2 = some r) (q : Qr (some (.int r)) h) : pm_Ct l G mX6_pageOf [.ref a0, .int p1, .long p2] h 0 0 Qr := by
  refine pm_body pnX6 (Nat.le_of_ble_eq_true rfl) (fun g C X => ?_)
  have C : pm_C g cX6_pageOf RX6 := C
  show pm_G g 0 [(0, .ref a0), (1, .int p1), (2, .long p2)] [] h 0 0
  unfold fX6_pageOf at hf
  refine pm_iload_n C dX6_pageOf_0 rfl rfl ?_
  refine pm_i2l C dX6_pageOf_1 ?_
  refine pm_ldc2 C dX6_pageOf_2 cnX6_67 ?_
  refine pm_lmul C dX6_pageOf_5 ?_
  refine pm_lload_n C dX6_pageOf_6 rfl rfl ?_
  refine pm_bipush (v := 16) C dX6_pageOf_7 (by decide) ?_
  refine pm_lushr C dX6_pageOf_9 ?_
  refine pm_ladd C dX6_pageOf_10 ?_
  obtain ⟨y1, e2, hf⟩ := pm_lt hf
  refine pm_topL e2 ?_
  refine pm_lstore (lv' := [(4, .long y1), (0, .ref a0), (1, .int p1), (2, .long p2)]) C dX6_pageOf_11 (pm_nl X (by decide)) rfl ?_
  refine pm_lload C dX6_pageOf_13 rfl ?_
  refine pm_lconst (v := 0) C dX6_pageOf_15 (by decide) ?_
  refine pm_lcmp C dX6_pageOf_16 ?_
  refine pm_if_lt (tgt := 32) C dX6_pageOf_17 (by decide) (fun c3 => ?_) (fun c3 => ?_)
  · have hf := pm_it hf ((pm_lg_lt _ _).mp c3)
    refine pm_iconst (v := 0) C dX6_pageOf_32 (by decide) ?_
    refine pm_goto (tgt := 39) C dX6_pageOf_33 (by decide) ?_
    cases hf
    exact pm_iret C X dX6_pageOf_39 rfl (Nat.le_refl _) (Nat.le_refl _) q
  · have hf := pm_ie hf ((fun z => c3 ((pm_lg_lt _ _).mpr z)))
    refine pm_lload C dX6_pageOf_20 rfl ?_
    refine pm_aload_n C dX6_pageOf_22 rfl rfl ?_
    obtain ⟨k4, hf⟩ := pm_if hf
    obtain ⟨v5, e6, hf⟩ := pm_bd hf
    refine pm_getR C dX6_pageOf_23 flX6_25 rfl k4 e6 ?_
    obtain ⟨k7, hf⟩ := pm_if hf
    refine pm_alen (t := 5) C dX6_pageOf_26 (by decide) k7 rfl ?_
    refine pm_i2l C dX6_pageOf_27 ?_
    refine pm_lcmp C dX6_pageOf_28 ?_
    refine pm_if_lt (tgt := 36) C dX6_pageOf_29 (by decide) (fun c8 => ?_) (fun c8 => ?_)
    · have hf := pm_it hf ((pm_lg_lt _ _).mp c8)
      refine pm_lload C dX6_pageOf_36 rfl ?_
      refine pm_l2i C dX6_pageOf_38 ?_
      cases hf
      exact pm_iret C X dX6_pageOf_39 rfl (Nat.le_refl _) (Nat.le_refl _) q
    · have hf := pm_ie hf ((fun z => c8 ((pm_lg_lt _ _).mpr z)))
      refine pm_iconst (v := 0) C dX6_pageOf_32 (by decide) ?_
      refine pm_goto (tgt := 39) C dX6_pageOf_33 (by decide) ?_
      cases hf
      exact pm_iret C X dX6_pageOf_39 rfl (Nat.le_refl _) (Nat.le_refl _) q
theorem dX6_setByte_0 : decode cX6_setByte 0 = .ok (.aload_n 0, 1) := by decide +kernel
theorem dX6_setByte_1 : decode cX6_setByte 1 = .ok (.getfield 25, 3) := by decide +kernel
theorem dX6_setByte_4 : decode cX6_setByte 4 = .ok (.aload_n 0, 1) := by decide +kernel
theorem dX6_setByte_5 : decode cX6_setByte 5 = .ok (.iload_n 1, 1) := by decide +kernel
theorem dX6_setByte_6 : decode cX6_setByte 6 = .ok (.lload_n 2, 1) := by decide +kernel
theorem dX6_setByte_7 : decode cX6_setByte 7 = .ok (.invokevirtual 62, 3) := by decide +kernel
theorem dX6_setByte_10 : decode cX6_setByte 10 = .ok (.aaload, 1) := by decide +kernel
theorem dX6_setByte_11 : decode cX6_setByte 11 = .ok (.astore 5, 2) := by decide +kernel
theorem dX6_setByte_13 : decode cX6_setByte 13 = .ok (.lload_n 2, 1) := by decide +kernel
theorem dX6_setByte_14 : decode cX6_setByte 14 = .ok (.ldc2_w 65, 3) := by decide +kernel
theorem dX6_setByte_17 : decode cX6_setByte 17 = .ok (.land, 1) := by decide +kernel
theorem dX6_setByte_18 : decode cX6_setByte 18 = .ok (.l2i, 1) := by decide +kernel
theorem dX6_setByte_19 : decode cX6_setByte 19 = .ok (.istore 6, 2) := by decide +kernel
theorem dX6_setByte_21 : decode cX6_setByte 21 = .ok (.iload 6, 2) := by decide +kernel
theorem dX6_setByte_23 : decode cX6_setByte 23 = .ok (.aload 5, 2) := by decide +kernel
theorem dX6_setByte_25 : decode cX6_setByte 25 = .ok (.arraylength, 1) := by decide +kernel
theorem dX6_setByte_26 : decode cX6_setByte 26 = .ok (.if_icmp .ge 11, 3) := by decide +kernel
theorem dX6_setByte_29 : decode cX6_setByte 29 = .ok (.aload 5, 2) := by decide +kernel
theorem dX6_setByte_31 : decode cX6_setByte 31 = .ok (.iload 6, 2) := by decide +kernel
theorem dX6_setByte_33 : decode cX6_setByte 33 = .ok (.iload 4, 2) := by decide +kernel
theorem dX6_setByte_35 : decode cX6_setByte 35 = .ok (.i2b, 1) := by decide +kernel
theorem dX6_setByte_36 : decode cX6_setByte 36 = .ok (.bastore, 1) := by decide +kernel
theorem dX6_setByte_37 : decode cX6_setByte 37 = .ok (.return_, 1) := by decide +kernel
def fX6_setByte (h : pm_H) (a0 : Nat) (p1 : Int32) (p2 : Int64) (p3 : Int32) : Option pm_H := if pm_kd h a0 = 6 then (pm_R h a0 4).bind fun v2 => (fX6_pageOf h a0 p1 p2).bind fun v4 => if pm_kd h v2 = 37 then if pm_in v4 (pm_ln h v2) then (pm_R h v2 v4.toNatClampNeg).bind fun v8 => pm_let ((p2 &&& 65535).toInt32) fun y10 => if pm_kd h v8 = 33 then if (Int32.ofNat (pm_ln h v8)) ≤ y10 then (some h) else (if pm_in y10 (pm_ln h v8) then some (pm_setI h v8 y10.toNatClampNeg (vp_nar .byte p3.toInt8.toInt32)) else none) else none else none else none else none
set_option maxHeartbeats 4000000 in
set_option maxRecDepth 100000 in
theorem ctX6_setByte {l : Launch} {G : pm_Gl} {h : pm_H} {a0 : Nat} {p1 : Int32} {p2 : Int64} {p3 : Int32} {r : pm_H} {Qr : Option Value → pm_H → Prop} (hf : fX6_setByte h a0 p1 p2 p3 = some r) (q : Qr none r) : pm_Ct l G mX6_setByte [.ref a0, .int p1, .long p2, .int p3] h 0 0 Qr := by
  refine pm_body pnX6 (Nat.le_of_ble_eq_true rfl) (fun g C X => ?_)
  have C : pm_C g cX6_setByte RX6 := C
  show pm_G g 0 [(0, .ref a0), (1, .int p1), (2, .long p2), (4, .int p3)] [] h 0 0
  unfold fX6_setByte at hf
  refine pm_aload_n C dX6_setByte_0 rfl rfl ?_
  obtain ⟨k1, hf⟩ := pm_if hf
  obtain ⟨v2, e3, hf⟩ := pm_bd hf
  refine pm_getR C dX6_setByte_1 flX6_25 rfl k1 e3 ?_
  refine pm_aload_n C dX6_setByte_4 rfl rfl ?_
  refine pm_iload_n C dX6_setByte_5 rfl rfl ?_
  refine pm_lload_n C dX6_setByte_6 rfl rfl ?_
  obtain ⟨v4, e5, hf⟩ := pm_bd hf
  refine pm_callV (as := [.int p1, .long p2]) (st := [.ref v2]) C X dX6_setByte_7 lnX6_62 myX6_pageOf viX6_pageOf ⟨by decide, by decide⟩ rfl rfl k1 (Nat.le_of_ble_eq_true rfl) (Nat.le_refl _) (Nat.le_refl _) (ctX6_pageOf e5 ?_)
  show pm_G g 10 [(0, .ref a0), (1, .int p1), (2, .long p2), (4, .int p3)] [.int v4, .ref v2] h 0 0
  obtain ⟨k6, hf⟩ := pm_if hf
  obtain ⟨u7, hf⟩ := pm_if hf
  obtain ⟨v8, e9, hf⟩ := pm_bd hf
  refine pm_ald (t := 5) C dX6_setByte_10 (by decide) rfl k6 u7 e9 ?_
  refine pm_astore (lv' := [(5, .ref v8), (0, .ref a0), (1, .int p1), (2, .long p2), (4, .int p3)]) C dX6_setByte_11 (pm_nl X (by decide)) rfl ?_
  refine pm_lload_n C dX6_setByte_13 rfl rfl ?_
  refine pm_ldc2 C dX6_setByte_14 cnX6_65 ?_
  refine pm_land C dX6_setByte_17 ?_
  refine pm_l2i C dX6_setByte_18 ?_
  obtain ⟨y10, e11, hf⟩ := pm_lt hf
  refine pm_topI e11 ?_
  refine pm_istore (lv' := [(6, .int y10), (5, .ref v8), (0, .ref a0), (1, .int p1), (2, .long p2), (4, .int p3)]) C dX6_setByte_19 (pm_nl X (by decide)) rfl ?_
  refine pm_iload C dX6_setByte_21 rfl ?_
  refine pm_aload C dX6_setByte_23 rfl ?_
  obtain ⟨k12, hf⟩ := pm_if hf
  refine pm_alen (t := 1) C dX6_setByte_25 (by decide) k12 rfl ?_
  refine pm_icmp_ge (tgt := 37) C dX6_setByte_26 (by decide) (fun c13 => ?_) (fun c13 => ?_)
  · have hf := pm_it hf c13
    cases hf
    exact pm_vret C X dX6_setByte_37 rfl (Nat.le_refl _) (Nat.le_refl _) q
  · have hf := pm_ie hf c13
    refine pm_aload C dX6_setByte_29 rfl ?_
    refine pm_iload C dX6_setByte_31 rfl ?_
    refine pm_iload C dX6_setByte_33 rfl ?_
    refine pm_i2b C dX6_setByte_35 ?_
    obtain ⟨u14, hf⟩ := pm_if hf
    refine pm_bast C dX6_setByte_36 k12 u14 ?_
    cases hf
    exact pm_vret C X dX6_setByte_37 rfl (Nat.le_refl _) (Nat.le_refl _) q
theorem dX7_imported_0 : decode cX7_imported 0 = .ok (.iconst 0, 1) := by decide +kernel
theorem dX7_imported_1 : decode cX7_imported 1 = .ok (.istore_n 2, 1) := by decide +kernel
theorem dX7_imported_2 : decode cX7_imported 2 = .ok (.iconst 0, 1) := by decide +kernel
theorem dX7_imported_3 : decode cX7_imported 3 = .ok (.istore_n 3, 1) := by decide +kernel
theorem dX7_imported_4 : decode cX7_imported 4 = .ok (.iload_n 3, 1) := by decide +kernel
theorem dX7_imported_5 : decode cX7_imported 5 = .ok (.aload_n 0, 1) := by decide +kernel
theorem dX7_imported_6 : decode cX7_imported 6 = .ok (.getfield 18, 3) := by decide +kernel
theorem dX7_imported_9 : decode cX7_imported 9 = .ok (.arraylength, 1) := by decide +kernel
theorem dX7_imported_10 : decode cX7_imported 10 = .ok (.if_icmp .ge 24, 3) := by decide +kernel
theorem dX7_imported_13 : decode cX7_imported 13 = .ok (.aload_n 0, 1) := by decide +kernel
theorem dX7_imported_14 : decode cX7_imported 14 = .ok (.getfield 18, 3) := by decide +kernel
theorem dX7_imported_17 : decode cX7_imported 17 = .ok (.iload_n 3, 1) := by decide +kernel
theorem dX7_imported_18 : decode cX7_imported 18 = .ok (.laload, 1) := by decide +kernel
theorem dX7_imported_19 : decode cX7_imported 19 = .ok (.iload_n 1, 1) := by decide +kernel
theorem dX7_imported_20 : decode cX7_imported 20 = .ok (.i2l, 1) := by decide +kernel
theorem dX7_imported_21 : decode cX7_imported 21 = .ok (.lcmp, 1) := by decide +kernel
theorem dX7_imported_22 : decode cX7_imported 22 = .ok (.ifCond .ne 6, 3) := by decide +kernel
theorem dX7_imported_25 : decode cX7_imported 25 = .ok (.iinc 2 1, 3) := by decide +kernel
theorem dX7_imported_28 : decode cX7_imported 28 = .ok (.iinc 3 6, 3) := by decide +kernel
theorem dX7_imported_31 : decode cX7_imported 31 = .ok (.goto (-27), 3) := by decide +kernel
theorem dX7_imported_34 : decode cX7_imported 34 = .ok (.iload_n 2, 1) := by decide +kernel
theorem dX7_imported_35 : decode cX7_imported 35 = .ok (.ireturn, 1) := by decide +kernel
def tX7_imported_4 (h : pm_H) (x0 : Nat) (x1 : Int32) (x2 : Int32) (x3 : Int32) : Option (((Nat × Int32 × Int32 × Int32)) ⊕ Int32) := if pm_kd h x0 = 7 then (pm_R h x0 3).bind fun v2 => if pm_kd h v2 = 35 then if (Int32.ofNat (pm_ln h v2)) ≤ x3 then (some (.inr (x2))) else (if pm_in x3 (pm_ln h v2) then if (pm_L h v2 x3.toNatClampNeg) = x1.toInt64 then (pm_let (x2 + 1) fun y10 => pm_let (x3 + 6) fun y12 => some (.inl ((x0, x1, y10, y12)))) else (pm_let (x3 + 6) fun y8 => some (.inl ((x0, x1, x2, y8)))) else none) else none else none
def sX7_imported (h : pm_H) : ((Nat × Int32 × Int32 × Int32)) → Option (((Nat × Int32 × Int32 × Int32)) ⊕ Int32) := fun z => match z with
  | (x0, x1, x2, x3) => tX7_imported_4 h x0 x1 x2 x3
noncomputable def fX7_imported (h : pm_H) (a0 : Nat) (p1 : Int32) : Option Int32 := pm_lim (sX7_imported h) ((a0, p1, 0, 0))
set_option maxHeartbeats 4000000 in
set_option maxRecDepth 100000 in
theorem lpX7_imported {g : pm_Gm} {l : Launch} {G : pm_Gl} {Qr : Option Value → pm_H → Prop} (C : pm_C g cX7_imported RX7) (X : pm_X g l G mX7_imported 0 0 Qr) {h : pm_H} {r : Int32} (q : Qr (some (.int r)) h) : ∀ n : Nat, (∀ (x0 : Nat) (x1 : Int32) (x2 : Int32) (x3 : Int32), pm_iter (sX7_imported h) n (x0, x1, x2, x3) = some r → pm_G g 4 [(0, .ref x0), (1, .int x1), (2, .int x2), (3, .int x3)] [] h 0 0) := by
  intro n
  induction n with
  | zero => exact fun _ _ _ _ hf => (by cases hf)
  | succ n ih =>
    refine fun x0 x1 x2 x3 hf => ?_
    obtain ⟨y, hf, hi⟩ := pm_iter_s hf
    have hf : tX7_imported_4 h x0 x1 x2 x3 = some y := hf
    unfold tX7_imported_4 at hf
    refine pm_iload_n C dX7_imported_4 rfl rfl ?_
    refine pm_aload_n C dX7_imported_5 rfl rfl ?_
    obtain ⟨k1, hf⟩ := pm_if hf
    obtain ⟨v2, e3, hf⟩ := pm_bd hf
    refine pm_getR C dX7_imported_6 flX7_18 rfl k1 e3 ?_
    obtain ⟨k4, hf⟩ := pm_if hf
    refine pm_alen (t := 3) C dX7_imported_9 (by decide) k4 rfl ?_
    refine pm_icmp_ge (tgt := 34) C dX7_imported_10 (by decide) (fun c5 => ?_) (fun c5 => ?_)
    · have hf := pm_it hf c5
      refine pm_iload_n C dX7_imported_34 rfl rfl ?_
      cases hf
      cases hi
      exact pm_iret C X dX7_imported_35 rfl (Nat.le_refl _) (Nat.le_refl _) q
    · have hf := pm_ie hf c5
      refine pm_aload_n C dX7_imported_13 rfl rfl ?_
      refine pm_getR C dX7_imported_14 flX7_18 rfl k1 e3 ?_
      refine pm_iload_n C dX7_imported_17 rfl rfl ?_
      obtain ⟨u6, hf⟩ := pm_if hf
      refine pm_lald C dX7_imported_18 k4 u6 rfl ?_
      refine pm_iload_n C dX7_imported_19 rfl rfl ?_
      refine pm_i2l C dX7_imported_20 ?_
      refine pm_lcmp C dX7_imported_21 ?_
      refine pm_if_ne (tgt := 28) C dX7_imported_22 (by decide) (fun c7 => ?_) (fun c7 => ?_)
      · have hf := pm_ie hf ((fun z => c7 ((pm_lg_eq _ _).mpr z)))
        obtain ⟨y8, e9, hf⟩ := pm_lt hf
        refine pm_iinc (v := y8) (lv' := [(3, .int y8), (0, .ref x0), (1, .int x1), (2, .int x2)]) C dX7_imported_28 rfl ((congrArg (x3 + ·) (by decide : Int32.ofInt 6 = 6)).trans e9) (pm_nl X (by decide)) rfl ?_
        refine pm_goto (tgt := 4) C dX7_imported_31 (by decide) ?_
        cases hf
        exact pm_sub [1, 2, 3, 0] rfl (ih x0 x1 x2 y8 hi)
      · have hf := pm_it hf ((pm_lg_eq _ _).mp c7)
        obtain ⟨y10, e11, hf⟩ := pm_lt hf
        refine pm_iinc (v := y10) (lv' := [(2, .int y10), (0, .ref x0), (1, .int x1), (3, .int x3)]) C dX7_imported_25 rfl ((congrArg (x2 + ·) (by decide : Int32.ofInt 1 = 1)).trans e11) (pm_nl X (by decide)) rfl ?_
        obtain ⟨y12, e13, hf⟩ := pm_lt hf
        refine pm_iinc (v := y12) (lv' := [(3, .int y12), (2, .int y10), (0, .ref x0), (1, .int x1)]) C dX7_imported_28 rfl ((congrArg (x3 + ·) (by decide : Int32.ofInt 6 = 6)).trans e13) (pm_nl X (by decide)) rfl ?_
        refine pm_goto (tgt := 4) C dX7_imported_31 (by decide) ?_
        cases hf
        exact pm_sub [2, 3, 1, 0] rfl (ih x0 x1 y10 y12 hi)
set_option maxHeartbeats 4000000 in
set_option maxRecDepth 100000 in
theorem ctX7_imported {l : Launch} {G : pm_Gl} {h : pm_H} {a0 : Nat} {p1 : Int32} {r : Int32} {Qr : Option Value → pm_H → Prop} (hf : fX7_imported h a0 p1 = some r) (q : Qr (some (.int r)) h) : pm_Ct l G mX7_imported [.ref a0, .int p1] h 0 0 Qr := by
  refine pm_body pnX7 (Nat.le_of_ble_eq_true rfl) (fun g C X => ?_)
  have C : pm_C g cX7_imported RX7 := C
  show pm_G g 0 [(0, .ref a0), (1, .int p1)] [] h 0 0
  unfold fX7_imported at hf
  refine pm_iconst (v := 0) C dX7_imported_0 (by decide) ?_
  refine pm_istore_n (lv' := [(2, .int 0), (0, .ref a0), (1, .int p1)]) C dX7_imported_1 rfl (pm_nl X (by decide)) rfl ?_
  refine pm_iconst (v := 0) C dX7_imported_2 (by decide) ?_
  refine pm_istore_n (lv' := [(3, .int 0), (2, .int 0), (0, .ref a0), (1, .int p1)]) C dX7_imported_3 rfl (pm_nl X (by decide)) rfl ?_
  obtain ⟨n, hn⟩ := pm_lim_iter hf
  exact pm_sub [2, 3, 1, 0] rfl ((lpX7_imported C X q n) a0 p1 0 0 hn)
theorem dX7_setSpace_0 : decode cX7_setSpace 0 = .ok (.iload_n 1, 1) := by decide +kernel
theorem dX7_setSpace_1 : decode cX7_setSpace 1 = .ok (.ifCond .ne 11, 3) := by decide +kernel
theorem dX7_setSpace_4 : decode cX7_setSpace 4 = .ok (.aload_n 0, 1) := by decide +kernel
theorem dX7_setSpace_5 : decode cX7_setSpace 5 = .ok (.aload_n 2, 1) := by decide +kernel
theorem dX7_setSpace_6 : decode cX7_setSpace 6 = .ok (.putfield 22, 3) := by decide +kernel
theorem dX7_setSpace_9 : decode cX7_setSpace 9 = .ok (.goto 34, 3) := by decide +kernel
theorem dX7_setSpace_12 : decode cX7_setSpace 12 = .ok (.iload_n 1, 1) := by decide +kernel
theorem dX7_setSpace_13 : decode cX7_setSpace 13 = .ok (.iconst 1, 1) := by decide +kernel
theorem dX7_setSpace_14 : decode cX7_setSpace 14 = .ok (.if_icmp .ne 11, 3) := by decide +kernel
theorem dX7_setSpace_17 : decode cX7_setSpace 17 = .ok (.aload_n 0, 1) := by decide +kernel
theorem dX7_setSpace_18 : decode cX7_setSpace 18 = .ok (.aload_n 2, 1) := by decide +kernel
theorem dX7_setSpace_19 : decode cX7_setSpace 19 = .ok (.putfield 25, 3) := by decide +kernel
theorem dX7_setSpace_22 : decode cX7_setSpace 22 = .ok (.goto 21, 3) := by decide +kernel
theorem dX7_setSpace_25 : decode cX7_setSpace 25 = .ok (.iload_n 1, 1) := by decide +kernel
theorem dX7_setSpace_26 : decode cX7_setSpace 26 = .ok (.iconst 2, 1) := by decide +kernel
theorem dX7_setSpace_27 : decode cX7_setSpace 27 = .ok (.if_icmp .ne 11, 3) := by decide +kernel
theorem dX7_setSpace_30 : decode cX7_setSpace 30 = .ok (.aload_n 0, 1) := by decide +kernel
theorem dX7_setSpace_31 : decode cX7_setSpace 31 = .ok (.aload_n 2, 1) := by decide +kernel
theorem dX7_setSpace_32 : decode cX7_setSpace 32 = .ok (.putfield 28, 3) := by decide +kernel
theorem dX7_setSpace_35 : decode cX7_setSpace 35 = .ok (.goto 8, 3) := by decide +kernel
theorem dX7_setSpace_38 : decode cX7_setSpace 38 = .ok (.aload_n 0, 1) := by decide +kernel
theorem dX7_setSpace_39 : decode cX7_setSpace 39 = .ok (.aload_n 2, 1) := by decide +kernel
theorem dX7_setSpace_40 : decode cX7_setSpace 40 = .ok (.putfield 31, 3) := by decide +kernel
theorem dX7_setSpace_43 : decode cX7_setSpace 43 = .ok (.return_, 1) := by decide +kernel
def fX7_setSpace (h : pm_H) (a0 : Nat) (p1 : Int32) (p2 : Nat) : Option pm_H := if p1 = 0 then (if pm_kd h a0 = 7 then some (pm_setR h a0 4 (some p2)) else none) else (if p1 = 1 then (if pm_kd h a0 = 7 then some (pm_setR h a0 5 (some p2)) else none) else (if p1 = 2 then (if pm_kd h a0 = 7 then some (pm_setR h a0 6 (some p2)) else none) else (if pm_kd h a0 = 7 then some (pm_setR h a0 7 (some p2)) else none)))
set_option maxHeartbeats 4000000 in
set_option maxRecDepth 100000 in
theorem ctX7_setSpace {l : Launch} {G : pm_Gl} {h : pm_H} {a0 : Nat} {p1 : Int32} {p2 : Nat} {r : pm_H} {Qr : Option Value → pm_H → Prop} (hf : fX7_setSpace h a0 p1 p2 = some r) (q : Qr none r) : pm_Ct l G mX7_setSpace [.ref a0, .int p1, .ref p2] h 0 0 Qr := by
  refine pm_body pnX7 (Nat.le_of_ble_eq_true rfl) (fun g C X => ?_)
  have C : pm_C g cX7_setSpace RX7 := C
  show pm_G g 0 [(0, .ref a0), (1, .int p1), (2, .ref p2)] [] h 0 0
  unfold fX7_setSpace at hf
  refine pm_iload_n C dX7_setSpace_0 rfl rfl ?_
  refine pm_if_ne (tgt := 12) C dX7_setSpace_1 (by decide) (fun c1 => ?_) (fun c1 => ?_)
  · have hf := pm_ie hf c1
    refine pm_iload_n C dX7_setSpace_12 rfl rfl ?_
    refine pm_iconst (v := 1) C dX7_setSpace_13 (by decide) ?_
    refine pm_icmp_ne (tgt := 25) C dX7_setSpace_14 (by decide) (fun c2 => ?_) (fun c2 => ?_)
    · have hf := pm_ie hf c2
      refine pm_iload_n C dX7_setSpace_25 rfl rfl ?_
      refine pm_iconst (v := 2) C dX7_setSpace_26 (by decide) ?_
      refine pm_icmp_ne (tgt := 38) C dX7_setSpace_27 (by decide) (fun c3 => ?_) (fun c3 => ?_)
      · have hf := pm_ie hf c3
        refine pm_aload_n C dX7_setSpace_38 rfl rfl ?_
        refine pm_aload_n C dX7_setSpace_39 rfl rfl ?_
        obtain ⟨k4, hf⟩ := pm_if hf
        refine pm_putR C dX7_setSpace_40 flX7_31 rfl rfl k4 ?_
        cases hf
        exact pm_vret C X dX7_setSpace_43 rfl (Nat.le_refl _) (Nat.le_refl _) q
      · have hf := pm_it hf c3
        refine pm_aload_n C dX7_setSpace_30 rfl rfl ?_
        refine pm_aload_n C dX7_setSpace_31 rfl rfl ?_
        obtain ⟨k5, hf⟩ := pm_if hf
        refine pm_putR C dX7_setSpace_32 flX7_28 rfl rfl k5 ?_
        refine pm_goto (tgt := 43) C dX7_setSpace_35 (by decide) ?_
        cases hf
        exact pm_vret C X dX7_setSpace_43 rfl (Nat.le_refl _) (Nat.le_refl _) q
    · have hf := pm_it hf c2
      refine pm_aload_n C dX7_setSpace_17 rfl rfl ?_
      refine pm_aload_n C dX7_setSpace_18 rfl rfl ?_
      obtain ⟨k6, hf⟩ := pm_if hf
      refine pm_putR C dX7_setSpace_19 flX7_25 rfl rfl k6 ?_
      refine pm_goto (tgt := 43) C dX7_setSpace_22 (by decide) ?_
      cases hf
      exact pm_vret C X dX7_setSpace_43 rfl (Nat.le_refl _) (Nat.le_refl _) q
  · have hf := pm_it hf c1
    refine pm_aload_n C dX7_setSpace_4 rfl rfl ?_
    refine pm_aload_n C dX7_setSpace_5 rfl rfl ?_
    obtain ⟨k7, hf⟩ := pm_if hf
    refine pm_putR C dX7_setSpace_6 flX7_22 rfl rfl k7 ?_
    refine pm_goto (tgt := 43) C dX7_setSpace_9 (by decide) ?_
    cases hf
    exact pm_vret C X dX7_setSpace_43 rfl (Nat.le_refl _) (Nat.le_refl _) q
theorem dX7_space_0 : decode cX7_space 0 = .ok (.iload_n 1, 1) := by decide +kernel
theorem dX7_space_1 : decode cX7_space 1 = .ok (.ifCond .ne 10, 3) := by decide +kernel
theorem dX7_space_4 : decode cX7_space 4 = .ok (.aload_n 0, 1) := by decide +kernel
theorem dX7_space_5 : decode cX7_space 5 = .ok (.getfield 22, 3) := by decide +kernel
theorem dX7_space_8 : decode cX7_space 8 = .ok (.goto 31, 3) := by decide +kernel
theorem dX7_space_11 : decode cX7_space 11 = .ok (.iload_n 1, 1) := by decide +kernel
theorem dX7_space_12 : decode cX7_space 12 = .ok (.iconst 1, 1) := by decide +kernel
theorem dX7_space_13 : decode cX7_space 13 = .ok (.if_icmp .ne 10, 3) := by decide +kernel
theorem dX7_space_16 : decode cX7_space 16 = .ok (.aload_n 0, 1) := by decide +kernel
theorem dX7_space_17 : decode cX7_space 17 = .ok (.getfield 25, 3) := by decide +kernel
theorem dX7_space_20 : decode cX7_space 20 = .ok (.goto 19, 3) := by decide +kernel
theorem dX7_space_23 : decode cX7_space 23 = .ok (.iload_n 1, 1) := by decide +kernel
theorem dX7_space_24 : decode cX7_space 24 = .ok (.iconst 2, 1) := by decide +kernel
theorem dX7_space_25 : decode cX7_space 25 = .ok (.if_icmp .ne 10, 3) := by decide +kernel
theorem dX7_space_28 : decode cX7_space 28 = .ok (.aload_n 0, 1) := by decide +kernel
theorem dX7_space_29 : decode cX7_space 29 = .ok (.getfield 28, 3) := by decide +kernel
theorem dX7_space_32 : decode cX7_space 32 = .ok (.goto 7, 3) := by decide +kernel
theorem dX7_space_35 : decode cX7_space 35 = .ok (.aload_n 0, 1) := by decide +kernel
theorem dX7_space_36 : decode cX7_space 36 = .ok (.getfield 31, 3) := by decide +kernel
theorem dX7_space_39 : decode cX7_space 39 = .ok (.areturn, 1) := by decide +kernel
def fX7_space (h : pm_H) (a0 : Nat) (p1 : Int32) : Option Nat := if p1 = 0 then (if pm_kd h a0 = 7 then (pm_R h a0 4).bind fun v14 => some v14 else none) else (if p1 = 1 then (if pm_kd h a0 = 7 then (pm_R h a0 5).bind fun v11 => some v11 else none) else (if p1 = 2 then (if pm_kd h a0 = 7 then (pm_R h a0 6).bind fun v8 => some v8 else none) else (if pm_kd h a0 = 7 then (pm_R h a0 7).bind fun v5 => some v5 else none)))
set_option maxHeartbeats 4000000 in
set_option maxRecDepth 100000 in
theorem ctX7_space {l : Launch} {G : pm_Gl} {h : pm_H} {a0 : Nat} {p1 : Int32} {r : Nat} {Qr : Option Value → pm_H → Prop} (hf : fX7_space h a0 p1 = some r) (q : Qr (some (.ref r)) h) : pm_Ct l G mX7_space [.ref a0, .int p1] h 0 0 Qr := by
  refine pm_body pnX7 (Nat.le_of_ble_eq_true rfl) (fun g C X => ?_)
  have C : pm_C g cX7_space RX7 := C
  show pm_G g 0 [(0, .ref a0), (1, .int p1)] [] h 0 0
  unfold fX7_space at hf
  refine pm_iload_n C dX7_space_0 rfl rfl ?_
  refine pm_if_ne (tgt := 11) C dX7_space_1 (by decide) (fun c1 => ?_) (fun c1 => ?_)
  · have hf := pm_ie hf c1
    refine pm_iload_n C dX7_space_11 rfl rfl ?_
    refine pm_iconst (v := 1) C dX7_space_12 (by decide) ?_
    refine pm_icmp_ne (tgt := 23) C dX7_space_13 (by decide) (fun c2 => ?_) (fun c2 => ?_)
    · have hf := pm_ie hf c2
      refine pm_iload_n C dX7_space_23 rfl rfl ?_
      refine pm_iconst (v := 2) C dX7_space_24 (by decide) ?_
      refine pm_icmp_ne (tgt := 35) C dX7_space_25 (by decide) (fun c3 => ?_) (fun c3 => ?_)
      · have hf := pm_ie hf c3
        refine pm_aload_n C dX7_space_35 rfl rfl ?_
        obtain ⟨k4, hf⟩ := pm_if hf
        obtain ⟨v5, e6, hf⟩ := pm_bd hf
        refine pm_getR C dX7_space_36 flX7_31 rfl k4 e6 ?_
        cases hf
        exact pm_aret C X dX7_space_39 rfl (Or.inr ⟨_, rfl⟩) (Nat.le_refl _) (Nat.le_refl _) q
      · have hf := pm_it hf c3
        refine pm_aload_n C dX7_space_28 rfl rfl ?_
        obtain ⟨k7, hf⟩ := pm_if hf
        obtain ⟨v8, e9, hf⟩ := pm_bd hf
        refine pm_getR C dX7_space_29 flX7_28 rfl k7 e9 ?_
        refine pm_goto (tgt := 39) C dX7_space_32 (by decide) ?_
        cases hf
        exact pm_aret C X dX7_space_39 rfl (Or.inr ⟨_, rfl⟩) (Nat.le_refl _) (Nat.le_refl _) q
    · have hf := pm_it hf c2
      refine pm_aload_n C dX7_space_16 rfl rfl ?_
      obtain ⟨k10, hf⟩ := pm_if hf
      obtain ⟨v11, e12, hf⟩ := pm_bd hf
      refine pm_getR C dX7_space_17 flX7_25 rfl k10 e12 ?_
      refine pm_goto (tgt := 39) C dX7_space_20 (by decide) ?_
      cases hf
      exact pm_aret C X dX7_space_39 rfl (Or.inr ⟨_, rfl⟩) (Nat.le_refl _) (Nat.le_refl _) q
  · have hf := pm_it hf c1
    refine pm_aload_n C dX7_space_4 rfl rfl ?_
    obtain ⟨k13, hf⟩ := pm_if hf
    obtain ⟨v14, e15, hf⟩ := pm_bd hf
    refine pm_getR C dX7_space_5 flX7_22 rfl k13 e15 ?_
    refine pm_goto (tgt := 39) C dX7_space_8 (by decide) ?_
    cases hf
    exact pm_aret C X dX7_space_39 rfl (Or.inr ⟨_, rfl⟩) (Nat.le_refl _) (Nat.le_refl _) q
theorem dX8_compareWhole_0 : decode cX8_compareWhole 0 = .ok (.iload_n 0, 1) := by decide +kernel
theorem dX8_compareWhole_1 : decode cX8_compareWhole 1 = .ok (.tableswitch 212 0 9 #[55, 71, 87, 103, 119, 134, 150, 165, 181, 196], 55) := by decide +kernel
theorem dX8_compareWhole_56 : decode cX8_compareWhole 56 = .ok (.lload_n 1, 1) := by decide +kernel
theorem dX8_compareWhole_57 : decode cX8_compareWhole 57 = .ok (.lconst 0, 1) := by decide +kernel
theorem dX8_compareWhole_58 : decode cX8_compareWhole 58 = .ok (.lcmp, 1) := by decide +kernel
theorem dX8_compareWhole_59 : decode cX8_compareWhole 59 = .ok (.ifCond .ne 7, 3) := by decide +kernel
theorem dX8_compareWhole_62 : decode cX8_compareWhole 62 = .ok (.iconst 1, 1) := by decide +kernel
theorem dX8_compareWhole_63 : decode cX8_compareWhole 63 = .ok (.goto 4, 3) := by decide +kernel
theorem dX8_compareWhole_66 : decode cX8_compareWhole 66 = .ok (.iconst 0, 1) := by decide +kernel
theorem dX8_compareWhole_67 : decode cX8_compareWhole 67 = .ok (.istore 6, 2) := by decide +kernel
theorem dX8_compareWhole_69 : decode cX8_compareWhole 69 = .ok (.goto 156, 3) := by decide +kernel
theorem dX8_compareWhole_72 : decode cX8_compareWhole 72 = .ok (.lload_n 1, 1) := by decide +kernel
theorem dX8_compareWhole_73 : decode cX8_compareWhole 73 = .ok (.lload_n 3, 1) := by decide +kernel
theorem dX8_compareWhole_74 : decode cX8_compareWhole 74 = .ok (.lcmp, 1) := by decide +kernel
theorem dX8_compareWhole_75 : decode cX8_compareWhole 75 = .ok (.ifCond .ne 7, 3) := by decide +kernel
theorem dX8_compareWhole_78 : decode cX8_compareWhole 78 = .ok (.iconst 1, 1) := by decide +kernel
theorem dX8_compareWhole_79 : decode cX8_compareWhole 79 = .ok (.goto 4, 3) := by decide +kernel
theorem dX8_compareWhole_82 : decode cX8_compareWhole 82 = .ok (.iconst 0, 1) := by decide +kernel
theorem dX8_compareWhole_83 : decode cX8_compareWhole 83 = .ok (.istore 6, 2) := by decide +kernel
theorem dX8_compareWhole_85 : decode cX8_compareWhole 85 = .ok (.goto 140, 3) := by decide +kernel
theorem dX8_compareWhole_88 : decode cX8_compareWhole 88 = .ok (.lload_n 1, 1) := by decide +kernel
theorem dX8_compareWhole_89 : decode cX8_compareWhole 89 = .ok (.lload_n 3, 1) := by decide +kernel
theorem dX8_compareWhole_90 : decode cX8_compareWhole 90 = .ok (.lcmp, 1) := by decide +kernel
theorem dX8_compareWhole_91 : decode cX8_compareWhole 91 = .ok (.ifCond .eq 7, 3) := by decide +kernel
theorem dX8_compareWhole_94 : decode cX8_compareWhole 94 = .ok (.iconst 1, 1) := by decide +kernel
theorem dX8_compareWhole_95 : decode cX8_compareWhole 95 = .ok (.goto 4, 3) := by decide +kernel
theorem dX8_compareWhole_98 : decode cX8_compareWhole 98 = .ok (.iconst 0, 1) := by decide +kernel
theorem dX8_compareWhole_99 : decode cX8_compareWhole 99 = .ok (.istore 6, 2) := by decide +kernel
theorem dX8_compareWhole_101 : decode cX8_compareWhole 101 = .ok (.goto 124, 3) := by decide +kernel
theorem dX8_compareWhole_104 : decode cX8_compareWhole 104 = .ok (.lload_n 1, 1) := by decide +kernel
theorem dX8_compareWhole_105 : decode cX8_compareWhole 105 = .ok (.lload_n 3, 1) := by decide +kernel
theorem dX8_compareWhole_106 : decode cX8_compareWhole 106 = .ok (.lcmp, 1) := by decide +kernel
theorem dX8_compareWhole_107 : decode cX8_compareWhole 107 = .ok (.ifCond .ge 7, 3) := by decide +kernel
theorem dX8_compareWhole_110 : decode cX8_compareWhole 110 = .ok (.iconst 1, 1) := by decide +kernel
theorem dX8_compareWhole_111 : decode cX8_compareWhole 111 = .ok (.goto 4, 3) := by decide +kernel
theorem dX8_compareWhole_114 : decode cX8_compareWhole 114 = .ok (.iconst 0, 1) := by decide +kernel
theorem dX8_compareWhole_115 : decode cX8_compareWhole 115 = .ok (.istore 6, 2) := by decide +kernel
theorem dX8_compareWhole_117 : decode cX8_compareWhole 117 = .ok (.goto 108, 3) := by decide +kernel
theorem dX8_compareWhole_120 : decode cX8_compareWhole 120 = .ok (.iload 5, 2) := by decide +kernel
theorem dX8_compareWhole_122 : decode cX8_compareWhole 122 = .ok (.ifCond .ge 7, 3) := by decide +kernel
theorem dX8_compareWhole_125 : decode cX8_compareWhole 125 = .ok (.iconst 1, 1) := by decide +kernel
theorem dX8_compareWhole_126 : decode cX8_compareWhole 126 = .ok (.goto 4, 3) := by decide +kernel
theorem dX8_compareWhole_129 : decode cX8_compareWhole 129 = .ok (.iconst 0, 1) := by decide +kernel
theorem dX8_compareWhole_130 : decode cX8_compareWhole 130 = .ok (.istore 6, 2) := by decide +kernel
theorem dX8_compareWhole_132 : decode cX8_compareWhole 132 = .ok (.goto 93, 3) := by decide +kernel
theorem dX8_compareWhole_135 : decode cX8_compareWhole 135 = .ok (.lload_n 1, 1) := by decide +kernel
theorem dX8_compareWhole_136 : decode cX8_compareWhole 136 = .ok (.lload_n 3, 1) := by decide +kernel
theorem dX8_compareWhole_137 : decode cX8_compareWhole 137 = .ok (.lcmp, 1) := by decide +kernel
theorem dX8_compareWhole_138 : decode cX8_compareWhole 138 = .ok (.ifCond .le 7, 3) := by decide +kernel
theorem dX8_compareWhole_141 : decode cX8_compareWhole 141 = .ok (.iconst 1, 1) := by decide +kernel
theorem dX8_compareWhole_142 : decode cX8_compareWhole 142 = .ok (.goto 4, 3) := by decide +kernel
theorem dX8_compareWhole_145 : decode cX8_compareWhole 145 = .ok (.iconst 0, 1) := by decide +kernel
theorem dX8_compareWhole_146 : decode cX8_compareWhole 146 = .ok (.istore 6, 2) := by decide +kernel
theorem dX8_compareWhole_148 : decode cX8_compareWhole 148 = .ok (.goto 77, 3) := by decide +kernel
theorem dX8_compareWhole_151 : decode cX8_compareWhole 151 = .ok (.iload 5, 2) := by decide +kernel
theorem dX8_compareWhole_153 : decode cX8_compareWhole 153 = .ok (.ifCond .le 7, 3) := by decide +kernel
theorem dX8_compareWhole_156 : decode cX8_compareWhole 156 = .ok (.iconst 1, 1) := by decide +kernel
theorem dX8_compareWhole_157 : decode cX8_compareWhole 157 = .ok (.goto 4, 3) := by decide +kernel
theorem dX8_compareWhole_160 : decode cX8_compareWhole 160 = .ok (.iconst 0, 1) := by decide +kernel
theorem dX8_compareWhole_161 : decode cX8_compareWhole 161 = .ok (.istore 6, 2) := by decide +kernel
theorem dX8_compareWhole_163 : decode cX8_compareWhole 163 = .ok (.goto 62, 3) := by decide +kernel
theorem dX8_compareWhole_166 : decode cX8_compareWhole 166 = .ok (.lload_n 1, 1) := by decide +kernel
theorem dX8_compareWhole_167 : decode cX8_compareWhole 167 = .ok (.lload_n 3, 1) := by decide +kernel
theorem dX8_compareWhole_168 : decode cX8_compareWhole 168 = .ok (.lcmp, 1) := by decide +kernel
theorem dX8_compareWhole_169 : decode cX8_compareWhole 169 = .ok (.ifCond .gt 7, 3) := by decide +kernel
theorem dX8_compareWhole_172 : decode cX8_compareWhole 172 = .ok (.iconst 1, 1) := by decide +kernel
theorem dX8_compareWhole_173 : decode cX8_compareWhole 173 = .ok (.goto 4, 3) := by decide +kernel
theorem dX8_compareWhole_176 : decode cX8_compareWhole 176 = .ok (.iconst 0, 1) := by decide +kernel
theorem dX8_compareWhole_177 : decode cX8_compareWhole 177 = .ok (.istore 6, 2) := by decide +kernel
theorem dX8_compareWhole_179 : decode cX8_compareWhole 179 = .ok (.goto 46, 3) := by decide +kernel
theorem dX8_compareWhole_182 : decode cX8_compareWhole 182 = .ok (.iload 5, 2) := by decide +kernel
theorem dX8_compareWhole_184 : decode cX8_compareWhole 184 = .ok (.ifCond .gt 7, 3) := by decide +kernel
theorem dX8_compareWhole_187 : decode cX8_compareWhole 187 = .ok (.iconst 1, 1) := by decide +kernel
theorem dX8_compareWhole_188 : decode cX8_compareWhole 188 = .ok (.goto 4, 3) := by decide +kernel
theorem dX8_compareWhole_191 : decode cX8_compareWhole 191 = .ok (.iconst 0, 1) := by decide +kernel
theorem dX8_compareWhole_192 : decode cX8_compareWhole 192 = .ok (.istore 6, 2) := by decide +kernel
theorem dX8_compareWhole_194 : decode cX8_compareWhole 194 = .ok (.goto 31, 3) := by decide +kernel
theorem dX8_compareWhole_197 : decode cX8_compareWhole 197 = .ok (.lload_n 1, 1) := by decide +kernel
theorem dX8_compareWhole_198 : decode cX8_compareWhole 198 = .ok (.lload_n 3, 1) := by decide +kernel
theorem dX8_compareWhole_199 : decode cX8_compareWhole 199 = .ok (.lcmp, 1) := by decide +kernel
theorem dX8_compareWhole_200 : decode cX8_compareWhole 200 = .ok (.ifCond .lt 7, 3) := by decide +kernel
theorem dX8_compareWhole_203 : decode cX8_compareWhole 203 = .ok (.iconst 1, 1) := by decide +kernel
theorem dX8_compareWhole_204 : decode cX8_compareWhole 204 = .ok (.goto 4, 3) := by decide +kernel
theorem dX8_compareWhole_207 : decode cX8_compareWhole 207 = .ok (.iconst 0, 1) := by decide +kernel
theorem dX8_compareWhole_208 : decode cX8_compareWhole 208 = .ok (.istore 6, 2) := by decide +kernel
theorem dX8_compareWhole_210 : decode cX8_compareWhole 210 = .ok (.goto 15, 3) := by decide +kernel
theorem dX8_compareWhole_213 : decode cX8_compareWhole 213 = .ok (.iload 5, 2) := by decide +kernel
theorem dX8_compareWhole_215 : decode cX8_compareWhole 215 = .ok (.ifCond .lt 7, 3) := by decide +kernel
theorem dX8_compareWhole_218 : decode cX8_compareWhole 218 = .ok (.iconst 1, 1) := by decide +kernel
theorem dX8_compareWhole_219 : decode cX8_compareWhole 219 = .ok (.goto 4, 3) := by decide +kernel
theorem dX8_compareWhole_222 : decode cX8_compareWhole 222 = .ok (.iconst 0, 1) := by decide +kernel
theorem dX8_compareWhole_223 : decode cX8_compareWhole 223 = .ok (.istore 6, 2) := by decide +kernel
theorem dX8_compareWhole_225 : decode cX8_compareWhole 225 = .ok (.iload 6, 2) := by decide +kernel
theorem dX8_compareWhole_227 : decode cX8_compareWhole 227 = .ok (.ifCond .eq 7, 3) := by decide +kernel
theorem dX8_compareWhole_230 : decode cX8_compareWhole 230 = .ok (.lconst 1, 1) := by decide +kernel
theorem dX8_compareWhole_231 : decode cX8_compareWhole 231 = .ok (.goto 4, 3) := by decide +kernel
theorem dX8_compareWhole_234 : decode cX8_compareWhole 234 = .ok (.lconst 0, 1) := by decide +kernel
theorem dX8_compareWhole_235 : decode cX8_compareWhole 235 = .ok (.lreturn, 1) := by decide +kernel
def fX8_compareWhole_b225 (x6 : Int32) : Int64 := if x6 = 0 then (0) else (1)
def fX8_compareWhole (p1 : Int32) (p2 : Int64) (p3 : Int64) (p4 : Int32) : Int64 := if p1 = 0 then (if p2 = 0 then (fX8_compareWhole_b225 1) else (fX8_compareWhole_b225 0)) else (if p1 = 1 then (if p2 = p3 then (fX8_compareWhole_b225 1) else (fX8_compareWhole_b225 0)) else (if p1 = 2 then (if p2 = p3 then (fX8_compareWhole_b225 0) else (fX8_compareWhole_b225 1)) else (if p1 = 3 then (if p3 ≤ p2 then (fX8_compareWhole_b225 0) else (fX8_compareWhole_b225 1)) else (if p1 = 4 then (if 0 ≤ p4 then (fX8_compareWhole_b225 0) else (fX8_compareWhole_b225 1)) else (if p1 = 5 then (if p2 ≤ p3 then (fX8_compareWhole_b225 0) else (fX8_compareWhole_b225 1)) else (if p1 = 6 then (if p4 ≤ 0 then (fX8_compareWhole_b225 0) else (fX8_compareWhole_b225 1)) else (if p1 = 7 then (if p3 < p2 then (fX8_compareWhole_b225 0) else (fX8_compareWhole_b225 1)) else (if p1 = 8 then (if 0 < p4 then (fX8_compareWhole_b225 0) else (fX8_compareWhole_b225 1)) else (if p1 = 9 then (if p2 < p3 then (fX8_compareWhole_b225 0) else (fX8_compareWhole_b225 1)) else (if p4 < 0 then (fX8_compareWhole_b225 0) else (fX8_compareWhole_b225 1)))))))))))
set_option maxHeartbeats 4000000 in
set_option maxRecDepth 100000 in
theorem bX8_compareWhole_225 {g : pm_Gm} {l : Launch} {G : pm_Gl} {Qr : Option Value → pm_H → Prop} (C : pm_C g cX8_compareWhole RX8) (X : pm_X g l G mX8_compareWhole 0 0 Qr) {h : pm_H} {x6 : Int32} {r : Int64} (hf : fX8_compareWhole_b225 x6 = r) (q : Qr (some (.long r)) h) : pm_G g 225 [(6, .int x6)] [] h 0 0 := by
  unfold fX8_compareWhole_b225 at hf
  refine pm_iload C dX8_compareWhole_225 rfl ?_
  refine pm_if_eq (tgt := 234) C dX8_compareWhole_227 (by decide) (fun c22 => ?_) (fun c22 => ?_)
  · have hf := pm_it hf c22
    refine pm_lconst (v := 0) C dX8_compareWhole_234 (by decide) ?_
    subst hf
    exact pm_lret C X dX8_compareWhole_235 rfl (Nat.le_refl _) (Nat.le_refl _) q
  · have hf := pm_ie hf c22
    refine pm_lconst (v := 1) C dX8_compareWhole_230 (by decide) ?_
    refine pm_goto (tgt := 235) C dX8_compareWhole_231 (by decide) ?_
    subst hf
    exact pm_lret C X dX8_compareWhole_235 rfl (Nat.le_refl _) (Nat.le_refl _) q
set_option maxHeartbeats 4000000 in
set_option maxRecDepth 100000 in
theorem ctX8_compareWhole {l : Launch} {G : pm_Gl} {h : pm_H} {p1 : Int32} {p2 : Int64} {p3 : Int64} {p4 : Int32} {r : Int64} {Qr : Option Value → pm_H → Prop} (hf : fX8_compareWhole p1 p2 p3 p4 = r) (q : Qr (some (.long r)) h) : pm_Ct l G mX8_compareWhole [.int p1, .long p2, .long p3, .int p4] h 0 0 Qr := by
  refine pm_body pnX8 (Nat.le_of_ble_eq_true rfl) (fun g C X => ?_)
  have C : pm_C g cX8_compareWhole RX8 := C
  show pm_G g 0 [(0, .int p1), (1, .long p2), (3, .long p3), (5, .int p4)] [] h 0 0
  unfold fX8_compareWhole at hf
  refine pm_iload_n C dX8_compareWhole_0 rfl rfl ?_
  by_cases c1 : p1 = 0
  · have hf := pm_it hf c1
    refine pm_tableIn (tgt := 56) C dX8_compareWhole_1 (by rw [c1]; decide) (by rw [c1]; decide) (by rw [c1]; rfl) (by decide) ?_
    refine pm_lload_n C dX8_compareWhole_56 rfl rfl ?_
    refine pm_lconst (v := 0) C dX8_compareWhole_57 (by decide) ?_
    refine pm_lcmp C dX8_compareWhole_58 ?_
    refine pm_if_ne (tgt := 66) C dX8_compareWhole_59 (by decide) (fun c2 => ?_) (fun c2 => ?_)
    · have hf := pm_ie hf ((fun z => c2 ((pm_lg_eq _ _).mpr z)))
      refine pm_iconst (v := 0) C dX8_compareWhole_66 (by decide) ?_
      refine pm_istore (lv' := [(6, .int 0), (0, .int p1), (1, .long p2), (3, .long p3), (5, .int p4)]) C dX8_compareWhole_67 (pm_nl X (by decide)) rfl ?_
      refine pm_goto (tgt := 225) C dX8_compareWhole_69 (by decide) ?_
      exact pm_sub [0] rfl (bX8_compareWhole_225 C X hf q)
    · have hf := pm_it hf ((pm_lg_eq _ _).mp c2)
      refine pm_iconst (v := 1) C dX8_compareWhole_62 (by decide) ?_
      refine pm_goto (tgt := 67) C dX8_compareWhole_63 (by decide) ?_
      refine pm_istore (lv' := [(6, .int 1), (0, .int p1), (1, .long p2), (3, .long p3), (5, .int p4)]) C dX8_compareWhole_67 (pm_nl X (by decide)) rfl ?_
      refine pm_goto (tgt := 225) C dX8_compareWhole_69 (by decide) ?_
      exact pm_sub [0] rfl (bX8_compareWhole_225 C X hf q)
  have hf := pm_ie hf c1
  by_cases c3 : p1 = 1
  · have hf := pm_it hf c3
    refine pm_tableIn (tgt := 72) C dX8_compareWhole_1 (by rw [c3]; decide) (by rw [c3]; decide) (by rw [c3]; rfl) (by decide) ?_
    refine pm_lload_n C dX8_compareWhole_72 rfl rfl ?_
    refine pm_lload_n C dX8_compareWhole_73 rfl rfl ?_
    refine pm_lcmp C dX8_compareWhole_74 ?_
    refine pm_if_ne (tgt := 82) C dX8_compareWhole_75 (by decide) (fun c4 => ?_) (fun c4 => ?_)
    · have hf := pm_ie hf ((fun z => c4 ((pm_lg_eq _ _).mpr z)))
      refine pm_iconst (v := 0) C dX8_compareWhole_82 (by decide) ?_
      refine pm_istore (lv' := [(6, .int 0), (0, .int p1), (1, .long p2), (3, .long p3), (5, .int p4)]) C dX8_compareWhole_83 (pm_nl X (by decide)) rfl ?_
      refine pm_goto (tgt := 225) C dX8_compareWhole_85 (by decide) ?_
      exact pm_sub [0] rfl (bX8_compareWhole_225 C X hf q)
    · have hf := pm_it hf ((pm_lg_eq _ _).mp c4)
      refine pm_iconst (v := 1) C dX8_compareWhole_78 (by decide) ?_
      refine pm_goto (tgt := 83) C dX8_compareWhole_79 (by decide) ?_
      refine pm_istore (lv' := [(6, .int 1), (0, .int p1), (1, .long p2), (3, .long p3), (5, .int p4)]) C dX8_compareWhole_83 (pm_nl X (by decide)) rfl ?_
      refine pm_goto (tgt := 225) C dX8_compareWhole_85 (by decide) ?_
      exact pm_sub [0] rfl (bX8_compareWhole_225 C X hf q)
  have hf := pm_ie hf c3
  by_cases c5 : p1 = 2
  · have hf := pm_it hf c5
    refine pm_tableIn (tgt := 88) C dX8_compareWhole_1 (by rw [c5]; decide) (by rw [c5]; decide) (by rw [c5]; rfl) (by decide) ?_
    refine pm_lload_n C dX8_compareWhole_88 rfl rfl ?_
    refine pm_lload_n C dX8_compareWhole_89 rfl rfl ?_
    refine pm_lcmp C dX8_compareWhole_90 ?_
    refine pm_if_eq (tgt := 98) C dX8_compareWhole_91 (by decide) (fun c6 => ?_) (fun c6 => ?_)
    · have hf := pm_it hf ((pm_lg_eq _ _).mp c6)
      refine pm_iconst (v := 0) C dX8_compareWhole_98 (by decide) ?_
      refine pm_istore (lv' := [(6, .int 0), (0, .int p1), (1, .long p2), (3, .long p3), (5, .int p4)]) C dX8_compareWhole_99 (pm_nl X (by decide)) rfl ?_
      refine pm_goto (tgt := 225) C dX8_compareWhole_101 (by decide) ?_
      exact pm_sub [0] rfl (bX8_compareWhole_225 C X hf q)
    · have hf := pm_ie hf ((fun z => c6 ((pm_lg_eq _ _).mpr z)))
      refine pm_iconst (v := 1) C dX8_compareWhole_94 (by decide) ?_
      refine pm_goto (tgt := 99) C dX8_compareWhole_95 (by decide) ?_
      refine pm_istore (lv' := [(6, .int 1), (0, .int p1), (1, .long p2), (3, .long p3), (5, .int p4)]) C dX8_compareWhole_99 (pm_nl X (by decide)) rfl ?_
      refine pm_goto (tgt := 225) C dX8_compareWhole_101 (by decide) ?_
      exact pm_sub [0] rfl (bX8_compareWhole_225 C X hf q)
  have hf := pm_ie hf c5
  by_cases c7 : p1 = 3
  · have hf := pm_it hf c7
    refine pm_tableIn (tgt := 104) C dX8_compareWhole_1 (by rw [c7]; decide) (by rw [c7]; decide) (by rw [c7]; rfl) (by decide) ?_
    refine pm_lload_n C dX8_compareWhole_104 rfl rfl ?_
    refine pm_lload_n C dX8_compareWhole_105 rfl rfl ?_
    refine pm_lcmp C dX8_compareWhole_106 ?_
    refine pm_if_ge (tgt := 114) C dX8_compareWhole_107 (by decide) (fun c8 => ?_) (fun c8 => ?_)
    · have hf := pm_it hf ((pm_lg_ge _ _).mp c8)
      refine pm_iconst (v := 0) C dX8_compareWhole_114 (by decide) ?_
      refine pm_istore (lv' := [(6, .int 0), (0, .int p1), (1, .long p2), (3, .long p3), (5, .int p4)]) C dX8_compareWhole_115 (pm_nl X (by decide)) rfl ?_
      refine pm_goto (tgt := 225) C dX8_compareWhole_117 (by decide) ?_
      exact pm_sub [0] rfl (bX8_compareWhole_225 C X hf q)
    · have hf := pm_ie hf ((fun z => c8 ((pm_lg_ge _ _).mpr z)))
      refine pm_iconst (v := 1) C dX8_compareWhole_110 (by decide) ?_
      refine pm_goto (tgt := 115) C dX8_compareWhole_111 (by decide) ?_
      refine pm_istore (lv' := [(6, .int 1), (0, .int p1), (1, .long p2), (3, .long p3), (5, .int p4)]) C dX8_compareWhole_115 (pm_nl X (by decide)) rfl ?_
      refine pm_goto (tgt := 225) C dX8_compareWhole_117 (by decide) ?_
      exact pm_sub [0] rfl (bX8_compareWhole_225 C X hf q)
  have hf := pm_ie hf c7
  by_cases c9 : p1 = 4
  · have hf := pm_it hf c9
    refine pm_tableIn (tgt := 120) C dX8_compareWhole_1 (by rw [c9]; decide) (by rw [c9]; decide) (by rw [c9]; rfl) (by decide) ?_
    refine pm_iload C dX8_compareWhole_120 rfl ?_
    refine pm_if_ge (tgt := 129) C dX8_compareWhole_122 (by decide) (fun c10 => ?_) (fun c10 => ?_)
    · have hf := pm_it hf c10
      refine pm_iconst (v := 0) C dX8_compareWhole_129 (by decide) ?_
      refine pm_istore (lv' := [(6, .int 0), (0, .int p1), (1, .long p2), (3, .long p3), (5, .int p4)]) C dX8_compareWhole_130 (pm_nl X (by decide)) rfl ?_
      refine pm_goto (tgt := 225) C dX8_compareWhole_132 (by decide) ?_
      exact pm_sub [0] rfl (bX8_compareWhole_225 C X hf q)
    · have hf := pm_ie hf c10
      refine pm_iconst (v := 1) C dX8_compareWhole_125 (by decide) ?_
      refine pm_goto (tgt := 130) C dX8_compareWhole_126 (by decide) ?_
      refine pm_istore (lv' := [(6, .int 1), (0, .int p1), (1, .long p2), (3, .long p3), (5, .int p4)]) C dX8_compareWhole_130 (pm_nl X (by decide)) rfl ?_
      refine pm_goto (tgt := 225) C dX8_compareWhole_132 (by decide) ?_
      exact pm_sub [0] rfl (bX8_compareWhole_225 C X hf q)
  have hf := pm_ie hf c9
  by_cases c11 : p1 = 5
  · have hf := pm_it hf c11
    refine pm_tableIn (tgt := 135) C dX8_compareWhole_1 (by rw [c11]; decide) (by rw [c11]; decide) (by rw [c11]; rfl) (by decide) ?_
    refine pm_lload_n C dX8_compareWhole_135 rfl rfl ?_
    refine pm_lload_n C dX8_compareWhole_136 rfl rfl ?_
    refine pm_lcmp C dX8_compareWhole_137 ?_
    refine pm_if_le (tgt := 145) C dX8_compareWhole_138 (by decide) (fun c12 => ?_) (fun c12 => ?_)
    · have hf := pm_it hf ((pm_lg_le _ _).mp c12)
      refine pm_iconst (v := 0) C dX8_compareWhole_145 (by decide) ?_
      refine pm_istore (lv' := [(6, .int 0), (0, .int p1), (1, .long p2), (3, .long p3), (5, .int p4)]) C dX8_compareWhole_146 (pm_nl X (by decide)) rfl ?_
      refine pm_goto (tgt := 225) C dX8_compareWhole_148 (by decide) ?_
      exact pm_sub [0] rfl (bX8_compareWhole_225 C X hf q)
    · have hf := pm_ie hf ((fun z => c12 ((pm_lg_le _ _).mpr z)))
      refine pm_iconst (v := 1) C dX8_compareWhole_141 (by decide) ?_
      refine pm_goto (tgt := 146) C dX8_compareWhole_142 (by decide) ?_
      refine pm_istore (lv' := [(6, .int 1), (0, .int p1), (1, .long p2), (3, .long p3), (5, .int p4)]) C dX8_compareWhole_146 (pm_nl X (by decide)) rfl ?_
      refine pm_goto (tgt := 225) C dX8_compareWhole_148 (by decide) ?_
      exact pm_sub [0] rfl (bX8_compareWhole_225 C X hf q)
  have hf := pm_ie hf c11
  by_cases c13 : p1 = 6
  · have hf := pm_it hf c13
    refine pm_tableIn (tgt := 151) C dX8_compareWhole_1 (by rw [c13]; decide) (by rw [c13]; decide) (by rw [c13]; rfl) (by decide) ?_
    refine pm_iload C dX8_compareWhole_151 rfl ?_
    refine pm_if_le (tgt := 160) C dX8_compareWhole_153 (by decide) (fun c14 => ?_) (fun c14 => ?_)
    · have hf := pm_it hf c14
      refine pm_iconst (v := 0) C dX8_compareWhole_160 (by decide) ?_
      refine pm_istore (lv' := [(6, .int 0), (0, .int p1), (1, .long p2), (3, .long p3), (5, .int p4)]) C dX8_compareWhole_161 (pm_nl X (by decide)) rfl ?_
      refine pm_goto (tgt := 225) C dX8_compareWhole_163 (by decide) ?_
      exact pm_sub [0] rfl (bX8_compareWhole_225 C X hf q)
    · have hf := pm_ie hf c14
      refine pm_iconst (v := 1) C dX8_compareWhole_156 (by decide) ?_
      refine pm_goto (tgt := 161) C dX8_compareWhole_157 (by decide) ?_
      refine pm_istore (lv' := [(6, .int 1), (0, .int p1), (1, .long p2), (3, .long p3), (5, .int p4)]) C dX8_compareWhole_161 (pm_nl X (by decide)) rfl ?_
      refine pm_goto (tgt := 225) C dX8_compareWhole_163 (by decide) ?_
      exact pm_sub [0] rfl (bX8_compareWhole_225 C X hf q)
  have hf := pm_ie hf c13
  by_cases c15 : p1 = 7
  · have hf := pm_it hf c15
    refine pm_tableIn (tgt := 166) C dX8_compareWhole_1 (by rw [c15]; decide) (by rw [c15]; decide) (by rw [c15]; rfl) (by decide) ?_
    refine pm_lload_n C dX8_compareWhole_166 rfl rfl ?_
    refine pm_lload_n C dX8_compareWhole_167 rfl rfl ?_
    refine pm_lcmp C dX8_compareWhole_168 ?_
    refine pm_if_gt (tgt := 176) C dX8_compareWhole_169 (by decide) (fun c16 => ?_) (fun c16 => ?_)
    · have hf := pm_it hf ((pm_lg_gt _ _).mp c16)
      refine pm_iconst (v := 0) C dX8_compareWhole_176 (by decide) ?_
      refine pm_istore (lv' := [(6, .int 0), (0, .int p1), (1, .long p2), (3, .long p3), (5, .int p4)]) C dX8_compareWhole_177 (pm_nl X (by decide)) rfl ?_
      refine pm_goto (tgt := 225) C dX8_compareWhole_179 (by decide) ?_
      exact pm_sub [0] rfl (bX8_compareWhole_225 C X hf q)
    · have hf := pm_ie hf ((fun z => c16 ((pm_lg_gt _ _).mpr z)))
      refine pm_iconst (v := 1) C dX8_compareWhole_172 (by decide) ?_
      refine pm_goto (tgt := 177) C dX8_compareWhole_173 (by decide) ?_
      refine pm_istore (lv' := [(6, .int 1), (0, .int p1), (1, .long p2), (3, .long p3), (5, .int p4)]) C dX8_compareWhole_177 (pm_nl X (by decide)) rfl ?_
      refine pm_goto (tgt := 225) C dX8_compareWhole_179 (by decide) ?_
      exact pm_sub [0] rfl (bX8_compareWhole_225 C X hf q)
  have hf := pm_ie hf c15
  by_cases c17 : p1 = 8
  · have hf := pm_it hf c17
    refine pm_tableIn (tgt := 182) C dX8_compareWhole_1 (by rw [c17]; decide) (by rw [c17]; decide) (by rw [c17]; rfl) (by decide) ?_
    refine pm_iload C dX8_compareWhole_182 rfl ?_
    refine pm_if_gt (tgt := 191) C dX8_compareWhole_184 (by decide) (fun c18 => ?_) (fun c18 => ?_)
    · have hf := pm_it hf c18
      refine pm_iconst (v := 0) C dX8_compareWhole_191 (by decide) ?_
      refine pm_istore (lv' := [(6, .int 0), (0, .int p1), (1, .long p2), (3, .long p3), (5, .int p4)]) C dX8_compareWhole_192 (pm_nl X (by decide)) rfl ?_
      refine pm_goto (tgt := 225) C dX8_compareWhole_194 (by decide) ?_
      exact pm_sub [0] rfl (bX8_compareWhole_225 C X hf q)
    · have hf := pm_ie hf c18
      refine pm_iconst (v := 1) C dX8_compareWhole_187 (by decide) ?_
      refine pm_goto (tgt := 192) C dX8_compareWhole_188 (by decide) ?_
      refine pm_istore (lv' := [(6, .int 1), (0, .int p1), (1, .long p2), (3, .long p3), (5, .int p4)]) C dX8_compareWhole_192 (pm_nl X (by decide)) rfl ?_
      refine pm_goto (tgt := 225) C dX8_compareWhole_194 (by decide) ?_
      exact pm_sub [0] rfl (bX8_compareWhole_225 C X hf q)
  have hf := pm_ie hf c17
  by_cases c19 : p1 = 9
  · have hf := pm_it hf c19
    refine pm_tableIn (tgt := 197) C dX8_compareWhole_1 (by rw [c19]; decide) (by rw [c19]; decide) (by rw [c19]; rfl) (by decide) ?_
    refine pm_lload_n C dX8_compareWhole_197 rfl rfl ?_
    refine pm_lload_n C dX8_compareWhole_198 rfl rfl ?_
    refine pm_lcmp C dX8_compareWhole_199 ?_
    refine pm_if_lt (tgt := 207) C dX8_compareWhole_200 (by decide) (fun c20 => ?_) (fun c20 => ?_)
    · have hf := pm_it hf ((pm_lg_lt _ _).mp c20)
      refine pm_iconst (v := 0) C dX8_compareWhole_207 (by decide) ?_
      refine pm_istore (lv' := [(6, .int 0), (0, .int p1), (1, .long p2), (3, .long p3), (5, .int p4)]) C dX8_compareWhole_208 (pm_nl X (by decide)) rfl ?_
      refine pm_goto (tgt := 225) C dX8_compareWhole_210 (by decide) ?_
      exact pm_sub [0] rfl (bX8_compareWhole_225 C X hf q)
    · have hf := pm_ie hf ((fun z => c20 ((pm_lg_lt _ _).mpr z)))
      refine pm_iconst (v := 1) C dX8_compareWhole_203 (by decide) ?_
      refine pm_goto (tgt := 208) C dX8_compareWhole_204 (by decide) ?_
      refine pm_istore (lv' := [(6, .int 1), (0, .int p1), (1, .long p2), (3, .long p3), (5, .int p4)]) C dX8_compareWhole_208 (pm_nl X (by decide)) rfl ?_
      refine pm_goto (tgt := 225) C dX8_compareWhole_210 (by decide) ?_
      exact pm_sub [0] rfl (bX8_compareWhole_225 C X hf q)
  have hf := pm_ie hf c19
  have nc1 := lv_neT c1 (by decide : (0 : Int32).toInt = 0)
  have nc3 := lv_neT c3 (by decide : (1 : Int32).toInt = 1)
  have nc5 := lv_neT c5 (by decide : (2 : Int32).toInt = 2)
  have nc7 := lv_neT c7 (by decide : (3 : Int32).toInt = 3)
  have nc9 := lv_neT c9 (by decide : (4 : Int32).toInt = 4)
  have nc11 := lv_neT c11 (by decide : (5 : Int32).toInt = 5)
  have nc13 := lv_neT c13 (by decide : (6 : Int32).toInt = 6)
  have nc15 := lv_neT c15 (by decide : (7 : Int32).toInt = 7)
  have nc17 := lv_neT c17 (by decide : (8 : Int32).toInt = 8)
  have nc19 := lv_neT c19 (by decide : (9 : Int32).toInt = 9)
  refine pm_tableOut (tgt := 213) C dX8_compareWhole_1 (by omega) (by decide) ?_
  refine pm_iload C dX8_compareWhole_213 rfl ?_
  refine pm_if_lt (tgt := 222) C dX8_compareWhole_215 (by decide) (fun c21 => ?_) (fun c21 => ?_)
  · have hf := pm_it hf c21
    refine pm_iconst (v := 0) C dX8_compareWhole_222 (by decide) ?_
    refine pm_istore (lv' := [(6, .int 0), (0, .int p1), (1, .long p2), (3, .long p3), (5, .int p4)]) C dX8_compareWhole_223 (pm_nl X (by decide)) rfl ?_
    exact pm_sub [0] rfl (bX8_compareWhole_225 C X hf q)
  · have hf := pm_ie hf c21
    refine pm_iconst (v := 1) C dX8_compareWhole_218 (by decide) ?_
    refine pm_goto (tgt := 223) C dX8_compareWhole_219 (by decide) ?_
    refine pm_istore (lv' := [(6, .int 1), (0, .int p1), (1, .long p2), (3, .long p3), (5, .int p4)]) C dX8_compareWhole_223 (pm_nl X (by decide)) rfl ?_
    exact pm_sub [0] rfl (bX8_compareWhole_225 C X hf q)
theorem dX8_compareWithoutSign_0 : decode cX8_compareWithoutSign 0 = .ok (.lload_n 0, 1) := by decide +kernel
theorem dX8_compareWithoutSign_1 : decode cX8_compareWithoutSign 1 = .ok (.ldc2_w 72, 3) := by decide +kernel
theorem dX8_compareWithoutSign_4 : decode cX8_compareWithoutSign 4 = .ok (.lxor, 1) := by decide +kernel
theorem dX8_compareWithoutSign_5 : decode cX8_compareWithoutSign 5 = .ok (.lload_n 2, 1) := by decide +kernel
theorem dX8_compareWithoutSign_6 : decode cX8_compareWithoutSign 6 = .ok (.ldc2_w 72, 3) := by decide +kernel
theorem dX8_compareWithoutSign_9 : decode cX8_compareWithoutSign 9 = .ok (.lxor, 1) := by decide +kernel
theorem dX8_compareWithoutSign_10 : decode cX8_compareWithoutSign 10 = .ok (.invokestatic 35, 3) := by decide +kernel
theorem dX8_compareWithoutSign_13 : decode cX8_compareWithoutSign 13 = .ok (.ireturn, 1) := by decide +kernel
def fX8_compareWithoutSign (p1 : Int64) (p2 : Int64) : Int32 := pm_let (fJ13_compare_74951 (p1 ^^^ (-9223372036854775808)) (p2 ^^^ (-9223372036854775808))) fun v1 => v1
set_option maxHeartbeats 4000000 in
set_option maxRecDepth 100000 in
theorem ctX8_compareWithoutSign {l : Launch} {G : pm_Gl} {h : pm_H} {p1 : Int64} {p2 : Int64} {r : Int32} {Qr : Option Value → pm_H → Prop} (hf : fX8_compareWithoutSign p1 p2 = r) (q : Qr (some (.int r)) h) : pm_Ct l G mX8_compareWithoutSign [.long p1, .long p2] h 0 0 Qr := by
  refine pm_body pnX8 (Nat.le_of_ble_eq_true rfl) (fun g C X => ?_)
  have C : pm_C g cX8_compareWithoutSign RX8 := C
  show pm_G g 0 [(0, .long p1), (2, .long p2)] [] h 0 0
  unfold fX8_compareWithoutSign at hf
  refine pm_lload_n C dX8_compareWithoutSign_0 rfl rfl ?_
  refine pm_ldc2 C dX8_compareWithoutSign_1 cnX8_72 ?_
  refine pm_lxor C dX8_compareWithoutSign_4 ?_
  refine pm_lload_n C dX8_compareWithoutSign_5 rfl rfl ?_
  refine pm_ldc2 C dX8_compareWithoutSign_6 cnX8_72 ?_
  refine pm_lxor C dX8_compareWithoutSign_9 ?_
  obtain ⟨v1, e2, hf⟩ := pm_lt hf
  refine pm_callS (as := [.long (p1 ^^^ (-9223372036854775808)), .long (p2 ^^^ (-9223372036854775808))]) (st := []) C X dX8_compareWithoutSign_10 lnX8_35 myJ13_compare_74951 stJ13_compare_74951 ⟨by decide, by decide⟩ rfl rfl (Nat.le_of_ble_eq_true rfl) (Nat.le_refl _) (Nat.le_refl _) (ctJ13_compare_74951 e2 ?_)
  show pm_G g 13 [(0, .long p1), (2, .long p2)] [.int v1] h 0 0
  subst hf
  exact pm_iret C X dX8_compareWithoutSign_13 rfl (Nat.le_refl _) (Nat.le_refl _) q
