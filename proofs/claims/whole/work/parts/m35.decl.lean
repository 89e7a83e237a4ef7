/-! THE CLASS CHECKS: the reader moves, functions are declared -/
def eAI (dd x y : Nat) : Prop := (x = 22 ∧ (y = 0 ∨ y = 1)) ∨ x = 19 ∨ x = dd
def eAL (x _ : Nat) : Prop := x = 19
abbrev eF (dd : Nat) : pm_H → pm_H → Prop := gF (eAI dd) eAL
def yC (h : pm_H) (n b mm lo hi dd : Nat) (B : Nat → Nat) (M : tMd) (D : Bool) : Prop := hX h n b mm lo hi B M ∧ (pm_R h 22 4 = some dd ∧ pm_kd h dd = 32 ∧ pm_ln h dd = (spF M).length) ∧ hi ≤ dd ∧ (0 ≤ pm_L h mm 14) = (D = true)
def yS (h0 : pm_H) (dd nf : Nat) (o : Option (Nat × Nat)) (L : List Nat) (r : pm_H) : Prop := eF dd h0 r ∧ match o with
  | none => pm_I r 22 0 = 0 ∧ xD r dd nf (fun i => decide (i ∈ L))
  | some w => (0 < w.1 ∧ w.1 < 100) ∧ pm_I r 22 0 = Int32.ofNat w.1 ∧ pm_I r 22 1 = Int32.ofNat w.2
/-- the reader stands at p, and may read on -/
def yR (r : pm_H) (n p : Nat) : Prop := pm_I r 19 1 = Int32.ofNat p ∧ pm_I r 19 2 = Int32.ofNat n ∧ pm_I r 19 3 = 0 ∧ pm_I r 19 16 = 0
section XDCL
variable {h0 h h' r : pm_H} {n b mm lo hi dd id w nf p : Nat} {B : Nat → Nat} {M : tMd} {D : Bool} {o : Option (Nat × Nat)} {L L' : List Nat}
theorem yC_F (X : yC h n b mm lo hi dd B M D) (F : eF dd h h') : yC h' n b mm lo hi dd B M D := by
  obtain ⟨X, ⟨d1, d2, d3⟩, hd, dt⟩ := X
  have K : kC lo hi h h' := fun x h1 h2 => by
    obtain ⟨-, -, -, a1, a2, a3, a4⟩ := X
    exact ⟨by rw [F.2.1], by rw [F.2.2.1], funext fun y => F.2.2.2.2.1 x y (by unfold eAI; omega), funext fun y => F.2.2.2.2.2 x y (by unfold eAL; omega), by rw [F.2.2.2.1]⟩
  obtain ⟨S, C, Q, a1, a2, a3, a4⟩ := X
  have kd := F.2.1
  have ln := F.2.2.1
  have rr := F.2.2.2.1
  have k14 := F.2.2.2.2.2 mm 14 (by unfold eAL; omega)
  refine ⟨⟨?_, cMx_k K (Nat.le_refl _) (.inl rfl) (fun j s _ _ _ => by rw [rr]) (by decide) (F.2.2.2.2.2 mm 13 (by unfold eAL; omega)) k14 C, by rw [kd, rr]; exact Q, a1, a2, a3, a4⟩, by rw [kd, ln, rr]; exact ⟨d1, d2, d3⟩, hd, by rw [k14]; exact dt⟩
  obtain ⟨s1, s2, s3, s4, s5, s6, s7, s8, s9, s10⟩ := S
  unfold cS
  rw [kd, ln, rr]
  exact ⟨s1, s2, s3, s4, s5, s6, s7, s8, fun i hi => by rw [F.2.2.2.2.1 b i (by unfold eAI; omega)]; exact s9 i hi, s10⟩
theorem eF_f (F : fF h h') : eF dd h h' := gF_m F (fun _ _ z => .inl z) (fun _ _ z => z.elim)
theorem fF_19 (F : fF h h') (y : Nat) : pm_I h' 19 y = pm_I h 19 y := F.2.2.2.2.1 19 y (by omega)
theorem yR_f (F : fF h h') (R : yR h n p) : yR h' n p := by
  obtain ⟨r1, r2, r3, r4⟩ := R
  exact ⟨(fF_19 F 1).trans r1, (fF_19 F 2).trans r2, (fF_19 F 3).trans r3, (fF_19 F 16).trans r4⟩
/-- what is told behind, whether a fault was told before or not -/
theorem yS_o (F : fF r h') (S : yS h0 dd nf o L r) (H : hS r (oE o (some (w, id))) h') : yS h0 dd nf (oE o (some (w, id))) L' h' := by
  refine ⟨gF_t S.1 (eF_f F), ?_⟩
  cases o with
  | none => exact H.2
  | some v => exact H.2
theorem yS_h (S : yS h0 dd nf o L r) : hS r o r := ⟨gF_r _ _ r, by
  cases o with
  | none => exact S.2.1
  | some v => exact S.2⟩
/-- a fault at a section -/
theorem y_fs (X : yC h0 n b mm lo hi dd B M D) (S : yS h0 dd nf o L r) (hw : 0 < w ∧ w < 100) (hi' : 1 ≤ id ∧ id < 13) : ∃ r', fX1_failSection r 22 (Int32.ofNat w) (Int32.ofNat id) = some r' ∧ yS h0 dd nf (oE o (some (w, sS M id))) L' r' ∧ fF r r' := by
  obtain ⟨r', e, S'⟩ := x_fs (yC_F X S.1).1 (yS_h S) hw hi'
  exact ⟨r', e, yS_o S'.1 S S', S'.1⟩
theorem oE_ns (o : Option (Nat × Nat)) (v : Nat × Nat) : oE o (some v) ≠ none := by cases o <;> exact fun h => by cases h
/-- a fault at a place -/
theorem y_fa (X : yC h0 n b mm lo hi dd B M D) (S : yS h0 dd nf o L r) (hw : 0 < w ∧ w < 100) : ∃ r', fX1_failAt r 22 (Int32.ofNat w) (Int32.ofNat p) = some r' ∧ yS h0 dd nf (oE o (some (w, p))) L' r' ∧ fF r r' := by
  have q1 := (yC_F X S.1).1.2.2.1.1
  cases o with
  | none =>
    have S' : pm_I r 22 0 = 0 := S.2.1
    have F : fF r (pm_setI (pm_setI r 22 0 (Int32.ofNat w)) 22 1 (Int32.ofNat p)) := gF_t (gF_I r _ ⟨rfl, .inl rfl⟩) (gF_I _ _ ⟨rfl, .inr rfl⟩)
    refine ⟨_, ?_, ⟨gF_t S.1 (eF_f F), hw, ?_, ?_⟩, F⟩
    · unfold fX1_failAt
      exact e9_t q1 (e9_t S' rfl)
    · rw [ev_II, if_pos rfl, if_neg (by decide), ev_II, if_pos rfl, if_pos rfl]
    · rw [ev_II, if_pos rfl, if_pos rfl]
  | some v =>
    have z1 : 0 < v.1 ∧ v.1 < 100 := S.2.1
    have z2 : pm_I r 22 0 = Int32.ofNat v.1 := S.2.2.1
    refine ⟨r, ?_, S, gF_r _ _ r⟩
    unfold fX1_failAt
    exact e9_t q1 (e9_f (by rw [z2, n3_0, nn_eq (by omega) (by decide)]; omega) rfl)
/-- a fault at the instruction that was read -/
theorem y_fl (X : yC h0 n b mm lo hi dd B M D) (S : yS h0 dd nf o L r) (hw : 0 < w ∧ w < 100) (hp : o = none → pm_I r 19 7 = Int32.ofNat p) : ∃ r', fX1_fail r 22 (Int32.ofNat w) = some r' ∧ yS h0 dd nf (oE o (some (w, p))) L' r' ∧ fF r r' := by
  obtain ⟨⟨s1, -⟩, -, q1, -, q3⟩ : hX r n b mm lo hi B M ∧ True ∧ pm_kd r 22 = 1 ∧ True ∧ pm_R r 22 3 = some 19 := ⟨(yC_F X S.1).1, trivial, (yC_F X S.1).1.2.2.1.1, trivial, (yC_F X S.1).1.2.2.1.2.2⟩
  cases o with
  | none =>
    have S' : pm_I r 22 0 = 0 := S.2.1
    have F : fF r (pm_setI (pm_setI r 22 0 (Int32.ofNat w)) 22 1 (Int32.ofNat p)) := gF_t (gF_I r _ ⟨rfl, .inl rfl⟩) (gF_I _ _ ⟨rfl, .inr rfl⟩)
    refine ⟨_, ?_, ⟨gF_t S.1 (eF_f F), hw, ?_, ?_⟩, F⟩
    · unfold fX1_fail
      refine e9_t q1 (e9_t S' (e9_b q3 (e9_t s1.1 (e9_l ?_))))
      rw [ev_II, if_neg (by decide), hp rfl]
    · rw [ev_II, if_pos rfl, if_neg (by decide), ev_II, if_pos rfl, if_pos rfl]
    · rw [ev_II, if_pos rfl, if_pos rfl]
  | some v =>
    have z1 : 0 < v.1 ∧ v.1 < 100 := S.2.1
    have z2 : pm_I r 22 0 = Int32.ofNat v.1 := S.2.2.1
    refine ⟨r, ?_, S, gF_r _ _ r⟩
    unfold fX1_fail
    exact e9_t q1 (e9_f (by rw [z2, n3_0, nn_eq (by omega) (by decide)]; omega) rfl)
theorem vp_b1 : vp_nar .boolean 1 = 1 := by first | rfl | decide
/-- a function is declared -/
theorem y_dcl {f g : Nat} (X : yC h0 n b mm lo hi dd B M D) (S : yS h0 dd (spF M).length o L r) (hf : f < 9223372036854775808) (hg : f = g ∨ ((spF M).length ≤ f ∧ (spF M).length ≤ g)) : ∃ r', fX1_declare r 22 (Int64.ofNat f) = some r' ∧ yS h0 dd (spF M).length o (L ++ [g]) r' ∧ pm_I r' 19 = pm_I r 19 ∧ pm_L r' = pm_L r := by
  have Xr := yC_F X S.1
  obtain ⟨X1, ⟨d1, d2, d3⟩, hd, dt⟩ := Xr
  obtain ⟨-, cc, ⟨q1, -, -⟩, a1, a2, a3, a4⟩ := X1
  have l8 : (spF M).length ≤ 81920 := by obtain ⟨x, -, -, -, -, -, a, -⟩ := cc.2.2.1 (by decide); exact a
  have z0 : ¬ Int64.ofNat f < 0 := by rw [show (0 : Int64) = Int64.ofNat 0 from rfl, ll_lt hf (by decide)]; omega
  by_cases c : (spF M).length ≤ f
  · refine ⟨r, ?_, ⟨S.1, ?_⟩, rfl, rfl⟩
    · unfold fX1_declare
      exact e9_f z0 (e9_t q1 (e9_b d1 (e9_t d2 (e9_t (by rw [d3, nn_t6 (by omega), ll_le (by omega) hf]; exact c) rfl))))
    · cases o with
      | some v => exact S.2
      | none =>
        refine ⟨S.2.1, fun i hi => (S.2.2 i hi).trans ?_⟩
        have : decide (i ∈ L ++ [g]) = decide (i ∈ L) := decide_eq_decide.mpr ⟨fun m => by
          rcases List.mem_append.mp m with k | k
          · exact k
          · have := List.mem_singleton.mp k; omega, fun m => List.mem_append.mpr (.inl m)⟩
        show _ = (decide (i ∈ L ++ [g]) = false)
        rw [this]
  · have fg : f = g := by omega
    subst fg
    refine ⟨pm_setI r dd f 1, ?_, ⟨gF_t S.1 (gF_I r _ (.inr (.inr rfl))), ?_⟩, ?_, rfl⟩
    · unfold fX1_declare
      refine e9_f z0 (e9_t q1 (e9_b d1 (e9_t d2 (e9_f (by rw [d3, nn_t6 (by omega), ll_le (by omega) hf]; exact c) ?_))))
      rw [ll_t3, d3, vp_b1]
      refine e9_t (by rw [nn_in (by omega)]; omega) ?_
      rw [nn_cm (by omega)]
    · cases o with
      | some v =>
        refine ⟨S.2.1, ?_, ?_⟩
        · rw [ev_II, if_neg (by omega)]; exact S.2.2.1
        · rw [ev_II, if_neg (by omega)]; exact S.2.2.2
      | none =>
        refine ⟨?_, fun i hi => ?_⟩
        · rw [ev_II, if_neg (by omega)]; exact S.2.1
        · rw [ev_II, if_pos rfl]
          by_cases e : i = f
          · show _ = (decide (i ∈ L ++ [f]) = false)
            rw [if_pos e, decide_eq_true (List.mem_append.mpr (.inr (List.mem_singleton.mpr e)))]
            exact propext ⟨fun z => absurd z (by decide), fun z => absurd z (by decide)⟩
          · rw [if_neg e]
            have : decide (i ∈ L ++ [f]) = decide (i ∈ L) := decide_eq_decide.mpr ⟨fun m => by
              rcases List.mem_append.mp m with k | k
              · exact k
              · exact absurd (List.mem_singleton.mp k) e, fun m => List.mem_append.mpr (.inl m)⟩
            show _ = (decide (i ∈ L ++ [f]) = false)
            rw [this]
            exact S.2.2 i hi
    · funext y
      rw [ev_II, if_neg (by omega)]
/-- the reader is set to a place -/
theorem y_opn (X : yC h0 n b mm lo hi dd B M D) (S : yS h0 dd nf o L r) : ∃ r', fX9_open r 19 mm (Int32.ofNat p) = some r' ∧ yS h0 dd nf o L r' ∧ yR r' n p := by
  have Xr := yC_F X S.1
  obtain ⟨⟨s, -, -, a1, a2, a3, a4⟩, -, hd, -⟩ := Xr
  obtain ⟨s1, s2, s3, s4, s5, s6, s7, -⟩ := s
  have sr : pm_setR r 19 0 (some mm) = r := by
    refine (congrArg (fun z => (pm_sz r, pm_kd r, pm_ln r, pm_I r, pm_L r, z)) (funext fun x => funext fun y => ?_) : _ = (pm_sz r, pm_kd r, pm_ln r, pm_I r, pm_L r, pm_R r))
    show (if x = 19 then (if y = 0 then some mm else pm_R r x y) else pm_R r x y) = pm_R r x y
    split
    · next e1 =>
      split
      · next e2 => rw [e1, e2]; exact s2.symm
      · rfl
    · rfl
  have F : eF dd r (pm_setI (pm_setI (pm_setI (pm_setI (pm_setI r 19 1 (Int32.ofNat p)) 19 2 (Int32.ofNat n)) 19 3 0) 19 4 (-1)) 19 16 0) := gF_t (gF_I r _ (.inr (.inl rfl))) (gF_t (gF_I _ _ (.inr (.inl rfl))) (gF_t (gF_I _ _ (.inr (.inl rfl))) (gF_t (gF_I _ _ (.inr (.inl rfl))) (gF_I _ _ (.inr (.inl rfl))))))
  have k : ∀ x y, x ≠ 19 → pm_I (pm_setI (pm_setI (pm_setI (pm_setI (pm_setI r 19 1 (Int32.ofNat p)) 19 2 (Int32.ofNat n)) 19 3 0) 19 4 (-1)) 19 16 0) x y = pm_I r x y := fun x y hx => by
    rw [ev_II, if_neg hx, ev_II, if_neg hx, ev_II, if_neg hx, ev_II, if_neg hx, ev_II, if_neg hx]
  refine ⟨_, ?_, ⟨gF_t S.1 F, ?_⟩, rfl, rfl, rfl, rfl⟩
  · unfold fX9_open
    rw [sr]
    refine e9_t s1 (e9_t s3 (e9_b s4 (e9_t s5 (e9_l ?_))))
    rw [show pm_ln (pm_setI r 19 1 (Int32.ofNat p)) b = n from s6]
  · cases o with
    | none => exact ⟨(k _ _ (by decide)).trans S.2.1, fun i hi => by rw [k dd i (by omega)]; exact S.2.2 i hi⟩
    | some v => exact ⟨S.2.1, (k _ _ (by decide)).trans S.2.2.1, (k _ _ (by decide)).trans S.2.2.2⟩
/-- an instruction is read -/
theorem y_rd {v : sp_I} {p2 : Nat} (X : yC h0 n b mm lo hi dd B M D) (S : yS h0 dd nf o L r) (R : yR r n p) (hp : p ≤ n) (q : sp_in B n D p = .inr (v, p2)) : ∃ r1, fX9_instruction r 19 = some r1 ∧ yS h0 dd nf o L r1 ∧ yR r1 n p2 ∧ pm_I r1 19 6 = Int32.ofNat v.1 ∧ pm_I r1 19 7 = Int32.ofNat p ∧ pm_L r1 19 8 = v.2.1 := by
  obtain ⟨X1, -, hd, dt⟩ := yC_F X S.1
  obtain ⟨i1, i2, i3, i16⟩ := R
  have e0 : rc r (Int32.ofNat p) 0 (pm_I r 19 4) = r := by rw [← i1, ← i3]; exact rc_eta r
  have Q := cs_ins' (ob := false) X1.1 i2 (Nat.le_refl n) hp (by rw [i16]; exact propext ⟨fun _ => rfl, fun _ => rfl⟩) dt (pm_I r 19 4)
  rw [q, e0] at Q
  obtain ⟨r1, e, er⟩ := Q
  have er : r1 = rc (ri r (Int32.ofNat v.1) (Int32.ofNat p) (xv (pm_I r 19 5) (pm_I r 19 11) (v.2.2.2 && false)) v.2.1 v.2.2.1) (Int32.ofNat p2) 0 (pm_I r 19 4) := er
  have k : ∀ x y, x ≠ 19 → pm_I r1 x y = pm_I r x y := fun x y hx => by rw [er, rc_x _ _ _ _ hx, ri_x _ _ _ _ _ _ hx]
  have F : eF dd r r1 := ⟨by rw [er]; rfl, by rw [er]; rfl, by rw [er]; rfl, by rw [er]; rfl, fun x y hn => k x y (fun z => hn (.inr (.inl z))), fun x y hn => by
    rw [er]
    show (if x = 19 then (if y = 8 then _ else if y = 9 then _ else pm_L r x y) else pm_L r x y) = _
    rw [if_neg (show ¬ x = 19 from hn)]⟩
  obtain ⟨-, -, -, a1, a2, a3, a4⟩ := X1
  refine ⟨r1, e, ⟨gF_t S.1 F, ?_⟩, ⟨by rw [er]; rfl, ?_, by rw [er]; rfl, ?_⟩, by rw [er]; rfl, by rw [er]; rfl, by rw [er]; rfl⟩
  · cases o with
    | none => exact ⟨(k _ _ (by decide)).trans S.2.1, fun i hi => by rw [k dd i (by omega)]; exact S.2.2 i hi⟩
    | some v => exact ⟨S.2.1, (k _ _ (by decide)).trans S.2.2.1, (k _ _ (by decide)).trans S.2.2.2⟩
  · rw [er]; exact i2
  · rw [er]; exact i16
end XDCL
