/-! THE CLASS READS: an instruction. ri: the Reader with op, opAt, limitAt, first, second set -/
def ri (h : pm_H) (o oa l : Int32) (x y : Int64) : pm_H := (pm_sz h, pm_kd h, pm_ln h, fun X Y => if X = 19 then (if Y = 6 then o else if Y = 7 then oa else if Y = 5 then l else pm_I h X Y) else pm_I h X Y, fun X Y => if X = 19 then (if Y = 8 then x else if Y = 9 then y else pm_L h X Y) else pm_L h X Y, pm_R h)
section RI
variable (h : pm_H) (o oa l v p f q : Int32) (x y z : Int64)
theorem ri_s6 : pm_setI (ri h o oa l x y) 19 6 v = ri h v oa l x y := by
  refine congrArg (fun z => (pm_sz h, pm_kd h, pm_ln h, z, pm_L (ri h o oa l x y), pm_R h)) (funext fun X => funext fun Y => ?_)
  show (if X = 19 then (if Y = 6 then v else (if X = 19 then (if Y = 6 then o else if Y = 7 then oa else if Y = 5 then l else pm_I h X Y) else pm_I h X Y)) else (if X = 19 then (if Y = 6 then o else if Y = 7 then oa else if Y = 5 then l else pm_I h X Y) else pm_I h X Y)) = (if X = 19 then (if Y = 6 then v else if Y = 7 then oa else if Y = 5 then l else pm_I h X Y) else pm_I h X Y)
  repeat' split
  all_goals first | rfl | (exfalso; omega)
theorem ri_s7 : pm_setI (ri h o oa l x y) 19 7 v = ri h o v l x y := by
  refine congrArg (fun z => (pm_sz h, pm_kd h, pm_ln h, z, pm_L (ri h o oa l x y), pm_R h)) (funext fun X => funext fun Y => ?_)
  show (if X = 19 then (if Y = 7 then v else (if X = 19 then (if Y = 6 then o else if Y = 7 then oa else if Y = 5 then l else pm_I h X Y) else pm_I h X Y)) else (if X = 19 then (if Y = 6 then o else if Y = 7 then oa else if Y = 5 then l else pm_I h X Y) else pm_I h X Y)) = (if X = 19 then (if Y = 6 then o else if Y = 7 then v else if Y = 5 then l else pm_I h X Y) else pm_I h X Y)
  repeat' split
  all_goals first | rfl | (exfalso; omega)
theorem ri_s5 : pm_setI (ri h o oa l x y) 19 5 v = ri h o oa v x y := by
  refine congrArg (fun z => (pm_sz h, pm_kd h, pm_ln h, z, pm_L (ri h o oa l x y), pm_R h)) (funext fun X => funext fun Y => ?_)
  show (if X = 19 then (if Y = 5 then v else (if X = 19 then (if Y = 6 then o else if Y = 7 then oa else if Y = 5 then l else pm_I h X Y) else pm_I h X Y)) else (if X = 19 then (if Y = 6 then o else if Y = 7 then oa else if Y = 5 then l else pm_I h X Y) else pm_I h X Y)) = (if X = 19 then (if Y = 6 then o else if Y = 7 then oa else if Y = 5 then v else pm_I h X Y) else pm_I h X Y)
  repeat' split
  all_goals first | rfl | (exfalso; omega)
theorem ri_s8 : pm_setL (ri h o oa l x y) 19 8 z = ri h o oa l z y := by
  refine congrArg (fun z => (pm_sz h, pm_kd h, pm_ln h, pm_I (ri h o oa l x y), z, pm_R h)) (funext fun X => funext fun Y => ?_)
  show (if X = 19 then (if Y = 8 then z else (if X = 19 then (if Y = 8 then x else if Y = 9 then y else pm_L h X Y) else pm_L h X Y)) else (if X = 19 then (if Y = 8 then x else if Y = 9 then y else pm_L h X Y) else pm_L h X Y)) = (if X = 19 then (if Y = 8 then z else if Y = 9 then y else pm_L h X Y) else pm_L h X Y)
  repeat' split
  all_goals first | rfl | (exfalso; omega)
theorem ri_s9 : pm_setL (ri h o oa l x y) 19 9 z = ri h o oa l x z := by
  refine congrArg (fun z => (pm_sz h, pm_kd h, pm_ln h, pm_I (ri h o oa l x y), z, pm_R h)) (funext fun X => funext fun Y => ?_)
  show (if X = 19 then (if Y = 9 then z else (if X = 19 then (if Y = 8 then x else if Y = 9 then y else pm_L h X Y) else pm_L h X Y)) else (if X = 19 then (if Y = 8 then x else if Y = 9 then y else pm_L h X Y) else pm_L h X Y)) = (if X = 19 then (if Y = 8 then x else if Y = 9 then z else pm_L h X Y) else pm_L h X Y)
  repeat' split
  all_goals first | rfl | (exfalso; omega)
theorem ri_eta : ri h (pm_I h 19 6) (pm_I h 19 7) (pm_I h 19 5) (pm_L h 19 8) (pm_L h 19 9) = h := by
  have e1 : (fun X Y => if X = 19 then (if Y = 6 then pm_I h 19 6 else if Y = 7 then pm_I h 19 7 else if Y = 5 then pm_I h 19 5 else pm_I h X Y) else pm_I h X Y) = pm_I h := by
    funext X Y
    repeat' split
    all_goals first | rfl | (subst_vars; rfl)
  have e2 : (fun X Y => if X = 19 then (if Y = 8 then pm_L h 19 8 else if Y = 9 then pm_L h 19 9 else pm_L h X Y) else pm_L h X Y) = pm_L h := by
    funext X Y
    repeat' split
    all_goals first | rfl | (subst_vars; rfl)
  show (pm_sz h, pm_kd h, pm_ln h, (fun X Y => if X = 19 then (if Y = 6 then pm_I h 19 6 else if Y = 7 then pm_I h 19 7 else if Y = 5 then pm_I h 19 5 else pm_I h X Y) else pm_I h X Y), (fun X Y => if X = 19 then (if Y = 8 then pm_L h 19 8 else if Y = 9 then pm_L h 19 9 else pm_L h X Y) else pm_L h X Y), pm_R h) = (pm_sz h, pm_kd h, pm_ln h, pm_I h, pm_L h, pm_R h)
  rw [e1, e2]
theorem ri_x {X : Nat} (hx : X ≠ 19) : pm_I (ri h o oa l x y) X = pm_I h X := by funext Y; show (if X = 19 then _ else _) = _; rw [if_neg hx]
theorem ri_xL {X : Nat} (hx : X ≠ 19) : pm_L (ri h o oa l x y) X = pm_L h X := by funext Y; show (if X = 19 then _ else _) = _; rw [if_neg hx]
theorem ci_5 : pm_setI (rc (ri h o oa l x y) p f q) 19 5 v = rc (ri h o oa v x y) p f q := (rc_o _ _ _ _ _ (by decide) (by decide) (by decide)).trans (congrArg (fun z => rc z p f q) (ri_s5 ..))
theorem ci_6 : pm_setI (rc (ri h o oa l x y) p f q) 19 6 v = rc (ri h v oa l x y) p f q := (rc_o _ _ _ _ _ (by decide) (by decide) (by decide)).trans (congrArg (fun z => rc z p f q) (ri_s6 ..))
theorem ci_7 : pm_setI (rc (ri h o oa l x y) p f q) 19 7 v = rc (ri h o v l x y) p f q := (rc_o _ _ _ _ _ (by decide) (by decide) (by decide)).trans (congrArg (fun z => rc z p f q) (ri_s7 ..))
theorem ci_8 : pm_setL (rc (ri h o oa l x y) p f q) 19 8 z = rc (ri h o oa l z y) p f q := (rc_sL _ _ _ _ _ _ _).trans (congrArg (fun z => rc z p f q) (ri_s8 ..))
theorem ci_9 : pm_setL (rc (ri h o oa l x y) p f q) 19 9 z = rc (ri h o oa l x z) p f q := (rc_sL _ _ _ _ _ _ _).trans (congrArg (fun z => rc z p f q) (ri_s9 ..))
end RI
/-- only what reading an instruction sets was set -/
def iF (h h' : pm_H) : Prop := ∃ o oa l x y, h' = ri h o oa l x y
section PAIRS
variable {α β γ ρ σ : Type} {w : ρ → pm_H} {F : pm_H → Prop} {R : β → Nat → ρ → Prop} {f q : Int32} {h0 : pm_H} {s : σ → Option (σ ⊕ ρ)}
theorem y_p {x : Option (γ × pm_H)} {k : γ × pm_H → Option ρ} (Q : cd_Q (fun r : γ × pm_H => r.2) (fun h' => h' = h0) f q x) (K : ∀ r1 a, cd_Q w F f q (k (r1, rc h0 a f q))) : cd_Q w F f q (x.bind k) := by
  obtain ⟨⟨r1, r2⟩, h', a, e, ew, hF⟩ := Q
  have ew : r2 = _ := ew
  rw [e, ew, hF]
  exact K r1 a
theorem z_p {x : Option (γ × pm_H)} {k : γ × pm_H → Option (σ ⊕ ρ)} (Q : cd_Q (fun r : γ × pm_H => r.2) (fun h' => h' = h0) f q x) (K : ∀ r1 a, cd_Q w F f q (ev_k s (k (r1, rc h0 a f q)))) : cd_Q w F f q (ev_k s (x.bind k)) := by
  obtain ⟨⟨r1, r2⟩, h', a, e, ew, hF⟩ := Q
  have ew : r2 = _ := ew
  rw [e, ew, hF]
  exact K r1 a
theorem u_p {R1 : α → Nat → γ × pm_H → Prop} {x : Option (γ × pm_H)} {k : γ × pm_H → Option ρ} {o1 : sp_O α} {k' : α → Nat → sp_O β} (Q : cs_Q (fun r : γ × pm_H => r.2) (fun h' => h' = h0) R1 x o1) (D : ∀ r1 a f q, f ≠ 0 → cd_Q w F f q (k (r1, rc h0 a f q))) (K : ∀ v p r, o1 = .inr (v, p) → R1 v p r → cs_Q w F R (k r) (k' v p)) : cs_Q w F R (x.bind k) (sp_b o1 k') := by
  refine u_c Q ?_ K
  rintro ⟨r1, r2⟩ h' a f q hf ew hF
  have ew : r2 = _ := ew
  rw [ew, hF]
  exact D r1 a f q hf
theorem v_p {R1 : α → Nat → γ × pm_H → Prop} {x : Option (γ × pm_H)} {k : γ × pm_H → Option (σ ⊕ ρ)} {o1 : sp_O α} {k' : α → Nat → sp_O β} (Q : cs_Q (fun r : γ × pm_H => r.2) (fun h' => h' = h0) R1 x o1) (D : ∀ r1 a f q, f ≠ 0 → cd_Q w F f q (ev_k s (k (r1, rc h0 a f q)))) (K : ∀ v p r, o1 = .inr (v, p) → R1 v p r → cs_Q w F R (ev_k s (k r)) (k' v p)) : cs_Q w F R (ev_k s (x.bind k)) (sp_b o1 k') := by
  refine v_c Q ?_ K
  rintro ⟨r1, r2⟩ h' a f q hf ew hF
  have ew : r2 = _ := ew
  rw [ew, hF]
  exact D r1 a f q hf
end PAIRS
abbrev wH : pm_H → pm_H := fun r => r
section CINS
variable {h : pm_H} {n b mm e p : Nat} {B : Nat → Nat} {o oa l : Int32} {x y : Int64}
theorem cS_ri (C : cS h n b mm B) : cS (ri h o oa l x y) n b mm B := ⟨C.1, C.2.1, C.2.2.1, C.2.2.2.1, C.2.2.2.2.1, C.2.2.2.2.2.1, C.2.2.2.2.2.2.1, C.2.2.2.2.2.2.2.1, fun i hi => by rw [ri_x _ _ _ _ _ _ C.2.2.2.2.2.2.2.1]; exact C.2.2.2.2.2.2.2.2.1 i hi, C.2.2.2.2.2.2.2.2.2⟩
theorem cx_lim (K : pm_kd h 19 = 9) (a f q : Int32) : fX9_exceedLimit (rc (ri h o oa l x y) a f q) 19 = some (rc (ri h o oa (xv l (pm_I h 19 11) true) x y) a f q) := by
  unfold fX9_exceedLimit xv
  rw [if_pos rfl]
  refine e9_t K ?_
  by_cases c : 0 ≤ l
  · rw [if_pos c]; exact e9_t c rfl
  · rw [if_neg c]; exact e9_f c (e9_l (by rw [ci_5]; rfl))
theorem cd_lbl (K : pm_kd h 19 = 9) {f : Int32} (hf : f ≠ 0) (a q : Int32) (i : Int64) : cd_Q wH (iF h) f q (pm_lim sX9_labels (19, i, rc (ri h o oa l x y) a f q)) := by
  refine z_w (aX9_labels_0 ..) ?_
  unfold tX9_labels_43
  exact z_t K (z_i (fun _ => z_r (y_r (a := a) rfl ⟨_, _, _, _, _, rfl⟩)) (fun _ => z_f (show ¬ pm_I (rc (ri h o oa l x y) a f q) 19 3 = 0 from hf) (z_r (y_r (a := a) rfl ⟨_, _, _, _, _, rfl⟩))))
theorem cd_labels (K : pm_kd h 19 = 9) {f : Int32} (hf : f ≠ 0) (a q : Int32) : cd_Q wH (iF h) f q (fX9_labels (rc (ri h o oa l x y) a f q) 19) := by
  unfold fX9_labels
  refine y_t K (y_b (cd_num (h := ri h _ _ _ _ _) K hf a q 32 (by decide)) (y_t K (y_l ?_)))
  rw [ci_8, ci_9, cx_lim K]
  exact y_i (fun _ => cd_lbl K hf _ _ _) (fun _ => y_i (fun _ => cd_lbl K hf _ _ _) (fun _ => y_b rfl (cd_lbl K hf _ _ _)))
theorem cs_lbl {β : Type} {R : β → Nat → pm_H → Prop} {kk : Nat → sp_O β} (C : cS h n b mm B) (ie : pm_I h 19 2 = Int32.ofNat e) (he : e ≤ n) (q : Int32) {c : Nat} (hc : c < 4294967296) : ∀ j k p : Nat, k + j = c + 1 → p ≤ e → (∀ p', p ≤ p' → p' ≤ e → cs_Q wH (iF h) R (some (rc (ri h o oa l (Int64.ofNat c) y) (Int32.ofNat p') 0 q)) (kk p')) → cs_Q wH (iF h) R (pm_lim sX9_labels (19, Int64.ofNat k, rc (ri h o oa l (Int64.ofNat c) y) (Int32.ofNat p) 0 q)) (sp_b (sp_nums B e j p) fun _ p' => kk p') := by
  have K := C.1
  intro j
  induction j with
  | zero =>
    intro k p hk hp Z
    refine v_w (aX9_labels_0 ..) ?_
    unfold tX9_labels_43 sp_nums
    exact v_t K (v_t (show Int64.ofNat c < Int64.ofNat k by rw [ll_lt (by omega) (by omega)]; omega) (v_r (Z p (Nat.le_refl _) hp)))
  | succ j ih =>
    intro k p hk hp Z
    refine v_w (aX9_labels_0 ..) ?_
    unfold tX9_labels_43 sp_nums
    rw [sp_bb]
    refine v_t K (v_f (show ¬ Int64.ofNat c < Int64.ofNat k by rw [ll_lt (by omega) (by omega)]; omega) (v_t rfl (v_p (cs_num (cS_ri C) ie he hp q) (fun r1 a f q hf => z_l (z_n (cd_lbl K hf _ _ _))) ?_)))
    intro v p1 r e1 er
    subst er
    have pb := sp_num_b hp e1
    refine v_l (v_n ?_)
    rw [show Int64.ofNat k + 1 = Int64.ofNat (k + 1) from ll_ad k 1]
    exact ih (k + 1) p1 (by omega) (by omega) (fun p' h1 h2 => Z p' (by omega) h2)
/-- how an instruction that was read is told -/
abbrev cRI (h : pm_H) (oa l : Int32) (ob : Bool) (q : Int32) : sp_I → Nat → pm_H → Prop := fun v p' r => r = rc (ri h (Int32.ofNat v.1) oa (xv l (pm_I h 19 11) (v.2.2.2 && ob)) v.2.1 v.2.2.1) (Int32.ofNat p') 0 q
theorem cs_labels {ob : Bool} (C : cS h n b mm B) (ie : pm_I h 19 2 = Int32.ofNat e) (he : e ≤ n) (hp : p ≤ e) (ib : (pm_I h 19 16 = 0) = (ob = false)) (op : Nat) (q : Int32) : cs_Q wH (iF h) (cRI h oa l ob q) (fX9_labels (rc (ri h (Int32.ofNat op) oa l x y) (Int32.ofNat p) 0 q) 19) (sp_b (sp_num B e p) fun x p1 => sp_b (sp_nums B e (x + 1) p1) fun _ p2 => .inr ((op, Int64.ofNat x, Int64.ofNat p1, decide (200 < x)), p2)) := by
  have K := C.1
  have n4 := C.2.2.2.2.2.2.1
  unfold fX9_labels
  refine u_t K (u_p (cs_num (cS_ri C) ie he hp q) (fun r1 a f q hf => y_t K (y_l ?_)) ?_)
  · rw [ci_8, ci_9, cx_lim K]
    exact y_i (fun _ => cd_lbl K hf _ _ _) (fun _ => y_i (fun _ => cd_lbl K hf _ _ _) (fun _ => y_b rfl (cd_lbl K hf _ _ _)))
  · intro v p1 r e1 er
    subst er
    have pb := sp_num_b hp e1
    have vl : v < 4294967296 := sp_nu_v C.2.2.2.2.2.2.2.2.2 (by decide) (by decide) (by decide) e1
    refine u_t K (u_l ?_)
    dsimp only
    rw [ci_8, ci_9, cx_lim K, rc_1, nn_t6 (show p1 < 2147483648 by omega)]
    by_cases c1 : ob = true
    · subst c1
      refine u_f (show ¬ pm_I h 19 16 = 0 by rw [ib]; decide) ?_
      by_cases c2 : 200 < v
      · refine u_f (show ¬ Int64.ofNat v ≤ Int64.ofNat 200 by rw [ll_le (by omega) (by decide)]; omega) (u_b rfl ?_)
        refine cs_lbl C ie he q vl (v + 1) 0 p1 (by omega) (by omega) (fun p' _ _ => u_r ?_)
        show _ = rc (ri h (Int32.ofNat op) oa (xv l (pm_I h 19 11) (decide (200 < v) && true)) _ _) _ _ _
        rw [decide_eq_true c2]
        rfl
      · refine u_t (show Int64.ofNat v ≤ Int64.ofNat 200 by rw [ll_le (by omega) (by decide)]; omega) ?_
        refine cs_lbl C ie he q vl (v + 1) 0 p1 (by omega) (by omega) (fun p' _ _ => u_r ?_)
        show _ = rc (ri h (Int32.ofNat op) oa (xv l (pm_I h 19 11) (decide (200 < v) && true)) _ _) _ _ _
        rw [decide_eq_false c2]
        rfl
    · have c1 : ob = false := by cases ob <;> simp_all
      subst c1
      refine u_t (show pm_I h 19 16 = 0 by rw [ib]) ?_
      refine cs_lbl C ie he q vl (v + 1) 0 p1 (by omega) (by omega) (fun p' _ _ => u_r ?_)
      show _ = rc (ri h (Int32.ofNat op) oa (xv l (pm_I h 19 11) (decide (200 < v) && false)) _ _) _ _ _
      rw [Bool.and_false]
      rfl
end CINS
