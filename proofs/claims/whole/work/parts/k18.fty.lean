/-! THE CLASS READS: a function type -/
/-- Reader and Module in order, whatever they hold -/
def dT (h : pm_H) (b mm me sh : Nat) : Prop := dC h b mm me ∧ (pm_R h 19 18 = some sh ∧ pm_kd h sh = 34 ∧ pm_ln h sh = 34) ∧ (19 < pm_sz h ∧ b < pm_sz h ∧ mm < pm_sz h ∧ me < pm_sz h ∧ sh < pm_sz h) ∧ (∃ sc, pm_R h mm 1 = some sc ∧ pm_kd h sc = 34 ∧ pm_ln h sc = 13 ∧ sc < pm_sz h) ∧ (∃ ty, pm_R h mm 2 = some ty ∧ pm_kd h ty = 36 ∧ pm_ln h ty < 134217728 ∧ ty < pm_sz h) ∧ (∀ j, 3 ≤ j → j ≤ 7 → ∃ x, pm_R h mm j = some x ∧ pm_kd h x = 35 ∧ pm_ln h x ≤ 491520 ∧ x < pm_sz h) ∧ ∀ j, 8 ≤ j → j ≤ 11 → ∃ x, pm_R h mm j = some x ∧ pm_kd h x = 34 ∧ pm_ln h x < 134217728 ∧ x < pm_sz h
theorem dT_W {h h' : pm_H} {b mm me sh : Nat} {AI AL AR : Nat → Nat → Prop} (T : dT h b mm me sh) (g : nW AI AL AR h h') (n1 : ∀ y, ¬ AR 19 y) (n2 : ∀ y, ¬ AR mm y) : dT h' b mm me sh := by
  obtain ⟨⟨⟨K9, rm0, km, rb, kb⟩, r17, kme, lme⟩, ⟨r18, ksh, lsh⟩, ⟨s1, s2, s3, s4, s5⟩, ⟨sc, c1, c2, c3, c4⟩, ⟨ty, t1, t2, t3, t4⟩, L, I⟩ := T
  have hs := g.1
  have KD : ∀ x, x < pm_sz h → pm_kd h' x = pm_kd h x := fun x hx => (g.2.1 x hx).1
  have LN : ∀ x, x < pm_sz h → pm_ln h' x = pm_ln h x := fun x hx => (g.2.1 x hx).2
  have R9 : ∀ y, pm_R h' 19 y = pm_R h 19 y := fun y => g.2.2.2.2 19 y s1 (n1 y)
  have RM : ∀ y, pm_R h' mm y = pm_R h mm y := fun y => g.2.2.2.2 mm y s3 (n2 y)
  refine ⟨⟨⟨by rw [KD _ s1]; exact K9, by rw [R9]; exact rm0, by rw [KD _ s3]; exact km, by rw [RM]; exact rb, by rw [KD _ s2]; exact kb⟩, by rw [R9]; exact r17, by rw [KD _ s4]; exact kme, by rw [LN _ s4]; exact lme⟩, ⟨by rw [R9]; exact r18, by rw [KD _ s5]; exact ksh, by rw [LN _ s5]; exact lsh⟩, ⟨by omega, by omega, by omega, by omega, by omega⟩, ⟨sc, by rw [RM]; exact c1, by rw [KD _ c4]; exact c2, by rw [LN _ c4]; exact c3, by omega⟩, ⟨ty, by rw [RM]; exact t1, by rw [KD _ t4]; exact t2, by rw [LN _ t4]; exact t3, by omega⟩, fun j h1 h2 => ?_, fun j h1 h2 => ?_⟩
  · obtain ⟨x, x1, x2, x3, x4⟩ := L j h1 h2
    exact ⟨x, by rw [RM]; exact x1, by rw [KD _ x4]; exact x2, by rw [LN _ x4]; exact x3, by omega⟩
  · obtain ⟨x, x1, x2, x3, x4⟩ := I j h1 h2
    exact ⟨x, by rw [RM]; exact x1, by rw [KD _ x4]; exact x2, by rw [LN _ x4]; exact x3, by omega⟩
theorem nW_n {h h' : pm_H} (g : nF h h') : nW (fun _ _ => True) (fun _ _ => True) (fun _ _ => False) h h' := ⟨Nat.le_of_eq g.1.symm, fun y _ => ⟨congrFun g.2.1 y, congrFun g.2.2.1 y⟩, fun x y _ n => absurd trivial n, fun x y _ n => absurd trivial n, fun x y _ _ => congrFun (congrFun g.2.2.2 x) y⟩
theorem dT_n {h h' : pm_H} {b mm me sh : Nat} (T : dT h b mm me sh) (g : nF h h') : dT h' b mm me sh := dT_W T (nW_n g) (fun _ z => z) (fun _ z => z)
theorem dT_A {h h' : pm_H} {b mm me sh k n : Nat} (T : dT h b mm me sh) (g : nA h h' k n) : dT h' b mm me sh := dT_W (AI := fun _ _ => False) (AL := fun _ _ => False) (AR := fun _ _ => False) T (nW_A g) (fun _ z => z) (fun _ z => z)
theorem lC_A {h h' : pm_H} {n b mm me e k m ty i s : Nat} {d ob : Bool} {B : Nat → Nat} (L : lC h n b mm me e d ob B) (A : nA h h' k m) (t9 : ty ≠ 19) (tm : ty ≠ mm) (s3 : 19 < pm_sz h ∧ b < pm_sz h ∧ mm < pm_sz h ∧ me < pm_sz h ∧ s < pm_sz h) {o : Option Nat} : lC (pm_setR h' ty i o) n b mm me e d ob B := by
  obtain ⟨⟨K, rm0, km, rb, kb, lb, hn, b9, hB, hB2⟩, ⟨r17, kme, lme, m9, mb, m7⟩, ie, he, ib, dt⟩ := L
  obtain ⟨s1, s2, s3, s4, -⟩ := s3
  obtain ⟨a1, a2, a3, a4, a5⟩ := A.2.2.2 19 (by omega)
  obtain ⟨b1, b2, b3, b4, b5⟩ := A.2.2.2 b (by omega)
  obtain ⟨c1, c2, c3, c4, c5⟩ := A.2.2.2 mm (by omega)
  obtain ⟨d1, d2, d3, d4, d5⟩ := A.2.2.2 me (by omega)
  have R9 : ∀ y, pm_R (pm_setR h' ty i o) 19 y = pm_R h 19 y := fun y => by rw [ev_RR, if_neg (fun z => t9 z.symm), a5]
  have RM : ∀ y, pm_R (pm_setR h' ty i o) mm y = pm_R h mm y := fun y => by rw [ev_RR, if_neg (fun z => tm z.symm), c5]
  refine ⟨⟨a1.trans K, (R9 0).trans rm0, c1.trans km, (RM 0).trans rb, b1.trans kb, b2.trans lb, hn, b9, fun i hi => ?_, hB2⟩, ⟨(R9 17).trans r17, d1.trans kme, d2.trans lme, m9, mb, m7⟩, ?_, he, ?_, ?_⟩
  · rw [ev_IR, b3]; exact hB i hi
  · rw [ev_IR, a3]; exact ie
  · rw [ev_IR, a3]; exact ib
  · rw [ev_LR, c4]; exact dt
section FTY
variable {h h1 : pm_H} {n b mm me sh e p x a : Nat} {d ob : Bool} {B : Nat → Nat}
abbrev dF (b mm me sh : Nat) : pm_H → Prop := fun h' => dT h' b mm me sh
theorem min_34 {fl : Nat} (hf : fl ≤ 34) : (if Int32.ofNat 34 < Int32.ofNat fl + 1 then Int32.ofNat 34 else Int32.ofNat fl + 1) = Int32.ofNat (if 34 < fl + 1 then 34 else fl + 1) := by
  rw [show Int32.ofNat fl + 1 = Int32.ofNat (fl + 1) from nn_ad fl 1]
  exact min_n (by decide) (by omega)
theorem cd_tyset (T : dT h b mm me sh) {f : Int32} (hf : f ≠ 0) (a q x1 : Int32) (x3 : Int64) {t : Nat} (ht : t < 2) (K : ∀ h2 a, dT h2 b mm me sh → cd_Q wH (dF b mm me sh) f q (pm_lim sX9_functionType (.inr (.inl (19, x1, Int32.ofNat (t + 1), rc h2 a f q))))) : cd_Q wH (dF b mm me sh) f q (ev_k sX9_functionType ((pm_R (rc h a f q) 19 18).bind fun v38 => pm_let (((if (16 : Int64) < x3 then (16 : Int64) else x3)).toInt32) fun y40 => if pm_kd (rc h a f q) v38 = 34 then if pm_in (Int32.ofNat t) (pm_ln (rc h a f q) v38) then pm_let (Int32.ofNat t + 1) fun y44 => some (.inl (.inr (.inl ((19, x1, y44, pm_setI (rc h a f q) v38 (Int32.ofNat t).toNatClampNeg y40))))) else none else none)) := by
  obtain ⟨r18, ksh, lsh⟩ := T.2.1
  have K9 : pm_kd h 19 = 9 := T.1.1.1
  have sh9 : sh ≠ 19 := fun z => by rw [z, K9] at ksh; exact absurd ksh (by decide)
  refine z_b r18 (z_l (z_t ksh (z_t (show pm_in (Int32.ofNat t) (pm_ln h sh) by rw [lsh, nn_in (by omega)]; omega) (z_l (z_n ?_)))))
  rw [show Int32.ofNat t + 1 = Int32.ofNat (t + 1) from nn_ad t 1, rc_a _ _ _ _ _ sh9]
  exact K _ _ (dT_n T (nF_sI (nF_r h)))
theorem cd_ty25 {f : Int32} (hf : f ≠ 0) (q : Int32) : ∀ (j t fl : Nat) (a : Int32) (h : pm_H), t + j = 2 → fl ≤ 34 → dT h b mm me sh → cd_Q wH (dF b mm me sh) f q (pm_lim sX9_functionType (.inr (.inl (19, Int32.ofNat fl, Int32.ofNat t, rc h a f q)))) := by
  intro j
  induction j with
  | zero =>
    intro t fl a h ht hfl T
    have t2 : t = 2 := by omega
    subst t2
    have K9 : pm_kd h 19 = 9 := T.1.1.1
    obtain ⟨ty, t1, t2, t3, t4⟩ := T.2.2.2.2.1
    obtain ⟨r18, ksh, lsh⟩ := T.2.1
    have sh9 : sh ≠ 19 := fun z => by rw [z, K9] at ksh; exact absurd ksh (by decide)
    have tyn : ty ≠ 19 ∧ ty ≠ mm := ⟨fun z => by rw [z, K9] at t2; exact absurd t2 (by decide), fun z => by rw [z, T.1.1.2.2.1] at t2; exact absurd t2 (by decide)⟩
    refine z_w (aX9_functionType_1 ..) ?_
    unfold tX9_functionType_25
    refine z_t (by decide) (z_t K9 (z_i (fun _ => z_r (y_r (a := a) rfl T)) (fun c0 => z_b T.1.1.2.1 (z_t T.1.1.2.2.1 (z_b t1 (z_t t2 (z_i (fun _ => z_r (y_r (a := a) rfl T)) (fun c1 => z_b r18 ?_))))))))
    obtain ⟨h2, e2, A2, -⟩ := cpy3 (h := h) (a := a) (f := f) (q := q) T.2.2.1.1 ksh sh9 T.2.2.1.2.2.2.2 (by rw [lsh]; decide) (m := fl) (by omega)
    have T2 := dT_A T A2
    refine z_b e2 (z_n (z_w (aX9_functionType_2 ..) ?_))
    unfold tX9_functionType_164
    have tk : pm_kd h2 ty = 36 := (A2.2.2.2 ty (by omega)).1.trans t2
    have tl : pm_ln h2 ty = pm_ln h ty := (A2.2.2.2 ty (by omega)).2.1
    refine z_t tk (z_t A2.2.1 (z_t (show pm_in _ (pm_ln h2 ty) by rw [tl]; exact in_x (by omega) c0 c1) (z_r ?_)))
    refine y_r (h' := pm_setR h2 ty _ _) (a := a) rfl ?_
    exact dT_W (AI := fun _ _ => False) (AL := fun _ _ => False) (AR := fun X _ => X = ty) T2 (nW_R (nW_r h2) (fun _ => rfl)) (fun _ z => tyn.1 z.symm) (fun _ z => tyn.2 z.symm)
  | succ j ih =>
    intro t fl a h ht hfl T
    have K9 : pm_kd h 19 = 9 := T.1.1.1
    refine z_w (aX9_functionType_1 ..) ?_
    unfold tX9_functionType_25
    refine z_f (show ¬ Int32.ofNat 2 ≤ Int32.ofNat t by rw [nn_le (by decide) (by omega)]; omega) (z_t K9 (z_b (cd_num K9 hf a q 32 (by decide)) (z_t (show (0 : Int64) ≤ 16 by decide) (z_n (z_w (aX9_functionType_3 ..) ?_)))))
    unfold tX9_functionType_52
    exact z_t (show (0 : Int64) ≤ 0 by decide) (z_t K9 (cd_tyset T hf a q _ 0 (by omega) (fun h2 a2 T2 => ih (t + 1) fl a2 h2 (by omega) hfl T2)))
theorem cd_ty52 {f : Int32} (hf : f ≠ 0) (q : Int32) {t fl : Nat} (a : Int32) {h : pm_H} (ht : t < 2) (hfl : fl ≤ 34) (T : dT h b mm me sh) (x3 x5 : Int64) : cd_Q wH (dF b mm me sh) f q (pm_lim sX9_functionType (.inr (.inr (.inr (19, Int32.ofNat fl, Int32.ofNat t, x3, x5, rc h a f q))))) := by
  have K9 : pm_kd h 19 = 9 := T.1.1.1
  have N : ∀ h2 a2, dT h2 b mm me sh → cd_Q wH (dF b mm me sh) f q (pm_lim sX9_functionType (.inr (.inl (19, Int32.ofNat fl, Int32.ofNat (t + 1), rc h2 a2 f q)))) := fun h2 a2 T2 => cd_ty25 hf q (1 - t) (t + 1) fl a2 h2 (by omega) hfl T2
  refine z_w (aX9_functionType_3 ..) ?_
  unfold tX9_functionType_52
  exact z_i (fun _ => z_t K9 (cd_tyset T hf a q _ x3 ht N)) (fun _ => z_t K9 (z_f (rc_f0 hf) (cd_tyset T hf a q _ x3 ht N)))
theorem cd_ty (T : dT h b mm me sh) {f : Int32} (hf : f ≠ 0) (a q : Int32) : cd_Q wH (dF b mm me sh) f q (fX9_functionType (rc h a f q) 19) := by
  have K9 : pm_kd h 19 = 9 := T.1.1.1
  unfold fX9_functionType
  refine z_w (aX9_functionType_0 ..) ?_
  unfold tX9_functionType_0
  exact z_t K9 (z_b (cd_next K9 hf a q) (z_i (fun _ => z_n (cd_ty25 hf q 2 0 2 _ h (by decide) (by decide) T)) (fun _ => z_t K9 (z_b (cd_fail K9 hf _ _ _ _) (z_n (cd_ty25 hf q 2 0 2 _ h (by decide) (by decide) T))))))
def m34 (k : Nat) : Nat := if 34 < k then 34 else k
theorem m34_s (k : Nat) : (if 34 < m34 k + 1 then 34 else m34 k + 1) = m34 (k + 1) := by
  unfold m34
  by_cases c : 34 < k
  · rw [if_pos c, if_pos (by decide), if_pos (by omega)]
  · rw [if_neg c]
theorem m34_ge {k : Nat} (h : m34 k < 34) : k ≤ m34 k := by
  unfold m34 at h ⊢
  by_cases c : 34 < k
  · rw [if_pos c] at h; omega
  · rw [if_neg c]; exact Nat.le_refl _
theorem m34_le (k : Nat) : m34 k ≤ 34 := by unfold m34; split <;> omega
/-- a row of types: the loop -/
theorem cs_tyl {β : Type} {R : β → Nat → pm_H → Prop} (T : dT h b mm me sh) (he : e ≤ n) (q : Int32) {t c f0 : Nat} (ht : t < 2) (hc : c < 4294967296) (shn : sh ≠ b) : ∀ (j k p : Nat) (h1 : pm_H) (kk : List Nat → Nat → sp_O β), k + j = c → p ≤ e → k ≤ p → f0 ≤ 100000 → gF (fun X Y => X = sh ∧ f0 ≤ Y) (fun _ _ => False) h h1 → lC h1 n b mm me e d ob B → (∀ l p' h', sp_rows (sp_byte sp_isT 8 B e) j p = .inr (l, p') → p' ≤ e → l.length = j → gF (fun X Y => X = sh ∧ f0 + k ≤ Y) (fun _ _ => False) h1 h' → lC h' n b mm me e d ob B → (∀ i y, l[i]? = some y → f0 + k + i < 34 → pm_I h' sh (f0 + k + i) = Int32.ofNat y) → cs_Q wH (dF b mm me sh) R (pm_lim sX9_functionType (.inr (.inr (.inr (19, Int32.ofNat (m34 (f0 + c)), Int32.ofNat t, Int64.ofNat c, Int64.ofNat c, rc h' (Int32.ofNat p') 0 q))))) (kk l p')) → cs_Q wH (dF b mm me sh) R (pm_lim sX9_functionType (.inr (.inr (.inr (19, Int32.ofNat (m34 (f0 + k)), Int32.ofNat t, Int64.ofNat c, Int64.ofNat k, rc h1 (Int32.ofNat p) 0 q))))) (sp_b (sp_rows (sp_byte sp_isT 8 B e) j p) kk) := by
  obtain ⟨r18, ksh, lsh⟩ := T.2.1
  have K9 : pm_kd h 19 = 9 := T.1.1.1
  have sh9 : sh ≠ 19 := fun z => by rw [z, K9] at ksh; exact absurd ksh (by decide)
  intro j
  induction j with
  | zero =>
    intro k p h1 kk hk hp hkp h00 g L Z
    have kc : k = c := by omega
    subst kc
    rw [sp_rows, sp_br]
    exact Z [] p h1 rfl hp rfl (gF_r _ _ _) L (fun i y z => by cases z)
  | succ j ih =>
    intro k p h1 kk hk hp hkp h00 g L Z
    have n4 := L.1.2.2.2.2.2.2.1
    have gn : nF h h1 := nF_g g
    have T1 := dT_n T gn
    rw [sp_rows, sp_bb]
    refine v_w (aX9_functionType_3 ..) ?_
    unfold tX9_functionType_52
    have m1 := m34_le (f0 + k)
    refine v_f (show ¬ Int64.ofNat c ≤ Int64.ofNat k by rw [ll_le (by omega) (by omega)]; omega) (v_t (gk gn K9) (v_t rfl (v_p (cs_vt L.1 L.2.2.1 he hp q) (fun r1 a' f q hf => z_k gn K9 (z_R gn r18 ?_)) ?_)))
    · obtain ⟨h2, e2, g2⟩ := st3_x (h := h1) (x := sh) (a := a') (f := f) (q := q) (gk gn ksh) sh9 (by rw [nF_ln gn, lsh]; decide) (Int32.ofNat (m34 (f0 + k))) r1
      have gn2 := nF_t gn g2
      refine z_b e2 (z_k gn2 K9 (z_R gn2 r18 (z_k gn2 ksh (z_l (z_l (z_l (z_n ?_)))))))
      rw [show Int32.ofNat (pm_ln (rc h2 a' f q) sh) = Int32.ofNat 34 from congrArg Int32.ofNat ((nF_ln gn2).trans lsh), min_34 m1]
      exact cd_ty52 hf q a' ht (by split <;> omega) (dT_n T gn2) _ _
    intro v p1 r e1 er
    subst er
    have pb := sp_byte_b hp e1
    refine v_t (gk gn K9) (v_b (gR gn r18) (v_b (st3_e (gk gn ksh) sh9 (by rw [nF_ln gn, lsh]; decide) (by omega) _) ?_))
    obtain ⟨h2, eh2⟩ : ∃ z, z = sI h1 sh (m34 (f0 + k)) (Int32.ofNat v) := ⟨_, rfl⟩
    rw [← eh2]
    have gs : gF (fun X Y => X = sh ∧ f0 + k ≤ Y) (fun _ _ => False) h1 h2 := by
      rw [eh2]
      unfold sI
      by_cases c34 : m34 (f0 + k) < pm_ln h1 sh
      · rw [if_pos c34]
        rw [nF_ln gn, lsh] at c34
        exact gF_I h1 _ ⟨rfl, m34_ge c34⟩
      · rw [if_neg c34]; exact gF_r _ _ _
    have g2 : gF (fun X Y => X = sh ∧ f0 ≤ Y) (fun _ _ => False) h h2 := gF_t g (gF_m gs (fun X Y z => ⟨z.1, by have := z.2; omega⟩) (fun _ _ z => z))
    have gn2 : nF h h2 := nF_g g2
    have L2 : lC h2 n b mm me e d ob B := lC_g L gs (fun Y z => shn z.1.symm) (fun z => sh9 z.1.symm) (fun z => sh9 z.1.symm) (fun z => z)
    refine v_t (gk gn2 K9) (v_b (gR gn2 r18) (v_t (gk gn2 ksh) (v_l (v_l (v_l (v_n ?_))))))
    rw [show Int32.ofNat (pm_ln (rc h2 (Int32.ofNat p1) 0 q) sh) = Int32.ofNat 34 from congrArg Int32.ofNat ((nF_ln gn2).trans lsh), min_34 m1, m34_s, show Int64.ofNat k + 1 = Int64.ofNat (k + 1) from ll_ad k 1, sp_bb]
    refine ih (k + 1) p1 h2 _ (by omega) (by omega) (by omega) h00 g2 L2 (fun l p2 h3 e3 h3' ln g3 L3 W => ?_)
    rw [sp_br]
    refine Z (v :: l) p2 h3 (by rw [sp_rows, e1, sp_br, e3]; rfl) h3' (by rw [List.length_cons, ln]) (gF_t gs (gF_m g3 (fun X Y z => ⟨z.1, by have := z.2; omega⟩) (fun _ _ z => z))) L3 (fun i y hy hi => ?_)
    cases i with
    | zero =>
      cases hy
      have mm : m34 (f0 + k) = f0 + k := by unfold m34; rw [if_neg (by omega)]
      rw [g3.2.2.2.2.1 sh (f0 + k + 0) (fun z => by have := z.2; omega), eh2]
      refine (sI_g (by rw [nF_ln gn, lsh, mm]; omega) _).trans ?_
      rw [mm]
      exact if_pos rfl
    | succ i =>
      have := W i y hy (by omega)
      rw [show f0 + k + (i + 1) = f0 + (k + 1) + i by omega]
      exact this
/-- a function type as the class keeps it -/
def pTyC (h : pm_H) (ty i : Nat) (v : tTy) : Prop := ∃ s, pm_R h ty i = some s ∧ pm_kd h s = 34 ∧ (bigT v = false → pm_ln h s = 2 + v.1.length + v.2.length ∧ pm_I h s 0 = Int32.ofNat v.1.length ∧ pm_I h s 1 = Int32.ofNat v.2.length ∧ (∀ j y, v.1[j]? = some y → pm_I h s (2 + j) = Int32.ofNat y) ∧ ∀ j y, v.2[j]? = some y → pm_I h s (2 + v.1.length + j) = Int32.ofNat y)
theorem rows_n {α : Type} {row : Nat → sp_O α} {e : Nat} (hr : ∀ p v p', row p = .inr (v, p') → p ≤ e → p < p' ∧ p' ≤ e) : ∀ (j p : Nat) (l : List α) (p' : Nat), sp_rows row j p = .inr (l, p') → p ≤ e → l.length = j ∧ p + j ≤ p' ∧ p' ≤ e := by
  intro j
  induction j with
  | zero => intro p l p' q hp; cases q; exact ⟨rfl, Nat.le_refl _, hp⟩
  | succ j ih =>
    intro p l p' q hp
    rw [sp_rows] at q
    obtain ⟨a, p1, e1, e2⟩ := b_inv q
    obtain ⟨l2, p2, e3, e4⟩ := b_inv e2
    cases e4
    obtain ⟨h1, h2⟩ := hr p a p1 e1 hp
    obtain ⟨h3, h4, h5⟩ := ih p1 l2 _ e3 h2
    exact ⟨by rw [List.length_cons, h3], by omega, h5⟩
abbrev tyW (sh : Nat) : Nat → Nat → Prop := fun X Y => X = sh ∨ (X = 19 ∧ Y = 5)
theorem lC_ty {h h2 : pm_H} {n b mm me e sh : Nat} {d ob : Bool} {B : Nat → Nat} (L : lC h n b mm me e d ob B) (g : gF (tyW sh) (fun _ _ => False) h h2) (shb : sh ≠ b) (sh9 : sh ≠ 19) : lC h2 n b mm me e d ob B := lC_g L g (fun Y z => z.elim (fun z => shb z.symm) (fun z => (lC_m L).2.1 z.1)) (fun z => z.elim (fun z => sh9 z.symm) (fun z => by omega)) (fun z => z.elim (fun z => sh9 z.symm) (fun z => by omega)) (fun z => z)
theorem cs_tyh {β : Type} {R : β → Nat → pm_H → Prop} {h : pm_H} {n b mm me e sh : Nat} {d : Bool} {B : Nat → Nat} (T : dT h b mm me sh) (q : Int32) (shb : sh ≠ b) : ∀ (t f0 p1 : Nat) (h1 : pm_H) (kk : List Nat → Nat → sp_O β), t < 2 → 2 ≤ f0 → f0 ≤ 50000 → gF (tyW sh) (fun _ _ => False) h h1 → lC h1 n b mm me e d false B → p1 ≤ e → (∀ l p2 h2, sp_trL B e p1 = .inr (l, p2) → p2 ≤ e → l.length ≤ 40960 → gF (tyW sh) (fun _ _ => False) h h2 → lC h2 n b mm me e d false B → pm_I h2 19 5 = xv (pm_I h1 19 5) (pm_I h 19 11) (decide (16 < l.length)) → (∀ y, y < f0 → y ≠ t → pm_I h2 sh y = pm_I h1 sh y) → (l.length ≤ 16 → pm_I h2 sh t = Int32.ofNat l.length) → (∀ i y, l[i]? = some y → f0 + i < 34 → pm_I h2 sh (f0 + i) = Int32.ofNat y) → cs_Q wH (dF b mm me sh) R (pm_lim sX9_functionType (.inr (.inl (19, Int32.ofNat (m34 (f0 + l.length)), Int32.ofNat (t + 1), rc h2 (Int32.ofNat p2) 0 q)))) (kk l p2)) → cs_Q wH (dF b mm me sh) R (pm_lim sX9_functionType (.inr (.inl (19, Int32.ofNat (m34 f0), Int32.ofNat t, rc h1 (Int32.ofNat p1) 0 q)))) (sp_b (sp_trL B e p1) kk) := by
  intro t f0 p1 h1 kk ht hf2 hf5 g L hp Z
  obtain ⟨r18, ksh, lsh⟩ := T.2.1
  have K9 : pm_kd h 19 = 9 := T.1.1.1
  have sh9 : sh ≠ 19 := fun z => by rw [z, K9] at ksh; exact absurd ksh (by decide)
  have he := L.2.2.2.1
  have n4 := L.1.2.2.2.2.2.2.1
  have gn : nF h h1 := nF_g g
  unfold sp_trL
  rw [sp_bb]
  refine v_w (aX9_functionType_1 ..) ?_
  unfold tX9_functionType_25
  refine v_f (show ¬ Int32.ofNat 2 ≤ Int32.ofNat t by rw [nn_le (by decide) (by omega)]; omega) (v_t (gk gn K9) (v_p (cs_num L.1 L.2.2.1 he hp q) (fun r1 a' f q hf => ?_) ?_))
  · exact z_i (fun _ => z_n (cd_ty52 hf q a' ht (m34_le _) (dT_n T gn) _ _)) (fun _ => z_k gn K9 (z_lim gn K9 (fun h2 g2 => z_n (cd_ty52 hf q a' ht (m34_le _) (dT_n T g2) _ _))))
  intro c p2 r e1 er
  subst er
  have pb := sp_num_b hp e1
  have cl : c < 4294967296 := sp_nu_v L.1.2.2.2.2.2.2.2.2.2 (by decide) (by decide) (by decide) e1
  -- the row, then its length
  have ROW : ∀ (h2 : pm_H), gF (tyW sh) (fun _ _ => False) h h2 → lC h2 n b mm me e d false B → pm_I h2 19 5 = xv (pm_I h1 19 5) (pm_I h 19 11) (decide (16 < c)) → (∀ y, pm_I h2 sh y = pm_I h1 sh y) → cs_Q wH (dF b mm me sh) R (pm_lim sX9_functionType (.inr (.inr (.inr (19, Int32.ofNat (m34 f0), Int32.ofNat t, Int64.ofNat c, 0, rc h2 (Int32.ofNat p2) 0 q))))) (sp_b (sp_rows (sp_byte sp_isT 8 B e) c p2) kk) := by
    intro h2 g2 L2 l5 S2
    have gn2 : nF h h2 := nF_g g2
    refine cs_tyl (dT_n T gn2) he q ht cl shb c 0 p2 h2 kk (by omega) (by omega) (Nat.zero_le _) (by omega) (gF_r _ _ _) L2 (fun l p3 h3 e3 h3' ln g3 L3 W => ?_)
    obtain ⟨-, rn2, -⟩ := rows_n (fun p v p' z hz => by have := sp_byte_b hz z; omega) c p2 l p3 e3 (by omega)
    have gn3 : nF h h3 := nF_t gn2 (nF_g g3)
    have g3' : gF (tyW sh) (fun _ _ => False) h h3 := gF_t g2 (gF_m g3 (fun X Y z => .inl z.1) (fun _ _ z => z))
    refine v_w (aX9_functionType_3 ..) ?_
    unfold tX9_functionType_52
    refine v_t (show Int64.ofNat c ≤ Int64.ofNat c by rw [ll_le (by omega) (by omega)]; omega) (v_t (gk gn3 K9) (v_b (gR gn3 r18) (v_l (v_t (gk gn3 ksh) (v_t (show pm_in (Int32.ofNat t) (pm_ln h3 sh) by rw [nF_ln gn3, lsh, nn_in (by omega)]; omega) (v_l (v_n ?_)))))))
    rw [show Int32.ofNat t + 1 = Int32.ofNat (t + 1) from nn_ad t 1, rc_a _ _ _ _ _ sh9, nn_cm (by omega), ← ln]
    have gF4 : gF (tyW sh) (fun _ _ => False) h (pm_setI h3 sh t ((if (16 : Int64) < Int64.ofNat l.length then 16 else Int64.ofNat l.length).toInt32)) := gF_t g3' (gF_I h3 _ (.inl rfl))
    refine Z l p3 _ (by unfold sp_trL; rw [e1]; exact e3) h3' (by omega) gF4 (lC_g L3 (gF_I (AI := fun X _ => X = sh) (AL := fun _ _ => False) h3 _ rfl) (fun Y z => shb z.symm) (fun z => sh9 z.symm) (fun z => sh9 z.symm) (fun z => z)) ?_ ?_ ?_ ?_
    · rw [ev_II, if_neg (fun z => sh9 z.symm), g3.2.2.2.2.1 19 5 (fun z => sh9 z.1.symm), l5, ln]
    · intro y hy hyt
      rw [ev_II, if_pos rfl, if_neg hyt, g3.2.2.2.2.1 sh y (fun z => by have := z.2; omega)]
      exact S2 y
    · intro hl
      rw [ev_II, if_pos rfl, if_pos rfl, if_neg (show ¬ (16 : Int64) < Int64.ofNat l.length by rw [show (16 : Int64) = Int64.ofNat 16 from rfl, ll_lt (by decide) (by omega)]; omega)]
      exact ll_t3 _
    · intro i y hy hi
      rw [ev_II, if_pos rfl, if_neg (by omega)]
      have := W i y hy (by omega)
      rw [show f0 + i = f0 + 0 + i by omega]
      exact this
  by_cases c16 : 16 < c
  · have LI := cx_lim (h := h1) (o := pm_I h1 19 6) (oa := pm_I h1 19 7) (l := pm_I h1 19 5) (x := pm_L h1 19 8) (y := pm_L h1 19 9) (gk gn K9) (Int32.ofNat p2) 0 q
    rw [ri_eta] at LI
    obtain ⟨h2, eh2⟩ : ∃ z, z = ri h1 (pm_I h1 19 6) (pm_I h1 19 7) (xv (pm_I h1 19 5) (pm_I h1 19 11) true) (pm_L h1 19 8) (pm_L h1 19 9) := ⟨_, rfl⟩
    rw [← eh2] at LI
    have c11 : pm_I h1 19 11 = pm_I h 19 11 := g.2.2.2.2.1 19 11 (fun z => z.elim (fun z => sh9 z.symm) (fun z => by omega))
    have eh3 : h2 = pm_setI h1 19 5 (xv (pm_I h1 19 5) (pm_I h1 19 11) true) := by
      have := ri_s5 h1 (pm_I h1 19 6) (pm_I h1 19 7) (pm_I h1 19 5) (xv (pm_I h1 19 5) (pm_I h1 19 11) true) (pm_L h1 19 8) (pm_L h1 19 9)
      rw [ri_eta] at this
      rw [eh2, ← this]
    have g2 : gF (tyW sh) (fun _ _ => False) h1 h2 := by rw [eh3]; exact gF_I h1 _ (.inr ⟨rfl, rfl⟩)
    have g2' := gF_t g g2
    refine v_f (show ¬ Int64.ofNat c ≤ Int64.ofNat 16 by rw [ll_le (by omega) (by decide)]; omega) (v_t (gk gn K9) (v_b LI (v_n (ROW h2 g2' (lC_ty L g2 shb sh9) ?_ ?_))))
    · rw [eh3, ev_II, if_pos rfl, if_pos rfl, c11, decide_eq_true c16]
    · intro y
      rw [eh3, ev_II, if_neg sh9]
  · refine v_t (show Int64.ofNat c ≤ Int64.ofNat 16 by rw [ll_le (by omega) (by decide)]; omega) (v_n (ROW h1 g L ?_ (fun _ => rfl)))
    rw [decide_eq_false c16]
    rfl
theorem cs_ty {h : pm_H} {n b mm me e sh ty p : Nat} {d : Bool} {B : Nat → Nat} (L : lC h n b mm me e d false B) (T : dT h b mm me sh) (r2 : pm_R h mm 2 = some ty) {i : Nat} (hr : p < e → i < pm_ln h ty) (i15 : pm_I h 19 15 = Int32.ofNat i) (hi : i < 2147483648) (shb : sh ≠ b) (hp : p ≤ e) (q : Int32) : cs_Q wH (dF b mm me sh) (fun (v : tTy) p' r => ∃ h', r = rc h' (Int32.ofNat p') 0 q ∧ nW (tyW sh) (fun _ _ => False) (fun X Y => X = ty ∧ Y = i) h h' ∧ lC h' n b mm me e d false B ∧ pm_I h' 19 5 = xv (pm_I h 19 5) (pm_I h 19 11) (bigT v) ∧ (∃ s, pm_R h' ty i = some s ∧ pm_sz h ≤ s ∧ s < pm_sz h') ∧ pTyC h' ty i v) (fX9_functionType (rc h (Int32.ofNat p) 0 q) 19) (sp_ty B e p) := by
  obtain ⟨r18, ksh, lsh⟩ := T.2.1
  have K9 : pm_kd h 19 = 9 := T.1.1.1
  have km : pm_kd h mm = 7 := T.1.1.2.2.1
  have sh9 : sh ≠ 19 := fun z => by rw [z, K9] at ksh; exact absurd ksh (by decide)
  obtain ⟨ty', t1, t2, t3, t4⟩ := T.2.2.2.2.1
  rw [r2] at t1
  have t1 := Option.some.inj t1
  subst t1
  have tyn : ty ≠ 19 ∧ ty ≠ mm ∧ ty ≠ b ∧ ty ≠ sh := ⟨fun z => by rw [z, K9] at t2; exact absurd t2 (by decide), fun z => by rw [z, km] at t2; exact absurd t2 (by decide), fun z => by rw [z, T.1.1.2.2.2.2] at t2; exact absurd t2 (by decide), fun z => by rw [z, ksh] at t2; exact absurd t2 (by decide)⟩
  have he := L.2.2.2.1
  have n4 := L.1.2.2.2.2.2.2.1
  have s3 := T.2.2.1
  unfold fX9_functionType sp_ty
  refine v_w (aX9_functionType_0 ..) ?_
  unfold tX9_functionType_0
  refine v_t K9 (v_p (cs_next L.1 L.2.2.1 he hp q) (fun r1 a' f q hf => z_i (fun _ => z_n (cd_ty25 hf q 2 0 2 _ h (by decide) (by decide) T)) (fun _ => z_t K9 (z_b (cd_fail K9 hf _ _ _ _) (z_n (cd_ty25 hf q 2 0 2 _ h (by decide) (by decide) T))))) ?_)
  intro c p1 r e1 er
  subst er
  obtain ⟨b1, b2, b3⟩ := sp_next_b e1
  have cl : c < 256 := by rw [b2]; exact L.1.2.2.2.2.2.2.2.2.2 p
  by_cases c96 : c = 96
  · rw [if_pos c96]
    refine v_t (show Int32.ofNat c = Int32.ofNat 96 by rw [c96]) (v_n ?_)
    refine cs_tyh T q shb 0 2 p1 h _ (by decide) (by decide) (by decide) (gF_r _ _ _) L (by omega) (fun l1 p2 h2 el1 hp2 n1 g2 L2 x2 S2 y2 W2 => ?_)
    refine cs_tyh T q shb 1 (2 + l1.length) p2 h2 _ (by decide) (by omega) (by omega) g2 L2 hp2 (fun l2 p3 h3 el2 hp3 n2 g3 L3 x3 S3 y3 W3 => ?_)
    have gn3 : nF h h3 := nF_g g3
    have T3 := dT_n T gn3
    have j15 : pm_I h3 19 15 = Int32.ofNat i := (g3.2.2.2.2.1 19 15 (fun z => z.elim (fun z => sh9 z.symm) (fun z => by omega))).trans i15
    have lt : pm_ln h3 ty = pm_ln h ty := nF_ln gn3
    have hir := hr b1
    refine v_w (aX9_functionType_1 ..) ?_
    unfold tX9_functionType_25
    refine v_t (by decide) (v_t (gk gn3 K9) ?_)
    rw [show pm_I (rc h3 (Int32.ofNat p3) 0 q) 19 15 = Int32.ofNat i from j15]
    obtain ⟨h4, e4, A4, C4⟩ := cpy3 (h := h3) (a := Int32.ofNat p3) (f := 0) (q := q) T3.2.2.1.1 (gk gn3 ksh) sh9 T3.2.2.1.2.2.2.2 (by rw [nF_ln gn3, lsh]; decide) (m := m34 (2 + l1.length + l2.length)) (by have := m34_le (2 + l1.length + l2.length); omega)
    have ty4 : ty ≠ pm_sz h3 := by rw [gn3.1]; omega
    obtain ⟨k1, k2, k3, k4, k5⟩ := A4.2.2.2 ty ty4
    refine v_f (show ¬ Int32.ofNat i < 0 by rw [n3_0, nn_lt hi (by decide)]; omega) (v_b (gR gn3 T.1.1.2.1) (v_t (gk gn3 km) (v_b (gR gn3 r2) (v_t (gk gn3 t2) (v_f (show ¬ Int32.ofNat (pm_ln h3 ty) ≤ Int32.ofNat i by rw [lt, nn_le (by omega) hi]; omega) (v_b (gR gn3 r18) (v_b e4 (v_n (v_w (aX9_functionType_2 ..) ?_)))))))))
    unfold tX9_functionType_164
    refine v_t (k1.trans (gk gn3 t2)) (v_t A4.2.1 (v_t (show pm_in (Int32.ofNat i) (pm_ln h4 ty) by rw [k2, lt, nn_in hi]; exact hir) (v_r ?_)))
    rw [nn_cm hi]
    have gA : nW (tyW sh) (fun _ _ => False) (fun X Y => X = ty ∧ Y = i) h (pm_setR h4 ty i (some (pm_sz h3))) := nW_R (nW_t (nW_g g3) (nW_A A4)) (fun _ => ⟨rfl, rfl⟩)
    have sz3 : pm_sz h3 = pm_sz h := gn3.1
    refine u_r ⟨pm_setR h4 ty i (some (pm_sz h3)), rfl, gA, ?_, ?_, ⟨pm_sz h3, by rw [ev_RR, if_pos rfl, if_pos rfl], by omega, by rw [ev_szR, A4.1]; omega⟩, ⟨pm_sz h3, by rw [ev_RR, if_pos rfl, if_pos rfl], A4.2.1, fun hb => ?_⟩⟩
    · exact lC_A L3 A4 tyn.1 tyn.2.1 (by rw [sz3]; exact s3)
    · have i19 : (19 : Nat) ≠ pm_sz h3 := by rw [sz3]; omega
      rw [ev_IR, (A4.2.2.2 19 i19).2.2.1, x3, x2]
      exact xv_or _ _ _ _
    · have hb' : ¬ 16 < l1.length ∧ ¬ 16 < l2.length := by
        unfold bigT at hb
        have := Bool.or_eq_false_iff.mp hb
        exact ⟨of_decide_eq_false this.1, of_decide_eq_false this.2⟩
      have m34e : m34 (2 + l1.length + l2.length) = 2 + l1.length + l2.length := by unfold m34; rw [if_neg (by omega)]
      rw [m34e] at C4 A4
      have CC : ∀ y, y < 2 + l1.length + l2.length → pm_I (pm_setR h4 ty i (some (pm_sz h3))) (pm_sz h3) y = pm_I h3 sh y := fun y hy => by rw [ev_IR, C4 y hy, if_pos (by rw [nF_ln gn3, lsh]; omega)]
      refine ⟨A4.2.2.1, ?_, ?_, fun j y hy => ?_, fun j y hy => ?_⟩
      · rw [CC 0 (by omega), S3 0 (by omega) (by decide)]; exact y2 (by omega)
      · rw [CC 1 (by omega)]; exact y3 (by omega)
      · have jl : j < l1.length := (List.getElem?_eq_some_iff.mp hy).1
        rw [CC (2 + j) (by omega), S3 (2 + j) (by omega) (by omega)]
        exact W2 j y hy (by omega)
      · have jl : j < l2.length := (List.getElem?_eq_some_iff.mp hy).1
        rw [CC (2 + l1.length + j) (by omega)]
        exact W3 j y hy (by omega)
  · rw [if_neg c96]
    refine v_f (show ¬ Int32.ofNat c = Int32.ofNat 96 by rw [nn_eq (by omega) (by decide)]; exact c96) (v_t K9 (v_b (cs_fail K9 _ _ _ _) (v_n ⟨by decide, ?_⟩)))
    rw [show pm_I (rc h (Int32.ofNat p1) 0 q) 19 1 - 1 = Int32.ofNat p from c_m1 b3 (by omega)]
    exact cd_ty25 (by decide) _ 2 0 2 _ h (by decide) (by decide) T
end FTY
