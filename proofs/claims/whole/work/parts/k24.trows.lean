/-! THE CLASS READS: module()'s walk over the rows of section 1 -/
def oT (h : pm_H) (n b mm me sh e x kept : Nat) (d : Bool) (B : Nat → Nat) (lo last pl c : Nat) (M0 : tMd) (l : List tTy) (L0 : Int32) : Prop := lC h n b mm me e d false B ∧ dT h b mm me sh ∧ pm_R h mm 2 = some x ∧ pm_kd h x = 36 ∧ pm_ln h x = kept ∧ pm_I h 19 15 = Int32.ofNat l.length ∧ l.length ≤ 40960 ∧ (∀ i v, l[i]? = some v → pTyC h x i v ∧ ∃ s, pm_R h x i = some s ∧ lo < s ∧ s < pm_sz h) ∧ cMx h mm lo x 1 M0 ∧ (lo < x ∧ x < pm_sz h) ∧ pm_I h 19 10 = Int32.ofNat 1 ∧ pm_I h 19 11 = Int32.ofNat pl ∧ pm_I h 19 12 = Int32.ofNat last ∧ pm_L h 19 14 = Int64.ofNat c ∧ pm_I h 19 5 = xv L0 (Int32.ofNat pl) (l.any bigT)
theorem pTyC_k {h h' : pm_H} {x i : Nat} {v : tTy} (r : pm_R h' x i = pm_R h x i) (K : ∀ s, pm_R h x i = some s → pm_kd h' s = pm_kd h s ∧ pm_ln h' s = pm_ln h s ∧ pm_I h' s = pm_I h s) (C : pTyC h x i v) : pTyC h' x i v := by
  obtain ⟨s, s1, s2, s3⟩ := C
  obtain ⟨k1, k2, k3⟩ := K s s1
  refine ⟨s, r.trans s1, k1.trans s2, fun hb => ?_⟩
  obtain ⟨z1, z2, z3, z4, z5⟩ := s3 hb
  exact ⟨k2.trans z1, by rw [k3]; exact z2, by rw [k3]; exact z3, fun j y e => by rw [k3]; exact z4 j y e, fun j y e => by rw [k3]; exact z5 j y e⟩
theorem adv_1 {H : pm_H} (K9 : pm_kd H 19 = 9) (i10 : pm_I H 19 10 = Int32.ofNat 1) : fX9_advance H 19 = (fX9_functionType H 19).bind fun v => fX9_advance_b128 v 19 := by
  unfold fX9_advance fX9_advance_b0
  refine e9_t K9 ?_
  rw [i10]
  exact e9_t (by decide) (e9_l (e9_t (by decide) rfl))
section TROWS
variable {A : Nat → Prop} {h0 : pm_H} {n b mm me sh e x kept lo last pl c p1 : Nat} {d : Bool} {B : Nat → Nat} {M0 : tMd} {L0 q : Int32}
theorem run_types (E : eng A h0) (s3 : 19 < lo ∧ me < lo ∧ sh < lo ∧ b < lo ∧ mm < lo) (shb : sh ≠ b) (hkept : kept = if e - p1 < c then e - p1 else c) (hc : c < 4294967296) (hen : e ≤ n) (hn : n ≤ 40960) :
    ∀ (r : Nat) (l : List tTy) (p i : Nat) (h : pm_H), l.length + r = c → 1 ≤ r → oT h n b mm me sh e x kept d B lo last pl c M0 l L0 → p ≤ e → p1 + l.length ≤ p → i + 8 ≤ p → pr_F A h0 (rc h (Int32.ofNat p) 0 q) → match sp_rows (sp_ty B e) r p with
      | .inl (fl, pl') => wDead A h0 b mm me sh (s69 n mm i (rc h (Int32.ofNat p) 0 q)) fl pl'
      | .inr (l', p') => ∃ h' Hl i', s69 n mm i (rc h (Int32.ofNat p) 0 q) = s69 n mm i' Hl ∧ i' + 8 < p' ∧ p' ≤ e ∧ p + r ≤ p' ∧ pr_F A h0 Hl ∧ pm_kd Hl 19 = 9 ∧ pm_I Hl 19 3 = 0 ∧ 0 ≤ pm_I Hl 19 10 ∧ fX9_advance Hl 19 = ((fX9_closeSection (rc h' (Int32.ofNat p') 0 q) 19).bind fun v => fX9_advance_b162 v) ∧ oT h' n b mm me sh e x kept d B lo last pl c M0 (l ++ l') L0 := by
  intro r
  induction r with
  | zero => intro l p i h _ h1; omega
  | succ r ih =>
    intro l p i h hl _ O hp hp1 hi F
    obtain ⟨LC, T, r0, kd0, ln0, i15, n3, TY, CM, ⟨x1, x2⟩, i10, i11, i12, l14, l5⟩ := O
    have K9 : pm_kd h 19 = 9 := LC.1.1
    have go : 0 ≤ pm_I (rc h (Int32.ofNat p) 0 q) 19 10 := by
      rw [show pm_I (rc h (Int32.ofNat p) 0 q) 19 10 = Int32.ofNat 1 from i10]
      decide
    have RS := cs_ty LC T r0 (i := l.length) (fun hpe => by rw [ln0, hkept]; split <;> omega) i15 (by omega) shb hp q
    have AD := adv_1 (H := rc h (Int32.ofNat p) 0 q) K9 i10
    rw [sp_rows]
    cases hrow : sp_ty B e p with
    | inl z =>
      rw [hrow] at RS
      obtain ⟨hfl, D⟩ := RS
      rw [sp_bl]
      refine w_dead E F K9 rfl (.inl go) (by omega) (by omega) hfl ?_
      rw [AD]
      exact y_h D (fun h2 a2 T2 => cd_128 T2 (nz_fl hfl) a2)
    | inr z =>
      obtain ⟨a, p2⟩ := z
      have pp : p < p2 ∧ p2 ≤ e := by
        unfold sp_ty at hrow
        obtain ⟨c0, p3, e1, e2⟩ := b_inv hrow
        have hb := sp_next_b e1
        by_cases c96 : c0 = 96
        · rw [if_pos c96] at e2
          have tr : ∀ p, p ≤ e → sp_up (sp_trL B e p) p e := fun p hp v p' z => by
            unfold sp_trL at z
            obtain ⟨w, p4, e3, e4⟩ := b_inv z
            have h1 := sp_num_b hp e3
            have h2 := rows_n (e := e) (fun p v p' z hz => by have := sp_byte_b hz z; omega) _ p4 v p' e4 h1.2
            omega
          have u := (up_b (tr p3 (by omega)) fun ps p4 _ h4 => up_b (tr p4 h4) fun rs p5 _ h5 => up_r h5 : sp_up (sp_b (sp_trL B e p3) fun ps p2 => sp_b (sp_trL B e p2) fun rs p3 => (.inr ((ps, rs), p3) : sp_O tTy)) p3 e)
          have := u a p2 e2
          omega
        · rw [if_neg c96] at e2; cases e2
      rw [hrow] at RS
      obtain ⟨rr, eX, hR⟩ := RS
      obtain ⟨h2, er, g2, LC2, m5, ⟨sn, sn1, sn2, sn3⟩, TN⟩ := hR
      subst er
      rw [sp_br]
      have q1 := pp.1
      have q2 := pp.2
      have x9 : x ≠ 19 ∧ x ≠ mm ∧ x ≠ me ∧ x ≠ sh ∧ x ≠ b := by omega
      have dm := lC_m LC
      have ksh := T.2.1.2.1
      have ds : sh ≠ 19 ∧ sh ≠ mm ∧ sh ≠ me := ⟨fun z => by rw [z, K9] at ksh; exact absurd ksh (by decide), fun z => by rw [z, T.1.1.2.2.1] at ksh; exact absurd ksh (by decide), fun z => by rw [z, LC.2.1.2.1] at ksh; exact absurd ksh (by decide)⟩
      have KC : kC lo x h h2 := fun y y1 y2 => by
        have hy : y < pm_sz h := by omega
        refine ⟨(g2.2.1 y hy).1, (g2.2.1 y hy).2, ?_, ?_, ?_⟩
        · funext z; exact g2.2.2.1 y z hy (show ¬ (y = sh ∨ (y = 19 ∧ z = 5)) by omega)
        · funext z; exact g2.2.2.2.1 y z hy (fun z => z)
        · funext z; exact g2.2.2.2.2 y z hy (by omega)
      have sz1 := T.2.2.1
      have I9 : ∀ y, ¬ (y = 5) → pm_I h2 19 y = pm_I h 19 y := fun y hy => g2.2.2.1 19 y sz1.1 (show ¬ (19 = sh ∨ (19 = 19 ∧ y = 5)) by omega)
      have L9 : ∀ y, pm_L h2 19 y = pm_L h 19 y := fun y => g2.2.2.2.1 19 y sz1.1 (fun z => z)
      have T2 : dT h2 b mm me sh := dT_W T g2 (fun y z => x9.1 z.1.symm) (fun y z => x9.2.1 z.1.symm)
      have lc : pm_ln h2 x = pm_ln h x := (g2.2.1 x x2).2
      obtain ⟨h3, eh3⟩ : ∃ z, z = pm_setI h2 19 15 (Int32.ofNat (l.length + 1)) := ⟨_, rfl⟩
      have gn3 : nF h2 h3 := by rw [eh3]; exact nF_sI (nF_r h2)
      have X3 : ∀ y, y ≠ 19 → pm_I h3 y = pm_I h2 y := fun y hy => by funext z; rw [eh3, ev_II, if_neg hy]
      have LL3 : ∀ y, pm_L h3 y = pm_L h2 y := fun y => by rw [eh3]; rfl
      have I93 : ∀ y, y ≠ 15 → pm_I h3 19 y = pm_I h2 19 y := fun y hy => by rw [eh3, ev_II, if_pos rfl, if_neg hy]
      have LC3 : lC h3 n b mm me e d false B := lC_g LC2 (AI := fun X Y => X = 19 ∧ Y = 15) (AL := fun _ _ => False) (by rw [eh3]; exact gF_I h2 _ ⟨rfl, rfl⟩) (fun Y z => dm.2.1 z.1) (fun z => absurd z.2 (by decide)) (fun z => absurd z.2 (by decide)) (fun z => z)
      have la : (l ++ [a]).length = l.length + 1 := by rw [List.length_append]; rfl
      have O3 : oT h3 n b mm me sh e x kept d B lo last pl c M0 (l ++ [a]) L0 := by
        refine ⟨LC3, dT_n T2 gn3, ?_, (gk gn3 (((g2.2.1 x x2).1).trans kd0)), ((nF_ln gn3).trans (lc.trans ln0)), ?_, by rw [la]; omega, fun i v e => ?_, ?_, ⟨x1, by rw [gn3.1]; have := g2.1; omega⟩, ?_, ?_, ?_, ?_, ?_⟩
        · rw [congrFun (congrFun gn3.2.2.2 mm) 2, g2.2.2.2.2 mm 2 sz1.2.2.1 (by omega)]; exact r0
        · rw [eh3, ev_II, if_pos rfl, if_pos rfl, la]
        · by_cases il : i < l.length
          · rw [List.getElem?_append_left il] at e
            obtain ⟨t1, s, t2, t3, t4⟩ := TY i v e
            have rx : pm_R h3 x i = pm_R h x i := (congrFun (congrFun gn3.2.2.2 x) i).trans (g2.2.2.2.2 x i x2 (by omega))
            refine ⟨pTyC_k rx (fun s' e' => ?_) t1, s, rx.trans t2, t3, by rw [gn3.1]; have := g2.1; omega⟩
            rw [t2] at e'
            have e' := Option.some.inj e'
            subst e'
            refine ⟨(congrFun gn3.2.1 s).trans (g2.2.1 s t4).1, (nF_ln gn3).trans (g2.2.1 s t4).2, ?_⟩
            rw [X3 s (by omega)]
            funext z
            exact g2.2.2.1 s z t4 (show ¬ (s = sh ∨ (s = 19 ∧ z = 5)) by omega)
          · rw [List.getElem?_append_right (by omega)] at e
            have z0 : i - l.length = 0 := by
              by_cases z0 : i - l.length = 0
              · exact z0
              · exfalso
                rw [List.getElem?_eq_none (by show 1 ≤ _; omega)] at e
                cases e
            rw [z0] at e
            cases e
            have ie : i = l.length := by omega
            subst ie
            refine ⟨pTyC_k (congrFun (congrFun gn3.2.2.2 x) _) (fun s' e' => ?_) TN, sn, (congrFun (congrFun gn3.2.2.2 x) _).trans sn1, by omega, by rw [gn3.1]; exact sn3⟩
            rw [sn1] at e'
            have e' := Option.some.inj e'
            subst e'
            exact ⟨congrFun gn3.2.1 _, nF_ln gn3, X3 _ (by omega)⟩
        · refine cMx_k (h := h) (hi := x) (skip := 1) (fun y y1 y2 => ?_) (Nat.le_refl _) (.inr rfl) (fun jj s _ _ _ => ?_) (by omega) ?_ ?_ CM
          · obtain ⟨z1, z2, z3, z4, z5⟩ := KC y y1 y2
            exact ⟨(congrFun gn3.2.1 y).trans z1, (congrFun gn3.2.2.1 y).trans z2, (X3 y (by omega)).trans z3, (LL3 y).trans z4, (congrFun gn3.2.2.2 y).trans z5⟩
          · exact (congrFun (congrFun gn3.2.2.2 mm) jj).trans (g2.2.2.2.2 mm jj sz1.2.2.1 (by omega))
          · rw [LL3 mm]; exact g2.2.2.2.1 mm 13 sz1.2.2.1 (fun z => z)
          · rw [LL3 mm]; exact g2.2.2.2.1 mm 14 sz1.2.2.1 (fun z => z)
        · rw [I93 10 (by decide), I9 10 (by decide)]; exact i10
        · rw [I93 11 (by decide), I9 11 (by decide)]; exact i11
        · rw [I93 12 (by decide), I9 12 (by decide)]; exact i12
        · rw [LL3 19, L9 14]; exact l14
        · rw [I93 5 (by decide), m5, l5, i11, List.any_append, List.any_cons, List.any_nil, Bool.or_false]
          exact xv_or _ _ _ _
      have B128 : fX9_advance_b128 (rc h2 (Int32.ofNat p2) 0 q) 19 = fX9_advance_b138 (rc h3 (Int32.ofNat p2) 0 q) 19 := by
        unfold fX9_advance_b128
        refine e9_t (gk (nF_r h2) T2.1.1.1) (e9_l ?_)
        rw [show pm_I (rc h2 (Int32.ofNat p2) 0 q) 19 15 = Int32.ofNat l.length from (I9 15 (by decide)).trans i15, show Int32.ofNat l.length + 1 = Int32.ofNat (l.length + 1) from nn_ad _ 1, rc_19 _ _ _ _ _ (by decide) (by decide) (by decide), ← eh3]
      have AD2 : fX9_advance (rc h (Int32.ofNat p) 0 q) 19 = fX9_advance_b138 (rc h3 (Int32.ofNat p2) 0 q) 19 := by
        rw [AD, eX]
        exact B128
      have j10 : pm_I (rc h3 (Int32.ofNat p2) 0 q) 19 10 = Int32.ofNat 1 := O3.2.2.2.2.2.2.2.2.2.2.1
      have j15 : pm_I (rc h3 (Int32.ofNat p2) 0 q) 19 15 = Int32.ofNat (l.length + 1) := by rw [show pm_I (rc h3 (Int32.ofNat p2) 0 q) 19 15 = pm_I h3 19 15 from rfl, eh3, ev_II, if_pos rfl, if_pos rfl]
      have jl : pm_L (rc h3 (Int32.ofNat p2) 0 q) 19 14 = Int64.ofNat c := O3.2.2.2.2.2.2.2.2.2.2.2.2.2.1
      have nid : ¬ pm_I (rc h3 (Int32.ofNat p2) 0 q) 19 10 < 0 := by rw [j10]; decide
      have cmp : ((pm_I (rc h3 (Int32.ofNat p2) 0 q) 19 15).toInt64 < pm_L (rc h3 (Int32.ofNat p2) 0 q) 19 14) = (l.length + 1 < c) := by rw [j15, jl, nn_t6 (by omega), ll_lt (by omega) (by omega)]
      cases r with
      | zero =>
        rw [sp_rows, sp_br]
        refine ⟨h3, rc h (Int32.ofNat p) 0 q, i, rfl, by omega, q2, by omega, F, K9, rfl, go, ?_, O3⟩
        rw [AD2]
        unfold fX9_advance_b138
        exact e9_t (gk gn3 T2.1.1.1) (e9_f nid (e9_f (by rw [cmp]; omega) rfl))
      | succ r =>
        have AD3 : fX9_advance (rc h (Int32.ofNat p) 0 q) 19 = some (rc h3 (Int32.ofNat p2) 0 q) := by
          rw [AD2]
          unfold fX9_advance_b138 fX9_advance_b162
          exact e9_t (gk gn3 T2.1.1.1) (e9_f nid (e9_t (by rw [cmp]; omega) rfl))
        obtain ⟨s1, F3⟩ := s69_go (mm := mm) (n := n) E F K9 rfl (.inl go) (show i < n by omega) (by omega) AD3
        have I := ih (l ++ [a]) p2 (i + 1) h3 (by rw [la]; omega) (by omega) O3 q2 (by rw [la]; omega) (by omega) F3
        cases hr2 : sp_rows (sp_ty B e) (r + 1) p2 with
        | inl z =>
          rw [hr2] at I
          rw [sp_bl]
          obtain ⟨hfl, h9, a9, e9', T9, F9⟩ := I
          exact ⟨hfl, h9, a9, s1.trans e9', T9, F9⟩
        | inr z =>
          rw [hr2] at I
          rw [sp_br]
          obtain ⟨h9, Hl, i', t1, t2, t3, t4, t5, t6, t7, t8, t9, t10⟩ := I
          exact ⟨h9, Hl, i', s1.trans t1, t2, t3, by omega, t5, t6, t7, t8, t9, by rw [List.append_assoc] at t10; exact t10⟩
end TROWS
