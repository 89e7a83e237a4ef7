/-! THE CLASS CHECKS: labels -/
section XLAB
variable {h0 r : pm_H} {n b mm lo hi bo co dd cap : Nat} {B : Nat → Nat} {M : tMd} {Ts : List Int64} {o : sp_O tK} {p w s f x : Nat} {v : sp_I} {hb : Int32} {K : tK} {ps rs l : List Nat} {t : Int64}
theorem sQ_B (C : xC h0 n b mm lo hi bo co dd cap B M) (F : xFr bo co h0 r) (P : sQ r lo hi s f l) : sQ h0 lo hi s f l := by
  obtain ⟨p1, p2, p3, p4, p5⟩ := P
  obtain ⟨-, -, -, ⟨a1, a2, a3, a4, a5, a6, a7⟩, -⟩ := C
  have sl : ∀ y, pm_I r s y = pm_I h0 s y := fun y => F.2.2.2.2.1 s y (by unfold xAI; unfold sLo at p4; omega)
  exact ⟨by rw [← F.2.1]; exact p1, by rw [← F.2.2.1]; exact p2, by rw [← F.2.2.1]; exact p3, p4, fun j hj => (sl _).symm.trans (p5 j hj)⟩
theorem shP_B (C : xC h0 n b mm lo hi bo co dd cap B M) (F : xFr bo co h0 r) (P : shP r lo hi s ps rs) : shP h0 lo hi s ps rs := by
  obtain ⟨p1, p2, p3, p4⟩ := P
  have p4' := p1.2.2.2.1
  have aa := C.2.2.2.1
  have sl : ∀ y, pm_I r s y = pm_I h0 s y := fun y => F.2.2.2.2.1 s y (by unfold xAI; unfold sLo at p4'; omega)
  exact ⟨sQ_B C F p1, sQ_B C F p2, (sl 0).symm.trans p3, (sl 1).symm.trans p4⟩
theorem x_isl (C : xC h0 n b mm lo hi bo co dd cap B M) (S : xS h0 M bo co Ts o r) (tl : Ts.length ≤ 200) (hx : x < Ts.length) : ∃ g : Bool, fX1_isLoop r 22 (Int32.ofNat (Ts.length - 1 - x)) = some (iN g) ∧ ∀ K z, o = .inr (K, z) → g = decide ((K.2.1.getD x lb0).1 = 3) := by
  have Cr := xS_C C S
  have e0 := lb_v Cr (k := Ts.length - 1 - x) (j := 0) (by omega) (by decide)
  obtain ⟨y, ey⟩ : ∃ y, y = pm_I r 25 (7 * (Ts.length - 1 - x) + 0) := ⟨_, rfl⟩
  rw [← ey] at e0
  refine ⟨decide (y = 3), ?_, fun K z e => ?_⟩
  · unfold fX1_isLoop
    refine e9_t Cr.2.2.1.1.1 (e9_b e0 ?_)
    by_cases c : y = 3
    · rw [decide_eq_true c]; exact e9_t c rfl
    · rw [decide_eq_false c]; exact e9_f c rfl
  · obtain ⟨W, eT⟩ := xS_wf S e
    have V : xK r bo co K := by obtain ⟨-, S⟩ := S; rw [e] at S; exact S.1
    have kl : K.2.1.length = Ts.length := by rw [← eT, tyL_l]
    obtain ⟨l0, -⟩ := oL_x V.2.2.2.2.2.1 (show x < K.2.1.length by omega)
    rw [kl] at l0
    have w5 := (W.2.1 _ (getD_mem (show x < K.2.1.length by omega))).2
    rw [ey, Nat.add_zero, l0]
    refine decide_eq_decide.mpr ?_
    rw [show (3 : Int32) = Int32.ofNat 3 from rfl, nn_eq (by omega) (by decide)]
/-- what a branch to a label wants: its shape, is it a loop -/
theorem x_lab (C : xC h0 n b mm lo hi bo co dd cap B M) (S : xS h0 M bo co Ts o r) (T : vTy M) (tl : Ts.length ≤ 200) (hx : Ts[x]? = some t) (W : wfT M t) : ∃ s g, shP h0 lo hi s (btP M t) (btR M t) ∧ fX1_shapeOfLabel r 22 (Int32.ofNat (Ts.length - 1 - x)) = some (s, r) ∧ fX1_isLoop r 22 (Int32.ofNat (Ts.length - 1 - x)) = some (iN g) ∧ (∀ K z, o = .inr (K, z) → lbW M (K.2.1.getD x lb0) = if g = true then btP M t else btR M t) ∧ fX1_wantedCount r 22 (Int32.ofNat (Ts.length - 1 - x)) = some (Int32.ofNat (if g = true then btP M t else btR M t).length, r) ∧ fX1_wantedFrom r 22 (Int32.ofNat (Ts.length - 1 - x)) = some (Int32.ofNat (if g = true then 2 else 2 + (btP M t).length), r) ∧ (∀ K z, o = .inr (K, z) → g = decide ((K.2.1.getD x lb0).1 = 3)) := by
  have Cr := xS_C C S
  have xl := some_lt hx
  obtain ⟨s, e1, P⟩ := x_sol Cr T (xS_T S) tl hx W
  obtain ⟨g, e2, ga⟩ := x_isl C S tl xl
  refine ⟨s, g, shP_B C S.1 P, e1, e2, fun K z e => ?_, ?_, ?_, ga⟩
  · obtain ⟨W', eT⟩ := xS_wf S e
    have kl : K.2.1.length = Ts.length := by rw [← eT, tyL_l]
    have ty := tyL_g (K := K) (x := x) (by omega)
    rw [eT, hx] at ty
    have ty : t = (K.2.1.getD x lb0).2.1 := Option.some.inj ty
    unfold lbW
    rw [ga K z e, ← ty]
    by_cases c : (K.2.1.getD x lb0).1 = 3
    · rw [if_pos c, if_pos (decide_eq_true c)]
    · rw [if_neg c, if_neg (fun y => c (of_decide_eq_true y))]
  · unfold fX1_wantedCount fX1_wantedCount_b0 fX1_wantedCount_b5
    refine e9_t Cr.2.2.1.1.1 (e9_b e1 (e9_t Cr.2.2.1.1.1 (e9_b e2 ?_)))
    cases g with
    | true => exact e9_f (by decide) (e9_b (sh_i0 P) rfl)
    | false => exact e9_t rfl (e9_b (sh_i1 P) rfl)
  · unfold fX1_wantedFrom fX1_wantedFrom_b0 fX1_wantedFrom_b18
    refine e9_t Cr.2.2.1.1.1 (e9_b e2 ?_)
    cases g with
    | true => exact e9_f (by decide) rfl
    | false =>
      refine e9_t rfl (e9_b e1 (e9_b (sh_i0 P) ?_))
      rw [show (2 : Int32) + Int32.ofNat (btP M t).length = Int32.ofNat (2 + (btP M t).length) from nn_ad 2 _]
      rfl
theorem xS_e {o' : sp_O tK} (e : o = o') (S : xS h0 M bo co Ts o r) : xS h0 M bo co Ts o' r := e ▸ S
/-- one spec for another: they need only agree where the state is alive -/
theorem sp_cg {α β : Type} {o : sp_O α} {f g : α → Nat → sp_O β} (h : ∀ K z, o = .inr (K, z) → f K z = g K z) : sp_b o f = sp_b o g := by
  cases o with
  | inl w => rfl
  | inr v => exact h v.1 v.2 rfl
theorem x_tkW (C : xC h0 n b mm lo hi bo co dd cap B M) (I : xI h0 p v hb) (S : xS h0 M bo co Ts o r) (T : vTy M) (tl : Ts.length ≤ 200) (hx : Ts[x]? = some t) (W : wfT M t) : ∃ r', fX1_takeWanted r 22 (Int32.ofNat (Ts.length - 1 - x)) = some r' ∧ xS h0 M bo co Ts (sp_b o fun K _ => kTakeL p (lbW M (K.2.1.getD x lb0)) K) r' := by
  have Cr := xS_C C S
  have BW := bt_w T W
  have xl := some_lt hx
  obtain ⟨s, g, P, e1, e2, ea, e3, e4, -⟩ := x_lab C S T tl hx W
  have k1 := Cr.2.2.1.1.1
  have go : ∀ l : List Nat, sQ h0 lo hi s (if g = true then 2 else 2 + (btP M t).length) l → l = (if g = true then btP M t else btR M t) → (∀ x, x ∈ l → isT x) → l.length ≤ 16 → ∃ r', fX1_takeWanted r 22 (Int32.ofNat (Ts.length - 1 - x)) = some r' ∧ xS h0 M bo co Ts (sp_b o fun K _ => kTakeL p (lbW M (K.2.1.getD x lb0)) K) r' := by
    intro l Q el ty l16
    obtain ⟨r', e5, S'⟩ := x_tks C I (by omega) Q (by split <;> omega) (fun x hx => .inr (ty x hx)) S
    refine ⟨r', ?_, xS_e (sp_cg fun K z e => by rw [ea K z e, ← el]) S'⟩
    unfold fX1_takeWanted fX1_takeWanted_b0 fX1_takeWanted_b6 fX1_takeWanted_b11 fX1_takeWanted_b16
    refine e9_t k1 (e9_b e1 (e9_t k1 (e9_b e4 (e9_t k1 (e9_b e3 (e9_t k1 ?_))))))
    rw [← el]
    exact e9_b e5 rfl
  cases g with
  | true => exact go (btP M t) P.1 rfl BW.2.2.1 BW.1
  | false => exact go (btR M t) P.2.1 rfl BW.2.2.2 BW.2.1
theorem x_tkA (C : xC h0 n b mm lo hi bo co dd cap B M) (I : xI h0 p v hb) (S : xS h0 M bo co Ts o r) (T : vTy M) (tl : Ts.length ≤ 200) (hx : Ts[0]? = some t) (W : wfT M t) : ∃ r', fX1_takeAllResults r 22 (Int32.ofNat (Ts.length - 1)) = some r' ∧ xS h0 M bo co Ts (sp_b o fun K _ => sp_b (kTakeL p (btR M t) K) fun K1 _ => if K1.1.length = (kTop K).2.2.1 then .inr (K1, 0) else .inl (29, p)) r' := by
  have Cr := xS_C C S
  have BW := bt_w T W
  have xl := some_lt hx
  obtain ⟨s, g, P, e1, -⟩ := x_lab C S T tl hx W
  rw [Nat.sub_zero] at e1
  have k1 := Cr.2.2.1.1.1
  have Pr := shP_F C S.1 P
  have rl := BW.2.1
  have pl := BW.1
  obtain ⟨r1, e5, S1⟩ := x_tks C I xl P.2.1 (by omega) (fun x hx => .inr (BW.2.2.2 x hx)) S
  have C1 := xS_C C S1
  have hd : ∀ {Y : Option pm_H}, ((if pm_kd r1 22 = 1 then (fX1_label r1 22 (Int32.ofNat (Ts.length - 1)) 2).bind fun v13 => if (pm_I r1 22 6) = v13 then (some r1) else ((fX1_fail r1 22 29).bind fun v16 => some v16) else none) = Y) → fX1_takeAllResults r 22 (Int32.ofNat (Ts.length - 1)) = Y := fun {Y} h => by
    unfold fX1_takeAllResults fX1_takeAllResults_b0 fX1_takeAllResults_b5
    refine e9_t k1 (e9_b e1 (e9_b (sh_i0 Pr) (e9_b (sh_i1 Pr) (e9_t k1 ?_))))
    rw [show (2 : Int32) + Int32.ofNat (btP M t).length = Int32.ofNat (2 + (btP M t).length) from nn_ad 2 _]
    exact e9_b e5 h
  have e6 := lb_v C1 (k := Ts.length - 1) (j := 2) (by omega) (by decide)
  cases o with
  | inl fq =>
    obtain ⟨f, q⟩ := fq
    by_cases c : pm_I r1 22 6 = pm_I r1 25 (7 * (Ts.length - 1) + 2)
    · exact ⟨r1, hd (e9_t C1.2.2.1.1.1 (e9_b e6 (e9_t c rfl))), S1⟩
    · exact ⟨r1, hd (e9_t C1.2.2.1.1.1 (e9_b e6 (e9_f c (e9_b (fl_d C S1 _) rfl)))), S1⟩
  | inr u =>
    obtain ⟨K, z⟩ := u
    rw [sp_br] at S1 ⊢
    cases ek : kTakeL p (btR M t) K with
    | inl fq =>
      obtain ⟨f, q⟩ := fq
      rw [ek] at S1
      by_cases c : pm_I r1 22 6 = pm_I r1 25 (7 * (Ts.length - 1) + 2)
      · exact ⟨r1, hd (e9_t C1.2.2.1.1.1 (e9_b e6 (e9_t c rfl))), S1⟩
      · exact ⟨r1, hd (e9_t C1.2.2.1.1.1 (e9_b e6 (e9_f c (e9_b (fl_d C S1 _) rfl)))), S1⟩
    | inr y =>
      obtain ⟨K1, z1⟩ := y
      rw [ek] at S1
      obtain ⟨W0, eT0⟩ := xS_wf S rfl
      obtain ⟨w1, w2, w3⟩ := kTakeN_w W0 ek
      have V1 := S1.2.1
      have kl : K.2.1.length = Ts.length := by rw [← eT0, tyL_l]
      have kl1 : K1.2.1.length = Ts.length := by rw [w2]; exact kl
      obtain ⟨-, -, l3, -⟩ := oL_x V1.2.2.2.2.2.1 (show 0 < K1.2.1.length by omega)
      rw [kl1, Nat.sub_zero, w2, ← kTop_g] at l3
      have w4 := w1.2.2.2.1
      have hh : (kTop K).2.2.1 ≤ K.1.length := by
        obtain ⟨st, ls, rs⟩ := K
        cases ls with
        | nil => have kl : (0 : Nat) = Ts.length := kl; omega
        | cons l ls => exact W0.1.1
      have w40 := W0.2.2.2.1
      have i6 : pm_I r1 22 6 = Int32.ofNat K1.1.length := V1.2.1
      rw [sp_br]
      by_cases c : K1.1.length = (kTop K).2.2.1
      · rw [if_pos c]
        exact ⟨r1, hd (e9_t C1.2.2.1.1.1 (e9_b e6 (e9_t (by rw [i6, l3, c]) rfl))), S1⟩
      · rw [if_neg c]
        obtain ⟨r2, e7, S2⟩ := x_fail (w := 29) C I S1 ⟨by decide, by decide⟩
        exact ⟨r2, hd (e9_t C1.2.2.1.1.1 (e9_b e6 (e9_f (by rw [i6, l3, nn_eq (by omega) (by omega)]; exact c) (e9_b e7 rfl)))), S2⟩
end XLAB
