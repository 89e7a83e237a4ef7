/-! THE CLASS CHECKS A MODULE, from check() to the label behind its bodies -/
/-- what check() and the bodies leave -/
def chF (h r : pm_H) (mm : Nat) : Prop := (∀ x, x < pm_sz h → pm_kd r x = pm_kd h x ∧ pm_ln r x = pm_ln h x) ∧ (∀ x, x < pm_sz h → ¬ xZ x → x ≠ mm → pe_E h r x) ∧ (∀ y, pm_I r mm y = pm_I h mm y) ∧ (∀ x, x < pm_sz h → x ≠ 22 → ∀ y, ¬ (x = mm ∧ y = 12) → pm_R r x y = pm_R h x y) ∧ (∀ y, y ≠ 2 → y ≠ 4 → y ≠ 17 → pm_R r 22 y = pm_R h 22 y) ∧ ∀ x, x < pm_sz h → x ≠ 19 → ∀ y, pm_L r x y = pm_L h x y
section XWH
variable {h r r' : pm_H} {n b mm lo hi dd : Nat} {B : Nat → Nat} {M : tMd} {D : Bool}
theorem xQ0_k (Q : xQ0 h) (kl : ∀ x, x < 182 → pm_kd r x = pm_kd h x ∧ pm_ln r x = pm_ln h x) (R22 : ∀ y, y ≠ 2 → y ≠ 4 → y ≠ 17 → pm_R r 22 y = pm_R h 22 y) (E : ∀ x, 28 < x → x < 182 → pe_E h r x) : xQ0 r := by
  obtain ⟨⟨x1, x2, x3⟩, ⟨x4, x5, x6⟩, ⟨x7, x8, x9⟩, ⟨y1, y2, y3⟩, ⟨y4, y5, y6⟩, ⟨y7, y8, y9, z1, z2⟩, ⟨z3, z4, z5, z6, z7⟩⟩ := Q
  have f4 : ∀ y, y ≠ 2 → y ≠ 4 → y ≠ 17 → pm_R r 22 y = pm_R h 22 y := R22
  refine ⟨⟨(f4 5 (by decide) (by decide) (by decide)).trans x1, (kl 24 (by omega)).1.trans x2, (kl 24 (by omega)).2.trans x3⟩, ⟨(f4 9 (by decide) (by decide) (by decide)).trans x4, (kl 25 (by omega)).1.trans x5, (kl 25 (by omega)).2.trans x6⟩, ⟨(f4 11 (by decide) (by decide) (by decide)).trans x7, (kl 26 (by omega)).1.trans x8, (kl 26 (by omega)).2.trans x9⟩, ⟨(f4 13 (by decide) (by decide) (by decide)).trans y1, (kl 27 (by omega)).1.trans y2, (kl 27 (by omega)).2.trans y3⟩, ⟨(f4 15 (by decide) (by decide) (by decide)).trans y4, (kl 28 (by omega)).1.trans y5, (kl 28 (by omega)).2.trans y6⟩, ⟨(f4 16 (by decide) (by decide) (by decide)).trans y7, (kl 29 (by omega)).1.trans y8, (kl 29 (by omega)).2.trans y9, ((E 29 (by omega) (by omega)).2.2.2.2 64).trans z1, fun j hj => ((E 29 (by omega) (by omega)).2.2.2.2 _).trans (z2 j hj)⟩, ⟨(kl 164 (by omega)).1.trans z3, (kl 164 (by omega)).2.trans z4, ((E 164 (by omega) (by omega)).2.2.1 0).trans z5, ((E 164 (by omega) (by omega)).2.2.1 1).trans z6, fun j hj => ?_⟩⟩
  obtain ⟨w1, w2, w3, w4, w5⟩ := z7 j hj
  have e := E (165 + j) (by omega) (by omega)
  exact ⟨e.1.trans w1, e.2.1.trans w2, (e.2.2.1 0).trans w3, (e.2.2.1 1).trans w4, (e.2.2.1 2).trans w5⟩
/-- the clauses leave -/
theorem chF_c (P : xP h n b mm lo hi B M D) (F : eF (pm_sz h) (hCk h mm (spF M).length) r) : chF h r mm := by
  obtain ⟨-, -, -, ⟨a1, a2, a3, a4, a5⟩, -, -⟩ := P
  obtain ⟨z, kd, ln, rr, ii, d1, d2, d3⟩ := hCk_22 h mm (spF M).length (by omega)
  have E := fun x h1 h2 => hCk_E h mm (spF M).length x h1 h2
  obtain ⟨f1, f2, f3, f4, f5, f6⟩ := F
  have kl : ∀ x, x < pm_sz h → pm_kd (hCk h mm (spF M).length) x = pm_kd h x ∧ pm_ln (hCk h mm (spF M).length) x = pm_ln h x := fun x hx => by
    by_cases c : x = 22
    · rw [c]; exact ⟨kd, ln⟩
    · exact ⟨(E x hx c).1, (E x hx c).2.1⟩
  have LL : ∀ x, x < pm_sz h → ∀ y, pm_L (hCk h mm (spF M).length) x y = pm_L h x y := fun x hx y => by
    show (if x = pm_sz h then _ else pm_L h x y) = _
    rw [if_neg (by omega)]
  refine ⟨fun x hx => ⟨by rw [f2]; exact (kl x hx).1, by rw [f3]; exact (kl x hx).2⟩, fun x hx hz _ => ?_, fun y => (f5 mm y (by unfold eAI; omega)).trans ((E mm (by omega) (by omega)).2.2.1 y), fun x hx h22 y _ => by rw [f4]; exact (E x hx h22).2.2.2.2 y, fun y h2 h4 _ => by rw [f4, rr, if_neg h4, if_neg h2], fun x hx h19 y => (f6 x y (by unfold eAL; omega)).trans (LL x hx y)⟩
  unfold xZ at hz
  obtain ⟨e1, e2, e3, e4, e5⟩ := E x hx (by omega)
  exact ⟨by rw [f2]; exact e1, by rw [f3]; exact e2, fun y => (f5 x y (by unfold eAI; omega)).trans (e3 y), fun y => (f6 x y (by unfold eAL; omega)).trans (e4 y), fun y => by rw [f4]; exact e5 y⟩
/-- no bodies were made: none is checked -/
theorem s150_0 {z : Nat} (km : pm_kd r mm = 7) (Rz : pm_R r mm 12 = some z) (kz : pm_kd r z = 38) (lz : pm_ln r z = 0) : s150 mm 0 r = s183 mm r := by
  refine k_w (aX12_module_8 ..) ?_
  unfold tX12_module_150
  exact k_t km (k_b Rz (k_t kz (k_t (by rw [lz]; decide) rfl)))
theorem x_all (P : xP h n b mm lo hi B M D) (Q0 : xQ0 h) (l181 : 181 < lo) (e0 : pm_kd h 0 = 12 ∧ pm_R h 0 9 = some 22) (g : gd B n D M) (g8 : gdS M) (gi : gIv n M) (hE : M.2.2.1.length = M.2.2.2.2.2.2.2.2.2.1.length) {z : Nat} (Rz : pm_R h mm 12 = some z) (hz : 28 < z ∧ z < pm_sz h) (zm : z ≠ mm) (kz : pm_kd h z = 38) (lz : pm_ln h z = 0) : ∃ v r', fX1_check h 22 mm (on3 M.2.2.2.2.2.2.2.2.2.2.2.2.2) = some v ∧ s150 mm 0 v = s183 mm r' ∧ chF h r' mm ∧ pm_sz h ≤ pm_sz r' ∧ pm_sz r' ≤ pm_sz h + 2 + 6 * M.2.2.2.2.2.2.2.2.2.1.length ∧ match sp_chk B n D M with
    | .inl w => (0 < w.1 ∧ w.1 < 100) ∧ pm_I r' 22 0 = Int32.ofNat w.1 ∧ pm_I r' 22 1 = Int32.ofNat w.2
    | .inr vs => pm_I r' 22 0 = 0 ∧ bCx r' n b mm lo hi (pm_sz h + 1) (pm_sz h) B M D (dCl B n D M) ∧ bLp r' lo hi (pm_sz h + 1) M M.2.2.2.2.2.2.2.2.2.1.length vs.1 := by
  have P' := P
  obtain ⟨S, C, ⟨k1, k3⟩, ⟨a1, a2, a3, a4, a5⟩, dt, N⟩ := P
  have n4 : n ≤ 40960 := S.2.2.2.2.2.2.1
  -- an end without bodies
  have fin : ∀ {r : pm_H}, eF (pm_sz h) (hCk h mm (spF M).length) r → s150 mm 0 r = s183 mm r ∧ chF h r mm ∧ pm_sz h ≤ pm_sz r ∧ pm_sz r ≤ pm_sz h + 2 + 6 * M.2.2.2.2.2.2.2.2.2.1.length := fun {r} F => by
    have c := chF_c P' F
    have em : pm_R r mm 12 = some z := by
      rw [F.2.2.2.1]
      exact ((hCk_E h mm (spF M).length mm (by omega) (by omega)).2.2.2.2 12).trans Rz
    have szr : pm_sz r = pm_sz h + 1 := by rw [F.1]; rfl
    exact ⟨s150_0 ((c.1 mm (by omega)).1.trans S.2.2.1) em ((c.1 z hz.2).1.trans kz) ((c.1 z hz.2).2.trans lz), c, by omega, by omega⟩
  rw [chk_e]
  cases eL : M.2.2.2.2.2.2.2.2.2.2.2.2.2 with
  | some pl =>
    have pp := gi.2.2 pl eL
    obtain ⟨r1, e1, S1⟩ := x_ckL (L := []) P' (pl := pl) (by omega)
    obtain ⟨t1, t2, t3, t4⟩ := fin S1.1
    exact ⟨r1, r1, e1, t1, t2, t3, t4, S1.2⟩
  | none =>
    have G : vG B n D M := ⟨g, eL⟩
    obtain ⟨r1, S1, e1⟩ := x_ckN P' G g8 gi
    show ∃ v r', fX1_check h 22 mm (-1) = some v ∧ _
    cases ck : sp_ck0 B n D M with
    | some w =>
      rw [ck] at S1 e1
      rw [if_neg (fun h => nomatch h)] at e1
      obtain ⟨t1, t2, t3, t4⟩ := fin S1.1
      exact ⟨r1, r1, e1, t1, t2, t3, t4, S1.2⟩
    | none =>
      rw [ck] at S1 e1
      rw [if_pos rfl] at e1
      have hF : ∀ f, f ∈ spF M → f.2.1 < M.1.length := by
        have z := (oE_nn ck).1
        rw [hdC_e] at z
        obtain ⟨w1, w2⟩ := oE_nn (oE_nn z).1
        exact hF_of (Bool.eq_false_iff.mpr (if_n w1)) (Bool.eq_false_iff.mpr (if_n w2))
      obtain ⟨X0, -, -⟩ := yC_0 P'
      obtain ⟨X1, ⟨d1, d2, d3⟩, hd, dt1⟩ := yC_F X0 S1.1
      have C1 := chF_c P' S1.1
      have sz1 : pm_sz r1 = pm_sz h + 1 := by rw [S1.1.1]; rfl
      have b6 : M.2.2.2.2.2.2.2.2.2.1.length ≤ 81920 := by obtain ⟨bx, b1, b2, b3, b4, b5, b6, b7⟩ := C.2.2.2.2.2.2.2.2.2.1 (by decide); exact b6
      obtain ⟨r2, e2, P2⟩ := x_mk X1 (by omega) G hF hE
      have X2 := hX_bd X1 (by omega) P2
      obtain ⟨zs, E, ⟨m1, m2, m3, m4, m5⟩, ⟨c1, c2⟩, bds⟩ := P2
      rw [sz1] at zs E m5 c1 c2 bds
      have ed := E (pm_sz h) (by omega) (by omega)
      have e22 := E 22 (by omega) (by omega)
      have Q2 : xQ0 r2 := xQ0_k Q0 (fun x hx => ⟨(E x (by omega) (by omega)).1.trans (C1.1 x (by omega)).1, (E x (by omega) (by omega)).2.1.trans (C1.1 x (by omega)).2⟩) (fun y h1 h2 h3 => (e22.2.2.2.2 y).trans (C1.2.2.2.2.1 y h1 h2 h3)) (fun x h1 h2 => pe_E_t (C1.2.1 x (by omega) (by unfold xZ; omega) (by omega)) (E x (by omega) (by omega)))
      have Y : bCx r2 n b mm lo hi (pm_sz h + 1) (pm_sz h) B M D (dCl B n D M) := ⟨X2, ⟨(e22.2.2.2.2 4).trans d1, ed.1.trans d2, ed.2.1.trans d3⟩, ⟨a5, by omega, by omega⟩, Q2, by rw [m4]; exact dt1, fun i hi => by rw [ed.2.2.1]; exact S1.2.2 i hi, ⟨by rw [m5, if_pos rfl], c1, c2⟩, l181⟩
      have i0 : pm_I r2 22 0 = 0 := (e22.2.2.1 0).trans S1.2.1
      have ez := pe_E_t (C1.2.1 0 (by omega) (by unfold xZ; omega) (by omega)) (E 0 (by omega) (by omega))
      have L0 : bLp r2 lo hi (pm_sz h + 1) M 0 [] := ⟨by omega, rfl, fun j hj => (bds j hj).1, fun j v (hv : ([] : List (Nat × tK))[j]? = some v) => absurd (some_lt hv) (Nat.not_lt_zero _), fun j _ hj => (bds j hj).2⟩
      obtain ⟨r3, e3, F3, ⟨sz3, sz4⟩, H3⟩ := x_bdL (n := n) (b := b) (mm := mm) (dd := pm_sz h) (B := B) (D := D) (Dc := dCl B n D M) G hF hE b6 _ 0 [] (Nat.zero_add _) Y ⟨ez.1.trans e0.1, (ez.2.2.2.2 9).trans e0.2⟩ i0 L0
      rw [List.drop_zero, List.drop_zero] at H3
      refine ⟨r2, r3, e1.trans e2, e3, ?_, by omega, by omega, ?_⟩
      · obtain ⟨f1, f2, f3, f4, f5⟩ := F3
        obtain ⟨g1, g2, g3, g4, g5, g6⟩ := C1
        have kd2 : ∀ x, x < pm_sz h → pm_kd r2 x = pm_kd r1 x ∧ pm_ln r2 x = pm_ln r1 x := fun x hx => by
          by_cases c : x = mm
          · rw [c]; exact ⟨m1, m2⟩
          · exact ⟨(E x (by omega) c).1, (E x (by omega) c).2.1⟩
        refine ⟨fun x hx => ⟨((f1 x (by omega)).1.trans (kd2 x hx).1).trans (g1 x hx).1, ((f1 x (by omega)).2.trans (kd2 x hx).2).trans (g1 x hx).2⟩, fun x hx hz hm => pe_E_t (g2 x hx hz hm) (pe_E_t (E x (by omega) hm) (f2 x (by omega) hz)), fun y => ((f2 mm (by omega) (by unfold xZ; omega)).2.2.1 y).trans ((m3 y).trans (g3 y)), fun x hx h22 y hn => ?_, fun y h1 h2 h3 => (f4 y h3).trans ((e22.2.2.2.2 y).trans (g5 y h1 h2 h3)), fun x hx h19 y => ?_⟩
        · rw [f3 x (by omega) h22 y]
          by_cases c : x = mm
          · rw [c] at hn ⊢
            rw [m5, if_neg (fun z => hn ⟨rfl, z⟩)]
            exact g4 mm (by omega) (by omega) y hn
          · rw [(E x (by omega) c).2.2.2.2 y]
            exact g4 x hx h22 y hn
        · rw [f5 x (by omega) h19 y]
          by_cases c : x = mm
          · rw [c, m4]; exact g6 mm (by omega) (by omega) y
          · rw [(E x (by omega) c).2.2.2.1 y]; exact g6 x hx h19 y
      · cases hb : sp_bds B n D M (dCl B n D M) M.2.2.1 M.2.2.2.2.2.2.2.2.2.1 with
        | inl w => rw [hb] at H3; exact H3
        | inr ws =>
          rw [hb] at H3
          obtain ⟨q1, q2, q3⟩ := H3
          exact ⟨q1, q2, q3⟩
end XWH
