/-! THE CLASS CHECKS: the loop over a body -/
section XLOOP
variable {h h' r : pm_H} {n b mm lo hi bo co dd cap e : Nat} {B : Nat → Nat} {M : tMd} {p : Nat} {v : sp_I} {K : tK} {D ob : Bool} {Dc : Nat → Bool} {lt : Nat → Option Nat} {t : Nat}
/-- a table has no more labels than bytes -/
theorem tab_len {p2 : Nat} (hB : ∀ i, B i < 256) (q : sp_in B n D p = .inr (v, p2)) (u : p < p2) : (if v.1 = 14 then (kDl B n v.2.1.toNatClampNeg v.2.2.1.toNatClampNeg).length + 1 else 1) ≤ p2 - p := by
  by_cases c14 : v.1 = 14
  · rw [if_pos c14]
    have b14 : B p = 14 := by
      by_cases cz : B p = 252
      · obtain ⟨k, q1, k17, e1, f1, f2, f3, f4⟩ := fur_k hB (in_252 q cz)
        exfalso
        by_cases k8 : k < 8
        · rw [f1 k8] at c14; have c14 : 200 + k = 14 := c14; omega
        · by_cases k1 : k = 10 ∨ k = 11
          · rw [f2 k1] at c14; have c14 : 300 + k = 14 := c14; omega
          · by_cases k2 : k = 12 ∨ k = 14
            · obtain ⟨x, y, q3, q4, -, -, -, -, ev⟩ := f3 k2; rw [ev] at c14; have c14 : 300 + k = 14 := c14; omega
            · obtain ⟨x, q3, -, -, ev⟩ := f4 (by omega); rw [ev] at c14; have c14 : 300 + k = 14 := c14; omega
      · exact ((in_v1 q).1 cz).symm.trans c14
    obtain ⟨x, p1, u, hx, e1, e2, ev⟩ := in_14 hB q b14
    obtain ⟨l, h1, h2, h3⟩ := nums_rows (x + 1) p1 p2 u e2
    have pl := num_lt e1
    by_cases pn : p1 < 9223372036854775808
    · have v1 : v.2.1 = Int64.ofNat x := by rw [ev]
      have v2 : v.2.2.1 = Int64.ofNat p1 := by rw [ev]
      have xx : v.2.1.toNatClampNeg = x := by rw [v1]; exact ll_cm (by omega)
      have yy : v.2.2.1.toNatClampNeg = p1 := by rw [v2]; exact ll_cm pn
      have dl : kDl B n v.2.1.toNatClampNeg v.2.2.1.toNatClampNeg = l := by
        rw [xx, yy]
        unfold kDl
        rw [h1]
      rw [dl]
      omega
    · have : (kDl B n v.2.1.toNatClampNeg v.2.2.1.toNatClampNeg).length ≤ v.2.1.toNatClampNeg + 1 := by
        unfold kDl
        split
        · exact Nat.zero_le _
        · next w hw =>
          exact Nat.le_of_eq (rows_ln0 _ _ _ _ (show sp_rows (sp_num B n) _ _ = .inr (w.1, w.2) from hw))
      have v1 : v.2.1 = Int64.ofNat x := by rw [ev]
      have xx : v.2.1.toNatClampNeg = x := by rw [v1]; exact ll_cm (by omega)
      rw [xx] at this ⊢
      omega
  · rw [if_neg c14]; omega
theorem lF_8 {y : Int32} : lFr bo co r (pm_setI r 22 8 y) := gF_I r y (.inr (.inr ⟨rfl, .inr rfl⟩))
theorem lF_a {u : Int32} : lFr bo co r (aA r u) := gF_I r u (.inr (.inl ⟨rfl, .inl rfl⟩))
/-- what the loop leaves -/
def lR (M : tMd) (bo co : Nat) (o : sp_O (Nat × tK)) (r' : pm_H) : Prop := match o with
  | .inl w => (0 < w.1 ∧ w.1 < 100) ∧ pm_I r' 22 0 = Int32.ofNat w.1 ∧ pm_I r' 22 1 = Int32.ofNat w.2
  | .inr v => xK r' bo co v.1.2 ∧ wfK M v.1.2 ∧ pm_I r' 22 8 = Int32.ofNat v.1.1 ∧ v.1.1 ≤ 1000
theorem x_run (G : vG B n D M) (hF : ∀ f, f ∈ spF M → f.2.1 < M.1.length) (hE : ∀ e, e ∈ M.2.2.2.2.2.2.2.1 → isT e.2.2.1.1) (hM : ∀ g, g ∈ spG M → g.1.2.2.2.2 < 256) : ∀ (N p most i : Nat) {K : tK} {r : pm_H}, xC r n b mm lo hi bo co dd cap B M → xK r bo co K → wfK M K → wfC K → bK K → kB t K → eW B n D K.2.1.length p e → n + 1 ≤ p + N → p ≤ n → most ≤ 1000 → i ≤ p → pm_I r 22 8 = Int32.ofNat most → pm_I r 19 1 = Int32.ofNat p → pm_I r 19 3 = 0 → (pm_I r 19 16 = 0) = (ob = false) → (0 ≤ pm_L r mm 14) = (D = true) → xLo r lt → xD r dd (spF M).length Dc → K.2.2.length + (e - p) ≤ cap → ∃ r', pm_lim sX1_body (.inr (.inl (22, Int32.ofNat i, r))) = pm_lim sX1_body (.inr (.inr (.inl (22, r')))) ∧ lFr bo co r r' ∧ lR M bo co (kRun B n D M Dc lt N p most K) r' := by
  intro N
  induction N with
  | zero => intro p most i K r C V W wc bk kb E hN hp; omega
  | succ N ih =>
    intro p most i K r C V W wc bk kb E hN hp hm hi' i8 i1 f3 ib dt L Dd rows
    have hB : ∀ i, B i < 256 := C.1.2.2.2.2.2.2.2.2.2
    have n4 : n ≤ 40960 := C.1.2.2.2.2.2.2.1
    have ln : pm_ln r b = n := C.1.2.2.2.2.2.1
    have w5 := W.2.2.2.2
    have k1 := C.2.2.1.1.1
    have i10 : pm_I r 22 10 = Int32.ofNat K.2.1.length := V.2.2.1
    have cc : cap ≤ 40960 := C.2.2.1.2.2.2.2.2.2.2.2.2.2.2.2.2.2
    rw [kRun]
    by_cases c0 : K.2.1.length = 0
    · rw [if_pos c0]
      refine ⟨r, k_w (aX1_body_1 ..) ?_, gF_r _ _ r, V, W, i8, hm⟩
      unfold tX1_body_102
      refine k_t k1 (k_b C.2.2.1.1.2.1 (k_t C.1.2.2.1 (k_b C.1.2.2.2.1 (k_t C.1.2.2.2.2.1 ?_))))
      by_cases d : Int32.ofNat (pm_ln r b) ≤ Int32.ofNat i
      · exact k_t d rfl
      · exact k_f d (k_t (by rw [i10, c0]; decide) rfl)
    rw [if_neg c0]
    obtain ⟨v, p2, e1, hf, u1, u2, E2⟩ := ex_step hB (by omega) E
    have pe := eW_le hB _ (Nat.le_refl _) E2
    have tl := tab_len hB e1 u1
    rw [e1]
    show ∃ r', _ ∧ _ ∧ lR M bo co (sp_b (kIns B n M Dc lt p v K) fun K1 _ => kRun B n D M Dc lt N p2 (if K1.2.1.length ≠ 0 ∧ most < K1.1.length then K1.1.length else most) K1) r'
    obtain ⟨r1, g1, F1, kx1, y1, y3, y6, y7, y8, y9, y16⟩ := x_rd C f3 i1 ib dt hp e1
    obtain ⟨r2, er2⟩ : ∃ z, z = pm_setI r1 22 7 (Int32.ofNat K.1.length) := ⟨_, rfl⟩
    have F2 : lFr bo co r r2 := gF_t F1 (by rw [er2]; exact gF_I r1 _ (.inr (.inr ⟨rfl, .inl rfl⟩)))
    have C1 := lC_F C F1
    have C2 := lC_F C F2
    have k2 : ∀ x y, ¬ (x = 22 ∧ y = 7) → pm_I r2 x y = pm_I r1 x y := fun x y hn => by
      rw [er2, ev_II]
      by_cases q : x = 22
      · rw [if_pos q, if_neg (fun z => hn ⟨q, z⟩)]
      · rw [if_neg q]
    have V2 : xK r2 bo co K := xK_e C (fun x y h1 h2 => by rw [k2 x y (by omega), kx1 x y h1]) V
    have L8 : pm_L r2 = pm_L r1 := by rw [er2]; rfl
    have I2 : xI r2 p v (Int32.ofNat K.1.length) := ⟨(k2 19 6 (by omega)).trans y6, (k2 19 7 (by omega)).trans y7, by rw [L8]; exact y8, by rw [L8]; exact y9, by rw [er2, ev_II, if_pos rfl, if_pos rfl]⟩
    have S2 : xS r2 M bo co (tyL K) (.inr (K, 0)) r2 := ⟨gF_r _ _ r2, V2, W, rfl⟩
    have L2 := xLo_F C F2 L
    have D2 := xD_F C F2 Dd
    have z1 : pm_I r2 19 1 = Int32.ofNat p2 := (k2 19 1 (by omega)).trans y1
    have z3 : pm_I r2 19 3 = 0 := (k2 19 3 (by omega)).trans y3
    obtain ⟨r3, u, eI, E3, hu⟩ := x_ins C2 I2 S2 G hF hE hM e1 hf L2 D2 z3 z1 (by omega) rfl wc (bk (by omega)) (by omega)
    -- the step up to what the instruction does
    have pre : ∀ {Y : Option pm_H}, pm_lim sX1_body (.inr (.inr (.inr (.inl (22, Int32.ofNat i, r3))))) = Y → pm_lim sX1_body (.inr (.inl (22, Int32.ofNat i, r))) = Y := fun {Y} hY => by
      refine k_w (aX1_body_1 ..) ?_
      unfold tX1_body_102
      refine k_t k1 (k_b C.2.2.1.1.2.1 (k_t C.1.2.2.1 (k_b C.1.2.2.2.1 (k_t C.1.2.2.2.2.1 (k_f (by rw [ln, nn_le (by omega) (by omega)]; omega) (k_f (by rw [i10, n3_0, nn_le (by omega) (by decide)]; omega) (k_t V.1 (k_b C.2.2.1.1.2.2 (k_t C.1.1 (k_b g1 (k_t C1.2.2.1.1.1 (k_l ?_))))))))))))
      rw [show pm_I r1 22 6 = Int32.ofNat K.1.length by rw [kx1 22 6 (by decide)]; exact V.2.1, ← er2]
      refine k_b C2.2.2.1.1.2.2 (k_t C2.1.1 ?_)
      rw [I2.1]
      have fx := (in_fx hB e1).1
      by_cases c17 : v.1 ≤ 17
      · rw [if_pos c17] at eI
        refine k_f (by rw [show (17 : Int32) = Int32.ofNat 17 from rfl, nn_lt (by decide) (by omega)]; omega) (k_b eI (k_n (k_w (aX1_body_4 ..) ?_)))
        unfold tX1_body_166
        exact k_n hY
      · rw [if_neg c17] at eI
        exact k_t (by rw [show (17 : Int32) = Int32.ofNat 17 from rfl, nn_lt (by decide) (by omega)]; omega) (k_b eI (k_n hY))
    have Ca : xC (aA r2 u) n b mm lo hi bo co dd cap B M := xC_at C2
    obtain ⟨Ts, S3⟩ := E3
    have C3 := xS_C Ca S3
    have F3 : lFr bo co r r3 := gF_t F2 (gF_t lF_a (lF_x S3.1))
    have k3 := C3.2.2.1.1.1
    cases ho : kIns B n M Dc lt p v K with
    | inl w =>
      rw [ho] at S3
      have a1 : 0 < w.1 ∧ w.1 < 100 := S3.2.1
      have a2 : pm_I r3 22 0 = Int32.ofNat w.1 := S3.2.2.1
      have a3 : pm_I r3 22 1 = Int32.ofNat w.2 := S3.2.2.2.1
      -- any heap with that fault leaves the loop
      have out : ∀ {r4 : pm_H} {j : Int32}, lFr bo co r r4 → pm_I r4 22 0 = Int32.ofNat w.1 → pm_lim sX1_body (.inr (.inl (22, j, r4))) = pm_lim sX1_body (.inr (.inr (.inl (22, r4)))) := fun {r4 j} F4 f4 => by
        have C4 := lC_F C F4
        refine k_w (aX1_body_1 ..) ?_
        unfold tX1_body_102
        refine k_t C4.2.2.1.1.1 (k_b C4.2.2.1.1.2.1 (k_t C4.1.2.2.1 (k_b C4.1.2.2.2.1 (k_t C4.1.2.2.2.2.1 ?_))))
        by_cases d : Int32.ofNat (pm_ln r4 b) ≤ j
        · exact k_t d rfl
        · by_cases d2 : pm_I r4 22 10 ≤ 0
          · exact k_f d (k_t d2 rfl)
          · exact k_f d (k_f d2 (k_f (by rw [f4, n3_0, nn_eq (by omega) (by decide)]; omega) rfl))
      by_cases d : pm_I r3 22 10 ≤ 0
      · refine ⟨r3, pre (k_w (aX1_body_3 ..) ?_), F3, a1, a2, a3⟩
        unfold tX1_body_180
        exact k_t k3 (k_t d (k_l (k_n (out F3 a2))))
      · obtain ⟨r4, er4⟩ : ∃ z, z = pm_setI r3 22 8 (if pm_I r3 22 8 < pm_I r3 22 6 then pm_I r3 22 6 else pm_I r3 22 8) := ⟨_, rfl⟩
        have k4 : ∀ y, y ≠ 8 → pm_I r4 22 y = pm_I r3 22 y := fun y hy => by rw [er4, ev_II, if_pos rfl, if_neg hy]
        have F4 : lFr bo co r r4 := gF_t F3 (by rw [er4]; exact lF_8)
        refine ⟨r4, pre (k_w (aX1_body_3 ..) ?_), F4, a1, (k4 0 (by decide)).trans a2, (k4 1 (by decide)).trans a3⟩
        unfold tX1_body_180
        refine k_t k3 (k_f d (k_l (k_l (k_l ?_))))
        rw [← er4]
        exact k_n (out F4 ((k4 0 (by decide)).trans a2))
    | inr y =>
      obtain ⟨K1, zz⟩ := y
      rw [ho] at S3
      have eu := hu K1 zz ho
      have ea : aA r2 u = r2 := by rw [eu, ← z1]; exact aA_e r2
      rw [ea] at S3
      obtain ⟨X3, V3, W3, -⟩ := S3
      have hlt : ∀ x ty, lt x = some ty → isT ty := fun x ty hx => by
        obtain ⟨lc, -, -, o3, o4⟩ := L
        by_cases c : x < lc
        · obtain ⟨ty', t1, -, t3⟩ := o4 x c
          rw [hx] at t1
          cases t1
          exact t3
        · rw [o3 x (by omega)] at hx; cases hx
      obtain ⟨W2, b2, l2⟩ := kIns_w hB G hF e1 hf hlt W (by omega) kb ho
      rw [← l2] at E2
      have wc1 := kIns_c wc (by omega) (by omega) ho
      have bk1 := kIns_3 bk (by omega) ho
      have w52 := W2.2.2.2.2
      have w42 := W2.2.2.2.1
      have r10 : pm_I r3 22 10 = Int32.ofNat K1.2.1.length := V3.2.2.1
      have r6 : pm_I r3 22 6 = Int32.ofNat K1.1.length := V3.2.1
      have aa := C.2.2.2.1
      have x1 : pm_I r3 19 1 = Int32.ofNat p2 := (X3.2.2.2.2.1 19 1 (by unfold xAI; omega)).trans z1
      have x3 : pm_I r3 19 3 = 0 := (X3.2.2.2.2.1 19 3 (by unfold xAI; omega)).trans z3
      have x16 : pm_I r3 19 16 = pm_I r 19 16 := ((X3.2.2.2.2.1 19 16 (by unfold xAI; omega)).trans (k2 19 16 (by omega))).trans y16
      have x8 : pm_I r3 22 8 = Int32.ofNat most := ((X3.2.2.2.2.1 22 8 (by unfold xAI; omega)).trans (k2 22 8 (by omega))).trans ((kx1 22 8 (by decide)).trans i8)
      have x14 : pm_L r3 mm 14 = pm_L r mm 14 := F3.2.2.2.2.2 mm 14 (by unfold lAL; omega)
      have rows1 : K1.2.2.length + (e - p2) ≤ cap := by have := wc1.2; omega
      have go : ∀ {r4 : pm_H} {mo : Nat}, lFr bo co r r4 → xK r4 bo co K1 → mo ≤ 1000 → pm_I r4 22 8 = Int32.ofNat mo → pm_I r4 19 1 = Int32.ofNat p2 → pm_I r4 19 3 = 0 → pm_I r4 19 16 = pm_I r 19 16 → pm_L r4 mm 14 = pm_L r mm 14 → ∃ r', pm_lim sX1_body (.inr (.inl (22, Int32.ofNat i + 1, r4))) = pm_lim sX1_body (.inr (.inr (.inl (22, r')))) ∧ lFr bo co r r' ∧ lR M bo co (kRun B n D M Dc lt N p2 mo K1) r' := fun {r4 mo} F4 V4 h1 h2 h3 h4 h5 h6 => by
        obtain ⟨r', q1, q2, q3⟩ := ih p2 mo (i + 1) (lC_F C F4) V4 W2 wc1.1 bk1 b2 E2 (by omega) u2 h1 (by omega) h2 h3 h4 (by rw [h5]; exact ib) (by rw [h6]; exact dt) (xLo_F C F4 L) (xD_F C F4 Dd) rows1
        exact ⟨r', by rw [show Int32.ofNat i + 1 = Int32.ofNat (i + 1) from nn_ad i 1]; exact q1, gF_t F4 q2, q3⟩
      rw [sp_br]
      by_cases z0 : K1.2.1.length = 0
      · rw [if_neg (show ¬ (K1.2.1.length ≠ 0 ∧ most < K1.1.length) from fun y => y.1 z0)]
        obtain ⟨r', q1, q2, q3⟩ := go F3 V3 hm x8 x1 x3 x16 x14
        refine ⟨r', pre (k_w (aX1_body_3 ..) ?_), q2, q3⟩
        unfold tX1_body_180
        exact k_t k3 (k_t (by rw [r10, z0]; decide) (k_l (k_n q1)))
      · obtain ⟨mo, emo⟩ : ∃ mo, mo = if K1.2.1.length ≠ 0 ∧ most < K1.1.length then K1.1.length else most := ⟨_, rfl⟩
        rw [← emo]
        have mo1 : mo ≤ 1000 := by rw [emo]; split <;> omega
        have em : (if pm_I r3 22 8 < pm_I r3 22 6 then pm_I r3 22 6 else pm_I r3 22 8) = Int32.ofNat mo := by
          rw [x8, r6, emo]
          by_cases d : most < K1.1.length
          · rw [if_pos (by rw [nn_lt (by omega) (by omega)]; exact d), if_pos ⟨z0, d⟩]
          · rw [if_neg (by rw [nn_lt (by omega) (by omega)]; exact d), if_neg (fun h => d h.2)]
        obtain ⟨r4, er4⟩ : ∃ z, z = pm_setI r3 22 8 (Int32.ofNat mo) := ⟨_, rfl⟩
        have k4 : ∀ x y, ¬ (x = 22 ∧ y = 8) → pm_I r4 x y = pm_I r3 x y := fun x y hn => by
          rw [er4, ev_II]
          by_cases q : x = 22
          · rw [if_pos q, if_neg (fun z => hn ⟨q, z⟩)]
          · rw [if_neg q]
        have F4 : lFr bo co r r4 := gF_t F3 (by rw [er4]; exact lF_8)
        obtain ⟨r', q1, q2, q3⟩ := go F4 (xK_e C3 (fun x y h1 h2 => k4 x y (by omega)) V3) mo1 (by rw [er4, ev_II, if_pos rfl, if_pos rfl]) ((k4 19 1 (by omega)).trans x1) ((k4 19 3 (by omega)).trans x3) ((k4 19 16 (by omega)).trans x16) (by rw [er4]; exact x14)
        refine ⟨r', pre (k_w (aX1_body_3 ..) ?_), q2, q3⟩
        unfold tX1_body_180
        refine k_t k3 (k_f (by rw [r10, n3_0, nn_le (by omega) (by decide)]; omega) (k_l (k_l (k_l ?_))))
        rw [em, ← er4]
        exact k_n q1
end XLOOP
