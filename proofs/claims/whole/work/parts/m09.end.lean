/-! THE CLASS CHECKS: the end of a block -/
section XEND
variable {h0 r r' : pm_H} {n b mm lo hi bo co dd cap : Nat} {B : Nat → Nat} {M : tMd} {Ts : List Int64} {o : sp_O tK} {p w s f x z : Nat} {v : sp_I} {hb op a1 a2 a3 y : Int32} {K : tK} {t : Int64} {g : Bool} {ps rs : List Nat}
/-- are the results of a shape its parameters? -/
theorem x_rap (P : shP r lo hi s ps rs) (hp : ps.length ≤ 16) (hr : rs.length ≤ 16) (tp : ∀ x, x ∈ ps → isT x) (tr : ∀ x, x ∈ rs → isT x) : ∃ g : Bool, fX1_resultsAreParameters r s = some (iN g) ∧ (g = true ↔ ps = rs) := by
  have p0 := sh_i0 P
  have p1 := sh_i1 P
  unfold fX1_resultsAreParameters
  by_cases c : ps.length = rs.length
  · have go : ∀ j k : Nat, k + j = ps.length → (∀ i, i < k → gt ps i = gt rs i) → ∃ g : Bool, pm_lim (sX1_resultsAreParameters r) (s, Int32.ofNat ps.length, Int32.ofNat k) = some (iN g) ∧ (g = true ↔ ps = rs) := by
      intro j
      induction j with
      | zero =>
        intro k hk q
        refine ⟨true, ?_, fun _ => ?_, fun _ => rfl⟩
        · refine k_w (aX1_resultsAreParameters_0 ..) ?_
          unfold tX1_resultsAreParameters_19
          exact k_t (by rw [nn_le (by omega) (by omega)]; omega) rfl
        · apply List.ext_getElem c
          intro i h1 h2
          have := q i (by omega)
          have y1 := (List.getElem?_eq_getElem h1).symm.trans (gt_e h1)
          have y2 := (List.getElem?_eq_getElem h2).symm.trans (gt_e h2)
          rw [Option.some.inj y1, Option.some.inj y2]
          exact this
      | succ j ih =>
        intro k hk q
        have e1 : fX12_item r s (2 + Int32.ofNat k) = some (Int32.ofNat (gt ps k)) := by
          rw [show (2 : Int32) + Int32.ofNat k = Int32.ofNat (2 + k) from nn_ad 2 k, ← P.1.2.2.2.2 k (by omega)]
          exact it_v P.1.1 P.1.2.1 (by have := P.1.2.2.1; omega)
        have e2 : fX12_item r s (2 + Int32.ofNat ps.length + Int32.ofNat k) = some (Int32.ofNat (gt rs k)) := by
          rw [show (2 : Int32) + Int32.ofNat ps.length = Int32.ofNat (2 + ps.length) from nn_ad 2 _, nn_ad, ← P.2.1.2.2.2.2 k (by omega)]
          exact it_v P.1.1 P.1.2.1 (by have := P.2.1.2.2.1; omega)
        have g1 := isT_lt (tp _ (gt_m (show k < ps.length by omega)))
        have g2 := isT_lt (tr _ (gt_m (show k < rs.length by omega)))
        by_cases d : gt ps k = gt rs k
        · obtain ⟨g, e3, gg⟩ := ih (k + 1) (by omega) (fun i hi => by
            by_cases e : i = k
            · rw [e]; exact d
            · exact q i (by omega))
          refine ⟨g, ?_, gg⟩
          refine k_w (aX1_resultsAreParameters_0 ..) ?_
          unfold tX1_resultsAreParameters_19
          refine k_f (by rw [nn_le (by omega) (by omega)]; omega) (k_b e1 (k_b e2 (k_t (by rw [d]) (k_l ?_))))
          rw [show Int32.ofNat k + 1 = Int32.ofNat (k + 1) from nn_ad k 1]
          exact k_n e3
        · refine ⟨false, ?_, fun h => absurd h (by decide), fun h => absurd (by rw [h]) d⟩
          refine k_w (aX1_resultsAreParameters_0 ..) ?_
          unfold tX1_resultsAreParameters_19
          exact k_f (by rw [nn_le (by omega) (by omega)]; omega) (k_b e1 (k_b e2 (k_f (by rw [nn_eq (by omega) (by omega)]; exact d) rfl)))
    obtain ⟨g, e, gg⟩ := go ps.length 0 (Nat.zero_add _) (fun i hi => absurd hi (Nat.not_lt_zero _))
    exact ⟨g, e9_b p0 (e9_b p1 (e9_t (by rw [c]) e)), gg⟩
  · exact ⟨false, e9_b p0 (e9_b p1 (e9_f (by rw [nn_eq (by omega) (by omega)]; exact c) rfl)), fun h => absurd h (by decide), fun h => absurd (by rw [h]) c⟩
/-- a row at the end, whatever stands there -/
theorem xS_em (C : xC h0 n b mm lo hi bo co dd cap B M) (S : xS h0 M bo co Ts (.inr (K, z)) r) (rm : K.2.2.length < cap) : ∃ r', fX0_emit r bo op a1 a2 a3 hb = some (Int32.ofNat K.2.2.length, r') ∧ xS h0 M bo co Ts (.inr ((K.1, K.2.1, K.2.2 ++ [(op, a1, a2, a3, hb)]), 0)) r' := by
  have Cr := xS_C C S
  have u1 := Cr.2.2.1.2.2.2.2.2.2.2.2.2
  obtain ⟨F, V, W, eT⟩ := S
  obtain ⟨r', e2, er⟩ := em_0 (op := op) (a1 := a1) (a2 := a2) (a3 := a3) (hb := hb) Cr rm V.2.2.2.1
  have aa := C.2.2.2.1
  have nz : bo ≠ co := fun z => by have h2 := u1.2.1; have h4 := u1.2.2.2.1; rw [z, h4] at h2; exact absurd h2 (by decide)
  have fi : ∀ {X : pm_H} (j : Nat) (y : Int32), xFr bo co X (pm_setI X co j y) := fun j y => gF_I _ y (.inr (.inr (.inr (.inr (.inr (.inr rfl))))))
  refine ⟨r', e2, ?_, ?_, wfK_s rfl rfl W, eT⟩
  · rw [er]
    exact gF_t F (gF_t (gF_t (gF_t (gF_t (gF_t (fi _ _) (fi _ _)) (fi _ _)) (fi _ _)) (fi _ _)) (gF_I _ _ (.inr (.inr (.inr (.inr (.inr (.inl ⟨rfl, rfl⟩))))))))
  · obtain ⟨v1, v2, v3, v4, v5, v6, v7⟩ := V
    have kx : ∀ x y, x ≠ bo → x ≠ co → pm_I r' x y = pm_I r x y := fun x y h1 h2 => by rw [er, ev_II, if_neg h1, ev_II, if_neg h2, ev_II, if_neg h2, ev_II, if_neg h2, ev_II, if_neg h2, ev_II, if_neg h2]
    have kc : ∀ y, pm_I r' co y = if y = 5 * K.2.2.length + 4 then hb else if y = 5 * K.2.2.length + 3 then a3 else if y = 5 * K.2.2.length + 2 then a2 else if y = 5 * K.2.2.length + 1 then a1 else if y = 5 * K.2.2.length then op else pm_I r co y := fun y => by rw [er, ev_II, if_neg (Ne.symm nz), ev_II, if_pos rfl, ev_II, if_pos rfl, ev_II, if_pos rfl, ev_II, if_pos rfl, ev_II, if_pos rfl]
    refine ⟨(kx 22 0 (by omega) (by omega)).trans v1, (kx 22 6 (by omega) (by omega)).trans v2, (kx 22 10 (by omega) (by omega)).trans v3, ?_, oRw_k (fun y _ => kx 24 y (by omega) (by omega)) v5, oL_k (fun y _ => kx 25 y (by omega) (by omega)) v6, fun i rr hi => ?_⟩
    · rw [er, ev_II, if_pos rfl, if_pos rfl]
      show _ = Int32.ofNat (K.2.2 ++ [(op, a1, a2, a3, hb)]).length
      rw [List.length_append]
      rfl
    · have hi : (K.2.2 ++ [(op, a1, a2, a3, hb)])[i]? = some rr := hi
      rcases app_some hi with ⟨g1, g2⟩ | ⟨g1, g2⟩
      · obtain ⟨z1, z2, z3, z4, z5⟩ := v7 i rr g2
        have ko : ∀ j, j < 5 → pm_I r' co (5 * i + j) = pm_I r co (5 * i + j) := fun j hj => by rw [kc, if_neg (by omega), if_neg (by omega), if_neg (by omega), if_neg (by omega), if_neg (by omega)]
        exact ⟨(ko 0 (by decide)).trans z1, (ko 1 (by decide)).trans z2, (ko 2 (by decide)).trans z3, (ko 3 (by decide)).trans z4, (ko 4 (by decide)).trans z5⟩
      · have il : i = K.2.2.length := by
          have := some_lt g2
          have : i - K.2.2.length < 1 := this
          omega
        rw [il, Nat.sub_self] at g2
        cases g2
        rw [il]
        refine ⟨?_, ?_, ?_, ?_, ?_⟩
        · rw [kc, if_neg (by omega), if_neg (by omega), if_neg (by omega), if_neg (by omega), if_pos rfl]
        · rw [kc, if_neg (by omega), if_neg (by omega), if_neg (by omega), if_pos rfl]
        · rw [kc, if_neg (by omega), if_neg (by omega), if_pos rfl]
        · rw [kc, if_neg (by omega), if_pos rfl]
        · rw [kc, if_pos rfl]
/-- what the end of a block leaves, its chain aimed -/
def kFin (M : tMd) (p : Nat) (t : Int64) (st : List Nat) (ls : List tLb) (rs : List tRw) : sp_O tK := if ls.length = 0 then .inr ((st, ls, rs ++ [(11, 0, 0, 0, Int32.ofNat (btR M t).length)]), 0) else kPutL p (btR M t) (st, ls, rs)
theorem x_fin {st : List Nat} {l : tLb} {ls : List tLb} {rs : List tRw} (C : xC h0 n b mm lo hi bo co dd cap B M) (I : xI h0 p v hb) (T : vTy M) (Wt : wfT M t) (P : shP h0 lo hi s (btP M t) (btR M t)) (S : xS h0 M bo co Ts (.inr ((st, l :: ls, rs), z)) r) (rm : rs.length < cap) (eh : st.length = l.2.2.1) : ∃ r', (if pm_I (pm_setI r 22 10 (pm_I r 22 10 - 1)) 22 10 ≤ 0 then ((fX12_item (pm_setI r 22 10 (pm_I r 22 10 - 1)) s 1).bind fun v35 => (fX0_emit (pm_setI r 22 10 (pm_I r 22 10 - 1)) bo 11 0 0 0 v35).bind fun v37 => (some (.inr v37.2) : Option (((Nat × pm_H) ⊕ (Nat × Int32 × Nat × pm_H) ⊕ (Nat × Int32 × Nat × pm_H) ⊕ (Nat × Int32 × Nat × pm_H) ⊕ (Nat × Nat × Int32 × Int32 × pm_H)) ⊕ pm_H))) else ((fX1_putResults (pm_setI r 22 10 (pm_I r 22 10 - 1)) 22 s).bind fun v40 => some (.inr v40))) = some (.inr r') ∧ xE h0 M bo co (kFin M p t st ls rs) r' := by
  have BW := bt_w T Wt
  have aa := C.2.2.2.1
  have S0 := S
  obtain ⟨F0, V, W, eT⟩ := S
  have eT : l.2.1 :: (ls.map fun l => l.2.1) = Ts := eT
  obtain ⟨v1, v2, v3, v4, v5, v6, v7⟩ := V
  have w5 : ls.length + 1 ≤ 200 := W.2.2.2.2
  have e10 : pm_I r 22 10 - 1 = Int32.ofNat ls.length := by
    rw [show pm_I r 22 10 = Int32.ofNat (ls.length + 1) from v3]
    exact nn_ss _
  rw [e10]
  obtain ⟨r1, er⟩ : ∃ z, z = pm_setI r 22 10 (Int32.ofNat ls.length) := ⟨_, rfl⟩
  rw [← er]
  have kk : ∀ a c, ¬ (a = 22 ∧ c = 10) → pm_I r1 a c = pm_I r a c := fun a c hn => by
    rw [er, ev_II]
    by_cases q1 : a = 22
    · rw [if_pos q1, if_neg (fun q2 => hn ⟨q1, q2⟩)]
    · rw [if_neg q1]
  have i10 : pm_I r1 22 10 = Int32.ofNat ls.length := by rw [er, ev_II, if_pos rfl, if_pos rfl]
  have S1 : xS h0 M bo co (ls.map fun l => l.2.1) (.inr ((st, ls, rs), 0)) r1 := by
    refine ⟨gF_t F0 (by rw [er]; exact gF_I r _ (.inr (.inl ⟨rfl, by omega⟩))), ⟨(kk _ _ (by omega)).trans v1, (kk _ _ (by omega)).trans v2, i10, (kk _ _ (by omega)).trans v4, oRw_k (fun y _ => kk _ _ (by omega)) v5, oL_k (fun y _ => kk _ _ (by omega)) v6.2, fun i rr hi => ?_⟩, ?_, rfl⟩
    · obtain ⟨z1, z2, z3, z4, z5⟩ := v7 i rr hi
      exact ⟨(kk _ _ (by omega)).trans z1, (kk _ _ (by omega)).trans z2, (kk _ _ (by omega)).trans z3, (kk _ _ (by omega)).trans z4, (kk _ _ (by omega)).trans z5⟩
    · obtain ⟨w1, w2, w3, w4, w5⟩ := W
      have w1 : l.2.2.1 ≤ st.length ∧ wfL ls l.2.2.1 := w1
      exact ⟨by show wfL ls st.length; rw [eh]; exact w1.2, fun k hk => w2 k (List.mem_cons_of_mem _ hk), w3, w4, Nat.le_of_succ_le w5⟩
  unfold kFin
  by_cases c : ls.length = 0
  · rw [if_pos c]
    obtain ⟨r2, e2, S2⟩ := xS_em (op := 11) (a1 := 0) (a2 := 0) (a3 := 0) (hb := Int32.ofNat (btR M t).length) C S1 rm
    have i1 := sh_i1 (shP_F C S1.1 P)
    exact ⟨r2, e9_t (by rw [i10, c]; decide) (e9_b i1 (e9_b e2 rfl)), _, S2⟩
  · rw [if_neg c]
    obtain ⟨r2, e2, S2⟩ := x_ptR C I P BW.1 BW.2.1 BW.2.2.2 S1
    exact ⟨r2, e9_f (by rw [i10, n3_0, nn_le (by omega) (by decide)]; omega) (e9_b e2 rfl), _, S2⟩
/-- the chain of the rows that jump here -/
theorem x_chn {st : List Nat} {l : tLb} {ls : List tLb} {N : Nat} (C : xC h0 n b mm lo hi bo co dd cap B M) (I : xI h0 p v hb) (T : vTy M) (Wt : wfT M t) (P : shP h0 lo hi s (btP M t) (btR M t)) (eh : st.length = l.2.2.1) (hN : N < cap) : ∀ {c : List Nat} {rs : List tRw} {r : pm_H} {z i : Nat}, xS h0 M bo co Ts (.inr ((st, l :: ls, rs), z)) r → rs.length = N → cOk rs c → c.Nodup → c.length + i ≤ N → ∃ r', pm_lim sX1_endBlock (.inr (.inr (.inr (.inr (22, s, kPtr c, Int32.ofNat i, r))))) = some r' ∧ xE h0 M bo co (kFin M p t st ls (c.foldl (fun co r => rwAim co r (Int32.ofNat N)) rs)) r' := by
  intro c
  induction c with
  | nil =>
    intro rs r z i S hr oc nd hi'
    have Cr := xS_C C S
    have u := Cr.2.2.1.2.2.2.2.2.2.2.2.2
    have cl : cap ≤ 40960 := u.2.2.2.2.2
    have hi' : 0 + i ≤ N := hi'
    obtain ⟨r', e, E⟩ := x_fin C I T Wt P S (by omega) eh
    have i2 : pm_I r bo 2 = Int32.ofNat N := by rw [← hr]; exact S.2.1.2.2.2.1
    refine ⟨r', k_w (aX1_endBlock_4 ..) ?_, E⟩
    unfold tX1_endBlock_64
    refine k_t Cr.2.2.1.1.1 (k_b u.1 (k_t u.2.1 ?_))
    rw [i2]
    by_cases d : N ≤ i
    · refine k_t (by rw [nn_le (by omega) (by omega)]; exact d) (k_l ?_)
      rw [e]
      rfl
    · refine k_f (by rw [nn_le (by omega) (by omega)]; exact d) (k_t (by decide) (k_l ?_))
      rw [e]
      rfl
  | cons a c ih =>
    intro rs r z i S hr oc nd hi'
    have Cr := xS_C C S
    have u := Cr.2.2.1.2.2.2.2.2.2.2.2.2
    have cl : cap ≤ 40960 := u.2.2.2.2.2
    have hi' : c.length + 1 + i ≤ N := hi'
    obtain ⟨⟨h1, h2⟩, h3⟩ := oc
    obtain ⟨na, nd'⟩ := List.nodup_cons.mp nd
    have i2 : pm_I r bo 2 = Int32.ofNat N := by rw [← hr]; exact S.2.1.2.2.2.1
    obtain ⟨r1, e1, S1⟩ := xS_aim (y := Int32.ofNat N) C S h1 (by omega)
    obtain ⟨r2, e2, E2⟩ := ih S1 (by rw [rwAim_l]; exact hr) (cOk_aim na h3) nd' (i := i + 1) (by omega)
    refine ⟨r2, k_w (aX1_endBlock_4 ..) ?_, E2⟩
    unfold tX1_endBlock_64
    refine k_t Cr.2.2.1.1.1 (k_b u.1 (k_t u.2.1 ?_))
    rw [i2]
    have gi : rs[a]? = some (rs.getD a rw0) := by rw [List.getD_eq_getElem?_getD, List.getElem?_eq_getElem h1]; rfl
    have i1 : pm_I r co (5 * a + 1) = kPtr c := by rw [← h2]; exact (S.2.1.2.2.2.2.2.2 a _ gi).2.1
    have eo : fX0_of r bo (Int32.ofNat a) 1 = some (kPtr c) := by
      unfold fX0_of
      refine e9_l ?_
      rw [show Int32.ofNat a * 5 + 1 = Int32.ofNat (5 * a + 1) by rw [show (5 : Int32) = Int32.ofNat 5 from rfl, show (1 : Int32) = Int32.ofNat 1 from rfl, nn_ml, nn_ad, Nat.mul_comm]]
      refine e9_f (by rw [n3_0, nn_lt (by omega) (by decide)]; omega) (e9_t u.2.1 (e9_b u.2.2.1 (e9_t u.2.2.2.1 (e9_f (by rw [u.2.2.2.2.1, nn_le (by omega) (by omega)]; omega) (e9_t (by rw [u.2.2.2.2.1, nn_in (by omega)]; omega) ?_)))))
      rw [nn_cm (by omega), i1]
    refine k_f (by rw [nn_le (by omega) (by omega)]; omega) (k_f (show ¬ Int32.ofNat a < 0 by rw [n3_0, nn_lt (by omega) (by decide)]; omega) (k_b eo (k_b e1 (k_l ?_))))
    rw [show Int32.ofNat i + 1 = Int32.ofNat (i + 1) from nn_ad i 1]
    exact k_n e2
theorem cOk_len : ∀ {c : List Nat} {rs : List tRw}, cOk rs c → ∀ a, a ∈ c → a < rs.length
  | [], _, _, a, h => absurd h List.not_mem_nil
  | y :: c, rs, q, a, h => by
    rcases List.mem_cons.mp h with e | e
    · rw [e]; exact q.1.1
    · exact cOk_len q.2 a e
theorem nd_len : ∀ {N : Nat} {c : List Nat}, c.Nodup → (∀ a, a ∈ c → a < N) → c.length ≤ N
  | 0, c, _, h => by
    cases c with
    | nil => exact Nat.le_refl _
    | cons a c => exact absurd (h a List.mem_cons_self) (Nat.not_lt_zero _)
  | N + 1, c, nd, h => by
    have ih := nd_len (N := N) (nd.erase N) (fun a ha => by
      obtain ⟨h1, h2⟩ := nd.mem_erase_iff.mp ha
      have := h a h2
      omega)
    by_cases m : N ∈ c
    · rw [List.length_erase_of_mem m] at ih
      omega
    · rw [List.erase_of_not_mem m] at ih
      omega
/-- the end of a block -/
theorem x_end (C : xC h0 n b mm lo hi bo co dd cap B M) (I : xI h0 p v hb) (S : xS h0 M bo co Ts (.inr (K, z)) r) (T : vTy M) (hl : 0 < K.2.1.length) (wc : wfC K) (rm : K.2.2.length < cap) : ∃ r', fX1_endBlock r 22 = some r' ∧ xE h0 M bo co (kEnd M p K) r' := by
  obtain ⟨W, kl, tl, tp, hx, Wt⟩ := xS_a S hl
  obtain ⟨t, et⟩ : ∃ t, t = (kTop K).2.1 := ⟨_, rfl⟩
  rw [← et] at hx Wt
  have BW := bt_w T Wt
  have k1 := (xS_C C S).2.2.1.1.1
  obtain ⟨s, es, Ps⟩ := x_sol (xS_C C S) T (xS_T S) tl hx Wt
  rw [Nat.sub_zero] at es
  have P := shP_B C S.1 Ps
  obtain ⟨r1, e1, S1⟩ := x_tkA C I S T tl hx Wt
  obtain ⟨o1, eo1⟩ : ∃ o1 : sp_O tK, o1 = sp_b (kTakeL p (btR M t) K) fun K1 _ => if K1.1.length = (kTop K).2.2.1 then .inr (K1, 0) else .inl (29, p) := ⟨_, rfl⟩
  rw [sp_br, ← eo1] at S1
  have f1 : ∀ K1 z1, o1 = .inr (K1, z1) → K1.2 = K.2 ∧ K1.1.length = (kTop K).2.2.1 := fun K1 z1 e => by
    rw [eo1] at e
    obtain ⟨K2, z2, e2, e3⟩ := b_inv e
    split at e3
    · next q => cases e3; exact ⟨kTakeN_2 e2, q⟩
    · cases e3
  have C1 := xS_C C S1
  have k2 := C1.2.2.1.1.1
  -- an if without else
  obtain ⟨o2, eo2⟩ : ∃ o2 : sp_O tK, o2 = sp_b o1 fun K1 _ => if (kTop K).1 = 4 ∧ btP M t ≠ btR M t then .inl (29, p) else .inr (K1, 0) := ⟨_, rfl⟩
  obtain ⟨g, eg, gg⟩ := x_rap (shP_F C S1.1 P) BW.1 BW.2.1 BW.2.2.1 BW.2.2.2
  have e0 := lb_v C1 (k := Ts.length - 1) (j := 0) (by omega) (by decide)
  obtain ⟨r3, e3, S3⟩ := x_fail (w := 29) C I S1 ⟨by decide, by decide⟩
  have kind : ∀ K1 z1, o1 = .inr (K1, z1) → pm_I r1 25 (7 * (Ts.length - 1) + 0) = Int32.ofNat (kTop K).1 ∧ (kTop K).1 ≤ 5 := fun K1 z1 e => by
    rw [e] at S1
    have a := (f1 K1 z1 e).1
    obtain ⟨l1, -⟩ := oL_x S1.2.1.2.2.2.2.2.1 (show 0 < K1.2.1.length by rw [a]; exact hl)
    rw [a, ← kl, Nat.sub_zero, ← kTop_g] at l1
    exact ⟨l1, by rw [kTop_g]; exact (W.2.1 _ (getD_mem hl)).2⟩
  obtain ⟨r2, h2, S2⟩ : ∃ r2, (∀ {Y : Option pm_H}, pm_lim sX1_endBlock (.inr (.inr (.inr (.inl (22, Int32.ofNat (Ts.length - 1), s, r2))))) = Y → fX1_endBlock r 22 = Y) ∧ xS h0 M bo co Ts o2 r2 := by
    have pre : ∀ {Y : Option pm_H}, pm_lim sX1_endBlock (.inr (.inr (.inl (22, Int32.ofNat (Ts.length - 1), s, r1)))) = Y → fX1_endBlock r 22 = Y := fun {Y} h => by
      unfold fX1_endBlock
      refine k_w (aX1_endBlock_0 ..) ?_
      unfold tX1_endBlock_0
      refine k_t k1 (k_l ?_)
      rw [show pm_I r 22 10 - 1 = Int32.ofNat (Ts.length - 1) by rw [(xS_T S).1]; exact nn_s1 (by omega)]
      refine k_b es (k_n (k_w (aX1_endBlock_1 ..) ?_))
      unfold tX1_endBlock_12
      exact k_t k1 (k_b e1 (k_n h))
    by_cases c : pm_I r1 25 (7 * (Ts.length - 1) + 0) = 4
    · cases g with
      | true =>
        refine ⟨r1, fun {Y} h => pre (k_w (aX1_endBlock_2 ..) ?_), xS_e ?_ S1⟩
        · unfold tX1_endBlock_18
          exact k_t k2 (k_b e0 (k_t c (k_b eg (k_f (by decide) (k_n h)))))
        · rw [eo2]
          cases eo : o1 with
          | inl q => rfl
          | inr q =>
            obtain ⟨K1, z1⟩ := q
            rw [sp_br, if_neg (fun q => q.2 (gg.mp rfl))]
            have := eo1.symm.trans eo
            obtain ⟨K2, z2, y1, y2⟩ := b_inv this
            split at y2
            · cases y2; rfl
            · cases y2
      | false =>
        refine ⟨r3, fun {Y} h => pre (k_w (aX1_endBlock_2 ..) ?_), xS_e ?_ S3⟩
        · unfold tX1_endBlock_18
          exact k_t k2 (k_b e0 (k_t c (k_b eg (k_t rfl (k_b e3 (k_n h))))))
        · rw [eo2]
          refine sp_cg fun K1 z1 e => ?_
          rw [if_pos]
          obtain ⟨q1, q2⟩ := kind K1 z1 e
          rw [q1, show (4 : Int32) = Int32.ofNat 4 from rfl, nn_eq (by omega) (by decide)] at c
          exact ⟨c, fun q => absurd (gg.mpr q) (by decide)⟩
    · refine ⟨r1, fun {Y} h => pre (k_w (aX1_endBlock_2 ..) ?_), xS_e ?_ S1⟩
      · unfold tX1_endBlock_18
        exact k_t k2 (k_b e0 (k_f c (k_n h)))
      · rw [eo2]
        cases eo : o1 with
        | inl q => rfl
        | inr q =>
          obtain ⟨K1, z1⟩ := q
          obtain ⟨q1, q2⟩ := kind K1 z1 eo
          rw [q1, show (4 : Int32) = Int32.ofNat 4 from rfl, nn_eq (by omega) (by decide)] at c
          rw [sp_br, if_neg (fun q => c q.1)]
          have := eo1.symm.trans eo
          obtain ⟨K2, z2, y1, y2⟩ := b_inv this
          split at y2
          · cases y2; rfl
          · cases y2
  have ke : kEnd M p K = sp_b o2 fun K1 _ => kFin M p t K1.1 K1.2.1.tail ((kTop K).2.2.2.2.2.1.foldl (fun co r => rwAim co r (Int32.ofNat K1.2.2.length)) (kAimC K1).2.2) := by
    rw [eo2, eo1, sp_as, sp_as]
    unfold kEnd kFin
    rw [← et]
    refine sp_cg fun K1 z1 e => ?_
    by_cases c : K1.1.length = (kTop K).2.2.1
    · rw [if_pos c, if_pos c, sp_br]
      by_cases d : (kTop K).1 = 4 ∧ btP M t ≠ btR M t
      · rw [if_pos d, if_pos d]
        rfl
      · rw [if_neg d, if_neg d, sp_br]
    · rw [if_neg c, if_neg c]
      rfl
  rw [ke]
  have C2 := xS_C C S2
  have k3 := C2.2.2.1.1.1
  cases o2 with
  | inl fq =>
    obtain ⟨ff, q⟩ := fq
    have z1 : 0 < ff ∧ ff < 100 := S2.2.1
    have z2 : pm_I r2 22 0 = Int32.ofNat ff := S2.2.2.1
    refine ⟨r2, h2 (k_w (aX1_endBlock_3 ..) ?_), Ts, S2⟩
    unfold tX1_endBlock_41
    exact k_t k3 (k_f (by rw [z2, n3_0, nn_eq (by omega) (by decide)]; omega) rfl)
  | inr y =>
    obtain ⟨K1, z1⟩ := y
    obtain ⟨K0, z0, q1, q2⟩ := b_inv eo2.symm
    have q3 : K0 = K1 := by
      split at q2
      · cases q2
      · cases q2; rfl
    rw [q3] at q1
    obtain ⟨y1, y2⟩ := f1 K1 z0 q1
    obtain ⟨st, q4⟩ := K1
    have y1 : q4 = K.2 := y1
    obtain ⟨st0, ls, rs⟩ := K
    rw [y1] at S2 ⊢
    cases ls with
    | nil => exact absurd hl (Nat.lt_irrefl 0)
    | cons l ls =>
    rw [sp_br]
    have y2 : st.length = l.2.2.1 := y2
    have wc1 : wfC (st, l :: ls, rs) := wc
    have rm : rs.length < cap := rm
    have f0 : pm_I r2 22 0 = 0 := S2.2.1.1
    obtain ⟨w1, w2, w3⟩ := id wc1
    have w1 : (cL l ++ cA ls).Nodup := w1
    have w2 : ∀ a, a ∈ cL l ++ cA ls → a < rs.length := w2
    obtain ⟨r4, e4, S4⟩ := x_aiC C S2 tp tl (fun K' z' e => by
      cases e
      refine ⟨Nat.le_of_lt rm, fun g1 g2 => w2 _ (List.mem_append.mpr (.inl (List.mem_append.mpr (.inl ?_))))⟩
      rw [if_pos ⟨g1, g2⟩]
      exact List.mem_singleton.mpr rfl)
    rw [sp_br] at S4
    have aC := kAimC_1 (st, l :: ls, rs)
    have okc := aimC_c wc1 (.inl rfl)
    have nd := (List.nodup_append.mp (List.nodup_append.mp w1).1).2.1
    generalize eq : kAimC (st, l :: ls, rs) = KC at S4 aC okc ⊢
    obtain ⟨st2, ls2, rs2⟩ := KC
    obtain ⟨aC1, aC2, aC3⟩ := aC
    have aC1 : st2 = st := aC1
    have aC2 : ls2 = l :: ls := aC2
    have aC3 : rs2.length = rs.length := aC3
    rw [aC1, aC2] at S4
    have C4 := xS_C C S4
    obtain ⟨r5, e5, E5⟩ := x_chn (i := 0) C I T Wt P y2 rm S4 aC3 okc nd (nd_len nd (fun a ha => w2 a (List.mem_append.mpr (.inl (List.mem_append.mpr (.inr ha))))))
    refine ⟨r5, h2 (k_w (aX1_endBlock_3 ..) ?_), E5⟩
    unfold tX1_endBlock_41
    refine k_t k3 (k_t f0 (k_b e4 (k_t C4.2.2.1.1.1 ?_)))
    have e6 := lb_v C4 (k := Ts.length - 1) (j := 5) (by omega) (by decide)
    obtain ⟨-, -, -, -, -, l6, -⟩ := oL_x S4.2.1.2.2.2.2.2.1 (show 0 < (l :: ls).length from Nat.succ_pos _)
    have kl : Ts.length = ls.length + 1 := kl
    rw [show 7 * (Ts.length - 1) + 5 = 7 * ((l :: ls).length - 1 - 0) + 5 by rw [kl]; rfl, l6] at e6
    exact k_b e6 (k_n e5)
end XEND
