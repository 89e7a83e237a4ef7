/-! THE CLASS CHECKS: makeBodies() -/
def bCap (a : tBo) : Nat := a.2.2.2.1 + 1 - a.1
/-- the j-th body, freshly made, its cells from c on -/
def bFa (h : pm_H) (lo hi : Nat) (M : tMd) (c j : Nat) : Prop := pm_kd h c = 0 ∧ (∃ s t, M.2.2.1[j]? = some t ∧ pm_R h c 0 = some s ∧ shP h lo hi s (btP M (Int64.ofNat t)) (btR M (Int64.ofNat t))) ∧ (pm_R h c 1 = some (c + 4) ∧ pm_R h c 5 = some (c + 1) ∧ pm_R h c 7 = some (c + 2) ∧ pm_R h c 8 = some (c + 3)) ∧ (∀ y, pm_I h c y = 0) ∧ (∀ y, pm_L h c y = 0) ∧ pe_Z h (c + 1) 34 0 ∧ pe_Z h (c + 2) 34 0 ∧ pe_Z h (c + 3) 35 0 ∧ ∃ a, M.2.2.2.2.2.2.2.2.2.1[j]? = some a ∧ pe_Z h (c + 4) 34 (5 * bCap a)
/-- after i bodies: cs the array of them (the size before), its cells and theirs behind it -/
def bdP (r0 r : pm_H) (mm lo hi : Nat) (M : tMd) (i : Nat) : Prop := pm_sz r = pm_sz r0 + 1 + 5 * i ∧ (∀ x, x < pm_sz r0 → x ≠ mm → pe_E r0 r x) ∧ (pm_kd r mm = pm_kd r0 mm ∧ pm_ln r mm = pm_ln r0 mm ∧ (∀ y, pm_I r mm y = pm_I r0 mm y) ∧ (∀ y, pm_L r mm y = pm_L r0 mm y) ∧ ∀ y, pm_R r mm y = if y = 12 then some (pm_sz r0) else pm_R r0 mm y) ∧ (pm_kd r (pm_sz r0) = 38 ∧ pm_ln r (pm_sz r0) = M.2.2.2.2.2.2.2.2.2.1.length) ∧ ∀ j, j < i → pm_R r (pm_sz r0) j = some (pm_sz r0 + 1 + 5 * j) ∧ bFa r lo hi M (pm_sz r0 + 1 + 5 * j) j
section XMK
variable {h h' r r0 : pm_H} {n b mm lo hi c j : Nat} {B : Nat → Nat} {M : tMd} {D : Bool}
theorem sQ_E {s f : Nat} {l : List Nat} (E : ∀ x, sLo lo hi x → pe_E h h' x) (P : sQ h lo hi s f l) : sQ h' lo hi s f l := by
  obtain ⟨p1, p2, p3, p4, p5⟩ := P
  obtain ⟨e1, e2, e3, -, -⟩ := E s p4
  exact ⟨e1.trans p1, by rw [e2]; exact p2, by rw [e2]; exact p3, p4, fun j hj => (e3 _).trans (p5 j hj)⟩
theorem shP_E {s : Nat} {ps rs : List Nat} (E : ∀ x, sLo lo hi x → pe_E h h' x) (P : shP h lo hi s ps rs) : shP h' lo hi s ps rs := by
  obtain ⟨p1, p2, p3, p4⟩ := P
  obtain ⟨-, -, e3, -, -⟩ := E s p1.2.2.2.1
  exact ⟨sQ_E E p1, sQ_E E p2, (e3 0).trans p3, (e3 1).trans p4⟩
theorem bFa_E (E : ∀ x, sLo lo hi x → pe_E h h' x) (Ec : ∀ x, c ≤ x → x < c + 5 → pe_E h h' x) (P : bFa h lo hi M c j) : bFa h' lo hi M c j := by
  obtain ⟨p1, ⟨s, t, ht, p2, p3⟩, ⟨p4, p5, p6, p7⟩, p8, p9, z1, z2, z3, a, ha, z4⟩ := P
  obtain ⟨e1, e2, e3, e4, e5⟩ := Ec c (Nat.le_refl _) (by omega)
  exact ⟨e1.trans p1, ⟨s, t, ht, (e5 0).trans p2, shP_E E p3⟩, ⟨(e5 1).trans p4, (e5 5).trans p5, (e5 7).trans p6, (e5 8).trans p7⟩, fun y => (e3 y).trans (p8 y), fun y => (e4 y).trans (p9 y), pe_E_Z (Ec (c + 1) (by omega) (by omega)) z1, pe_E_Z (Ec (c + 2) (by omega) (by omega)) z2, pe_E_Z (Ec (c + 3) (by omega) (by omega)) z3, a, ha, pe_E_Z (Ec (c + 4) (by omega) (by omega)) z4⟩
theorem hX_E (X : hX h n b mm lo hi B M) (E : ∀ x, x < hi → x ≠ mm → pe_E h h' x) (Em : pm_kd h' mm = pm_kd h mm ∧ (∀ y, pm_L h' mm y = pm_L h mm y) ∧ ∀ y, y ≠ 12 → pm_R h' mm y = pm_R h mm y) : hX h' n b mm lo hi B M := by
  obtain ⟨S, C, ⟨k1, k2, k3⟩, a1, a2, a3, a4⟩ := X
  obtain ⟨m1, m2, m3⟩ := Em
  have K : kC lo hi h h' := fun x h1 h2 => by
    obtain ⟨e1, e2, e3, e4, e5⟩ := E x h2 (by omega)
    exact ⟨e1, e2, funext e3, funext e4, funext e5⟩
  have e19 := E 19 (by omega) (by omega)
  have e22 := E 22 (by omega) (by omega)
  have eb := E b (by omega) (by omega)
  refine ⟨?_, cMx_k K (Nat.le_refl _) (.inl rfl) (fun j s _ _ hj => m3 j (by
    have : ∀ q, q ∈ ([(1, 2), (2, 3), (3, 4), (4, 5), (5, 6), (6, 7), (7, 8), (9, 9), (11, 10), (10, 11), (99, 1)] : List (Nat × Nat)) → q.2 ≠ 12 := by decide
    exact this _ hj)) (by decide) (m2 13) (m2 14) C, ⟨e22.1.trans k1, (e22.2.2.2.2 2).trans k2, (e22.2.2.2.2 3).trans k3⟩, a1, a2, a3, a4⟩
  obtain ⟨s1, s2, s3, s4, s5, s6, s7, s8, s9, s10⟩ := S
  exact ⟨e19.1.trans s1, (e19.2.2.2.2 0).trans s2, m1.trans s3, (m3 0 (by decide)).trans s4, eb.1.trans s5, eb.2.1.trans s6, s7, s8, fun i hi => by rw [eb.2.2.1]; exact s9 i hi, s10⟩
theorem hX_bd (X : hX r0 n b mm lo hi B M) (hs : hi ≤ pm_sz r0) {i : Nat} (P : bdP r0 r mm lo hi M i) : hX r n b mm lo hi B M := by
  obtain ⟨-, E, ⟨m1, -, -, m4, m5⟩, -, -⟩ := P
  exact hX_E X (fun x hx hm => E x (by omega) hm) ⟨m1, m4, fun y hy => by rw [m5, if_neg hy]⟩
theorem cap_5 {x : Nat} (hx : x < 268435456) : (5 : Int32) * (if (0 : Int32) < Int32.ofNat x then Int32.ofNat x else 0) = Int32.ofNat (5 * x) := by
  by_cases c : x = 0
  · subst c; rfl
  · rw [if_pos (by rw [n3_0, nn_lt (by decide) (by omega)]; omega), show (5 : Int32) = Int32.ofNat 5 from rfl, nn_ml]
/-- one body -/
theorem x_mk1 (X : hX r0 n b mm lo hi B M) (hs : hi ≤ pm_sz r0) (g : vG B n D M) (hF : ∀ f, f ∈ spF M → f.2.1 < M.1.length) {i : Nat} {a : tBo} {t : Nat} (ha : M.2.2.2.2.2.2.2.2.2.1[i]? = some a) (ht : M.2.2.1[i]? = some t) (P : bdP r0 r mm lo hi M i) : ∃ r', pm_lim sX1_makeBodies (.inr (.inr (.inl (22, Int32.ofNat (ofK 0 M.2.1).length, Int32.ofNat i, r)))) = pm_lim sX1_makeBodies (.inr (.inr (.inl (22, Int32.ofNat (ofK 0 M.2.1).length, Int32.ofNat (i + 1), r')))) ∧ bdP r0 r' mm lo hi M (i + 1) := by
  have X1 := hX_bd X hs P
  have T := vG_T g
  obtain ⟨zs, E, ⟨m1, m2, m3, m4, m5⟩, ⟨c1, c2⟩, bds⟩ := P
  obtain ⟨⟨s1, s2, s3, s4, s5, s6, s7, s8, s9, s10⟩, C, ⟨k1, k2, k3⟩, a1, a2, a3, a4⟩ := id X1
  have n4 : n ≤ 40960 := s7
  obtain ⟨bx, b1, b2, b3, b4, b5, b6, b7⟩ := C.2.2.2.2.2.2.2.2.2.1 (by decide)
  obtain ⟨u1, u2⟩ := b7 i a ha
  have il := some_lt ha
  have gb := g.1.2.2.2.2.2.2.2.2.2.1 a (List.mem_of_getElem? ha)
  have lm := or_f (g.1.2.2.2.2.2.2.2.2.2.2.2.2.2.2.2.2.2.2.2.2 g.2 a (List.mem_of_getElem? ha))
  have lt1 : a.1 ≤ a.2.2.2.1 + 1 ∧ a.2.2.2.1 + 1 ≤ n := by
    obtain ⟨-, -, g3, g4, -, g7⟩ := gb
    have ex : eW B n D 1 a.2.2.1 (a.2.2.2.1 + 1) := .inr ⟨n + 1, [], a.2.2.2.2.2, g7, lm.2, rfl⟩
    have := eW_le s10 _ (Nat.le_refl _) ex
    omega
  have own : (spF M)[(ofK 0 M.2.1).length + i]? = some (0, t, 0, -1, 0) := by
    unfold spF
    rw [List.getElem?_append_right (Nat.le_add_right _ _), Nat.add_sub_cancel_left, List.getElem?_map, ht]
    rfl
  have tl := hF _ (List.mem_of_getElem? own)
  obtain ⟨h1, eh1⟩ : ∃ z, z = pm_new r 0 0 := ⟨_, rfl⟩
  obtain ⟨-, Z1, E1⟩ := pe_new r 0 0 0 (by omega)
  rw [← eh1] at Z1 E1
  have z1 : pm_sz h1 = pm_sz r + 1 := by rw [eh1]; rfl
  have Xh : hX h1 n b mm lo hi B M := hX_E X1 (fun x hx _ => E1 x (by omega)) ⟨(E1 mm (by omega)).1, (E1 mm (by omega)).2.2.2.1, fun y _ => (E1 mm (by omega)).2.2.2.2 y⟩
  obtain ⟨s, es, Ps⟩ := hX_shf Xh T own tl
  have bc : bCap a ≤ n := by unfold bCap; omega
  have c5 := cap_5 (x := bCap a) (by omega)
  obtain ⟨h2, e2, z2, K2, I2, L2, ⟨R20, R21, R25, R27, R28⟩, Y1, Y2, Y3, Y4⟩ := cX0 (p := s) (n := Int32.ofNat (bCap a)) Z1 (by omega) (by rw [c5]; exact ⟨by rw [n3_0, nn_lt (by omega) (by decide)]; omega, by rw [nn_cm (by omega)]; omega⟩)
  rw [c5, nn_cm (by omega)] at Y4
  have cne : pm_sz r0 ≠ pm_sz r := by omega
  have ec : pe_E r h2 (pm_sz r0) := pe_E_t (E1 _ (by omega)) (K2.2.2.2 _ (by omega) cne)
  have EE : ∀ x, x < pm_sz r → pe_E r h2 x := fun x hx => pe_E_t (E1 x hx) (K2.2.2.2 x (by omega) (by omega))
  have kB : pm_kd h2 (pm_sz r) = 0 := K2.2.1.trans Z1.1
  obtain ⟨r', er⟩ : ∃ z, z = pm_setR h2 (pm_sz r0) i (some (pm_sz r)) := ⟨_, rfl⟩
  have E3 : ∀ x, x ≠ pm_sz r0 → pe_E h2 r' x := fun x hx => ⟨by rw [er]; rfl, by rw [er]; rfl, fun y => by rw [er]; rfl, fun y => by rw [er]; rfl, fun y => by rw [er, ev_RR, if_neg hx]⟩
  have ER : ∀ x, x < pm_sz r → x ≠ pm_sz r0 → pe_E r r' x := fun x hx hn => pe_E_t (EE x hx) (E3 x hn)
  have szc : pm_sz r = pm_sz r0 + 1 + 5 * i := zs
  refine ⟨r', ?_, ?_, fun x hx hm => pe_E_t (E x hx hm) (ER x (by omega) (by omega)), ?_, ⟨?_, ?_⟩, fun j hj => ?_⟩
  · refine k_w (aX1_makeBodies_2 ..) ?_
    unfold tX1_makeBodies_31
    have i2 : (2 : Int32) * Int32.ofNat i = Int32.ofNat (2 * i) := nn_ml 2 i
    have it0 : fX12_item r bx (2 * Int32.ofNat i) = some (Int32.ofNat a.1) := by
      rw [i2, ← u1, show i * 2 = 2 * i from Nat.mul_comm i 2]
      exact it_v b4 (by rw [b5]; omega) (by rw [b5]; omega)
    have it1 : fX12_item r bx (2 * Int32.ofNat i + 1) = some (Int32.ofNat (a.2.2.2.1 + 1)) := by
      rw [i2, ← u2, show i * 2 = 2 * i from Nat.mul_comm i 2, show Int32.ofNat (2 * i) + 1 = Int32.ofNat (2 * i + 1) from nn_ad _ 1]
      exact it_v b4 (by rw [b5]; omega) (by rw [b5]; omega)
    refine k_t k1 (k_b k2 (k_t s3 (k_b (by rw [m5, if_pos rfl]) (k_t c1 (k_f (by rw [c2, nn_le (by omega) (by omega)]; omega) (k_b b1 (k_b it1 (k_b it0 (k_l ?_)))))))))
    rw [nn_sb lt1.1, ← eh1]
    refine k_n (k_w (aX1_makeBodies_3 ..) ?_)
    unfold tX1_makeBodies_84
    refine k_t Xh.2.2.1.1 (k_b Xh.2.2.1.2.1 (k_t Xh.1.2.2.1 ?_))
    rw [nn_ad]
    refine k_b es (k_n (k_w (aX1_makeBodies_4 ..) ?_))
    unfold tX1_makeBodies_95
    refine k_b e2 (k_n (k_w (aX1_makeBodies_5 ..) ?_))
    unfold tX1_makeBodies_99
    refine k_t (ec.1.trans c1) (k_t kB (k_t (by rw [ec.2.1, c2, nn_in (by omega)]; exact il) (k_l ?_)))
    rw [nn_cm (by omega), ← er, show Int32.ofNat i + 1 = Int32.ofNat (i + 1) from nn_ad i 1]
    rfl
  · rw [er]
    show pm_sz h2 = _
    omega
  · obtain ⟨q1, q2, q3, q4, q5⟩ := ER mm (by omega) (by omega)
    exact ⟨q1.trans m1, q2.trans m2, fun y => (q3 y).trans (m3 y), fun y => (q4 y).trans (m4 y), fun y => (q5 y).trans (m5 y)⟩
  · rw [er]; exact ec.1.trans c1
  · rw [er]; exact ec.2.1.trans c2
  · by_cases ji : j = i
    · subst ji
      rw [← szc]
      refine ⟨by rw [er, ev_RR, if_pos rfl, if_pos rfl], ?_⟩
      have E4 : ∀ x, pm_sz r ≤ x → pe_E h2 r' x := fun x hx => E3 x (by omega)
      have EB := E4 (pm_sz r) (Nat.le_refl _)
      rw [z1] at R21 R25 R27 R28 Y1 Y2 Y3 Y4
      refine ⟨EB.1.trans kB, ⟨s, t, ht, (EB.2.2.2.2 0).trans R20, ?_⟩, ⟨(EB.2.2.2.2 1).trans R21, (EB.2.2.2.2 5).trans R25, (EB.2.2.2.2 7).trans R27, (EB.2.2.2.2 8).trans R28⟩, fun y => (EB.2.2.1 y).trans (I2 y), fun y => (EB.2.2.2.1 y).trans (L2 y), pe_E_Z (E4 _ (by omega)) Y1, pe_E_Z (E4 _ (by omega)) Y2, pe_E_Z (E4 _ (by omega)) Y3, a, ha, pe_E_Z (E4 _ (by omega)) Y4⟩
      obtain ⟨q1, q2⟩ := bt_i (M := M) tl (show t < 9223372036854775808 by have := T.1; have tl : t < M.1.length := tl; omega)
      rw [q1, q2]
      exact shP_E (fun x hx => by
        have hx' : x < pm_sz r0 := by unfold sLo at hx; omega
        exact pe_E_t (K2.2.2.2 x (by omega) (by omega)) (E3 x (by omega))) Ps
    · obtain ⟨b8, b9⟩ := bds j (by omega)
      refine ⟨by rw [er, ev_RR, if_pos rfl, if_neg ji]; exact (ec.2.2.2.2 j).trans b8, bFa_E (fun x hx => ER x ?_ ?_) (fun x h1 h2 => ER x (by omega) (by omega)) b9⟩
      · unfold sLo at hx; omega
      · unfold sLo at hx; omega
/-- all bodies -/
theorem x_mkL (X : hX r0 n b mm lo hi B M) (hs : hi ≤ pm_sz r0) (g : vG B n D M) (hF : ∀ f, f ∈ spF M → f.2.1 < M.1.length) (hE : M.2.2.1.length = M.2.2.2.2.2.2.2.2.2.1.length) : ∀ (m i : Nat) {r : pm_H}, i + m = M.2.2.2.2.2.2.2.2.2.1.length → bdP r0 r mm lo hi M i → ∃ r', pm_lim sX1_makeBodies (.inr (.inr (.inl (22, Int32.ofNat (ofK 0 M.2.1).length, Int32.ofNat i, r)))) = some r' ∧ bdP r0 r' mm lo hi M M.2.2.2.2.2.2.2.2.2.1.length := by
  have b6 : M.2.2.2.2.2.2.2.2.2.1.length ≤ 81920 := by obtain ⟨bx, b1, b2, b3, b4, b5, b6, b7⟩ := X.2.1.2.2.2.2.2.2.2.2.2.1 (by decide); exact b6
  intro m
  induction m with
  | zero =>
    intro i r hi' P
    have X1 := hX_bd X hs P
    obtain ⟨zs, E, ⟨m1, m2, m3, m4, m5⟩, ⟨c1, c2⟩, bds⟩ := id P
    have e : i = M.2.2.2.2.2.2.2.2.2.1.length := by omega
    refine ⟨r, k_w (aX1_makeBodies_2 ..) ?_, by rw [← e]; exact P⟩
    unfold tX1_makeBodies_31
    exact k_t X1.2.2.1.1 (k_b X1.2.2.1.2.1 (k_t X1.1.2.2.1 (k_b (by rw [m5, if_pos rfl]) (k_t c1 (k_t (by rw [c2, nn_le (by omega) (by omega)]; omega) rfl)))))
  | succ m ih =>
    intro i r hi' P
    have il : i < M.2.2.2.2.2.2.2.2.2.1.length := by omega
    obtain ⟨r1, e1, P1⟩ := x_mk1 X hs g hF (List.getElem?_eq_getElem il) (List.getElem?_eq_getElem (by omega : i < M.2.2.1.length)) P
    obtain ⟨r2, e2, P2⟩ := ih (i + 1) (by omega) P1
    exact ⟨r2, e1.trans e2, P2⟩
theorem x_mk (X : hX r0 n b mm lo hi B M) (hs : hi ≤ pm_sz r0) (g : vG B n D M) (hF : ∀ f, f ∈ spF M → f.2.1 < M.1.length) (hE : M.2.2.1.length = M.2.2.2.2.2.2.2.2.2.1.length) : ∃ r', fX1_makeBodies r0 22 = some r' ∧ bdP r0 r' mm lo hi M M.2.2.2.2.2.2.2.2.2.1.length := by
  obtain ⟨⟨s1, s2, s3, s4, s5, s6, s7, s8, s9, s10⟩, C, ⟨k1, k2, k3⟩, a1, a2, a3, a4⟩ := id X
  obtain ⟨bx, b1, b2, b3, b4, b5, b6, b7⟩ := C.2.2.2.2.2.2.2.2.2.1 (by decide)
  have im := m_imp (k := 0) s3 (C.2.1 (by decide)) (by decide) (fun x hx => by have := (g.1.2.1 x hx).1; omega)
  obtain ⟨k, ek⟩ : ∃ k, k = M.2.2.2.2.2.2.2.2.2.1.length := ⟨_, rfl⟩
  obtain ⟨h1, eh1⟩ : ∃ z, z = pm_new r0 38 k := ⟨_, rfl⟩
  obtain ⟨-, Z1, E1⟩ := pe_new r0 38 k 0 (by omega)
  rw [← eh1] at Z1 E1
  obtain ⟨h2, eh2⟩ : ∃ z, z = pm_setR h1 mm 12 (some (pm_sz r0)) := ⟨_, rfl⟩
  have E2 : ∀ x, x ≠ mm → pe_E h1 h2 x := fun x hx => ⟨by rw [eh2]; rfl, by rw [eh2]; rfl, fun y => by rw [eh2]; rfl, fun y => by rw [eh2]; rfl, fun y => by rw [eh2, ev_RR, if_neg hx]⟩
  have em := E1 mm (by omega)
  have P0 : bdP r0 h2 mm lo hi M 0 := by
    refine ⟨by rw [eh2, eh1]; rfl, fun x hx hm => pe_E_t (E1 x hx) (E2 x hm), ⟨by rw [eh2]; exact em.1, by rw [eh2]; exact em.2.1, fun y => by rw [eh2]; exact em.2.2.1 y, fun y => by rw [eh2]; exact em.2.2.2.1 y, fun y => ?_⟩, ⟨(E2 _ (by omega)).1.trans Z1.1, ((E2 _ (by omega)).2.1.trans Z1.2.1).trans ek⟩, fun j hj => absurd hj (Nat.not_lt_zero _)⟩
    rw [eh2, ev_RR, if_pos rfl]
    split
    · rfl
    · exact em.2.2.2.2 y
  obtain ⟨r', e, P'⟩ := x_mkL X hs g hF hE _ 0 (Nat.zero_add _) P0
  refine ⟨r', ?_, P'⟩
  unfold fX1_makeBodies
  refine k_w (aX1_makeBodies_0 ..) ?_
  unfold tX1_makeBodies_0
  refine k_t k1 (k_b k2 (k_t s3 (k_b im (k_b b1 (k_t b4 (k_l ?_))))))
  have dv : Int32.ofNat (pm_ln r0 bx) / 2 = Int32.ofNat k := by
    rw [b5, ← ek]
    exact (pe_dv (n := k * 2) (k := 2) (by omega) (by decide) (by decide)).trans (congrArg Int32.ofNat (by omega))
  rw [dv]
  refine k_t ⟨by rw [n3_0, nn_lt (by omega) (by decide)]; omega, by rw [nn_cm (by omega)]; omega⟩ ?_
  rw [nn_cm (by omega), ← eh1]
  refine k_n (k_w (aX1_makeBodies_1 ..) ?_)
  unfold tX1_makeBodies_26
  rw [← eh2]
  exact k_t (em.1.trans s3) (k_n e)
end XMK
