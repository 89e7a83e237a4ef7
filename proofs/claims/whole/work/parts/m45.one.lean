/-! THE CLASS CHECKS: a body among its bodies -/
def xZ (x : Nat) : Prop := x = 19 ∨ x = 22 ∨ (24 ≤ x ∧ x ≤ 28)
/-- the Checker's own cells, as they always stand -/
def xQ0 (h : pm_H) : Prop :=
  (pm_R h 22 5 = some 24 ∧ pm_kd h 24 = 34 ∧ pm_ln h 24 = 1000) ∧
  (pm_R h 22 9 = some 25 ∧ pm_kd h 25 = 34 ∧ pm_ln h 25 = 1400) ∧
  (pm_R h 22 11 = some 26 ∧ pm_kd h 26 = 34 ∧ pm_ln h 26 = 1016) ∧
  (pm_R h 22 13 = some 27 ∧ pm_kd h 27 = 34 ∧ pm_ln h 27 = 2000) ∧
  (pm_R h 22 15 = some 28 ∧ pm_kd h 28 = 34 ∧ pm_ln h 28 = 16) ∧
  (pm_R h 22 16 = some 29 ∧ pm_kd h 29 = 36 ∧ pm_ln h 29 = 128 ∧ pm_R h 29 64 = some 164 ∧ ∀ j, j < 17 → pm_R h 29 (111 + j) = some (165 + j)) ∧
  (pm_kd h 164 = 34 ∧ pm_ln h 164 = 2 ∧ pm_I h 164 0 = 0 ∧ pm_I h 164 1 = 0 ∧ ∀ j, j < 17 → pm_kd h (165 + j) = 34 ∧ pm_ln h (165 + j) = 3 ∧ pm_I h (165 + j) 0 = 0 ∧ pm_I h (165 + j) 1 = 1 ∧ pm_I h (165 + j) 2 = Int32.ofNat (111 + j))
/-- what a body's check writes: c its cell -/
def zE (r r' : pm_H) (c : Nat) : Prop := (∀ x, x < pm_sz r → pm_kd r' x = pm_kd r x ∧ pm_ln r' x = pm_ln r x) ∧ (∀ x, x < pm_sz r → ¬ xZ x → x ≠ c → x ≠ c + 4 → pe_E r r' x) ∧ (∀ x, x < pm_sz r → x ≠ 22 → x ≠ c → ∀ y, pm_R r' x y = pm_R r x y) ∧ (∀ y, y ≠ 17 → pm_R r' 22 y = pm_R r 22 y) ∧ (∀ y, y ≠ 5 → pm_R r' c y = pm_R r c y) ∧ (∀ x, x < pm_sz r → x ≠ 19 → ∀ y, pm_L r' x y = pm_L r x y) ∧ ∀ y, y ≠ 2 → y ≠ 3 → y ≠ 4 → pm_I r' c y = pm_I r c y
/-- the context of the bodies -/
def bCx (r : pm_H) (n b mm lo hi cs dd : Nat) (B : Nat → Nat) (M : tMd) (D : Bool) (Dc : Nat → Bool) : Prop := hX r n b mm lo hi B M ∧ (pm_R r 22 4 = some dd ∧ pm_kd r dd = 32 ∧ pm_ln r dd = (spF M).length) ∧ (hi ≤ dd ∧ dd < cs ∧ cs < pm_sz r) ∧ xQ0 r ∧ (0 ≤ pm_L r mm 14) = (D = true) ∧ xD r dd (spF M).length Dc ∧ (pm_R r mm 12 = some cs ∧ pm_kd r cs = 38 ∧ pm_ln r cs = M.2.2.2.2.2.2.2.2.2.1.length) ∧ 181 < lo
/-- the j-th body, checked: q its references -/
def bDn (r : pm_H) (lo hi : Nat) (M : tMd) (c q j : Nat) (v : Nat × tK) : Prop := pm_kd r c = 0 ∧ (∃ s t a, M.2.2.1[j]? = some t ∧ M.2.2.2.2.2.2.2.2.2.1[j]? = some a ∧ pm_R r c 0 = some s ∧ shP r lo hi s (btP M (Int64.ofNat t)) (btR M (Int64.ofNat t)) ∧ pm_I r c 3 = Int32.ofNat ((btP M (Int64.ofNat t)).length + sumL a.2.2.2.2.1) ∧ (pm_R r c 5 = some q ∧ pm_kd r q = 34 ∧ pm_ln r q = 2 * (rfL (btP M (Int64.ofNat t)).length a.2.2.2.2.1).length ∧ ∀ i p, (rfL (btP M (Int64.ofNat t)).length a.2.2.2.2.1)[i]? = some p → pm_I r q (2 * i) = Int32.ofNat p.1 ∧ pm_I r q (2 * i + 1) = Int32.ofNat p.2) ∧ pm_kd r (c + 4) = 34 ∧ pm_ln r (c + 4) = 5 * bCap a) ∧ (pm_R r c 1 = some (c + 4) ∧ pm_R r c 7 = some (c + 2) ∧ pm_R r c 8 = some (c + 3)) ∧ pm_I r c 2 = Int32.ofNat v.2.2.2.length ∧ pm_I r c 4 = Int32.ofNat v.1 ∧ v.1 ≤ 1000 ∧ pm_I r c 6 = 0 ∧ (∀ y, pm_L r c y = 0) ∧ oW r (c + 4) v.2.2.2 ∧ pe_Z r (c + 2) 34 0 ∧ pe_Z r (c + 3) 35 0
section XONE
variable {h h' r r' r0 : pm_H} {n b mm lo hi c j cs dd q : Nat} {B : Nat → Nat} {M : tMd} {D : Bool} {Dc : Nat → Bool}
theorem oW_E {co : Nat} {rs : List tRw} (E : ∀ y, pm_I h' co y = pm_I h co y) (W : oW h co rs) : oW h' co rs := fun i r hi => by
  obtain ⟨a1, a2, a3, a4, a5⟩ := W i r hi
  exact ⟨(E _).trans a1, (E _).trans a2, (E _).trans a3, (E _).trans a4, (E _).trans a5⟩
theorem bDn_E {v : Nat × tK} (E : ∀ x, sLo lo hi x → pe_E h h' x) (Ec : ∀ x, c ≤ x → x < c + 5 → pe_E h h' x) (Eq : pe_E h h' q) (P : bDn h lo hi M c q j v) : bDn h' lo hi M c q j v := by
  obtain ⟨p1, ⟨s, t, a, ht, ha, p2, p3, p4, ⟨p5, p6, p7, p8⟩, p9, p10⟩, ⟨u1, u2, u3⟩, w1, w2, w3, w4, w5, w6, w7, w8⟩ := P
  obtain ⟨e1, e2, e3, e4, e5⟩ := Ec c (Nat.le_refl _) (by omega)
  obtain ⟨f1, f2, f3, f4, f5⟩ := Ec (c + 4) (by omega) (by omega)
  obtain ⟨g1, g2, g3, -, -⟩ := Eq
  exact ⟨e1.trans p1, ⟨s, t, a, ht, ha, (e5 0).trans p2, shP_E E p3, (e3 3).trans p4, ⟨(e5 5).trans p5, g1.trans p6, g2.trans p7, fun i p hp => ⟨(g3 _).trans (p8 i p hp).1, (g3 _).trans (p8 i p hp).2⟩⟩, f1.trans p9, f2.trans p10⟩, ⟨(e5 1).trans u1, (e5 7).trans u2, (e5 8).trans u3⟩, (e3 2).trans w1, (e3 4).trans w2, w3, (e3 6).trans w4, fun y => (e4 y).trans (w5 y), oW_E f3 w6, pe_E_Z (Ec (c + 2) (by omega) (by omega)) w7, pe_E_Z (Ec (c + 3) (by omega) (by omega)) w8⟩
theorem bCx_E (X : bCx r n b mm lo hi cs dd B M D Dc) (sz : pm_sz r ≤ pm_sz r') (hc : cs < c) (F : zE r r' c) : bCx r' n b mm lo hi cs dd B M D Dc := by
  obtain ⟨X1, ⟨d1, d2, d3⟩, ⟨o1, o2, o3⟩, ⟨⟨x1, x2, x3⟩, ⟨x4, x5, x6⟩, ⟨x7, x8, x9⟩, ⟨y1, y2, y3⟩, ⟨y4, y5, y6⟩, ⟨y7, y8, y9, z1, z2⟩, ⟨z3, z4, z5, z6, z7⟩⟩, dt, dx, ⟨c1, c2, c3⟩, l181⟩ := X
  obtain ⟨f1, f2, f3, f4, f5, f6, f7⟩ := F
  obtain ⟨⟨s1, s2, s3, s4, s5, s6, s7, s8, s9, s10⟩, C, ⟨k1, k2, k3⟩, a1, a2, a3, a4⟩ := X1
  have nz : ∀ x, 28 < x → ¬ xZ x := fun x hx z => by unfold xZ at z; omega
  have E : ∀ x, 28 < x → x ≤ cs → pe_E r r' x := fun x h1 h2 => f2 x (by omega) (nz x h1) (by omega) (by omega)
  have em := E mm (by omega) (by omega)
  have eb := E b (by omega) (by omega)
  have ed := E dd (by omega) (by omega)
  have ec := E cs (by omega) (Nat.le_refl _)
  have K : kC lo hi r r' := fun x h1 h2 => by
    obtain ⟨e1, e2, e3, e4, e5⟩ := E x (by omega) (by omega)
    exact ⟨e1, e2, funext e3, funext e4, funext e5⟩
  have R19 := f3 19 (by omega) (by decide) (by omega)
  refine ⟨⟨⟨(f1 19 (by omega)).1.trans s1, (R19 0).trans s2, em.1.trans s3, (em.2.2.2.2 0).trans s4, eb.1.trans s5, eb.2.1.trans s6, s7, s8, fun i hi => by rw [eb.2.2.1]; exact s9 i hi, s10⟩, cMx_k K (Nat.le_refl _) (.inl rfl) (fun j s _ _ _ => em.2.2.2.2 j) (by decide) (em.2.2.2.1 13) (em.2.2.2.1 14) C, ⟨(f1 22 (by omega)).1.trans k1, (f4 2 (by decide)).trans k2, (f4 3 (by decide)).trans k3⟩, a1, a2, a3, a4⟩, ⟨(f4 4 (by decide)).trans d1, ed.1.trans d2, ed.2.1.trans d3⟩, ⟨o1, o2, by omega⟩, ?_, by rw [em.2.2.2.1 14]; exact dt, fun i hi => by rw [ed.2.2.1]; exact dx i hi, ⟨(em.2.2.2.2 12).trans c1, ec.1.trans c2, ec.2.1.trans c3⟩, l181⟩
  have kl := fun x (hx : x < pm_sz r) => f1 x hx
  refine ⟨⟨(f4 5 (by decide)).trans x1, (kl 24 (by omega)).1.trans x2, (kl 24 (by omega)).2.trans x3⟩, ⟨(f4 9 (by decide)).trans x4, (kl 25 (by omega)).1.trans x5, (kl 25 (by omega)).2.trans x6⟩, ⟨(f4 11 (by decide)).trans x7, (kl 26 (by omega)).1.trans x8, (kl 26 (by omega)).2.trans x9⟩, ⟨(f4 13 (by decide)).trans y1, (kl 27 (by omega)).1.trans y2, (kl 27 (by omega)).2.trans y3⟩, ⟨(f4 15 (by decide)).trans y4, (kl 28 (by omega)).1.trans y5, (kl 28 (by omega)).2.trans y6⟩, ⟨(f4 16 (by decide)).trans y7, (kl 29 (by omega)).1.trans y8, (kl 29 (by omega)).2.trans y9, ((E 29 (by omega) (by omega)).2.2.2.2 64).trans z1, fun j hj => ((E 29 (by omega) (by omega)).2.2.2.2 _).trans (z2 j hj)⟩, ⟨(kl 164 (by omega)).1.trans z3, (kl 164 (by omega)).2.trans z4, ((E 164 (by omega) (by omega)).2.2.1 0).trans z5, ((E 164 (by omega) (by omega)).2.2.1 1).trans z6, fun j hj => ?_⟩⟩
  obtain ⟨w1, w2, w3, w4, w5⟩ := z7 j hj
  have e := E (165 + j) (by omega) (by omega)
  exact ⟨e.1.trans w1, e.2.1.trans w2, (e.2.2.1 0).trans w3, (e.2.2.1 1).trans w4, (e.2.2.1 2).trans w5⟩
/-- the check of a body -/
theorem x_bd1 (X : bCx r n b mm lo hi cs dd B M D Dc) (g : vG B n D M) (hF : ∀ f, f ∈ spF M → f.2.1 < M.1.length) {a : tBo} {t : Nat} (ha : M.2.2.2.2.2.2.2.2.2.1[j]? = some a) (ht : M.2.2.1[j]? = some t) (hc : cs < c) (hs : c + 5 ≤ pm_sz r) (Rc : pm_R r cs j = some c) (P : bFa r lo hi M c j) (i0 : pm_I r 22 0 = 0) : ∃ r', fX1_body r 22 (Int32.ofNat j) = some r' ∧ pm_sz r' = pm_sz r + 1 ∧ zE r r' c ∧ match kBody B n D M Dc t a with
    | .inl w => (0 < w.1 ∧ w.1 < 100) ∧ pm_I r' 22 0 = Int32.ofNat w.1 ∧ pm_I r' 22 1 = Int32.ofNat w.2
    | .inr v => pm_I r' 22 0 = 0 ∧ bDn r' lo hi M c (pm_sz r) j v.1 := by
  have X' := X
  obtain ⟨X1, ⟨d1, d2, d3⟩, ⟨o1, o2, o3⟩, ⟨⟨x1, x2, x3⟩, ⟨x4, x5, x6⟩, ⟨x7, x8, x9⟩, ⟨y1, y2, y3⟩, ⟨y4, y5, y6⟩, ⟨y7, y8, y9, z1, z2⟩, ⟨z3, z4, z5, z6, z7⟩⟩, dt, dx, ⟨c1, c2, c3⟩, l181⟩ := X
  obtain ⟨⟨s1, s2, s3, s4, s5, s6, s7, s8, s9, s10⟩, C, ⟨k1, k2, k3⟩, a1, a2, a3, a4⟩ := X1
  obtain ⟨p1, ⟨s, t', ht', p2, p3⟩, ⟨p4, p5, p6, p7⟩, p8, p9, Z1, Z2, Z3, a', ha', Z4⟩ := P
  rw [ht] at ht'
  cases ht'
  rw [ha] at ha'
  cases ha'
  have n4 : n ≤ 40960 := s7
  obtain ⟨bx, b1, b2, b3, b4, b5, b6, b7⟩ := C.2.2.2.2.2.2.2.2.2.1 (by decide)
  obtain ⟨u1, u2⟩ := b7 j a ha
  have il := some_lt ha
  have gb := g.1.2.2.2.2.2.2.2.2.2.1 a (List.mem_of_getElem? ha)
  have bc : bCap a ≤ 40960 := by unfold bCap; have := gb.2.2.1; omega
  -- where the body begins
  obtain ⟨r1, er1⟩ : ∃ z, z = pm_setR r 22 17 (some c) := ⟨_, rfl⟩
  have R1 : ∀ x y, ¬ (x = 22 ∧ y = 17) → pm_R r1 x y = pm_R r x y := fun x y hn => by
    rw [er1, ev_RR]
    by_cases e : x = 22
    · rw [if_pos e, if_neg (fun z => hn ⟨e, z⟩)]
    · rw [if_neg e]
  have R117 : pm_R r1 22 17 = some c := by rw [er1, ev_RR, if_pos rfl, if_pos rfl]
  have kd1 : pm_kd r1 = pm_kd r := by rw [er1]; rfl
  have ln1 : pm_ln r1 = pm_ln r := by rw [er1]; rfl
  have I1 : pm_I r1 = pm_I r := by rw [er1]; rfl
  have L1 : pm_L r1 = pm_L r := by rw [er1]; rfl
  have sz1 : pm_sz r1 = pm_sz r := by rw [er1]; rfl
  have sr : pm_setR r1 19 0 (some mm) = r1 := by
    refine (congrArg (fun z => (pm_sz r1, pm_kd r1, pm_ln r1, pm_I r1, pm_L r1, z)) (funext fun x => funext fun y => ?_) : _ = (pm_sz r1, pm_kd r1, pm_ln r1, pm_I r1, pm_L r1, pm_R r1))
    show (if x = 19 then (if y = 0 then some mm else pm_R r1 x y) else pm_R r1 x y) = pm_R r1 x y
    split
    · next e1 =>
      split
      · next e2 => rw [e1, e2, R1 19 0 (by decide)]; exact s2.symm
      · rfl
    · rfl
  obtain ⟨r2, er2⟩ : ∃ z, z = pm_setI (pm_setI (pm_setI (pm_setI (pm_setI r1 19 1 (Int32.ofNat a.1)) 19 2 (Int32.ofNat n)) 19 3 0) 19 4 (-1)) 19 16 0 := ⟨_, rfl⟩
  have k2' : ∀ x y, x ≠ 19 → pm_I r2 x y = pm_I r x y := fun x y hx => by
    rw [er2, ev_II, if_neg hx, ev_II, if_neg hx, ev_II, if_neg hx, ev_II, if_neg hx, ev_II, if_neg hx, I1]
  have kd2 : pm_kd r2 = pm_kd r := by rw [er2]; exact kd1
  have ln2 : pm_ln r2 = pm_ln r := by rw [er2]; exact ln1
  have L2 : pm_L r2 = pm_L r := by rw [er2]; exact L1
  have sz2 : pm_sz r2 = pm_sz r := by rw [er2]; exact sz1
  have R2 : pm_R r2 = pm_R r1 := by rw [er2]; rfl
  have op : fX9_open r1 19 mm (Int32.ofNat a.1) = some r2 := by
    unfold fX9_open
    rw [sr]
    refine e9_t (by rw [kd1]; exact s1) (e9_t (show pm_kd r1 mm = 7 by rw [kd1]; exact s3) (e9_b (show pm_R r1 mm 0 = some b by rw [R1 mm 0 (by omega)]; exact s4) (e9_t (show pm_kd r1 b = 33 by rw [kd1]; exact s5) (e9_l ?_))))
    rw [show pm_ln (pm_setI r1 19 1 (Int32.ofNat a.1)) b = n by show pm_ln r1 b = n; rw [ln1]; exact s6, er2]
  have K : kC lo hi r r2 := fun x h1 h2 => ⟨by rw [kd2], by rw [ln2], funext fun y => k2' x y (by omega), by rw [L2], by rw [R2]; funext y; exact R1 x y (by omega)⟩
  have Cx : xC r2 n b mm lo hi c (c + 4) dd (bCap a) B M := by
    refine ⟨⟨by rw [kd2]; exact s1, by rw [R2, R1 _ _ (by decide)]; exact s2, by rw [kd2]; exact s3, by rw [R2, R1 _ _ (by omega)]; exact s4, by rw [kd2]; exact s5, by rw [ln2]; exact s6, s7, s8, fun i hi => by rw [k2' b i (by omega)]; exact s9 i hi, s10⟩, cMx_k K (Nat.le_refl _) (.inl rfl) (fun j s _ _ _ => by rw [R2]; exact R1 mm j (by omega)) (by decide) (by rw [L2]) (by rw [L2]) C, ?_, ⟨a1, a2, a3, a4, by omega, by omega, by omega⟩, by rw [er2]; rfl⟩
    have Rx : ∀ y, y ≠ 17 → pm_R r2 22 y = pm_R r 22 y := fun y hy => by rw [R2]; exact R1 22 y (fun z => hy z.2)
    have Rn : ∀ x y, x ≠ 22 → pm_R r2 x y = pm_R r x y := fun x y hx => by rw [R2]; exact R1 x y (fun z => hx z.1)
    refine ⟨⟨by rw [kd2]; exact k1, (Rx 2 (by decide)).trans k2, (Rx 3 (by decide)).trans k3⟩, ⟨(Rx 4 (by decide)).trans d1, by rw [kd2]; exact d2, by rw [ln2]; exact d3⟩, ⟨(Rx 5 (by decide)).trans x1, by rw [kd2]; exact x2, by rw [ln2]; exact x3⟩, ⟨(Rx 9 (by decide)).trans x4, by rw [kd2]; exact x5, by rw [ln2]; exact x6⟩, ⟨(Rx 11 (by decide)).trans x7, by rw [kd2]; exact x8, by rw [ln2]; exact x9⟩, ⟨(Rx 13 (by decide)).trans y1, by rw [kd2]; exact y2, by rw [ln2]; exact y3⟩, ⟨(Rx 15 (by decide)).trans y4, by rw [kd2]; exact y5, by rw [ln2]; exact y6⟩, ⟨(Rx 16 (by decide)).trans y7, by rw [kd2]; exact y8, by rw [ln2]; exact y9, (Rn 29 64 (by decide)).trans z1, fun j hj => (Rn 29 _ (by decide)).trans (z2 j hj)⟩, ⟨by rw [kd2]; exact z3, by rw [ln2]; exact z4, (k2' 164 0 (by decide)).trans z5, (k2' 164 1 (by decide)).trans z6, fun j hj => ?_⟩, ⟨by rw [R2]; exact R117, by rw [kd2]; exact p1, (Rn c 1 (by omega)).trans p4, by rw [kd2]; exact Z4.1, by rw [ln2]; exact Z4.2.1, bc⟩⟩
    obtain ⟨w1, w2, w3, w4, w5⟩ := z7 j hj
    exact ⟨by rw [kd2]; exact w1, by rw [ln2]; exact w2, (k2' _ 0 (by omega)).trans w3, (k2' _ 1 (by omega)).trans w4, (k2' _ 2 (by omega)).trans w5⟩
  have it : fX12_item r1 bx (2 * Int32.ofNat j) = some (Int32.ofNat a.1) := by
    rw [show (2 : Int32) * Int32.ofNat j = Int32.ofNat (2 * j) from nn_ml 2 j, ← u1, show j * 2 = 2 * j from Nat.mul_comm j 2, ← I1]
    exact it_v (by rw [kd1]; exact b4) (by rw [ln1, b5]; omega) (by rw [ln1, b5]; omega)
  have P2 : shP r2 lo hi s (btP M (Int64.ofNat t)) (btR M (Int64.ofNat t)) := shP_E (fun x hx => ⟨by rw [kd2], by rw [ln2], fun y => k2' x y (by unfold sLo at hx; omega), fun y => by rw [L2], fun y => by rw [R2]; exact R1 x y (by unfold sLo at hx; omega)⟩) p3
  obtain ⟨r', r6, sl, mo, e1, F6, LR, esl, i8, rb, h', erb, NA, er', ref⟩ := x_body (r := r) (cs := cs) (bx := bx) (s := s) k1 k2 s3 c1 c2 (by rw [c3]; exact il) (by rw [c3]; omega) Rc k3 b1 (by omega) (by rw [← er1]; exact it) s1 (by rw [← er1]; exact op) Cx (by rw [er2]; rfl) (by rw [er2]; rfl) (by rw [er2]; rfl) ((k2' 22 0 (by decide)).trans i0) ((k2' c 2 (by omega)).trans (p8 2)) P2 (by rw [R2, R1 c 0 (by omega)]; exact p2) (by rw [L2]; exact dt) (fun i hi => by rw [k2' dd i (by omega)]; exact dx i hi) g hF ha ht (Nat.le_refl _) (by rw [sz2]; omega) (by rw [sz2]; omega)
  -- what of r is left in r'
  have sz6 : pm_sz r6 = pm_sz r := F6.1.trans sz2
  have szb : pm_sz rb = pm_sz r := by rw [erb]; exact sz6
  rw [sz6] at er' ref
  obtain ⟨n1, n2, n3, n4'⟩ := NA
  rw [szb] at n1 n2 n3 n4'
  have sz' : pm_sz r' = pm_sz r + 1 := by rw [er']; exact n1
  have kb : ∀ x y, ¬ (x = c ∧ (y = 3 ∨ y = 4)) → pm_I rb x y = pm_I r6 x y := fun x y hn => by
    rw [erb, ev_II]
    by_cases e : x = c
    · rw [if_pos e, if_neg (fun z => hn ⟨e, .inr z⟩), ev_II, if_pos e, if_neg (fun z => hn ⟨e, .inl z⟩)]
    · rw [if_neg e, ev_II, if_neg e]
  have I' : ∀ x y, x ≠ pm_sz r → pm_I r' x y = pm_I rb x y := fun x y hx => by rw [er']; show pm_I h' x y = _; rw [(n4' x hx).2.2.1]
  have kd' : ∀ x, x ≠ pm_sz r → pm_kd r' x = pm_kd r x := fun x hx => by rw [er']; show pm_kd h' x = _; rw [(n4' x hx).1, erb]; show pm_kd r6 x = _; rw [F6.2.1, kd2]
  have ln' : ∀ x, x ≠ pm_sz r → pm_ln r' x = pm_ln r x := fun x hx => by rw [er']; show pm_ln h' x = _; rw [(n4' x hx).2.1, erb]; show pm_ln r6 x = _; rw [F6.2.2.1, ln2]
  have L' : ∀ x y, x ≠ pm_sz r → pm_L r' x y = pm_L r6 x y := fun x y hx => by rw [er']; show pm_L h' x y = _; rw [(n4' x hx).2.2.2.1, erb]; rfl
  have R' : ∀ x y, x ≠ pm_sz r → ¬ (x = c ∧ y = 5) → pm_R r' x y = pm_R r1 x y := fun x y hx hn => by
    rw [er', ev_RR]
    by_cases e : x = c
    · rw [if_pos e, if_neg (fun z => hn ⟨e, z⟩), (n4' x hx).2.2.2.2, erb]
      show pm_R r6 x y = _
      rw [F6.2.2.2.1, R2]
    · rw [if_neg e, (n4' x hx).2.2.2.2, erb]
      show pm_R r6 x y = _
      rw [F6.2.2.2.1, R2]
  have I6 : ∀ x y, ¬ zAI c (c + 4) x y → pm_I r6 x y = pm_I r2 x y := F6.2.2.2.2.1
  have EE : ∀ x, x < pm_sz r → ¬ xZ x → x ≠ c → x ≠ c + 4 → pe_E r r' x := fun x hx hz h1 h2 => by
    unfold xZ at hz
    refine ⟨kd' x (by omega), ln' x (by omega), fun y => ?_, fun y => ?_, fun y => ?_⟩
    · rw [I' x y (by omega), kb x y (by omega), I6 x y (by unfold zAI lAI xAI qAI; omega), k2' x y (by omega)]
    · rw [L' x y (by omega), F6.2.2.2.2.2 x y (by unfold lAL; omega), L2]
    · rw [R' x y (by omega) (by omega), R1 x y (by omega)]
  have FZ : zE r r' c := ⟨fun x hx => ⟨kd' x (by omega), ln' x (by omega)⟩, EE, fun x hx h1 h2 y => by rw [R' x y (by omega) (by omega), R1 x y (by omega)], fun y hy => by rw [R' 22 y (by omega) (by omega), R1 22 y (fun z => hy z.2)], fun y hy => by rw [R' c y (by omega) (fun z => hy z.2), R1 c y (by omega)], fun x hx h1 y => by rw [L' x y (by omega), F6.2.2.2.2.2 x y (by unfold lAL; omega), L2], fun y h1 h2 h3 => by rw [I' c y (by omega), kb c y (by omega), I6 c y (by unfold zAI lAI xAI qAI; omega), k2' c y (by omega)]⟩
  refine ⟨r', e1, sz', FZ, ?_⟩
  cases hk : kBody B n D M Dc t a with
  | inl w =>
    rw [hk] at LR
    obtain ⟨q1, q2, q3⟩ := LR
    exact ⟨q1, by rw [I' 22 0 (by omega), kb 22 0 (by omega)]; exact q2, by rw [I' 22 1 (by omega), kb 22 1 (by omega)]; exact q3⟩
  | inr v =>
    rw [hk] at LR
    obtain ⟨⟨v1, v2, v3, v4, v5, v6, v7⟩, W, i8', m1000⟩ := LR
    refine ⟨by rw [I' 22 0 (by omega), kb 22 0 (by omega)]; exact v1, ?_⟩
    have Rk : ∀ y, y ≠ 5 → pm_R r' c y = pm_R r c y := FZ.2.2.2.2.1
    refine ⟨(kd' c (by omega)).trans p1, ⟨s, t, a, ht, ha, (Rk 0 (by decide)).trans p2, shP_E (fun x hx => EE x (by unfold sLo at hx; omega) (by unfold sLo at hx; unfold xZ; omega) (by unfold sLo at hx; omega) (by unfold sLo at hx; omega)) p3, ?_, ⟨by rw [er', ev_RR, if_pos rfl, if_pos rfl], by rw [er']; exact n2, by rw [er']; exact n3, ref⟩, (kd' _ (by omega)).trans Z4.1, (ln' _ (by omega)).trans Z4.2.1⟩, ⟨(Rk 1 (by decide)).trans p4, (Rk 7 (by decide)).trans p6, (Rk 8 (by decide)).trans p7⟩, ?_, ?_, m1000, (FZ.2.2.2.2.2.2 6 (by decide) (by decide) (by decide)).trans (p8 6), fun y => (FZ.2.2.2.2.2.1 c (by omega) (by omega) y).trans (p9 y), oW_E (fun y => by rw [I' _ y (by omega), kb _ y (by omega)]) v7, pe_E_Z (EE _ (by omega) (by unfold xZ; omega) (by omega) (by omega)) Z2, pe_E_Z (EE _ (by omega) (by unfold xZ; omega) (by omega) (by omega)) Z3⟩
    · rw [I' c 3 (by omega), erb, ev_II, if_pos rfl, if_neg (by decide), ev_II, if_pos rfl, if_pos rfl, esl]
    · rw [I' c 2 (by omega), kb c 2 (by omega)]; exact v4
    · rw [I' c 4 (by omega), erb, ev_II, if_pos rfl, if_pos rfl, ← i8]; exact i8'
end XONE
