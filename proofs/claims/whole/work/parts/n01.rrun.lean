/-! THE REFERENCE: module() behind begin: the bytes are copied, read, checked -/
def rW (m b eo el x : Nat) : Prop := x = 592 ∨ x = 594 ∨ (596 ≤ x ∧ x ≤ 604) ∨ (m ≤ x ∧ x ≤ m + 39) ∨ x = b ∨ x = eo ∨ x = el
def rY (y : Nat) : Prop := y = 1 ∨ y = 3 ∨ y = 6 ∨ y = 7 ∨ y = 8 ∨ y = 11 ∨ y = 12 ∨ y = 13 ∨ y = 16 ∨ y = 19 ∨ y = 21 ∨ y = 23 ∨ y = 24 ∨ y = 29 ∨ y = 30 ∨ y = 31
def rG (w r : pm_H) (m b eo el : Nat) : Prop := pm_sz r = pm_sz w ∧ pm_kd r = pm_kd w ∧ pm_ln r = pm_ln w ∧ (∀ x y, x ≠ 592 → x ≠ 594 → pm_R r x y = pm_R w x y) ∧ (∀ y, y ≠ 5 → y ≠ 10 → pm_R r 592 y = pm_R w 592 y) ∧ (∀ x y, ¬ rW m b eo el x → pm_I r x y = pm_I w x y ∧ pm_L r x y = pm_L w x y) ∧ (∀ y, ¬ rY y → pm_I r 592 y = pm_I w 592 y) ∧ ∀ y, y ≠ 17 → y ≠ 18 → pm_L r 592 y = pm_L w 592 y
/-- a module that stands, at the Plan m -/
def rMd (r : pm_H) (m n : Nat) (B : Nat → Nat) (M : tMd) (vs : List (Nat × tK)) : Prop := ∃ b eo el, (pm_kd r m = 14 ∧ pm_R r m 0 = some b ∧ pm_kd r b = 33 ∧ pm_ln r b = n ∧ ∀ i, i < n → pm_I r b i &&& 255 = Int32.ofNat (B i)) ∧ mP r m ∧ mD m n eo el r M n ∧ (pm_R r m 56 = some eo ∧ pm_kd r eo = 34 ∧ pm_ln r eo = n) ∧ (pm_R r m 57 = some el ∧ pm_kd r el = 34 ∧ pm_ln r el = n) ∧ (648 < m ∧ m + 39 < b ∧ b < eo ∧ eo < el ∧ el < pm_sz r) ∧ ∀ i v, vs[i]? = some v → pm_I r (m + 39) i = Int32.ofNat v.1 ∧ v.1 ≤ 1000
section RRUN
variable {w r : pm_H} {n m b eo el cnt : Nat} {B : Nat → Nat}
theorem rG_rm (w : pm_H) (p f q : Int32) : rG w (rm w p f q) m b eo el := ⟨rfl, rfl, rfl, fun _ _ _ _ => rfl, fun _ _ _ => rfl, fun x y h => ⟨by
  unfold rW at h
  show (if x = 592 then (if y = 11 then p else if y = 7 then f else if y = 8 then q else pm_I w x y) else pm_I w x y) = _
  rw [if_neg (by omega)], rfl⟩, fun y h => by
  unfold rY at h
  show (if 592 = 592 then (if y = 11 then p else if y = 7 then f else if y = 8 then q else pm_I w 592 y) else pm_I w 592 y) = _
  rw [if_pos rfl, if_neg (by omega), if_neg (by omega), if_neg (by omega)], fun _ _ _ => rfl⟩
theorem rG_t {a c d : pm_H} (p : rG a c m b eo el) (q : rG c d m b eo el) : rG a d m b eo el := ⟨q.1.trans p.1, q.2.1.trans p.2.1, q.2.2.1.trans p.2.2.1, fun x y h1 h2 => (q.2.2.2.1 x y h1 h2).trans (p.2.2.2.1 x y h1 h2), fun y h1 h2 => (q.2.2.2.2.1 y h1 h2).trans (p.2.2.2.2.1 y h1 h2), fun x y h => ⟨(q.2.2.2.2.2.1 x y h).1.trans (p.2.2.2.2.2.1 x y h).1, (q.2.2.2.2.2.1 x y h).2.trans (p.2.2.2.2.2.1 x y h).2⟩, fun y h => (q.2.2.2.2.2.2.1 y h).trans (p.2.2.2.2.2.2.1 y h), fun y h1 h2 => (q.2.2.2.2.2.2.2 y h1 h2).trans (p.2.2.2.2.2.2.2 y h1 h2)⟩
theorem rG_a {a c : pm_H} (hm : 648 < m) (he : 648 < eo) (hl : 648 < el) (F : aF m eo el a c) : rG a c m b eo el := by
  obtain ⟨f1, f2, f3, f4, f5, f6⟩ := F
  exact ⟨f1, f2, f3, fun x y _ _ => by rw [f4], fun y _ _ => by rw [f4], fun x y h => ⟨f5 x y (by unfold rW at h; unfold aI; omega), f6 x y (by unfold rW at h; unfold aL; omega)⟩, fun y h => f5 592 y (by unfold rY at h; unfold aI; omega), fun y h1 h2 => f6 592 y (by unfold aL; omega)⟩
theorem rG_v {a c : pm_H} (hm : 648 < m) (F : vF m a c) : rG a c m b eo el := by
  obtain ⟨f1, f2, f3, f4, f5, f6⟩ := F
  exact ⟨f1, f2, f3, fun x y _ _ => by rw [f4], fun y _ _ => by rw [f4], fun x y h => ⟨f5 x y (by unfold rW at h; unfold vAI; omega), f6 x y (by unfold rW at h; unfold vAL; omega)⟩, fun y h => f5 592 y (by unfold rY at h; unfold vAI; omega), fun y h1 h2 => f6 592 y (by unfold vAL; omega)⟩
theorem rG_I {a : pm_H} {y : Nat} (v : Int32) (h : rY y) : rG a (pm_setI a 592 y v) m b eo el := ⟨rfl, rfl, rfl, fun _ _ _ _ => rfl, fun _ _ _ => rfl, fun x z hn => ⟨by unfold rW at hn; rw [ev_II, if_neg (by omega)], rfl⟩, fun z hz => by rw [ev_II, if_pos rfl, if_neg (fun (e : z = y) => hz (by rw [e]; exact h))], fun _ _ _ => rfl⟩
theorem rG_R {a : pm_H} {y : Nat} (v : Option Nat) (h : y = 5 ∨ y = 10) : rG a (pm_setR a 592 y v) m b eo el := ⟨rfl, rfl, rfl, fun x z h1 _ => by rw [ev_RR, if_neg h1], fun z h1 h2 => by rw [ev_RR, if_pos rfl, if_neg (by omega)], fun _ _ _ => ⟨rfl, rfl⟩, fun _ _ => rfl, fun _ _ _ => rfl⟩
theorem rG_4 {a : pm_H} {y : Nat} (v : Option Nat) : rG a (pm_setR a 594 y v) m b eo el := ⟨rfl, rfl, rfl, fun x z _ h2 => by rw [ev_RR, if_neg h2], fun z _ _ => by rw [ev_RR, if_neg (by decide)], fun _ _ _ => ⟨rfl, rfl⟩, fun _ _ => rfl, fun _ _ _ => rfl⟩
theorem rG_b {a : pm_H} (h592 : b ≠ 592) (s n : Nat) : rG a (bC a b s n) m b eo el := ⟨rfl, rfl, rfl, fun _ _ _ _ => rfl, fun _ _ _ => rfl, fun x y h => ⟨by rw [bC_I, if_neg (by unfold rW at h; omega)], rfl⟩, fun y _ => by rw [bC_I, if_neg (by omega)], fun _ _ _ => rfl⟩
/-- behind begin -/
theorem r_run (K : pm_kd w 592 = 16) (rr : pm_R w 592 10 = some m) (km : pm_kd w m = 14) (rb : pm_R w m 0 = some b) (kb : pm_kd w b = 33) (lb : pm_ln w b = n) (hn : n ≤ 40960) (r0 : pm_R w 592 0 = some 593) (k3 : pm_kd w 593 = 33) (l3 : 40960 ≤ pm_ln w 593) (r9 : pm_R w 592 9 = some 595) (k5 : pm_kd w 595 = 13) (r14 : pm_R w 592 14 = some 596) (k6 : pm_kd w 596 = 34) (l6 : pm_ln w 596 = 40962) (r15 : pm_R w 592 15 = some 597) (k7 : pm_kd w 597 = 34) (l7 : pm_ln w 597 = 40962) (reo : pm_R w m 56 = some eo) (keo : pm_kd w eo = 34) (leo : pm_ln w eo = n) (rel : pm_R w m 57 = some el) (kel : pm_kd w el = 34) (lel : pm_ln w el = n) (P : mP w m) (hm : 648 < m) (hb : m + 39 < b) (heo : b < eo) (hel : eo < el) (hsz : el < pm_sz w) (hB : ∀ i, i < n → pm_I w 593 i &&& 255 = Int32.ofNat (B i)) (hB2 : ∀ i, B i < 256) (Z : pB0 w m el) (i1 : pm_I w m 1 = Int32.ofNat n) (i3 : pm_I w 592 3 = Int32.ofNat cnt) (hc : cnt < 16) (r4 : pm_R w 592 4 = some 594) (k4 : pm_kd w 594 = 42) (l4 : pm_ln w 594 = 16) (V : vX w) (z : Option Nat) : ∃ ans r, pm_lim sX16_module (.inr (.inr (.inr (.inr (.inl (592, Int32.ofNat n, z, 0, w)))))) = some (ans, r) ∧ rG w r m b eo el ∧ pm_R r 592 10 = z ∧ pm_I r 592 1 = 0 ∧ pm_I r 592 6 = 1 ∧ match mSp B n with
    | .inl (fl, pl) => ans = -1 ∧ pm_I r 592 7 = Int32.ofNat fl ∧ pm_I r 592 8 = Int32.ofNat pl ∧ pm_I r 592 3 = Int32.ofNat cnt ∧ pm_R r 592 5 = pm_R w 592 5 ∧ ∀ k, pm_R r 594 k = pm_R w 594 k
    | .inr v => ans = Int32.ofNat cnt ∧ pm_I r 592 7 = 0 ∧ pm_I r 592 8 = -1 ∧ pm_I r 592 3 = Int32.ofNat (cnt + 1) ∧ pm_R r 592 5 = none ∧ (∀ k, pm_R r 594 k = if k = cnt then some m else pm_R w 594 k) ∧ rMd r m n B v.1.1 v.1.2 := by
  have m5 : m ≠ 592 := by omega
  have mb : m ≠ b := by omega
  obtain ⟨g1, g2, g3⟩ := ms_rdy (s := 593) K rr km rb kb lb hn r9 r14 k6 l6 r15 k7 l7 reo keo leo rel kel lel P hm hb heo hel hB hB2 Z i1
  have CP := mo_cp K rr km rb kb lb r0 k3 (by omega) hn (by omega) z
  obtain ⟨w1, e1⟩ : ∃ x, x = mB w b 593 n := ⟨_, rfl⟩
  have G1 : rG w w1 m b eo el := by
    rw [e1]
    exact rG_t (rG_b (by omega) 593 n) (rG_t (rG_I 0 (.inl rfl)) (rG_I 1 (by unfold rY; omega)))
  have w11 : pm_I w1 592 1 = 0 := by rw [e1]; show pm_I (pm_setI (pm_setI (bC w b 593 n) 592 1 0) 592 6 1) 592 1 = 0; rw [ev_II, if_pos rfl, if_neg (by decide), ev_II, if_pos rfl, if_pos rfl]
  have w16 : pm_I w1 592 6 = 1 := by rw [e1]; show pm_I (pm_setI (pm_setI (bC w b 593 n) 592 1 0) 592 6 1) 592 6 = 1; rw [ev_II, if_pos rfl, if_pos rfl]
  have w13 : pm_I w1 592 3 = Int32.ofNat cnt := by rw [e1]; show pm_I (pm_setI (pm_setI (bC w b 593 n) 592 1 0) 592 6 1) 592 3 = _; rw [ev_II, if_pos rfl, if_neg (by decide), ev_II, if_pos rfl, if_neg (by decide), bC_I, if_neg (by omega)]; exact i3
  have w1k : pm_kd w1 = pm_kd w := G1.2.1
  have w1l : pm_ln w1 = pm_ln w := G1.2.2.1
  have w1R : pm_R w1 = pm_R w := by rw [e1]; rfl
  rw [← e1] at g1 g2 g3
  have QA := ms_all (pm_I w1 592 11) 0 (-1) g1 g2 g3
  -- the label 65, behind the copy
  have pre : ∀ {Y : Option (Int32 × pm_H)}, ev_k sX16_module ((fX16_readsAll (rm w1 (pm_I w1 592 11) 0 (-1)) 592).bind fun v26 => pt_c v26 (fun z29 => if pm_kd z29.2 z29.1 = 13 then (some (.inl (.inr (.inr (.inr (.inr (.inr ((592, z, z29.1, z29.2))))))))) else none) fun w28 => if pm_kd w28 592 = 16 then (fX16_checksAll w28 592).bind fun v34 => pt_c v34 (fun z37 => if pm_kd z37.2 z37.1 = 13 then (some (.inl (.inr (.inr (.inr (.inr (.inr ((592, z, z37.1, z37.2))))))))) else none) fun w36 => if pm_kd w36 592 = 16 then (pm_R w36 592 4).bind fun v42 => (pm_R w36 592 10).bind fun v44 => if pm_kd w36 v42 = 42 then if pm_kd w36 v44 = 14 then if pm_in (pm_I w36 592 3) (pm_ln w36 v42) then pm_let ((pm_I (pm_setR (pm_setR w36 v42 ((pm_I w36 592 3).toNatClampNeg) (some v44)) 592 5 none) 592 3) + 1) fun y49 => some (.inr (((pm_I (pm_setR (pm_setI (pm_setR (pm_setR w36 v42 ((pm_I w36 592 3).toNatClampNeg) (some v44)) 592 5 none) 592 3 y49) 592 10 z) 592 3) - 1, pm_setR (pm_setI (pm_setR (pm_setR w36 v42 ((pm_I w36 592 3).toNatClampNeg) (some v44)) 592 5 none) 592 3 y49) 592 10 z))) else none else none else none else none else none) = Y → pm_lim sX16_module (.inr (.inr (.inr (.inr (.inl (592, Int32.ofNat n, z, 0, w)))))) = Y := fun {Y} hY => by
    rw [CP]
    refine k_w (aX16_module_4 ..) ?_
    unfold tX16_module_65
    refine k_t (by rw [nn_le (by omega) (by omega)]; exact Nat.le_refl _) (k_t K ?_)
    rw [mB_r, ← e1]
    exact hY
  have fault : ∀ {fl pl : Nat} {a : Int32} {h' : pm_H}, rG w1 h' m b eo el → pm_R h' = pm_R w → pm_I h' 592 1 = 0 → pm_I h' 592 6 = 1 → pm_I h' 592 3 = Int32.ofNat cnt → ∃ r, pm_lim sX16_module (.inr (.inr (.inr (.inr (.inr (592, z, 595, rm h' a (Int32.ofNat fl) (Int32.ofNat pl))))))) = some (-1, r) ∧ rG w r m b eo el ∧ pm_R r 592 10 = z ∧ pm_I r 592 1 = 0 ∧ pm_I r 592 6 = 1 ∧ pm_I r 592 7 = Int32.ofNat fl ∧ pm_I r 592 8 = Int32.ofNat pl ∧ pm_I r 592 3 = Int32.ofNat cnt ∧ pm_R r 592 5 = pm_R w 592 5 ∧ ∀ k, pm_R r 594 k = pm_R w 594 k := fun {fl pl a h'} G R' q1 q6 q3 => by
    refine ⟨pm_setR (rm h' a (Int32.ofNat fl) (Int32.ofNat pl)) 592 10 z, ?_, rG_t G1 (rG_t G (rG_t (rG_rm h' ..) (rG_R z (.inr rfl)))), by rw [ev_RR, if_pos rfl, if_pos rfl], q1, q6, rfl, rfl, q3, ?_, fun k => ?_⟩
    · refine k_w (aX16_module_5 ..) ?_
      unfold tX16_module_150
      exact k_t (show pm_kd (rm h' a (Int32.ofNat fl) (Int32.ofNat pl)) 592 = 16 by rw [rm_kd, G.2.1, w1k]; exact K) rfl
    · rw [ev_RR, if_pos rfl, if_neg (by decide), rm_R, R']
    · rw [ev_RR, if_neg (by decide), rm_R, R']
  unfold mSp
  cases ha : sp_all B n with
  | inl x =>
    obtain ⟨fl, pl⟩ := x
    rw [ha] at QA
    obtain ⟨h', a, F, ex⟩ := QA
    have G2 : rG w1 h' m b eo el := rG_t (rG_I _ (by unfold rY; omega)) (rG_a hm (by omega) (by omega) F)
    have k1 : ∀ y, y ≠ 12 → y ≠ 13 → y ≠ 16 → pm_I h' 592 y = pm_I w1 592 y := fun y h1 h2 h3 => by
      rw [F.2.2.2.2.1 592 y (by unfold aI; omega), ev_II, if_pos rfl, if_neg h1]
    obtain ⟨r, er, R⟩ := fault (fl := fl) (pl := pl) (a := a) G2 (F.2.2.2.1.trans w1R) ((k1 1 (by decide) (by decide) (by decide)).trans w11) ((k1 6 (by decide) (by decide) (by decide)).trans w16) ((k1 3 (by decide) (by decide) (by decide)).trans w13)
    obtain ⟨q1, q2, q3, q4, q5⟩ := R
    refine ⟨-1, r, pre (k_b ex ?_), q1, q2, q3, q4, rfl, q5⟩
    show ev_k sX16_module (if pm_kd (rm h' a (Int32.ofNat fl) (Int32.ofNat pl)) 595 = 13 then (some (.inl (.inr (.inr (.inr (.inr (.inr ((592, z, 595, rm h' a (Int32.ofNat fl) (Int32.ofNat pl)))))))))) else none) = _
    exact k_t (by rw [rm_kd, G2.2.1, w1k]; exact k5) (k_n er)
  | inr x =>
    obtain ⟨M, pz⟩ := x
    rw [ha] at QA
    obtain ⟨r1, ex, h', er1, F, C, D, p1, p2⟩ := QA
    have pe : n = pz := by omega
    subst pe
    rw [sp_br]
    obtain ⟨q1, q2⟩ := gd_all hB2 ha
    obtain ⟨⟨v1, v2, v3⟩, v4⟩ := gIv_all ha
    obtain ⟨DD, eD⟩ : ∃ DD, DD = isS (M.2.2.2.2.2.2.2.2.2.2.2.2.1 12) := ⟨_, rfl⟩
    rw [← eD] at q1 ⊢
    have G2 : rG w1 h' m b eo el := rG_t (rG_I _ (by unfold rY; omega)) (rG_a hm (by omega) (by omega) F)
    have Rh : pm_R h' = pm_R w := F.2.2.2.1.trans w1R
    have k1 : ∀ y, y ≠ 12 → y ≠ 13 → y ≠ 16 → pm_I h' 592 y = pm_I w1 592 y := fun y h1 h2 h3 => by
      rw [F.2.2.2.2.1 592 y (by unfold aI; omega), ev_II, if_pos rfl, if_neg h1]
    have R1 : pm_R r1 = pm_R w := by rw [er1, rm_R]; exact Rh
    have kd1 : pm_kd r1 = pm_kd w := by rw [er1, rm_kd, G2.2.1]; exact w1k
    have ln1 : pm_ln r1 = pm_ln w := by rw [er1, rm_ln, G2.2.2.1]; exact w1l
    have L1 : pm_L r1 = pm_L h' := by rw [er1, rm_L]
    have I1 : ∀ x y, x ≠ 592 → pm_I r1 x y = pm_I h' x y := fun x y hx => by
      rw [er1]
      show (if x = 592 then (if y = 11 then _ else if y = 7 then _ else if y = 8 then _ else pm_I h' x y) else pm_I h' x y) = _
      rw [if_neg hx]
    have I15 : ∀ y, y ≠ 11 → y ≠ 7 → y ≠ 8 → pm_I r1 592 y = pm_I h' 592 y := fun y h1 h2 h3 => by
      rw [er1]
      show (if 592 = 592 then (if y = 11 then _ else if y = 7 then _ else if y = 8 then _ else pm_I h' 592 y) else pm_I h' 592 y) = _
      rw [if_pos rfl, if_neg h1, if_neg h2, if_neg h3]
    obtain ⟨⟨c1, c2, c3, c4, c5, c6, c7, c8, c9, c10⟩, -, -, -⟩ := C
    have VC : vC r1 n b m eo el B M := ⟨⟨by rw [kd1]; exact K, by rw [R1]; exact rr, by rw [kd1]; exact km, by rw [R1]; exact rb, by rw [kd1]; exact kb, by rw [ln1]; exact lb, hn, by rw [R1]; exact r9, fun i hi => by rw [I1 b i (by omega)]; exact c9 i hi, hB2⟩, ⟨fun y hy => by rw [R1]; exact P.1 y hy, fun j h1 h2 => by rw [kd1, ln1]; exact P.2 j h1 h2⟩, mD_k (fun x y hx => I1 x y (by omega)) (fun x y _ => by rw [L1]) D, by unfold vX at V ⊢; rw [R1, kd1, ln1]; exact V, hm, hb, by omega, by omega⟩
    have CK := v_chk VC q1 v4 (fun pl h => by have := v3 pl h; omega) (fun x h => q1.2.2.2.2.2.2.2.2.2.2.1 x h) (fun i x h => by have := v2 i x h; omega)
    have G3 : rG w1 r1 m b eo el := rG_t G2 (by rw [er1]; exact rG_rm ..)
    have e65 : ∀ {Y : Option (Int32 × pm_H)}, ev_k sX16_module ((fX16_checksAll r1 592).bind fun v34 => pt_c v34 (fun z37 => if pm_kd z37.2 z37.1 = 13 then (some (.inl (.inr (.inr (.inr (.inr (.inr ((592, z, z37.1, z37.2))))))))) else none) fun w36 => if pm_kd w36 592 = 16 then (pm_R w36 592 4).bind fun v42 => (pm_R w36 592 10).bind fun v44 => if pm_kd w36 v42 = 42 then if pm_kd w36 v44 = 14 then if pm_in (pm_I w36 592 3) (pm_ln w36 v42) then pm_let ((pm_I (pm_setR (pm_setR w36 v42 ((pm_I w36 592 3).toNatClampNeg) (some v44)) 592 5 none) 592 3) + 1) fun y49 => some (.inr (((pm_I (pm_setR (pm_setI (pm_setR (pm_setR w36 v42 ((pm_I w36 592 3).toNatClampNeg) (some v44)) 592 5 none) 592 3 y49) 592 10 z) 592 3) - 1, pm_setR (pm_setI (pm_setR (pm_setR w36 v42 ((pm_I w36 592 3).toNatClampNeg) (some v44)) 592 5 none) 592 3 y49) 592 10 z))) else none else none else none else none) = Y → pm_lim sX16_module (.inr (.inr (.inr (.inr (.inl (592, Int32.ofNat n, z, 0, w)))))) = Y := fun {Y} hY => by
      refine pre (k_b ex ?_)
      show ev_k sX16_module (if pm_kd r1 592 = 16 then _ else none) = Y
      exact k_t (by rw [kd1]; exact K) hY
    cases hk : sp_chk B n DD M with
    | inl x =>
      obtain ⟨fl, pl⟩ := x
      rw [hk] at CK
      obtain ⟨h2, a, F2, ex2⟩ := CK
      have k2 : ∀ y, y = 1 ∨ y = 3 ∨ y = 6 → pm_I h2 592 y = pm_I w1 592 y := fun y hy => by
        rw [F2.2.2.2.2.1 592 y (by unfold vAI; omega), I15 y (by omega) (by omega) (by omega), k1 y (by omega) (by omega) (by omega)]
      obtain ⟨r, er, R⟩ := fault (fl := fl) (pl := pl) (a := a) (h' := h2) (rG_t G3 (rG_v hm F2)) (F2.2.2.2.1.trans R1) ((k2 1 (by omega)).trans w11) ((k2 6 (by omega)).trans w16) ((k2 3 (by omega)).trans w13)
      obtain ⟨q1, q2, q3, q4, q5⟩ := R
      refine ⟨-1, r, e65 (k_b ex2 ?_), q1, q2, q3, q4, rfl, q5⟩
      show ev_k sX16_module (if pm_kd (rm h2 a (Int32.ofNat fl) (Int32.ofNat pl)) 595 = 13 then (some (.inl (.inr (.inr (.inr (.inr (.inr ((592, z, 595, rm h2 a (Int32.ofNat fl) (Int32.ofNat pl)))))))))) else none) = _
      exact k_t (by rw [rm_kd, F2.2.1, kd1]; exact k5) (k_n er)
    | inr vs =>
      rw [hk] at CK
      obtain ⟨r2, ex2, F2, ops⟩ := CK
      have kd2 : pm_kd r2 = pm_kd w := F2.2.1.trans kd1
      have ln2 : pm_ln r2 = pm_ln w := F2.2.2.1.trans ln1
      have R2 : pm_R r2 = pm_R w := F2.2.2.2.1.trans R1
      have k2 : ∀ y, y = 1 ∨ y = 3 ∨ y = 6 ∨ y = 7 ∨ y = 8 → pm_I r2 592 y = pm_I r1 592 y := fun y hy => F2.2.2.2.2.1 592 y (by unfold vAI; omega)
      have c3 : pm_I r2 592 3 = Int32.ofNat cnt := by rw [k2 3 (by omega), I15 3 (by omega) (by omega) (by omega), k1 3 (by omega) (by omega) (by omega)]; exact w13
      obtain ⟨r, er⟩ : ∃ x, x = pm_setR (pm_setI (pm_setR (pm_setR r2 594 cnt (some m)) 592 5 none) 592 3 (Int32.ofNat (cnt + 1))) 592 10 z := ⟨_, rfl⟩
      have GG : rG r2 r m b eo el := by rw [er]; exact rG_t (rG_4 _) (rG_t (rG_R _ (.inl rfl)) (rG_t (rG_I _ (by unfold rY; omega)) (rG_R _ (.inr rfl))))
      have rI : ∀ x y, ¬ (x = 592 ∧ y = 3) → pm_I r x y = pm_I r2 x y := fun x y hn => by
        rw [er]
        show pm_I (pm_setI (pm_setR (pm_setR r2 594 cnt (some m)) 592 5 none) 592 3 (Int32.ofNat (cnt + 1))) x y = _
        rw [ev_II]
        by_cases x5 : x = 592
        · rw [if_pos x5, if_neg (by omega)]; rfl
        · rw [if_neg x5]; rfl
      have rL : pm_L r = pm_L r2 := by rw [er]; rfl
      have rR : ∀ x y, x ≠ 592 → x ≠ 594 → pm_R r x y = pm_R w x y := fun x y h1 h2 => by rw [GG.2.2.2.1 x y h1 h2, R2]
      have rk : pm_kd r = pm_kd w := by rw [GG.2.1]; exact kd2
      have rl : pm_ln r = pm_ln w := by rw [GG.2.2.1]; exact ln2
      have GA : rG w r m b eo el := rG_t G1 (rG_t G3 (rG_t (rG_v hm F2) GG))
      have IA : ∀ x y, x ≠ 592 → ¬ (598 ≤ x ∧ x ≤ 604) → x ≠ m + 39 → pm_I r x y = pm_I h' x y := fun x y h1 h2 h3 => by
        rw [rI x y (by omega), F2.2.2.2.2.1 x y (by unfold vAI; omega), I1 x y h1]
      refine ⟨Int32.ofNat cnt, r, e65 (k_b ex2 ?_), GA, by rw [er, ev_RR, if_pos rfl, if_pos rfl], ?_, ?_, rfl, ?_, ?_, ?_, ?_, fun k => ?_, ?_⟩
      · show ev_k sX16_module (if pm_kd r2 592 = 16 then _ else none) = _
        refine k_t (by rw [kd2]; exact K) (k_b (by rw [R2]; exact r4) (k_b (by rw [R2]; exact rr) (k_t (by rw [kd2]; exact k4) (k_t (by rw [kd2]; exact km) (k_t (by rw [c3, ln2, l4, nn_in (by omega)]; exact hc) ?_)))))
        rw [c3, nn_cm (by omega)]
        refine k_l ?_
        rw [show pm_I (pm_setR (pm_setR r2 594 cnt (some m)) 592 5 none) 592 3 = Int32.ofNat cnt from c3, show Int32.ofNat cnt + 1 = Int32.ofNat (cnt + 1) from nn_ad cnt 1, ← er, show pm_I r 592 3 = Int32.ofNat (cnt + 1) by rw [er, ev_IR, ev_II, if_pos rfl, if_pos rfl], show Int32.ofNat (cnt + 1) - 1 = Int32.ofNat cnt from nn_sb (m := cnt + 1) (n := 1) (by omega)]
        rfl
      · rw [rI 592 1 (by omega), k2 1 (by omega), I15 1 (by omega) (by omega) (by omega), k1 1 (by omega) (by omega) (by omega)]; exact w11
      · rw [rI 592 6 (by omega), k2 6 (by omega), I15 6 (by omega) (by omega) (by omega), k1 6 (by omega) (by omega) (by omega)]; exact w16
      · rw [rI 592 7 (by omega), k2 7 (by omega), er1]; rfl
      · rw [rI 592 8 (by omega), k2 8 (by omega), er1]; rfl
      · rw [er, ev_IR, ev_II, if_pos rfl, if_pos rfl]
      · rw [er, ev_RR, if_pos rfl, if_neg (by decide), ev_RI, ev_RR, if_pos rfl, if_pos rfl]
      · rw [er, ev_RR, if_neg (by decide)]
        show pm_R (pm_setR (pm_setR r2 594 cnt (some m)) 592 5 none) 594 k = _
        rw [ev_RR, if_neg (by decide), ev_RR, if_pos rfl, R2]
      · refine ⟨b, eo, el, ⟨by rw [rk]; exact km, (rR m 0 m5 (by omega)).trans rb, by rw [rk]; exact kb, by rw [rl]; exact lb, fun i hi => by rw [IA b i (by omega) (by omega) (by omega)]; exact c9 i hi⟩, ⟨fun y hy => (rR m y m5 (by omega)).trans (P.1 y hy), fun j h1 h2 => by rw [rk, rl]; exact P.2 j h1 h2⟩, mD_k (fun x y hx => IA x y (by omega) (by omega) (by omega)) (fun x y hx => by rw [rL, F2.2.2.2.2.2 x y (by unfold vAL; omega), L1]) D, ⟨(rR m 56 m5 (by omega)).trans reo, by rw [rk]; exact keo, by rw [rl]; exact leo⟩, ⟨(rR m 57 m5 (by omega)).trans rel, by rw [rk]; exact kel, by rw [rl]; exact lel⟩, ⟨hm, hb, heo, hel, by rw [GA.1]; exact hsz⟩, fun i v hv => ?_⟩
        rw [rI (m + 39) i (by omega)]
        exact ops i v hv
end RRUN
