/-! THE CLASS CHECKS: check() from its beginning -/
/-- what stands when check() is called: the module mm was read; the Reader is on it -/
def xP (h : pm_H) (n b mm lo hi : Nat) (B : Nat → Nat) (M : tMd) (D : Bool) : Prop := cS h n b mm B ∧ cMx h mm lo hi 0 M ∧ (pm_kd h 22 = 1 ∧ pm_R h 22 3 = some 19) ∧ (648 < mm ∧ mm < b ∧ b < lo ∧ lo < hi ∧ hi ≤ pm_sz h) ∧ (0 ≤ pm_L h mm 14) = (D = true) ∧ hNb h n b B
/-- the heap at the first clause -/
def hCk (h : pm_H) (mm nf : Nat) : pm_H := pm_setR (pm_new (pm_setI (pm_setI (pm_setR h 22 2 (some mm)) 22 0 0) 22 1 (-1)) 32 nf) 22 4 (some (pm_sz h))
section XCHK
variable {h r : pm_H} {n b mm lo hi dd : Nat} {B : Nat → Nat} {M : tMd} {D : Bool} {L : List Nat} {w : Nat × Nat} {nf : Nat} {h0 : pm_H}
theorem hCk_E (h : pm_H) (mm nf x : Nat) (h1 : x < pm_sz h) (h2 : x ≠ 22) : pe_E h (hCk h mm nf) x := by
  have ne : x ≠ pm_sz h := by omega
  refine ⟨?_, ?_, fun y => ?_, fun y => ?_, fun y => ?_⟩
  · show (if x = pm_sz h then _ else pm_kd h x) = _
    rw [if_neg ne]
  · show (if x = pm_sz h then _ else pm_ln h x) = _
    rw [if_neg ne]
  · show (if x = pm_sz h then _ else (if x = 22 then _ else (if x = 22 then _ else pm_I h x y))) = _
    rw [if_neg ne, if_neg h2, if_neg h2]
  · show (if x = pm_sz h then _ else pm_L h x y) = _
    rw [if_neg ne]
  · show (if x = 22 then _ else (if x = pm_sz h then _ else (if x = 22 then _ else pm_R h x y))) = _
    rw [if_neg h2, if_neg ne, if_neg h2]
theorem hCk_22 (h : pm_H) (mm nf : Nat) (h1 : 22 < pm_sz h) : pm_sz (hCk h mm nf) = pm_sz h + 1 ∧ pm_kd (hCk h mm nf) 22 = pm_kd h 22 ∧ pm_ln (hCk h mm nf) 22 = pm_ln h 22 ∧ (∀ y, pm_R (hCk h mm nf) 22 y = if y = 4 then some (pm_sz h) else if y = 2 then some mm else pm_R h 22 y) ∧ (∀ y, pm_I (hCk h mm nf) 22 y = if y = 1 then -1 else if y = 0 then 0 else pm_I h 22 y) ∧ pm_kd (hCk h mm nf) (pm_sz h) = 32 ∧ pm_ln (hCk h mm nf) (pm_sz h) = nf ∧ (∀ y, pm_I (hCk h mm nf) (pm_sz h) y = 0) := by
  have ne : (22 : Nat) ≠ pm_sz h := by omega
  refine ⟨rfl, ?_, ?_, fun y => ?_, fun y => ?_, ?_, ?_, fun y => ?_⟩
  · show (if 22 = pm_sz h then _ else pm_kd h 22) = _
    rw [if_neg ne]
  · show (if 22 = pm_sz h then _ else pm_ln h 22) = _
    rw [if_neg ne]
  · show (if 22 = 22 then (if y = 4 then some (pm_sz h) else (if 22 = pm_sz h then none else (if 22 = 22 then (if y = 2 then some mm else pm_R h 22 y) else pm_R h 22 y))) else pm_R h 22 y) = _
    rw [if_pos rfl, if_neg ne, if_pos rfl]
  · show (if 22 = pm_sz h then 0 else (if 22 = 22 then (if y = 1 then -1 else (if 22 = 22 then (if y = 0 then 0 else pm_I h 22 y) else pm_I h 22 y)) else pm_I h 22 y)) = _
    rw [if_neg ne, if_pos rfl, if_pos rfl]
  · show (if pm_sz h = pm_sz h then 32 else _) = _
    rw [if_pos rfl]
  · show (if pm_sz h = pm_sz h then nf else _) = _
    rw [if_pos rfl]
  · show (if pm_sz h = pm_sz h then 0 else _) = _
    rw [if_pos rfl]
theorem yC_0 (P : xP h n b mm lo hi B M D) : yC (hCk h mm (spF M).length) n b mm lo hi (pm_sz h) B M D ∧ yS (hCk h mm (spF M).length) (pm_sz h) (spF M).length none [] (hCk h mm (spF M).length) ∧ hNb (hCk h mm (spF M).length) n b B := by
  obtain ⟨S, C, ⟨k1, k3⟩, ⟨a1, a2, a3, a4, a5⟩, dt, N⟩ := P
  obtain ⟨z, kd, ln, rr, ii, d1, d2, d3⟩ := hCk_22 h mm (spF M).length (by omega)
  have E := fun x h1 h2 => hCk_E h mm (spF M).length x h1 h2
  have K : kC lo hi h (hCk h mm (spF M).length) := fun x h1 h2 => by
    obtain ⟨e1, e2, e3, e4, e5⟩ := E x (by omega) (by omega)
    exact ⟨e1, e2, funext e3, funext e4, funext e5⟩
  have em := E mm (by omega) (by omega)
  have e19 := E 19 (by omega) (by decide)
  have eb := E b (by omega) (by omega)
  refine ⟨⟨⟨?_, cMx_k K (Nat.le_refl _) (.inl rfl) (fun j s _ _ _ => em.2.2.2.2 j) (by decide) (em.2.2.2.1 13) (em.2.2.2.1 14) C, ⟨kd.trans k1, by rw [rr]; rfl, by rw [rr]; exact k3⟩, a1, a2, a3, a4⟩, ⟨by rw [rr]; rfl, d1, d2⟩, a5, by rw [em.2.2.2.1 14]; exact dt⟩, ⟨gF_r _ _ _, by rw [ii]; rfl, fun i hi => ?_⟩, fun i j hi hj => by rw [eb.2.2.1, eb.2.2.1]; exact N i j hi hj⟩
  · obtain ⟨s1, s2, s3, s4, s5, s6, s7, s8, s9, s10⟩ := S
    exact ⟨e19.1.trans s1, (e19.2.2.2.2 0).trans s2, em.1.trans s3, (em.2.2.2.2 0).trans s4, eb.1.trans s5, eb.2.1.trans s6, s7, s8, fun i hi => by rw [eb.2.2.1]; exact s9 i hi, s10⟩
  · rw [d3]
    show (0 = 0) = (decide (i ∈ []) = false)
    exact propext ⟨fun _ => decide_eq_false List.not_mem_nil, fun _ => rfl⟩
/-- dead: all clauses are passed over -/
theorem b37_d (X : yC h0 n b mm lo hi dd B M D) (S : yS h0 dd nf (some w) L r) : fX1_check_b37 r 22 = some r := by
  have q1 := (yC_F X S.1).1.2.2.1.1
  have z1 : 0 < w.1 ∧ w.1 < 100 := S.2.1
  have z2 : pm_I r 22 0 = Int32.ofNat w.1 := S.2.2.1
  have z : ¬ pm_I r 22 0 = 0 := by rw [z2, n3_0, nn_eq (by omega) (by decide)]; omega
  unfold fX1_check_b37 fX1_check_b48 fX1_check_b59 fX1_check_b70 fX1_check_b81 fX1_check_b92 fX1_check_b103 fX1_check_b114 fX1_check_b125
  exact e9_t q1 (e9_f z (e9_t q1 (e9_f z (e9_t q1 (e9_f z (e9_t q1 (e9_f z (e9_t q1 (e9_f z (e9_t q1 (e9_f z (e9_t q1 (e9_f z (e9_t q1 (e9_f z (e9_t q1 (e9_f z rfl)))))))))))))))))
theorem x_ck0 (P : xP h n b mm lo hi B M D) (x : Int32) : fX1_check h 22 mm x = if x < 0 then fX1_check_b37 (hCk h mm (spF M).length) 22 else (fX1_failAt (hCk h mm (spF M).length) 22 40 x).bind fun v9 => fX1_check_b37 v9 22 := by
  obtain ⟨S, C, ⟨k1, k3⟩, ⟨a1, a2, a3, a4, a5⟩, dt, N⟩ := id P
  have X := (yC_0 P).1.1
  have Af := C.2.2.1 (by decide)
  have km : pm_kd (pm_setI (pm_setI (pm_setR h 22 2 (some mm)) 22 0 0) 22 1 (-1)) mm = 7 := S.2.2.1
  have cn : fX7_count (pm_setI (pm_setI (pm_setR h 22 2 (some mm)) 22 0 0) 22 1 (-1)) mm 0 = some (Int32.ofNat (spF M).length) := by
    refine m_cnt (k := 0) km (by decide) (lo := lo + 1) (hi := hi) (P := fun _ _ _ _ => True) ?_
    obtain ⟨x, b1, b2, b3, b4, b5, b6, b7⟩ := Af
    exact ⟨x, by rw [show pm_R (pm_setI (pm_setI (pm_setR h 22 2 (some mm)) 22 0 0) 22 1 (-1)) mm (4 + 0) = if mm = 22 then _ else pm_R h mm 4 from rfl, if_neg (by omega)]; exact b1, b2, b3, b4, b5, b6, fun _ _ _ => trivial⟩
  have l8 : (spF M).length ≤ 81920 := by obtain ⟨x, -, -, -, -, -, a, -⟩ := Af; exact a
  have e : ∀ {Y : Option pm_H}, fX1_check_b23 (pm_new (pm_setI (pm_setI (pm_setR h 22 2 (some mm)) 22 0 0) 22 1 (-1)) 32 (spF M).length) 22 x (pm_sz h) 22 = Y → fX1_check h 22 mm x = Y := fun {Y} H => by
    unfold fX1_check fX1_check_b0
    refine e9_t k1 (e9_t km (e9_b cn (e9_t ⟨by rw [n3_0, nn_lt (by omega) (by decide)]; omega, by rw [nn_cm (by omega)]; omega⟩ ?_)))
    rw [nn_cm (by omega)]
    exact H
  refine e ?_
  unfold fX1_check_b23
  refine e9_t X.2.2.1.1 ?_
  by_cases c : x < 0
  · exact (e9_t c rfl).trans (e9_t c rfl).symm
  · exact (e9_f c (e9_t X.2.2.1.1 rfl)).trans (e9_f c rfl).symm
theorem x_ckL (P : xP h n b mm lo hi B M D) {pl : Nat} (hp : pl < 2147483648) : ∃ r', fX1_check h 22 mm (Int32.ofNat pl) = some r' ∧ yS (hCk h mm (spF M).length) (pm_sz h) (spF M).length (some (40, pl)) L r' := by
  obtain ⟨X, S, -⟩ := yC_0 P
  obtain ⟨r1, e1, S1, -⟩ := y_fa (w := 40) (p := pl) (L' := L) X S ⟨by decide, by decide⟩
  refine ⟨r1, ?_, S1⟩
  rw [x_ck0 P, if_neg (by rw [n3_0, nn_lt hp (by decide)]; omega)]
  exact e9_b e1 (b37_d X S1)
theorem x_ckN (P : xP h n b mm lo hi B M D) (g : vG B n D M) (g8 : gdS M) (gi : gIv n M) : ∃ r', yS (hCk h mm (spF M).length) (pm_sz h) (spF M).length (sp_ck0 B n D M) (dAll B n D M) r' ∧ fX1_check h 22 mm (-1) = if sp_ck0 B n D M = none then fX1_makeBodies r' 22 else some r' := by
  obtain ⟨X, S, N⟩ := yC_0 P
  obtain ⟨r1, S1, k1⟩ := x_row X N g g8 gi S
  refine ⟨r1, S1, ?_⟩
  rw [x_ck0 P, if_pos (by decide)]
  refine k1 ?_
  have q1 := (yC_F X S1.1).1.2.2.1.1
  unfold fX1_check_b125
  cases ho : sp_ck0 B n D M with
  | none =>
    rw [ho] at S1
    rw [if_pos rfl]
    refine e9_t q1 (e9_t S1.2.1 ?_)
    cases fX1_makeBodies r1 22 <;> rfl
  | some w =>
    rw [ho] at S1
    have z1 : 0 < w.1 ∧ w.1 < 100 := S1.2.1
    have z2 : pm_I r1 22 0 = Int32.ofNat w.1 := S1.2.2.1
    refine Eq.trans ?_ (e9_f (show ¬ some w = none from fun h => nomatch h) rfl).symm
    exact e9_t q1 (e9_f (by rw [z2, n3_0, nn_eq (by omega) (by decide)]; omega) rfl)
end XCHK
