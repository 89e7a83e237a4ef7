/-! THE REFERENCE CHECKS: isNamed -/
theorem v_wid : ∀ c : Fin 256, fX16_widthOf (Int32.ofNat c.val) = Int32.ofNat (kWid c.val) ∧ kWid c.val ≤ 3 := by decide +kernel
theorem blk_t {B : Nat → Nat} {n p p' : Nat} {t : Int64} (q : sp_blk B n p = .inr (t, p')) : 0 ≤ t ∨ ∃ c : Nat, (c = 64 ∨ isT c) ∧ t = Int64.ofInt ((c : Int) - 128) := by
  unfold sp_blk at q
  by_cases c : p < n ∧ (B p = 64 ∨ sp_isT (B p) = true)
  · rw [if_pos c] at q
    cases q
    exact .inr ⟨B p, c.2, rfl⟩
  · rw [if_neg c] at q
    obtain ⟨t1, p1, e1, e2⟩ := b_inv q
    by_cases z : 0 ≤ t1
    · rw [if_pos z] at e2; cases e2; exact .inl z
    · rw [if_neg z] at e2; cases e2
theorem isR_lt {x : Nat} (h : isRf x) : x < 128 := by
  have h : sp_isR x = true := h
  unfold sp_isR at h
  simp only [Bool.or_eq_true, beq_iff_eq] at h
  omega
def kN53 (M : tMd) (Dc : Nat → Bool) (lt : Nat → Option Nat) (k x y : Nat) : Bool := if k < 8 then true else (kSg M Dc lt (300 + k) x y).isSome
theorem n53 {M : tMd} {Dc : Nat → Bool} {lt : Nat → Option Nat} {k x y : Nat} (h : 8 ≤ k) : kN53 M Dc lt k x y = (kSg M Dc lt (300 + k) x y).isSome := if_neg (by omega)
theorem n53' {M : tMd} {Dc : Nat → Bool} {lt : Nat → Option Nat} {k x y : Nat} (h : k < 8) : kN53 M Dc lt k x y = true := if_pos h
theorem iN_f : iN false = 0 := rfl
theorem iN_t : iN true = 1 := rfl
section VNM
variable {h : pm_H} {n b m eo el p p2 b' t : Nat} {B : Nat → Nat} {M : tMd} {K : tK} {D : Bool} {Dc : Nat → Bool} {a : tBo} {v : sp_I} {lt : Nat → Option Nat}
theorem vC_lk (C : vC h n b m eo el B M) (x : Nat) : vC (lk h x) n b m eo el B M := vC_F C (vF_lk h _)
theorem lk_I {x y z : Nat} (hx : x ≠ 592) : pm_I (lk h z) x y = pm_I h x y := by rw [ev_II, if_neg hx]
theorem lk_y {y z : Nat} (hy : y ≠ 19) : pm_I (lk h z) 592 y = pm_I h 592 y := by rw [ev_II, if_pos rfl, if_neg hy]
theorem v_b53 (C : vC h n b m eo el B M) (G : vG B n D M) {k x y : Nat} (hk : k ≤ 17) (hx : x < 4294967296) (hy : y < 4294967296) (z : Nat) : fX16_isNamedFurther_b53 (lk h z) 592 (Int32.ofNat k) (Int64.ofNat x) (Int64.ofNat y) = some (iN (kN53 M Dc lt k x y), lk h z) := by
  have L := vG_L G
  have SL := sp_len L
  have hK := G.1.2.1
  have CL := vC_lk C z
  obtain ⟨a0, a1, a2, a3⟩ := v_all CL L hK
  obtain ⟨S, P, Dm, -⟩ := CL
  have N : ∀ j, j < 100 → k ≠ j → ¬ Int32.ofNat k = Int32.ofNat j := fun j hj z => by rw [nn_eq (by omega) (by omega)]; exact z
  have L8 := L.2.2.2.2.2.2.2
  have L7 := L.2.2.2.2.2.2.1
  have i44 : (pm_I (lk h z) m 44).toInt64 = Int64.ofNat M.2.2.2.2.2.2.2.2.1.length := by
    have := Dm.2.2.2.2.2.2.2.2.1.2.1
    rw [k64_i L8] at this
    rw [this, nn_t6 (by omega)]
  have i34 : (pm_I (lk h z) m 34).toInt64 = Int64.ofNat M.2.2.2.2.2.2.2.1.length := by
    have := Dm.2.2.2.2.2.2.2.1.2.1
    rw [k64_i L7] at this
    rw [this, nn_t6 (by omega)]
  have t1 : (Int32.ofNat (spT M).length).toInt64 = Int64.ofNat (spT M).length := nn_t6 (by omega)
  unfold fX16_isNamedFurther_b53
  by_cases k8 : k = 8
  · rw [n53 (by omega), sg_308 (by omega)]
    refine e9_t (by rw [k8]; rfl) (e9_t S.1 (e9_b S.2.1 (e9_t S.2.2.1 ?_)))
    by_cases c : x < M.2.2.2.2.2.2.2.2.1.length
    · refine e9_f (by rw [i44, ll_le (by omega) (by omega)]; omega) (e9_b a2 ?_)
      rw [e9_ps (lk h z) rfl (show (spM M).length < 2147483648 by omega)]
      by_cases d : 0 < (spM M).length
      · rw [if_pos ⟨c, d⟩, decide_eq_true d]; rfl
      · rw [if_neg (fun y => d y.2), decide_eq_false d]; rfl
    · refine e9_t (by rw [i44, ll_le (by omega) (by omega)]; omega) ?_
      rw [if_neg (fun y => c y.1)]
      rfl
  refine e9_f (N 8 (by decide) k8) ?_
  by_cases k9 : k = 9
  · rw [n53 (by omega), sg_309 (by omega)]
    refine e9_t (by rw [k9]; rfl) (e9_t S.1 (e9_b S.2.1 (e9_t S.2.2.1 ?_)))
    rw [e9_cmp (lk h z) i44 rfl (by omega) hx]
    by_cases c : x < M.2.2.2.2.2.2.2.2.1.length
    · rw [if_pos c, decide_eq_true c]; rfl
    · rw [if_neg c, decide_eq_false c]; rfl
  refine e9_f (N 9 (by decide) k9) ?_
  have mem : (fX14_all (lk h z) m 2).bind (fun v35 => if v35 ≤ 0 then some ((0 : Int32), lk h z) else some (1, lk h z)) = some (iN ((if 0 < (spM M).length then some (127, 127, 127, 0) else none : Option (Nat × Nat × Nat × Nat)).isSome), lk h z) := by
    refine e9_b a2 ?_
    rw [e9_ps (lk h z) rfl (show (spM M).length < 2147483648 by omega)]
    by_cases d : 0 < (spM M).length
    · rw [if_pos d, decide_eq_true d]; rfl
    · rw [if_neg d, decide_eq_false d]; rfl
  by_cases k10 : k = 10
  · rw [n53 (by omega), sg_310 (by omega)]
    exact e9_t (by rw [k10]; rfl) (e9_t S.1 (e9_b S.2.1 (e9_t S.2.2.1 mem)))
  refine e9_f (N 10 (by decide) k10) ?_
  by_cases k11 : k = 11
  · rw [n53 (by omega), sg_310 (by omega)]
    exact e9_t (by rw [k11]; rfl) (e9_t S.1 (e9_b S.2.1 (e9_t S.2.2.1 mem)))
  refine e9_f (N 11 (by decide) k11) ?_
  by_cases k12 : k = 12
  · rw [n53 (by omega), sg_312 (by omega)]
    refine e9_t (by rw [k12]; rfl) (e9_t S.1 (e9_b S.2.1 (e9_t S.2.2.1 ?_)))
    cases ex : M.2.2.2.2.2.2.2.1[x]? with
    | none =>
      have c : M.2.2.2.2.2.2.2.1.length ≤ x := List.getElem?_eq_none_iff.mp ex
      exact e9_t (by rw [i34, ll_le (by omega) (by omega)]; omega) rfl
    | some e =>
      have c := some_lt ex
      refine e9_f (by rw [i34, ll_le (by omega) (by omega)]; omega) (e9_b a1 ?_)
      cases ey : (spT M)[y]? with
      | none =>
        have d : (spT M).length ≤ y := List.getElem?_eq_none_iff.mp ey
        exact e9_t (by rw [t1, ll_le (by omega) (by omega)]; omega) rfl
      | some f =>
        have d := some_lt ey
        have tt := v_tyT (vC_lk C z) L hK ey
        have pe := (Dm.2.2.2.2.2.2.2.1.1 L7 x e ex (by omega)).2.2.2.1
        have ge : isRf e.2.2.1.1 := (G.1.2.2.2.2.2.2.2.1 e (List.mem_of_getElem? ex)).2.2.2.2.1
        have gl := isR_u ge
        refine e9_f (by rw [t1, ll_le (by omega) (by omega)]; omega) (e9_b (show pm_R (lk h z) m 38 = some (m + 26) from P.1 38 (by decide)) (e9_t (P.2 26 (by decide) (by decide)).1 (e9_t ?_ ?_)))
        · rw [(P.2 26 (by decide) (by decide)).2, ll_t3, nn_in (by omega)]; show x < 64; omega
        · rw [ll_t3, ll_t3]
          refine e9_b tt ?_
          have fl : f.2.1 < 4294967296 := by
            rcases app_some (show (ofK 1 M.2.1 ++ M.2.2.2.1.map _)[y]? = some f from ey) with ⟨h1, h2⟩ | ⟨h1, h2⟩
            · exact (hK f (List.mem_filter.mp (show f ∈ M.2.1.filter _ from List.mem_of_getElem? h2)).1).2.1
            · obtain ⟨w, e1, e2⟩ := map_some h2
              rw [← e2]
              exact isR_u (G.1.2.2.2.1 w (List.mem_of_getElem? e1)).1
          show (if pm_I (lk h z) (m + 26) (Int32.ofNat x).toNatClampNeg = Int32.ofNat f.2.1 then _ else _) = some (iN (Option.isSome (if e.2.2.1.1 = f.2.1 then some (127, 127, 127, 0) else none)), lk h z)
          have eq : (pm_I (lk h z) (m + 26) (Int32.ofNat x).toNatClampNeg = Int32.ofNat f.2.1) ↔ e.2.2.1.1 = f.2.1 := by
            rw [nn_cm (by omega), pe]
            exact ⟨fun q => by
              have := congrArg Int32.toNatClampNeg q
              have g8 := isR_lt ge
              have f8 : f.2.1 < 4294967296 := fl
              have q2 : (Int32.ofNat e.2.2.1.1).toBitVec = (Int32.ofNat f.2.1).toBitVec := congrArg Int32.toBitVec q
              have q3 : e.2.2.1.1 % 4294967296 = f.2.1 % 4294967296 := congrArg BitVec.toNat q2
              omega, fun q => by rw [q]⟩
          by_cases w : e.2.2.1.1 = f.2.1
          · refine e9_t (eq.mpr w) ?_
            rw [if_pos w]; rfl
          · refine e9_f (fun q => w (eq.mp q)) ?_
            rw [if_neg w]; rfl
  refine e9_f (N 12 (by decide) k12) ?_
  by_cases k13 : k = 13
  · rw [n53 (by omega), sg_313 (by omega)]
    refine e9_t (by rw [k13]; rfl) (e9_t S.1 (e9_b S.2.1 (e9_t S.2.2.1 ?_)))
    rw [e9_cmp (lk h z) i34 rfl (by omega) hx]
    by_cases c : x < M.2.2.2.2.2.2.2.1.length
    · rw [if_pos c, decide_eq_true c]; rfl
    · rw [if_neg c, decide_eq_false c]; rfl
  refine e9_f (N 13 (by decide) k13) ?_
  have tl : ∀ {w : Nat} {f : tImp}, (spT M)[w]? = some f → f.2.1 < 4294967296 := fun {w} {f} ey => by
    rcases app_some (show (ofK 1 M.2.1 ++ M.2.2.2.1.map _)[w]? = some f from ey) with ⟨h1, h2⟩ | ⟨h1, h2⟩
    · exact (hK f (List.mem_filter.mp (show f ∈ M.2.1.filter _ from List.mem_of_getElem? h2)).1).2.1
    · obtain ⟨w, e1, e2⟩ := map_some h2
      rw [← e2]
      exact isR_u (G.1.2.2.2.1 w (List.mem_of_getElem? e1)).1
  by_cases k14 : k = 14
  · rw [n53 (by omega), sg_314 (by omega)]
    refine e9_t (by rw [k14]; rfl) (e9_t S.1 (e9_b S.2.1 (e9_t S.2.2.1 (e9_b a1 ?_))))
    cases ex : (spT M)[x]? with
    | none =>
      have c : (spT M).length ≤ x := List.getElem?_eq_none_iff.mp ex
      exact e9_t (by rw [t1, ll_le (by omega) (by omega)]; omega) rfl
    | some e =>
      have c := some_lt ex
      refine e9_f (by rw [t1, ll_le (by omega) (by omega)]; omega) (e9_b a1 ?_)
      cases ey : (spT M)[y]? with
      | none =>
        have d : (spT M).length ≤ y := List.getElem?_eq_none_iff.mp ey
        exact e9_t (by rw [t1, ll_le (by omega) (by omega)]; omega) rfl
      | some f =>
        have d := some_lt ey
        refine e9_f (by rw [t1, ll_le (by omega) (by omega)]; omega) ?_
        rw [ll_t3, ll_t3]
        refine e9_b (v_tyT (vC_lk C z) L hK ex) (e9_b (v_tyT (vC_lk C z) L hK ey) ?_)
        show (if Int32.ofNat e.2.1 = Int32.ofNat f.2.1 then _ else _) = some (iN (Option.isSome (if e.2.1 = f.2.1 then some (127, 127, 127, 0) else none)), lk h z)
        have e8 := tl ex
        have f8 := tl ey
        have eq : (Int32.ofNat e.2.1 = Int32.ofNat f.2.1) ↔ e.2.1 = f.2.1 := ⟨fun q => by
          have q3 : e.2.1 % 4294967296 = f.2.1 % 4294967296 := congrArg BitVec.toNat (congrArg Int32.toBitVec q)
          omega, fun q => by rw [q]⟩
        by_cases w : e.2.1 = f.2.1
        · refine e9_t (eq.mpr w) ?_
          rw [if_pos w]; rfl
        · refine e9_f (fun q => w (eq.mp q)) ?_
          rw [if_neg w]; rfl
  refine e9_f (N 14 (by decide) k14) ?_
  have tab : 15 ≤ k → (fX14_all (lk h z) m 1).bind (fun v => if v.toInt64 ≤ Int64.ofNat x then some ((0 : Int32), lk h z) else some (1, lk h z)) = some (iN (kN53 M Dc lt k x y), lk h z) := fun k15 => by
    rw [n53 (by omega), sg_315 (by omega)]
    refine e9_b a1 ?_
    rw [e9_cmp (lk h z) t1 rfl (by omega) hx]
    cases ex : (spT M)[x]? with
    | none => rw [decide_eq_false (Nat.not_lt.mpr (List.getElem?_eq_none_iff.mp ex))]; rfl
    | some e =>
      rw [decide_eq_true (some_lt ex)]
      show _ = some (iN (Option.isSome (if 300 + k = 315 then some (127, e.2.1, 0, 127) else if 300 + k = 316 then some (0, 0, 0, 127) else some (127, e.2.1, 127, 0))), lk h z)
      split
      · rfl
      · split <;> rfl
  by_cases k15 : k = 15
  · exact e9_t (by rw [k15]; rfl) (e9_t S.1 (e9_b S.2.1 (e9_t S.2.2.1 (tab (by omega)))))
  refine e9_f (N 15 (by decide) k15) ?_
  by_cases k16 : k = 16
  · exact e9_t (by rw [k16]; rfl) (e9_t S.1 (e9_b S.2.1 (e9_t S.2.2.1 (tab (by omega)))))
  refine e9_f (N 16 (by decide) k16) ?_
  by_cases k17 : k = 17
  · exact e9_t (by rw [k17]; rfl) (e9_t S.1 (e9_b S.2.1 (e9_t S.2.2.1 (tab (by omega)))))
  refine e9_f (N 17 (by decide) k17) ?_
  rw [n53' (by omega)]
  rfl
theorem v_fur (C : vC h n b m eo el B M) (G : vG B n D M) {w : sp_I} {p0 : Nat} (q : sp_fur B n D p0 p = .inr (w, p2)) (K : tK) : ∃ x, fX16_isNamedFurther (lk h p) 592 = some (iN (kNm B n M Dc lt w K), lk h x) := by
  have hB := C.1.2.2.2.2.2.2.2.2.2
  obtain ⟨k, p1, k17, e1, f1, f2, f3, f4⟩ := fur_k hB q
  have N : ∀ j, j < 100 → k ≠ j → ¬ Int32.ofNat k = Int32.ofNat j := fun j hj z => by rw [nn_eq (by omega) (by omega)]; exact z
  have k9 : k < 8 ∨ (k = 10 ∨ k = 11) ∨ (k = 12 ∨ k = 14) ∨ (k = 8 ∨ k = 9 ∨ k = 13 ∨ 15 ≤ k) := by omega
  unfold fX16_isNamedFurther
  have nm : ∀ (x y : Nat), x < 4294967296 → y < 4294967296 → w = (300 + k, Int64.ofNat x, Int64.ofNat y, false) → 8 ≤ k → kNm B n M Dc lt w K = (kN53 M Dc lt k x y) := fun x y hx hy e hk => by
    rw [e, nm_s (v := (300 + k, Int64.ofNat x, Int64.ofNat y, false)) (show 300 + k = 28 ∨ (32 ≤ 300 + k ∧ 300 + k ≤ 64) ∨ (69 ≤ 300 + k ∧ 300 + k < 208) ∨ 210 ≤ 300 + k by omega), n53 hk]
    show (kSg M Dc lt (300 + k) (Int64.ofNat x).toNatClampNeg (Int64.ofNat y).toNatClampNeg).isSome = _
    rw [ll_cm (by omega), ll_cm (by omega)]
  have b24 : ∀ x p3, (k ≠ 12 ∧ k ≠ 14) → 8 ≤ k → x < 4294967296 → sp_num B n p1 = .inr (x, p3) → w = (300 + k, Int64.ofNat x, 0, false) → ∃ x, fX16_isNamedFurther_b24 (lk h p1) 592 (Int32.ofNat k) = some (iN (kNm B n M Dc lt w K), lk h x) := fun x p3 hk h8 hx e3 ew => by
    refine ⟨p3, ?_⟩
    unfold fX16_isNamedFurther_b24 fX16_isNamedFurther_b32
    refine e9_t C.1.1 (e9_b (mw_word C.1 (Nat.le_refl n) e3) (e9_f (N 12 (by decide) hk.1) (e9_f (N 14 (by decide) hk.2) ?_)))
    rw [nm x 0 hx (by decide) ew h8]
    exact v_b53 C G k17 hx (by decide) p3
  have hd : ∀ (R : Option (Int32 × pm_H)), (∃ x, fX16_isNamedFurther_b24 (lk h p1) 592 (Int32.ofNat k) = some (iN (kNm B n M Dc lt w K), lk h x)) → (k = 8 ∨ k = 9 ∨ 11 < k) → ∃ x, (if Int32.ofNat k = 8 then (fX16_isNamedFurther_b24 (lk h p1) 592 (Int32.ofNat k)) else (if Int32.ofNat k = 9 then (fX16_isNamedFurther_b24 (lk h p1) 592 (Int32.ofNat k)) else (if Int32.ofNat k ≤ 11 then (fX16_isNamedFurther_b32 (lk h p1) 592 (Int32.ofNat k) 0) else (fX16_isNamedFurther_b24 (lk h p1) 592 (Int32.ofNat k))))) = some (iN (kNm B n M Dc lt w K), lk h x) := fun R ⟨x, hx⟩ hk => by
    refine ⟨x, ?_⟩
    by_cases c8 : k = 8
    · exact e9_t (by rw [c8]; rfl) hx
    refine e9_f (N 8 (by decide) c8) ?_
    by_cases c9 : k = 9
    · exact e9_t (by rw [c9]; rfl) hx
    exact e9_f (N 9 (by decide) c9) (e9_f (show ¬ Int32.ofNat k ≤ Int32.ofNat 11 by rw [nn_le (by omega) (by decide)]; omega) hx)
  have st : ∀ R, (∃ x, R = some (iN (kNm B n M Dc lt w K), lk h x)) → (if Int32.ofNat k = 8 then (fX16_isNamedFurther_b24 (lk h p1) 592 (Int32.ofNat k)) else (if Int32.ofNat k = 9 then (fX16_isNamedFurther_b24 (lk h p1) 592 (Int32.ofNat k)) else (if Int32.ofNat k ≤ 11 then (fX16_isNamedFurther_b32 (lk h p1) 592 (Int32.ofNat k) 0) else (fX16_isNamedFurther_b24 (lk h p1) 592 (Int32.ofNat k))))) = R → ∃ x, (if pm_kd (lk h p) 592 = 16 then (fX16_word (lk h p) 592).bind fun v2 => if v2.1.toInt32 = 8 then (fX16_isNamedFurther_b24 v2.2 592 v2.1.toInt32) else (if v2.1.toInt32 = 9 then (fX16_isNamedFurther_b24 v2.2 592 v2.1.toInt32) else (if v2.1.toInt32 ≤ 11 then (fX16_isNamedFurther_b32 v2.2 592 v2.1.toInt32 0) else (fX16_isNamedFurther_b24 v2.2 592 v2.1.toInt32))) else none) = some (iN (kNm B n M Dc lt w K), lk h x) := fun R ⟨x, hx⟩ e => by
    refine ⟨x, e9_t C.1.1 (e9_b (mw_word C.1 (Nat.le_refl n) e1) ?_)⟩
    rw [ll_t3, e, hx]
  have b32 : (k < 8 ∨ k = 10 ∨ k = 11) → (kNm B n M Dc lt w K = kN53 M Dc lt k 0 0) → ∃ x, (if Int32.ofNat k = 8 then (fX16_isNamedFurther_b24 (lk h p1) 592 (Int32.ofNat k)) else (if Int32.ofNat k = 9 then (fX16_isNamedFurther_b24 (lk h p1) 592 (Int32.ofNat k)) else (if Int32.ofNat k ≤ 11 then (fX16_isNamedFurther_b32 (lk h p1) 592 (Int32.ofNat k) 0) else (fX16_isNamedFurther_b24 (lk h p1) 592 (Int32.ofNat k))))) = some (iN (kNm B n M Dc lt w K), lk h x) := fun hk e => by
    refine ⟨p1, e9_f (N 8 (by decide) (by omega)) (e9_f (N 9 (by decide) (by omega)) (e9_t (show Int32.ofNat k ≤ Int32.ofNat 11 by rw [nn_le (by omega) (by decide)]; omega) ?_))⟩
    unfold fX16_isNamedFurther_b32
    refine e9_f (N 12 (by decide) (by omega)) (e9_f (N 14 (by decide) (by omega)) ?_)
    rw [e]
    exact v_b53 C G k17 (by decide) (by decide) p1
  rcases k9 with z | z | z | z
  · refine st _ (b32 (.inl z) ?_) rfl
    rw [f1 z, n53' z]
    rw [nm_s (v := (200 + k, 0, 0, false)) (show 200 + k = 28 ∨ (32 ≤ 200 + k ∧ 200 + k ≤ 64) ∨ (69 ≤ 200 + k ∧ 200 + k < 208) ∨ 210 ≤ 200 + k by omega)]
    show (kSg M Dc lt (200 + k) _ _).isSome = true
    rw [sg_opr (by omega)]
    rfl
  · exact st _ (b32 (.inr z) (nm 0 0 (by decide) (by decide) (f2 z) (by omega))) rfl
  · obtain ⟨x, y, p3, p4, hx, hy, e3, e4, ew⟩ := f3 z
    refine st _ (hd none ?_ (by omega)) rfl
    refine ⟨p4, ?_⟩
    unfold fX16_isNamedFurther_b24
    refine e9_t C.1.1 (e9_b (mw_word C.1 (Nat.le_refl n) e3) ?_)
    have b45 : fX16_isNamedFurther_b45 (lk h p3) 592 (Int32.ofNat k) (Int64.ofNat x) = some (iN (kNm B n M Dc lt w K), lk h p4) := by
      unfold fX16_isNamedFurther_b45
      refine e9_t C.1.1 (e9_b (mw_word C.1 (Nat.le_refl n) e4) ?_)
      rw [nm x y hx hy ew (by omega)]
      exact v_b53 C G k17 hx hy p4
    unfold fX16_isNamedFurther_b32
    rcases z with z | z
    · exact e9_t (by rw [z]; rfl) b45
    · exact e9_f (N 12 (by decide) (by omega)) (e9_t (by rw [z]; rfl) b45)
  · obtain ⟨x, p3, hx, e3, ew⟩ := f4 z
    exact st _ (hd none (b24 x p3 (by omega) (by omega) hx e3 ew) (by omega)) rfl
end VNM
