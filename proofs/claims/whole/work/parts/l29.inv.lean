/-! CHECKING: what an instruction leaves of what is known (the same for both programs) -/
def kB (t : Nat) (K : tK) : Prop := 0 < K.2.1.length → (K.2.1.getD (K.2.1.length - 1) lb0).2.1 = Int64.ofNat t
section KINV
variable {B : Nat → Nat} {n p p2 t x : Nat} {D : Bool} {M : tMd} {K K' : tK} {v : sp_I} {s : Nat × Nat × Nat × Nat} {lt : Nat → Option Nat} {Dc : Nat → Bool} {z : Nat}
theorem kB_m (e : lSm K.2.1 K'.2.1) (b : kB t K) : kB t K' := fun h => by
  have hl := lSm_l e
  rw [hl, (lSm_g _ e).2.1]
  exact b (by omega)
theorem kB_h {st st' : List Nat} {l l' : tLb} {ls : List tLb} {co co' : List tRw} (e : l'.2.1 = l.2.1) (b : kB t (st, l :: ls, co)) : kB t (st', l' :: ls, co') := fun _ => by
  have b := b (Nat.succ_pos _)
  cases ls with
  | nil => exact e.trans b
  | cons k ls => exact b
theorem kB_c {st st' : List Nat} {l : tLb} {ls : List tLb} {co co' : List tRw} (hl : 0 < ls.length) (b : kB t (st, ls, co)) : kB t (st', l :: ls, co') := fun _ => by
  have b := b hl
  cases ls with
  | nil => cases hl
  | cons k ls => exact b
theorem kB_t {st st' : List Nat} {l : tLb} {ls : List tLb} {co co' : List tRw} (b : kB t (st, l :: ls, co)) : kB t (st', ls, co') := fun hl => by
  have b := b (Nat.succ_pos _)
  cases ls with
  | nil => cases hl
  | cons k ls => exact b
theorem kB_die (hl : 0 < K.2.1.length) (b : kB t K) : kB t (kDie K) := by
  obtain ⟨st, ls, co⟩ := K
  cases ls with
  | nil => cases hl
  | cons l ls => exact kB_h (l := l) rfl b
theorem kDie_l (hl : 0 < K.2.1.length) : (kDie K).2.1.length = K.2.1.length := by
  obtain ⟨st, ls, co⟩ := K
  cases ls with
  | nil => cases hl
  | cons l ls => rfl
/-- what stays: K is well formed, its labels but for what hangs on them -/
def kJ (M : tMd) (K K' : tK) : Prop := wfK M K' ∧ lSm K.2.1 K'.2.1
theorem kJ_t {K1 K2 : tK} (a : kJ M K K1) (b : kJ M K1 K2) : kJ M K K2 := ⟨b.1, lSm_tr a.2 b.2⟩
theorem kJ_r (W : wfK M K) : kJ M K K := ⟨W, lSm_r _⟩
theorem kJ_e {op a b c hb : Int32} (W : wfK M K) : kJ M K (kEm K op a b c hb) := ⟨kEm_w W, by rw [(kEm_1 K op a b c hb).2]; exact lSm_r _⟩
theorem kJ_b {op hb : Int32} (W : wfK M K) : kJ M K (kBr M op hb x K) := ⟨kBr_w W, (kBr_m M op hb x K).2⟩
theorem kJ_take {w : Nat} {y : Nat × tK} (W : wfK M K) (q : kTake p w K = .inr (y, z)) : kJ M K y.2 ∧ (y.1 = 0 ∨ isT y.1) := by
  obtain ⟨w1, w2, w3, w4⟩ := kTake_w W q
  exact ⟨⟨w1, by rw [w2]; exact lSm_r _⟩, w3⟩
theorem kJ_takeL {l : List Nat} (W : wfK M K) (q : kTakeL p l K = .inr (K', z)) : kJ M K K' := by
  obtain ⟨w1, w2, w3⟩ := kTakeN_w W q
  exact ⟨w1, by rw [w2]; exact lSm_r _⟩
theorem kJ_putL {l : List Nat} (hl : ∀ x, x ∈ l → x = 0 ∨ isT x) (W : wfK M K) (q : kPutL p l K = .inr (K', z)) : kJ M K K' := by
  obtain ⟨w1, w2, w3⟩ := kPutL_w hl W q
  exact ⟨w1, by rw [w2]; exact lSm_r _⟩
theorem kJ_put {w : Nat} (hw : w = 0 ∨ isT w) (W : wfK M K) (q : kPut p w K = .inr (K', z)) : kJ M K K' := by
  obtain ⟨w1, w2, w3⟩ := kPut_w W hw q
  exact ⟨w1, by rw [w2]; exact lSm_r _⟩
theorem kJ_tk {w : Nat} (W : wfK M K) (q : kTk p w K = .inr (K', z)) : kJ M K K' := by
  unfold kTk at q
  split at q
  · cases q; exact kJ_r W
  · obtain ⟨y, z1, e1, e2⟩ := b_inv q
    cases e2
    exact (kJ_take W e1).1
theorem kJ_pt {w : Nat} (hw : w = 0 ∨ isT w) (W : wfK M K) (q : kPt p w K = .inr (K', z)) : kJ M K K' := by
  unfold kPt at q
  split at q
  · cases q; exact kJ_r W
  · exact kJ_put hw W q
theorem kJ_pl {o ca cb hb : Int32} {x1 x2 x3 r : Nat} (hr : r = 0 ∨ isT r) (W : wfK M K) (q : kPl p o ca cb hb x1 x2 x3 r K = .inr (K', z)) : kJ M K K' := by
  obtain ⟨K1, z1, e1, q⟩ := b_inv q
  obtain ⟨K2, z2, e2, q⟩ := b_inv q
  obtain ⟨K3, z3, e3, q⟩ := b_inv q
  obtain ⟨K4, z4, e4, q⟩ := b_inv q
  cases q
  have j1 := kJ_tk W e1
  have j2 := kJ_tk j1.1 e2
  have j3 := kJ_tk j2.1 e3
  have j4 := kJ_pt hr j3.1 e4
  exact kJ_t j1 (kJ_t j2 (kJ_t j3 (kJ_t j4 (kJ_e j4.1))))
theorem kJ_takeS {f : Nat → Nat} : ∀ {k : Nat} {K : tK} {w : List Nat × tK} {z : Nat}, wfK M K → kTakeS p f k K = .inr (w, z) → kJ M K w.2 ∧ ∀ y, y ∈ w.1 → y = 0 ∨ isT y
  | 0, K, w, z, W, q => by cases q; exact ⟨kJ_r W, fun y hy => absurd hy List.not_mem_nil⟩
  | k + 1, K, w, z, W, q => by
    obtain ⟨v, z1, e1, q⟩ := b_inv q
    obtain ⟨u, z2, e2, q⟩ := b_inv q
    cases q
    obtain ⟨j1, t1⟩ := kJ_take W e1
    obtain ⟨j2, t2⟩ := kJ_takeS j1.1 e2
    refine ⟨kJ_t j1 j2, fun y hy => ?_⟩
    rcases List.mem_append.mp hy with z | z
    · exact t2 y z
    · rw [List.mem_singleton.mp z]; exact t1
theorem kJ_tab {hb : Int32} {many : Nat} : ∀ {l : List Nat} {K K' : tK} {z : Nat}, wfK M K → kTabL M p hb many l K = .inr (K', z) → kJ M K K'
  | [], K, K', z, W, q => by cases q; exact kJ_r W
  | x :: l, K, K', z, W, q => by
    rw [kTabL] at q
    split at q
    · obtain ⟨K1, z1, e1, q⟩ := b_inv q
      have j1 : kJ M K K1 := by
        split at e1
        · exact kJ_takeL W e1
        · obtain ⟨w, z2, e2, e3⟩ := b_inv e1
          obtain ⟨j2, t2⟩ := kJ_takeS W e2
          exact kJ_t j2 (kJ_putL t2 j2.1 e3)
      have j2 := kJ_b (op := 12) (hb := hb) (x := x) j1.1
      exact kJ_t j1 (kJ_t j2 (kJ_tab j2.1 q))
    · cases q
theorem opT_w : ∀ c : Fin 256, sp_isT (127 - kRsT c.val) = true := by decide +kernel
theorem opT_a : ∀ c : Fin 64, (40 ≤ c.val ∧ c.val ≤ 62) → sp_isT (kAcT c.val) = true := by decide +kernel
/-- what a plain instruction puts -/
theorem sg_w (hB : ∀ i, B i < 256) (G : vG B n D M) (q : sp_in B n D p = .inr (v, p2)) (hf : v.2.2.2 = false) (hlt : ∀ x ty, lt x = some ty → isT ty) (c1 : v.1 = 28 ∨ (32 ≤ v.1 ∧ v.1 ≤ 64) ∨ (69 ≤ v.1 ∧ v.1 < 208) ∨ 210 ≤ v.1) (es : kSg M Dc lt v.1 v.2.1.toNatClampNeg v.2.2.1.toNatClampNeg = some s) : s.2.2.2 = 0 ∨ isT s.2.2.2 := by
  by_cases c28 : v.1 = 28
  · rw [sg_28 c28] at es
    cases es
    by_cases cz : B p = 252
    · obtain ⟨k, q1, k17, e1, f1, f2, f3, f4⟩ := fur_k hB (in_252 q cz)
      exfalso
      by_cases k8 : k < 8
      · rw [f1 k8] at c28; have c28 : 200 + k = 28 := c28; omega
      · by_cases k1 : k = 10 ∨ k = 11
        · rw [f2 k1] at c28; have c28 : 300 + k = 28 := c28; omega
        · by_cases k2 : k = 12 ∨ k = 14
          · obtain ⟨x, y, q3, q4, -, -, -, -, ev⟩ := f3 k2; rw [ev] at c28; have c28 : 300 + k = 28 := c28; omega
          · obtain ⟨x, q3, -, -, ev⟩ := f4 (by omega); rw [ev] at c28; have c28 : 300 + k = 28 := c28; omega
    have b28 : B p = 28 := ((in_v1 q).1 cz).symm.trans c28
    obtain ⟨x, p1, ty, hx, e1, e2, ev⟩ := in_28 hB q b28
    have x1 : x = 1 := by
      rw [ev] at hf
      exact Decidable.byContradiction fun z => by rw [show ((28, Int64.ofNat x, Int64.ofNat ty, decide (x ≠ 1)) : sp_I).2.2.2 = decide (x ≠ 1) from rfl, decide_eq_true z] at hf; cases hf
    rw [x1] at e2
    obtain ⟨y, p3, f1, f2⟩ := b_inv e2
    cases f2
    have ok := byte_v f1
    have t8 := isT_lt ok
    refine .inr ?_
    show isT v.2.2.1.toNatClampNeg
    rw [ev]
    show isT (Int64.ofNat ty).toNatClampNeg
    rw [ll_cm (by omega)]
    exact ok
  by_cases c34 : 32 ≤ v.1 ∧ v.1 ≤ 34
  · rw [sg_loc c34] at es
    cases ez : lt v.2.1.toNatClampNeg with
    | none => rw [ez] at es; cases es
    | some ty =>
      rw [ez] at es
      have es : (if v.1 = 32 then some (0, 0, 0, ty) else if v.1 = 33 then some (ty, 0, 0, 0) else some (ty, 0, 0, ty)) = some s := es
      have h := hlt _ _ ez
      split at es
      · cases es; exact .inr h
      · split at es
        · cases es; exact .inl rfl
        · cases es; exact .inr h
  by_cases c36 : 35 ≤ v.1 ∧ v.1 ≤ 36
  · rw [sg_glo c36] at es
    cases ez : (spG M)[v.2.1.toNatClampNeg]? with
    | none => rw [ez] at es; cases es
    | some f =>
      rw [ez] at es
      have es : (if v.1 = 35 then some (0, 0, 0, f.1.2.1) else if f.1.2.2.2.2 = 0 then none else some (f.1.2.1, 0, 0, 0)) = some s := es
      split at es
      · cases es; exact .inr (spG_T G ez)
      · split at es
        · cases es
        · cases es; exact .inl rfl
  by_cases c38 : 37 ≤ v.1 ∧ v.1 ≤ 38
  · rw [sg_tab c38] at es
    cases ez : (spT M)[v.2.1.toNatClampNeg]? with
    | none => rw [ez] at es; cases es
    | some f =>
      rw [ez] at es
      have es : (if v.1 = 37 then some (127, 0, 0, f.2.1) else some (f.2.1, 127, 0, 0)) = some s := es
      split at es
      · cases es; exact .inr (isT_R (spT_T G ez))
      · cases es; exact .inl rfl
  by_cases c62 : v.1 ≤ 62
  · by_cases c39 : v.1 = 39
    · exfalso
      have b39 : B p = 39 := by
        by_cases cz : B p = 252
        · obtain ⟨k, q1, k17, e1, f1, f2, f3, f4⟩ := fur_k hB (in_252 q cz)
          exfalso
          by_cases k8 : k < 8
          · rw [f1 k8] at c39; have c39 : 200 + k = 39 := c39; omega
          · by_cases k1 : k = 10 ∨ k = 11
            · rw [f2 k1] at c39; have c39 : 300 + k = 39 := c39; omega
            · by_cases k2 : k = 12 ∨ k = 14
              · obtain ⟨x, y, q3, q4, -, -, -, -, ev⟩ := f3 k2; rw [ev] at c39; have c39 : 300 + k = 39 := c39; omega
              · obtain ⟨x, q3, -, -, ev⟩ := f4 (by omega); rw [ev] at c39; have c39 : 300 + k = 39 := c39; omega
        · exact ((in_v1 q).1 cz).symm.trans c39
      rcases (in_v1 q).2 with k | k | k
      · have := cls_no k; omega
      · omega
      · omega
    rw [sg_acc (by omega)] at es
    split at es
    · cases es
    · split at es
      · cases es; exact .inr (opT_a ⟨v.1, by omega⟩ (by show 40 ≤ v.1 ∧ v.1 ≤ 62; omega))
      · cases es; exact .inl rfl
  by_cases c64 : v.1 ≤ 64
  · rw [sg_mem (by omega)] at es
    split at es
    · cases es
    · split at es
      · cases es; exact .inr isT_127
      · cases es; exact .inr isT_127
  by_cases c208 : v.1 < 208
  · rw [sg_opr (by omega)] at es
    cases es
    exact .inr (opT_w ⟨v.1, by omega⟩)
  by_cases c210 : v.1 = 210
  · rw [sg_210 c210] at es
    split at es
    · cases es; exact .inr (by decide)
    · cases es
  unfold kSg at es
  rw [if_neg c28, if_neg (by omega), if_neg (by omega), if_neg (by omega), if_neg (by omega), if_neg (by omega), if_neg c208, if_neg c210] at es
  by_cases c308 : v.1 = 308
  · rw [if_pos c308] at es
    split at es
    · cases es; exact .inl rfl
    · cases es
  rw [if_neg c308] at es
  by_cases c309 : v.1 = 309
  · rw [if_pos c309] at es
    split at es
    · cases es; exact .inl rfl
    · cases es
  rw [if_neg c309] at es
  by_cases c311 : v.1 ≤ 311
  · rw [if_pos c311] at es
    split at es
    · cases es; exact .inl rfl
    · cases es
  rw [if_neg c311] at es
  by_cases c312 : v.1 = 312
  · rw [if_pos c312] at es
    split at es
    · split at es
      · cases es; exact .inl rfl
      · cases es
    · cases es
  rw [if_neg c312] at es
  by_cases c313 : v.1 = 313
  · rw [if_pos c313] at es
    split at es
    · cases es; exact .inl rfl
    · cases es
  rw [if_neg c313] at es
  by_cases c314 : v.1 = 314
  · rw [if_pos c314] at es
    split at es
    · split at es
      · cases es; exact .inl rfl
      · cases es
    · cases es
  rw [if_neg c314] at es
  split at es
  · cases es
  · split at es
    · cases es; exact .inr isT_127
    · split at es
      · cases es; exact .inr isT_127
      · cases es; exact .inl rfl
end KINV
