/-! THE CLASS READS: module()'s walk over the rows of a section -/
/-- the loop of module() at its head, and behind it -/
noncomputable def sZ : (Int32 × Int32 × pm_H) → Option ((Int32 × Int32 × pm_H) ⊕ pm_H) := fun z => if z.1 ≤ z.2.1 then (some (.inr z.2.2)) else (if pm_kd z.2.2 0 = 12 then (pm_R z.2.2 0 8).bind fun v25 => if pm_kd z.2.2 v25 = 9 then (fX9_goesOn z.2.2 v25).bind fun v28 => if v28 = 0 then (some (.inr z.2.2)) else ((fX9_advance z.2.2 v25).bind fun v31 => some (.inl (z.1, z.2.1 + 1, v31))) else none else none)
noncomputable def s69 (n _mm i : Nat) (H : pm_H) : Option pm_H := pm_lim sZ (Int32.ofNat n, Int32.ofNat i, H)
noncomputable def s97 (_mm : Nat) (H : pm_H) : Option pm_H := some H
theorem sZ_e (a b : Int32) (H : pm_H) : sZ (a, b, H) = if a ≤ b then (some (.inr H)) else (if pm_kd H 0 = 12 then (pm_R H 0 8).bind fun v25 => if pm_kd H v25 = 9 then (fX9_goesOn H v25).bind fun v28 => if v28 = 0 then (some (.inr H)) else ((fX9_advance H v25).bind fun v31 => some (.inl (a, b + 1, v31))) else none else none) := rfl
/-- the engine as the walk needs it -/
def eng (A : Nat → Prop) (h0 : pm_H) : Prop := ¬ A 0 ∧ A 19 ∧ 0 < pm_sz h0 ∧ pm_kd h0 0 = 12 ∧ pm_R h0 0 8 = some 19
section WALK
variable {A : Nat → Prop} {h0 h : pm_H} {n b mm me sh : Nat} {f q : Int32}
theorem eng_k (E : eng A h0) {H : pm_H} (F : pr_F A h0 H) : pm_kd H 0 = 12 ∧ pm_R H 0 8 = some 19 := ⟨(F.2.2.2.1 0 E.2.2.1).1.trans E.2.2.2.1, by rw [(F.2.2.2.2 0 E.1).2.2]; exact E.2.2.2.2⟩
theorem s69_go (E : eng A h0) {H r : pm_H} (F : pr_F A h0 H) (K9 : pm_kd H 19 = 9) (f0 : pm_I H 19 3 = 0) (go : 0 ≤ pm_I H 19 10 ∨ pm_I H 19 1 < pm_I H 19 2) {i : Nat} (hi : i < n) (hn : n < 2147483648) (e : fX9_advance H 19 = some r) : s69 n mm i H = s69 n mm (i + 1) r ∧ pr_F A h0 r := by
  obtain ⟨e1, e2⟩ := eng_k E F
  refine ⟨?_, rgX9_advance F E.2.1 e⟩
  have GO : fX9_goesOn H 19 = some 1 := by
    unfold fX9_goesOn
    refine e9_t K9 (e9_t f0 ?_)
    by_cases c : 0 ≤ pm_I H 19 10
    · exact e9_t c rfl
    · refine e9_f c (e9_f ?_ rfl)
      rcases go with z | z
      · exact absurd z c
      · exact Int32.not_le.mpr z
  unfold s69
  refine k_w (sZ_e ..) ?_
  refine k_f (show ¬ Int32.ofNat n ≤ Int32.ofNat i by rw [nn_le hn (by omega)]; omega) (k_t e1 (k_b e2 (k_t K9 (k_b GO (k_f (by decide) (k_b e (k_n ?_)))))))
  rw [show Int32.ofNat i + 1 = Int32.ofNat (i + 1) from nn_ad i 1]
theorem s69_dead (E : eng A h0) {a : Int32} (F : pr_F A h0 (rc h a f q)) (K9 : pm_kd h 19 = 9) (hf : f ≠ 0) (i : Nat) : s69 n mm i (rc h a f q) = s97 mm (rc h a f q) := by
  obtain ⟨e1, e2⟩ := eng_k E F
  unfold s69
  refine k_w (sZ_e ..) ?_
  by_cases c : Int32.ofNat n ≤ Int32.ofNat i
  · exact k_t c rfl
  · have GO : fX9_goesOn (rc h a f q) 19 = some 0 := by
      unfold fX9_goesOn
      exact e9_t K9 (e9_f hf rfl)
    exact k_f c (k_t e1 (k_b e2 (k_t K9 (k_b GO (k_t (by decide) rfl)))))
theorem s69_end (E : eng A h0) {H : pm_H} (F : pr_F A h0 H) (K9 : pm_kd H 19 = 9) (f0 : pm_I H 19 3 = 0) (c1 : ¬ 0 ≤ pm_I H 19 10) (c2 : pm_I H 19 2 ≤ pm_I H 19 1) (i : Nat) : s69 n mm i H = s97 mm H := by
  obtain ⟨e1, e2⟩ := eng_k E F
  unfold s69
  refine k_w (sZ_e ..) ?_
  by_cases c : Int32.ofNat n ≤ Int32.ofNat i
  · exact k_t c rfl
  · have GO : fX9_goesOn H 19 = some 0 := by
      unfold fX9_goesOn
      exact e9_t K9 (e9_t f0 (e9_f c1 (e9_t c2 rfl)))
    exact k_f c (k_t e1 (k_b e2 (k_t K9 (k_b GO (k_t (by decide) rfl)))))
/-- a fault was told: the walk is over -/
def wDead (A : Nat → Prop) (h0 : pm_H) (b mm me sh : Nat) (X : Option pm_H) (fl pl : Nat) : Prop := (0 < fl ∧ fl < 100) ∧ ∃ h' a, X = s97 mm (rc h' a (Int32.ofNat fl) (Int32.ofNat pl)) ∧ dT h' b mm me sh ∧ pr_F A h0 (rc h' a (Int32.ofNat fl) (Int32.ofNat pl))
theorem nz_fl {fl : Nat} (h : 0 < fl ∧ fl < 100) : Int32.ofNat fl ≠ 0 := fun z => by
  rw [n3_0, nn_eq (by omega) (by decide)] at z
  omega
/-- an advance that faults -/
theorem w_dead (E : eng A h0) {H : pm_H} (F : pr_F A h0 H) (K9 : pm_kd H 19 = 9) (f0 : pm_I H 19 3 = 0) (go : 0 ≤ pm_I H 19 10 ∨ pm_I H 19 1 < pm_I H 19 2) {i : Nat} (hi : i < n) (hn : n < 2147483648) {fl pl : Nat} (hfl : 0 < fl ∧ fl < 100) (D : cd_Q wH (dF b mm me sh) (Int32.ofNat fl) (Int32.ofNat pl) (fX9_advance H 19)) : wDead A h0 b mm me sh (s69 n mm i H) fl pl := by
  obtain ⟨r, h', a, e, ew, T⟩ := D
  have ew : r = rc h' a (Int32.ofNat fl) (Int32.ofNat pl) := ew
  subst ew
  obtain ⟨e1, F1⟩ := s69_go (mm := mm) E F K9 f0 go hi hn e
  have T : dT h' b mm me sh := T
  exact ⟨hfl, h', a, e1.trans (s69_dead E F1 T.1.1.1 (nz_fl hfl) _), T, F1⟩
end WALK
/-- a section is open, its rows l read -/
def oR {α : Type} (P : pm_H → Nat → Nat → α → Prop) (h : pm_H) (n b mm me sh e x k j w N kept : Nat) (d : Bool) (B : Nat → Nat) (id lo last pl c : Nat) (M0 : tMd) (pre l : List α) (L0 : Int32) (bg : α → Bool) : Prop := oS h n b mm me sh e x k j w N kept l.length d B ∧ cQ P h x w N l ∧ cMx h mm lo x id M0 ∧ (lo < x ∧ x < pm_sz h) ∧ pm_I h 19 10 = Int32.ofNat id ∧ pm_I h 19 11 = Int32.ofNat pl ∧ pm_I h 19 12 = Int32.ofNat last ∧ pm_L h 19 14 = Int64.ofNat c ∧ (∀ i v, pre[i]? = some v → P h x (i * w) v) ∧ pm_I h 19 5 = xv L0 (Int32.ofNat pl) (l.any bg)
section ROWS
variable {A : Nat → Prop} {h0 : pm_H} {n b mm me sh e x k j w N kept id lo last pl c p1 : Nat} {d : Bool} {B : Nat → Nat} {M0 : tMd} {L0 q : Int32} {α : Type} {P : pm_H → Nat → Nat → α → Prop} {pre : List α} {bg : α → Bool} {row : Nat → sp_O α} {X : pm_H → Option pm_H}
theorem run_rows (E : eng A h0) (st : stP P w) (hid : id < 13) (hpre : pre.length ≤ N) (s3 : 19 < lo ∧ me < lo ∧ sh < lo ∧ b < lo ∧ mm < lo) (shb : sh ≠ b) (hkept : kept = if e - p1 < c then e - p1 else c) (hc : c < 4294967296) (hen : e ≤ n) (hn : n ≤ 40960)
    (adv : ∀ H, pm_kd H 19 = 9 → pm_I H 19 10 = Int32.ofNat id → fX9_advance H 19 = (X H).bind fun v => fX9_advance_b128 v 19)
    (rs : ∀ h l p, oS h n b mm me sh e x k j w N kept l.length d B → cQ P h x w N l → (p < e → l.length < kept) → p ≤ e → cs_Q wH (dF b mm me sh) (rS P x me sh w N e p l bg h q) (X (rc h (Int32.ofNat p) 0 q)) (row p)) :
    ∀ (r : Nat) (l : List α) (p i : Nat) (h : pm_H), l.length + r = c → 1 ≤ r → oR P h n b mm me sh e x k j w N kept d B id lo last pl c M0 pre l L0 bg → p ≤ e → p1 + l.length ≤ p → i + 8 ≤ p → pr_F A h0 (rc h (Int32.ofNat p) 0 q) → match sp_rows row r p with
      | .inl (fl, pl') => wDead A h0 b mm me sh (s69 n mm i (rc h (Int32.ofNat p) 0 q)) fl pl'
      | .inr (l', p') => ∃ h' Hl i', s69 n mm i (rc h (Int32.ofNat p) 0 q) = s69 n mm i' Hl ∧ i' + 8 < p' ∧ p' ≤ e ∧ p + r ≤ p' ∧ pr_F A h0 Hl ∧ pm_kd Hl 19 = 9 ∧ pm_I Hl 19 3 = 0 ∧ 0 ≤ pm_I Hl 19 10 ∧ fX9_advance Hl 19 = ((fX9_closeSection (rc h' (Int32.ofNat p') 0 q) 19).bind fun v => fX9_advance_b162 v) ∧ oR P h' n b mm me sh e x k j w N kept d B id lo last pl c M0 pre (l ++ l') L0 bg := by
  intro r
  induction r with
  | zero => intro l p i h _ h1; omega
  | succ r ih =>
    intro l p i h hl _ O hp hp1 hi F
    obtain ⟨S, C, CM, ⟨x1, x2⟩, i10, i11, i12, l14, pr, l5⟩ := O
    have K9 : pm_kd h 19 = 9 := S.1.1.1
    have T := S.2.1
    have go : 0 ≤ pm_I (rc h (Int32.ofNat p) 0 q) 19 10 := by
      rw [show pm_I (rc h (Int32.ofNat p) 0 q) 19 10 = Int32.ofNat id from i10, n3_0, nn_le (by decide) (by omega)]
      exact Nat.zero_le _
    have RS := rs h l p S C (fun hpe => by rw [hkept]; split <;> omega) hp
    have AD := adv (rc h (Int32.ofNat p) 0 q) K9 i10
    rw [sp_rows]
    cases hrow : row p with
    | inl z =>
      rw [hrow] at RS
      obtain ⟨hfl, D⟩ := RS
      rw [sp_bl]
      refine w_dead E F K9 rfl (.inl go) (by omega) (by omega) hfl ?_
      rw [AD]
      exact y_h D (fun h2 a2 T2 => cd_128 T2 (nz_fl hfl) a2)
    | inr z =>
      obtain ⟨a, p2⟩ := z
      rw [hrow] at RS
      obtain ⟨rr, eX, hR⟩ := RS
      obtain ⟨h2, er, g2, C2, N2, q1, q2, m5⟩ := hR
      subst er
      rw [sp_br]
      obtain ⟨LC, T0, r0, kd0, ln0, i15, i13, n1, n2, n3⟩ := S
      have x9 : x ≠ 19 ∧ x ≠ mm ∧ x ≠ me ∧ x ≠ sh ∧ x ≠ b := by omega
      have dm := lC_m LC
      have ksh := T.2.1.2.1
      have ds : sh ≠ 19 ∧ sh ≠ mm ∧ sh ≠ me := ⟨fun z => by rw [z, K9] at ksh; exact absurd ksh (by decide), fun z => by rw [z, T.1.1.2.2.1] at ksh; exact absurd ksh (by decide), fun z => by rw [z, LC.2.1.2.1] at ksh; exact absurd ksh (by decide)⟩
      have KC : kC lo x h h2 := fun y y1 y2 => by
        have hy : y < pm_sz h := by omega
        refine ⟨(g2.2.1 y hy).1, (g2.2.1 y hy).2, ?_, ?_, ?_⟩
        · funext z; exact g2.2.2.1 y z hy (by omega)
        · funext z; exact g2.2.2.2.1 y z hy (by omega)
        · funext z; exact g2.2.2.2.2 y z hy (by omega)
      have sz1 := T.2.2.1
      have I9 : ∀ y, ¬ (y = 5 ∨ y = 6 ∨ y = 7) → pm_I h2 19 y = pm_I h 19 y := fun y hy => g2.2.2.1 19 y sz1.1 (by omega)
      have L9 : ∀ y, ¬ (y = 8 ∨ y = 9) → pm_L h2 19 y = pm_L h 19 y := fun y hy => g2.2.2.2.1 19 y sz1.1 (by omega)
      have T2 : dT h2 b mm me sh := dT_W T g2 (fun y z => x9.1 z.symm) (fun y z => x9.2.1 z.symm)
      have lc : pm_ln h2 x = pm_ln h x := (g2.2.1 x x2).2
      obtain ⟨h3, eh3⟩ : ∃ z, z = pm_setI h2 19 15 (Int32.ofNat (l.length + 1)) := ⟨_, rfl⟩
      have gn3 : nF h2 h3 := by rw [eh3]; exact nF_sI (nF_r h2)
      have X3 : ∀ y, y ≠ 19 → pm_I h3 y = pm_I h2 y := fun y hy => by funext z; rw [eh3, ev_II, if_neg hy]
      have LL3 : ∀ y, pm_L h3 y = pm_L h2 y := fun y => by rw [eh3]; rfl
      have I93 : ∀ y, y ≠ 15 → pm_I h3 19 y = pm_I h2 19 y := fun y hy => by rw [eh3, ev_II, if_pos rfl, if_neg hy]
      have LC3 : lC h3 n b mm me e d false B := by
        obtain ⟨⟨c1, c2, c3, c4, c5, c6, c7, c8, c9, c10⟩, ⟨d1, d2, d3, d4⟩, d5, d6, d7, d8⟩ := LC
        have kdo : ∀ y, y < pm_sz h → pm_kd h3 y = pm_kd h y := fun y hy => (congrFun gn3.2.1 y).trans (g2.2.1 y hy).1
        have lno : ∀ y, y < pm_sz h → pm_ln h3 y = pm_ln h y := fun y hy => (congrFun gn3.2.2.1 y).trans (g2.2.1 y hy).2
        have ro : ∀ y z, y < pm_sz h → y ≠ x → pm_R h3 y z = pm_R h y z := fun y z hy hx => (congrFun (congrFun gn3.2.2.2 y) z).trans (g2.2.2.2.2 y z hy hx)
        refine ⟨⟨(kdo 19 sz1.1).trans c1, (ro 19 0 sz1.1 (by omega)).trans c2, (kdo mm sz1.2.2.1).trans c3, (ro mm 0 sz1.2.2.1 (by omega)).trans c4, (kdo b sz1.2.1).trans c5, (lno b sz1.2.1).trans c6, c7, c8, fun i hi => ?_, c10⟩, ⟨(ro 19 17 sz1.1 (by omega)).trans d1, (kdo me sz1.2.2.2.1).trans d2, (lno me sz1.2.2.2.1).trans d3, d4⟩, ?_, d6, ?_, ?_⟩
        · rw [X3 b c8, g2.2.2.1 b i sz1.2.1 (by omega)]
          exact c9 i hi
        · rw [I93 2 (by decide), I9 2 (by decide)]; exact d5
        · rw [I93 16 (by decide), I9 16 (by decide)]; exact d7
        · rw [LL3 mm, g2.2.2.2.1 mm 14 sz1.2.2.1 (by omega)]; exact d8
      have la : (l ++ [a]).length = l.length + 1 := by rw [List.length_append]; rfl
      have O3 : oR P h3 n b mm me sh e x k j w N kept d B id lo last pl c M0 pre (l ++ [a]) L0 bg := by
        refine ⟨⟨LC3, dT_n T2 gn3, ?_, (gk gn3 (((g2.2.1 x x2).1).trans kd0)), ((nF_ln gn3).trans (lc.trans ln0)), ?_, ?_, n1, n2, by rw [la]; omega⟩, ⟨fun i v e => ?_, fun y y1 y2 => ?_⟩, ?_, ⟨x1, by rw [gn3.1]; have := g2.1; omega⟩, ?_, ?_, ?_, ?_, fun i v e => ?_, ?_⟩
        · rw [congrFun (congrFun gn3.2.2.2 mm) j, g2.2.2.2.2 mm j sz1.2.2.1 (by omega)]; exact r0
        · rw [eh3, ev_II, if_pos rfl, if_pos rfl, la]
        · intro j4 j7
          rw [I93 13 (by decide), I9 13 (by decide)]
          exact i13 j4 j7
        · exact st h2 h3 x _ v (fun y _ _ => ⟨by rw [X3 x x9.1], by rw [LL3 x]⟩) (C2.1 i v e)
        · rw [X3 x x9.1, LL3 x]
          exact C2.2 y y1 (by rw [← nF_ln gn3]; exact y2)
        · refine cMx_k (h := h) (hi := x) (skip := id) (fun y y1 y2 => ?_) (Nat.le_refl _) (.inr rfl) (fun jj s _ _ _ => ?_) (by omega) ?_ ?_ CM
          · obtain ⟨z1, z2, z3, z4, z5⟩ := KC y y1 y2
            exact ⟨(congrFun gn3.2.1 y).trans z1, (congrFun gn3.2.2.1 y).trans z2, (X3 y (by omega)).trans z3, (LL3 y).trans z4, (congrFun gn3.2.2.2 y).trans z5⟩
          · exact (congrFun (congrFun gn3.2.2.2 mm) jj).trans (g2.2.2.2.2 mm jj sz1.2.2.1 (by omega))
          · rw [LL3 mm]; exact g2.2.2.2.1 mm 13 sz1.2.2.1 (by omega)
          · rw [LL3 mm]; exact g2.2.2.2.1 mm 14 sz1.2.2.1 (by omega)
        · rw [I93 10 (by decide), I9 10 (by decide)]; exact i10
        · rw [I93 11 (by decide), I9 11 (by decide)]; exact i11
        · rw [I93 12 (by decide), I9 12 (by decide)]; exact i12
        · rw [LL3 19, L9 14 (by decide)]; exact l14
        · refine st h h3 x _ v (fun y y1 y2 => ?_) (pr i v e)
          have il : i < pre.length := (List.getElem?_eq_some_iff.mp e).1
          have : i * w + w ≤ N * w := by
            have := Nat.mul_le_mul_right w (show i + 1 ≤ N by omega)
            rw [Nat.succ_mul] at this
            exact this
          obtain ⟨z1, z2⟩ := N2 y (by omega)
          exact ⟨by rw [X3 x x9.1]; exact z1, by rw [LL3 x]; exact z2⟩
        · rw [I93 5 (by decide), m5, l5, i11, List.any_append, List.any_cons, List.any_nil, Bool.or_false]
          exact xv_or _ _ _ _
      -- behind the row
      have B128 : fX9_advance_b128 (rc h2 (Int32.ofNat p2) 0 q) 19 = fX9_advance_b138 (rc h3 (Int32.ofNat p2) 0 q) 19 := by
        unfold fX9_advance_b128
        refine e9_t (gk (nF_r h2) T2.1.1.1) (e9_l ?_)
        rw [show pm_I (rc h2 (Int32.ofNat p2) 0 q) 19 15 = Int32.ofNat l.length from (I9 15 (by decide)).trans i15, show Int32.ofNat l.length + 1 = Int32.ofNat (l.length + 1) from nn_ad _ 1, rc_19 _ _ _ _ _ (by decide) (by decide) (by decide), ← eh3]
      have AD2 : fX9_advance (rc h (Int32.ofNat p) 0 q) 19 = fX9_advance_b138 (rc h3 (Int32.ofNat p2) 0 q) 19 := by
        rw [AD, eX]
        exact B128
      have j10 : pm_I (rc h3 (Int32.ofNat p2) 0 q) 19 10 = Int32.ofNat id := O3.2.2.2.2.1
      have j15 : pm_I (rc h3 (Int32.ofNat p2) 0 q) 19 15 = Int32.ofNat (l.length + 1) := by rw [show pm_I (rc h3 (Int32.ofNat p2) 0 q) 19 15 = pm_I h3 19 15 from rfl, eh3, ev_II, if_pos rfl, if_pos rfl]
      have jl : pm_L (rc h3 (Int32.ofNat p2) 0 q) 19 14 = Int64.ofNat c := O3.2.2.2.2.2.2.2.1
      have nid : ¬ pm_I (rc h3 (Int32.ofNat p2) 0 q) 19 10 < 0 := by rw [j10, n3_0, nn_lt (by omega) (by decide)]; omega
      have lim : l.length + 1 ≤ 40961 := by omega
      have cmp : ((pm_I (rc h3 (Int32.ofNat p2) 0 q) 19 15).toInt64 < pm_L (rc h3 (Int32.ofNat p2) 0 q) 19 14) = (l.length + 1 < c) := by rw [j15, jl, nn_t6 (by omega), ll_lt (by omega) (by omega)]
      cases r with
      | zero =>
        rw [sp_rows, sp_br]
        refine ⟨h3, rc h (Int32.ofNat p) 0 q, i, rfl, by omega, q2, by omega, F, K9, rfl, go, ?_, O3⟩
        rw [AD2]
        unfold fX9_advance_b138
        exact e9_t (gk gn3 T2.1.1.1) (e9_f nid (e9_f (by rw [cmp]; omega) rfl))
      | succ r =>
        have AD3 : fX9_advance (rc h (Int32.ofNat p) 0 q) 19 = some (rc h3 (Int32.ofNat p2) 0 q) := by
          rw [AD2]
          unfold fX9_advance_b138 fX9_advance_b162
          exact e9_t (gk gn3 T2.1.1.1) (e9_f nid (e9_t (by rw [cmp]; omega) rfl))
        obtain ⟨s1, F3⟩ := s69_go (mm := mm) (n := n) E F K9 rfl (.inl go) (show i < n by omega) (by omega) AD3
        have I := ih (l ++ [a]) p2 (i + 1) h3 (by rw [la]; omega) (by omega) O3 q2 (by rw [la]; omega) (by omega) F3
        cases hr2 : sp_rows row (r + 1) p2 with
        | inl z =>
          rw [hr2] at I
          rw [sp_bl]
          obtain ⟨hfl, h9, a9, e9', T9, F9⟩ := I
          exact ⟨hfl, h9, a9, s1.trans e9', T9, F9⟩
        | inr z =>
          rw [hr2] at I
          rw [sp_br]
          obtain ⟨h9, Hl, i', t1, t2, t3, t4, t5, t6, t7, t8, t9, t10⟩ := I
          exact ⟨h9, Hl, i', s1.trans t1, t2, t3, by omega, t5, t6, t7, t8, t9, by rw [List.append_assoc] at t10; exact t10⟩
end ROWS
