/-! THE CLASS CHECKS: tables -/
section XTBA
variable {h0 r r' : pm_H} {n b mm lo hi bo co dd cap : Nat} {B : Nat → Nat} {M : tMd} {Ts : List Int64} {o : sp_O tK} {p w s f x y z i j k lc ty : Nat} {v : sp_I} {hb : Int32} {K : tK} {t : Int64} {Dc : Nat → Bool} {lt : Nat → Option Nat} {α : Type} {P : pm_H → Nat → Nat → α → Prop} {L : List α}
theorem itn_ {x : Nat} {i : Int32} (kd : pm_kd r x = 35) (l : pm_ln r x < 2147483648) : ∃ v, fX12_item_ r x i = some v := by
  unfold fX12_item_
  by_cases c : i < 0
  · exact ⟨0, e9_t c rfl⟩
  · obtain ⟨k, hk, ek⟩ := i32_pos c
    by_cases d : k < pm_ln r x
    · exact ⟨_, e9_f c (e9_t kd (e9_f (by rw [ek, nn_le (by omega) (by omega)]; omega) (e9_t (by rw [ek, nn_in (by omega)]; exact d) rfl)))⟩
    · exact ⟨0, e9_f c (e9_t kd (e9_t (by rw [ek, nn_le (by omega) (by omega)]; omega) rfl))⟩
theorem m_ofn {i j : Int32} (km : pm_kd r mm = 7) (hk : k ≤ 3) (A : cAr P 35 6 (4 + k) r mm lo hi L) : ∃ v, fX7_of r mm (Int32.ofNat k) i j = some v := by
  obtain ⟨x, a1, a2, a3, a4, a5, a6, a7⟩ := A
  obtain ⟨v, e⟩ := itn_ (i := i * 6 + j) a4 (by omega)
  exact ⟨v, by unfold fX7_of; exact e9_t km (e9_b (fX7_space_k km hk a1) (e9_b e rfl))⟩
theorem idq {x N : Nat} (hN : N < 2147483647) : ((if x ≤ 2147483647 then x else 2147483647) < N) = (x < N) := by
  split
  · rfl
  · exact propext ⟨fun h => by omega, fun h => by omega⟩
theorem x_tba (C : xC h0 n b mm lo hi bo co dd cap B M) (I : xI h0 p v hb) (S : xS h0 M bo co Ts (.inr (K, z)) r) (hl : 0 < K.2.1.length) (eh : hb = Int32.ofNat K.1.length) (rm : K.2.2.length < cap) (ho : v.1 = 37 ∨ v.1 = 38 ∨ (312 ≤ v.1 ∧ v.1 ≤ 317)) (h1 : 0 ≤ v.2.1) (h2 : 0 ≤ v.2.2.1) (hT : ∀ t, t ∈ spT M → isT t.2.1) (hE : ∀ e, e ∈ M.2.2.2.2.2.2.2.1 → isT e.2.2.1.1) : ∃ r', fX1_tableAccess r 22 (Int32.ofNat v.1) = some r' ∧ xE h0 M bo co (kGo M Dc lt p v K) r' := by
  have Cr := xS_C C S
  have Ir := xS_I C I S
  have k1 := Cr.2.2.1.1.1
  have km := Cr.1.2.2.1
  have At := Cr.2.1.2.2.2.1 (by decide)
  have l8 : (spT M).length ≤ 81920 := by obtain ⟨x, -, -, -, -, -, a, -⟩ := At; exact a
  obtain ⟨xe, a1, a2, a3, a4, a5, a6, a7⟩ := Cr.2.1.2.2.2.2.2.2.2.1 (by decide)
  obtain ⟨x, ex⟩ : ∃ x, x = v.2.1.toNatClampNeg := ⟨_, rfl⟩
  have ev : v.2.1 = Int64.ofNat x := by rw [ex]; exact (i64_nn h1).symm
  have x63 : x < 9223372036854775808 := by rw [ex]; exact Int64.toNatClampNeg_lt _
  obtain ⟨y, ey⟩ : ∃ y, y = v.2.2.1.toNatClampNeg := ⟨_, rfl⟩
  have ev2 : v.2.2.1 = Int64.ofNat y := by rw [ey]; exact (i64_nn h2).symm
  have y63 : y < 9223372036854775808 := by rw [ey]; exact Int64.toNatClampNeg_lt _
  obtain ⟨q, eq⟩ : ∃ q, q = if x ≤ 2147483647 then x else 2147483647 := ⟨_, rfl⟩
  have q32 : q < 2147483648 := by rw [eq]; split <;> omega
  obtain ⟨u, eu⟩ : ∃ u, u = if y ≤ 2147483647 then y else 2147483647 := ⟨_, rfl⟩
  have u32 : u < 2147483648 := by rw [eu]; split <;> omega
  have qT : (q < (spT M).length) = (x < (spT M).length) := by rw [eq]; exact idq (by omega)
  have qE : (q < M.2.2.2.2.2.2.2.1.length) = (x < M.2.2.2.2.2.2.2.1.length) := by rw [eq]; exact idq (by omega)
  have uT : (u < (spT M).length) = (y < (spT M).length) := by rw [eu]; exact idq (by omega)
  have is : ∀ c : Nat, c < 1000 → (Int32.ofNat v.1 = Int32.ofNat c) = (v.1 = c) := fun c hc => nn_eq (by omega) (by omega)
  have i37 : (Int32.ofNat v.1 = 37) = (v.1 = 37) := is 37 (by decide)
  have i38 : (Int32.ofNat v.1 = 38) = (v.1 = 38) := is 38 (by decide)
  have i312 : (Int32.ofNat v.1 = 312) = (v.1 = 312) := is 312 (by decide)
  have i313 : (Int32.ofNat v.1 = 313) = (v.1 = 313) := is 313 (by decide)
  have i314 : (Int32.ofNat v.1 = 314) = (v.1 = 314) := is 314 (by decide)
  have i315 : (Int32.ofNat v.1 = 315) = (v.1 = 315) := is 315 (by decide)
  have i316 : (Int32.ofNat v.1 = 316) = (v.1 = 316) := is 316 (by decide)
  have i317 : (Int32.ofNat v.1 = 317) = (v.1 = 317) := is 317 (by decide)
  have hsq := m_has (k := 1) (i := q) km (by decide) At (by omega)
  have hsu := m_has (k := 1) (i := u) km (by decide) At (by omega)
  obtain ⟨rf, ef, Sf⟩ := x_fail (w := 30) C I S ⟨by decide, by decide⟩
  rw [sp_br] at Sf
  have no : kSg M Dc lt v.1 x y = none → xE h0 M bo co (kGo M Dc lt p v K) rf := fun e => by
    rw [ex, ey] at e
    rw [kGo_n e]
    exact ⟨Ts, Sf⟩
  have f195 : ∀ {X s0 : Int32}, fX1_tableAccess_b195 r 22 (Int32.ofNat v.1) 0 X s0 = some rf := fun {X s0} => by
    unfold fX1_tableAccess_b195
    exact e9_t rfl (e9_t k1 (e9_b ef rfl))
  have f157 : ∀ {X Y : Int32}, fX1_tableAccess_b157 r 22 (Int32.ofNat v.1) X 0 Y = some rf := fun {X Y} => by
    have q1 : fX1_tableAccess_b173 r 22 (Int32.ofNat v.1) X 0 Y = some rf := by
      obtain ⟨w, ew⟩ := m_ofn (k := 1) (i := X) (j := 1) km (by decide) At
      unfold fX1_tableAccess_b173
      refine e9_t k1 (e9_b Cr.2.2.1.1.2.1 (e9_t km (e9_b ew ?_)))
      by_cases c : w = Y.toInt64
      · exact e9_t c f195
      · exact e9_f c f195
    unfold fX1_tableAccess_b157
    by_cases c1 : Int32.ofNat v.1 = 312
    · exact e9_t c1 q1
    · by_cases c2 : Int32.ofNat v.1 = 314
      · exact e9_f c1 (e9_t c2 q1)
      · exact e9_f c1 (e9_f c2 f195)
  have f122 : ∀ {X Y x4 : Int32}, fX1_tableAccess_b122 r 22 (Int32.ofNat v.1) X Y x4 0 = some rf := fun {X Y x4} => by
    unfold fX1_tableAccess_b122
    by_cases c : x4 = 0
    · obtain ⟨w, ew⟩ := m_ofn (k := 1) (i := X) (j := 1) km (by decide) At
      exact e9_t c (e9_t k1 (e9_b Cr.2.2.1.1.2.1 (e9_t km (e9_b ew f157))))
    · obtain ⟨w, ew⟩ := it_n (i := X * 7 + 5) a4 (by omega)
      exact e9_f c (e9_t k1 (e9_b Cr.2.2.1.1.2.1 (e9_t km (e9_b a1 (e9_b ew f157)))))
  -- the first operand is a table
  have tab1 : ¬ v.1 = 312 → ¬ v.1 = 313 → ∀ {Y : Option pm_H}, fX1_tableAccess_b81 r 22 (Int32.ofNat v.1) (Int32.ofNat q) (Int32.ofNat u) 0 (if q < (spT M).length then 1 else 0) = Y → fX1_tableAccess r 22 (Int32.ofNat v.1) = Y := fun n1 n2 {Y} h => by
    unfold fX1_tableAccess
    refine e9_t k1 (e9_b Cr.2.2.1.1.2.2 (e9_t Cr.1.1 (e9_l (e9_l (e9_f (by rw [i312]; exact n1) (e9_f (by rw [i313]; exact n2) ?_))))))
    rw [Ir.2.2.1, Ir.2.2.2.1, ev, ev2, idx_v x63, idx_v y63, ← eq, ← eu]
    unfold fX1_tableAccess_b41
    refine e9_t rfl (e9_t k1 (e9_b Cr.2.2.1.1.2.1 (e9_t km ?_)))
    rw [nn_t6 q32]
    exact e9_b hsq h
  -- it is an element segment
  have elm1 : (v.1 = 312 ∨ v.1 = 313) → ∀ {Y : Option pm_H}, fX1_tableAccess_b81 r 22 (Int32.ofNat v.1) (Int32.ofNat q) (Int32.ofNat u) 1 (if q < M.2.2.2.2.2.2.2.1.length then 1 else 0) = Y → fX1_tableAccess r 22 (Int32.ofNat v.1) = Y := fun n1 {Y} h => by
    have q1 : fX1_tableAccess_b36 r 22 (Int32.ofNat v.1) (Int32.ofNat q) (Int32.ofNat u) = Y := by
      unfold fX1_tableAccess_b36 fX1_tableAccess_b41
      refine e9_f (by decide) (e9_t k1 (e9_b Cr.2.2.1.1.2.1 (e9_t km (e9_b a1 (e9_t a4 ?_)))))
      rw [a5, dv_7 (by omega)]
      by_cases c : q < M.2.2.2.2.2.2.2.1.length
      · rw [if_pos c] at h
        exact e9_f (by rw [nn_le (by omega) q32]; omega) h
      · rw [if_neg c] at h
        exact e9_t (by rw [nn_le (by omega) q32]; omega) h
    unfold fX1_tableAccess
    refine e9_t k1 (e9_b Cr.2.2.1.1.2.2 (e9_t Cr.1.1 (e9_l (e9_l ?_))))
    rw [Ir.2.2.1, Ir.2.2.2.1, ev, ev2, idx_v x63, idx_v y63, ← eq, ← eu]
    rcases n1 with c | c
    · exact e9_t (by rw [i312]; exact c) q1
    · exact e9_f (by rw [i312]; omega) (e9_t (by rw [i313]; exact c) q1)
  -- the second operand is a table too
  have two : (v.1 = 312 ∨ v.1 = 314) → ∀ {x4 s0 : Int32} {Y : Option pm_H}, s0 = 1 → fX1_tableAccess_b122 r 22 (Int32.ofNat v.1) (Int32.ofNat q) (Int32.ofNat u) x4 (if u < (spT M).length then 1 else 0) = Y → fX1_tableAccess_b81 r 22 (Int32.ofNat v.1) (Int32.ofNat q) (Int32.ofNat u) x4 s0 = Y := fun n1 {x4 s0 Y} es h => by
    have q1 : fX1_tableAccess_b97 r 22 (Int32.ofNat v.1) (Int32.ofNat q) (Int32.ofNat u) x4 s0 = Y := by
      unfold fX1_tableAccess_b97
      refine e9_f (by rw [es]; decide) (e9_t k1 (e9_b Cr.2.2.1.1.2.1 (e9_t km ?_)))
      rw [nn_t6 u32]
      refine e9_b hsu ?_
      by_cases c : u < (spT M).length
      · rw [if_pos c] at h ⊢
        exact e9_f (by decide) h
      · rw [if_neg c] at h ⊢
        exact e9_t rfl h
    unfold fX1_tableAccess_b81
    rcases n1 with c | c
    · exact e9_t (by rw [i312]; exact c) q1
    · exact e9_f (by rw [i312]; omega) (e9_t (by rw [i314]; exact c) q1)
  have twoN : (v.1 = 312 ∨ v.1 = 314) → ∀ {x4 : Int32}, fX1_tableAccess_b81 r 22 (Int32.ofNat v.1) (Int32.ofNat q) (Int32.ofNat u) x4 0 = some rf := fun n1 {x4} => by
    have q1 : fX1_tableAccess_b97 r 22 (Int32.ofNat v.1) (Int32.ofNat q) (Int32.ofNat u) x4 0 = some rf := by
      unfold fX1_tableAccess_b97
      exact e9_t rfl f122
    unfold fX1_tableAccess_b81
    rcases n1 with c | c
    · exact e9_t (by rw [i312]; exact c) q1
    · exact e9_f (by rw [i312]; omega) (e9_t (by rw [i314]; exact c) q1)
  have one : ¬ v.1 = 312 → ¬ v.1 = 314 → ∀ {x4 s0 : Int32} {Y : Option pm_H}, fX1_tableAccess_b122 r 22 (Int32.ofNat v.1) (Int32.ofNat q) (Int32.ofNat u) x4 s0 = Y → fX1_tableAccess_b81 r 22 (Int32.ofNat v.1) (Int32.ofNat q) (Int32.ofNat u) x4 s0 = Y := fun n1 n2 {x4 s0 Y} h => by
    unfold fX1_tableAccess_b81
    exact e9_f (by rw [i312]; exact n1) (e9_f (by rw [i314]; exact n2) h)
  -- the table's type
  have typ : ∀ {q x : Nat} {a : tImp}, q = x → (spT M)[x]? = some a → fX7_of r mm 1 (Int32.ofNat q) 1 = some (Int64.ofNat a.2.1) := fun {q x a} e h => by
    obtain ⟨xt, -, e1, pe⟩ := m_of (k := 1) (j := 1) (i := q) km (by decide) At (by rw [e]; exact some_lt h) (by decide)
    obtain ⟨-, y1, -⟩ := pe a (by rw [e]; exact h)
    rw [y1] at e1
    exact e1
  have fin1 : ∀ {a : tImp} {Y : Option pm_H}, (spT M)[x]? = some a → ¬ v.1 = 312 → ¬ v.1 = 314 → fX1_tableAccess_b195 r 22 (Int32.ofNat v.1) 1 (Int32.ofNat a.2.1) 1 = Y → fX1_tableAccess_b122 r 22 (Int32.ofNat v.1) (Int32.ofNat q) (Int32.ofNat u) 0 1 = Y := fun {a Y} h n1 n2 g => by
    have xl := some_lt h
    unfold fX1_tableAccess_b122
    refine e9_t rfl (e9_t k1 (e9_b Cr.2.2.1.1.2.1 (e9_t km (e9_b (typ (show q = x by rw [eq, if_pos (by omega)]) h) ?_))))
    unfold fX1_tableAccess_b157
    refine e9_f (by rw [i312]; exact n1) (e9_f (by rw [i314]; exact n2) ?_)
    unfold fX1_tableAccess_b190
    rw [ll_t3]
    exact g
  by_cases c312 : v.1 = 312
  · have es : kSg M Dc lt v.1 x y = (match M.2.2.2.2.2.2.2.1[x]?, (spT M)[y]? with
      | some e, some t => if e.2.2.1.1 = t.2.1 then some (127, 127, 127, 0) else none
      | _, _ => none) := by rw [c312]; rfl
    have pre : ∀ {Y : Option pm_H}, fX1_tableAccess_b81 r 22 (Int32.ofNat v.1) (Int32.ofNat q) (Int32.ofNat u) 1 (if q < M.2.2.2.2.2.2.2.1.length then 1 else 0) = Y → fX1_tableAccess r 22 (Int32.ofNat v.1) = Y := elm1 (.inl c312)
    cases ee : M.2.2.2.2.2.2.2.1[x]? with
    | none =>
      rw [ee] at es
      have nx : ¬ q < M.2.2.2.2.2.2.2.1.length := by rw [qE]; have := List.getElem?_eq_none_iff.mp ee; omega
      rw [if_neg nx] at pre
      exact ⟨rf, pre (twoN (.inl c312)), no es⟩
    | some e =>
      rw [ee] at es
      have xl := some_lt ee
      have qx : q < M.2.2.2.2.2.2.2.1.length := by rw [qE]; exact xl
      have xq : q = x := by rw [eq, if_pos (by omega)]
      rw [if_pos qx] at pre
      cases et : (spT M)[y]? with
      | none =>
        rw [et] at es
        have ny : ¬ u < (spT M).length := by rw [uT]; have := List.getElem?_eq_none_iff.mp et; omega
        exact ⟨rf, pre (two (.inl c312) rfl (by rw [if_neg ny]; exact f122)), no es⟩
      | some a =>
        rw [et] at es
        have es : kSg M Dc lt v.1 x y = if e.2.2.1.1 = a.2.1 then some (127, 127, 127, 0) else none := es
        have yl := some_lt et
        have uy : u < (spT M).length := by rw [uT]; exact yl
        have yu : u = y := by rw [eu, if_pos (by omega)]
        have t1 := isT_lt (hT a (List.mem_of_getElem? et))
        have t2 := isT_lt (hE e (List.mem_of_getElem? ee))
        have ei : fX12_item r xe (Int32.ofNat q * 7 + 5) = some (Int32.ofNat e.2.2.1.1) := by
          rw [show Int32.ofNat q * 7 + 5 = Int32.ofNat (q * 7 + 5) by rw [show (7 : Int32) = Int32.ofNat 7 from rfl, show (5 : Int32) = Int32.ofNat 5 from rfl, nn_ml, nn_ad]]
          have pe := a7 x e ee
          rw [← pe.2.2.2.2.2.1, ← xq]
          exact it_v a4 (by omega) (by omega)
        have g122 : ∀ {Y : Option pm_H}, (if e.2.2.1.1 = a.2.1 then fX1_tableAccess_b195 r 22 (Int32.ofNat v.1) 1 (Int32.ofNat e.2.2.1.1) 1 else fX1_tableAccess_b195 r 22 (Int32.ofNat v.1) 1 (Int32.ofNat e.2.2.1.1) 0) = Y → fX1_tableAccess_b122 r 22 (Int32.ofNat v.1) (Int32.ofNat q) (Int32.ofNat u) 1 1 = Y := fun {Y} g => by
          unfold fX1_tableAccess_b122
          refine e9_f (by decide) (e9_t k1 (e9_b Cr.2.2.1.1.2.1 (e9_t km (e9_b a1 (e9_b ei ?_)))))
          unfold fX1_tableAccess_b157
          refine e9_t (by rw [i312]; exact c312) ?_
          unfold fX1_tableAccess_b173
          refine e9_t k1 (e9_b Cr.2.2.1.1.2.1 (e9_t km (e9_b (typ yu et) ?_)))
          have cc : (Int64.ofNat a.2.1 = (Int32.ofNat e.2.2.1.1).toInt64) = (a.2.1 = e.2.2.1.1) := by rw [nn_t6 (by omega), ll_eq (by omega) (by omega)]
          by_cases d : e.2.2.1.1 = a.2.1
          · rw [if_pos d] at g; exact e9_t (by rw [cc]; exact d.symm) g
          · rw [if_neg d] at g; exact e9_f (by rw [cc]; exact fun h => d h.symm) g
        by_cases d : e.2.2.1.1 = a.2.1
        · rw [if_pos d] at es
          rw [ex, ey] at es
          obtain ⟨r1, e1, E1⟩ := x_yes C I S hl eh rm es (.inr isT_127) (.inr isT_127) (.inr isT_127) (.inl rfl)
          refine ⟨r1, pre (two (.inl c312) rfl ?_), E1⟩
          rw [if_pos uy]
          refine g122 ?_
          rw [if_pos d]
          unfold fX1_tableAccess_b195
          exact e9_f (by decide) (e9_f (by decide) (e9_f (by rw [i37]; omega) (e9_f (by rw [i38]; omega) (e9_f (by rw [i313]; omega) (e9_f (by rw [i315]; omega) (e9_f (by rw [i316]; omega) (e9_f (by rw [i317]; omega) (e9_t k1 (e9_b e1 rfl)))))))))
        · rw [if_neg d] at es
          refine ⟨rf, pre (two (.inl c312) rfl ?_), no es⟩
          rw [if_pos uy]
          refine g122 ?_
          rw [if_neg d]
          unfold fX1_tableAccess_b195
          exact e9_f (by decide) (e9_t rfl (e9_t k1 (e9_b ef rfl)))
  by_cases c313 : v.1 = 313
  · have es : kSg M Dc lt v.1 x y = (if x < M.2.2.2.2.2.2.2.1.length then some (0, 0, 0, 0) else none) := by rw [c313]; rfl
    by_cases d : x < M.2.2.2.2.2.2.2.1.length
    · rw [if_pos d] at es
      rw [ex, ey] at es
      obtain ⟨r1, e1, E1⟩ := x_yes C I S hl eh rm es (.inl rfl) (.inl rfl) (.inl rfl) (.inl rfl)
      refine ⟨r1, elm1 (.inr c313) (one c312 (by omega) ?_), E1⟩
      rw [if_pos (by rw [qE]; exact d)]
      obtain ⟨w, ew⟩ := it_n (i := Int32.ofNat q * 7 + 5) a4 (by omega)
      unfold fX1_tableAccess_b122
      refine e9_f (by decide) (e9_t k1 (e9_b Cr.2.2.1.1.2.1 (e9_t km (e9_b a1 (e9_b ew ?_)))))
      unfold fX1_tableAccess_b157
      refine e9_f (by rw [i312]; exact c312) (e9_f (by rw [i314]; omega) ?_)
      unfold fX1_tableAccess_b190 fX1_tableAccess_b195
      exact e9_f (by decide) (e9_f (by decide) (e9_f (by rw [i37]; omega) (e9_f (by rw [i38]; omega) (e9_t (by rw [i313]; exact c313) (e9_t k1 (e9_b e1 rfl))))))
    · rw [if_neg d] at es
      refine ⟨rf, elm1 (.inr c313) (one c312 (by omega) ?_), no es⟩
      rw [if_neg (by rw [qE]; exact d)]
      exact f122
  have pre := @tab1 c312 c313
  by_cases c314 : v.1 = 314
  · have es : kSg M Dc lt v.1 x y = (match (spT M)[x]?, (spT M)[y]? with
      | some e, some t => if e.2.1 = t.2.1 then some (127, 127, 127, 0) else none
      | _, _ => none) := by rw [c314]; rfl
    cases ee : (spT M)[x]? with
    | none =>
      rw [ee] at es
      have nx : ¬ q < (spT M).length := by rw [qT]; have := List.getElem?_eq_none_iff.mp ee; omega
      rw [if_neg nx] at pre
      exact ⟨rf, pre (twoN (.inr c314)), no es⟩
    | some e =>
      rw [ee] at es
      have xl := some_lt ee
      have qx : q < (spT M).length := by rw [qT]; exact xl
      have xq : q = x := by rw [eq, if_pos (by omega)]
      rw [if_pos qx] at pre
      cases et : (spT M)[y]? with
      | none =>
        rw [et] at es
        have ny : ¬ u < (spT M).length := by rw [uT]; have := List.getElem?_eq_none_iff.mp et; omega
        exact ⟨rf, pre (two (.inr c314) rfl (by rw [if_neg ny]; exact f122)), no es⟩
      | some a =>
        rw [et] at es
        have es : kSg M Dc lt v.1 x y = if e.2.1 = a.2.1 then some (127, 127, 127, 0) else none := es
        have yl := some_lt et
        have uy : u < (spT M).length := by rw [uT]; exact yl
        have yu : u = y := by rw [eu, if_pos (by omega)]
        have t1 := isT_lt (hT a (List.mem_of_getElem? et))
        have t2 := isT_lt (hT e (List.mem_of_getElem? ee))
        have g122 : ∀ {Y : Option pm_H}, (if e.2.1 = a.2.1 then fX1_tableAccess_b195 r 22 (Int32.ofNat v.1) 1 (Int32.ofNat e.2.1) 1 else fX1_tableAccess_b195 r 22 (Int32.ofNat v.1) 1 (Int32.ofNat e.2.1) 0) = Y → fX1_tableAccess_b122 r 22 (Int32.ofNat v.1) (Int32.ofNat q) (Int32.ofNat u) 0 1 = Y := fun {Y} g => by
          unfold fX1_tableAccess_b122
          refine e9_t rfl (e9_t k1 (e9_b Cr.2.2.1.1.2.1 (e9_t km (e9_b (typ xq ee) ?_))))
          rw [ll_t3]
          unfold fX1_tableAccess_b157
          refine e9_f (by rw [i312]; exact c312) (e9_t (by rw [i314]; exact c314) ?_)
          unfold fX1_tableAccess_b173
          refine e9_t k1 (e9_b Cr.2.2.1.1.2.1 (e9_t km (e9_b (typ yu et) ?_)))
          have cc : (Int64.ofNat a.2.1 = (Int32.ofNat e.2.1).toInt64) = (a.2.1 = e.2.1) := by rw [nn_t6 (by omega), ll_eq (by omega) (by omega)]
          by_cases d : e.2.1 = a.2.1
          · rw [if_pos d] at g; exact e9_t (by rw [cc]; exact d.symm) g
          · rw [if_neg d] at g; exact e9_f (by rw [cc]; exact fun h => d h.symm) g
        by_cases d : e.2.1 = a.2.1
        · rw [if_pos d] at es
          rw [ex, ey] at es
          obtain ⟨r1, e1, E1⟩ := x_yes C I S hl eh rm es (.inr isT_127) (.inr isT_127) (.inr isT_127) (.inl rfl)
          refine ⟨r1, pre (two (.inr c314) rfl ?_), E1⟩
          rw [if_pos uy]
          refine g122 ?_
          rw [if_pos d]
          unfold fX1_tableAccess_b195
          exact e9_f (by decide) (e9_f (by decide) (e9_f (by rw [i37]; omega) (e9_f (by rw [i38]; omega) (e9_f (by rw [i313]; omega) (e9_f (by rw [i315]; omega) (e9_f (by rw [i316]; omega) (e9_f (by rw [i317]; omega) (e9_t k1 (e9_b e1 rfl)))))))))
        · rw [if_neg d] at es
          refine ⟨rf, pre (two (.inr c314) rfl ?_), no es⟩
          rw [if_pos uy]
          refine g122 ?_
          rw [if_neg d]
          unfold fX1_tableAccess_b195
          exact e9_f (by decide) (e9_t rfl (e9_t k1 (e9_b ef rfl)))
  have es : kSg M Dc lt v.1 x y = (match (spT M)[x]? with
    | none => none
    | some t => if v.1 = 37 then some (127, 0, 0, t.2.1) else if v.1 = 38 then some (t.2.1, 127, 0, 0) else if v.1 = 315 then some (127, t.2.1, 0, 127) else if v.1 = 316 then some (0, 0, 0, 127) else some (127, t.2.1, 127, 0)) := by
    rcases (show v.1 = 37 ∨ v.1 = 38 ∨ v.1 = 315 ∨ v.1 = 316 ∨ v.1 = 317 by omega) with e | e | e | e | e <;> rw [e] <;> rfl
  cases ee : (spT M)[x]? with
  | none =>
    rw [ee] at es
    have nx : ¬ q < (spT M).length := by rw [qT]; have := List.getElem?_eq_none_iff.mp ee; omega
    rw [if_neg nx] at pre
    exact ⟨rf, pre (one c312 c314 f122), no es⟩
  | some a =>
    rw [ee] at es
    have es : kSg M Dc lt v.1 x y = if v.1 = 37 then some (127, 0, 0, a.2.1) else if v.1 = 38 then some (a.2.1, 127, 0, 0) else if v.1 = 315 then some (127, a.2.1, 0, 127) else if v.1 = 316 then some (0, 0, 0, 127) else some (127, a.2.1, 127, 0) := es
    have xl := some_lt ee
    have qx : q < (spT M).length := by rw [qT]; exact xl
    rw [if_pos qx] at pre
    have t1 := hT a (List.mem_of_getElem? ee)
    have go : ∀ {Y : Option pm_H}, fX1_tableAccess_b195 r 22 (Int32.ofNat v.1) 1 (Int32.ofNat a.2.1) 1 = Y → fX1_tableAccess r 22 (Int32.ofNat v.1) = Y := fun {Y} g => pre (one c312 c314 (fin1 ee c312 c314 g))
    rw [ex, ey] at es
    by_cases c37 : v.1 = 37
    · rw [if_pos c37] at es
      obtain ⟨r1, e1, E1⟩ := x_yes C I S hl eh rm es (.inr isT_127) (.inl rfl) (.inl rfl) (.inr t1)
      refine ⟨r1, go ?_, E1⟩
      unfold fX1_tableAccess_b195
      exact e9_f (by decide) (e9_f (by decide) (e9_t (by rw [i37]; exact c37) (e9_t k1 (e9_b e1 rfl))))
    rw [if_neg c37] at es
    by_cases c38 : v.1 = 38
    · rw [if_pos c38] at es
      obtain ⟨r1, e1, E1⟩ := x_yes C I S hl eh rm es (.inr t1) (.inr isT_127) (.inl rfl) (.inl rfl)
      refine ⟨r1, go ?_, E1⟩
      unfold fX1_tableAccess_b195
      exact e9_f (by decide) (e9_f (by decide) (e9_f (by rw [i37]; exact c37) (e9_t (by rw [i38]; exact c38) (e9_t k1 (e9_b e1 rfl)))))
    rw [if_neg c38] at es
    by_cases c315 : v.1 = 315
    · rw [if_pos c315] at es
      obtain ⟨r1, e1, E1⟩ := x_yes C I S hl eh rm es (.inr isT_127) (.inr t1) (.inl rfl) (.inr isT_127)
      refine ⟨r1, go ?_, E1⟩
      unfold fX1_tableAccess_b195
      exact e9_f (by decide) (e9_f (by decide) (e9_f (by rw [i37]; exact c37) (e9_f (by rw [i38]; exact c38) (e9_f (by rw [i313]; exact c313) (e9_t (by rw [i315]; exact c315) (e9_t k1 (e9_b e1 rfl)))))))
    rw [if_neg c315] at es
    by_cases c316 : v.1 = 316
    · rw [if_pos c316] at es
      obtain ⟨r1, e1, E1⟩ := x_yes C I S hl eh rm es (.inl rfl) (.inl rfl) (.inl rfl) (.inr isT_127)
      refine ⟨r1, go ?_, E1⟩
      unfold fX1_tableAccess_b195
      exact e9_f (by decide) (e9_f (by decide) (e9_f (by rw [i37]; exact c37) (e9_f (by rw [i38]; exact c38) (e9_f (by rw [i313]; exact c313) (e9_f (by rw [i315]; exact c315) (e9_t (by rw [i316]; exact c316) (e9_t k1 (e9_b e1 rfl))))))))
    rw [if_neg c316] at es
    obtain ⟨r1, e1, E1⟩ := x_yes C I S hl eh rm es (.inr isT_127) (.inr t1) (.inr isT_127) (.inl rfl)
    refine ⟨r1, go ?_, E1⟩
    unfold fX1_tableAccess_b195
    exact e9_f (by decide) (e9_f (by decide) (e9_f (by rw [i37]; exact c37) (e9_f (by rw [i38]; exact c38) (e9_f (by rw [i313]; exact c313) (e9_f (by rw [i315]; exact c315) (e9_f (by rw [i316]; exact c316) (e9_t (by rw [i317]; omega) (e9_t k1 (e9_b e1 rfl)))))))))
end XTBA
