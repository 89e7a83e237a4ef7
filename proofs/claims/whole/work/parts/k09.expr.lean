/-! THE CLASS READS: an expression -/
theorem n9_of {x : Int32} (h : ¬ x < 0) : ∃ k, k < 2147483648 ∧ x = Int32.ofNat k := by
  have h0 : 0 ≤ x := Int32.not_lt.mp h
  refine ⟨x.toNatClampNeg, ?_, (Int32.ofNat_toNatClampNeg x h0).symm⟩
  have := Int32.toNatClampNeg_lt x
  omega
theorem in_x {x : Int32} {n : Nat} (hn : n < 2147483648) (h0 : ¬ x < 0) (h1 : ¬ Int32.ofNat n ≤ x) : pm_in x n := by
  obtain ⟨k, hk, rfl⟩ := n9_of h0
  rw [nn_in hk]
  rw [nn_le hn hk] at h1
  omega
/-- what holds of each value that may be read -/
def sA {α : Type} (P : α → Prop) (o : sp_O α) : Prop := ∀ v p', o = .inr (v, p') → P v
theorem sA_b {α β : Type} {P : β → Prop} {o : sp_O α} {k : α → Nat → sp_O β} (h : ∀ v p, sA P (k v p)) : sA P (sp_b o k) := by
  intro v p' q
  cases o with
  | inl w => cases q
  | inr x => exact h x.1 x.2 v p' q
theorem sA_r {α : Type} {P : α → Prop} {v : α} {p : Nat} (h : P v) : sA P (.inr (v, p)) := fun v' p' q => by cases q; exact h
theorem sA_l {α : Type} {P : α → Prop} {w : Nat × Nat} : sA P (.inl w) := fun v' p' q => by cases q
theorem sA_i {α : Type} {P : α → Prop} {c : Prop} {i : Decidable c} {a b : sp_O α} (u : c → sA P a) (v : ¬ c → sA P b) : sA P (@ite _ c i a b) := by
  by_cases h : c
  · rw [if_pos h]; exact u h
  · rw [if_neg h]; exact v h
theorem sp_ops_1 (B : Nat → Nat) (e : Nat) (d : Bool) (op p0 p : Nat) : sA (fun v : sp_I => v.1 = op ∨ 200 ≤ v.1) (sp_ops B e d op p0 p) := by
  unfold sp_ops sp_fur
  have Z : ∀ {x y : Int64} {b : Bool} {p : Nat}, sA (fun v : sp_I => v.1 = op ∨ 200 ≤ v.1) (.inr ((op, x, y, b), p)) := sA_r (.inl rfl)
  have W : ∀ {k : Nat} {x y : Int64} {b : Bool} {p : Nat}, sA (fun v : sp_I => v.1 = op ∨ 200 ≤ v.1) (.inr ((300 + k, x, y, b), p)) := sA_r (.inr (show 200 ≤ 300 + _ by omega))
  exact sA_i (fun _ => Z) (fun _ => sA_i (fun _ => sA_b fun _ _ => Z) (fun _ => sA_i (fun _ => sA_b fun _ _ => sA_b fun _ _ => Z) (fun _ => sA_i (fun _ => sA_b fun _ _ => sA_b fun _ _ => Z) (fun _ => sA_i (fun _ => sA_b fun _ _ => sA_b fun _ _ => Z) (fun _ => sA_i (fun _ => sA_b fun _ _ => Z) (fun _ => sA_i (fun _ => sA_b fun _ _ => Z) (fun _ => sA_i (fun _ => sA_b fun _ _ => Z) (fun _ => sA_i (fun _ => sA_b fun _ _ => Z) (fun _ => sA_i (fun _ => sA_b fun _ _ => Z) (fun _ => sA_i (fun _ => sA_b fun _ _ => Z) (fun _ => sA_i (fun _ => sA_b fun _ _ => sA_i (fun _ => sA_l) (fun _ => sA_i (fun _ => sA_l) (fun _ => sA_i (fun _ => sA_r (.inr (show 200 ≤ 200 + _ by omega))) (fun _ => sA_i (fun _ => sA_b fun _ _ => sA_b fun _ _ => W) (fun _ => sA_i (fun _ => sA_b fun _ _ => sA_b fun _ _ => W) (fun _ => sA_i (fun _ => sA_b fun _ _ => W) (fun _ => sA_i (fun _ => sA_b fun _ _ => sA_b fun _ _ => W) (fun _ => sA_b fun _ _ => W)))))))) (fun _ => sA_l))))))))))))
theorem sp_in_b {B : Nat → Nat} {e : Nat} {d : Bool} {p p' : Nat} {v : sp_I} (q : sp_in B e d p = .inr (v, p')) : p < p' ∧ p' ≤ e := by
  unfold sp_in at q
  have nx : ∀ c p1, sp_next B e p = .inr (c, p1) → p1 = p + 1 ∧ p1 ≤ e := fun c p1 z => by have := sp_next_b z; omega
  cases hn : sp_next B e p with
  | inl w => rw [hn] at q; cases q
  | inr x =>
    obtain ⟨h1, h2⟩ := nx x.1 x.2 hn
    rw [hn] at q
    have u : sp_up (if x.1 = 5 ∨ x.1 = 11 then .inr ((x.1, 0, 0, false), x.2) else if 2 ≤ x.1 ∧ x.1 ≤ 4 then sp_b (sp_blk B e x.2) fun t p2 => .inr ((x.1, t, 0, false), p2) else sp_ops B e d x.1 p x.2 : sp_O sp_I) x.2 e := up_i (up_r h2) (up_i (up_b (up_blk h2) fun _ _ _ h3 => up_r h3) (up_ops h2))
    have := u v p' q
    omega
theorem sp_in_2 {B : Nat → Nat} {e : Nat} {d : Bool} {p p' : Nat} {v : sp_I} (q : sp_in B e d p = .inr (v, p')) (h1 : 2 ≤ v.1) (h2 : v.1 ≤ 4) : p + 1 < p' := by
  unfold sp_in at q
  cases hn : sp_next B e p with
  | inl w => rw [hn] at q; cases q
  | inr x =>
    obtain ⟨b1, b2, b3⟩ := sp_next_b hn
    rw [hn] at q
    have q : (if x.1 = 5 ∨ x.1 = 11 then .inr ((x.1, 0, 0, false), x.2) else if 2 ≤ x.1 ∧ x.1 ≤ 4 then sp_b (sp_blk B e x.2) fun t p2 => .inr ((x.1, t, 0, false), p2) else sp_ops B e d x.1 p x.2 : sp_O sp_I) = .inr (v, p') := q
    by_cases c1 : x.1 = 5 ∨ x.1 = 11
    · rw [if_pos c1] at q; cases q; exfalso; dsimp only at h1 h2; omega
    rw [if_neg c1] at q
    by_cases c2 : 2 ≤ x.1 ∧ x.1 ≤ 4
    · rw [if_pos c2] at q
      cases hb : sp_blk B e x.2 with
      | inl w => rw [hb] at q; cases q
      | inr y =>
        have : x.2 < y.2 ∧ y.2 ≤ e := by
          unfold sp_blk at hb
          split at hb
          · next z => cases hb; exact ⟨Nat.lt_succ_self _, by omega⟩
          · cases hs : sp_sig B e 33 x.2 with
            | inl w => rw [hs] at hb; cases hb
            | inr u =>
              have ub := sp_sig_b (show x.2 ≤ e by omega) (show sp_sig B e 33 x.2 = .inr (u.1, u.2) from hs)
              rw [hs] at hb
              have hb : (if 0 ≤ u.1 then .inr (u.1, u.2) else .inl (8, x.2) : sp_O Int64) = .inr y := hb
              split at hb
              · cases hb; exact ub
              · cases hb
        rw [hb] at q
        have q : (.inr ((x.1, y.1, 0, false), y.2) : sp_O sp_I) = .inr (v, p') := q
        cases q
        omega
    · rw [if_neg c2] at q
      have := sp_ops_1 B e d x.1 p x.2 v p' q
      exfalso
      have : v.1 = x.1 ∨ 200 ≤ v.1 := this
      omega
/-- as the class looks: the whole instruction first -/
theorem sp_ex_n (B : Nat → Nat) (e : Nat) (d ob : Bool) (N : Nat) (st : tSt) (p : Nat) : sp_ex B e d ob (N + 1) st p = sp_b (sp_in B e d p) fun v p2 => if v.1 = 11 then (match st with
      | [] => .inr (([], false), p2)
      | s :: r => sp_b (sp_ex B e d ob N r p2) fun w p3 => .inr (((false, s.2.1, p) :: (if s.2.2 = 0 then w.1 else (false, s.2.2, p) :: w.1), w.2), p3))
    else if 2 ≤ v.1 ∧ v.1 ≤ 4 then sp_ex B e d ob N ((v.1, p, 0) :: st) p2
    else if v.1 = 5 then (match st with
      | [] => .inl (10, p)
      | s :: r => if s.1 = 4 then sp_b (sp_ex B e d ob N ((5, s.2.1, p) :: r) p2) fun w p3 => .inr (((true, s.2.1, p) :: w.1, w.2), p3) else .inl (10, p))
    else sp_b (sp_ex B e d ob N st p2) fun w p3 => .inr ((w.1, (v.2.2.2 && ob) || w.2), p3) := by
  have E := sp_ex.eq_def B e d ob (N + 1) st p
  dsimp only at E
  rw [E]
  unfold sp_in sp_next
  by_cases c : p < e
  · rw [if_pos c, if_pos c, sp_bb, sp_br]
    show _ = sp_b (if B p = 5 ∨ B p = 11 then .inr ((B p, 0, 0, false), p + 1) else if 2 ≤ B p ∧ B p ≤ 4 then sp_b (sp_blk B e (p + 1)) fun t p2 => .inr ((B p, t, 0, false), p2) else sp_ops B e d (B p) p (p + 1) : sp_O sp_I) _
    by_cases c11 : B p = 11
    · rw [if_pos c11, if_pos (show B p = 5 ∨ B p = 11 from .inr c11)]
      show _ = (if B p = 11 then _ else _)
      rw [if_pos c11]
      cases st <;> rfl
    rw [if_neg c11]
    by_cases c24 : 2 ≤ B p ∧ B p ≤ 4
    · rw [if_pos c24, if_neg (show ¬ (B p = 5 ∨ B p = 11) by omega), if_pos c24, sp_bb]
      refine congrArg (sp_b (sp_blk B e (p + 1))) (funext fun t => funext fun p2 => ?_)
      show _ = (if B p = 11 then _ else if 2 ≤ B p ∧ B p ≤ 4 then _ else _)
      rw [if_neg c11, if_pos c24]
    rw [if_neg c24]
    by_cases c5 : B p = 5
    · rw [if_pos c5, if_pos (show B p = 5 ∨ B p = 11 from .inl c5)]
      show _ = (if B p = 11 then _ else if 2 ≤ B p ∧ B p ≤ 4 then _ else if B p = 5 then _ else _)
      rw [if_neg c11, if_neg c24, if_pos c5]
      cases st <;> rfl
    · rw [if_neg c5, if_neg (show ¬ (B p = 5 ∨ B p = 11) by omega), if_neg c24]
      cases ho : sp_ops B e d (B p) p (p + 1) with
      | inl w => rfl
      | inr r =>
        have h1 : r.1.1 = B p ∨ 200 ≤ r.1.1 := sp_ops_1 B e d (B p) p (p + 1) r.1 r.2 ho
        show sp_b (sp_ex B e d ob N st r.2) (fun w p3 => .inr ((w.1, (r.1.2.2.2 && ob) || w.2), p3)) = (if r.1.1 = 11 then _ else if 2 ≤ r.1.1 ∧ r.1.1 ≤ 4 then _ else if r.1.1 = 5 then _ else _)
        rw [if_neg (show ¬ r.1.1 = 11 by omega), if_neg (show ¬ (2 ≤ r.1.1 ∧ r.1.1 ≤ 4) by omega), if_neg (show ¬ r.1.1 = 5 by omega)]
  · rw [if_neg c, if_neg c]
    rfl
/-- what an expression may write -/
def exF (me : Nat) (h h' : pm_H) : Prop := gF (fun X Y => X = me ∨ (X = 19 ∧ (Y = 5 ∨ Y = 6 ∨ Y = 7))) (fun X Y => X = 19 ∧ (Y = 8 ∨ Y = 9)) h h'
theorem exF_r (me : Nat) (h : pm_H) : exF me h h := gF_r _ _ h
theorem exF_t {me : Nat} {a b c : pm_H} (p : exF me a b) (q : exF me b c) : exF me a c := gF_t p q
theorem exF_m {me : Nat} (h : pm_H) (k : Nat) (v : Int32) : exF me h (pm_setI h me k v) := gF_I h v (.inl rfl)
theorem exF_i {me : Nat} {h h' : pm_H} (z : iF h h') : exF me h h' := by
  obtain ⟨o, oa, l, x, y, rfl⟩ := z
  refine ⟨rfl, rfl, rfl, rfl, fun X Y n => ?_, fun X Y n => ?_⟩
  · show (if X = 19 then (if Y = 6 then o else if Y = 7 then oa else if Y = 5 then l else pm_I h X Y) else pm_I h X Y) = _
    repeat' split
    all_goals first | rfl | (exfalso; omega)
  · show (if X = 19 then (if Y = 8 then x else if Y = 9 then y else pm_L h X Y) else pm_L h X Y) = _
    repeat' split
    all_goals first | rfl | (exfalso; omega)
/-- what an expression is read with -/
def cE (h : pm_H) (me b mm : Nat) : Prop := pm_R h 19 17 = some me ∧ pm_kd h me = 32 ∧ pm_ln h me = 20481 ∧ me ≠ 19 ∧ me ≠ b ∧ me ≠ mm
theorem cE_F {me b mm : Nat} {h h' : pm_H} (E : cE h me b mm) (g : exF me h h') : cE h' me b mm := by
  obtain ⟨a1, a2, a3, a4⟩ := E
  exact ⟨by rw [g.2.2.2.1]; exact a1, by rw [g.2.1]; exact a2, by rw [g.2.2.1]; exact a3, a4⟩
theorem cS_F {me n b mm : Nat} {B : Nat → Nat} {h h' : pm_H} (C : cS h n b mm B) (E : cE h me b mm) (g : exF me h h') : cS h' n b mm B := by
  obtain ⟨K, rm0, km, rb, kb, lb, hn, b9, hB, hB2⟩ := C
  refine ⟨by rw [g.2.1]; exact K, by rw [g.2.2.2.1]; exact rm0, by rw [g.2.1]; exact km, by rw [g.2.2.2.1]; exact rb, by rw [g.2.1]; exact kb, by rw [g.2.2.1]; exact lb, hn, b9, fun i hi => ?_, hB2⟩
  rw [g.2.2.2.2.1 b i (fun z => z.elim (fun z => E.2.2.2.2.1 z.symm) (fun z => b9 z.1))]
  exact hB i hi
/-- which block that stands open may still have an else -/
def hM (h : pm_H) (me : Nat) : tSt → Prop
  | [] => pm_I h me 0 = 0
  | s :: r => pm_I h me (r.length + 1) = (if s.1 = 4 then 1 else 0) ∧ hM h me r
theorem hM_k {h h' : pm_H} {me : Nat} : ∀ {st : tSt}, hM h me st → (∀ y, y ≤ st.length → pm_I h' me y = pm_I h me y) → hM h' me st
  | [], q, z => (z 0 (Nat.le_refl _)).trans q
  | s :: r, q, z => ⟨(z _ (Nat.le_refl _)).trans q.1, hM_k q.2 (fun y hy => z y (Nat.le_succ_of_le hy))⟩
theorem sp_in_i {P : sp_I → Prop} {B : Nat → Nat} {e : Nat} {d : Bool} {p : Nat} (hb : ∀ i, B i < 256) (h1 : ∀ c x, c < 256 → P (c, x, 0, false)) (h2 : ∀ c p1, c < 256 → ¬ (c = 5 ∨ c = 11) → ¬ (2 ≤ c ∧ c ≤ 4) → sA P (sp_ops B e d c p p1)) : sA P (sp_in B e d p) := by
  unfold sp_in
  intro v p' q
  cases hn : sp_next B e p with
  | inl w => rw [hn] at q; cases q
  | inr x =>
    obtain ⟨b1, b2, b3⟩ := sp_next_b hn
    have hx : x.1 < 256 := by rw [b2]; exact hb p
    rw [hn] at q
    have S : sA P (if x.1 = 5 ∨ x.1 = 11 then .inr ((x.1, 0, 0, false), x.2) else if 2 ≤ x.1 ∧ x.1 ≤ 4 then sp_b (sp_blk B e x.2) fun t p2 => .inr ((x.1, t, 0, false), p2) else sp_ops B e d x.1 p x.2 : sp_O sp_I) := sA_i (fun _ => sA_r (h1 _ _ hx)) (fun c1 => sA_i (fun _ => sA_b fun _ _ => sA_r (h1 _ _ hx)) (fun c2 => h2 _ _ hx c1 c2))
    exact S v p' q
theorem sp_ops_3 (B : Nat → Nat) (e : Nat) (d : Bool) (op p0 p : Nat) (h : op < 256) : sA (fun v : sp_I => v.1 < 1000) (sp_ops B e d op p0 p) := by
  unfold sp_ops sp_fur
  have Z : ∀ {x y : Int64} {b : Bool} {p : Nat}, sA (fun v : sp_I => v.1 < 1000) (.inr ((op, x, y, b), p)) := sA_r (show op < 1000 by omega)
  exact sA_i (fun _ => Z) (fun _ => sA_i (fun _ => sA_b fun _ _ => Z) (fun _ => sA_i (fun _ => sA_b fun _ _ => sA_b fun _ _ => Z) (fun _ => sA_i (fun _ => sA_b fun _ _ => sA_b fun _ _ => Z) (fun _ => sA_i (fun _ => sA_b fun _ _ => sA_b fun _ _ => Z) (fun _ => sA_i (fun _ => sA_b fun _ _ => Z) (fun _ => sA_i (fun _ => sA_b fun _ _ => Z) (fun _ => sA_i (fun _ => sA_b fun _ _ => Z) (fun _ => sA_i (fun _ => sA_b fun _ _ => Z) (fun _ => sA_i (fun _ => sA_b fun _ _ => Z) (fun _ => sA_i (fun _ => sA_b fun _ _ => Z) (fun _ => sA_i (fun _ => sA_b fun k _ => sA_i (fun _ => sA_l) (fun hk => sA_i (fun _ => sA_l) (fun _ => sA_i (fun _ => sA_r (show 200 + k < 1000 by omega)) (fun _ => sA_i (fun _ => sA_b fun _ _ => sA_b fun _ _ => sA_r (show 300 + k < 1000 by omega)) (fun _ => sA_i (fun _ => sA_b fun _ _ => sA_b fun _ _ => sA_r (show 300 + k < 1000 by omega)) (fun _ => sA_i (fun _ => sA_b fun _ _ => sA_r (show 300 + k < 1000 by omega)) (fun _ => sA_i (fun _ => sA_b fun _ _ => sA_b fun _ _ => sA_r (show 300 + k < 1000 by omega)) (fun _ => sA_b fun _ _ => sA_r (show 300 + k < 1000 by omega))))))))) (fun _ => sA_l))))))))))))
theorem sp_in_1 {B : Nat → Nat} {e : Nat} {d : Bool} {p p' : Nat} {v : sp_I} (hb : ∀ i, B i < 256) (q : sp_in B e d p = .inr (v, p')) : v.1 < 1000 := sp_in_i (P := fun v => v.1 < 1000) hb (fun c x hc => show c < 1000 by omega) (fun c p1 hc _ _ => sp_ops_3 B e d c p p1 hc) v p' q
theorem sp_in_f {B : Nat → Nat} (hb : ∀ i, B i < 256) {e : Nat} {d : Bool} {p p' : Nat} {v : sp_I} (q : sp_in B e d p = .inr (v, p')) (h : (2 ≤ v.1 ∧ v.1 ≤ 4) ∨ v.1 = 5 ∨ v.1 = 11) : v.2.2.2 = false := by
  have := sp_in_i (P := fun v => ((2 ≤ v.1 ∧ v.1 ≤ 4) ∨ v.1 = 5 ∨ v.1 = 11) → v.2.2.2 = false) hb (fun c x hc _ => rfl) (fun c p1 hc c1 c2 v p' q h => by have h1 : v.1 = c ∨ 200 ≤ v.1 := sp_ops_1 B e d c p p1 v p' q; omega) v p' q
  exact this h
theorem u_wb {α β ρ : Type} {w : ρ → pm_H} {F F1 : pm_H → Prop} {R : β → Nat → ρ → Prop} {R1 : α → Nat → ρ → Prop} {x : Option ρ} {o1 : sp_O α} {k : α → Nat → sp_O β} (Q : cs_Q w F1 R1 x o1) (hF : ∀ h, F1 h → F h) (K : ∀ v p r, R1 v p r → cs_Q w F R (some r) (k v p)) : cs_Q w F R x (sp_b o1 k) := by
  cases o1 with
  | inl z =>
    obtain ⟨hn, r, h', a, e, ew, hF1⟩ := Q
    exact ⟨hn, r, h', a, e, ew, hF h' hF1⟩
  | inr z =>
    obtain ⟨r, e, h1⟩ := Q
    rw [e]
    exact K z.1 z.2 r h1
section CEX
variable {h h1 : pm_H} {n b mm me e p : Nat} {B : Nat → Nat} {d ob : Bool}
theorem cd_ins' (K : pm_kd h 19 = 9) (rm0 : pm_R h 19 0 = some mm) (km : pm_kd h mm = 7) {f : Int32} (hf : f ≠ 0) (a q : Int32) : cd_Q wH (iF h) f q (fX9_instruction (rc h a f q) 19) := by
  have := cd_ins (h := h) (o := pm_I h 19 6) (oa := pm_I h 19 7) (l := pm_I h 19 5) (x := pm_L h 19 8) (y := pm_L h 19 9) K rm0 km hf a q
  rw [ri_eta] at this
  exact this
theorem cs_ins' (C : cS h n b mm B) (ie : pm_I h 19 2 = Int32.ofNat e) (he : e ≤ n) (hp : p ≤ e) (ib : (pm_I h 19 16 = 0) = (ob = false)) (dt : (0 ≤ pm_L h mm 14) = (d = true)) (q : Int32) : cs_Q wH (iF h) (cRI h (Int32.ofNat p) (pm_I h 19 5) ob q) (fX9_instruction (rc h (Int32.ofNat p) 0 q) 19) (sp_in B e d p) := by
  have := cs_ins (h := h) (o := pm_I h 19 6) (oa := pm_I h 19 7) (l := pm_I h 19 5) (x := pm_L h 19 8) (y := pm_L h 19 9) C ie he hp ib dt q
  rw [ri_eta] at this
  exact this
theorem cd_exh (C : cS h n b mm B) {f : Int32} (hf : f ≠ 0) (a q x1 x2 : Int32) (g : exF me h h1) : cd_Q wH (exF me h) f q (pm_lim sX9_expression (.inl (19, x1, x2, rc h1 a f q))) := by
  obtain ⟨K, rm0, km, rb, kb, lb, -⟩ := C
  have g1 := g.2.1
  have g2 := g.2.2.2.1
  refine z_w (aX9_expression_0 ..) ?_
  unfold tX9_expression_11
  refine z_t (show pm_kd h1 19 = 9 by rw [g1]; exact K) (z_b (show pm_R h1 19 0 = some mm by rw [g2]; exact rm0) (z_t (show pm_kd h1 mm = 7 by rw [g1]; exact km) (z_b (show pm_R h1 mm 0 = some b by rw [g2]; exact rb) (z_t (show pm_kd h1 b = 33 by rw [g1]; exact kb) ?_))))
  exact z_i (fun _ => z_r (y_r (a := a) rfl g)) (fun _ => z_i (fun _ => z_r (y_r (a := a) rfl g)) (fun _ => z_f (show ¬ pm_I (rc h1 a f q) 19 3 = 0 from hf) (z_r (y_r (a := a) rfl g))))
theorem cd_ex97 (C : cS h n b mm B) (E : cE h me b mm) {f : Int32} (hf : f ≠ 0) (a q x1 x2 : Int32) (g : exF me h h1) : cd_Q wH (exF me h) f q (pm_lim sX9_expression (.inr (.inr (19, x1, x2, rc h1 a f q)))) := by
  have g1 := g.2.1
  refine z_w (aX9_expression_2 ..) ?_
  unfold tX9_expression_97
  refine z_t (show pm_kd h1 19 = 9 by rw [g1]; exact C.1) ?_
  exact z_i (fun _ => z_l (z_n (cd_exh C hf _ _ _ _ g))) (fun _ => z_i (fun _ => z_l (z_n (cd_exh C hf _ _ _ _ g))) (fun _ => z_f (show ¬ pm_I (rc h1 a f q) 19 3 = 0 from hf) (z_l (z_n (cd_exh C hf _ _ _ _ g)))))
theorem cd_ex50 (C : cS h n b mm B) (E : cE h me b mm) {f : Int32} (hf : f ≠ 0) (a q x1 x2 : Int32) (g : exF me h h1) : cd_Q wH (exF me h) f q (pm_lim sX9_expression (.inr (.inl (19, x1, x2, rc h1 a f q)))) := by
  have g1 := g.2.1
  have g2 := g.2.2.2.1
  have K1 : pm_kd h1 19 = 9 := by rw [g1]; exact C.1
  have R1 : pm_R h1 19 17 = some me := by rw [g2]; exact E.1
  have K2 : pm_kd h1 me = 32 := by rw [g1]; exact E.2.1
  have L2 : pm_ln h1 me = 20481 := by rw [g.2.2.1]; exact E.2.2.1
  have SET : ∀ (k : Nat) (v : Int32), cd_Q wH (exF me h) f q (pm_lim sX9_expression (.inr (.inr (19, x1, x2, pm_setI (rc h1 a f q) me k v)))) := by
    intro k v
    rw [rc_a _ _ _ _ _ E.2.2.2.1]
    exact cd_ex97 C E hf _ _ _ _ (exF_t g (exF_m h1 k v))
  refine z_w (aX9_expression_1 ..) ?_
  unfold tX9_expression_50
  refine z_t K1 (z_i (fun _ => z_i (fun _ => z_n (cd_ex97 C E hf _ _ _ _ g)) (fun c0 => z_b R1 (z_t K2 (z_i (fun _ => z_n (cd_ex97 C E hf _ _ _ _ g)) (fun c1 => ?_))))) (fun _ => z_n (cd_ex97 C E hf _ _ _ _ g)))
  have hi : pm_in x1 (pm_ln h1 me) := in_x (by rw [L2]; decide) c0 c1
  refine z_t hi (z_i (fun _ => z_b (cd_fail K1 hf _ _ _ _) (z_t K1 (z_b R1 (z_t K2 (z_t hi (z_n (SET _ _))))))) (fun _ => z_t hi (z_n (SET _ _))))
theorem cs_exl (C : cS h n b mm B) (E : cE h me b mm) (ie : pm_I h 19 2 = Int32.ofNat e) (he : e ≤ n) (ib : (pm_I h 19 16 = 0) = (ob = false)) (dt : (0 ≤ pm_L h mm 14) = (d = true)) (q : Int32) : ∀ (N : Nat) (st : tSt) (p i : Nat) (h1 : pm_H), exF me h h1 → hM h1 me st → 2 * st.length ≤ p → i ≤ p → p ≤ e → e + 1 ≤ p + N → cs_Q wH (exF me h) (fun v p' r => ∃ h', r = rc h' (Int32.ofNat p') 0 q ∧ exF me h h' ∧ pm_I h' 19 5 = xv (pm_I h1 19 5) (pm_I h 19 11) v.2) (pm_lim sX9_expression (.inl (19, Int32.ofNat st.length, Int32.ofNat i, rc h1 (Int32.ofNat p) 0 q))) (sp_ex B e d ob N st p) := by
  have n4 := C.2.2.2.2.2.2.1
  have m9 : mm ≠ 19 := fun z => by have := C.2.2.1; rw [z, C.1] at this; exact absurd this (by decide)
  intro N
  induction N with
  | zero => intro st p i h1 _ _ _ _ hp hN; omega
  | succ N ih =>
    intro st p i h1 g M hs hi hp hN
    have C1 := cS_F C E g
    have E1 := cE_F E g
    have ie1 : pm_I h1 19 2 = Int32.ofNat e := (g.2.2.2.2.1 19 2 (fun z => z.elim (fun z => E.2.2.2.1 z.symm) (by omega))).trans ie
    have i16 : pm_I h1 19 16 = pm_I h 19 16 := g.2.2.2.2.1 19 16 (fun z => z.elim (fun z => E.2.2.2.1 z.symm) (by omega))
    have i11 : pm_I h1 19 11 = pm_I h 19 11 := g.2.2.2.2.1 19 11 (fun z => z.elim (fun z => E.2.2.2.1 z.symm) (by omega))
    have l14 : pm_L h1 mm 14 = pm_L h mm 14 := g.2.2.2.2.2 mm 14 (fun z => m9 z.1)
    have ib1 : (pm_I h1 19 16 = 0) = (ob = false) := by rw [i16]; exact ib
    have dt1 : (0 ≤ pm_L h1 mm 14) = (d = true) := by rw [l14]; exact dt
    have K1 := C1.1
    rw [sp_ex_n]
    refine v_w (aX9_expression_0 ..) ?_
    unfold tX9_expression_11
    refine v_t K1 (v_b C1.2.1 (v_t C1.2.2.1 (v_b C1.2.2.2.1 (v_t C1.2.2.2.2.1 (v_f (show ¬ Int32.ofNat (pm_ln h1 b) < Int32.ofNat i by rw [C1.2.2.2.2.2.1, nn_lt (by omega) (by omega)]; omega) (v_f (show ¬ Int32.ofNat st.length < 0 by rw [n3_0, nn_lt (by omega) (by decide)]; omega) (v_t rfl (v_c (cs_ins' C1 ie1 he hp ib1 dt1 q) ?_ ?_))))))))
    · -- a fault in the instruction
      intro r h2 a f q' hf er hF
      have er : r = rc h2 a f q' := er
      subst er
      have g2 := exF_t g (exF_i (me := me) hF)
      exact z_t (show pm_kd h2 19 = 9 by rw [g2.2.1]; exact C.1) (z_i (fun _ => z_l (z_n (cd_ex50 C E hf _ _ _ _ g2))) (fun _ => z_n (cd_ex50 C E hf _ _ _ _ g2)))
    · intro v p2 r e1 er
      have er : r = rc (ri h1 (Int32.ofNat v.1) (Int32.ofNat p) (xv (pm_I h1 19 5) (pm_I h1 19 11) (v.2.2.2 && ob)) v.2.1 v.2.2.1) (Int32.ofNat p2) 0 q := er
      have pb := sp_in_b e1
      have v1000 : v.1 < 1000 := sp_in_1 (C.2.2.2.2.2.2.2.2.2) e1
      obtain ⟨h2, eh2⟩ : ∃ z, z = ri h1 (Int32.ofNat v.1) (Int32.ofNat p) (xv (pm_I h1 19 5) (pm_I h1 19 11) (v.2.2.2 && ob)) v.2.1 v.2.2.1 := ⟨_, rfl⟩
      rw [← eh2] at er
      subst er
      have iF2 : iF h1 h2 := ⟨_, _, _, _, _, eh2⟩
      have g2 := exF_t g (exF_i (me := me) iF2)
      have K2 : pm_kd h2 19 = 9 := by rw [g2.2.1]; exact C.1
      have R2 : pm_R h2 19 17 = some me := by rw [g2.2.2.2.1]; exact E.1
      have KM2 : pm_kd h2 me = 32 := by rw [g2.2.1]; exact E.2.1
      have LM2 : pm_ln h2 me = 20481 := by rw [g2.2.2.1]; exact E.2.2.1
      have o6 : pm_I (rc h2 (Int32.ofNat p2) 0 q) 19 6 = Int32.ofNat v.1 := by rw [eh2]; rfl
      have o7 : pm_I (rc h2 (Int32.ofNat p2) 0 q) 19 7 = Int32.ofNat p := by rw [eh2]; rfl
      have l5 : pm_I h2 19 5 = xv (pm_I h1 19 5) (pm_I h1 19 11) (v.2.2.2 && ob) := by rw [eh2]; rfl
      have me2 : pm_I h2 me = pm_I h1 me := by rw [eh2]; exact ri_x _ _ _ _ _ _ E.2.2.2.1
      have M2 : hM h2 me st := hM_k M (fun y _ => by rw [me2])
      have EQ : ∀ k, k < 1000 → (Int32.ofNat v.1 = Int32.ofNat k) = (v.1 = k) := fun k hk => nn_eq (by omega) (by omega)
      have LT : ∀ k, k < 1000 → (Int32.ofNat v.1 < Int32.ofNat k) = (v.1 < k) := fun k hk => nn_lt (by omega) (by omega)
      have GT : ∀ k, k < 1000 → (Int32.ofNat k < Int32.ofNat v.1) = (k < v.1) := fun k hk => nn_lt (by omega) (by omega)
      have i1 : Int32.ofNat i + 1 = Int32.ofNat (i + 1) := nn_ad i 1
      -- nothing is begun
      have G97 : ∀ {o2 : sp_O tWr} {x1 : Int32} {h3 : pm_H} {R : tWr → Nat → pm_H → Prop}, pm_kd h3 19 = 9 → pm_I (rc h3 (Int32.ofNat p2) 0 q) 19 6 = Int32.ofNat v.1 → ¬ (2 ≤ v.1 ∧ v.1 ≤ 4) → cs_Q wH (exF me h) R (pm_lim sX9_expression (.inl (19, x1, Int32.ofNat (i + 1), rc h3 (Int32.ofNat p2) 0 q))) o2 → cs_Q wH (exF me h) R (pm_lim sX9_expression (.inr (.inr (19, x1, Int32.ofNat i, rc h3 (Int32.ofNat p2) 0 q)))) o2 := by
        intro o2 x1 h3 R k3 o63 hv Q
        refine v_w (aX9_expression_2 ..) ?_
        unfold tX9_expression_97
        rw [o63, i1]
        refine v_t k3 ?_
        by_cases c2 : v.1 < 2
        · exact v_t (show Int32.ofNat v.1 < Int32.ofNat 2 by rw [LT 2 (by decide)]; exact c2) (v_l (v_n Q))
        · exact v_f (show ¬ Int32.ofNat v.1 < Int32.ofNat 2 by rw [LT 2 (by decide)]; exact c2) (v_t (show Int32.ofNat 4 < Int32.ofNat v.1 by rw [GT 4 (by decide)]; omega) (v_l (v_n Q)))
      have N5 : ∀ {o2 : sp_O tWr} {x1 : Int32} {R : tWr → Nat → pm_H → Prop}, ¬ v.1 = 5 → cs_Q wH (exF me h) R (pm_lim sX9_expression (.inr (.inr (19, x1, Int32.ofNat i, rc h2 (Int32.ofNat p2) 0 q)))) o2 → cs_Q wH (exF me h) R (pm_lim sX9_expression (.inr (.inl (19, x1, Int32.ofNat i, rc h2 (Int32.ofNat p2) 0 q)))) o2 := by
        intro o2 x1 R hv Q
        refine v_w (aX9_expression_1 ..) ?_
        unfold tX9_expression_50
        rw [o6]
        exact v_t K2 (v_f (show ¬ Int32.ofNat v.1 = Int32.ofNat 5 by rw [EQ 5 (by decide)]; exact hv) (v_n Q))
      refine v_t K2 ?_
      rw [o6]
      by_cases c11 : v.1 = 11
      · rw [if_pos c11]
        refine v_t (show Int32.ofNat v.1 = Int32.ofNat 11 by rw [c11]) (v_l (v_n (N5 (by omega) (G97 K2 o6 (by omega) ?_))))
        have fl : v.2.2.2 = false := sp_in_f C.2.2.2.2.2.2.2.2.2 e1 (.inr (.inr c11))
        rw [fl, Bool.false_and] at l5
        have l5 : pm_I h2 19 5 = pm_I h1 19 5 := l5
        cases st with
        | nil =>
          -- the end
          refine v_w (aX9_expression_0 ..) ?_
          unfold tX9_expression_11
          have C2 := cS_F C E g2
          refine v_t K2 (v_b C2.2.1 (v_t C2.2.2.1 (v_b C2.2.2.2.1 (v_t C2.2.2.2.2.1 (v_f (show ¬ Int32.ofNat (pm_ln h2 b) < Int32.ofNat (i + 1) by rw [C2.2.2.2.2.2.1, nn_lt (by omega) (by omega)]; omega) (v_t (by decide) (v_r (u_r ⟨h2, rfl, g2, ?_⟩))))))))
          rw [l5]
          rfl
        | cons s r =>
          have ls : (s :: r).length = r.length + 1 := rfl
          rw [show Int32.ofNat (s :: r).length + (-1) = Int32.ofNat r.length from by
            rw [ls, show ((-1 : Int32)) = 0 - 1 by decide]
            have : Int32.ofNat (r.length + 1) + (0 - 1) = Int32.ofNat (r.length + 1) - Int32.ofNat 1 := by
              rw [Int32.sub_eq_add_neg, Int32.sub_eq_add_neg, Int32.zero_add]; rfl
            rw [this, nn_sb (by omega)]
            exact congrArg Int32.ofNat (by omega)]
          have I := ih r p2 (i + 1) h2 g2 M2.2 (by omega) (by omega) (by omega) (by omega)
          refine u_wb I (fun _ z => z) ?_
          rintro w p3 r3 ⟨h', er, g', l'⟩
          exact u_r ⟨h', er, g', by rw [l', l5]⟩
      refine v_f (show ¬ Int32.ofNat v.1 = Int32.ofNat 11 by rw [EQ 11 (by decide)]; exact c11) (v_n ?_)
      rw [if_neg c11]
      by_cases c24 : 2 ≤ v.1 ∧ v.1 ≤ 4
      · rw [if_pos c24]
        have fl : v.2.2.2 = false := sp_in_f C.2.2.2.2.2.2.2.2.2 e1 (.inl c24)
        rw [fl, Bool.false_and] at l5
        have l5 : pm_I h2 19 5 = pm_I h1 19 5 := l5
        have p2' := sp_in_2 e1 c24.1 c24.2
        refine N5 (by omega) (v_w (aX9_expression_2 ..) ?_)
        unfold tX9_expression_97
        rw [o6, i1]
        refine v_t K2 (v_f (show ¬ Int32.ofNat v.1 < Int32.ofNat 2 by rw [LT 2 (by decide)]; omega) (v_f (show ¬ Int32.ofNat 4 < Int32.ofNat v.1 by rw [GT 4 (by decide)]; omega) (v_t rfl (v_l (v_b R2 (v_t KM2 ?_))))))
        rw [show Int32.ofNat st.length + 1 = Int32.ofNat (st.length + 1) from nn_ad _ 1]
        refine v_f (show ¬ Int32.ofNat (pm_ln h2 me) ≤ Int32.ofNat (st.length + 1) by rw [LM2, nn_le (by decide) (by omega)]; omega) ?_
        have hin : pm_in (Int32.ofNat (st.length + 1)) (pm_ln h2 me) := by rw [nn_in (by omega), LM2]; omega
        have G : ∀ (x : Int32), x = (if v.1 = 4 then 1 else 0) → cs_Q wH (exF me h) (fun v p' r => ∃ h', r = rc h' (Int32.ofNat p') 0 q ∧ exF me h h' ∧ pm_I h' 19 5 = xv (pm_I h1 19 5) (pm_I h 19 11) v.2) (pm_lim sX9_expression (.inl (19, Int32.ofNat (st.length + 1), Int32.ofNat (i + 1), pm_setI (rc h2 (Int32.ofNat p2) 0 q) me (Int32.ofNat (st.length + 1)).toNatClampNeg x))) (sp_ex B e d ob N ((v.1, p, 0) :: st) p2) := by
          intro x hx
          rw [rc_a _ _ _ _ _ E.2.2.2.1, nn_cm (by omega)]
          have M3 : hM (pm_setI h2 me (st.length + 1) x) me ((v.1, p, 0) :: st) := ⟨by rw [ev_II, if_pos rfl, if_pos rfl]; exact hx, hM_k M2 (fun y hy => by rw [ev_II, if_pos rfl, if_neg (by omega)])⟩
          have I := ih ((v.1, p, 0) :: st) p2 (i + 1) _ (exF_t g2 (exF_m h2 (st.length + 1) x)) M3 (by rw [List.length_cons]; omega) (by omega) (by omega) (by omega)
          refine u_w I (fun _ z => z) ?_
          rintro w p3 r3 - ⟨h', er, g', l'⟩
          refine ⟨h', er, g', ?_⟩
          rw [l', ev_II, if_neg (fun z => E.2.2.2.1 z.symm), l5]
        by_cases c4 : v.1 = 4
        · exact v_t (show Int32.ofNat v.1 = Int32.ofNat 4 by rw [c4]) (v_t hin (v_l (v_n (G _ (by rw [if_pos c4]; rfl)))))
        · exact v_f (show ¬ Int32.ofNat v.1 = Int32.ofNat 4 by rw [EQ 4 (by decide)]; exact c4) (v_t hin (v_l (v_n (G _ (by rw [if_neg c4]; rfl)))))
      rw [if_neg c24]
      by_cases c5 : v.1 = 5
      · rw [if_pos c5]
        have fl : v.2.2.2 = false := sp_in_f C.2.2.2.2.2.2.2.2.2 e1 (.inr (.inl c5))
        rw [fl, Bool.false_and] at l5
        have l5 : pm_I h2 19 5 = pm_I h1 19 5 := l5
        refine v_w (aX9_expression_1 ..) ?_
        unfold tX9_expression_50
        rw [o6, o7]
        have hin : pm_in (Int32.ofNat st.length) (pm_ln h2 me) := by rw [nn_in (by omega), LM2]; omega
        refine v_t K2 (v_t (show Int32.ofNat v.1 = Int32.ofNat 5 by rw [c5]) (v_f (show ¬ Int32.ofNat st.length < 0 by rw [n3_0, nn_lt (by omega) (by decide)]; omega) (v_b R2 (v_t KM2 (v_f (show ¬ Int32.ofNat (pm_ln h2 me) ≤ Int32.ofNat st.length by rw [LM2, nn_le (by decide) (by omega)]; omega) (v_t hin ?_))))))
        have eZ : pm_I (rc h2 (Int32.ofNat p2) 0 q) me (Int32.ofNat st.length).toNatClampNeg = pm_I h2 me st.length := by rw [nn_cm (show st.length < 2147483648 by omega), rc_x _ _ _ _ E.2.2.2.1]
        have BAD : pm_I h2 me st.length = 0 → cs_Q wH (exF me h) (fun (v : tWr) p' r => ∃ h', r = rc h' (Int32.ofNat p') 0 q ∧ exF me h h' ∧ pm_I h' 19 5 = xv (pm_I h1 19 5) (pm_I h 19 11) v.2) (ev_k sX9_expression (if pm_I (rc h2 (Int32.ofNat p2) 0 q) me (Int32.ofNat st.length).toNatClampNeg = 0 then ((fX9_fail (rc h2 (Int32.ofNat p2) 0 q) 19 10 (Int32.ofNat p)).bind fun v32 => if pm_kd v32 19 = 9 then (pm_R v32 19 17).bind fun v35 => if pm_kd v32 v35 = 32 then if pm_in (Int32.ofNat st.length) (pm_ln v32 v35) then some (.inl (.inr (.inr ((19, Int32.ofNat st.length, Int32.ofNat i, pm_setI v32 v35 (Int32.ofNat st.length).toNatClampNeg (vp_nar .boolean 0)))))) else none else none else none) else (if pm_in (Int32.ofNat st.length) (pm_ln h2 me) then some (.inl (.inr (.inr ((19, Int32.ofNat st.length, Int32.ofNat i, pm_setI (rc h2 (Int32.ofNat p2) 0 q) me (Int32.ofNat st.length).toNatClampNeg (vp_nar .boolean 0)))))) else none))) (.inl (10, p)) := by
          intro z
          refine v_t (eZ.trans z) (v_b (cs_fail K2 _ _ _ _) (v_t K2 (v_b R2 (v_t KM2 (v_t hin (v_n ?_))))))
          rw [rc_a _ _ _ _ _ E.2.2.2.1]
          exact ⟨by decide, cd_ex97 C E (by decide) _ _ _ _ (exF_t g2 (exF_m h2 _ _))⟩
        cases st with
        | nil => exact BAD M2
        | cons s r =>
          by_cases c4 : s.1 = 4
          · have m1 : pm_I h2 me (s :: r).length = 1 := by have := M2.1; rw [if_pos c4] at this; exact this
            show cs_Q _ _ _ _ (if s.1 = 4 then _ else _)
            rw [if_pos c4]
            refine v_f (show ¬ pm_I (rc h2 (Int32.ofNat p2) 0 q) me (Int32.ofNat (s :: r).length).toNatClampNeg = 0 by rw [eZ, m1]; decide) (v_t hin (v_n ?_))
            rw [rc_a _ _ _ _ _ E.2.2.2.1, nn_cm (show (s :: r).length < 2147483648 by omega)]
            have M3 : hM (pm_setI h2 me (s :: r).length (vp_nar .boolean 0)) me ((5, s.2.1, p) :: r) := ⟨by rw [show (s :: r).length = r.length + 1 from rfl, ev_II, if_pos rfl, if_pos rfl]; rfl, hM_k M2.2 (fun y hy => by rw [ev_II, if_pos rfl, if_neg (by have : (s :: r).length = r.length + 1 := rfl; omega)])⟩
            have I := ih ((5, s.2.1, p) :: r) p2 (i + 1) _ (exF_t g2 (exF_m h2 (s :: r).length _)) M3 (by have : (s :: r).length = r.length + 1 := rfl; rw [List.length_cons]; omega) (by omega) (by omega) (by omega)
            refine G97 (by exact K2) (by rw [eh2, show pm_I (rc (pm_setI (ri h1 (Int32.ofNat v.1) (Int32.ofNat p) (xv (pm_I h1 19 5) (pm_I h1 19 11) (v.2.2.2 && ob)) v.2.1 v.2.2.1) me (s :: r).length (vp_nar .boolean 0)) (Int32.ofNat p2) 0 q) 19 6 = pm_I (pm_setI (ri h1 (Int32.ofNat v.1) (Int32.ofNat p) (xv (pm_I h1 19 5) (pm_I h1 19 11) (v.2.2.2 && ob)) v.2.1 v.2.2.1) me (s :: r).length (vp_nar .boolean 0)) 19 6 from rfl, ev_II, if_neg (fun z => E.2.2.2.1 z.symm)]; rfl) c24 ?_
            refine u_wb I (fun _ z => z) ?_
            rintro w p3 r3 ⟨h', er, g', l'⟩
            refine u_r ⟨h', er, g', ?_⟩
            rw [l', ev_II, if_neg (fun z => E.2.2.2.1 z.symm), l5]
          · show cs_Q _ _ _ _ (if s.1 = 4 then _ else _)
            rw [if_neg c4]
            exact BAD (by have := M2.1; rw [if_neg c4] at this; exact this)
      rw [if_neg c5]
      refine N5 c5 (G97 K2 o6 c24 ?_)
      have I := ih st p2 (i + 1) h2 g2 M2 (by omega) (by omega) (by omega) (by omega)
      refine u_wb I (fun _ z => z) ?_
      rintro w p3 r3 ⟨h', er, g', l'⟩
      refine u_r ⟨h', er, g', ?_⟩
      rw [l', l5, i11]
      exact xv_or _ _ _ _
end CEX
