/-! THE CLASS READS a module, as sp_all reads it -/
theorem mg_k {β : Type} {B : Nat → Nat} {n : Nat} (K : Nat → sp_O β) : ∀ k p, sp_mg B n K k p = sp_b (sp_mg B n (fun p => (.inr ((), p) : sp_O Unit)) k p) fun _ p => K p := by
  intro k
  induction k with
  | zero => intro p; rfl
  | succ k ih =>
    intro p
    unfold sp_mg
    rw [sp_bb]
    refine congrArg (sp_b (sp_next B n p)) (funext fun v => funext fun p1 => ?_)
    by_cases c : v = mg k
    · rw [if_pos c, if_pos c]; exact ih p1
    · rw [if_neg c, if_neg c]; rfl
/-- the class has refused: fl at pl -/
def rNo (g : Option pm_H) (n b mm me sh fl pl : Nat) : Prop := (0 < fl ∧ fl < 100) ∧ ∃ r X h' a, g = some r ∧ s69 n mm 0 r = s97 mm X ∧ fX9_finish X 19 = some (rc h' a (Int32.ofNat fl) (Int32.ofNat pl)) ∧ dT h' b mm me sh
/-- the class has read M -/
def rYes (g : Option pm_H) (n b mm me sh lo : Nat) (B : Nat → Nat) (q : Int32) (M : tMd) : Prop := ∃ r h' la, g = some r ∧ s69 n mm 0 r = s97 mm (rc h' (Int32.ofNat n) 0 q) ∧ fX9_finish (rc h' (Int32.ofNat n) 0 q) 19 = some (rc h' (Int32.ofNat n) 0 q) ∧ clS h' n b mm me sh lo la (isS (M.2.2.2.2.2.2.2.2.2.2.2.2.1 12)) B M
theorem Rl_0 : Rl 0 M0 M0 := ⟨none, rfl, .inl rfl, fun z => absurd z (by decide), fun _ => rfl⟩
theorem ord_0 : ordI 0 M0 := ⟨fun _ => rfl, fun _ => rfl, fun _ => rfl, fun _ => rfl, Nat.zero_le _⟩
theorem sl_self {M : tMd} {x : Option Nat} (e : x = M.2.2.2.2.2.2.2.2.2.2.2.2.2) : sl M x = M := by
  obtain ⟨a1, a2, a3, a4, a5, a6, a7, a8, a9, a10, a11, a12, a13, a14⟩ := M
  rw [e]
  rfl
theorem dead_fin {A : Nat → Prop} {h0 : pm_H} {n b mm me sh fl pl : Nat} {g : Option pm_H} {r : pm_H} (e : g = some r) (W : wDead A h0 b mm me sh (s69 n mm 0 r) fl pl) : rNo g n b mm me sh fl pl := by
  obtain ⟨hfl, h', a, e1, T, F⟩ := W
  obtain ⟨r2, h2, a2, e2, ew, N⟩ := cd_fin (q := Int32.ofNat pl) T (nz_fl hfl) a
  have ew : r2 = _ := ew
  subst ew
  exact ⟨hfl, r, _, h2, a2, e, e1, e2, dT_n T N⟩
theorem reads {A : Nat → Prop} {h0 h1 : pm_H} {n b mm me sh lo : Nat} {B : Nat → Nat} {q : Int32} {g : Option pm_H} (E : eng A h0) (C : clS h1 n b mm me sh lo 0 false B M0) (hlo : 19 < lo ∧ me < lo ∧ sh < lo ∧ b < lo ∧ mm < lo) (shb : sh ≠ b) (eg : g = pm_lim sX9_begin (19, 0, rc h1 0 0 q)) (F : ∀ r, g = some r → pr_F A h0 r) : match sp_all B n with
    | .inl (fl, pl) => rNo g n b mm me sh fl pl
    | .inr (M, _) => rYes g n b mm me sh lo B q M := by
  have LC := C.2.1
  have T := C.2.2.1
  have K9 := LC.1.1
  have hB := LC.1.2.2.2.2.2.2.2.2.2
  have MG := mag_c LC.1 LC.2.2.1 q 8 0 rfl (Nat.zero_le _)
  have eg0 : pm_lim sX9_begin (19, Int32.ofNat 0, rc h1 (Int32.ofNat 0) 0 q) = g := eg.symm
  rw [eg0] at MG
  unfold sp_all
  rw [mg_k]
  cases hm : sp_mg B n (fun p => (.inr ((), p) : sp_O Unit)) 8 0 with
  | inl z =>
    obtain ⟨fl, pl⟩ := z
    rw [hm] at MG
    rw [sp_bl]
    obtain ⟨hfl, r, h', a, e1, ew, hF⟩ := MG
    have ew : r = rc h' a (Int32.ofNat fl) (Int32.ofNat pl) := ew
    have hF : h' = h1 := hF
    subst hF
    subst ew
    exact dead_fin e1 ⟨hfl, h', a, s69_dead E (F _ e1) K9 (nz_fl hfl) 0, T, F _ e1⟩
  | inr z =>
    obtain ⟨u, p⟩ := z
    rw [hm] at MG
    rw [sp_br]
    obtain ⟨r, e1, er, p8, pn⟩ := MG
    have er : r = rc h1 (Int32.ofNat p) 0 q := er
    have p8 : p = 8 := p8
    have pn : p ≤ n := pn
    subst er
    have RUN := run_secs E hlo shb (n + 1) 0 p 0 M0 h1 (by omega) C ord_0 (by decide) pn (by omega) (fun x hx => by have hx : (none : Option Nat) = some x := hx; cases hx) (F _ e1)
    have REL := secs_rel hB (n := n) (n + 1) 0 p M0 M0 Rl_0
    have PI := secsC_p hB (n := n) (n + 1) 0 p M0
    cases hs : sp_secsC B n (n + 1) 0 M0 p with
    | inl z =>
      obtain ⟨fl, pl⟩ := z
      rw [hs] at RUN REL
      have REL : sp_secs B n (n + 1) 0 M0 p = .inl (fl, pl) := REL
      rw [REL]
      exact dead_fin e1 RUN
    | inr z =>
      obtain ⟨Mc, p'⟩ := z
      rw [hs] at RUN REL
      obtain ⟨h', la, s1, C', F', hp'⟩ := RUN
      have hp' : p' = n := hp'
      subst hp'
      obtain ⟨M, la2, ⟨x, ex, r1, r2, r3⟩, er⟩ := REL
      have ex : Mc = sl M x := ex
      have FO := fin_ok (p := p') C' (PI Mc p' pI_0 hs) q
      have scc : Mc.2.2.1 = M.2.2.1 ∧ Mc.2.2.2.2.2.2.2.2.2.1 = M.2.2.2.2.2.2.2.2.2.1 ∧ Mc.2.2.2.2.2.2.2.2.2.2.2.1 = M.2.2.2.2.2.2.2.2.2.2.2.1 ∧ Mc.2.2.2.2.2.2.2.2.1 = M.2.2.2.2.2.2.2.2.1 := by
        rw [ex]
        obtain ⟨a1, a2, a3, a4, a5, a6, a7, a8, a9, a10, a11, a12, a13, a14⟩ := M
        exact ⟨rfl, rfl, rfl, rfl⟩
      obtain ⟨q1, q2, q3, q4⟩ := scc
      rw [q1, q2, q3, q4] at FO
      have er : sp_secs B p' (p' + 1) 0 M0 p = finT p' M p' := er
      rw [er]
      unfold finT
      by_cases c : M.2.2.1.length = M.2.2.2.2.2.2.2.2.2.1.length
      · rw [if_pos c]
        rw [if_pos c] at FO
        by_cases w : M.2.2.2.2.2.2.2.2.2.2.2.1 = none ∨ M.2.2.2.2.2.2.2.2.2.2.2.1 = some M.2.2.2.2.2.2.2.2.1.length
        · rw [if_pos w]
          rw [if_pos w] at FO
          have xl : x = M.2.2.2.2.2.2.2.2.2.2.2.2.2 := r1.elim (fun z => z) (fun z => by omega)
          rw [ex, sl_self xl] at C'
          exact ⟨_, h', la, e1, s1, FO, C'⟩
        · rw [if_neg w]
          rw [if_neg w] at FO
          exact ⟨by decide, _, _, h', _, e1, s1, FO, C'.2.2.1⟩
      · rw [if_neg c]
        rw [if_neg c] at FO
        exact ⟨by decide, _, _, h', _, e1, s1, FO, C'.2.2.1⟩
