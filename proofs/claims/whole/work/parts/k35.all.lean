/-! THE CLASS READS: all sections -/
theorem li_lt {o : Option Nat} {pl : Nat} {b : Bool} (ho : ∀ x, o = some x → x < 2147483648) (hp : pl < 2147483648) : ∀ x, liM o pl b = some x → x < 2147483648 := by
  intro x e
  unfold liM at e
  split at e
  · split at e
    · cases e; exact hp
    · cases e; exact ho _ rfl
  · exact ho x e
theorem impS_n {B : Nat → Nat} {e p p' : Nat} {l : List tImp} (hp : p ≤ e) (q : sp_impS B e p = .inr (l, p')) : l.length ≤ e := by
  unfold sp_impS at q
  obtain ⟨c, p1, e1, e2⟩ := b_inv q
  have h1 := sp_num_b hp e1
  have h2 := rows_n (e := e) (fun p v p' z hz => sp_imp_b hz z) c p1 l p' e2 h1.2
  omega
/-- what a section leaves -/
theorem secC_v {B : Nat → Nat} {e : Nat} {d : Bool} {id pl : Nat} {M M2 : tMd} {p p' l0 la : Nat} (hid : id < 13) (O : ordI l0 M) (hl : id = 0 ∨ l0 < rk id) (hla : la = if id = 0 then l0 else rk id) (he : e ≤ 40960) (hp : p ≤ e) (hpl : pl < 2147483648) (hM : ∀ x, M.2.2.2.2.2.2.2.2.2.2.2.2.2 = some x → x < 2147483648) (q : sp_secC B e d id pl M p = .inr (M2, p')) : ordI la M2 ∧ (∀ x, M2.2.2.2.2.2.2.2.2.2.2.2.2.2 = some x → x < 2147483648) ∧ M2.2.2.2.2.2.2.2.2.2.2.2.2.1 = M.2.2.2.2.2.2.2.2.2.2.2.2.1 := by
  obtain ⟨o3, o4, o5, o6, oI⟩ := O
  by_cases c0 : id = 0
  · subst c0
    have hla : la = l0 := hla
    unfold sp_secC sp_sec at q
    rw [if_neg (show ¬ 0 = 10 by decide), if_pos (show (0 : Nat) = 0 from rfl)] at q
    obtain ⟨l, p1, e1, e2⟩ := b_inv q
    cases e2
    refine ⟨⟨fun z => ?_, fun z => ?_, fun z => ?_, fun z => ?_, ?_⟩, ?_, rfl⟩
    · first | (exfalso; omega) | exact o3 (by omega)
    · first | (exfalso; omega) | exact o4 (by omega)
    · first | (exfalso; omega) | exact o5 (by omega)
    · first | (exfalso; omega) | exact o6 (by omega)
    · exact oI
    · exact hM
  by_cases c1 : id = 1
  · subst c1
    have hla : la = 1 := hla
    have hr : l0 < 1 := by { rcases hl with z | z; { exact absurd z (by decide) }; { exact z } }
    unfold sp_secC sp_sec at q
    rw [if_neg (show ¬ 1 = 10 by decide), if_neg (show ¬ 1 = 0 by decide), if_pos (show (1 : Nat) = 1 from rfl)] at q
    obtain ⟨l, p1, e1, e2⟩ := b_inv q
    cases e2
    refine ⟨⟨fun z => ?_, fun z => ?_, fun z => ?_, fun z => ?_, ?_⟩, ?_, rfl⟩
    · first | (exfalso; omega) | exact o3 (by omega)
    · first | (exfalso; omega) | exact o4 (by omega)
    · first | (exfalso; omega) | exact o5 (by omega)
    · first | (exfalso; omega) | exact o6 (by omega)
    · exact oI
    · exact li_lt hM hpl
  by_cases c2 : id = 2
  · subst c2
    have hla : la = 2 := hla
    have hr : l0 < 2 := by { rcases hl with z | z; { exact absurd z (by decide) }; { exact z } }
    unfold sp_secC sp_sec at q
    rw [if_neg (show ¬ 2 = 10 by decide), if_neg (show ¬ 2 = 0 by decide), if_neg (show ¬ 2 = 1 by decide), if_pos (show (2 : Nat) = 2 from rfl)] at q
    obtain ⟨l, p1, e1, e2⟩ := b_inv q
    cases e2
    refine ⟨⟨fun z => ?_, fun z => ?_, fun z => ?_, fun z => ?_, ?_⟩, ?_, rfl⟩
    · first | (exfalso; omega) | exact o3 (by omega)
    · first | (exfalso; omega) | exact o4 (by omega)
    · first | (exfalso; omega) | exact o5 (by omega)
    · first | (exfalso; omega) | exact o6 (by omega)
    · have := impS_n hp e1; exact Nat.le_trans this he
    · exact li_lt hM hpl
  by_cases c3 : id = 3
  · subst c3
    have hla : la = 3 := hla
    have hr : l0 < 3 := by { rcases hl with z | z; { exact absurd z (by decide) }; { exact z } }
    unfold sp_secC sp_sec at q
    rw [if_neg (show ¬ 3 = 10 by decide), if_neg (show ¬ 3 = 0 by decide), if_neg (show ¬ 3 = 1 by decide), if_neg (show ¬ 3 = 2 by decide), if_pos (show (3 : Nat) = 3 from rfl)] at q
    obtain ⟨l, p1, e1, e2⟩ := b_inv q
    cases e2
    refine ⟨⟨fun z => ?_, fun z => ?_, fun z => ?_, fun z => ?_, ?_⟩, ?_, rfl⟩
    · first | (exfalso; omega) | exact o3 (by omega)
    · first | (exfalso; omega) | exact o4 (by omega)
    · first | (exfalso; omega) | exact o5 (by omega)
    · first | (exfalso; omega) | exact o6 (by omega)
    · exact oI
    · exact li_lt hM hpl
  by_cases c4 : id = 4
  · subst c4
    have hla : la = 4 := hla
    have hr : l0 < 4 := by { rcases hl with z | z; { exact absurd z (by decide) }; { exact z } }
    unfold sp_secC sp_sec at q
    rw [if_neg (show ¬ 4 = 10 by decide), if_neg (show ¬ 4 = 0 by decide), if_neg (show ¬ 4 = 1 by decide), if_neg (show ¬ 4 = 2 by decide), if_neg (show ¬ 4 = 3 by decide), if_pos (show (4 : Nat) = 4 from rfl)] at q
    obtain ⟨l, p1, e1, e2⟩ := b_inv q
    cases e2
    refine ⟨⟨fun z => ?_, fun z => ?_, fun z => ?_, fun z => ?_, ?_⟩, ?_, rfl⟩
    · first | (exfalso; omega) | exact o3 (by omega)
    · first | (exfalso; omega) | exact o4 (by omega)
    · first | (exfalso; omega) | exact o5 (by omega)
    · first | (exfalso; omega) | exact o6 (by omega)
    · exact oI
    · exact li_lt hM hpl
  by_cases c5 : id = 5
  · subst c5
    have hla : la = 5 := hla
    have hr : l0 < 5 := by { rcases hl with z | z; { exact absurd z (by decide) }; { exact z } }
    unfold sp_secC sp_sec at q
    rw [if_neg (show ¬ 5 = 10 by decide), if_neg (show ¬ 5 = 0 by decide), if_neg (show ¬ 5 = 1 by decide), if_neg (show ¬ 5 = 2 by decide), if_neg (show ¬ 5 = 3 by decide), if_neg (show ¬ 5 = 4 by decide), if_pos (show (5 : Nat) = 5 from rfl)] at q
    obtain ⟨l, p1, e1, e2⟩ := b_inv q
    cases e2
    refine ⟨⟨fun z => ?_, fun z => ?_, fun z => ?_, fun z => ?_, ?_⟩, ?_, rfl⟩
    · first | (exfalso; omega) | exact o3 (by omega)
    · first | (exfalso; omega) | exact o4 (by omega)
    · first | (exfalso; omega) | exact o5 (by omega)
    · first | (exfalso; omega) | exact o6 (by omega)
    · exact oI
    · exact li_lt hM hpl
  by_cases c6 : id = 6
  · subst c6
    have hla : la = 6 := hla
    have hr : l0 < 6 := by { rcases hl with z | z; { exact absurd z (by decide) }; { exact z } }
    unfold sp_secC sp_sec at q
    rw [if_neg (show ¬ 6 = 10 by decide), if_neg (show ¬ 6 = 0 by decide), if_neg (show ¬ 6 = 1 by decide), if_neg (show ¬ 6 = 2 by decide), if_neg (show ¬ 6 = 3 by decide), if_neg (show ¬ 6 = 4 by decide), if_neg (show ¬ 6 = 5 by decide), if_pos (show (6 : Nat) = 6 from rfl)] at q
    obtain ⟨l, p1, e1, e2⟩ := b_inv q
    cases e2
    refine ⟨⟨fun z => ?_, fun z => ?_, fun z => ?_, fun z => ?_, ?_⟩, ?_, rfl⟩
    · first | (exfalso; omega) | exact o3 (by omega)
    · first | (exfalso; omega) | exact o4 (by omega)
    · first | (exfalso; omega) | exact o5 (by omega)
    · first | (exfalso; omega) | exact o6 (by omega)
    · exact oI
    · exact li_lt hM hpl
  by_cases c7 : id = 7
  · subst c7
    have hla : la = 7 := hla
    have hr : l0 < 7 := by { rcases hl with z | z; { exact absurd z (by decide) }; { exact z } }
    unfold sp_secC sp_sec at q
    rw [if_neg (show ¬ 7 = 10 by decide), if_neg (show ¬ 7 = 0 by decide), if_neg (show ¬ 7 = 1 by decide), if_neg (show ¬ 7 = 2 by decide), if_neg (show ¬ 7 = 3 by decide), if_neg (show ¬ 7 = 4 by decide), if_neg (show ¬ 7 = 5 by decide), if_neg (show ¬ 7 = 6 by decide), if_pos (show (7 : Nat) = 7 from rfl)] at q
    obtain ⟨l, p1, e1, e2⟩ := b_inv q
    cases e2
    refine ⟨⟨fun z => ?_, fun z => ?_, fun z => ?_, fun z => ?_, ?_⟩, ?_, rfl⟩
    · first | (exfalso; omega) | exact o3 (by omega)
    · first | (exfalso; omega) | exact o4 (by omega)
    · first | (exfalso; omega) | exact o5 (by omega)
    · first | (exfalso; omega) | exact o6 (by omega)
    · exact oI
    · exact li_lt hM hpl
  by_cases c8 : id = 8
  · subst c8
    have hla : la = 8 := hla
    have hr : l0 < 8 := by { rcases hl with z | z; { exact absurd z (by decide) }; { exact z } }
    unfold sp_secC sp_sec at q
    rw [if_neg (show ¬ 8 = 10 by decide), if_neg (show ¬ 8 = 0 by decide), if_neg (show ¬ 8 = 1 by decide), if_neg (show ¬ 8 = 2 by decide), if_neg (show ¬ 8 = 3 by decide), if_neg (show ¬ 8 = 4 by decide), if_neg (show ¬ 8 = 5 by decide), if_neg (show ¬ 8 = 6 by decide), if_neg (show ¬ 8 = 7 by decide), if_pos (show (8 : Nat) = 8 from rfl)] at q
    obtain ⟨l, p1, e1, e2⟩ := b_inv q
    cases e2
    refine ⟨⟨fun z => ?_, fun z => ?_, fun z => ?_, fun z => ?_, ?_⟩, ?_, rfl⟩
    · first | (exfalso; omega) | exact o3 (by omega)
    · first | (exfalso; omega) | exact o4 (by omega)
    · first | (exfalso; omega) | exact o5 (by omega)
    · first | (exfalso; omega) | exact o6 (by omega)
    · exact oI
    · exact hM
  by_cases c9 : id = 9
  · subst c9
    have hla : la = 9 := hla
    have hr : l0 < 9 := by { rcases hl with z | z; { exact absurd z (by decide) }; { exact z } }
    unfold sp_secC sp_sec at q
    rw [if_neg (show ¬ 9 = 10 by decide), if_neg (show ¬ 9 = 0 by decide), if_neg (show ¬ 9 = 1 by decide), if_neg (show ¬ 9 = 2 by decide), if_neg (show ¬ 9 = 3 by decide), if_neg (show ¬ 9 = 4 by decide), if_neg (show ¬ 9 = 5 by decide), if_neg (show ¬ 9 = 6 by decide), if_neg (show ¬ 9 = 7 by decide), if_neg (show ¬ 9 = 8 by decide), if_pos (show (9 : Nat) = 9 from rfl)] at q
    obtain ⟨l, p1, e1, e2⟩ := b_inv q
    cases e2
    refine ⟨⟨fun z => ?_, fun z => ?_, fun z => ?_, fun z => ?_, ?_⟩, ?_, rfl⟩
    · first | (exfalso; omega) | exact o3 (by omega)
    · first | (exfalso; omega) | exact o4 (by omega)
    · first | (exfalso; omega) | exact o5 (by omega)
    · first | (exfalso; omega) | exact o6 (by omega)
    · exact oI
    · exact li_lt hM hpl
  by_cases c10 : id = 10
  · subst c10
    have hla : la = 11 := hla
    have hr : l0 < 11 := by { rcases hl with z | z; { exact absurd z (by decide) }; { exact z } }
    unfold sp_secC at q
    rw [if_pos (show (10 : Nat) = 10 from rfl)] at q
    obtain ⟨l, p1, e1, e2⟩ := b_inv q
    cases e2
    refine ⟨⟨fun z => ?_, fun z => ?_, fun z => ?_, fun z => ?_, ?_⟩, ?_, rfl⟩
    · first | (exfalso; omega) | exact o3 (by omega)
    · first | (exfalso; omega) | exact o4 (by omega)
    · first | (exfalso; omega) | exact o5 (by omega)
    · first | (exfalso; omega) | exact o6 (by omega)
    · exact oI
    · exact li_lt hM hpl
  by_cases c11 : id = 11
  · subst c11
    have hla : la = 12 := hla
    have hr : l0 < 12 := by { rcases hl with z | z; { exact absurd z (by decide) }; { exact z } }
    unfold sp_secC sp_sec at q
    rw [if_neg (show ¬ 11 = 10 by decide), if_neg (show ¬ 11 = 0 by decide), if_neg (show ¬ 11 = 1 by decide), if_neg (show ¬ 11 = 2 by decide), if_neg (show ¬ 11 = 3 by decide), if_neg (show ¬ 11 = 4 by decide), if_neg (show ¬ 11 = 5 by decide), if_neg (show ¬ 11 = 6 by decide), if_neg (show ¬ 11 = 7 by decide), if_neg (show ¬ 11 = 8 by decide), if_neg (show ¬ 11 = 9 by decide), if_neg (show ¬ 11 = 10 by decide), if_pos (show (11 : Nat) = 11 from rfl)] at q
    obtain ⟨l, p1, e1, e2⟩ := b_inv q
    cases e2
    refine ⟨⟨fun z => ?_, fun z => ?_, fun z => ?_, fun z => ?_, ?_⟩, ?_, rfl⟩
    · first | (exfalso; omega) | exact o3 (by omega)
    · first | (exfalso; omega) | exact o4 (by omega)
    · first | (exfalso; omega) | exact o5 (by omega)
    · first | (exfalso; omega) | exact o6 (by omega)
    · exact oI
    · exact li_lt hM hpl
  by_cases c12 : id = 12
  · subst c12
    have hla : la = 10 := hla
    have hr : l0 < 10 := by { rcases hl with z | z; { exact absurd z (by decide) }; { exact z } }
    unfold sp_secC sp_sec at q
    rw [if_neg (show ¬ 12 = 10 by decide), if_neg (show ¬ 12 = 0 by decide), if_neg (show ¬ 12 = 1 by decide), if_neg (show ¬ 12 = 2 by decide), if_neg (show ¬ 12 = 3 by decide), if_neg (show ¬ 12 = 4 by decide), if_neg (show ¬ 12 = 5 by decide), if_neg (show ¬ 12 = 6 by decide), if_neg (show ¬ 12 = 7 by decide), if_neg (show ¬ 12 = 8 by decide), if_neg (show ¬ 12 = 9 by decide), if_neg (show ¬ 12 = 10 by decide), if_neg (show ¬ 12 = 11 by decide)] at q
    obtain ⟨l, p1, e1, e2⟩ := b_inv q
    cases e2
    refine ⟨⟨fun z => ?_, fun z => ?_, fun z => ?_, fun z => ?_, ?_⟩, ?_, rfl⟩
    · first | (exfalso; omega) | exact o3 (by omega)
    · first | (exfalso; omega) | exact o4 (by omega)
    · first | (exfalso; omega) | exact o5 (by omega)
    · first | (exfalso; omega) | exact o6 (by omega)
    · exact oI
    · exact hM
  omega
/-- as sp_secs reads, with the class's own limit; how many there are is asked afterwards -/
def sp_secsC (B : Nat → Nat) (n : Nat) : Nat → Nat → tMd → Nat → sp_O tMd
  | 0, _, _, _ => .inl (0, 0)
  | N + 1, last, M, p => if n ≤ p then .inr (M, p) else sp_b (sp_hd B n last p) fun v p2 => sp_b (sp_b (sp_secC B (p2 + v.2) (isS (M.2.2.2.2.2.2.2.2.2.2.2.2.1 12)) v.1 p (sec1 M v.1 p) p2) fun M2 p3 => if p3 < p2 + v.2 then .inl (3, p3) else .inr (M2, p3)) fun M2 p3 => sp_secsC B n N (if v.1 = 0 then last else rk v.1) M2 p3
theorem run_secs {A : Nat → Prop} {h0 : pm_H} {n b mm me sh lo : Nat} {B : Nat → Nat} {q : Int32} (E : eng A h0) (hlo : 19 < lo ∧ me < lo ∧ sh < lo ∧ b < lo ∧ mm < lo) (shb : sh ≠ b) : ∀ (N last p i : Nat) (M : tMd) (h : pm_H), n < p + N → clS h n b mm me sh lo last (isS (M.2.2.2.2.2.2.2.2.2.2.2.2.1 12)) B M → ordI last M → last < 13 → p ≤ n → i + 8 ≤ p → (∀ x, M.2.2.2.2.2.2.2.2.2.2.2.2.2 = some x → x < 2147483648) → pr_F A h0 (rc h (Int32.ofNat p) 0 q) → match sp_secsC B n N last M p with
    | .inl (fl, pl) => wDead A h0 b mm me sh (s69 n mm i (rc h (Int32.ofNat p) 0 q)) fl pl
    | .inr (M', p') => ∃ h' la, s69 n mm i (rc h (Int32.ofNat p) 0 q) = s97 mm (rc h' (Int32.ofNat p') 0 q) ∧ clS h' n b mm me sh lo la (isS (M'.2.2.2.2.2.2.2.2.2.2.2.2.1 12)) B M' ∧ pr_F A h0 (rc h' (Int32.ofNat p') 0 q) ∧ p' = n := by
  intro N
  induction N with
  | zero => intro last p i M h h1 _ _ _ h2; omega
  | succ N ih =>
    intro last p i M h h1 C O hl hp hi hli F
    have K9 := C.2.1.1.1
    have n4 := C.2.1.1.2.2.2.2.2.2.1
    have i10 := C.2.2.2.1
    have i2 := C.2.1.2.2.1
    unfold sp_secsC
    by_cases c : n ≤ p
    · rw [if_pos c]
      exact ⟨h, last, s69_end E F K9 rfl (show ¬ 0 ≤ pm_I h 19 10 by rw [i10]; decide) (show pm_I h 19 2 ≤ Int32.ofNat p by rw [i2, nn_le (by omega) (by omega)]; exact c) i, C, F, by omega⟩
    · rw [if_neg c]
      have HD := head C (show p < n by omega) hl hlo.1 q
      cases hh : sp_hd B n last p with
      | inl z =>
        rw [hh] at HD
        rw [sp_bl]
        obtain ⟨hfl, D⟩ := HD
        refine w_dead E F K9 rfl (.inr ?_) (by omega) (by omega) hfl D
        show Int32.ofNat p < pm_I h 19 2
        rw [i2, nn_lt (by omega) (by omega)]
        omega
      | inr z =>
        obtain ⟨⟨id, sz⟩, p2⟩ := z
        rw [hh] at HD
        rw [sp_br]
        obtain ⟨h2, AD, C2, hid, hpp, hp2, hl2⟩ := HD
        have hid : id < 13 := hid
        have hp2 : p2 + sz ≤ n := hp2
        have W := sec_any E hp2 (show p < 2147483648 by omega) C2 hlo shb hli hi hpp F K9 ⟨i10, i2⟩ (show p < n by omega) hid O hl2 AD rfl
        cases hs : (sp_b (sp_secC B (p2 + sz) (isS (M.2.2.2.2.2.2.2.2.2.2.2.2.1 12)) id p (sec1 M id p) p2) fun M2 p3 => if p3 < p2 + sz then (.inl (3, p3) : sp_O tMd) else .inr (M2, p3)) with
        | inl z =>
          rw [hs] at W
          exact W
        | inr z =>
          obtain ⟨M2, p3⟩ := z
          rw [hs] at W
          obtain ⟨h', i', s1, C3, F3, hi3, hp3, hn3⟩ := W
          obtain ⟨M3, p4, e1, e2⟩ := b_inv hs
          have e3 : M3 = M2 ∧ p4 = p3 := by
            split at e2
            · cases e2
            · cases e2; exact ⟨rfl, rfl⟩
          obtain ⟨rfl, rfl⟩ := e3
          obtain ⟨O3, L3, S3⟩ := secC_v (l0 := last) hid (show ordI last (sec1 M id p) from O) hl2 rfl (show p2 + sz ≤ 40960 by omega) (show p2 ≤ p2 + sz by omega) (show p < 2147483648 by omega) (show ∀ x, (sec1 M id p).2.2.2.2.2.2.2.2.2.2.2.2.2 = some x → x < 2147483648 from hli) e1
          rw [← S3] at C3
          have la13 : (if id = 0 then last else rk id) < 13 := by
            split
            · exact hl
            · exact rk_13 hid
          have I := ih (if id = 0 then last else rk id) p4 i' M3 h' (by omega) C3 O3 la13 (by omega) hi3 L3 F3
          rw [s1]
          exact I
