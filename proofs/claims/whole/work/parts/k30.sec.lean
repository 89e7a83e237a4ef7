/-! THE CLASS READS: a section, from its head to its end -/
/-- what the walk gives for o: a fault is told, or another section may begin -/
def wSec {σ : Type} (A : Nat → Prop) (h0 : pm_H) (n b mm me sh lo last p : Nat) (B : Nat → Nat) (q : Int32) (dd : Bool) (mk : σ → tMd) (X : Option pm_H) (o : sp_O σ) : Prop := match o with
  | .inl (fl, pl) => wDead A h0 b mm me sh X fl pl
  | .inr (v, p') => ∃ h' i', X = s69 n mm i' (rc h' (Int32.ofNat p') 0 q) ∧ clS h' n b mm me sh lo last dd B (mk v) ∧ pr_F A h0 (rc h' (Int32.ofNat p') 0 q) ∧ i' + 8 ≤ p' ∧ p < p' ∧ p' ≤ n
theorem rows_m {α : Type} {row : Nat → sp_O α} : ∀ {j p : Nat} {l : List α} {p' : Nat}, sp_rows row j p = .inr (l, p') → ∀ a, a ∈ l → ∃ p q, row p = .inr (a, q)
  | 0, p, l, p', h, a, m => by cases h; cases m
  | j + 1, p, l, p', h, a, m => by
    rw [sp_rows] at h
    obtain ⟨v, p1, e1, e2⟩ := b_inv h
    obtain ⟨l2, p2, e3, e4⟩ := b_inv e2
    cases e4
    rcases List.mem_cons.mp m with e | m
    · exact ⟨p, p1, by rw [e]; exact e1⟩
    · exact rows_m e3 a m
section SEC
variable {A : Nat → Prop} {h0 h h2 : pm_H} {n b mm me sh lo last e p p2 i id : Nat} {d : Bool} {B : Nat → Nat} {M : tMd} {q : Int32}
/-- behind the closing of a section -/
theorem w_close {σ : Type} (E : eng A h0) {Hl hx : pm_H} {p' : Nat} {mk : σ → tMd} {v : σ} {dd : Bool} (F : pr_F A h0 Hl) (K9 : pm_kd Hl 19 = 9) (f0 : pm_I Hl 19 3 = 0) (go : 0 ≤ pm_I Hl 19 10 ∨ pm_I Hl 19 1 < pm_I Hl 19 2) (hi : i + 8 < p') (hn : n ≤ 40960) (he : e ≤ n) (hpe : p' ≤ e) (hpp : p < p') (AD : fX9_advance Hl 19 = (fX9_closeSection (rc hx (Int32.ofNat p') 0 q) 19).bind fun v => fX9_advance_b162 v) (Q : cs_Q wH (dF b mm me sh) (fun (_ : Unit) p' r => ∃ h', r = rc h' (Int32.ofNat p') 0 q ∧ clS h' n b mm me sh lo last dd B (mk v)) (fX9_closeSection (rc hx (Int32.ofNat p') 0 q) 19) (if p' < e then .inl (3, p') else .inr ((), p'))) : wSec A h0 n b mm me sh lo last p B q dd mk (s69 n mm i Hl) (if p' < e then .inl (3, p') else .inr (v, p')) := by
  by_cases c : p' < e
  · rw [if_pos c] at Q ⊢
    obtain ⟨hfl, D⟩ := Q
    refine w_dead E F K9 f0 go (by omega) (by omega) hfl ?_
    rw [AD]
    exact y_h D (fun h2 a2 T2 => y_r (a := a2) rfl T2)
  · rw [if_neg c] at Q ⊢
    obtain ⟨r, e1, h', er, C⟩ := Q
    subst er
    have AD2 : fX9_advance Hl 19 = some (rc h' (Int32.ofNat p') 0 q) := by rw [AD, e1]; rfl
    obtain ⟨s1, F1⟩ := s69_go (mm := mm) (n := n) E F K9 f0 go (show i < n by omega) (by omega) AD2
    exact ⟨h', i + 1, s1, C, F1, by omega, hpp, by omega⟩
/-- the end of an advance that opened a section -/
theorem b138_0 {hx : pm_H} {p' c : Nat} (K9 : pm_kd hx 19 = 9) (i10 : pm_I hx 19 10 = Int32.ofNat id) (hid : id < 13) (i15 : pm_I hx 19 15 = Int32.ofNat 0) (l14 : pm_L hx 19 14 = Int64.ofNat c) (hc : c < 4294967296) : fX9_advance_b138 (rc hx (Int32.ofNat p') 0 q) 19 = if 0 < c then some (rc hx (Int32.ofNat p') 0 q) else (fX9_closeSection (rc hx (Int32.ofNat p') 0 q) 19).bind fun v => fX9_advance_b162 v := by
  have nid : ¬ pm_I (rc hx (Int32.ofNat p') 0 q) 19 10 < 0 := by rw [show pm_I (rc hx (Int32.ofNat p') 0 q) 19 10 = Int32.ofNat id from i10, n3_0, nn_lt (by omega) (by decide)]; omega
  have cmp : ((pm_I (rc hx (Int32.ofNat p') 0 q) 19 15).toInt64 < pm_L (rc hx (Int32.ofNat p') 0 q) 19 14) = (0 < c) := by rw [show pm_I (rc hx (Int32.ofNat p') 0 q) 19 15 = Int32.ofNat 0 from i15, show pm_L (rc hx (Int32.ofNat p') 0 q) 19 14 = Int64.ofNat c from l14, nn_t6 (by decide), ll_lt (by decide) (by omega)]
  unfold fX9_advance_b138
  by_cases z : 0 < c
  · rw [if_pos z]
    exact e9_t K9 (e9_f nid (e9_t (by rw [cmp]; exact z) rfl))
  · rw [if_neg z]
    exact e9_t K9 (e9_f nid (e9_f (by rw [cmp]; exact z) rfl))
/-- a section with rows -/
theorem sec_rows (E : eng A h0) {α : Type} {P : pm_H → Nat → Nat → α → Prop} {k w j N : Nat} {pre : List α} {bg : α → Bool} {row : Nat → sp_O α} {X : pm_H → Option pm_H} {M1 : tMd} {L0 : Nat → Int32} {pl : Nat} {σ : Type} {mk : List α → tMd} {bx : Option pm_H} {dd : Bool} (st : stP P w) (hid : id < 13) (hpre : pre.length ≤ N) (s3 : 19 < lo ∧ me < lo ∧ sh < lo ∧ b < lo ∧ mm < lo) (shb : sh ≠ b) (hen : e ≤ n) (hn : n ≤ 40960) (hp2 : p2 ≤ e) (hi : i + 8 ≤ p) (hpp : p < p2) (F : pr_F A h0 (rc h (Int32.ofNat p) 0 q)) (K9 : pm_kd h 19 = 9) (go : pm_I h 19 10 = -1 ∧ pm_I h 19 2 = Int32.ofNat n) (hpn : p < n) (hB : ∀ i, B i < 256)
    (AD : fX9_advance (rc h (Int32.ofNat p) 0 q) 19 = bx.bind fun v => fX9_advance_b138 v 19)
    (OP : cs_Q wH (dF b mm me sh) (fun c p3 r => ∃ h' x, r = rc h' (Int32.ofNat p3) 0 q ∧ oR P h' n b mm me sh e x k j w N (if e - p3 < c then e - p3 else c) d B id lo last pl c M1 pre [] (L0 c) bg) bx (sp_num B e p2))
    (adv : ∀ H, pm_kd H 19 = 9 → pm_I H 19 10 = Int32.ofNat id → fX9_advance H 19 = (X H).bind fun v => fX9_advance_b128 v 19)
    (rs : ∀ h x kept l p, oS h n b mm me sh e x k j w N kept l.length d B → cQ P h x w N l → (p < e → l.length < kept) → p ≤ e → cs_Q wH (dF b mm me sh) (rS P x me sh w N e p l bg h q) (X (rc h (Int32.ofNat p) 0 q)) (row p))
    (CL : ∀ h x l p' c, c < 4294967296 → (if e - p' < c then e - p' else c) ≤ c → oR P h n b mm me sh e x k j w N l.length d B id lo last pl l.length M1 pre l (L0 l.length) bg → p' ≤ e → l.length ≤ 40960 → (∀ a, a ∈ l → ∃ p q, row p = .inr (a, q)) → cs_Q wH (dF b mm me sh) (fun (_ : Unit) p' r => ∃ h', r = rc h' (Int32.ofNat p') 0 q ∧ clS h' n b mm me sh lo last dd B (mk l)) (fX9_closeSection (rc h (Int32.ofNat p') 0 q) 19) (if p' < e then .inl (3, p') else .inr ((), p'))) (rowb : ∀ p v p', row p = .inr (v, p') → p ≤ e → p < p' ∧ p' ≤ e) :
    wSec A h0 n b mm me sh lo last p B q dd mk (s69 n mm i (rc h (Int32.ofNat p) 0 q)) (sp_b (sp_num B e p2) fun c p3 => sp_b (sp_rows row c p3) fun l p' => if p' < e then .inl (3, p') else .inr (l, p')) := by
  have go' : 0 ≤ pm_I (rc h (Int32.ofNat p) 0 q) 19 10 ∨ pm_I (rc h (Int32.ofNat p) 0 q) 19 1 < pm_I (rc h (Int32.ofNat p) 0 q) 19 2 := .inr (by rw [rc_1, show pm_I (rc h (Int32.ofNat p) 0 q) 19 2 = Int32.ofNat n from go.2, nn_lt (by omega) (by omega)]; exact hpn)
  cases hnum : sp_num B e p2 with
  | inl z =>
    rw [hnum] at OP
    obtain ⟨hfl, D⟩ := OP
    rw [sp_bl]
    refine w_dead E F K9 rfl go' (by omega) (by omega) hfl ?_
    rw [AD]
    exact y_h D (fun h2 a2 T2 => cd_138 T2 (nz_fl hfl) a2)
  | inr z =>
    obtain ⟨c, p3⟩ := z
    have cl : c < 4294967296 := sp_nu_v hB (by decide) (by decide) (by decide) hnum
    have pb := sp_num_b hp2 hnum
    rw [hnum] at OP
    obtain ⟨r, eb, h', x, er, O⟩ := OP
    subst er
    rw [sp_br]
    have O' := O
    obtain ⟨S, C, CM, ⟨x1, x2⟩, i10, i11, i12, l14, pr, l5⟩ := O'
    have K9' : pm_kd h' 19 = 9 := S.1.1.1
    have i15 := S.2.2.2.2.2.1
    have BB := b138_0 (q := q) (p' := p3) K9' i10 hid i15 l14 cl
    by_cases c0 : 0 < c
    · rw [if_pos c0] at BB
      have AD2 : fX9_advance (rc h (Int32.ofNat p) 0 q) 19 = some (rc h' (Int32.ofNat p3) 0 q) := by
        rw [AD, eb]; exact BB
      obtain ⟨s1, F1⟩ := s69_go (mm := mm) (n := n) E F K9 rfl go' (show i < n by omega) (by omega) AD2
      have RUN := run_rows (c := c) (p1 := p3) (kept := if e - p3 < c then e - p3 else c) (x := x) E st hid hpre s3 shb rfl cl hen hn adv (fun h l p => rs h x _ l p) c [] p3 (i + 1) h' (by rw [List.length_nil]; omega) c0 O pb.2 (by rw [List.length_nil]; omega) (by omega) F1
      cases hr : sp_rows row c p3 with
      | inl z =>
        rw [hr] at RUN
        rw [sp_bl]
        obtain ⟨hfl, h9, a9, e9', T9, F9⟩ := RUN
        exact ⟨hfl, h9, a9, s1.trans e9', T9, F9⟩
      | inr z =>
        obtain ⟨l, p'⟩ := z
        rw [hr] at RUN
        rw [sp_br]
        obtain ⟨h9, Hl, i', t1, t2, t3, t4, t5, t6, t7, t8, t9, t10⟩ := RUN
        rw [List.nil_append] at t10
        obtain ⟨rl, rl2, -⟩ := rows_n rowb c p3 l p' hr pb.2
        have kc : (if e - p3 < c then e - p3 else c) = l.length := by rw [rl]; exact if_neg (by omega)
        rw [kc, ← rl] at t10
        rw [s1.trans t1]
        refine w_close E t5 t6 t7 (.inl t8) t2 hn hen t3 (by omega) t9 (CL h9 x l p' c cl (by split <;> omega) t10 t3 (by omega) (rows_m hr))
    · have c00 : c = 0 := by omega
      subst c00
      rw [if_neg c0] at BB
      rw [sp_rows, sp_br]
      have AD2 : fX9_advance (rc h (Int32.ofNat p) 0 q) 19 = (fX9_closeSection (rc h' (Int32.ofNat p3) 0 q) 19).bind fun v => fX9_advance_b162 v := by
        rw [AD, eb]; exact BB
      have k0 : (if e - p3 < 0 then e - p3 else 0) = ([] : List α).length := by rw [List.length_nil]; exact if_neg (by omega)
      rw [k0] at O
      exact w_close E F K9 rfl go' (by omega) hn hen pb.2 (by omega) AD2 (CL h' x [] p3 0 (by decide) (by split <;> omega) O pb.2 (Nat.zero_le _) (fun a m => by cases m))
end SEC
