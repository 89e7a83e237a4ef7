/-! THE CLASS READS: the sections with no rows, and section 1 -/
def mk1 (M : tMd) (p : Nat) (l : List tTy) : tMd := (l, M.2.1, M.2.2.1, M.2.2.2.1, M.2.2.2.2.1, M.2.2.2.2.2.1, M.2.2.2.2.2.2.1, M.2.2.2.2.2.2.2.1, M.2.2.2.2.2.2.2.2.1, M.2.2.2.2.2.2.2.2.2.1, M.2.2.2.2.2.2.2.2.2.2.1, M.2.2.2.2.2.2.2.2.2.2.2.1, (sec1 M 1 p).2.2.2.2.2.2.2.2.2.2.2.2.1, liM M.2.2.2.2.2.2.2.2.2.2.2.2.2 p (decide (64 < l.length) || l.any bigT))
theorem rows_ln0 {α : Type} {row : Nat → sp_O α} : ∀ (j p : Nat) (l : List α) (p' : Nat), sp_rows row j p = .inr (l, p') → l.length = j
  | 0, p, l, p', h => by cases h; rfl
  | j + 1, p, l, p', h => by
    rw [sp_rows] at h
    obtain ⟨v, p1, e1, e2⟩ := b_inv h
    obtain ⟨l2, p2, e3, e4⟩ := b_inv e2
    cases e4
    rw [List.length_cons, rows_ln0 j p1 l2 _ e3]
section SECN
variable {A : Nat → Prop} {h0 h h2 : pm_H} {n b mm me sh lo last e p p2 sz i id : Nat} {d : Bool} {B : Nat → Nat} {M : tMd} {q : Int32}
theorem sec_n (E : eng A h0) {σ : Type} {mk : σ → tMd} {bx : Option pm_H} {dd : Bool} {o1 : sp_O σ} (hid : id < 13) (id2 : id ≠ 2) (hlo : 19 < lo ∧ mm < lo) (hen : e ≤ n) (hn : n ≤ 40960) (hi : i + 8 ≤ p) (F : pr_F A h0 (rc h (Int32.ofNat p) 0 q)) (K9 : pm_kd h 19 = 9) (go : pm_I h 19 10 = -1 ∧ pm_I h 19 2 = Int32.ofNat n) (hpn : p < n) (AD : fX9_advance (rc h (Int32.ofNat p) 0 q) 19 = bx.bind fun v => fX9_advance_b138 v 19) (OP : cs_Q wH (dF b mm me sh) (fun v p' r => oNr n b mm me sh e lo last id p dd B (mk v) q p' r) bx o1) (hb : ∀ v p', o1 = .inr (v, p') → p' ≤ e ∧ p < p') : wSec A h0 n b mm me sh lo last p B q dd mk (s69 n mm i (rc h (Int32.ofNat p) 0 q)) (sp_b o1 fun v p' => if p' < e then .inl (3, p') else .inr (v, p')) := by
  have go' : 0 ≤ pm_I (rc h (Int32.ofNat p) 0 q) 19 10 ∨ pm_I (rc h (Int32.ofNat p) 0 q) 19 1 < pm_I (rc h (Int32.ofNat p) 0 q) 19 2 := .inr (by rw [rc_1, show pm_I (rc h (Int32.ofNat p) 0 q) 19 2 = Int32.ofNat n from go.2, nn_lt (by omega) (by omega)]; exact hpn)
  cases o1 with
  | inl z =>
    obtain ⟨hfl, D⟩ := OP
    rw [sp_bl]
    refine w_dead E F K9 rfl go' (by omega) (by omega) hfl ?_
    rw [AD]
    exact y_h D (fun h2 a2 T2 => cd_138 T2 (nz_fl hfl) a2)
  | inr z =>
    obtain ⟨v, p'⟩ := z
    obtain ⟨r, eb, h', er, o1, o2, o3, o4, o5, o6, o7, o8, o9⟩ := OP
    subst er
    obtain ⟨b1, b2⟩ := hb v p' rfl
    rw [sp_br]
    have BB := b138_0 (q := q) (p' := p') (c := 0) o2.1.1 o4 hid o7 o8 (by decide)
    rw [if_neg (Nat.lt_irrefl 0)] at BB
    have AD2 : fX9_advance (rc h (Int32.ofNat p) 0 q) 19 = (fX9_closeSection (rc h' (Int32.ofNat p') 0 q) 19).bind fun v => fX9_advance_b162 v := by
      rw [AD, eb]; exact BB
    exact w_close E F K9 rfl go' (by omega) hn hen b1 b2 AD2 (cs_close hid id2 o2 o3 o4 o6 o9 o1 hlo b1)
theorem sec_0 (E : eng A h0) (hp2 : p2 + sz ≤ n) (hp : p < 2147483648) (LC : lC h2 n b mm me n d false B) (T : dT h2 b mm me sh) (i12 : pm_I h2 19 12 = Int32.ofNat last) (i5 : pm_I h2 19 5 = on3 M.2.2.2.2.2.2.2.2.2.2.2.2.2) (CM : cMx h2 mm lo (pm_sz h2) 0 M) (hlo : 19 < lo ∧ me < lo ∧ sh < lo ∧ b < lo ∧ mm < lo) (hi : i + 8 ≤ p) (hpp : p < p2) (F : pr_F A h0 (rc h (Int32.ofNat p) 0 q)) (K9 : pm_kd h 19 = 9) (go : pm_I h 19 10 = -1 ∧ pm_I h 19 2 = Int32.ofNat n) (hpn : p < n) (AD : fX9_advance (rc h (Int32.ofNat p) 0 q) 19 = (fX9_openSection_b93 (rc h2 (Int32.ofNat p2) 0 q) 19 (Int32.ofNat p) (Int32.ofNat 0) (Int64.ofNat sz)).bind fun v => fX9_advance_b138 v 19) : wSec A h0 n b mm me sh lo last p B q d (fun (_ : Unit) => sec1 M 0 p) (s69 n mm i (rc h (Int32.ofNat p) 0 q)) (sp_b (sp_b (sp_name B (p2 + sz) p2) fun _ _ => (.inr ((), p2 + sz) : sp_O Unit)) fun v p' => if p' < p2 + sz then .inl (3, p') else .inr (v, p')) := by
  refine sec_n (id := 0) E (by decide) (by decide) ⟨hlo.1, hlo.2.2.2.2⟩ hp2 LC.1.2.2.2.2.2.2.1 hi F K9 go hpn AD (op_0 hp2 hp LC T i12 i5 CM hlo) (fun v p' e => ?_)
  obtain ⟨a, p1, e1, e2⟩ := b_inv e
  cases e2
  omega
theorem sec_8 (E : eng A h0) (hp2 : p2 + sz ≤ n) (hp : p < 2147483648) (LC : lC h2 n b mm me n d false B) (T : dT h2 b mm me sh) (i12 : pm_I h2 19 12 = Int32.ofNat last) (i5 : pm_I h2 19 5 = on3 M.2.2.2.2.2.2.2.2.2.2.2.2.2) (CM : cMx h2 mm lo (pm_sz h2) 0 M) (hlo : 19 < lo ∧ me < lo ∧ sh < lo ∧ b < lo ∧ mm < lo) (hi : i + 8 ≤ p) (hpp : p < p2) (F : pr_F A h0 (rc h (Int32.ofNat p) 0 q)) (K9 : pm_kd h 19 = 9) (go : pm_I h 19 10 = -1 ∧ pm_I h 19 2 = Int32.ofNat n) (hpn : p < n) (AD : fX9_advance (rc h (Int32.ofNat p) 0 q) 19 = (fX9_openSection_b93 (rc h2 (Int32.ofNat p2) 0 q) 19 (Int32.ofNat p) (Int32.ofNat 8) (Int64.ofNat sz)).bind fun v => fX9_advance_b138 v 19) : wSec A h0 n b mm me sh lo last p B q d (fun x => sec8 (sec1 M 8 p) x) (s69 n mm i (rc h (Int32.ofNat p) 0 q)) (sp_b (sp_num B (p2 + sz) p2) fun v p' => if p' < p2 + sz then .inl (3, p') else .inr (v, p')) := by
  refine sec_n (id := 8) E (by decide) (by decide) ⟨hlo.1, hlo.2.2.2.2⟩ hp2 LC.1.2.2.2.2.2.2.1 hi F K9 go hpn AD (op_8 hp2 hp LC T i12 i5 CM hlo) (fun v p' e => ?_)
  have := sp_num_b (by omega) e
  omega
theorem sec_12 (E : eng A h0) (hp2 : p2 + sz ≤ n) (hp : p < 2147483648) (LC : lC h2 n b mm me n d false B) (T : dT h2 b mm me sh) (i12 : pm_I h2 19 12 = Int32.ofNat last) (i5 : pm_I h2 19 5 = on3 M.2.2.2.2.2.2.2.2.2.2.2.2.2) (CM : cMx h2 mm lo (pm_sz h2) 0 M) (hlo : 19 < lo ∧ me < lo ∧ sh < lo ∧ b < lo ∧ mm < lo) (hi : i + 8 ≤ p) (hpp : p < p2) (F : pr_F A h0 (rc h (Int32.ofNat p) 0 q)) (K9 : pm_kd h 19 = 9) (go : pm_I h 19 10 = -1 ∧ pm_I h 19 2 = Int32.ofNat n) (hpn : p < n) (AD : fX9_advance (rc h (Int32.ofNat p) 0 q) 19 = (fX9_openSection_b93 (rc h2 (Int32.ofNat p2) 0 q) 19 (Int32.ofNat p) (Int32.ofNat 12) (Int64.ofNat sz)).bind fun v => fX9_advance_b138 v 19) : wSec A h0 n b mm me sh lo last p B q true (fun x => sec12 (sec1 M 12 p) x) (s69 n mm i (rc h (Int32.ofNat p) 0 q)) (sp_b (sp_num B (p2 + sz) p2) fun v p' => if p' < p2 + sz then .inl (3, p') else .inr (v, p')) := by
  have OP := op_12 (q := q) hp2 hp LC T i12 i5 CM hlo
  refine sec_n (id := 12) E (by decide) (by decide) ⟨hlo.1, hlo.2.2.2.2⟩ hp2 LC.1.2.2.2.2.2.2.1 hi F K9 go hpn AD ?_ (fun v p' e => ?_)
  · cases hnum : sp_num B (p2 + sz) p2 with
    | inl z => rw [hnum] at OP; exact OP
    | inr z =>
      rw [hnum] at OP
      obtain ⟨r, eb, -, h'⟩ := OP
      exact ⟨r, eb, h'⟩
  · have := sp_num_b (by omega) e
    omega
theorem sec_1 (E : eng A h0) (hp2 : p2 + sz ≤ n) (hp : p < 2147483648) (LC : lC h2 n b mm me n d false B) (T : dT h2 b mm me sh) (i12 : pm_I h2 19 12 = Int32.ofNat last) (i5 : pm_I h2 19 5 = on3 M.2.2.2.2.2.2.2.2.2.2.2.2.2) (CM : cMx h2 mm lo (pm_sz h2) 0 M) (hlo : 19 < lo ∧ me < lo ∧ sh < lo ∧ b < lo ∧ mm < lo) (shb : sh ≠ b) (hli : ∀ x, M.2.2.2.2.2.2.2.2.2.2.2.2.2 = some x → x < 2147483648) (hi : i + 8 ≤ p) (hpp : p < p2) (F : pr_F A h0 (rc h (Int32.ofNat p) 0 q)) (K9 : pm_kd h 19 = 9) (go : pm_I h 19 10 = -1 ∧ pm_I h 19 2 = Int32.ofNat n) (hpn : p < n) (AD : fX9_advance (rc h (Int32.ofNat p) 0 q) 19 = (fX9_openSection_b93 (rc h2 (Int32.ofNat p2) 0 q) 19 (Int32.ofNat p) (Int32.ofNat 1) (Int64.ofNat sz)).bind fun v => fX9_advance_b138 v 19) : wSec A h0 n b mm me sh lo last p B q d (mk1 M p) (s69 n mm i (rc h (Int32.ofNat p) 0 q)) (sp_b (sp_num B (p2 + sz) p2) fun c p3 => sp_b (sp_rows (sp_ty B (p2 + sz)) c p3) fun l p' => if p' < p2 + sz then .inl (3, p') else .inr (l, p')) := by
  have hn := LC.1.2.2.2.2.2.2.1
  have hB := LC.1.2.2.2.2.2.2.2.2.2
  have OP := op_1 (q := q) hp2 hp LC T i12 i5 CM hlo
  have go' : 0 ≤ pm_I (rc h (Int32.ofNat p) 0 q) 19 10 ∨ pm_I (rc h (Int32.ofNat p) 0 q) 19 1 < pm_I (rc h (Int32.ofNat p) 0 q) 19 2 := .inr (by rw [rc_1, show pm_I (rc h (Int32.ofNat p) 0 q) 19 2 = Int32.ofNat n from go.2, nn_lt (by omega) (by omega)]; exact hpn)
  have CL : ∀ h x l p' c, oT h n b mm me sh (p2 + sz) x l.length d B lo last p c (sec1 M 1 p) l (xv (on3 M.2.2.2.2.2.2.2.2.2.2.2.2.2) (Int32.ofNat p) (decide (64 < l.length))) → p' ≤ p2 + sz → cs_Q wH (dF b mm me sh) (fun (_ : Unit) p' r => ∃ h', r = rc h' (Int32.ofNat p') 0 q ∧ clS h' n b mm me sh lo last d B (mk1 M p l)) (fX9_closeSection (rc h (Int32.ofNat p') 0 q) 19) (if p' < p2 + sz then .inl (3, p') else .inr ((), p')) := by
    intro hx x l p' c O hpe
    obtain ⟨LC', T', r0, kd0, ln0, i15, n3, TY, CX, ⟨x1, x2⟩, i10', i11', i12', l14, l5⟩ := O
    have L5 : pm_I hx 19 5 = on3 (mk1 M p l).2.2.2.2.2.2.2.2.2.2.2.2.2 := by rw [l5]; exact li_x hli _
    obtain ⟨c1, c2, c3, c4, c5, c6, c7, c8, c9, c10, c11, c12, d1, d3, d4, d5, d6⟩ := cMx_up (by decide) (Nat.le_of_lt x2) CX
    refine cs_close (id := 1) (by decide) (by decide) LC' T' i10' i12' L5 ⟨fun _ => ⟨x, r0, x1, x2, kd0, ln0, n3, fun i v e => ?_⟩, fun _ => c2 (by decide), fun _ => c3 (by decide), fun _ => c4 (by decide), fun _ => c5 (by decide), fun _ => c6 (by decide), fun _ => c7 (by decide), fun _ => c8 (by decide), fun _ => c9 (by decide), fun _ => c10 (by decide), c11, c12, d1, d3, d4, d5, d6⟩ ⟨hlo.1, hlo.2.2.2.2⟩ hpe
    obtain ⟨t1, s, t2, t3, t4⟩ := TY i v e
    exact ⟨t1, s, t2, t3, t4⟩
  cases hnum : sp_num B (p2 + sz) p2 with
  | inl z =>
    rw [hnum] at OP
    obtain ⟨hfl, D⟩ := OP
    rw [sp_bl]
    refine w_dead E F K9 rfl go' (by omega) (by omega) hfl ?_
    rw [AD]
    exact y_h D (fun h2 a2 T2 => cd_138 T2 (nz_fl hfl) a2)
  | inr z =>
    obtain ⟨c, p3⟩ := z
    have cl : c < 4294967296 := sp_nu_v hB (by decide) (by decide) (by decide) hnum
    have pb := sp_num_b (show p2 ≤ p2 + sz by omega) hnum
    rw [hnum] at OP
    obtain ⟨r, eb, h', x, er, O⟩ := OP
    subst er
    rw [sp_br]
    have O' := O
    obtain ⟨LC', T', r0, kd0, ln0, i15, n3, TY, CX, ⟨x1, x2⟩, i10', i11', i12', l14, l5⟩ := O'
    have BB := b138_0 (q := q) (p' := p3) (c := c) LC'.1.1 i10' (by decide) i15 l14 cl
    by_cases c0 : 0 < c
    · rw [if_pos c0] at BB
      have AD2 : fX9_advance (rc h (Int32.ofNat p) 0 q) 19 = some (rc h' (Int32.ofNat p3) 0 q) := by
        rw [AD, eb]; exact BB
      obtain ⟨s1, F1⟩ := s69_go (mm := mm) (n := n) E F K9 rfl go' (show i < n by omega) (by omega) AD2
      have RUN := run_types (c := c) (p1 := p3) (kept := if p2 + sz - p3 < c then p2 + sz - p3 else c) (x := x) E hlo shb rfl cl hp2 hn c [] p3 (i + 1) h' (by rw [List.length_nil]; omega) c0 O pb.2 (by rw [List.length_nil]; omega) (by omega) F1
      cases hr : sp_rows (sp_ty B (p2 + sz)) c p3 with
      | inl z =>
        rw [hr] at RUN
        rw [sp_bl]
        obtain ⟨hfl, h9, a9, e9', T9, F9⟩ := RUN
        exact ⟨hfl, h9, a9, s1.trans e9', T9, F9⟩
      | inr z =>
        obtain ⟨l, p'⟩ := z
        rw [hr] at RUN
        rw [sp_br]
        obtain ⟨h9, Hl, i', t1, t2, t3, t4, t5, t6, t7, t8, t9, t10⟩ := RUN
        rw [List.nil_append] at t10
        have rl : l.length = c := rows_ln0 c p3 l p' hr
        have kc : (if p2 + sz - p3 < c then p2 + sz - p3 else c) = l.length := by rw [rl]; exact if_neg (by omega)
        rw [kc, ← rl] at t10
        rw [s1.trans t1]
        exact w_close E t5 t6 t7 (.inl t8) t2 hn hp2 t3 (by omega) t9 (CL h9 x l p' _ t10 t3)
    · have c00 : c = 0 := by omega
      subst c00
      rw [if_neg c0] at BB
      rw [sp_rows, sp_br]
      have AD2 : fX9_advance (rc h (Int32.ofNat p) 0 q) 19 = (fX9_closeSection (rc h' (Int32.ofNat p3) 0 q) 19).bind fun v => fX9_advance_b162 v := by
        rw [AD, eb]; exact BB
      have k0 : (if p2 + sz - p3 < 0 then p2 + sz - p3 else 0) = ([] : List tTy).length := by rw [List.length_nil]; exact if_neg (by omega)
      rw [k0] at O
      exact w_close E F K9 rfl go' (by omega) hn hp2 pb.2 (by omega) AD2 (CL h' x [] p3 0 O pb.2)
end SECN
